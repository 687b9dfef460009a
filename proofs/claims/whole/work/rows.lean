section
/-- a private method of a class that the tables say can be made, by its rows of tables_1 -/
def lw_okq (q : MethodName × Nat) : Prop := (q.1.cls ≠ "java/lang/invoke/MethodHandle" ∧ q.1.cls ≠ "java/lang/invoke/VarHandle") ∧ Cond.instantiable q.1.cls q.2 ∈ tables_1 ∧ Cond.privateMethod q.1 ∈ tables_1 ∧ Cond.instanceMethod q.1 ∈ tables_1
theorem lw_p0 : lw_okq (⟨"TestPicker", "refuse", "(I)I"⟩, 7) := ⟨⟨by decide +kernel, by decide +kernel⟩, List.mem_of_getElem? (i := 11) (by decide +kernel), List.mem_of_getElem? (i := 201) (by decide +kernel), List.mem_of_getElem? (i := 202) (by decide +kernel)⟩
theorem lw_p1 : lw_okq (⟨"TestPicker", "factOf", "(II)I"⟩, 7) := ⟨⟨by decide +kernel, by decide +kernel⟩, List.mem_of_getElem? (i := 11) (by decide +kernel), List.mem_of_getElem? (i := 249) (by decide +kernel), List.mem_of_getElem? (i := 250) (by decide +kernel)⟩
theorem lw_p2 : lw_okq (⟨"TestPicker", "isFlaky", "(I)Z"⟩, 7) := ⟨⟨by decide +kernel, by decide +kernel⟩, List.mem_of_getElem? (i := 11) (by decide +kernel), List.mem_of_getElem? (i := 262) (by decide +kernel), List.mem_of_getElem? (i := 263) (by decide +kernel)⟩
theorem lw_p3 : lw_okq (⟨"TestPicker", "worthiest", "(II)I"⟩, 7) := ⟨⟨by decide +kernel, by decide +kernel⟩, List.mem_of_getElem? (i := 11) (by decide +kernel), List.mem_of_getElem? (i := 352) (by decide +kernel), List.mem_of_getElem? (i := 353) (by decide +kernel)⟩
theorem lw_p4 : lw_okq (⟨"TestPicker", "takeChain", "(I)V"⟩, 7) := ⟨⟨by decide +kernel, by decide +kernel⟩, List.mem_of_getElem? (i := 11) (by decide +kernel), List.mem_of_getElem? (i := 370) (by decide +kernel), List.mem_of_getElem? (i := 371) (by decide +kernel)⟩
theorem lw_p5 : lw_okq (⟨"TestPicker", "witnesses", "()I"⟩, 7) := ⟨⟨by decide +kernel, by decide +kernel⟩, List.mem_of_getElem? (i := 11) (by decide +kernel), List.mem_of_getElem? (i := 447) (by decide +kernel), List.mem_of_getElem? (i := 448) (by decide +kernel)⟩
theorem lw_p6 : lw_okq (⟨"TestPicker", "buildsShown", "(I)J"⟩, 7) := ⟨⟨by decide +kernel, by decide +kernel⟩, List.mem_of_getElem? (i := 11) (by decide +kernel), List.mem_of_getElem? (i := 451) (by decide +kernel), List.mem_of_getElem? (i := 452) (by decide +kernel)⟩
theorem lw_p7 : lw_okq (⟨"TestPicker", "digestOfTest", "(JI)J"⟩, 7) := ⟨⟨by decide +kernel, by decide +kernel⟩, List.mem_of_getElem? (i := 11) (by decide +kernel), List.mem_of_getElem? (i := 494) (by decide +kernel), List.mem_of_getElem? (i := 495) (by decide +kernel)⟩
theorem lw_p8 : lw_okq (⟨"TestPickerModel", "isTest", "(I)Z"⟩, 19) := ⟨⟨by decide +kernel, by decide +kernel⟩, List.mem_of_getElem? (i := 499) (by decide +kernel), List.mem_of_getElem? (i := 570) (by decide +kernel), List.mem_of_getElem? (i := 571) (by decide +kernel)⟩
theorem lw_p9 : lw_okq (⟨"TestPickerModel", "meets", "(I)I"⟩, 19) := ⟨⟨by decide +kernel, by decide +kernel⟩, List.mem_of_getElem? (i := 499) (by decide +kernel), List.mem_of_getElem? (i := 578) (by decide +kernel), List.mem_of_getElem? (i := 579) (by decide +kernel)⟩
theorem lw_p10 : lw_okq (⟨"TestPickerModel", "tells", "(II)I"⟩, 19) := ⟨⟨by decide +kernel, by decide +kernel⟩, List.mem_of_getElem? (i := 499) (by decide +kernel), List.mem_of_getElem? (i := 607) (by decide +kernel), List.mem_of_getElem? (i := 608) (by decide +kernel)⟩
theorem lw_p11 : lw_okq (⟨"TestPickerModel", "timeOf", "(I)I"⟩, 19) := ⟨⟨by decide +kernel, by decide +kernel⟩, List.mem_of_getElem? (i := 499) (by decide +kernel), List.mem_of_getElem? (i := 611) (by decide +kernel), List.mem_of_getElem? (i := 612) (by decide +kernel)⟩
theorem lw_p12 : lw_okq (⟨"TestPickerModel", "heatOf", "(I)I"⟩, 19) := ⟨⟨by decide +kernel, by decide +kernel⟩, List.mem_of_getElem? (i := 499) (by decide +kernel), List.mem_of_getElem? (i := 615) (by decide +kernel), List.mem_of_getElem? (i := 616) (by decide +kernel)⟩
theorem lw_p13 : lw_okq (⟨"TestPickerModel", "isFlaky", "(I)Z"⟩, 19) := ⟨⟨by decide +kernel, by decide +kernel⟩, List.mem_of_getElem? (i := 499) (by decide +kernel), List.mem_of_getElem? (i := 619) (by decide +kernel), List.mem_of_getElem? (i := 620) (by decide +kernel)⟩
theorem lw_p14 : lw_okq (⟨"TestPickerModel", "reachOf", "(I)J"⟩, 19) := ⟨⟨by decide +kernel, by decide +kernel⟩, List.mem_of_getElem? (i := 499) (by decide +kernel), List.mem_of_getElem? (i := 623) (by decide +kernel), List.mem_of_getElem? (i := 624) (by decide +kernel)⟩
theorem lw_p15 : lw_okq (⟨"TestPickerModel", "isBroken", "(I)Z"⟩, 19) := ⟨⟨by decide +kernel, by decide +kernel⟩, List.mem_of_getElem? (i := 499) (by decide +kernel), List.mem_of_getElem? (i := 627) (by decide +kernel), List.mem_of_getElem? (i := 628) (by decide +kernel)⟩
def lw_privs_1 : List (MethodName × Nat) := [(⟨"TestPicker", "refuse", "(I)I"⟩, 7), (⟨"TestPicker", "factOf", "(II)I"⟩, 7), (⟨"TestPicker", "isFlaky", "(I)Z"⟩, 7), (⟨"TestPicker", "worthiest", "(II)I"⟩, 7), (⟨"TestPicker", "takeChain", "(I)V"⟩, 7), (⟨"TestPicker", "witnesses", "()I"⟩, 7), (⟨"TestPicker", "buildsShown", "(I)J"⟩, 7), (⟨"TestPicker", "digestOfTest", "(JI)J"⟩, 7), (⟨"TestPickerModel", "isTest", "(I)Z"⟩, 19), (⟨"TestPickerModel", "meets", "(I)I"⟩, 19), (⟨"TestPickerModel", "tells", "(II)I"⟩, 19), (⟨"TestPickerModel", "timeOf", "(I)I"⟩, 19), (⟨"TestPickerModel", "heatOf", "(I)I"⟩, 19), (⟨"TestPickerModel", "isFlaky", "(I)Z"⟩, 19), (⟨"TestPickerModel", "reachOf", "(I)J"⟩, 19), (⟨"TestPickerModel", "isBroken", "(I)Z"⟩, 19)]
theorem lw_r1 : ∀ q ∈ lw_privs_1, lw_okq q := List.forall_mem_cons.mpr ⟨lw_p0, List.forall_mem_cons.mpr ⟨lw_p1, List.forall_mem_cons.mpr ⟨lw_p2, List.forall_mem_cons.mpr ⟨lw_p3, List.forall_mem_cons.mpr ⟨lw_p4, List.forall_mem_cons.mpr ⟨lw_p5, List.forall_mem_cons.mpr ⟨lw_p6, List.forall_mem_cons.mpr ⟨lw_p7, List.forall_mem_cons.mpr ⟨lw_p8, List.forall_mem_cons.mpr ⟨lw_p9, List.forall_mem_cons.mpr ⟨lw_p10, List.forall_mem_cons.mpr ⟨lw_p11, List.forall_mem_cons.mpr ⟨lw_p12, List.forall_mem_cons.mpr ⟨lw_p13, List.forall_mem_cons.mpr ⟨lw_p14, List.forall_mem_cons.mpr ⟨lw_p15, fun _ h => absurd h List.not_mem_nil⟩⟩⟩⟩⟩⟩⟩⟩⟩⟩⟩⟩⟩⟩⟩⟩
theorem lw_p16 : lw_okq (⟨"TestPickerModel", "chainOf", "(I)I"⟩, 19) := ⟨⟨by decide +kernel, by decide +kernel⟩, List.mem_of_getElem? (i := 499) (by decide +kernel), List.mem_of_getElem? (i := 631) (by decide +kernel), List.mem_of_getElem? (i := 632) (by decide +kernel)⟩
theorem lw_p17 : lw_okq (⟨"TestPickerModel", "judge", "(IZ)I"⟩, 19) := ⟨⟨by decide +kernel, by decide +kernel⟩, List.mem_of_getElem? (i := 499) (by decide +kernel), List.mem_of_getElem? (i := 651) (by decide +kernel), List.mem_of_getElem? (i := 652) (by decide +kernel)⟩
theorem lw_p18 : lw_okq (⟨"TestPickerModel", "isBuild", "(I)Z"⟩, 19) := ⟨⟨by decide +kernel, by decide +kernel⟩, List.mem_of_getElem? (i := 499) (by decide +kernel), List.mem_of_getElem? (i := 659) (by decide +kernel), List.mem_of_getElem? (i := 660) (by decide +kernel)⟩
theorem lw_p19 : lw_okq (⟨"TestPickerModel", "reachOfSet", "(I)J"⟩, 19) := ⟨⟨by decide +kernel, by decide +kernel⟩, List.mem_of_getElem? (i := 499) (by decide +kernel), List.mem_of_getElem? (i := 675) (by decide +kernel), List.mem_of_getElem? (i := 676) (by decide +kernel)⟩
theorem lw_p20 : lw_okq (⟨"TestPickerModel", "mayBe", "(I)Z"⟩, 19) := ⟨⟨by decide +kernel, by decide +kernel⟩, List.mem_of_getElem? (i := 499) (by decide +kernel), List.mem_of_getElem? (i := 683) (by decide +kernel), List.mem_of_getElem? (i := 684) (by decide +kernel)⟩
theorem lw_p21 : lw_okq (⟨"TestPickerModel", "timeOfSet", "(I)I"⟩, 19) := ⟨⟨by decide +kernel, by decide +kernel⟩, List.mem_of_getElem? (i := 499) (by decide +kernel), List.mem_of_getElem? (i := 687) (by decide +kernel), List.mem_of_getElem? (i := 688) (by decide +kernel)⟩
theorem lw_p22 : lw_okq (⟨"TestPickerModel", "take", "(I)V"⟩, 19) := ⟨⟨by decide +kernel, by decide +kernel⟩, List.mem_of_getElem? (i := 499) (by decide +kernel), List.mem_of_getElem? (i := 691) (by decide +kernel), List.mem_of_getElem? (i := 692) (by decide +kernel)⟩
theorem lw_p23 : lw_okq (⟨"TestPickerModel", "setOf", "(II)I"⟩, 19) := ⟨⟨by decide +kernel, by decide +kernel⟩, List.mem_of_getElem? (i := 499) (by decide +kernel), List.mem_of_getElem? (i := 707) (by decide +kernel), List.mem_of_getElem? (i := 708) (by decide +kernel)⟩
theorem lw_p24 : lw_okq (⟨"TestPickerModel", "areTests", "(I)Z"⟩, 19) := ⟨⟨by decide +kernel, by decide +kernel⟩, List.mem_of_getElem? (i := 499) (by decide +kernel), List.mem_of_getElem? (i := 715) (by decide +kernel), List.mem_of_getElem? (i := 716) (by decide +kernel)⟩
theorem lw_p25 : lw_okq (⟨"TestPickerModel", "counting", "()I"⟩, 19) := ⟨⟨by decide +kernel, by decide +kernel⟩, List.mem_of_getElem? (i := 499) (by decide +kernel), List.mem_of_getElem? (i := 731) (by decide +kernel), List.mem_of_getElem? (i := 732) (by decide +kernel)⟩
theorem lw_p26 : lw_okq (⟨"TestPickerModel", "fellOf", "(II)I"⟩, 19) := ⟨⟨by decide +kernel, by decide +kernel⟩, List.mem_of_getElem? (i := 499) (by decide +kernel), List.mem_of_getElem? (i := 735) (by decide +kernel), List.mem_of_getElem? (i := 736) (by decide +kernel)⟩
def lw_privs_2 : List (MethodName × Nat) := [(⟨"TestPickerModel", "chainOf", "(I)I"⟩, 19), (⟨"TestPickerModel", "judge", "(IZ)I"⟩, 19), (⟨"TestPickerModel", "isBuild", "(I)Z"⟩, 19), (⟨"TestPickerModel", "reachOfSet", "(I)J"⟩, 19), (⟨"TestPickerModel", "mayBe", "(I)Z"⟩, 19), (⟨"TestPickerModel", "timeOfSet", "(I)I"⟩, 19), (⟨"TestPickerModel", "take", "(I)V"⟩, 19), (⟨"TestPickerModel", "setOf", "(II)I"⟩, 19), (⟨"TestPickerModel", "areTests", "(I)Z"⟩, 19), (⟨"TestPickerModel", "counting", "()I"⟩, 19), (⟨"TestPickerModel", "fellOf", "(II)I"⟩, 19)]
theorem lw_r2 : ∀ q ∈ lw_privs_2, lw_okq q := List.forall_mem_cons.mpr ⟨lw_p16, List.forall_mem_cons.mpr ⟨lw_p17, List.forall_mem_cons.mpr ⟨lw_p18, List.forall_mem_cons.mpr ⟨lw_p19, List.forall_mem_cons.mpr ⟨lw_p20, List.forall_mem_cons.mpr ⟨lw_p21, List.forall_mem_cons.mpr ⟨lw_p22, List.forall_mem_cons.mpr ⟨lw_p23, List.forall_mem_cons.mpr ⟨lw_p24, List.forall_mem_cons.mpr ⟨lw_p25, List.forall_mem_cons.mpr ⟨lw_p26, fun _ h => absurd h List.not_mem_nil⟩⟩⟩⟩⟩⟩⟩⟩⟩⟩⟩
def lw_privs : List (MethodName × Nat) := lw_privs_1 ++ (lw_privs_2)
def lw_tbl : List Cond := k2_sels lw_privs ++ tables_1
theorem lw_privs_ok : ∀ q ∈ lw_privs, lw_okq q := by
  show ∀ q ∈ lw_privs_1 ++ (lw_privs_2), lw_okq q
  exact List.forall_mem_append.mpr ⟨lw_r1, lw_r2⟩
theorem goodIn_r {big : List Cond} (ws : List Cond) (ps : List Nat) (hp : ws = ps.filterMap (fun i => big[i]?)) (h : ws.all goodWord = true) : GoodIn big ws := by
  intro w hw
  have h1 := List.all_eq_true.mp h w hw
  rw [hp] at hw
  obtain ⟨i, -, hi⟩ := List.mem_filterMap.mp hw
  have hm : w ∈ big := by first | exact List.mem_of_getElem? hi | exact List.getElem?_mem hi
  exact ⟨hm, good_of_word h1⟩
theorem goodIn_app {big a b : List Cond} (ha : GoodIn big a) (hb : GoodIn big b) : GoodIn big (a ++ b) := fun w h => (List.mem_append.mp h).elim (ha w) (hb w)
theorem goodIn_ca {big a b : List Cond} {c : Cond} (ha : GoodIn big (c :: a)) (hb : GoodIn big b) : GoodIn big (c :: (a ++ b)) := fun w h => (List.mem_cons.mp h).elim (fun e => ha w (List.mem_cons.mpr (Or.inl e))) (fun h => (List.mem_append.mp h).elim (fun h => ha w (List.mem_cons.mpr (Or.inr h))) (hb w))
theorem goodIn_sub {big ws : List Cond} (hm : ∀ w ∈ ws, w ∈ big) (h : ws.all goodWord = true) : GoodIn big ws := fun w hw => ⟨hm w hw, good_of_word (List.all_eq_true.mp h w hw)⟩

def RX0 : String := "TestPicker$History"
def TX0 : u_T := fun k => match k with
  | 0 => ("TestPicker$History", "changes", "[J", true)
  | 1 => ("TestPicker$History", "fellIn", "[J", true)
  | 2 => ("TestPicker$History", "passedIn", "[J", true)
  | _ => ("TestPicker$History", "size", "I", false)
def tyX0 : Nat → FieldType := fun k => match k with
  | 0 => .array .long
  | 1 => .array .long
  | 2 => .array .long
  | _ => .int
abbrev wsX00 : List Cond := u_ws RX0 TX0 4
theorem nmX0 : ∀ a, a < 4 → ∀ b, b < 4 → a ≠ b → (TX0 a).2.1 ≠ (TX0 b).2.1 := by decide +kernel
theorem tyX0_ok : ∀ k, k < 4 → parseFieldDescriptor (TX0 k).2.2.1 = some (tyX0 k) := by decide +kernel
abbrev cX0_init : ByteArray := prog_2_method_1_code
def yX0_init : MethodName := ⟨RX0, "<init>", "()V"⟩
abbrev cX0_has : ByteArray := prog_2_method_2_code
def yX0_has : MethodName := ⟨RX0, "has", "(I)Z"⟩
abbrev cX0_add : ByteArray := prog_2_method_3_code
def yX0_add : MethodName := ⟨RX0, "add", "(J)I"⟩
abbrev cX0_presentChange : ByteArray := prog_2_method_4_code
def yX0_presentChange : MethodName := ⟨RX0, "presentChange", "()J"⟩
abbrev cX0_verdictIn : ByteArray := prog_2_method_5_code
def yX0_verdictIn : MethodName := ⟨RX0, "verdictIn", "(II)I"⟩
abbrev cX0_judge : ByteArray := prog_2_method_6_code
def yX0_judge : MethodName := ⟨RX0, "judge", "(IZ)V"⟩
abbrev cX0_heat : ByteArray := prog_2_method_7_code
def yX0_heat : MethodName := ⟨RX0, "heat", "(I)I"⟩
abbrev cX0_wavers : ByteArray := prog_2_method_8_code
def yX0_wavers : MethodName := ⟨RX0, "wavers", "(IJ)Z"⟩
abbrev cX0_fellLast : ByteArray := prog_2_method_9_code
def yX0_fellLast : MethodName := ⟨RX0, "fellLast", "(I)Z"⟩
abbrev cX0_verdictsInAll : ByteArray := prog_2_method_10_code
def yX0_verdictsInAll : MethodName := ⟨RX0, "verdictsInAll", "()I"⟩
def RX1 : String := "TestPicker$Plan"
def TX1 : u_T := fun k => match k with
  | 0 => ("TestPicker$Plan", "row", "[I", true)
  | 1 => ("TestPicker$Plan", "size", "I", false)
  | 2 => ("TestPicker$Plan", "bits", "I", false)
  | 3 => ("TestPicker$Plan", "span", "I", false)
  | 4 => ("TestPicker$Plan", "seen", "J", false)
  | 5 => ("TestPicker$Plan", "change", "J", false)
  | _ => ("TestPicker$Plan", "there", "Z", false)
def tyX1 : Nat → FieldType := fun k => match k with
  | 0 => .array .int
  | 1 => .int
  | 2 => .int
  | 3 => .int
  | 4 => .long
  | 5 => .long
  | _ => .boolean
abbrev wsX10 : List Cond := u_ws RX1 TX1 7
theorem nmX1 : ∀ a, a < 7 → ∀ b, b < 7 → a ≠ b → (TX1 a).2.1 ≠ (TX1 b).2.1 := by decide +kernel
theorem tyX1_ok : ∀ k, k < 7 → parseFieldDescriptor (TX1 k).2.2.1 = some (tyX1 k) := by decide +kernel
abbrev cX1_init : ByteArray := prog_3_method_1_code
def yX1_init : MethodName := ⟨RX1, "<init>", "()V"⟩
abbrev cX1_drop : ByteArray := prog_3_method_2_code
def yX1_drop : MethodName := ⟨RX1, "drop", "()V"⟩
abbrev cX1_begin : ByteArray := prog_3_method_3_code
def yX1_begin : MethodName := ⟨RX1, "begin", "(J)V"⟩
abbrev cX1_take : ByteArray := prog_3_method_4_code
def yX1_take : MethodName := ⟨RX1, "take", "(IIJ)V"⟩
abbrev cX1_partsSeen : ByteArray := prog_3_method_5_code
def yX1_partsSeen : MethodName := ⟨RX1, "partsSeen", "()I"⟩
def RX2 : String := "TestPicker$Sets"
def TX2 : u_T := fun k => match k with
  | 0 => ("TestPicker$Sets", "testBits", "[I", true)
  | 1 => ("TestPicker$Sets", "chains", "[I", true)
  | 2 => ("TestPicker$Sets", "times", "[I", true)
  | 3 => ("TestPicker$Sets", "covers", "[J", true)
  | 4 => ("TestPicker$Sets", "size", "I", false)
  | 5 => ("TestPicker$Sets", "bitsFrom", "[I", true)
  | 6 => ("TestPicker$Sets", "chainsFrom", "[I", true)
  | 7 => ("TestPicker$Sets", "timeFrom", "[I", true)
  | 8 => ("TestPicker$Sets", "coverFrom", "[J", true)
  | 9 => ("TestPicker$Sets", "foundBits", "I", false)
  | 10 => ("TestPicker$Sets", "foundTime", "I", false)
  | _ => ("TestPicker$Sets", "foundCover", "J", false)
def tyX2 : Nat → FieldType := fun k => match k with
  | 0 => .array .int
  | 1 => .array .int
  | 2 => .array .int
  | 3 => .array .long
  | 4 => .int
  | 5 => .array .int
  | 6 => .array .int
  | 7 => .array .int
  | 8 => .array .long
  | 9 => .int
  | 10 => .int
  | _ => .long
abbrev wsX20 : List Cond := u_ws RX2 TX2 12
theorem nmX2 : ∀ a, a < 12 → ∀ b, b < 12 → a ≠ b → (TX2 a).2.1 ≠ (TX2 b).2.1 := by decide +kernel
theorem tyX2_ok : ∀ k, k < 12 → parseFieldDescriptor (TX2 k).2.2.1 = some (tyX2 k) := by decide +kernel
abbrev cX2_init : ByteArray := prog_4_method_1_code
def yX2_init : MethodName := ⟨RX2, "<init>", "()V"⟩
abbrev cX2_begin : ByteArray := prog_4_method_2_code
def yX2_begin : MethodName := ⟨RX2, "begin", "()V"⟩
abbrev cX2_add : ByteArray := prog_4_method_3_code
def yX2_add : MethodName := ⟨RX2, "add", "(IIIJ)V"⟩
abbrev cX2_sumUp : ByteArray := prog_4_method_4_code
def yX2_sumUp : MethodName := ⟨RX2, "sumUp", "(I)I"⟩
abbrev cX2_keep : ByteArray := prog_4_method_5_code
def yX2_keep : MethodName := ⟨RX2, "keep", "(I)V"⟩
abbrev cX2_seekWidest : ByteArray := prog_4_method_6_code
def yX2_seekWidest : MethodName := ⟨RX2, "seekWidest", "(I)V"⟩
abbrev cX2_isWider : ByteArray := prog_4_method_7_code
def yX2_isWider : MethodName := ⟨RX2, "isWider", "(I)Z"⟩
abbrev cX2_seekFewest : ByteArray := prog_4_method_8_code
def yX2_seekFewest : MethodName := ⟨RX2, "seekFewest", "(J)V"⟩
def RX3 : String := "TestPicker$Tests"
def TX3 : u_T := fun k => match k with
  | 0 => ("TestPicker$Tests", "kinds", "[I", true)
  | 1 => ("TestPicker$Tests", "ownTimes", "[I", true)
  | 2 => ("TestPicker$Tests", "needs", "[I", true)
  | 3 => ("TestPicker$Tests", "chains", "[I", true)
  | 4 => ("TestPicker$Tests", "parts", "[J", true)
  | 5 => ("TestPicker$Tests", "torn", "[Z", true)
  | _ => ("TestPicker$Tests", "size", "I", false)
def tyX3 : Nat → FieldType := fun k => match k with
  | 0 => .array .int
  | 1 => .array .int
  | 2 => .array .int
  | 3 => .array .int
  | 4 => .array .long
  | 5 => .array .boolean
  | _ => .int
abbrev wsX30 : List Cond := u_ws RX3 TX3 7
theorem nmX3 : ∀ a, a < 7 → ∀ b, b < 7 → a ≠ b → (TX3 a).2.1 ≠ (TX3 b).2.1 := by decide +kernel
theorem tyX3_ok : ∀ k, k < 7 → parseFieldDescriptor (TX3 k).2.2.1 = some (tyX3 k) := by decide +kernel
abbrev cX3_init : ByteArray := prog_5_method_1_code
def yX3_init : MethodName := ⟨RX3, "<init>", "()V"⟩
abbrev cX3_has : ByteArray := prog_5_method_2_code
def yX3_has : MethodName := ⟨RX3, "has", "(I)Z"⟩
abbrev cX3_hasAll : ByteArray := prog_5_method_3_code
def yX3_hasAll : MethodName := ⟨RX3, "hasAll", "(I)Z"⟩
abbrev cX3_add : ByteArray := prog_5_method_4_code
def yX3_add : MethodName := ⟨RX3, "add", "(III)I"⟩
abbrev cX3_countedTime : ByteArray := prog_5_method_5_code
def yX3_countedTime : MethodName := ⟨RX3, "countedTime", "(I)I"⟩
abbrev cX3_reachByte : ByteArray := prog_5_method_6_code
def yX3_reachByte : MethodName := ⟨RX3, "reachByte", "(II)I"⟩
abbrev cX3_setReachByte : ByteArray := prog_5_method_7_code
def yX3_setReachByte : MethodName := ⟨RX3, "setReachByte", "(III)V"⟩
abbrev cX3_copyBytes : ByteArray := prog_5_method_8_code
def yX3_copyBytes : MethodName := ⟨RX3, "copyBytes", "(IIIII)V"⟩
abbrev cX3_timeOf : ByteArray := prog_5_method_9_code
def yX3_timeOf : MethodName := ⟨RX3, "timeOf", "(I)I"⟩
abbrev cX3_partsOf : ByteArray := prog_5_method_10_code
def yX3_partsOf : MethodName := ⟨RX3, "partsOf", "(I)J"⟩
abbrev cX3_pickable : ByteArray := prog_5_method_11_code
def yX3_pickable : MethodName := ⟨RX3, "pickable", "()I"⟩
def RX4 : String := "TestPicker"
def TX4 : u_T := fun k => match k with
  | 0 => ("TestPicker", "tests", "LTestPicker$Tests;", true)
  | 1 => ("TestPicker", "history", "LTestPicker$History;", true)
  | 2 => ("TestPicker", "plan", "LTestPicker$Plan;", true)
  | 3 => ("TestPicker", "sets", "LTestPicker$Sets;", true)
  | 4 => ("TestPicker", "findingCounts", "[I", true)
  | 5 => ("TestPicker", "latestFinding", "I", false)
  | _ => ("TestPicker", "latestAnswer", "J", false)
def tyX4 : Nat → FieldType := fun k => match k with
  | 0 => .object "TestPicker$Tests"
  | 1 => .object "TestPicker$History"
  | 2 => .object "TestPicker$Plan"
  | 3 => .object "TestPicker$Sets"
  | 4 => .array .int
  | 5 => .int
  | _ => .long
abbrev wsX40 : List Cond := u_ws RX4 TX4 7
theorem nmX4 : ∀ a, a < 7 → ∀ b, b < 7 → a ≠ b → (TX4 a).2.1 ≠ (TX4 b).2.1 := by decide +kernel
theorem tyX4_ok : ∀ k, k < 7 → parseFieldDescriptor (TX4 k).2.2.1 = some (tyX4 k) := by decide +kernel
abbrev cX4_init : ByteArray := prog_1_method_1_code
def yX4_init : MethodName := ⟨RX4, "<init>", "()V"⟩
abbrev cX4_test : ByteArray := prog_1_method_2_code
def yX4_test : MethodName := ⟨RX4, "test", "(III)I"⟩
abbrev cX4_turn : ByteArray := prog_1_method_3_code
def yX4_turn : MethodName := ⟨RX4, "turn", "(II)I"⟩
abbrev cX4_reach : ByteArray := prog_1_method_4_code
def yX4_reach : MethodName := ⟨RX4, "reach", "(III)I"⟩
abbrev cX4_byteOf : ByteArray := prog_1_method_5_code
def yX4_byteOf : MethodName := ⟨RX4, "byteOf", "(II)I"⟩
abbrev cX4_tear : ByteArray := prog_1_method_6_code
def yX4_tear : MethodName := ⟨RX4, "tear", "(I)I"⟩
abbrev cX4_anew : ByteArray := prog_1_method_7_code
def yX4_anew : MethodName := ⟨RX4, "anew", "(I)I"⟩
abbrev cX4_copy : ByteArray := prog_1_method_8_code
def yX4_copy : MethodName := ⟨RX4, "copy", "(IIIII)I"⟩
abbrev cX4_told : ByteArray := prog_1_method_9_code
def yX4_told : MethodName := ⟨RX4, "told", "(II)I"⟩
abbrev cX4_time : ByteArray := prog_1_method_10_code
def yX4_time : MethodName := ⟨RX4, "time", "(II)I"⟩
abbrev cX4_build : ByteArray := prog_1_method_11_code
def yX4_build : MethodName := ⟨RX4, "build", "(J)I"⟩
abbrev cX4_verdict : ByteArray := prog_1_method_12_code
def yX4_verdict : MethodName := ⟨RX4, "verdict", "(IZ)I"⟩
abbrev cX4_was : ByteArray := prog_1_method_13_code
def yX4_was : MethodName := ⟨RX4, "was", "(II)I"⟩
abbrev cX4_change : ByteArray := prog_1_method_14_code
def yX4_change : MethodName := ⟨RX4, "change", "(I)I"⟩
abbrev cX4_often : ByteArray := prog_1_method_15_code
def yX4_often : MethodName := ⟨RX4, "often", "(II)I"⟩
abbrev cX4_pick : ByteArray := prog_1_method_16_code
def yX4_pick : MethodName := ⟨RX4, "pick", "(I)I"⟩
abbrev cX4_picked : ByteArray := prog_1_method_17_code
def yX4_picked : MethodName := ⟨RX4, "picked", "(I)I"⟩
abbrev cX4_about : ByteArray := prog_1_method_18_code
def yX4_about : MethodName := ⟨RX4, "about", "(I)I"⟩
abbrev cX4_best : ByteArray := prog_1_method_19_code
def yX4_best : MethodName := ⟨RX4, "best", "(I)I"⟩
abbrev cX4_run : ByteArray := prog_1_method_20_code
def yX4_run : MethodName := ⟨RX4, "run", "(I)I"⟩
abbrev cX4_suspects : ByteArray := prog_1_method_21_code
def yX4_suspects : MethodName := ⟨RX4, "suspects", "()I"⟩
abbrev cX4_badWork : ByteArray := prog_1_method_22_code
def yX4_badWork : MethodName := ⟨RX4, "badWork", "()I"⟩
abbrev cX4_fewest : ByteArray := prog_1_method_23_code
def yX4_fewest : MethodName := ⟨RX4, "fewest", "()I"⟩
abbrev cX4_missed : ByteArray := prog_1_method_24_code
def yX4_missed : MethodName := ⟨RX4, "missed", "(I)I"⟩
abbrev cX4_asked : ByteArray := prog_1_method_25_code
def yX4_asked : MethodName := ⟨RX4, "asked", "()J"⟩
abbrev cX4_count : ByteArray := prog_1_method_26_code
def yX4_count : MethodName := ⟨RX4, "count", "(I)I"⟩
abbrev cX4_finding : ByteArray := prog_1_method_27_code
def yX4_finding : MethodName := ⟨RX4, "finding", "()I"⟩
abbrev cX4_findings : ByteArray := prog_1_method_28_code
def yX4_findings : MethodName := ⟨RX4, "findings", "(I)I"⟩
abbrev cX4_digest : ByteArray := prog_1_method_29_code
def yX4_digest : MethodName := ⟨RX4, "digest", "()J"⟩
abbrev cX4_isKind : ByteArray := prog_1_method_30_code
def yX4_isKind : MethodName := ⟨RX4, "isKind", "(I)Z"⟩
abbrev cX4_isPlace : ByteArray := prog_1_method_31_code
def yX4_isPlace : MethodName := ⟨RX4, "isPlace", "(I)Z"⟩
abbrev cX4_isStretch : ByteArray := prog_1_method_32_code
def yX4_isStretch : MethodName := ⟨RX4, "isStretch", "(II)Z"⟩
abbrev cX4_isSpan : ByteArray := prog_1_method_33_code
def yX4_isSpan : MethodName := ⟨RX4, "isSpan", "(I)Z"⟩
abbrev cX4_isIn : ByteArray := prog_1_method_34_code
def yX4_isIn : MethodName := ⟨RX4, "isIn", "(II)Z"⟩
abbrev cX4_refuse : ByteArray := prog_1_method_35_code
def yX4_refuse : MethodName := ⟨RX4, "refuse", "(I)I"⟩
abbrev cX4_isFlaky : ByteArray := prog_1_method_36_code
def yX4_isFlaky : MethodName := ⟨RX4, "isFlaky", "(I)Z"⟩
abbrev cX4_factOf : ByteArray := prog_1_method_37_code
def yX4_factOf : MethodName := ⟨RX4, "factOf", "(II)I"⟩
abbrev cX4_digestOfTest : ByteArray := prog_1_method_38_code
def yX4_digestOfTest : MethodName := ⟨RX4, "digestOfTest", "(JI)J"⟩
abbrev cX4_worthiest : ByteArray := prog_1_method_39_code
def yX4_worthiest : MethodName := ⟨RX4, "worthiest", "(II)I"⟩
abbrev cX4_takeChain : ByteArray := prog_1_method_40_code
def yX4_takeChain : MethodName := ⟨RX4, "takeChain", "(I)V"⟩
abbrev cX4_witnesses : ByteArray := prog_1_method_41_code
def yX4_witnesses : MethodName := ⟨RX4, "witnesses", "()I"⟩
abbrev cX4_buildsShown : ByteArray := prog_1_method_42_code
def yX4_buildsShown : MethodName := ⟨RX4, "buildsShown", "(I)J"⟩
def RX5 : String := "TestPickerModel"
def TX5 : u_T := fun k => match k with
  | 0 => ("TestPickerModel", "finding", "I", false)
  | 1 => ("TestPickerModel", "findings", "[I", true)
  | 2 => ("TestPickerModel", "tests", "I", false)
  | 3 => ("TestPickerModel", "kinds", "[I", true)
  | 4 => ("TestPickerModel", "times", "[I", true)
  | 5 => ("TestPickerModel", "needs", "[I", true)
  | 6 => ("TestPickerModel", "missing", "[Z", true)
  | 7 => ("TestPickerModel", "bytes", "[I", true)
  | 8 => ("TestPickerModel", "builds", "I", false)
  | 9 => ("TestPickerModel", "changes", "[J", true)
  | 10 => ("TestPickerModel", "verdicts", "[I", true)
  | 11 => ("TestPickerModel", "asked", "J", false)
  | 12 => ("TestPickerModel", "moving", "[I", true)
  | 13 => ("TestPickerModel", "pickMany", "I", false)
  | 14 => ("TestPickerModel", "picks", "[I", true)
  | 15 => ("TestPickerModel", "pickTime", "I", false)
  | 16 => ("TestPickerModel", "pickParts", "I", false)
  | 17 => ("TestPickerModel", "pickSet", "I", false)
  | _ => ("TestPickerModel", "may", "[I", true)
def tyX5 : Nat → FieldType := fun k => match k with
  | 0 => .int
  | 1 => .array .int
  | 2 => .int
  | 3 => .array .int
  | 4 => .array .int
  | 5 => .array .int
  | 6 => .array .boolean
  | 7 => .array .int
  | 8 => .int
  | 9 => .array .long
  | 10 => .array .int
  | 11 => .long
  | 12 => .array .int
  | 13 => .int
  | 14 => .array .int
  | 15 => .int
  | 16 => .int
  | 17 => .int
  | _ => .array .int
abbrev wsX50 : List Cond := u_ws RX5 TX5 19
theorem nmX5 : ∀ a, a < 19 → ∀ b, b < 19 → a ≠ b → (TX5 a).2.1 ≠ (TX5 b).2.1 := by decide +kernel
theorem tyX5_ok : ∀ k, k < 19 → parseFieldDescriptor (TX5 k).2.2.1 = some (tyX5 k) := by decide +kernel
abbrev cX5_init : ByteArray := prog_7_method_1_code
def yX5_init : MethodName := ⟨RX5, "<init>", "()V"⟩
abbrev cX5_in : ByteArray := prog_7_method_3_code
def yX5_in : MethodName := ⟨RX5, "in", "(III)Z"⟩
abbrev cX5_meets : ByteArray := prog_7_method_4_code
def yX5_meets : MethodName := ⟨RX5, "meets", "(I)I"⟩
abbrev cX5_isTest : ByteArray := prog_7_method_5_code
def yX5_isTest : MethodName := ⟨RX5, "isTest", "(I)Z"⟩
abbrev cX5_isBuild : ByteArray := prog_7_method_6_code
def yX5_isBuild : MethodName := ⟨RX5, "isBuild", "(I)Z"⟩
abbrev cX5_test : ByteArray := prog_7_method_7_code
def yX5_test : MethodName := ⟨RX5, "test", "(III)I"⟩
abbrev cX5_turn : ByteArray := prog_7_method_8_code
def yX5_turn : MethodName := ⟨RX5, "turn", "(II)I"⟩
abbrev cX5_reach : ByteArray := prog_7_method_9_code
def yX5_reach : MethodName := ⟨RX5, "reach", "(III)I"⟩
abbrev cX5_byteOf : ByteArray := prog_7_method_10_code
def yX5_byteOf : MethodName := ⟨RX5, "byteOf", "(II)I"⟩
abbrev cX5_tear : ByteArray := prog_7_method_11_code
def yX5_tear : MethodName := ⟨RX5, "tear", "(I)I"⟩
abbrev cX5_anew : ByteArray := prog_7_method_12_code
def yX5_anew : MethodName := ⟨RX5, "anew", "(I)I"⟩
abbrev cX5_copy : ByteArray := prog_7_method_13_code
def yX5_copy : MethodName := ⟨RX5, "copy", "(IIIII)I"⟩
abbrev cX5_reachOf : ByteArray := prog_7_method_14_code
def yX5_reachOf : MethodName := ⟨RX5, "reachOf", "(I)J"⟩
abbrev cX5_timeOf : ByteArray := prog_7_method_15_code
def yX5_timeOf : MethodName := ⟨RX5, "timeOf", "(I)I"⟩
abbrev cX5_chainOf : ByteArray := prog_7_method_16_code
def yX5_chainOf : MethodName := ⟨RX5, "chainOf", "(I)I"⟩
abbrev cX5_bits : ByteArray := prog_7_method_17_code
def yX5_bits : MethodName := ⟨RX5, "bits", "(J)I"⟩
abbrev cX5_has : ByteArray := prog_7_method_18_code
def yX5_has : MethodName := ⟨RX5, "has", "(II)Z"⟩
abbrev cX5_heatOf : ByteArray := prog_7_method_19_code
def yX5_heatOf : MethodName := ⟨RX5, "heatOf", "(I)I"⟩
abbrev cX5_isFlaky : ByteArray := prog_7_method_20_code
def yX5_isFlaky : MethodName := ⟨RX5, "isFlaky", "(I)Z"⟩
abbrev cX5_isBroken : ByteArray := prog_7_method_21_code
def yX5_isBroken : MethodName := ⟨RX5, "isBroken", "(I)Z"⟩
abbrev cX5_tells : ByteArray := prog_7_method_22_code
def yX5_tells : MethodName := ⟨RX5, "tells", "(II)I"⟩
abbrev cX5_told : ByteArray := prog_7_method_23_code
def yX5_told : MethodName := ⟨RX5, "told", "(II)I"⟩
abbrev cX5_time : ByteArray := prog_7_method_24_code
def yX5_time : MethodName := ⟨RX5, "time", "(II)I"⟩
abbrev cX5_build : ByteArray := prog_7_method_25_code
def yX5_build : MethodName := ⟨RX5, "build", "(J)I"⟩
abbrev cX5_judge : ByteArray := prog_7_method_26_code
def yX5_judge : MethodName := ⟨RX5, "judge", "(IZ)I"⟩
abbrev cX5_verdict : ByteArray := prog_7_method_27_code
def yX5_verdict : MethodName := ⟨RX5, "verdict", "(IZ)I"⟩
abbrev cX5_was : ByteArray := prog_7_method_28_code
def yX5_was : MethodName := ⟨RX5, "was", "(II)I"⟩
abbrev cX5_change : ByteArray := prog_7_method_29_code
def yX5_change : MethodName := ⟨RX5, "change", "(I)I"⟩
abbrev cX5_often : ByteArray := prog_7_method_30_code
def yX5_often : MethodName := ⟨RX5, "often", "(II)I"⟩
abbrev cX5_mayBe : ByteArray := prog_7_method_31_code
def yX5_mayBe : MethodName := ⟨RX5, "mayBe", "(I)Z"⟩
abbrev cX5_reachOfSet : ByteArray := prog_7_method_32_code
def yX5_reachOfSet : MethodName := ⟨RX5, "reachOfSet", "(I)J"⟩
abbrev cX5_timeOfSet : ByteArray := prog_7_method_33_code
def yX5_timeOfSet : MethodName := ⟨RX5, "timeOfSet", "(I)I"⟩
abbrev cX5_pick : ByteArray := prog_7_method_34_code
def yX5_pick : MethodName := ⟨RX5, "pick", "(I)I"⟩
abbrev cX5_take : ByteArray := prog_7_method_35_code
def yX5_take : MethodName := ⟨RX5, "take", "(I)V"⟩
abbrev cX5_picked : ByteArray := prog_7_method_36_code
def yX5_picked : MethodName := ⟨RX5, "picked", "(I)I"⟩
abbrev cX5_about : ByteArray := prog_7_method_37_code
def yX5_about : MethodName := ⟨RX5, "about", "(I)I"⟩
abbrev cX5_setOf : ByteArray := prog_7_method_38_code
def yX5_setOf : MethodName := ⟨RX5, "setOf", "(II)I"⟩
abbrev cX5_best : ByteArray := prog_7_method_39_code
def yX5_best : MethodName := ⟨RX5, "best", "(I)I"⟩
abbrev cX5_areTests : ByteArray := prog_7_method_40_code
def yX5_areTests : MethodName := ⟨RX5, "areTests", "(I)Z"⟩
abbrev cX5_run : ByteArray := prog_7_method_41_code
def yX5_run : MethodName := ⟨RX5, "run", "(I)I"⟩
abbrev cX5_suspects : ByteArray := prog_7_method_42_code
def yX5_suspects : MethodName := ⟨RX5, "suspects", "()I"⟩
abbrev cX5_badWork : ByteArray := prog_7_method_43_code
def yX5_badWork : MethodName := ⟨RX5, "badWork", "()I"⟩
abbrev cX5_fellOf : ByteArray := prog_7_method_44_code
def yX5_fellOf : MethodName := ⟨RX5, "fellOf", "(II)I"⟩
abbrev cX5_counting : ByteArray := prog_7_method_45_code
def yX5_counting : MethodName := ⟨RX5, "counting", "()I"⟩
abbrev cX5_fewest : ByteArray := prog_7_method_46_code
def yX5_fewest : MethodName := ⟨RX5, "fewest", "()I"⟩
abbrev cX5_missed : ByteArray := prog_7_method_47_code
def yX5_missed : MethodName := ⟨RX5, "missed", "(I)I"⟩
abbrev cX5_asked : ByteArray := prog_7_method_48_code
def yX5_asked : MethodName := ⟨RX5, "asked", "()J"⟩
abbrev cX5_count : ByteArray := prog_7_method_49_code
def yX5_count : MethodName := ⟨RX5, "count", "(I)I"⟩
abbrev cX5_finding : ByteArray := prog_7_method_50_code
def yX5_finding : MethodName := ⟨RX5, "finding", "()I"⟩
abbrev cX5_findings : ByteArray := prog_7_method_51_code
def yX5_findings : MethodName := ⟨RX5, "findings", "(I)I"⟩
abbrev cX5_digest : ByteArray := prog_7_method_52_code
def yX5_digest : MethodName := ⟨RX5, "digest", "()J"⟩
def RJ6 : String := "java/lang/Integer"
def TJ6 : u_T := fun k => match k with
  | _ => ("", "", "", false)
def tyJ6 : Nat → FieldType := fun k => match k with
  | _ => .int
abbrev wsJ60 : List Cond := u_ws RJ6 TJ6 0
theorem nmJ6 : ∀ a, a < 0 → ∀ b, b < 0 → a ≠ b → (TJ6 a).2.1 ≠ (TJ6 b).2.1 := by decide +kernel
theorem tyJ6_ok : ∀ k, k < 0 → parseFieldDescriptor (TJ6 k).2.2.1 = some (tyJ6 k) := by decide +kernel
abbrev cJ6_numberOfTrailingZeros_0f7a4 : ByteArray := prog_8_method_48_code
def yJ6_numberOfTrailingZeros_0f7a4 : MethodName := ⟨RJ6, "numberOfTrailingZeros", "(I)I"⟩
abbrev cJ6_bitCount_0f7a4 : ByteArray := prog_8_method_49_code
def yJ6_bitCount_0f7a4 : MethodName := ⟨RJ6, "bitCount", "(I)I"⟩
def RJ13 : String := "java/lang/Long"
def TJ13 : u_T := fun k => match k with
  | _ => ("", "", "", false)
def tyJ13 : Nat → FieldType := fun k => match k with
  | _ => .int
abbrev wsJ130 : List Cond := u_ws RJ13 TJ13 0
theorem nmJ13 : ∀ a, a < 0 → ∀ b, b < 0 → a ≠ b → (TJ13 a).2.1 ≠ (TJ13 b).2.1 := by decide +kernel
theorem tyJ13_ok : ∀ k, k < 0 → parseFieldDescriptor (TJ13 k).2.2.1 = some (tyJ13 k) := by decide +kernel
abbrev cJ13_numberOfTrailingZeros_95d88 : ByteArray := prog_9_method_49_code
def yJ13_numberOfTrailingZeros_95d88 : MethodName := ⟨RJ13, "numberOfTrailingZeros", "(J)I"⟩
abbrev cJ13_bitCount_95d88 : ByteArray := prog_9_method_50_code
def yJ13_bitCount_95d88 : MethodName := ⟨RJ13, "bitCount", "(J)I"⟩
def RJ9 : String := "java/lang/Math"
def TJ9 : u_T := fun k => match k with
  | _ => ("", "", "", false)
def tyJ9 : Nat → FieldType := fun k => match k with
  | _ => .int
abbrev wsJ90 : List Cond := u_ws RJ9 TJ9 0
theorem nmJ9 : ∀ a, a < 0 → ∀ b, b < 0 → a ≠ b → (TJ9 a).2.1 ≠ (TJ9 b).2.1 := by decide +kernel
theorem tyJ9_ok : ∀ k, k < 0 → parseFieldDescriptor (TJ9 k).2.2.1 = some (tyJ9 k) := by decide +kernel
abbrev cJ9_min_7cf53 : ByteArray := prog_10_method_69_code
def yJ9_min_7cf53 : MethodName := ⟨RJ9, "min", "(II)I"⟩
def RL : String := "TestPickerLaw"
abbrev cL_law : ByteArray := code
def yL_law : MethodName := ⟨RL, "law", "([I)Z"⟩
def wsX0_init : List Cond := .code yX0_init cX0_init 1 none :: ([.methodLink RX0 3 objectInit, .instanceMethod objectInit, .code objectInit ⟨#[0xb1]⟩ 1 none, .arrayClass .long, .fieldLink RX0 9 "TestPicker$History" "changes" "[J", .fieldLink RX0 15 "TestPicker$History" "fellIn" "[J", .fieldLink RX0 18 "TestPicker$History" "passedIn" "[J", .fieldLink RX0 21 "TestPicker$History" "size" "I"] ++ wsX00)
def wsX0_has : List Cond := .code yX0_has cX0_has 2 (some .boolean) :: ([.fieldLink RX0 21 "TestPicker$History" "size" "I"] ++ wsX00)
def wsX0_add : List Cond := .code yX0_add cX0_add 3 (some .int) :: ([.fieldLink RX0 9 "TestPicker$History" "changes" "[J", .fieldLink RX0 21 "TestPicker$History" "size" "I"] ++ wsX00)
def wsX0_presentChange : List Cond := .code yX0_presentChange cX0_presentChange 1 (some .long) :: ([.fieldLink RX0 21 "TestPicker$History" "size" "I", .fieldLink RX0 9 "TestPicker$History" "changes" "[J"] ++ wsX00)
def wsX0_verdictIn : List Cond := .code yX0_verdictIn cX0_verdictIn 3 (some .int) :: ([.fieldLink RX0 15 "TestPicker$History" "fellIn" "[J", .fieldLink RX0 18 "TestPicker$History" "passedIn" "[J"] ++ wsX00)
def wsX0_judge : List Cond := .code yX0_judge cX0_judge 5 none :: ([.fieldLink RX0 21 "TestPicker$History" "size" "I", .fieldLink RX0 15 "TestPicker$History" "fellIn" "[J", .constantLong RX0 25 (-1), .fieldLink RX0 18 "TestPicker$History" "passedIn" "[J"] ++ wsX00)
def wsX0_heat : List Cond := .code yX0_heat cX0_heat 5 (some .int) :: ([.fieldLink RX0 21 "TestPicker$History" "size" "I", .fieldLink RX0 15 "TestPicker$History" "fellIn" "[J", .constantLong RX0 27 (255)] ++ wsX00)
def wsX0_wavers : List Cond := .code yX0_wavers cX0_wavers 9 (some .boolean) :: ([.fieldLink RX0 21 "TestPicker$History" "size" "I", .fieldLink RX0 9 "TestPicker$History" "changes" "[J", .methodLink RX0 29 yX0_verdictIn, .instanceMethod yX0_verdictIn, .selects RX0 yX0_verdictIn yX0_verdictIn, .initialized RX0, .code yX0_verdictIn cX0_verdictIn 3 (some .int), .fieldLink RX0 15 "TestPicker$History" "fellIn" "[J", .fieldLink RX0 18 "TestPicker$History" "passedIn" "[J"] ++ wsX00)
def wsX0_fellLast : List Cond := .code yX0_fellLast cX0_fellLast 2 (some .boolean) :: ([.fieldLink RX0 15 "TestPicker$History" "fellIn" "[J", .fieldLink RX0 18 "TestPicker$History" "passedIn" "[J"] ++ wsX00)
def wsJ13_bitCount_95d88 : List Cond := .code yJ13_bitCount_95d88 cJ13_bitCount_95d88 2 (some .int) :: ([.constantLong RJ13 314 (6148914691236517205), .constantLong RJ13 316 (3689348814741910323), .constantLong RJ13 318 (1085102592571150095)])
def wsX0_verdictsInAll : List Cond := .code yX0_verdictsInAll cX0_verdictsInAll 3 (some .int) :: ([.fieldLink RX0 15 "TestPicker$History" "fellIn" "[J", .fieldLink RX0 18 "TestPicker$History" "passedIn" "[J", .methodLink RX0 33 yJ13_bitCount_95d88, .static yJ13_bitCount_95d88, .initialized RJ13, .code yJ13_bitCount_95d88 cJ13_bitCount_95d88 2 (some .int), .constantLong RJ13 314 (6148914691236517205), .constantLong RJ13 316 (3689348814741910323), .constantLong RJ13 318 (1085102592571150095)] ++ wsX00)
def wsX1_init : List Cond := .code yX1_init cX1_init 1 none :: ([.methodLink RX1 3 objectInit, .instanceMethod objectInit, .code objectInit ⟨#[0xb1]⟩ 1 none, .arrayClass .int, .fieldLink RX1 9 "TestPicker$Plan" "row" "[I", .fieldLink RX1 15 "TestPicker$Plan" "size" "I", .fieldLink RX1 19 "TestPicker$Plan" "bits" "I", .fieldLink RX1 22 "TestPicker$Plan" "span" "I", .fieldLink RX1 25 "TestPicker$Plan" "seen" "J", .fieldLink RX1 29 "TestPicker$Plan" "change" "J", .fieldLink RX1 32 "TestPicker$Plan" "there" "Z"] ++ wsX10)
def wsX1_drop : List Cond := .code yX1_drop cX1_drop 1 none :: ([.fieldLink RX1 32 "TestPicker$Plan" "there" "Z", .fieldLink RX1 15 "TestPicker$Plan" "size" "I", .fieldLink RX1 19 "TestPicker$Plan" "bits" "I", .fieldLink RX1 22 "TestPicker$Plan" "span" "I", .fieldLink RX1 25 "TestPicker$Plan" "seen" "J", .fieldLink RX1 29 "TestPicker$Plan" "change" "J"] ++ wsX10)
def wsX1_begin : List Cond := .code yX1_begin cX1_begin 3 none :: ([.fieldLink RX1 32 "TestPicker$Plan" "there" "Z", .fieldLink RX1 29 "TestPicker$Plan" "change" "J", .methodLink RX1 36 yX1_drop, .instanceMethod yX1_drop, .selects RX1 yX1_drop yX1_drop, .initialized RX1, .code yX1_drop cX1_drop 1 none, .fieldLink RX1 15 "TestPicker$Plan" "size" "I", .fieldLink RX1 19 "TestPicker$Plan" "bits" "I", .fieldLink RX1 22 "TestPicker$Plan" "span" "I", .fieldLink RX1 25 "TestPicker$Plan" "seen" "J"] ++ wsX10)
def wsX1_take : List Cond := .code yX1_take cX1_take 5 none :: ([.fieldLink RX1 15 "TestPicker$Plan" "size" "I", .fieldLink RX1 9 "TestPicker$Plan" "row" "[I", .fieldLink RX1 19 "TestPicker$Plan" "bits" "I", .fieldLink RX1 22 "TestPicker$Plan" "span" "I", .fieldLink RX1 25 "TestPicker$Plan" "seen" "J"] ++ wsX10)
def wsX1_partsSeen : List Cond := .code yX1_partsSeen cX1_partsSeen 1 (some .int) :: ([.fieldLink RX1 25 "TestPicker$Plan" "seen" "J", .fieldLink RX1 29 "TestPicker$Plan" "change" "J", .methodLink RX1 39 yJ13_bitCount_95d88, .static yJ13_bitCount_95d88, .initialized RJ13, .code yJ13_bitCount_95d88 cJ13_bitCount_95d88 2 (some .int), .constantLong RJ13 314 (6148914691236517205), .constantLong RJ13 316 (3689348814741910323), .constantLong RJ13 318 (1085102592571150095)] ++ wsX10)
def wsX2_init : List Cond := .code yX2_init cX2_init 1 none :: ([.methodLink RX2 3 objectInit, .instanceMethod objectInit, .code objectInit ⟨#[0xb1]⟩ 1 none, .arrayClass .int, .fieldLink RX2 9 "TestPicker$Sets" "testBits" "[I", .fieldLink RX2 15 "TestPicker$Sets" "chains" "[I", .fieldLink RX2 18 "TestPicker$Sets" "times" "[I", .arrayClass .long, .fieldLink RX2 21 "TestPicker$Sets" "covers" "[J", .fieldLink RX2 25 "TestPicker$Sets" "size" "I", .fieldLink RX2 29 "TestPicker$Sets" "bitsFrom" "[I", .fieldLink RX2 32 "TestPicker$Sets" "chainsFrom" "[I", .fieldLink RX2 35 "TestPicker$Sets" "timeFrom" "[I", .fieldLink RX2 38 "TestPicker$Sets" "coverFrom" "[J", .fieldLink RX2 41 "TestPicker$Sets" "foundBits" "I", .fieldLink RX2 44 "TestPicker$Sets" "foundTime" "I", .fieldLink RX2 47 "TestPicker$Sets" "foundCover" "J"] ++ wsX20)
def wsX2_begin : List Cond := .code yX2_begin cX2_begin 1 none :: ([.fieldLink RX2 25 "TestPicker$Sets" "size" "I", .fieldLink RX2 41 "TestPicker$Sets" "foundBits" "I", .fieldLink RX2 44 "TestPicker$Sets" "foundTime" "I", .fieldLink RX2 47 "TestPicker$Sets" "foundCover" "J"] ++ wsX20)
def wsX2_add : List Cond := .code yX2_add cX2_add 6 none :: ([.fieldLink RX2 25 "TestPicker$Sets" "size" "I", .fieldLink RX2 9 "TestPicker$Sets" "testBits" "[I", .fieldLink RX2 15 "TestPicker$Sets" "chains" "[I", .fieldLink RX2 18 "TestPicker$Sets" "times" "[I", .fieldLink RX2 21 "TestPicker$Sets" "covers" "[J"] ++ wsX20)
def wsJ6_numberOfTrailingZeros_0f7a4 : List Cond := .code yJ6_numberOfTrailingZeros_0f7a4 cJ6_numberOfTrailingZeros_0f7a4 2 (some .int) :: ([.constant RJ6 264 (65536)])
def wsX2_sumUp : List Cond := .code yX2_sumUp cX2_sumUp 4 (some .int) :: ([.methodLink RX2 57 Lib.Math.min.name, .static Lib.Math.min.name, .initialized "java/lang/Math", .code Lib.Math.min.name Lib.Math.min.code 2 (some .int), .fieldLink RX2 29 "TestPicker$Sets" "bitsFrom" "[I", .fieldLink RX2 9 "TestPicker$Sets" "testBits" "[I", .fieldLink RX2 32 "TestPicker$Sets" "chainsFrom" "[I", .fieldLink RX2 15 "TestPicker$Sets" "chains" "[I", .fieldLink RX2 35 "TestPicker$Sets" "timeFrom" "[I", .fieldLink RX2 18 "TestPicker$Sets" "times" "[I", .fieldLink RX2 38 "TestPicker$Sets" "coverFrom" "[J", .fieldLink RX2 21 "TestPicker$Sets" "covers" "[J", .methodLink RX2 51 yJ6_numberOfTrailingZeros_0f7a4, .static yJ6_numberOfTrailingZeros_0f7a4, .initialized RJ6, .code yJ6_numberOfTrailingZeros_0f7a4 cJ6_numberOfTrailingZeros_0f7a4 2 (some .int), .constant RJ6 264 (65536)] ++ wsX20)
def wsX2_keep : List Cond := .code yX2_keep cX2_keep 2 none :: ([.fieldLink RX2 29 "TestPicker$Sets" "bitsFrom" "[I", .fieldLink RX2 41 "TestPicker$Sets" "foundBits" "I", .fieldLink RX2 35 "TestPicker$Sets" "timeFrom" "[I", .fieldLink RX2 44 "TestPicker$Sets" "foundTime" "I", .fieldLink RX2 38 "TestPicker$Sets" "coverFrom" "[J", .fieldLink RX2 47 "TestPicker$Sets" "foundCover" "J"] ++ wsX20)
def wsX2_isWider : List Cond := .code yX2_isWider cX2_isWider 3 (some .boolean) :: ([.fieldLink RX2 38 "TestPicker$Sets" "coverFrom" "[J", .fieldLink RX2 47 "TestPicker$Sets" "foundCover" "J", .fieldLink RX2 35 "TestPicker$Sets" "timeFrom" "[I", .fieldLink RX2 44 "TestPicker$Sets" "foundTime" "I", .methodLink RX2 74 yJ13_bitCount_95d88, .static yJ13_bitCount_95d88, .initialized RJ13, .code yJ13_bitCount_95d88 cJ13_bitCount_95d88 2 (some .int), .constantLong RJ13 314 (6148914691236517205), .constantLong RJ13 316 (3689348814741910323), .constantLong RJ13 318 (1085102592571150095)] ++ wsX20)
def wsX2_seekWidest_r1 : List Cond := [Cond.fieldLink RX2 25 "TestPicker$Sets" "size" "I", Cond.fieldLink RX2 35 "TestPicker$Sets" "timeFrom" "[I", Cond.fieldLink RX2 32 "TestPicker$Sets" "chainsFrom" "[I", Cond.fieldLink RX2 29 "TestPicker$Sets" "bitsFrom" "[I", Cond.methodLink RX2 63 yX2_sumUp, Cond.instanceMethod yX2_sumUp, Cond.selects RX2 yX2_sumUp yX2_sumUp, Cond.initialized RX2, Cond.code yX2_sumUp cX2_sumUp 4 (some .int), Cond.methodLink RX2 57 Lib.Math.min.name, Cond.static Lib.Math.min.name, Cond.initialized "java/lang/Math", Cond.code Lib.Math.min.name Lib.Math.min.code 2 (some .int), Cond.fieldLink RX2 9 "TestPicker$Sets" "testBits" "[I", Cond.fieldLink RX2 15 "TestPicker$Sets" "chains" "[I", Cond.fieldLink RX2 18 "TestPicker$Sets" "times" "[I", Cond.fieldLink RX2 38 "TestPicker$Sets" "coverFrom" "[J", Cond.fieldLink RX2 21 "TestPicker$Sets" "covers" "[J", Cond.methodLink RX2 51 yJ6_numberOfTrailingZeros_0f7a4, Cond.static yJ6_numberOfTrailingZeros_0f7a4, Cond.initialized RJ6, Cond.code yJ6_numberOfTrailingZeros_0f7a4 cJ6_numberOfTrailingZeros_0f7a4 2 (some .int), Cond.constant RJ6 264 (65536), Cond.methodLink RX2 66 yX2_isWider]
def wsX2_seekWidest_r2 : List Cond := [Cond.instanceMethod yX2_isWider, Cond.selects RX2 yX2_isWider yX2_isWider, Cond.code yX2_isWider cX2_isWider 3 (some .boolean), Cond.fieldLink RX2 47 "TestPicker$Sets" "foundCover" "J", Cond.fieldLink RX2 44 "TestPicker$Sets" "foundTime" "I", Cond.methodLink RX2 74 yJ13_bitCount_95d88, Cond.static yJ13_bitCount_95d88, Cond.initialized RJ13, Cond.code yJ13_bitCount_95d88 cJ13_bitCount_95d88 2 (some .int), Cond.constantLong RJ13 314 (6148914691236517205), Cond.constantLong RJ13 316 (3689348814741910323), Cond.constantLong RJ13 318 (1085102592571150095), Cond.methodLink RX2 70 yX2_keep, Cond.instanceMethod yX2_keep, Cond.selects RX2 yX2_keep yX2_keep, Cond.code yX2_keep cX2_keep 2 none, Cond.fieldLink RX2 41 "TestPicker$Sets" "foundBits" "I"]
def wsX2_seekWidest : List Cond := .code yX2_seekWidest cX2_seekWidest 5 none :: ((wsX2_seekWidest_r1 ++ wsX2_seekWidest_r2) ++ wsX20)
def wsJ6_bitCount_0f7a4 : List Cond := .code yJ6_bitCount_0f7a4 cJ6_bitCount_0f7a4 1 (some .int) :: ([.constant RJ6 265 (1431655765), .constant RJ6 266 (858993459), .constant RJ6 267 (252645135)])
def wsX2_seekFewest_r1 : List Cond := [Cond.fieldLink RX2 25 "TestPicker$Sets" "size" "I", Cond.fieldLink RX2 38 "TestPicker$Sets" "coverFrom" "[J", Cond.fieldLink RX2 35 "TestPicker$Sets" "timeFrom" "[I", Cond.fieldLink RX2 44 "TestPicker$Sets" "foundTime" "I", Cond.methodLink RX2 63 yX2_sumUp, Cond.instanceMethod yX2_sumUp, Cond.selects RX2 yX2_sumUp yX2_sumUp, Cond.initialized RX2, Cond.code yX2_sumUp cX2_sumUp 4 (some .int), Cond.methodLink RX2 57 Lib.Math.min.name, Cond.static Lib.Math.min.name, Cond.initialized "java/lang/Math", Cond.code Lib.Math.min.name Lib.Math.min.code 2 (some .int), Cond.fieldLink RX2 29 "TestPicker$Sets" "bitsFrom" "[I", Cond.fieldLink RX2 9 "TestPicker$Sets" "testBits" "[I", Cond.fieldLink RX2 32 "TestPicker$Sets" "chainsFrom" "[I", Cond.fieldLink RX2 15 "TestPicker$Sets" "chains" "[I", Cond.fieldLink RX2 18 "TestPicker$Sets" "times" "[I", Cond.fieldLink RX2 21 "TestPicker$Sets" "covers" "[J", Cond.methodLink RX2 51 yJ6_numberOfTrailingZeros_0f7a4, Cond.static yJ6_numberOfTrailingZeros_0f7a4, Cond.initialized RJ6, Cond.code yJ6_numberOfTrailingZeros_0f7a4 cJ6_numberOfTrailingZeros_0f7a4 2 (some .int), Cond.constant RJ6 264 (65536)]
def wsX2_seekFewest_r2 : List Cond := [Cond.methodLink RX2 80 yJ6_bitCount_0f7a4, Cond.static yJ6_bitCount_0f7a4, Cond.code yJ6_bitCount_0f7a4 cJ6_bitCount_0f7a4 1 (some .int), Cond.constant RJ6 265 (1431655765), Cond.constant RJ6 266 (858993459), Cond.constant RJ6 267 (252645135), Cond.methodLink RX2 70 yX2_keep, Cond.instanceMethod yX2_keep, Cond.selects RX2 yX2_keep yX2_keep, Cond.code yX2_keep cX2_keep 2 none, Cond.fieldLink RX2 41 "TestPicker$Sets" "foundBits" "I", Cond.fieldLink RX2 47 "TestPicker$Sets" "foundCover" "J"]
def wsX2_seekFewest : List Cond := .code yX2_seekFewest cX2_seekFewest 10 none :: ((wsX2_seekFewest_r1 ++ wsX2_seekFewest_r2) ++ wsX20)
def wsX3_init : List Cond := .code yX3_init cX3_init 1 none :: ([.methodLink RX3 3 objectInit, .instanceMethod objectInit, .code objectInit ⟨#[0xb1]⟩ 1 none, .arrayClass .int, .fieldLink RX3 9 "TestPicker$Tests" "kinds" "[I", .fieldLink RX3 15 "TestPicker$Tests" "ownTimes" "[I", .fieldLink RX3 18 "TestPicker$Tests" "needs" "[I", .fieldLink RX3 21 "TestPicker$Tests" "chains" "[I", .arrayClass .long, .fieldLink RX3 24 "TestPicker$Tests" "parts" "[J", .arrayClass .boolean, .fieldLink RX3 28 "TestPicker$Tests" "torn" "[Z", .fieldLink RX3 32 "TestPicker$Tests" "size" "I"] ++ wsX30)
def wsX3_has : List Cond := .code yX3_has cX3_has 2 (some .boolean) :: ([.fieldLink RX3 32 "TestPicker$Tests" "size" "I"] ++ wsX30)
def wsX3_hasAll : List Cond := .code yX3_hasAll cX3_hasAll 2 (some .boolean) :: ([.fieldLink RX3 32 "TestPicker$Tests" "size" "I"] ++ wsX30)
def wsX3_add : List Cond := .code yX3_add cX3_add 5 (some .int) :: ([.fieldLink RX3 9 "TestPicker$Tests" "kinds" "[I", .fieldLink RX3 32 "TestPicker$Tests" "size" "I", .fieldLink RX3 15 "TestPicker$Tests" "ownTimes" "[I", .fieldLink RX3 18 "TestPicker$Tests" "needs" "[I", .fieldLink RX3 21 "TestPicker$Tests" "chains" "[I"] ++ wsX30)
def wsX3_countedTime : List Cond := .code yX3_countedTime cX3_countedTime 2 (some .int) :: ([.fieldLink RX3 9 "TestPicker$Tests" "kinds" "[I", .fieldLink RX3 15 "TestPicker$Tests" "ownTimes" "[I"] ++ wsX30)
def wsX3_reachByte : List Cond := .code yX3_reachByte cX3_reachByte 3 (some .int) :: ([.fieldLink RX3 24 "TestPicker$Tests" "parts" "[J", .constantLong RX3 36 (255)] ++ wsX30)
def wsX3_setReachByte : List Cond := .code yX3_setReachByte cX3_setReachByte 4 none :: ([.fieldLink RX3 24 "TestPicker$Tests" "parts" "[J", .constantLong RX3 36 (255), .constantLong RX3 38 (-1)] ++ wsX30)
def wsX3_copyBytes : List Cond := .code yX3_copyBytes cX3_copyBytes 10 none :: ([.fieldLink RX3 24 "TestPicker$Tests" "parts" "[J", .constantLong RX3 38 (-1)] ++ wsX30)
def wsX4_isIn : List Cond := .code yX4_isIn cX4_isIn 2 (some .boolean) :: ([])
def wsX3_timeOf : List Cond := .code yX3_timeOf cX3_timeOf 4 (some .int) :: ([.fieldLink RX3 32 "TestPicker$Tests" "size" "I", .static yX4_isIn, .initialized RX4, .code yX4_isIn cX4_isIn 2 (some .boolean), .methodLink RX3 44 yX3_countedTime, .instanceMethod yX3_countedTime, .selects RX3 yX3_countedTime yX3_countedTime, .initialized RX3, .code yX3_countedTime cX3_countedTime 2 (some .int), .fieldLink RX3 9 "TestPicker$Tests" "kinds" "[I", .fieldLink RX3 15 "TestPicker$Tests" "ownTimes" "[I"] ++ wsX30)
def wsX3_partsOf : List Cond := .code yX3_partsOf cX3_partsOf 5 (some .long) :: ([.fieldLink RX3 32 "TestPicker$Tests" "size" "I", .fieldLink RX3 24 "TestPicker$Tests" "parts" "[J", .static yX4_isIn, .initialized RX4, .code yX4_isIn cX4_isIn 2 (some .boolean)] ++ wsX30)
def wsX3_pickable : List Cond := .code yX3_pickable cX3_pickable 4 (some .int) :: ([.fieldLink RX3 32 "TestPicker$Tests" "size" "I", .fieldLink RX3 9 "TestPicker$Tests" "kinds" "[I", .fieldLink RX3 28 "TestPicker$Tests" "torn" "[Z", .fieldLink RX3 21 "TestPicker$Tests" "chains" "[I"] ++ wsX30)
def wsX4_init_r1 : List Cond := [Cond.methodLink RX4 1 objectInit, Cond.instanceMethod objectInit, Cond.code objectInit ⟨#[0xb1]⟩ 1 none, Cond.classLink RX4 7 RX3, Cond.instantiable RX3 7, Cond.initialized RX3, Cond.fieldLink RX4 10 "TestPicker" "tests" "LTestPicker$Tests;", Cond.classLink RX4 16 RX0, Cond.instantiable RX0 4, Cond.initialized RX0, Cond.fieldLink RX4 19 "TestPicker" "history" "LTestPicker$History;", Cond.classLink RX4 23 RX1, Cond.instantiable RX1 7, Cond.initialized RX1, Cond.fieldLink RX4 26 "TestPicker" "plan" "LTestPicker$Plan;", Cond.classLink RX4 30 RX2, Cond.instantiable RX2 12, Cond.initialized RX2, Cond.fieldLink RX4 33 "TestPicker" "sets" "LTestPicker$Sets;", Cond.arrayClass .int, Cond.fieldLink RX4 37 "TestPicker" "findingCounts" "[I", Cond.fieldLink RX4 41 "TestPicker" "latestFinding" "I", Cond.fieldLink RX4 45 "TestPicker" "latestAnswer" "J", Cond.instanceMethod yX3_init]
def wsX4_init_r2 : List Cond := [Cond.code yX3_init cX3_init 1 none, Cond.methodLink RX3 3 objectInit, Cond.fieldLink RX3 9 "TestPicker$Tests" "kinds" "[I", Cond.fieldLink RX3 15 "TestPicker$Tests" "ownTimes" "[I", Cond.fieldLink RX3 18 "TestPicker$Tests" "needs" "[I", Cond.fieldLink RX3 21 "TestPicker$Tests" "chains" "[I", Cond.arrayClass .long, Cond.fieldLink RX3 24 "TestPicker$Tests" "parts" "[J", Cond.arrayClass .boolean, Cond.fieldLink RX3 28 "TestPicker$Tests" "torn" "[Z", Cond.fieldLink RX3 32 "TestPicker$Tests" "size" "I", Cond.instanceMethod yX0_init, Cond.code yX0_init cX0_init 1 none, Cond.methodLink RX0 3 objectInit, Cond.fieldLink RX0 9 "TestPicker$History" "changes" "[J", Cond.fieldLink RX0 15 "TestPicker$History" "fellIn" "[J", Cond.fieldLink RX0 18 "TestPicker$History" "passedIn" "[J", Cond.fieldLink RX0 21 "TestPicker$History" "size" "I", Cond.instanceMethod yX1_init, Cond.code yX1_init cX1_init 1 none, Cond.methodLink RX1 3 objectInit, Cond.fieldLink RX1 9 "TestPicker$Plan" "row" "[I", Cond.fieldLink RX1 15 "TestPicker$Plan" "size" "I", Cond.fieldLink RX1 19 "TestPicker$Plan" "bits" "I"]
def wsX4_init_r3 : List Cond := [Cond.fieldLink RX1 22 "TestPicker$Plan" "span" "I", Cond.fieldLink RX1 25 "TestPicker$Plan" "seen" "J", Cond.fieldLink RX1 29 "TestPicker$Plan" "change" "J", Cond.fieldLink RX1 32 "TestPicker$Plan" "there" "Z", Cond.instanceMethod yX2_init, Cond.code yX2_init cX2_init 1 none, Cond.methodLink RX2 3 objectInit, Cond.fieldLink RX2 9 "TestPicker$Sets" "testBits" "[I", Cond.fieldLink RX2 15 "TestPicker$Sets" "chains" "[I", Cond.fieldLink RX2 18 "TestPicker$Sets" "times" "[I", Cond.fieldLink RX2 21 "TestPicker$Sets" "covers" "[J", Cond.fieldLink RX2 25 "TestPicker$Sets" "size" "I", Cond.fieldLink RX2 29 "TestPicker$Sets" "bitsFrom" "[I", Cond.fieldLink RX2 32 "TestPicker$Sets" "chainsFrom" "[I", Cond.fieldLink RX2 35 "TestPicker$Sets" "timeFrom" "[I", Cond.fieldLink RX2 38 "TestPicker$Sets" "coverFrom" "[J", Cond.fieldLink RX2 41 "TestPicker$Sets" "foundBits" "I", Cond.fieldLink RX2 44 "TestPicker$Sets" "foundTime" "I", Cond.fieldLink RX2 47 "TestPicker$Sets" "foundCover" "J"]
def wsX4_init : List Cond := .code yX4_init cX4_init 1 none :: ((wsX4_init_r1 ++ (wsX4_init_r2 ++ wsX4_init_r3)) ++ wsX30 ++ wsX40 ++ wsX00 ++ wsX10 ++ wsX20)
def wsX4_isKind : List Cond := .code yX4_isKind cX4_isKind 1 (some .boolean) :: ([])
def wsX4_test : List Cond := .code yX4_test cX4_test 4 (some .int) :: ([.fieldLink RX4 10 "TestPicker" "tests" "LTestPicker$Tests;", .fieldLink RX4 56 "TestPicker$Tests" "size" "I", .methodLink RX4 49 yX4_isKind, .static yX4_isKind, .initialized RX4, .code yX4_isKind cX4_isKind 1 (some .boolean), .methodLink RX4 53 yX3_has, .instanceMethod yX3_has, .selects RX3 yX3_has yX3_has, .initialized RX3, .code yX3_has cX3_has 2 (some .boolean), .fieldLink RX3 32 "TestPicker$Tests" "size" "I", .methodLink RX4 59 yX3_add, .instanceMethod yX3_add, .selects RX3 yX3_add yX3_add, .code yX3_add cX3_add 5 (some .int), .fieldLink RX3 9 "TestPicker$Tests" "kinds" "[I", .fieldLink RX3 15 "TestPicker$Tests" "ownTimes" "[I", .fieldLink RX3 18 "TestPicker$Tests" "needs" "[I", .fieldLink RX3 21 "TestPicker$Tests" "chains" "[I"] ++ wsX40 ++ wsX30)
def wsX4_refuse : List Cond := .code yX4_refuse cX4_refuse 2 (some .int) :: ([.fieldLink RX4 41 "TestPicker" "latestFinding" "I", .fieldLink RX4 37 "TestPicker" "findingCounts" "[I"] ++ wsX40)
def wsX4_turn : List Cond := .code yX4_turn cX4_turn 4 (some .int) :: ([.fieldLink RX4 10 "TestPicker" "tests" "LTestPicker$Tests;", .fieldLink RX4 63 "TestPicker$Tests" "kinds" "[I", .methodLink RX4 53 yX3_has, .instanceMethod yX3_has, .selects RX3 yX3_has yX3_has, .initialized RX3, .code yX3_has cX3_has 2 (some .boolean), .fieldLink RX3 32 "TestPicker$Tests" "size" "I", .methodLink RX4 49 yX4_isKind, .static yX4_isKind, .initialized RX4, .code yX4_isKind cX4_isKind 1 (some .boolean), .methodLink RX4 66 yX4_refuse, .instanceMethod yX4_refuse, .selects RX4 yX4_refuse yX4_refuse, .code yX4_refuse cX4_refuse 2 (some .int), .fieldLink RX4 41 "TestPicker" "latestFinding" "I", .fieldLink RX4 37 "TestPicker" "findingCounts" "[I"] ++ wsX40 ++ wsX30)
def wsX4_isPlace : List Cond := .code yX4_isPlace cX4_isPlace 1 (some .boolean) :: ([])
def wsX4_reach_r1 : List Cond := [Cond.fieldLink RX4 10 "TestPicker" "tests" "LTestPicker$Tests;", Cond.fieldLink RX4 70 "TestPicker$Tests" "torn" "[Z", Cond.methodLink RX4 53 yX3_has, Cond.instanceMethod yX3_has, Cond.selects RX3 yX3_has yX3_has, Cond.initialized RX3, Cond.code yX3_has cX3_has 2 (some .boolean), Cond.fieldLink RX3 32 "TestPicker$Tests" "size" "I", Cond.methodLink RX4 66 yX4_refuse, Cond.instanceMethod yX4_refuse, Cond.selects RX4 yX4_refuse yX4_refuse, Cond.initialized RX4, Cond.code yX4_refuse cX4_refuse 2 (some .int), Cond.fieldLink RX4 41 "TestPicker" "latestFinding" "I", Cond.fieldLink RX4 37 "TestPicker" "findingCounts" "[I", Cond.methodLink RX4 74 yX4_isPlace, Cond.static yX4_isPlace, Cond.code yX4_isPlace cX4_isPlace 1 (some .boolean), Cond.methodLink RX4 77 yX3_reachByte, Cond.instanceMethod yX3_reachByte, Cond.selects RX3 yX3_reachByte yX3_reachByte, Cond.code yX3_reachByte cX3_reachByte 3 (some .int), Cond.fieldLink RX3 24 "TestPicker$Tests" "parts" "[J", Cond.constantLong RX3 36 (255)]
def wsX4_reach_r2 : List Cond := [Cond.methodLink RX4 81 yX3_setReachByte, Cond.instanceMethod yX3_setReachByte, Cond.selects RX3 yX3_setReachByte yX3_setReachByte, Cond.code yX3_setReachByte cX3_setReachByte 4 none, Cond.constantLong RX3 38 (-1)]
def wsX4_reach : List Cond := .code yX4_reach cX4_reach 5 (some .int) :: ((wsX4_reach_r1 ++ wsX4_reach_r2) ++ wsX40 ++ wsX30)
def wsX4_byteOf : List Cond := .code yX4_byteOf cX4_byteOf 3 (some .int) :: ([.fieldLink RX4 10 "TestPicker" "tests" "LTestPicker$Tests;", .fieldLink RX4 70 "TestPicker$Tests" "torn" "[Z", .methodLink RX4 53 yX3_has, .instanceMethod yX3_has, .selects RX3 yX3_has yX3_has, .initialized RX3, .code yX3_has cX3_has 2 (some .boolean), .fieldLink RX3 32 "TestPicker$Tests" "size" "I", .methodLink RX4 66 yX4_refuse, .instanceMethod yX4_refuse, .selects RX4 yX4_refuse yX4_refuse, .initialized RX4, .code yX4_refuse cX4_refuse 2 (some .int), .fieldLink RX4 41 "TestPicker" "latestFinding" "I", .fieldLink RX4 37 "TestPicker" "findingCounts" "[I", .methodLink RX4 74 yX4_isPlace, .static yX4_isPlace, .code yX4_isPlace cX4_isPlace 1 (some .boolean), .methodLink RX4 77 yX3_reachByte, .instanceMethod yX3_reachByte, .selects RX3 yX3_reachByte yX3_reachByte, .code yX3_reachByte cX3_reachByte 3 (some .int), .fieldLink RX3 24 "TestPicker$Tests" "parts" "[J", .constantLong RX3 36 (255)] ++ wsX40 ++ wsX30)
def wsX4_tear : List Cond := .code yX4_tear cX4_tear 2 (some .int) :: ([.fieldLink RX4 10 "TestPicker" "tests" "LTestPicker$Tests;", .fieldLink RX4 70 "TestPicker$Tests" "torn" "[Z", .fieldLink RX4 85 "TestPicker$Tests" "parts" "[J", .methodLink RX4 53 yX3_has, .instanceMethod yX3_has, .selects RX3 yX3_has yX3_has, .initialized RX3, .code yX3_has cX3_has 2 (some .boolean), .fieldLink RX3 32 "TestPicker$Tests" "size" "I", .methodLink RX4 66 yX4_refuse, .instanceMethod yX4_refuse, .selects RX4 yX4_refuse yX4_refuse, .initialized RX4, .code yX4_refuse cX4_refuse 2 (some .int), .fieldLink RX4 41 "TestPicker" "latestFinding" "I", .fieldLink RX4 37 "TestPicker" "findingCounts" "[I"] ++ wsX40 ++ wsX30)
def wsX4_anew : List Cond := .code yX4_anew cX4_anew 3 (some .int) :: ([.fieldLink RX4 10 "TestPicker" "tests" "LTestPicker$Tests;", .fieldLink RX4 70 "TestPicker$Tests" "torn" "[Z", .fieldLink RX4 85 "TestPicker$Tests" "parts" "[J", .methodLink RX4 53 yX3_has, .instanceMethod yX3_has, .selects RX3 yX3_has yX3_has, .initialized RX3, .code yX3_has cX3_has 2 (some .boolean), .fieldLink RX3 32 "TestPicker$Tests" "size" "I"] ++ wsX40 ++ wsX30)
def wsX4_isStretch : List Cond := .code yX4_isStretch cX4_isStretch 2 (some .boolean) :: ([])
def wsX4_copy : List Cond := .code yX4_copy cX4_copy 6 (some .int) :: ([.fieldLink RX4 10 "TestPicker" "tests" "LTestPicker$Tests;", .fieldLink RX4 70 "TestPicker$Tests" "torn" "[Z", .methodLink RX4 53 yX3_has, .instanceMethod yX3_has, .selects RX3 yX3_has yX3_has, .initialized RX3, .code yX3_has cX3_has 2 (some .boolean), .fieldLink RX3 32 "TestPicker$Tests" "size" "I", .methodLink RX4 66 yX4_refuse, .instanceMethod yX4_refuse, .selects RX4 yX4_refuse yX4_refuse, .initialized RX4, .code yX4_refuse cX4_refuse 2 (some .int), .fieldLink RX4 41 "TestPicker" "latestFinding" "I", .fieldLink RX4 37 "TestPicker" "findingCounts" "[I", .methodLink RX4 89 yX4_isStretch, .static yX4_isStretch, .code yX4_isStretch cX4_isStretch 2 (some .boolean), .methodLink RX4 93 yX3_copyBytes, .instanceMethod yX3_copyBytes, .selects RX3 yX3_copyBytes yX3_copyBytes, .code yX3_copyBytes cX3_copyBytes 10 none, .fieldLink RX3 24 "TestPicker$Tests" "parts" "[J", .constantLong RX3 38 (-1)] ++ wsX40 ++ wsX30)
def wsX4_isFlaky : List Cond := .code yX4_isFlaky cX4_isFlaky 2 (some .boolean) :: ([.fieldLink RX4 19 "TestPicker" "history" "LTestPicker$History;", .fieldLink RX4 10 "TestPicker" "tests" "LTestPicker$Tests;", .fieldLink RX4 85 "TestPicker$Tests" "parts" "[J", .methodLink RX4 230 yX0_wavers, .instanceMethod yX0_wavers, .selects RX0 yX0_wavers yX0_wavers, .initialized RX0, .code yX0_wavers cX0_wavers 9 (some .boolean), .fieldLink RX0 21 "TestPicker$History" "size" "I", .fieldLink RX0 9 "TestPicker$History" "changes" "[J", .methodLink RX0 29 yX0_verdictIn, .instanceMethod yX0_verdictIn, .selects RX0 yX0_verdictIn yX0_verdictIn, .code yX0_verdictIn cX0_verdictIn 3 (some .int), .fieldLink RX0 15 "TestPicker$History" "fellIn" "[J", .fieldLink RX0 18 "TestPicker$History" "passedIn" "[J"] ++ wsX40 ++ wsX30 ++ wsX00)
def wsX4_factOf_r1 : List Cond := [Cond.fieldLink RX4 10 "TestPicker" "tests" "LTestPicker$Tests;", Cond.fieldLink RX4 63 "TestPicker$Tests" "kinds" "[I", Cond.fieldLink RX4 234 "TestPicker$Tests" "needs" "[I", Cond.fieldLink RX4 19 "TestPicker" "history" "LTestPicker$History;", Cond.fieldLink RX4 180 "TestPicker$Tests" "chains" "[I", Cond.methodLink RX4 183 yX3_countedTime, Cond.instanceMethod yX3_countedTime, Cond.selects RX3 yX3_countedTime yX3_countedTime, Cond.initialized RX3, Cond.code yX3_countedTime cX3_countedTime 2 (some .int), Cond.fieldLink RX3 9 "TestPicker$Tests" "kinds" "[I", Cond.fieldLink RX3 15 "TestPicker$Tests" "ownTimes" "[I", Cond.methodLink RX4 237 yX0_heat, Cond.instanceMethod yX0_heat, Cond.selects RX0 yX0_heat yX0_heat, Cond.initialized RX0, Cond.code yX0_heat cX0_heat 5 (some .int), Cond.fieldLink RX0 21 "TestPicker$History" "size" "I", Cond.fieldLink RX0 15 "TestPicker$History" "fellIn" "[J", Cond.constantLong RX0 27 (255), Cond.methodLink RX4 201 yX4_isFlaky, Cond.instanceMethod yX4_isFlaky, Cond.selects RX4 yX4_isFlaky yX4_isFlaky, Cond.initialized RX4]
def wsX4_factOf_r2 : List Cond := [Cond.code yX4_isFlaky cX4_isFlaky 2 (some .boolean), Cond.fieldLink RX4 85 "TestPicker$Tests" "parts" "[J", Cond.methodLink RX4 230 yX0_wavers, Cond.instanceMethod yX0_wavers, Cond.selects RX0 yX0_wavers yX0_wavers, Cond.code yX0_wavers cX0_wavers 9 (some .boolean), Cond.fieldLink RX0 9 "TestPicker$History" "changes" "[J", Cond.methodLink RX0 29 yX0_verdictIn, Cond.instanceMethod yX0_verdictIn, Cond.selects RX0 yX0_verdictIn yX0_verdictIn, Cond.code yX0_verdictIn cX0_verdictIn 3 (some .int), Cond.fieldLink RX0 18 "TestPicker$History" "passedIn" "[J", Cond.methodLink RX4 240 yX0_fellLast, Cond.instanceMethod yX0_fellLast, Cond.selects RX0 yX0_fellLast yX0_fellLast, Cond.code yX0_fellLast cX0_fellLast 2 (some .boolean), Cond.methodLink RX4 171 yJ6_bitCount_0f7a4, Cond.static yJ6_bitCount_0f7a4, Cond.initialized RJ6, Cond.code yJ6_bitCount_0f7a4 cJ6_bitCount_0f7a4 1 (some .int), Cond.constant RJ6 265 (1431655765), Cond.constant RJ6 266 (858993459), Cond.constant RJ6 267 (252645135)]
def wsX4_factOf : List Cond := .code yX4_factOf cX4_factOf 3 (some .int) :: ((wsX4_factOf_r1 ++ wsX4_factOf_r2) ++ wsX40 ++ wsX30 ++ wsX00)
def wsX4_told_r1 : List Cond := [Cond.fieldLink RX4 10 "TestPicker" "tests" "LTestPicker$Tests;", Cond.methodLink RX4 53 yX3_has, Cond.instanceMethod yX3_has, Cond.selects RX3 yX3_has yX3_has, Cond.initialized RX3, Cond.code yX3_has cX3_has 2 (some .boolean), Cond.fieldLink RX3 32 "TestPicker$Tests" "size" "I", Cond.methodLink RX4 97 yX4_factOf, Cond.instanceMethod yX4_factOf, Cond.selects RX4 yX4_factOf yX4_factOf, Cond.initialized RX4, Cond.code yX4_factOf cX4_factOf 3 (some .int), Cond.fieldLink RX4 63 "TestPicker$Tests" "kinds" "[I", Cond.fieldLink RX4 234 "TestPicker$Tests" "needs" "[I", Cond.fieldLink RX4 19 "TestPicker" "history" "LTestPicker$History;", Cond.fieldLink RX4 180 "TestPicker$Tests" "chains" "[I", Cond.methodLink RX4 183 yX3_countedTime, Cond.instanceMethod yX3_countedTime, Cond.selects RX3 yX3_countedTime yX3_countedTime, Cond.code yX3_countedTime cX3_countedTime 2 (some .int), Cond.fieldLink RX3 9 "TestPicker$Tests" "kinds" "[I", Cond.fieldLink RX3 15 "TestPicker$Tests" "ownTimes" "[I", Cond.methodLink RX4 237 yX0_heat, Cond.instanceMethod yX0_heat]
def wsX4_told_r2 : List Cond := [Cond.selects RX0 yX0_heat yX0_heat, Cond.initialized RX0, Cond.code yX0_heat cX0_heat 5 (some .int), Cond.fieldLink RX0 21 "TestPicker$History" "size" "I", Cond.fieldLink RX0 15 "TestPicker$History" "fellIn" "[J", Cond.constantLong RX0 27 (255), Cond.methodLink RX4 201 yX4_isFlaky, Cond.instanceMethod yX4_isFlaky, Cond.selects RX4 yX4_isFlaky yX4_isFlaky, Cond.code yX4_isFlaky cX4_isFlaky 2 (some .boolean), Cond.fieldLink RX4 85 "TestPicker$Tests" "parts" "[J", Cond.methodLink RX4 230 yX0_wavers, Cond.instanceMethod yX0_wavers, Cond.selects RX0 yX0_wavers yX0_wavers, Cond.code yX0_wavers cX0_wavers 9 (some .boolean), Cond.fieldLink RX0 9 "TestPicker$History" "changes" "[J", Cond.methodLink RX0 29 yX0_verdictIn, Cond.instanceMethod yX0_verdictIn, Cond.selects RX0 yX0_verdictIn yX0_verdictIn, Cond.code yX0_verdictIn cX0_verdictIn 3 (some .int), Cond.fieldLink RX0 18 "TestPicker$History" "passedIn" "[J", Cond.methodLink RX4 240 yX0_fellLast, Cond.instanceMethod yX0_fellLast, Cond.selects RX0 yX0_fellLast yX0_fellLast]
def wsX4_told_r3 : List Cond := [Cond.code yX0_fellLast cX0_fellLast 2 (some .boolean), Cond.methodLink RX4 171 yJ6_bitCount_0f7a4, Cond.static yJ6_bitCount_0f7a4, Cond.initialized RJ6, Cond.code yJ6_bitCount_0f7a4 cJ6_bitCount_0f7a4 1 (some .int), Cond.constant RJ6 265 (1431655765), Cond.constant RJ6 266 (858993459), Cond.constant RJ6 267 (252645135)]
def wsX4_told : List Cond := .code yX4_told cX4_told 3 (some .int) :: ((wsX4_told_r1 ++ (wsX4_told_r2 ++ wsX4_told_r3)) ++ wsX40 ++ wsX30 ++ wsX00)
def wsX4_time : List Cond := .code yX4_time cX4_time 3 (some .int) :: ([.fieldLink RX4 10 "TestPicker" "tests" "LTestPicker$Tests;", .fieldLink RX4 63 "TestPicker$Tests" "kinds" "[I", .fieldLink RX4 100 "TestPicker$Tests" "ownTimes" "[I", .methodLink RX4 53 yX3_has, .instanceMethod yX3_has, .selects RX3 yX3_has yX3_has, .initialized RX3, .code yX3_has cX3_has 2 (some .boolean), .fieldLink RX3 32 "TestPicker$Tests" "size" "I", .methodLink RX4 49 yX4_isKind, .static yX4_isKind, .initialized RX4, .code yX4_isKind cX4_isKind 1 (some .boolean), .methodLink RX4 66 yX4_refuse, .instanceMethod yX4_refuse, .selects RX4 yX4_refuse yX4_refuse, .code yX4_refuse cX4_refuse 2 (some .int), .fieldLink RX4 41 "TestPicker" "latestFinding" "I", .fieldLink RX4 37 "TestPicker" "findingCounts" "[I"] ++ wsX40 ++ wsX30)
def wsX4_build : List Cond := .code yX4_build cX4_build 3 (some .int) :: ([.fieldLink RX4 19 "TestPicker" "history" "LTestPicker$History;", .fieldLink RX4 103 "TestPicker$History" "size" "I", .fieldLink RX4 26 "TestPicker" "plan" "LTestPicker$Plan;", .methodLink RX4 104 yX1_drop, .instanceMethod yX1_drop, .selects RX1 yX1_drop yX1_drop, .initialized RX1, .code yX1_drop cX1_drop 1 none, .fieldLink RX1 32 "TestPicker$Plan" "there" "Z", .fieldLink RX1 15 "TestPicker$Plan" "size" "I", .fieldLink RX1 19 "TestPicker$Plan" "bits" "I", .fieldLink RX1 22 "TestPicker$Plan" "span" "I", .fieldLink RX1 25 "TestPicker$Plan" "seen" "J", .fieldLink RX1 29 "TestPicker$Plan" "change" "J", .methodLink RX4 107 yX0_add, .instanceMethod yX0_add, .selects RX0 yX0_add yX0_add, .initialized RX0, .code yX0_add cX0_add 3 (some .int), .fieldLink RX0 9 "TestPicker$History" "changes" "[J", .fieldLink RX0 21 "TestPicker$History" "size" "I"] ++ wsX40 ++ wsX00 ++ wsX10)
def wsX4_verdict : List Cond := .code yX4_verdict cX4_verdict 4 (some .int) :: ([.fieldLink RX4 10 "TestPicker" "tests" "LTestPicker$Tests;", .fieldLink RX4 19 "TestPicker" "history" "LTestPicker$History;", .fieldLink RX4 103 "TestPicker$History" "size" "I", .methodLink RX4 53 yX3_has, .instanceMethod yX3_has, .selects RX3 yX3_has yX3_has, .initialized RX3, .code yX3_has cX3_has 2 (some .boolean), .fieldLink RX3 32 "TestPicker$Tests" "size" "I", .methodLink RX4 110 yX0_verdictIn, .instanceMethod yX0_verdictIn, .selects RX0 yX0_verdictIn yX0_verdictIn, .initialized RX0, .code yX0_verdictIn cX0_verdictIn 3 (some .int), .fieldLink RX0 15 "TestPicker$History" "fellIn" "[J", .fieldLink RX0 18 "TestPicker$History" "passedIn" "[J", .methodLink RX4 113 yX0_judge, .instanceMethod yX0_judge, .selects RX0 yX0_judge yX0_judge, .code yX0_judge cX0_judge 5 none, .fieldLink RX0 21 "TestPicker$History" "size" "I", .constantLong RX0 25 (-1)] ++ wsX40 ++ wsX00 ++ wsX30)
def wsX4_was : List Cond := .code yX4_was cX4_was 3 (some .int) :: ([.fieldLink RX4 10 "TestPicker" "tests" "LTestPicker$Tests;", .fieldLink RX4 19 "TestPicker" "history" "LTestPicker$History;", .methodLink RX4 53 yX3_has, .instanceMethod yX3_has, .selects RX3 yX3_has yX3_has, .initialized RX3, .code yX3_has cX3_has 2 (some .boolean), .fieldLink RX3 32 "TestPicker$Tests" "size" "I", .methodLink RX4 117 yX0_has, .instanceMethod yX0_has, .selects RX0 yX0_has yX0_has, .initialized RX0, .code yX0_has cX0_has 2 (some .boolean), .fieldLink RX0 21 "TestPicker$History" "size" "I", .methodLink RX4 110 yX0_verdictIn, .instanceMethod yX0_verdictIn, .selects RX0 yX0_verdictIn yX0_verdictIn, .code yX0_verdictIn cX0_verdictIn 3 (some .int), .fieldLink RX0 15 "TestPicker$History" "fellIn" "[J", .fieldLink RX0 18 "TestPicker$History" "passedIn" "[J"] ++ wsX40 ++ wsX30 ++ wsX00)
def wsX4_change : List Cond := .code yX4_change cX4_change 2 (some .int) :: ([.fieldLink RX4 19 "TestPicker" "history" "LTestPicker$History;", .fieldLink RX4 118 "TestPicker$History" "changes" "[J", .fieldLink RX4 45 "TestPicker" "latestAnswer" "J", .methodLink RX4 117 yX0_has, .instanceMethod yX0_has, .selects RX0 yX0_has yX0_has, .initialized RX0, .code yX0_has cX0_has 2 (some .boolean), .fieldLink RX0 21 "TestPicker$History" "size" "I"] ++ wsX40 ++ wsX00)
def wsX4_often : List Cond := .code yX4_often cX4_often 5 (some .int) :: ([.fieldLink RX4 10 "TestPicker" "tests" "LTestPicker$Tests;", .fieldLink RX4 19 "TestPicker" "history" "LTestPicker$History;", .fieldLink RX4 121 "TestPicker$History" "fellIn" "[J", .fieldLink RX4 129 "TestPicker$History" "passedIn" "[J", .fieldLink RX4 103 "TestPicker$History" "size" "I", .methodLink RX4 53 yX3_has, .instanceMethod yX3_has, .selects RX3 yX3_has yX3_has, .initialized RX3, .code yX3_has cX3_has 2 (some .boolean), .fieldLink RX3 32 "TestPicker$Tests" "size" "I", .methodLink RX4 124 yJ13_bitCount_95d88, .static yJ13_bitCount_95d88, .initialized RJ13, .code yJ13_bitCount_95d88 cJ13_bitCount_95d88 2 (some .int), .constantLong RJ13 314 (6148914691236517205), .constantLong RJ13 316 (3689348814741910323), .constantLong RJ13 318 (1085102592571150095)] ++ wsX40 ++ wsX00 ++ wsX30)
def wsX4_isSpan : List Cond := .code yX4_isSpan cX4_isSpan 1 (some .boolean) :: ([])
def wsX4_worthiest_r1 : List Cond := [Cond.fieldLink RX4 10 "TestPicker" "tests" "LTestPicker$Tests;", Cond.fieldLink RX4 56 "TestPicker$Tests" "size" "I", Cond.fieldLink RX4 180 "TestPicker$Tests" "chains" "[I", Cond.fieldLink RX4 26 "TestPicker" "plan" "LTestPicker$Plan;", Cond.fieldLink RX4 147 "TestPicker$Plan" "bits" "I", Cond.fieldLink RX4 249 "TestPicker$Plan" "change" "J", Cond.fieldLink RX4 252 "TestPicker$Plan" "seen" "J", Cond.constantLong RX4 204 (-1), Cond.fieldLink RX4 19 "TestPicker" "history" "LTestPicker$History;", Cond.methodLink RX4 177 yX4_isIn, Cond.static yX4_isIn, Cond.initialized RX4, Cond.code yX4_isIn cX4_isIn 2 (some .boolean), Cond.methodLink RX4 243 yX3_timeOf, Cond.instanceMethod yX3_timeOf, Cond.selects RX3 yX3_timeOf yX3_timeOf, Cond.initialized RX3, Cond.code yX3_timeOf cX3_timeOf 4 (some .int), Cond.fieldLink RX3 32 "TestPicker$Tests" "size" "I", Cond.methodLink RX3 44 yX3_countedTime, Cond.instanceMethod yX3_countedTime, Cond.selects RX3 yX3_countedTime yX3_countedTime, Cond.code yX3_countedTime cX3_countedTime 2 (some .int), Cond.fieldLink RX3 9 "TestPicker$Tests" "kinds" "[I"]
def wsX4_worthiest_r2 : List Cond := [Cond.fieldLink RX3 15 "TestPicker$Tests" "ownTimes" "[I", Cond.methodLink RX4 246 yX3_partsOf, Cond.instanceMethod yX3_partsOf, Cond.selects RX3 yX3_partsOf yX3_partsOf, Cond.code yX3_partsOf cX3_partsOf 5 (some .long), Cond.fieldLink RX3 24 "TestPicker$Tests" "parts" "[J", Cond.methodLink RX4 124 yJ13_bitCount_95d88, Cond.static yJ13_bitCount_95d88, Cond.initialized RJ13, Cond.code yJ13_bitCount_95d88 cJ13_bitCount_95d88 2 (some .int), Cond.constantLong RJ13 314 (6148914691236517205), Cond.constantLong RJ13 316 (3689348814741910323), Cond.constantLong RJ13 318 (1085102592571150095), Cond.methodLink RX4 237 yX0_heat, Cond.instanceMethod yX0_heat, Cond.selects RX0 yX0_heat yX0_heat, Cond.initialized RX0, Cond.code yX0_heat cX0_heat 5 (some .int), Cond.fieldLink RX0 21 "TestPicker$History" "size" "I", Cond.fieldLink RX0 15 "TestPicker$History" "fellIn" "[J", Cond.constantLong RX0 27 (255)]
def wsX4_worthiest : List Cond := .code yX4_worthiest cX4_worthiest 16 (some .int) :: ((wsX4_worthiest_r1 ++ wsX4_worthiest_r2) ++ wsX40 ++ wsX30 ++ wsX10 ++ wsX00)
def wsX4_takeChain_r1 : List Cond := [Cond.fieldLink RX4 10 "TestPicker" "tests" "LTestPicker$Tests;", Cond.fieldLink RX4 180 "TestPicker$Tests" "chains" "[I", Cond.fieldLink RX4 26 "TestPicker" "plan" "LTestPicker$Plan;", Cond.fieldLink RX4 147 "TestPicker$Plan" "bits" "I", Cond.fieldLink RX4 56 "TestPicker$Tests" "size" "I", Cond.fieldLink RX4 85 "TestPicker$Tests" "parts" "[J", Cond.methodLink RX4 177 yX4_isIn, Cond.static yX4_isIn, Cond.initialized RX4, Cond.code yX4_isIn cX4_isIn 2 (some .boolean), Cond.methodLink RX4 183 yX3_countedTime, Cond.instanceMethod yX3_countedTime, Cond.selects RX3 yX3_countedTime yX3_countedTime, Cond.initialized RX3, Cond.code yX3_countedTime cX3_countedTime 2 (some .int), Cond.fieldLink RX3 9 "TestPicker$Tests" "kinds" "[I", Cond.fieldLink RX3 15 "TestPicker$Tests" "ownTimes" "[I", Cond.methodLink RX4 255 yX1_take, Cond.instanceMethod yX1_take, Cond.selects RX1 yX1_take yX1_take, Cond.initialized RX1, Cond.code yX1_take cX1_take 5 none, Cond.fieldLink RX1 15 "TestPicker$Plan" "size" "I", Cond.fieldLink RX1 9 "TestPicker$Plan" "row" "[I"]
def wsX4_takeChain_r2 : List Cond := [Cond.fieldLink RX1 19 "TestPicker$Plan" "bits" "I", Cond.fieldLink RX1 22 "TestPicker$Plan" "span" "I", Cond.fieldLink RX1 25 "TestPicker$Plan" "seen" "J"]
def wsX4_takeChain : List Cond := .code yX4_takeChain cX4_takeChain 4 none :: ((wsX4_takeChain_r1 ++ wsX4_takeChain_r2) ++ wsX40 ++ wsX30 ++ wsX10)
def wsX4_pick_r1 : List Cond := [Cond.fieldLink RX4 19 "TestPicker" "history" "LTestPicker$History;", Cond.fieldLink RX4 103 "TestPicker$History" "size" "I", Cond.fieldLink RX4 26 "TestPicker" "plan" "LTestPicker$Plan;", Cond.fieldLink RX4 10 "TestPicker" "tests" "LTestPicker$Tests;", Cond.fieldLink RX4 56 "TestPicker$Tests" "size" "I", Cond.fieldLink RX4 147 "TestPicker$Plan" "bits" "I", Cond.fieldLink RX4 150 "TestPicker$Plan" "span" "I", Cond.fieldLink RX4 160 "TestPicker$Plan" "size" "I", Cond.methodLink RX4 132 yX4_isSpan, Cond.static yX4_isSpan, Cond.initialized RX4, Cond.code yX4_isSpan cX4_isSpan 1 (some .boolean), Cond.methodLink RX4 135 yX0_presentChange, Cond.instanceMethod yX0_presentChange, Cond.selects RX0 yX0_presentChange yX0_presentChange, Cond.initialized RX0, Cond.code yX0_presentChange cX0_presentChange 1 (some .long), Cond.fieldLink RX0 21 "TestPicker$History" "size" "I", Cond.fieldLink RX0 9 "TestPicker$History" "changes" "[J", Cond.methodLink RX4 139 yX1_begin, Cond.instanceMethod yX1_begin, Cond.selects RX1 yX1_begin yX1_begin, Cond.initialized RX1, Cond.code yX1_begin cX1_begin 3 none]
def wsX4_pick_r2 : List Cond := [Cond.fieldLink RX1 32 "TestPicker$Plan" "there" "Z", Cond.fieldLink RX1 29 "TestPicker$Plan" "change" "J", Cond.methodLink RX1 36 yX1_drop, Cond.instanceMethod yX1_drop, Cond.selects RX1 yX1_drop yX1_drop, Cond.code yX1_drop cX1_drop 1 none, Cond.fieldLink RX1 15 "TestPicker$Plan" "size" "I", Cond.fieldLink RX1 19 "TestPicker$Plan" "bits" "I", Cond.fieldLink RX1 22 "TestPicker$Plan" "span" "I", Cond.fieldLink RX1 25 "TestPicker$Plan" "seen" "J", Cond.methodLink RX4 143 yX3_pickable, Cond.instanceMethod yX3_pickable, Cond.selects RX3 yX3_pickable yX3_pickable, Cond.initialized RX3, Cond.code yX3_pickable cX3_pickable 4 (some .int), Cond.fieldLink RX3 32 "TestPicker$Tests" "size" "I", Cond.fieldLink RX3 9 "TestPicker$Tests" "kinds" "[I", Cond.fieldLink RX3 28 "TestPicker$Tests" "torn" "[Z", Cond.fieldLink RX3 21 "TestPicker$Tests" "chains" "[I", Cond.methodLink RX4 153 yX4_worthiest, Cond.instanceMethod yX4_worthiest, Cond.selects RX4 yX4_worthiest yX4_worthiest, Cond.code yX4_worthiest cX4_worthiest 16 (some .int), Cond.fieldLink RX4 180 "TestPicker$Tests" "chains" "[I"]
def wsX4_pick_r3 : List Cond := [Cond.fieldLink RX4 249 "TestPicker$Plan" "change" "J", Cond.fieldLink RX4 252 "TestPicker$Plan" "seen" "J", Cond.constantLong RX4 204 (-1), Cond.methodLink RX4 177 yX4_isIn, Cond.static yX4_isIn, Cond.code yX4_isIn cX4_isIn 2 (some .boolean), Cond.methodLink RX4 243 yX3_timeOf, Cond.instanceMethod yX3_timeOf, Cond.selects RX3 yX3_timeOf yX3_timeOf, Cond.code yX3_timeOf cX3_timeOf 4 (some .int), Cond.methodLink RX3 44 yX3_countedTime, Cond.instanceMethod yX3_countedTime, Cond.selects RX3 yX3_countedTime yX3_countedTime, Cond.code yX3_countedTime cX3_countedTime 2 (some .int), Cond.fieldLink RX3 15 "TestPicker$Tests" "ownTimes" "[I", Cond.methodLink RX4 246 yX3_partsOf, Cond.instanceMethod yX3_partsOf, Cond.selects RX3 yX3_partsOf yX3_partsOf, Cond.code yX3_partsOf cX3_partsOf 5 (some .long), Cond.fieldLink RX3 24 "TestPicker$Tests" "parts" "[J", Cond.methodLink RX4 124 yJ13_bitCount_95d88, Cond.static yJ13_bitCount_95d88, Cond.initialized RJ13, Cond.code yJ13_bitCount_95d88 cJ13_bitCount_95d88 2 (some .int)]
def wsX4_pick_r4 : List Cond := [Cond.constantLong RJ13 314 (6148914691236517205), Cond.constantLong RJ13 316 (3689348814741910323), Cond.constantLong RJ13 318 (1085102592571150095), Cond.methodLink RX4 237 yX0_heat, Cond.instanceMethod yX0_heat, Cond.selects RX0 yX0_heat yX0_heat, Cond.code yX0_heat cX0_heat 5 (some .int), Cond.fieldLink RX0 15 "TestPicker$History" "fellIn" "[J", Cond.constantLong RX0 27 (255), Cond.methodLink RX4 156 yX4_takeChain, Cond.instanceMethod yX4_takeChain, Cond.selects RX4 yX4_takeChain yX4_takeChain, Cond.code yX4_takeChain cX4_takeChain 4 none, Cond.fieldLink RX4 85 "TestPicker$Tests" "parts" "[J", Cond.methodLink RX4 183 yX3_countedTime, Cond.methodLink RX4 255 yX1_take, Cond.instanceMethod yX1_take, Cond.selects RX1 yX1_take yX1_take, Cond.code yX1_take cX1_take 5 none, Cond.fieldLink RX1 9 "TestPicker$Plan" "row" "[I"]
def wsX4_pick : List Cond := .code yX4_pick cX4_pick 5 (some .int) :: ((wsX4_pick_r1 ++ (wsX4_pick_r2 ++ (wsX4_pick_r3 ++ wsX4_pick_r4))) ++ wsX40 ++ wsX00 ++ wsX30 ++ wsX10)
def wsX4_picked : List Cond := .code yX4_picked cX4_picked 2 (some .int) :: ([.fieldLink RX4 26 "TestPicker" "plan" "LTestPicker$Plan;", .fieldLink RX4 161 "TestPicker$Plan" "there" "Z", .fieldLink RX4 160 "TestPicker$Plan" "size" "I", .fieldLink RX4 165 "TestPicker$Plan" "row" "[I"] ++ wsX40 ++ wsX10)
def wsX4_about : List Cond := .code yX4_about cX4_about 2 (some .int) :: ([.fieldLink RX4 26 "TestPicker" "plan" "LTestPicker$Plan;", .fieldLink RX4 161 "TestPicker$Plan" "there" "Z", .fieldLink RX4 150 "TestPicker$Plan" "span" "I", .fieldLink RX4 147 "TestPicker$Plan" "bits" "I", .methodLink RX4 168 yX1_partsSeen, .instanceMethod yX1_partsSeen, .selects RX1 yX1_partsSeen yX1_partsSeen, .initialized RX1, .code yX1_partsSeen cX1_partsSeen 1 (some .int), .fieldLink RX1 25 "TestPicker$Plan" "seen" "J", .fieldLink RX1 29 "TestPicker$Plan" "change" "J", .methodLink RX1 39 yJ13_bitCount_95d88, .static yJ13_bitCount_95d88, .initialized RJ13, .code yJ13_bitCount_95d88 cJ13_bitCount_95d88 2 (some .int), .constantLong RJ13 314 (6148914691236517205), .constantLong RJ13 316 (3689348814741910323), .constantLong RJ13 318 (1085102592571150095)] ++ wsX40 ++ wsX10)
def wsX4_best_r1 : List Cond := [Cond.fieldLink RX4 19 "TestPicker" "history" "LTestPicker$History;", Cond.fieldLink RX4 103 "TestPicker$History" "size" "I", Cond.fieldLink RX4 10 "TestPicker" "tests" "LTestPicker$Tests;", Cond.fieldLink RX4 33 "TestPicker" "sets" "LTestPicker$Sets;", Cond.fieldLink RX4 56 "TestPicker$Tests" "size" "I", Cond.fieldLink RX4 180 "TestPicker$Tests" "chains" "[I", Cond.fieldLink RX4 85 "TestPicker$Tests" "parts" "[J", Cond.fieldLink RX4 192 "TestPicker$Sets" "foundBits" "I", Cond.fieldLink RX4 45 "TestPicker" "latestAnswer" "J", Cond.fieldLink RX4 195 "TestPicker$Sets" "foundCover" "J", Cond.methodLink RX4 132 yX4_isSpan, Cond.static yX4_isSpan, Cond.initialized RX4, Cond.code yX4_isSpan cX4_isSpan 1 (some .boolean), Cond.methodLink RX4 143 yX3_pickable, Cond.instanceMethod yX3_pickable, Cond.selects RX3 yX3_pickable yX3_pickable, Cond.initialized RX3, Cond.code yX3_pickable cX3_pickable 4 (some .int), Cond.fieldLink RX3 32 "TestPicker$Tests" "size" "I", Cond.fieldLink RX3 9 "TestPicker$Tests" "kinds" "[I", Cond.fieldLink RX3 28 "TestPicker$Tests" "torn" "[Z", Cond.fieldLink RX3 21 "TestPicker$Tests" "chains" "[I", Cond.methodLink RX4 171 yJ6_bitCount_0f7a4]
def wsX4_best_r2 : List Cond := [Cond.static yJ6_bitCount_0f7a4, Cond.initialized RJ6, Cond.code yJ6_bitCount_0f7a4 cJ6_bitCount_0f7a4 1 (some .int), Cond.constant RJ6 265 (1431655765), Cond.constant RJ6 266 (858993459), Cond.constant RJ6 267 (252645135), Cond.methodLink RX4 135 yX0_presentChange, Cond.instanceMethod yX0_presentChange, Cond.selects RX0 yX0_presentChange yX0_presentChange, Cond.initialized RX0, Cond.code yX0_presentChange cX0_presentChange 1 (some .long), Cond.fieldLink RX0 21 "TestPicker$History" "size" "I", Cond.fieldLink RX0 9 "TestPicker$History" "changes" "[J", Cond.methodLink RX4 175 yX2_begin, Cond.instanceMethod yX2_begin, Cond.selects RX2 yX2_begin yX2_begin, Cond.initialized RX2, Cond.code yX2_begin cX2_begin 1 none, Cond.fieldLink RX2 25 "TestPicker$Sets" "size" "I", Cond.fieldLink RX2 41 "TestPicker$Sets" "foundBits" "I", Cond.fieldLink RX2 44 "TestPicker$Sets" "foundTime" "I", Cond.fieldLink RX2 47 "TestPicker$Sets" "foundCover" "J", Cond.methodLink RX4 177 yX4_isIn, Cond.static yX4_isIn]
def wsX4_best_r3 : List Cond := [Cond.code yX4_isIn cX4_isIn 2 (some .boolean), Cond.methodLink RX4 183 yX3_countedTime, Cond.instanceMethod yX3_countedTime, Cond.selects RX3 yX3_countedTime yX3_countedTime, Cond.code yX3_countedTime cX3_countedTime 2 (some .int), Cond.fieldLink RX3 15 "TestPicker$Tests" "ownTimes" "[I", Cond.methodLink RX4 186 yX2_add, Cond.instanceMethod yX2_add, Cond.selects RX2 yX2_add yX2_add, Cond.code yX2_add cX2_add 6 none, Cond.fieldLink RX2 9 "TestPicker$Sets" "testBits" "[I", Cond.fieldLink RX2 15 "TestPicker$Sets" "chains" "[I", Cond.fieldLink RX2 18 "TestPicker$Sets" "times" "[I", Cond.fieldLink RX2 21 "TestPicker$Sets" "covers" "[J", Cond.methodLink RX4 189 yX2_seekWidest, Cond.instanceMethod yX2_seekWidest, Cond.selects RX2 yX2_seekWidest yX2_seekWidest, Cond.code yX2_seekWidest cX2_seekWidest 5 none, Cond.fieldLink RX2 35 "TestPicker$Sets" "timeFrom" "[I", Cond.fieldLink RX2 32 "TestPicker$Sets" "chainsFrom" "[I", Cond.fieldLink RX2 29 "TestPicker$Sets" "bitsFrom" "[I", Cond.methodLink RX2 63 yX2_sumUp, Cond.instanceMethod yX2_sumUp, Cond.selects RX2 yX2_sumUp yX2_sumUp]
def wsX4_best_r4 : List Cond := [Cond.code yX2_sumUp cX2_sumUp 4 (some .int), Cond.methodLink RX2 57 Lib.Math.min.name, Cond.static Lib.Math.min.name, Cond.initialized "java/lang/Math", Cond.code Lib.Math.min.name Lib.Math.min.code 2 (some .int), Cond.fieldLink RX2 38 "TestPicker$Sets" "coverFrom" "[J", Cond.methodLink RX2 51 yJ6_numberOfTrailingZeros_0f7a4, Cond.static yJ6_numberOfTrailingZeros_0f7a4, Cond.code yJ6_numberOfTrailingZeros_0f7a4 cJ6_numberOfTrailingZeros_0f7a4 2 (some .int), Cond.constant RJ6 264 (65536), Cond.methodLink RX2 66 yX2_isWider, Cond.instanceMethod yX2_isWider, Cond.selects RX2 yX2_isWider yX2_isWider, Cond.code yX2_isWider cX2_isWider 3 (some .boolean), Cond.methodLink RX2 74 yJ13_bitCount_95d88, Cond.static yJ13_bitCount_95d88, Cond.initialized RJ13, Cond.code yJ13_bitCount_95d88 cJ13_bitCount_95d88 2 (some .int), Cond.constantLong RJ13 314 (6148914691236517205), Cond.constantLong RJ13 316 (3689348814741910323), Cond.constantLong RJ13 318 (1085102592571150095), Cond.methodLink RX2 70 yX2_keep, Cond.instanceMethod yX2_keep, Cond.selects RX2 yX2_keep yX2_keep]
def wsX4_best_r5 : List Cond := [Cond.code yX2_keep cX2_keep 2 none, Cond.methodLink RX4 124 yJ13_bitCount_95d88]
def wsX4_best : List Cond := .code yX4_best cX4_best 6 (some .int) :: ((wsX4_best_r1 ++ (wsX4_best_r2 ++ (wsX4_best_r3 ++ (wsX4_best_r4 ++ wsX4_best_r5)))) ++ wsX40 ++ wsX00 ++ wsX30 ++ wsX20)
def wsX4_run_r1 : List Cond := [Cond.fieldLink RX4 10 "TestPicker" "tests" "LTestPicker$Tests;", Cond.fieldLink RX4 26 "TestPicker" "plan" "LTestPicker$Plan;", Cond.fieldLink RX4 161 "TestPicker$Plan" "there" "Z", Cond.fieldLink RX4 160 "TestPicker$Plan" "size" "I", Cond.fieldLink RX4 165 "TestPicker$Plan" "row" "[I", Cond.fieldLink RX4 180 "TestPicker$Tests" "chains" "[I", Cond.fieldLink RX4 19 "TestPicker" "history" "LTestPicker$History;", Cond.methodLink RX4 198 yX3_hasAll, Cond.instanceMethod yX3_hasAll, Cond.selects RX3 yX3_hasAll yX3_hasAll, Cond.initialized RX3, Cond.code yX3_hasAll cX3_hasAll 2 (some .boolean), Cond.fieldLink RX3 32 "TestPicker$Tests" "size" "I", Cond.methodLink RX4 177 yX4_isIn, Cond.static yX4_isIn, Cond.initialized RX4, Cond.code yX4_isIn cX4_isIn 2 (some .boolean), Cond.methodLink RX4 113 yX0_judge, Cond.instanceMethod yX0_judge, Cond.selects RX0 yX0_judge yX0_judge, Cond.initialized RX0, Cond.code yX0_judge cX0_judge 5 none, Cond.fieldLink RX0 21 "TestPicker$History" "size" "I", Cond.fieldLink RX0 15 "TestPicker$History" "fellIn" "[J"]
def wsX4_run_r2 : List Cond := [Cond.constantLong RX0 25 (-1), Cond.fieldLink RX0 18 "TestPicker$History" "passedIn" "[J"]
def wsX4_run : List Cond := .code yX4_run cX4_run 7 (some .int) :: ((wsX4_run_r1 ++ wsX4_run_r2) ++ wsX40 ++ wsX10 ++ wsX30 ++ wsX00)
def wsX4_suspects_r1 : List Cond := [Cond.fieldLink RX4 19 "TestPicker" "history" "LTestPicker$History;", Cond.fieldLink RX4 103 "TestPicker$History" "size" "I", Cond.fieldLink RX4 10 "TestPicker" "tests" "LTestPicker$Tests;", Cond.fieldLink RX4 56 "TestPicker$Tests" "size" "I", Cond.fieldLink RX4 85 "TestPicker$Tests" "parts" "[J", Cond.constantLong RX4 204 (-1), Cond.fieldLink RX4 45 "TestPicker" "latestAnswer" "J", Cond.methodLink RX4 110 yX0_verdictIn, Cond.instanceMethod yX0_verdictIn, Cond.selects RX0 yX0_verdictIn yX0_verdictIn, Cond.initialized RX0, Cond.code yX0_verdictIn cX0_verdictIn 3 (some .int), Cond.fieldLink RX0 15 "TestPicker$History" "fellIn" "[J", Cond.fieldLink RX0 18 "TestPicker$History" "passedIn" "[J", Cond.methodLink RX4 201 yX4_isFlaky, Cond.instanceMethod yX4_isFlaky, Cond.selects RX4 yX4_isFlaky yX4_isFlaky, Cond.initialized RX4, Cond.code yX4_isFlaky cX4_isFlaky 2 (some .boolean), Cond.methodLink RX4 230 yX0_wavers, Cond.instanceMethod yX0_wavers, Cond.selects RX0 yX0_wavers yX0_wavers, Cond.code yX0_wavers cX0_wavers 9 (some .boolean), Cond.fieldLink RX0 21 "TestPicker$History" "size" "I"]
def wsX4_suspects_r2 : List Cond := [Cond.fieldLink RX0 9 "TestPicker$History" "changes" "[J", Cond.methodLink RX0 29 yX0_verdictIn, Cond.methodLink RX4 135 yX0_presentChange, Cond.instanceMethod yX0_presentChange, Cond.selects RX0 yX0_presentChange yX0_presentChange, Cond.code yX0_presentChange cX0_presentChange 1 (some .long), Cond.methodLink RX4 124 yJ13_bitCount_95d88, Cond.static yJ13_bitCount_95d88, Cond.initialized RJ13, Cond.code yJ13_bitCount_95d88 cJ13_bitCount_95d88 2 (some .int), Cond.constantLong RJ13 314 (6148914691236517205), Cond.constantLong RJ13 316 (3689348814741910323), Cond.constantLong RJ13 318 (1085102592571150095)]
def wsX4_suspects : List Cond := .code yX4_suspects cX4_suspects 8 (some .int) :: ((wsX4_suspects_r1 ++ wsX4_suspects_r2) ++ wsX40 ++ wsX00 ++ wsX30)
def wsX4_badWork : List Cond := .code yX4_badWork cX4_badWork 3 (some .int) :: ([.fieldLink RX4 19 "TestPicker" "history" "LTestPicker$History;", .fieldLink RX4 103 "TestPicker$History" "size" "I", .fieldLink RX4 10 "TestPicker" "tests" "LTestPicker$Tests;", .fieldLink RX4 56 "TestPicker$Tests" "size" "I", .methodLink RX4 110 yX0_verdictIn, .instanceMethod yX0_verdictIn, .selects RX0 yX0_verdictIn yX0_verdictIn, .initialized RX0, .code yX0_verdictIn cX0_verdictIn 3 (some .int), .fieldLink RX0 15 "TestPicker$History" "fellIn" "[J", .fieldLink RX0 18 "TestPicker$History" "passedIn" "[J", .methodLink RX4 201 yX4_isFlaky, .instanceMethod yX4_isFlaky, .selects RX4 yX4_isFlaky yX4_isFlaky, .initialized RX4, .code yX4_isFlaky cX4_isFlaky 2 (some .boolean), .fieldLink RX4 85 "TestPicker$Tests" "parts" "[J", .methodLink RX4 230 yX0_wavers, .instanceMethod yX0_wavers, .selects RX0 yX0_wavers yX0_wavers, .code yX0_wavers cX0_wavers 9 (some .boolean), .fieldLink RX0 21 "TestPicker$History" "size" "I", .fieldLink RX0 9 "TestPicker$History" "changes" "[J", .methodLink RX0 29 yX0_verdictIn] ++ wsX40 ++ wsX00 ++ wsX30)
def wsX4_witnesses : List Cond := .code yX4_witnesses cX4_witnesses 3 (some .int) :: ([.fieldLink RX4 10 "TestPicker" "tests" "LTestPicker$Tests;", .fieldLink RX4 56 "TestPicker$Tests" "size" "I", .fieldLink RX4 63 "TestPicker$Tests" "kinds" "[I", .fieldLink RX4 19 "TestPicker" "history" "LTestPicker$History;", .fieldLink RX4 121 "TestPicker$History" "fellIn" "[J", .methodLink RX4 201 yX4_isFlaky, .instanceMethod yX4_isFlaky, .selects RX4 yX4_isFlaky yX4_isFlaky, .initialized RX4, .code yX4_isFlaky cX4_isFlaky 2 (some .boolean), .fieldLink RX4 85 "TestPicker$Tests" "parts" "[J", .methodLink RX4 230 yX0_wavers, .instanceMethod yX0_wavers, .selects RX0 yX0_wavers yX0_wavers, .initialized RX0, .code yX0_wavers cX0_wavers 9 (some .boolean), .fieldLink RX0 21 "TestPicker$History" "size" "I", .fieldLink RX0 9 "TestPicker$History" "changes" "[J", .methodLink RX0 29 yX0_verdictIn, .instanceMethod yX0_verdictIn, .selects RX0 yX0_verdictIn yX0_verdictIn, .code yX0_verdictIn cX0_verdictIn 3 (some .int), .fieldLink RX0 15 "TestPicker$History" "fellIn" "[J", .fieldLink RX0 18 "TestPicker$History" "passedIn" "[J"] ++ wsX40 ++ wsX30 ++ wsX00)
def wsX4_buildsShown : List Cond := .code yX4_buildsShown cX4_buildsShown 5 (some .long) :: ([.fieldLink RX4 10 "TestPicker" "tests" "LTestPicker$Tests;", .fieldLink RX4 56 "TestPicker$Tests" "size" "I", .fieldLink RX4 19 "TestPicker" "history" "LTestPicker$History;", .fieldLink RX4 121 "TestPicker$History" "fellIn" "[J", .methodLink RX4 177 yX4_isIn, .static yX4_isIn, .initialized RX4, .code yX4_isIn cX4_isIn 2 (some .boolean)] ++ wsX40 ++ wsX30 ++ wsX00)
def wsX4_fewest_r1 : List Cond := [Cond.fieldLink RX4 33 "TestPicker" "sets" "LTestPicker$Sets;", Cond.fieldLink RX4 10 "TestPicker" "tests" "LTestPicker$Tests;", Cond.fieldLink RX4 56 "TestPicker$Tests" "size" "I", Cond.fieldLink RX4 180 "TestPicker$Tests" "chains" "[I", Cond.fieldLink RX4 19 "TestPicker" "history" "LTestPicker$History;", Cond.fieldLink RX4 121 "TestPicker$History" "fellIn" "[J", Cond.fieldLink RX4 192 "TestPicker$Sets" "foundBits" "I", Cond.fieldLink RX4 45 "TestPicker" "latestAnswer" "J", Cond.methodLink RX4 206 yX4_witnesses, Cond.instanceMethod yX4_witnesses, Cond.selects RX4 yX4_witnesses yX4_witnesses, Cond.initialized RX4, Cond.code yX4_witnesses cX4_witnesses 3 (some .int), Cond.fieldLink RX4 63 "TestPicker$Tests" "kinds" "[I", Cond.methodLink RX4 201 yX4_isFlaky, Cond.instanceMethod yX4_isFlaky, Cond.selects RX4 yX4_isFlaky yX4_isFlaky, Cond.code yX4_isFlaky cX4_isFlaky 2 (some .boolean), Cond.fieldLink RX4 85 "TestPicker$Tests" "parts" "[J", Cond.methodLink RX4 230 yX0_wavers, Cond.instanceMethod yX0_wavers, Cond.selects RX0 yX0_wavers yX0_wavers, Cond.initialized RX0, Cond.code yX0_wavers cX0_wavers 9 (some .boolean)]
def wsX4_fewest_r2 : List Cond := [Cond.fieldLink RX0 21 "TestPicker$History" "size" "I", Cond.fieldLink RX0 9 "TestPicker$History" "changes" "[J", Cond.methodLink RX0 29 yX0_verdictIn, Cond.instanceMethod yX0_verdictIn, Cond.selects RX0 yX0_verdictIn yX0_verdictIn, Cond.code yX0_verdictIn cX0_verdictIn 3 (some .int), Cond.fieldLink RX0 15 "TestPicker$History" "fellIn" "[J", Cond.fieldLink RX0 18 "TestPicker$History" "passedIn" "[J", Cond.methodLink RX4 171 yJ6_bitCount_0f7a4, Cond.static yJ6_bitCount_0f7a4, Cond.initialized RJ6, Cond.code yJ6_bitCount_0f7a4 cJ6_bitCount_0f7a4 1 (some .int), Cond.constant RJ6 265 (1431655765), Cond.constant RJ6 266 (858993459), Cond.constant RJ6 267 (252645135), Cond.methodLink RX4 175 yX2_begin, Cond.instanceMethod yX2_begin, Cond.selects RX2 yX2_begin yX2_begin, Cond.initialized RX2, Cond.code yX2_begin cX2_begin 1 none, Cond.fieldLink RX2 25 "TestPicker$Sets" "size" "I", Cond.fieldLink RX2 41 "TestPicker$Sets" "foundBits" "I", Cond.fieldLink RX2 44 "TestPicker$Sets" "foundTime" "I", Cond.fieldLink RX2 47 "TestPicker$Sets" "foundCover" "J"]
def wsX4_fewest_r3 : List Cond := [Cond.methodLink RX4 177 yX4_isIn, Cond.static yX4_isIn, Cond.code yX4_isIn cX4_isIn 2 (some .boolean), Cond.methodLink RX4 183 yX3_countedTime, Cond.instanceMethod yX3_countedTime, Cond.selects RX3 yX3_countedTime yX3_countedTime, Cond.initialized RX3, Cond.code yX3_countedTime cX3_countedTime 2 (some .int), Cond.fieldLink RX3 9 "TestPicker$Tests" "kinds" "[I", Cond.fieldLink RX3 15 "TestPicker$Tests" "ownTimes" "[I", Cond.methodLink RX4 186 yX2_add, Cond.instanceMethod yX2_add, Cond.selects RX2 yX2_add yX2_add, Cond.code yX2_add cX2_add 6 none, Cond.fieldLink RX2 9 "TestPicker$Sets" "testBits" "[I", Cond.fieldLink RX2 15 "TestPicker$Sets" "chains" "[I", Cond.fieldLink RX2 18 "TestPicker$Sets" "times" "[I", Cond.fieldLink RX2 21 "TestPicker$Sets" "covers" "[J", Cond.methodLink RX4 209 yX4_buildsShown, Cond.instanceMethod yX4_buildsShown, Cond.selects RX4 yX4_buildsShown yX4_buildsShown, Cond.code yX4_buildsShown cX4_buildsShown 5 (some .long), Cond.methodLink RX4 213 yX2_seekFewest, Cond.instanceMethod yX2_seekFewest]
def wsX4_fewest_r4 : List Cond := [Cond.selects RX2 yX2_seekFewest yX2_seekFewest, Cond.code yX2_seekFewest cX2_seekFewest 10 none, Cond.fieldLink RX2 38 "TestPicker$Sets" "coverFrom" "[J", Cond.fieldLink RX2 35 "TestPicker$Sets" "timeFrom" "[I", Cond.methodLink RX2 63 yX2_sumUp, Cond.instanceMethod yX2_sumUp, Cond.selects RX2 yX2_sumUp yX2_sumUp, Cond.code yX2_sumUp cX2_sumUp 4 (some .int), Cond.methodLink RX2 57 Lib.Math.min.name, Cond.static Lib.Math.min.name, Cond.initialized "java/lang/Math", Cond.code Lib.Math.min.name Lib.Math.min.code 2 (some .int), Cond.fieldLink RX2 29 "TestPicker$Sets" "bitsFrom" "[I", Cond.fieldLink RX2 32 "TestPicker$Sets" "chainsFrom" "[I", Cond.methodLink RX2 51 yJ6_numberOfTrailingZeros_0f7a4, Cond.static yJ6_numberOfTrailingZeros_0f7a4, Cond.code yJ6_numberOfTrailingZeros_0f7a4 cJ6_numberOfTrailingZeros_0f7a4 2 (some .int), Cond.constant RJ6 264 (65536), Cond.methodLink RX2 80 yJ6_bitCount_0f7a4, Cond.methodLink RX2 70 yX2_keep, Cond.instanceMethod yX2_keep, Cond.selects RX2 yX2_keep yX2_keep, Cond.code yX2_keep cX2_keep 2 none]
def wsX4_fewest : List Cond := .code yX4_fewest cX4_fewest 3 (some .int) :: ((wsX4_fewest_r1 ++ (wsX4_fewest_r2 ++ (wsX4_fewest_r3 ++ wsX4_fewest_r4))) ++ wsX40 ++ wsX30 ++ wsX00 ++ wsX20)
def wsJ13_numberOfTrailingZeros_95d88 : List Cond := .code yJ13_numberOfTrailingZeros_95d88 cJ13_numberOfTrailingZeros_95d88 3 (some .int) :: ([.methodLink RJ13 311 yJ6_numberOfTrailingZeros_0f7a4, .static yJ6_numberOfTrailingZeros_0f7a4, .initialized RJ6, .code yJ6_numberOfTrailingZeros_0f7a4 cJ6_numberOfTrailingZeros_0f7a4 2 (some .int), .constant RJ6 264 (65536)])
def wsX4_missed_r1 : List Cond := [Cond.fieldLink RX4 10 "TestPicker" "tests" "LTestPicker$Tests;", Cond.constantLong RX4 204 (-1), Cond.methodLink RX4 198 yX3_hasAll, Cond.instanceMethod yX3_hasAll, Cond.selects RX3 yX3_hasAll yX3_hasAll, Cond.initialized RX3, Cond.code yX3_hasAll cX3_hasAll 2 (some .boolean), Cond.fieldLink RX3 32 "TestPicker$Tests" "size" "I", Cond.methodLink RX4 206 yX4_witnesses, Cond.instanceMethod yX4_witnesses, Cond.selects RX4 yX4_witnesses yX4_witnesses, Cond.initialized RX4, Cond.code yX4_witnesses cX4_witnesses 3 (some .int), Cond.fieldLink RX4 56 "TestPicker$Tests" "size" "I", Cond.fieldLink RX4 63 "TestPicker$Tests" "kinds" "[I", Cond.fieldLink RX4 19 "TestPicker" "history" "LTestPicker$History;", Cond.fieldLink RX4 121 "TestPicker$History" "fellIn" "[J", Cond.methodLink RX4 201 yX4_isFlaky, Cond.instanceMethod yX4_isFlaky, Cond.selects RX4 yX4_isFlaky yX4_isFlaky, Cond.code yX4_isFlaky cX4_isFlaky 2 (some .boolean), Cond.fieldLink RX4 85 "TestPicker$Tests" "parts" "[J", Cond.methodLink RX4 230 yX0_wavers, Cond.instanceMethod yX0_wavers]
def wsX4_missed_r2 : List Cond := [Cond.selects RX0 yX0_wavers yX0_wavers, Cond.initialized RX0, Cond.code yX0_wavers cX0_wavers 9 (some .boolean), Cond.fieldLink RX0 21 "TestPicker$History" "size" "I", Cond.fieldLink RX0 9 "TestPicker$History" "changes" "[J", Cond.methodLink RX0 29 yX0_verdictIn, Cond.instanceMethod yX0_verdictIn, Cond.selects RX0 yX0_verdictIn yX0_verdictIn, Cond.code yX0_verdictIn cX0_verdictIn 3 (some .int), Cond.fieldLink RX0 15 "TestPicker$History" "fellIn" "[J", Cond.fieldLink RX0 18 "TestPicker$History" "passedIn" "[J", Cond.methodLink RX4 209 yX4_buildsShown, Cond.instanceMethod yX4_buildsShown, Cond.selects RX4 yX4_buildsShown yX4_buildsShown, Cond.code yX4_buildsShown cX4_buildsShown 5 (some .long), Cond.methodLink RX4 177 yX4_isIn, Cond.static yX4_isIn, Cond.code yX4_isIn cX4_isIn 2 (some .boolean), Cond.methodLink RX4 216 yJ13_numberOfTrailingZeros_95d88, Cond.static yJ13_numberOfTrailingZeros_95d88, Cond.initialized RJ13, Cond.code yJ13_numberOfTrailingZeros_95d88 cJ13_numberOfTrailingZeros_95d88 3 (some .int), Cond.methodLink RJ13 311 yJ6_numberOfTrailingZeros_0f7a4, Cond.static yJ6_numberOfTrailingZeros_0f7a4]
def wsX4_missed_r3 : List Cond := [Cond.initialized RJ6, Cond.code yJ6_numberOfTrailingZeros_0f7a4 cJ6_numberOfTrailingZeros_0f7a4 2 (some .int), Cond.constant RJ6 264 (65536)]
def wsX4_missed : List Cond := .code yX4_missed cX4_missed 4 (some .int) :: ((wsX4_missed_r1 ++ (wsX4_missed_r2 ++ wsX4_missed_r3)) ++ wsX40 ++ wsX30 ++ wsX00)
def wsX4_asked : List Cond := .code yX4_asked cX4_asked 1 (some .long) :: ([.fieldLink RX4 45 "TestPicker" "latestAnswer" "J"] ++ wsX40)
def wsX4_count : List Cond := .code yX4_count cX4_count 2 (some .int) :: ([.fieldLink RX4 10 "TestPicker" "tests" "LTestPicker$Tests;", .fieldLink RX4 56 "TestPicker$Tests" "size" "I", .fieldLink RX4 19 "TestPicker" "history" "LTestPicker$History;", .fieldLink RX4 103 "TestPicker$History" "size" "I", .methodLink RX4 219 yX0_verdictsInAll, .instanceMethod yX0_verdictsInAll, .selects RX0 yX0_verdictsInAll yX0_verdictsInAll, .initialized RX0, .code yX0_verdictsInAll cX0_verdictsInAll 3 (some .int), .fieldLink RX0 15 "TestPicker$History" "fellIn" "[J", .fieldLink RX0 18 "TestPicker$History" "passedIn" "[J", .methodLink RX0 33 yJ13_bitCount_95d88, .static yJ13_bitCount_95d88, .initialized RJ13, .code yJ13_bitCount_95d88 cJ13_bitCount_95d88 2 (some .int), .constantLong RJ13 314 (6148914691236517205), .constantLong RJ13 316 (3689348814741910323), .constantLong RJ13 318 (1085102592571150095)] ++ wsX40 ++ wsX30 ++ wsX00)
def wsX4_finding : List Cond := .code yX4_finding cX4_finding 1 (some .int) :: ([.fieldLink RX4 41 "TestPicker" "latestFinding" "I"] ++ wsX40)
def wsX4_findings : List Cond := .code yX4_findings cX4_findings 2 (some .int) :: ([.fieldLink RX4 37 "TestPicker" "findingCounts" "[I"] ++ wsX40)
def wsX4_digestOfTest_r1 : List Cond := [Cond.constantLong RX4 228 (31), Cond.fieldLink RX4 10 "TestPicker" "tests" "LTestPicker$Tests;", Cond.fieldLink RX4 70 "TestPicker$Tests" "torn" "[Z", Cond.methodLink RX4 97 yX4_factOf, Cond.instanceMethod yX4_factOf, Cond.selects RX4 yX4_factOf yX4_factOf, Cond.initialized RX4, Cond.code yX4_factOf cX4_factOf 3 (some .int), Cond.fieldLink RX4 63 "TestPicker$Tests" "kinds" "[I", Cond.fieldLink RX4 234 "TestPicker$Tests" "needs" "[I", Cond.fieldLink RX4 19 "TestPicker" "history" "LTestPicker$History;", Cond.fieldLink RX4 180 "TestPicker$Tests" "chains" "[I", Cond.methodLink RX4 183 yX3_countedTime, Cond.instanceMethod yX3_countedTime, Cond.selects RX3 yX3_countedTime yX3_countedTime, Cond.initialized RX3, Cond.code yX3_countedTime cX3_countedTime 2 (some .int), Cond.fieldLink RX3 9 "TestPicker$Tests" "kinds" "[I", Cond.fieldLink RX3 15 "TestPicker$Tests" "ownTimes" "[I", Cond.methodLink RX4 237 yX0_heat, Cond.instanceMethod yX0_heat, Cond.selects RX0 yX0_heat yX0_heat, Cond.initialized RX0, Cond.code yX0_heat cX0_heat 5 (some .int)]
def wsX4_digestOfTest_r2 : List Cond := [Cond.fieldLink RX0 21 "TestPicker$History" "size" "I", Cond.fieldLink RX0 15 "TestPicker$History" "fellIn" "[J", Cond.constantLong RX0 27 (255), Cond.methodLink RX4 201 yX4_isFlaky, Cond.instanceMethod yX4_isFlaky, Cond.selects RX4 yX4_isFlaky yX4_isFlaky, Cond.code yX4_isFlaky cX4_isFlaky 2 (some .boolean), Cond.fieldLink RX4 85 "TestPicker$Tests" "parts" "[J", Cond.methodLink RX4 230 yX0_wavers, Cond.instanceMethod yX0_wavers, Cond.selects RX0 yX0_wavers yX0_wavers, Cond.code yX0_wavers cX0_wavers 9 (some .boolean), Cond.fieldLink RX0 9 "TestPicker$History" "changes" "[J", Cond.methodLink RX0 29 yX0_verdictIn, Cond.instanceMethod yX0_verdictIn, Cond.selects RX0 yX0_verdictIn yX0_verdictIn, Cond.code yX0_verdictIn cX0_verdictIn 3 (some .int), Cond.fieldLink RX0 18 "TestPicker$History" "passedIn" "[J", Cond.methodLink RX4 240 yX0_fellLast, Cond.instanceMethod yX0_fellLast, Cond.selects RX0 yX0_fellLast yX0_fellLast, Cond.code yX0_fellLast cX0_fellLast 2 (some .boolean), Cond.methodLink RX4 171 yJ6_bitCount_0f7a4, Cond.static yJ6_bitCount_0f7a4]
def wsX4_digestOfTest_r3 : List Cond := [Cond.initialized RJ6, Cond.code yJ6_bitCount_0f7a4 cJ6_bitCount_0f7a4 1 (some .int), Cond.constant RJ6 265 (1431655765), Cond.constant RJ6 266 (858993459), Cond.constant RJ6 267 (252645135), Cond.methodLink RX4 77 yX3_reachByte, Cond.instanceMethod yX3_reachByte, Cond.selects RX3 yX3_reachByte yX3_reachByte, Cond.code yX3_reachByte cX3_reachByte 3 (some .int), Cond.fieldLink RX3 24 "TestPicker$Tests" "parts" "[J", Cond.constantLong RX3 36 (255)]
def wsX4_digestOfTest : List Cond := .code yX4_digestOfTest cX4_digestOfTest 7 (some .long) :: ((wsX4_digestOfTest_r1 ++ (wsX4_digestOfTest_r2 ++ wsX4_digestOfTest_r3)) ++ wsX40 ++ wsX30 ++ wsX00)
def wsX4_digest_r1 : List Cond := [Cond.constantLong RX4 222 (17), Cond.fieldLink RX4 10 "TestPicker" "tests" "LTestPicker$Tests;", Cond.fieldLink RX4 56 "TestPicker$Tests" "size" "I", Cond.fieldLink RX4 19 "TestPicker" "history" "LTestPicker$History;", Cond.fieldLink RX4 103 "TestPicker$History" "size" "I", Cond.constantLong RX4 228 (31), Cond.fieldLink RX4 118 "TestPicker$History" "changes" "[J", Cond.methodLink RX4 224 yX4_digestOfTest, Cond.instanceMethod yX4_digestOfTest, Cond.selects RX4 yX4_digestOfTest yX4_digestOfTest, Cond.initialized RX4, Cond.code yX4_digestOfTest cX4_digestOfTest 7 (some .long), Cond.fieldLink RX4 70 "TestPicker$Tests" "torn" "[Z", Cond.methodLink RX4 97 yX4_factOf, Cond.instanceMethod yX4_factOf, Cond.selects RX4 yX4_factOf yX4_factOf, Cond.code yX4_factOf cX4_factOf 3 (some .int), Cond.fieldLink RX4 63 "TestPicker$Tests" "kinds" "[I", Cond.fieldLink RX4 234 "TestPicker$Tests" "needs" "[I", Cond.fieldLink RX4 180 "TestPicker$Tests" "chains" "[I", Cond.methodLink RX4 183 yX3_countedTime, Cond.instanceMethod yX3_countedTime, Cond.selects RX3 yX3_countedTime yX3_countedTime, Cond.initialized RX3]
def wsX4_digest_r2 : List Cond := [Cond.code yX3_countedTime cX3_countedTime 2 (some .int), Cond.fieldLink RX3 9 "TestPicker$Tests" "kinds" "[I", Cond.fieldLink RX3 15 "TestPicker$Tests" "ownTimes" "[I", Cond.methodLink RX4 237 yX0_heat, Cond.instanceMethod yX0_heat, Cond.selects RX0 yX0_heat yX0_heat, Cond.initialized RX0, Cond.code yX0_heat cX0_heat 5 (some .int), Cond.fieldLink RX0 21 "TestPicker$History" "size" "I", Cond.fieldLink RX0 15 "TestPicker$History" "fellIn" "[J", Cond.constantLong RX0 27 (255), Cond.methodLink RX4 201 yX4_isFlaky, Cond.instanceMethod yX4_isFlaky, Cond.selects RX4 yX4_isFlaky yX4_isFlaky, Cond.code yX4_isFlaky cX4_isFlaky 2 (some .boolean), Cond.fieldLink RX4 85 "TestPicker$Tests" "parts" "[J", Cond.methodLink RX4 230 yX0_wavers, Cond.instanceMethod yX0_wavers, Cond.selects RX0 yX0_wavers yX0_wavers, Cond.code yX0_wavers cX0_wavers 9 (some .boolean), Cond.fieldLink RX0 9 "TestPicker$History" "changes" "[J", Cond.methodLink RX0 29 yX0_verdictIn, Cond.instanceMethod yX0_verdictIn, Cond.selects RX0 yX0_verdictIn yX0_verdictIn]
def wsX4_digest_r3 : List Cond := [Cond.code yX0_verdictIn cX0_verdictIn 3 (some .int), Cond.fieldLink RX0 18 "TestPicker$History" "passedIn" "[J", Cond.methodLink RX4 240 yX0_fellLast, Cond.instanceMethod yX0_fellLast, Cond.selects RX0 yX0_fellLast yX0_fellLast, Cond.code yX0_fellLast cX0_fellLast 2 (some .boolean), Cond.methodLink RX4 171 yJ6_bitCount_0f7a4, Cond.static yJ6_bitCount_0f7a4, Cond.initialized RJ6, Cond.code yJ6_bitCount_0f7a4 cJ6_bitCount_0f7a4 1 (some .int), Cond.constant RJ6 265 (1431655765), Cond.constant RJ6 266 (858993459), Cond.constant RJ6 267 (252645135), Cond.methodLink RX4 77 yX3_reachByte, Cond.instanceMethod yX3_reachByte, Cond.selects RX3 yX3_reachByte yX3_reachByte, Cond.code yX3_reachByte cX3_reachByte 3 (some .int), Cond.fieldLink RX3 24 "TestPicker$Tests" "parts" "[J", Cond.constantLong RX3 36 (255), Cond.methodLink RX4 110 yX0_verdictIn]
def wsX4_digest : List Cond := .code yX4_digest cX4_digest 5 (some .long) :: ((wsX4_digest_r1 ++ (wsX4_digest_r2 ++ wsX4_digest_r3)) ++ wsX40 ++ wsX30 ++ wsX00)
def wsX5_init : List Cond := .code yX5_init cX5_init 2 none :: ([.methodLink RX5 1 objectInit, .instanceMethod objectInit, .code objectInit ⟨#[0xb1]⟩ 1 none, .arrayClass .int, .fieldLink RX5 7 "TestPickerModel" "findings" "[I", .fieldLink RX5 13 "TestPickerModel" "kinds" "[I", .fieldLink RX5 16 "TestPickerModel" "times" "[I", .fieldLink RX5 19 "TestPickerModel" "needs" "[I", .arrayClass .boolean, .fieldLink RX5 22 "TestPickerModel" "missing" "[Z", .fieldLink RX5 26 "TestPickerModel" "bytes" "[I", .arrayClass .long, .fieldLink RX5 29 "TestPickerModel" "changes" "[J", .fieldLink RX5 33 "TestPickerModel" "verdicts" "[I", .fieldLink RX5 36 "TestPickerModel" "moving" "[I", .fieldLink RX5 39 "TestPickerModel" "pickMany" "I", .fieldLink RX5 43 "TestPickerModel" "picks" "[I", .fieldLink RX5 46 "TestPickerModel" "may" "[I"] ++ wsX50)
def wsX5_in : List Cond := .code yX5_in cX5_in 3 (some .boolean) :: ([])
def wsX5_meets : List Cond := .code yX5_meets cX5_meets 2 (some .int) :: ([.fieldLink RX5 49 "TestPickerModel" "finding" "I", .fieldLink RX5 7 "TestPickerModel" "findings" "[I"] ++ wsX50)
def wsX5_isTest : List Cond := .code yX5_isTest cX5_isTest 2 (some .boolean) :: ([.fieldLink RX5 52 "TestPickerModel" "tests" "I", .methodLink RX5 55 yX5_in, .static yX5_in, .initialized RX5, .code yX5_in cX5_in 3 (some .boolean)] ++ wsX50)
def wsX5_isBuild : List Cond := .code yX5_isBuild cX5_isBuild 2 (some .boolean) :: ([.fieldLink RX5 59 "TestPickerModel" "builds" "I", .methodLink RX5 55 yX5_in, .static yX5_in, .initialized RX5, .code yX5_in cX5_in 3 (some .boolean)] ++ wsX50)
def wsX5_test : List Cond := .code yX5_test cX5_test 4 (some .int) :: ([.fieldLink RX5 52 "TestPickerModel" "tests" "I", .fieldLink RX5 13 "TestPickerModel" "kinds" "[I", .fieldLink RX5 16 "TestPickerModel" "times" "[I", .fieldLink RX5 19 "TestPickerModel" "needs" "[I", .methodLink RX5 55 yX5_in, .static yX5_in, .initialized RX5, .code yX5_in cX5_in 3 (some .boolean), .methodLink RX5 62 yX5_isTest, .instanceMethod yX5_isTest, .selects RX5 yX5_isTest yX5_isTest, .code yX5_isTest cX5_isTest 2 (some .boolean)] ++ wsX50)
def wsX5_turn : List Cond := .code yX5_turn cX5_turn 4 (some .int) :: ([.fieldLink RX5 13 "TestPickerModel" "kinds" "[I", .methodLink RX5 62 yX5_isTest, .instanceMethod yX5_isTest, .selects RX5 yX5_isTest yX5_isTest, .initialized RX5, .code yX5_isTest cX5_isTest 2 (some .boolean), .fieldLink RX5 52 "TestPickerModel" "tests" "I", .methodLink RX5 55 yX5_in, .static yX5_in, .code yX5_in cX5_in 3 (some .boolean), .methodLink RX5 66 yX5_meets, .instanceMethod yX5_meets, .selects RX5 yX5_meets yX5_meets, .code yX5_meets cX5_meets 2 (some .int), .fieldLink RX5 49 "TestPickerModel" "finding" "I", .fieldLink RX5 7 "TestPickerModel" "findings" "[I"] ++ wsX50)
def wsX5_reach : List Cond := .code yX5_reach cX5_reach 5 (some .int) :: ([.fieldLink RX5 22 "TestPickerModel" "missing" "[Z", .fieldLink RX5 26 "TestPickerModel" "bytes" "[I", .methodLink RX5 62 yX5_isTest, .instanceMethod yX5_isTest, .selects RX5 yX5_isTest yX5_isTest, .initialized RX5, .code yX5_isTest cX5_isTest 2 (some .boolean), .fieldLink RX5 52 "TestPickerModel" "tests" "I", .methodLink RX5 55 yX5_in, .static yX5_in, .code yX5_in cX5_in 3 (some .boolean), .methodLink RX5 66 yX5_meets, .instanceMethod yX5_meets, .selects RX5 yX5_meets yX5_meets, .code yX5_meets cX5_meets 2 (some .int), .fieldLink RX5 49 "TestPickerModel" "finding" "I", .fieldLink RX5 7 "TestPickerModel" "findings" "[I"] ++ wsX50)
def wsX5_byteOf : List Cond := .code yX5_byteOf cX5_byteOf 3 (some .int) :: ([.fieldLink RX5 22 "TestPickerModel" "missing" "[Z", .fieldLink RX5 26 "TestPickerModel" "bytes" "[I", .methodLink RX5 62 yX5_isTest, .instanceMethod yX5_isTest, .selects RX5 yX5_isTest yX5_isTest, .initialized RX5, .code yX5_isTest cX5_isTest 2 (some .boolean), .fieldLink RX5 52 "TestPickerModel" "tests" "I", .methodLink RX5 55 yX5_in, .static yX5_in, .code yX5_in cX5_in 3 (some .boolean), .methodLink RX5 66 yX5_meets, .instanceMethod yX5_meets, .selects RX5 yX5_meets yX5_meets, .code yX5_meets cX5_meets 2 (some .int), .fieldLink RX5 49 "TestPickerModel" "finding" "I", .fieldLink RX5 7 "TestPickerModel" "findings" "[I"] ++ wsX50)
def wsX5_tear : List Cond := .code yX5_tear cX5_tear 2 (some .int) :: ([.fieldLink RX5 22 "TestPickerModel" "missing" "[Z", .methodLink RX5 62 yX5_isTest, .instanceMethod yX5_isTest, .selects RX5 yX5_isTest yX5_isTest, .initialized RX5, .code yX5_isTest cX5_isTest 2 (some .boolean), .fieldLink RX5 52 "TestPickerModel" "tests" "I", .methodLink RX5 55 yX5_in, .static yX5_in, .code yX5_in cX5_in 3 (some .boolean), .methodLink RX5 66 yX5_meets, .instanceMethod yX5_meets, .selects RX5 yX5_meets yX5_meets, .code yX5_meets cX5_meets 2 (some .int), .fieldLink RX5 49 "TestPickerModel" "finding" "I", .fieldLink RX5 7 "TestPickerModel" "findings" "[I"] ++ wsX50)
def wsX5_anew : List Cond := .code yX5_anew cX5_anew 4 (some .int) :: ([.fieldLink RX5 22 "TestPickerModel" "missing" "[Z", .fieldLink RX5 26 "TestPickerModel" "bytes" "[I", .methodLink RX5 62 yX5_isTest, .instanceMethod yX5_isTest, .selects RX5 yX5_isTest yX5_isTest, .initialized RX5, .code yX5_isTest cX5_isTest 2 (some .boolean), .fieldLink RX5 52 "TestPickerModel" "tests" "I", .methodLink RX5 55 yX5_in, .static yX5_in, .code yX5_in cX5_in 3 (some .boolean)] ++ wsX50)
def wsX5_copy : List Cond := .code yX5_copy cX5_copy 7 (some .int) :: ([.fieldLink RX5 22 "TestPickerModel" "missing" "[Z", .constantLong RX5 70 (5), .fieldLink RX5 36 "TestPickerModel" "moving" "[I", .fieldLink RX5 26 "TestPickerModel" "bytes" "[I", .methodLink RX5 62 yX5_isTest, .instanceMethod yX5_isTest, .selects RX5 yX5_isTest yX5_isTest, .initialized RX5, .code yX5_isTest cX5_isTest 2 (some .boolean), .fieldLink RX5 52 "TestPickerModel" "tests" "I", .methodLink RX5 55 yX5_in, .static yX5_in, .code yX5_in cX5_in 3 (some .boolean), .methodLink RX5 66 yX5_meets, .instanceMethod yX5_meets, .selects RX5 yX5_meets yX5_meets, .code yX5_meets cX5_meets 2 (some .int), .fieldLink RX5 49 "TestPickerModel" "finding" "I", .fieldLink RX5 7 "TestPickerModel" "findings" "[I"] ++ wsX50)
def wsX5_reachOf : List Cond := .code yX5_reachOf cX5_reachOf 5 (some .long) :: ([.fieldLink RX5 22 "TestPickerModel" "missing" "[Z", .fieldLink RX5 26 "TestPickerModel" "bytes" "[I"] ++ wsX50)
def wsX5_timeOf : List Cond := .code yX5_timeOf cX5_timeOf 2 (some .int) :: ([.fieldLink RX5 13 "TestPickerModel" "kinds" "[I", .fieldLink RX5 16 "TestPickerModel" "times" "[I"] ++ wsX50)
def wsX5_chainOf : List Cond := .code yX5_chainOf cX5_chainOf 4 (some .int) :: ([.fieldLink RX5 19 "TestPickerModel" "needs" "[I"] ++ wsX50)
def wsX5_bits : List Cond := .code yX5_bits cX5_bits 4 (some .int) :: ([])
def wsX5_has : List Cond := .code yX5_has cX5_has 2 (some .boolean) :: ([])
def wsX5_heatOf : List Cond := .code yX5_heatOf cX5_heatOf 4 (some .int) :: ([.fieldLink RX5 59 "TestPickerModel" "builds" "I", .fieldLink RX5 33 "TestPickerModel" "verdicts" "[I"] ++ wsX50)
def wsX5_isFlaky : List Cond := .code yX5_isFlaky cX5_isFlaky 9 (some .boolean) :: ([.fieldLink RX5 59 "TestPickerModel" "builds" "I", .fieldLink RX5 29 "TestPickerModel" "changes" "[J", .fieldLink RX5 33 "TestPickerModel" "verdicts" "[I", .methodLink RX5 72 yX5_reachOf, .instanceMethod yX5_reachOf, .selects RX5 yX5_reachOf yX5_reachOf, .initialized RX5, .code yX5_reachOf cX5_reachOf 5 (some .long), .fieldLink RX5 22 "TestPickerModel" "missing" "[Z", .fieldLink RX5 26 "TestPickerModel" "bytes" "[I"] ++ wsX50)
def wsX5_isBroken : List Cond := .code yX5_isBroken cX5_isBroken 4 (some .boolean) :: ([.fieldLink RX5 59 "TestPickerModel" "builds" "I", .fieldLink RX5 33 "TestPickerModel" "verdicts" "[I", .methodLink RX5 76 yX5_isFlaky, .instanceMethod yX5_isFlaky, .selects RX5 yX5_isFlaky yX5_isFlaky, .initialized RX5, .code yX5_isFlaky cX5_isFlaky 9 (some .boolean), .fieldLink RX5 29 "TestPickerModel" "changes" "[J", .methodLink RX5 72 yX5_reachOf, .instanceMethod yX5_reachOf, .selects RX5 yX5_reachOf yX5_reachOf, .code yX5_reachOf cX5_reachOf 5 (some .long), .fieldLink RX5 22 "TestPickerModel" "missing" "[Z", .fieldLink RX5 26 "TestPickerModel" "bytes" "[I"] ++ wsX50)
def wsX5_tells_r1 : List Cond := [Cond.fieldLink RX5 13 "TestPickerModel" "kinds" "[I", Cond.fieldLink RX5 19 "TestPickerModel" "needs" "[I", Cond.methodLink RX5 79 yX5_timeOf, Cond.instanceMethod yX5_timeOf, Cond.selects RX5 yX5_timeOf yX5_timeOf, Cond.initialized RX5, Cond.code yX5_timeOf cX5_timeOf 2 (some .int), Cond.fieldLink RX5 16 "TestPickerModel" "times" "[I", Cond.methodLink RX5 82 yX5_heatOf, Cond.instanceMethod yX5_heatOf, Cond.selects RX5 yX5_heatOf yX5_heatOf, Cond.code yX5_heatOf cX5_heatOf 4 (some .int), Cond.fieldLink RX5 59 "TestPickerModel" "builds" "I", Cond.fieldLink RX5 33 "TestPickerModel" "verdicts" "[I", Cond.methodLink RX5 76 yX5_isFlaky, Cond.instanceMethod yX5_isFlaky, Cond.selects RX5 yX5_isFlaky yX5_isFlaky, Cond.code yX5_isFlaky cX5_isFlaky 9 (some .boolean), Cond.fieldLink RX5 29 "TestPickerModel" "changes" "[J", Cond.methodLink RX5 72 yX5_reachOf, Cond.instanceMethod yX5_reachOf, Cond.selects RX5 yX5_reachOf yX5_reachOf, Cond.code yX5_reachOf cX5_reachOf 5 (some .long), Cond.fieldLink RX5 22 "TestPickerModel" "missing" "[Z"]
def wsX5_tells_r2 : List Cond := [Cond.fieldLink RX5 26 "TestPickerModel" "bytes" "[I", Cond.methodLink RX5 85 yX5_isBroken, Cond.instanceMethod yX5_isBroken, Cond.selects RX5 yX5_isBroken yX5_isBroken, Cond.code yX5_isBroken cX5_isBroken 4 (some .boolean), Cond.methodLink RX5 88 yX5_chainOf, Cond.instanceMethod yX5_chainOf, Cond.selects RX5 yX5_chainOf yX5_chainOf, Cond.code yX5_chainOf cX5_chainOf 4 (some .int), Cond.methodLink RX5 91 yX5_bits, Cond.static yX5_bits, Cond.code yX5_bits cX5_bits 4 (some .int)]
def wsX5_tells : List Cond := .code yX5_tells cX5_tells 3 (some .int) :: ((wsX5_tells_r1 ++ wsX5_tells_r2) ++ wsX50)
def wsX5_told_r1 : List Cond := [Cond.methodLink RX5 62 yX5_isTest, Cond.instanceMethod yX5_isTest, Cond.selects RX5 yX5_isTest yX5_isTest, Cond.initialized RX5, Cond.code yX5_isTest cX5_isTest 2 (some .boolean), Cond.fieldLink RX5 52 "TestPickerModel" "tests" "I", Cond.methodLink RX5 55 yX5_in, Cond.static yX5_in, Cond.code yX5_in cX5_in 3 (some .boolean), Cond.methodLink RX5 95 yX5_tells, Cond.instanceMethod yX5_tells, Cond.selects RX5 yX5_tells yX5_tells, Cond.code yX5_tells cX5_tells 3 (some .int), Cond.fieldLink RX5 13 "TestPickerModel" "kinds" "[I", Cond.fieldLink RX5 19 "TestPickerModel" "needs" "[I", Cond.methodLink RX5 79 yX5_timeOf, Cond.instanceMethod yX5_timeOf, Cond.selects RX5 yX5_timeOf yX5_timeOf, Cond.code yX5_timeOf cX5_timeOf 2 (some .int), Cond.fieldLink RX5 16 "TestPickerModel" "times" "[I", Cond.methodLink RX5 82 yX5_heatOf, Cond.instanceMethod yX5_heatOf, Cond.selects RX5 yX5_heatOf yX5_heatOf, Cond.code yX5_heatOf cX5_heatOf 4 (some .int)]
def wsX5_told_r2 : List Cond := [Cond.fieldLink RX5 59 "TestPickerModel" "builds" "I", Cond.fieldLink RX5 33 "TestPickerModel" "verdicts" "[I", Cond.methodLink RX5 76 yX5_isFlaky, Cond.instanceMethod yX5_isFlaky, Cond.selects RX5 yX5_isFlaky yX5_isFlaky, Cond.code yX5_isFlaky cX5_isFlaky 9 (some .boolean), Cond.fieldLink RX5 29 "TestPickerModel" "changes" "[J", Cond.methodLink RX5 72 yX5_reachOf, Cond.instanceMethod yX5_reachOf, Cond.selects RX5 yX5_reachOf yX5_reachOf, Cond.code yX5_reachOf cX5_reachOf 5 (some .long), Cond.fieldLink RX5 22 "TestPickerModel" "missing" "[Z", Cond.fieldLink RX5 26 "TestPickerModel" "bytes" "[I", Cond.methodLink RX5 85 yX5_isBroken, Cond.instanceMethod yX5_isBroken, Cond.selects RX5 yX5_isBroken yX5_isBroken, Cond.code yX5_isBroken cX5_isBroken 4 (some .boolean), Cond.methodLink RX5 88 yX5_chainOf, Cond.instanceMethod yX5_chainOf, Cond.selects RX5 yX5_chainOf yX5_chainOf, Cond.code yX5_chainOf cX5_chainOf 4 (some .int), Cond.methodLink RX5 91 yX5_bits, Cond.static yX5_bits, Cond.code yX5_bits cX5_bits 4 (some .int)]
def wsX5_told : List Cond := .code yX5_told cX5_told 3 (some .int) :: ((wsX5_told_r1 ++ wsX5_told_r2) ++ wsX50)
def wsX5_time : List Cond := .code yX5_time cX5_time 3 (some .int) :: ([.fieldLink RX5 13 "TestPickerModel" "kinds" "[I", .fieldLink RX5 16 "TestPickerModel" "times" "[I", .methodLink RX5 62 yX5_isTest, .instanceMethod yX5_isTest, .selects RX5 yX5_isTest yX5_isTest, .initialized RX5, .code yX5_isTest cX5_isTest 2 (some .boolean), .fieldLink RX5 52 "TestPickerModel" "tests" "I", .methodLink RX5 55 yX5_in, .static yX5_in, .code yX5_in cX5_in 3 (some .boolean), .methodLink RX5 66 yX5_meets, .instanceMethod yX5_meets, .selects RX5 yX5_meets yX5_meets, .code yX5_meets cX5_meets 2 (some .int), .fieldLink RX5 49 "TestPickerModel" "finding" "I", .fieldLink RX5 7 "TestPickerModel" "findings" "[I"] ++ wsX50)
def wsX5_build : List Cond := .code yX5_build cX5_build 3 (some .int) :: ([.constantLong RX5 99 (-1099511627776), .fieldLink RX5 59 "TestPickerModel" "builds" "I", .fieldLink RX5 29 "TestPickerModel" "changes" "[J", .fieldLink RX5 39 "TestPickerModel" "pickMany" "I"] ++ wsX50)
def wsX5_judge : List Cond := .code yX5_judge cX5_judge 5 (some .int) :: ([.fieldLink RX5 59 "TestPickerModel" "builds" "I", .fieldLink RX5 33 "TestPickerModel" "verdicts" "[I"] ++ wsX50)
def wsX5_verdict : List Cond := .code yX5_verdict cX5_verdict 3 (some .int) :: ([.fieldLink RX5 59 "TestPickerModel" "builds" "I", .methodLink RX5 62 yX5_isTest, .instanceMethod yX5_isTest, .selects RX5 yX5_isTest yX5_isTest, .initialized RX5, .code yX5_isTest cX5_isTest 2 (some .boolean), .fieldLink RX5 52 "TestPickerModel" "tests" "I", .methodLink RX5 55 yX5_in, .static yX5_in, .code yX5_in cX5_in 3 (some .boolean), .methodLink RX5 101 yX5_judge, .instanceMethod yX5_judge, .selects RX5 yX5_judge yX5_judge, .code yX5_judge cX5_judge 5 (some .int), .fieldLink RX5 33 "TestPickerModel" "verdicts" "[I"] ++ wsX50)
def wsX5_was : List Cond := .code yX5_was cX5_was 3 (some .int) :: ([.fieldLink RX5 33 "TestPickerModel" "verdicts" "[I", .methodLink RX5 62 yX5_isTest, .instanceMethod yX5_isTest, .selects RX5 yX5_isTest yX5_isTest, .initialized RX5, .code yX5_isTest cX5_isTest 2 (some .boolean), .fieldLink RX5 52 "TestPickerModel" "tests" "I", .methodLink RX5 55 yX5_in, .static yX5_in, .code yX5_in cX5_in 3 (some .boolean), .methodLink RX5 105 yX5_isBuild, .instanceMethod yX5_isBuild, .selects RX5 yX5_isBuild yX5_isBuild, .code yX5_isBuild cX5_isBuild 2 (some .boolean), .fieldLink RX5 59 "TestPickerModel" "builds" "I"] ++ wsX50)
def wsX5_change : List Cond := .code yX5_change cX5_change 2 (some .int) :: ([.fieldLink RX5 29 "TestPickerModel" "changes" "[J", .fieldLink RX5 108 "TestPickerModel" "asked" "J", .methodLink RX5 105 yX5_isBuild, .instanceMethod yX5_isBuild, .selects RX5 yX5_isBuild yX5_isBuild, .initialized RX5, .code yX5_isBuild cX5_isBuild 2 (some .boolean), .fieldLink RX5 59 "TestPickerModel" "builds" "I", .methodLink RX5 55 yX5_in, .static yX5_in, .code yX5_in cX5_in 3 (some .boolean)] ++ wsX50)
def wsX5_often : List Cond := .code yX5_often cX5_often 6 (some .int) :: ([.fieldLink RX5 59 "TestPickerModel" "builds" "I", .fieldLink RX5 33 "TestPickerModel" "verdicts" "[I", .methodLink RX5 62 yX5_isTest, .instanceMethod yX5_isTest, .selects RX5 yX5_isTest yX5_isTest, .initialized RX5, .code yX5_isTest cX5_isTest 2 (some .boolean), .fieldLink RX5 52 "TestPickerModel" "tests" "I", .methodLink RX5 55 yX5_in, .static yX5_in, .code yX5_in cX5_in 3 (some .boolean)] ++ wsX50)
def wsX5_mayBe : List Cond := .code yX5_mayBe cX5_mayBe 4 (some .boolean) :: ([.fieldLink RX5 13 "TestPickerModel" "kinds" "[I", .fieldLink RX5 22 "TestPickerModel" "missing" "[Z", .fieldLink RX5 19 "TestPickerModel" "needs" "[I"] ++ wsX50)
def wsX5_reachOfSet : List Cond := .code yX5_reachOfSet cX5_reachOfSet 5 (some .long) :: ([.fieldLink RX5 52 "TestPickerModel" "tests" "I", .methodLink RX5 112 yX5_has, .static yX5_has, .initialized RX5, .code yX5_has cX5_has 2 (some .boolean), .methodLink RX5 72 yX5_reachOf, .instanceMethod yX5_reachOf, .selects RX5 yX5_reachOf yX5_reachOf, .code yX5_reachOf cX5_reachOf 5 (some .long), .fieldLink RX5 22 "TestPickerModel" "missing" "[Z", .fieldLink RX5 26 "TestPickerModel" "bytes" "[I"] ++ wsX50)
def wsX5_timeOfSet : List Cond := .code yX5_timeOfSet cX5_timeOfSet 4 (some .int) :: ([.fieldLink RX5 52 "TestPickerModel" "tests" "I", .methodLink RX5 112 yX5_has, .static yX5_has, .initialized RX5, .code yX5_has cX5_has 2 (some .boolean), .methodLink RX5 79 yX5_timeOf, .instanceMethod yX5_timeOf, .selects RX5 yX5_timeOf yX5_timeOf, .code yX5_timeOf cX5_timeOf 2 (some .int), .fieldLink RX5 13 "TestPickerModel" "kinds" "[I", .fieldLink RX5 16 "TestPickerModel" "times" "[I"] ++ wsX50)
def wsX5_take : List Cond := .code yX5_take cX5_take 4 none :: ([.fieldLink RX5 116 "TestPickerModel" "pickSet" "I", .fieldLink RX5 52 "TestPickerModel" "tests" "I", .fieldLink RX5 43 "TestPickerModel" "picks" "[I", .fieldLink RX5 39 "TestPickerModel" "pickMany" "I", .methodLink RX5 88 yX5_chainOf, .instanceMethod yX5_chainOf, .selects RX5 yX5_chainOf yX5_chainOf, .initialized RX5, .code yX5_chainOf cX5_chainOf 4 (some .int), .fieldLink RX5 19 "TestPickerModel" "needs" "[I", .methodLink RX5 112 yX5_has, .static yX5_has, .code yX5_has cX5_has 2 (some .boolean)] ++ wsX50)
def wsX5_pick_r1 : List Cond := [Cond.fieldLink RX5 59 "TestPickerModel" "builds" "I", Cond.fieldLink RX5 29 "TestPickerModel" "changes" "[J", Cond.fieldLink RX5 39 "TestPickerModel" "pickMany" "I", Cond.fieldLink RX5 116 "TestPickerModel" "pickSet" "I", Cond.constantLong RX5 122 (-1), Cond.fieldLink RX5 52 "TestPickerModel" "tests" "I", Cond.fieldLink RX5 134 "TestPickerModel" "pickTime" "I", Cond.fieldLink RX5 137 "TestPickerModel" "pickParts" "I", Cond.methodLink RX5 55 yX5_in, Cond.static yX5_in, Cond.initialized RX5, Cond.code yX5_in cX5_in 3 (some .boolean), Cond.methodLink RX5 119 yX5_reachOfSet, Cond.instanceMethod yX5_reachOfSet, Cond.selects RX5 yX5_reachOfSet yX5_reachOfSet, Cond.code yX5_reachOfSet cX5_reachOfSet 5 (some .long), Cond.methodLink RX5 112 yX5_has, Cond.static yX5_has, Cond.code yX5_has cX5_has 2 (some .boolean), Cond.methodLink RX5 72 yX5_reachOf, Cond.instanceMethod yX5_reachOf, Cond.selects RX5 yX5_reachOf yX5_reachOf, Cond.code yX5_reachOf cX5_reachOf 5 (some .long), Cond.fieldLink RX5 22 "TestPickerModel" "missing" "[Z"]
def wsX5_pick_r2 : List Cond := [Cond.fieldLink RX5 26 "TestPickerModel" "bytes" "[I", Cond.methodLink RX5 88 yX5_chainOf, Cond.instanceMethod yX5_chainOf, Cond.selects RX5 yX5_chainOf yX5_chainOf, Cond.code yX5_chainOf cX5_chainOf 4 (some .int), Cond.fieldLink RX5 19 "TestPickerModel" "needs" "[I", Cond.methodLink RX5 124 yX5_mayBe, Cond.instanceMethod yX5_mayBe, Cond.selects RX5 yX5_mayBe yX5_mayBe, Cond.code yX5_mayBe cX5_mayBe 4 (some .boolean), Cond.fieldLink RX5 13 "TestPickerModel" "kinds" "[I", Cond.methodLink RX5 91 yX5_bits, Cond.static yX5_bits, Cond.code yX5_bits cX5_bits 4 (some .int), Cond.methodLink RX5 82 yX5_heatOf, Cond.instanceMethod yX5_heatOf, Cond.selects RX5 yX5_heatOf yX5_heatOf, Cond.code yX5_heatOf cX5_heatOf 4 (some .int), Cond.fieldLink RX5 33 "TestPickerModel" "verdicts" "[I", Cond.methodLink RX5 127 yX5_timeOfSet, Cond.instanceMethod yX5_timeOfSet, Cond.selects RX5 yX5_timeOfSet yX5_timeOfSet, Cond.code yX5_timeOfSet cX5_timeOfSet 4 (some .int), Cond.methodLink RX5 79 yX5_timeOf]
def wsX5_pick_r3 : List Cond := [Cond.instanceMethod yX5_timeOf, Cond.selects RX5 yX5_timeOf yX5_timeOf, Cond.code yX5_timeOf cX5_timeOf 2 (some .int), Cond.fieldLink RX5 16 "TestPickerModel" "times" "[I", Cond.methodLink RX5 130 yX5_take, Cond.instanceMethod yX5_take, Cond.selects RX5 yX5_take yX5_take, Cond.code yX5_take cX5_take 4 none, Cond.fieldLink RX5 43 "TestPickerModel" "picks" "[I"]
def wsX5_pick : List Cond := .code yX5_pick cX5_pick 18 (some .int) :: ((wsX5_pick_r1 ++ (wsX5_pick_r2 ++ wsX5_pick_r3)) ++ wsX50)
def wsX5_picked : List Cond := .code yX5_picked cX5_picked 2 (some .int) :: ([.fieldLink RX5 39 "TestPickerModel" "pickMany" "I", .fieldLink RX5 43 "TestPickerModel" "picks" "[I", .methodLink RX5 55 yX5_in, .static yX5_in, .initialized RX5, .code yX5_in cX5_in 3 (some .boolean)] ++ wsX50)
def wsX5_about : List Cond := .code yX5_about cX5_about 2 (some .int) :: ([.fieldLink RX5 39 "TestPickerModel" "pickMany" "I", .fieldLink RX5 134 "TestPickerModel" "pickTime" "I", .fieldLink RX5 137 "TestPickerModel" "pickParts" "I", .fieldLink RX5 116 "TestPickerModel" "pickSet" "I", .methodLink RX5 55 yX5_in, .static yX5_in, .initialized RX5, .code yX5_in cX5_in 3 (some .boolean)] ++ wsX50)
def wsX5_setOf : List Cond := .code yX5_setOf cX5_setOf 5 (some .int) :: ([.fieldLink RX5 46 "TestPickerModel" "may" "[I", .methodLink RX5 112 yX5_has, .static yX5_has, .initialized RX5, .code yX5_has cX5_has 2 (some .boolean)] ++ wsX50)
def wsX5_best_r1 : List Cond := [Cond.fieldLink RX5 59 "TestPickerModel" "builds" "I", Cond.fieldLink RX5 52 "TestPickerModel" "tests" "I", Cond.fieldLink RX5 46 "TestPickerModel" "may" "[I", Cond.fieldLink RX5 29 "TestPickerModel" "changes" "[J", Cond.fieldLink RX5 108 "TestPickerModel" "asked" "J", Cond.methodLink RX5 55 yX5_in, Cond.static yX5_in, Cond.initialized RX5, Cond.code yX5_in cX5_in 3 (some .boolean), Cond.methodLink RX5 124 yX5_mayBe, Cond.instanceMethod yX5_mayBe, Cond.selects RX5 yX5_mayBe yX5_mayBe, Cond.code yX5_mayBe cX5_mayBe 4 (some .boolean), Cond.fieldLink RX5 13 "TestPickerModel" "kinds" "[I", Cond.fieldLink RX5 22 "TestPickerModel" "missing" "[Z", Cond.fieldLink RX5 19 "TestPickerModel" "needs" "[I", Cond.methodLink RX5 140 yX5_setOf, Cond.instanceMethod yX5_setOf, Cond.selects RX5 yX5_setOf yX5_setOf, Cond.code yX5_setOf cX5_setOf 5 (some .int), Cond.methodLink RX5 112 yX5_has, Cond.static yX5_has, Cond.code yX5_has cX5_has 2 (some .boolean), Cond.methodLink RX5 119 yX5_reachOfSet]
def wsX5_best_r2 : List Cond := [Cond.instanceMethod yX5_reachOfSet, Cond.selects RX5 yX5_reachOfSet yX5_reachOfSet, Cond.code yX5_reachOfSet cX5_reachOfSet 5 (some .long), Cond.methodLink RX5 72 yX5_reachOf, Cond.instanceMethod yX5_reachOf, Cond.selects RX5 yX5_reachOf yX5_reachOf, Cond.code yX5_reachOf cX5_reachOf 5 (some .long), Cond.fieldLink RX5 26 "TestPickerModel" "bytes" "[I", Cond.methodLink RX5 91 yX5_bits, Cond.static yX5_bits, Cond.code yX5_bits cX5_bits 4 (some .int), Cond.methodLink RX5 127 yX5_timeOfSet, Cond.instanceMethod yX5_timeOfSet, Cond.selects RX5 yX5_timeOfSet yX5_timeOfSet, Cond.code yX5_timeOfSet cX5_timeOfSet 4 (some .int), Cond.methodLink RX5 79 yX5_timeOf, Cond.instanceMethod yX5_timeOf, Cond.selects RX5 yX5_timeOf yX5_timeOf, Cond.code yX5_timeOf cX5_timeOf 2 (some .int), Cond.fieldLink RX5 16 "TestPickerModel" "times" "[I", Cond.methodLink RX5 88 yX5_chainOf, Cond.instanceMethod yX5_chainOf, Cond.selects RX5 yX5_chainOf yX5_chainOf, Cond.code yX5_chainOf cX5_chainOf 4 (some .int)]
def wsX5_best : List Cond := .code yX5_best cX5_best 12 (some .int) :: ((wsX5_best_r1 ++ wsX5_best_r2) ++ wsX50)
def wsX5_areTests : List Cond := .code yX5_areTests cX5_areTests 2 (some .boolean) :: ([.fieldLink RX5 52 "TestPickerModel" "tests" "I"] ++ wsX50)
def wsX5_run : List Cond := .code yX5_run cX5_run 7 (some .int) :: ([.fieldLink RX5 39 "TestPickerModel" "pickMany" "I", .fieldLink RX5 43 "TestPickerModel" "picks" "[I", .methodLink RX5 143 yX5_areTests, .instanceMethod yX5_areTests, .selects RX5 yX5_areTests yX5_areTests, .initialized RX5, .code yX5_areTests cX5_areTests 2 (some .boolean), .fieldLink RX5 52 "TestPickerModel" "tests" "I", .methodLink RX5 88 yX5_chainOf, .instanceMethod yX5_chainOf, .selects RX5 yX5_chainOf yX5_chainOf, .code yX5_chainOf cX5_chainOf 4 (some .int), .fieldLink RX5 19 "TestPickerModel" "needs" "[I", .methodLink RX5 112 yX5_has, .static yX5_has, .code yX5_has cX5_has 2 (some .boolean), .methodLink RX5 101 yX5_judge, .instanceMethod yX5_judge, .selects RX5 yX5_judge yX5_judge, .code yX5_judge cX5_judge 5 (some .int), .fieldLink RX5 59 "TestPickerModel" "builds" "I", .fieldLink RX5 33 "TestPickerModel" "verdicts" "[I"] ++ wsX50)
def wsX5_suspects : List Cond := .code yX5_suspects cX5_suspects 7 (some .int) :: ([.fieldLink RX5 59 "TestPickerModel" "builds" "I", .fieldLink RX5 52 "TestPickerModel" "tests" "I", .fieldLink RX5 33 "TestPickerModel" "verdicts" "[I", .fieldLink RX5 29 "TestPickerModel" "changes" "[J", .constantLong RX5 122 (-1), .fieldLink RX5 108 "TestPickerModel" "asked" "J", .methodLink RX5 76 yX5_isFlaky, .instanceMethod yX5_isFlaky, .selects RX5 yX5_isFlaky yX5_isFlaky, .initialized RX5, .code yX5_isFlaky cX5_isFlaky 9 (some .boolean), .methodLink RX5 72 yX5_reachOf, .instanceMethod yX5_reachOf, .selects RX5 yX5_reachOf yX5_reachOf, .code yX5_reachOf cX5_reachOf 5 (some .long), .fieldLink RX5 22 "TestPickerModel" "missing" "[Z", .fieldLink RX5 26 "TestPickerModel" "bytes" "[I", .methodLink RX5 91 yX5_bits, .static yX5_bits, .code yX5_bits cX5_bits 4 (some .int)] ++ wsX50)
def wsX5_badWork : List Cond := .code yX5_badWork cX5_badWork 3 (some .int) :: ([.fieldLink RX5 59 "TestPickerModel" "builds" "I", .fieldLink RX5 52 "TestPickerModel" "tests" "I", .fieldLink RX5 33 "TestPickerModel" "verdicts" "[I", .methodLink RX5 76 yX5_isFlaky, .instanceMethod yX5_isFlaky, .selects RX5 yX5_isFlaky yX5_isFlaky, .initialized RX5, .code yX5_isFlaky cX5_isFlaky 9 (some .boolean), .fieldLink RX5 29 "TestPickerModel" "changes" "[J", .methodLink RX5 72 yX5_reachOf, .instanceMethod yX5_reachOf, .selects RX5 yX5_reachOf yX5_reachOf, .code yX5_reachOf cX5_reachOf 5 (some .long), .fieldLink RX5 22 "TestPickerModel" "missing" "[Z", .fieldLink RX5 26 "TestPickerModel" "bytes" "[I"] ++ wsX50)
def wsX5_fellOf : List Cond := .code yX5_fellOf cX5_fellOf 5 (some .int) :: ([.fieldLink RX5 52 "TestPickerModel" "tests" "I", .fieldLink RX5 33 "TestPickerModel" "verdicts" "[I", .methodLink RX5 112 yX5_has, .static yX5_has, .initialized RX5, .code yX5_has cX5_has 2 (some .boolean)] ++ wsX50)
def wsX5_counting : List Cond := .code yX5_counting cX5_counting 3 (some .int) :: ([.fieldLink RX5 52 "TestPickerModel" "tests" "I", .fieldLink RX5 13 "TestPickerModel" "kinds" "[I", .methodLink RX5 76 yX5_isFlaky, .instanceMethod yX5_isFlaky, .selects RX5 yX5_isFlaky yX5_isFlaky, .initialized RX5, .code yX5_isFlaky cX5_isFlaky 9 (some .boolean), .fieldLink RX5 59 "TestPickerModel" "builds" "I", .fieldLink RX5 29 "TestPickerModel" "changes" "[J", .fieldLink RX5 33 "TestPickerModel" "verdicts" "[I", .methodLink RX5 72 yX5_reachOf, .instanceMethod yX5_reachOf, .selects RX5 yX5_reachOf yX5_reachOf, .code yX5_reachOf cX5_reachOf 5 (some .long), .fieldLink RX5 22 "TestPickerModel" "missing" "[Z", .fieldLink RX5 26 "TestPickerModel" "bytes" "[I"] ++ wsX50)
def wsX5_fewest_r1 : List Cond := [Cond.fieldLink RX5 59 "TestPickerModel" "builds" "I", Cond.fieldLink RX5 52 "TestPickerModel" "tests" "I", Cond.fieldLink RX5 46 "TestPickerModel" "may" "[I", Cond.fieldLink RX5 108 "TestPickerModel" "asked" "J", Cond.methodLink RX5 146 yX5_counting, Cond.instanceMethod yX5_counting, Cond.selects RX5 yX5_counting yX5_counting, Cond.initialized RX5, Cond.code yX5_counting cX5_counting 3 (some .int), Cond.fieldLink RX5 13 "TestPickerModel" "kinds" "[I", Cond.methodLink RX5 76 yX5_isFlaky, Cond.instanceMethod yX5_isFlaky, Cond.selects RX5 yX5_isFlaky yX5_isFlaky, Cond.code yX5_isFlaky cX5_isFlaky 9 (some .boolean), Cond.fieldLink RX5 29 "TestPickerModel" "changes" "[J", Cond.fieldLink RX5 33 "TestPickerModel" "verdicts" "[I", Cond.methodLink RX5 72 yX5_reachOf, Cond.instanceMethod yX5_reachOf, Cond.selects RX5 yX5_reachOf yX5_reachOf, Cond.code yX5_reachOf cX5_reachOf 5 (some .long), Cond.fieldLink RX5 22 "TestPickerModel" "missing" "[Z", Cond.fieldLink RX5 26 "TestPickerModel" "bytes" "[I", Cond.methodLink RX5 150 yX5_fellOf, Cond.instanceMethod yX5_fellOf]
def wsX5_fewest_r2 : List Cond := [Cond.selects RX5 yX5_fellOf yX5_fellOf, Cond.code yX5_fellOf cX5_fellOf 5 (some .int), Cond.methodLink RX5 112 yX5_has, Cond.static yX5_has, Cond.code yX5_has cX5_has 2 (some .boolean), Cond.methodLink RX5 140 yX5_setOf, Cond.instanceMethod yX5_setOf, Cond.selects RX5 yX5_setOf yX5_setOf, Cond.code yX5_setOf cX5_setOf 5 (some .int), Cond.methodLink RX5 91 yX5_bits, Cond.static yX5_bits, Cond.code yX5_bits cX5_bits 4 (some .int), Cond.methodLink RX5 127 yX5_timeOfSet, Cond.instanceMethod yX5_timeOfSet, Cond.selects RX5 yX5_timeOfSet yX5_timeOfSet, Cond.code yX5_timeOfSet cX5_timeOfSet 4 (some .int), Cond.methodLink RX5 79 yX5_timeOf, Cond.instanceMethod yX5_timeOf, Cond.selects RX5 yX5_timeOf yX5_timeOf, Cond.code yX5_timeOf cX5_timeOf 2 (some .int), Cond.fieldLink RX5 16 "TestPickerModel" "times" "[I"]
def wsX5_fewest : List Cond := .code yX5_fewest cX5_fewest 9 (some .int) :: ((wsX5_fewest_r1 ++ wsX5_fewest_r2) ++ wsX50)
def wsX5_missed_r1 : List Cond := [Cond.fieldLink RX5 59 "TestPickerModel" "builds" "I", Cond.methodLink RX5 143 yX5_areTests, Cond.instanceMethod yX5_areTests, Cond.selects RX5 yX5_areTests yX5_areTests, Cond.initialized RX5, Cond.code yX5_areTests cX5_areTests 2 (some .boolean), Cond.fieldLink RX5 52 "TestPickerModel" "tests" "I", Cond.methodLink RX5 146 yX5_counting, Cond.instanceMethod yX5_counting, Cond.selects RX5 yX5_counting yX5_counting, Cond.code yX5_counting cX5_counting 3 (some .int), Cond.fieldLink RX5 13 "TestPickerModel" "kinds" "[I", Cond.methodLink RX5 76 yX5_isFlaky, Cond.instanceMethod yX5_isFlaky, Cond.selects RX5 yX5_isFlaky yX5_isFlaky, Cond.code yX5_isFlaky cX5_isFlaky 9 (some .boolean), Cond.fieldLink RX5 29 "TestPickerModel" "changes" "[J", Cond.fieldLink RX5 33 "TestPickerModel" "verdicts" "[I", Cond.methodLink RX5 72 yX5_reachOf, Cond.instanceMethod yX5_reachOf, Cond.selects RX5 yX5_reachOf yX5_reachOf, Cond.code yX5_reachOf cX5_reachOf 5 (some .long), Cond.fieldLink RX5 22 "TestPickerModel" "missing" "[Z", Cond.fieldLink RX5 26 "TestPickerModel" "bytes" "[I"]
def wsX5_missed_r2 : List Cond := [Cond.methodLink RX5 150 yX5_fellOf, Cond.instanceMethod yX5_fellOf, Cond.selects RX5 yX5_fellOf yX5_fellOf, Cond.code yX5_fellOf cX5_fellOf 5 (some .int), Cond.methodLink RX5 112 yX5_has, Cond.static yX5_has, Cond.code yX5_has cX5_has 2 (some .boolean)]
def wsX5_missed : List Cond := .code yX5_missed cX5_missed 4 (some .int) :: ((wsX5_missed_r1 ++ wsX5_missed_r2) ++ wsX50)
def wsX5_asked : List Cond := .code yX5_asked cX5_asked 1 (some .long) :: ([.fieldLink RX5 108 "TestPickerModel" "asked" "J"] ++ wsX50)
def wsX5_count : List Cond := .code yX5_count cX5_count 4 (some .int) :: ([.fieldLink RX5 59 "TestPickerModel" "builds" "I", .fieldLink RX5 33 "TestPickerModel" "verdicts" "[I", .fieldLink RX5 52 "TestPickerModel" "tests" "I"] ++ wsX50)
def wsX5_finding : List Cond := .code yX5_finding cX5_finding 1 (some .int) :: ([.fieldLink RX5 49 "TestPickerModel" "finding" "I"] ++ wsX50)
def wsX5_findings : List Cond := .code yX5_findings cX5_findings 2 (some .int) :: ([.fieldLink RX5 7 "TestPickerModel" "findings" "[I", .methodLink RX5 55 yX5_in, .static yX5_in, .initialized RX5, .code yX5_in cX5_in 3 (some .boolean)] ++ wsX50)
def wsX5_digest_r1 : List Cond := [Cond.constantLong RX5 153 (17), Cond.fieldLink RX5 52 "TestPickerModel" "tests" "I", Cond.constantLong RX5 155 (31), Cond.fieldLink RX5 22 "TestPickerModel" "missing" "[Z", Cond.fieldLink RX5 26 "TestPickerModel" "bytes" "[I", Cond.fieldLink RX5 59 "TestPickerModel" "builds" "I", Cond.fieldLink RX5 29 "TestPickerModel" "changes" "[J", Cond.fieldLink RX5 33 "TestPickerModel" "verdicts" "[I", Cond.methodLink RX5 95 yX5_tells, Cond.instanceMethod yX5_tells, Cond.selects RX5 yX5_tells yX5_tells, Cond.initialized RX5, Cond.code yX5_tells cX5_tells 3 (some .int), Cond.fieldLink RX5 13 "TestPickerModel" "kinds" "[I", Cond.fieldLink RX5 19 "TestPickerModel" "needs" "[I", Cond.methodLink RX5 79 yX5_timeOf, Cond.instanceMethod yX5_timeOf, Cond.selects RX5 yX5_timeOf yX5_timeOf, Cond.code yX5_timeOf cX5_timeOf 2 (some .int), Cond.fieldLink RX5 16 "TestPickerModel" "times" "[I", Cond.methodLink RX5 82 yX5_heatOf, Cond.instanceMethod yX5_heatOf, Cond.selects RX5 yX5_heatOf yX5_heatOf, Cond.code yX5_heatOf cX5_heatOf 4 (some .int)]
def wsX5_digest_r2 : List Cond := [Cond.methodLink RX5 76 yX5_isFlaky, Cond.instanceMethod yX5_isFlaky, Cond.selects RX5 yX5_isFlaky yX5_isFlaky, Cond.code yX5_isFlaky cX5_isFlaky 9 (some .boolean), Cond.methodLink RX5 72 yX5_reachOf, Cond.instanceMethod yX5_reachOf, Cond.selects RX5 yX5_reachOf yX5_reachOf, Cond.code yX5_reachOf cX5_reachOf 5 (some .long), Cond.methodLink RX5 85 yX5_isBroken, Cond.instanceMethod yX5_isBroken, Cond.selects RX5 yX5_isBroken yX5_isBroken, Cond.code yX5_isBroken cX5_isBroken 4 (some .boolean), Cond.methodLink RX5 88 yX5_chainOf, Cond.instanceMethod yX5_chainOf, Cond.selects RX5 yX5_chainOf yX5_chainOf, Cond.code yX5_chainOf cX5_chainOf 4 (some .int), Cond.methodLink RX5 91 yX5_bits, Cond.static yX5_bits, Cond.code yX5_bits cX5_bits 4 (some .int)]
def wsX5_digest : List Cond := .code yX5_digest cX5_digest 5 (some .long) :: ((wsX5_digest_r1 ++ wsX5_digest_r2) ++ wsX50)
def wsJ9_min_7cf53 : List Cond := .code yJ9_min_7cf53 cJ9_min_7cf53 2 (some .int) :: ([])
abbrev vwCl : List vw_C := [(RX0, TX0, 4), (RX1, TX1, 7), (RX2, TX2, 12), (RX3, TX3, 7), (RX4, TX4, 7), (RX5, TX5, 19)]
end
section
theorem dX0_init_0 : decode cX0_init 0 = .ok (.aload_n 0, 1) := by decide +kernel
theorem dX0_init_1 : decode cX0_init 1 = .ok (.invokespecial 3, 3) := by decide +kernel
theorem dX0_init_4 : decode cX0_init 4 = .ok (.aload_n 0, 1) := by decide +kernel
theorem dX0_init_5 : decode cX0_init 5 = .ok (.bipush 60, 2) := by decide +kernel
theorem dX0_init_7 : decode cX0_init 7 = .ok (.newarray .long, 2) := by decide +kernel
theorem dX0_init_9 : decode cX0_init 9 = .ok (.putfield 9, 3) := by decide +kernel
theorem dX0_init_12 : decode cX0_init 12 = .ok (.aload_n 0, 1) := by decide +kernel
theorem dX0_init_13 : decode cX0_init 13 = .ok (.bipush 20, 2) := by decide +kernel
theorem dX0_init_15 : decode cX0_init 15 = .ok (.newarray .long, 2) := by decide +kernel
theorem dX0_init_17 : decode cX0_init 17 = .ok (.putfield 15, 3) := by decide +kernel
theorem dX0_init_20 : decode cX0_init 20 = .ok (.aload_n 0, 1) := by decide +kernel
theorem dX0_init_21 : decode cX0_init 21 = .ok (.bipush 20, 2) := by decide +kernel
theorem dX0_init_23 : decode cX0_init 23 = .ok (.newarray .long, 2) := by decide +kernel
theorem dX0_init_25 : decode cX0_init 25 = .ok (.putfield 18, 3) := by decide +kernel
theorem dX0_init_28 : decode cX0_init 28 = .ok (.aload_n 0, 1) := by decide +kernel
theorem dX0_init_29 : decode cX0_init 29 = .ok (.iconst 0, 1) := by decide +kernel
theorem dX0_init_30 : decode cX0_init 30 = .ok (.putfield 21, 3) := by decide +kernel
theorem dX0_init_33 : decode cX0_init 33 = .ok (.return_, 1) := by decide +kernel
theorem dX0_has_0 : decode cX0_has 0 = .ok (.iload_n 1, 1) := by decide +kernel
theorem dX0_has_1 : decode cX0_has 1 = .ok (.ifCond .lt 15, 3) := by decide +kernel
theorem dX0_has_4 : decode cX0_has 4 = .ok (.iload_n 1, 1) := by decide +kernel
theorem dX0_has_5 : decode cX0_has 5 = .ok (.aload_n 0, 1) := by decide +kernel
theorem dX0_has_6 : decode cX0_has 6 = .ok (.getfield 21, 3) := by decide +kernel
theorem dX0_has_9 : decode cX0_has 9 = .ok (.if_icmp .ge 7, 3) := by decide +kernel
theorem dX0_has_12 : decode cX0_has 12 = .ok (.iconst 1, 1) := by decide +kernel
theorem dX0_has_13 : decode cX0_has 13 = .ok (.goto 4, 3) := by decide +kernel
theorem dX0_has_16 : decode cX0_has 16 = .ok (.iconst 0, 1) := by decide +kernel
theorem dX0_has_17 : decode cX0_has 17 = .ok (.ireturn, 1) := by decide +kernel
theorem dX0_add_0 : decode cX0_add 0 = .ok (.aload_n 0, 1) := by decide +kernel
theorem dX0_add_1 : decode cX0_add 1 = .ok (.getfield 9, 3) := by decide +kernel
theorem dX0_add_4 : decode cX0_add 4 = .ok (.aload_n 0, 1) := by decide +kernel
theorem dX0_add_5 : decode cX0_add 5 = .ok (.getfield 21, 3) := by decide +kernel
theorem dX0_add_8 : decode cX0_add 8 = .ok (.lload_n 1, 1) := by decide +kernel
theorem dX0_add_9 : decode cX0_add 9 = .ok (.lastore, 1) := by decide +kernel
theorem dX0_add_10 : decode cX0_add 10 = .ok (.aload_n 0, 1) := by decide +kernel
theorem dX0_add_11 : decode cX0_add 11 = .ok (.dup, 1) := by decide +kernel
theorem dX0_add_12 : decode cX0_add 12 = .ok (.getfield 21, 3) := by decide +kernel
theorem dX0_add_15 : decode cX0_add 15 = .ok (.iconst 1, 1) := by decide +kernel
theorem dX0_add_16 : decode cX0_add 16 = .ok (.iadd, 1) := by decide +kernel
theorem dX0_add_17 : decode cX0_add 17 = .ok (.putfield 21, 3) := by decide +kernel
theorem dX0_add_20 : decode cX0_add 20 = .ok (.aload_n 0, 1) := by decide +kernel
theorem dX0_add_21 : decode cX0_add 21 = .ok (.getfield 21, 3) := by decide +kernel
theorem dX0_add_24 : decode cX0_add 24 = .ok (.iconst 1, 1) := by decide +kernel
theorem dX0_add_25 : decode cX0_add 25 = .ok (.isub, 1) := by decide +kernel
theorem dX0_add_26 : decode cX0_add 26 = .ok (.ireturn, 1) := by decide +kernel
theorem dX0_presentChange_0 : decode cX0_presentChange 0 = .ok (.aload_n 0, 1) := by decide +kernel
theorem dX0_presentChange_1 : decode cX0_presentChange 1 = .ok (.getfield 21, 3) := by decide +kernel
theorem dX0_presentChange_4 : decode cX0_presentChange 4 = .ok (.ifCond .le 17, 3) := by decide +kernel
theorem dX0_presentChange_7 : decode cX0_presentChange 7 = .ok (.aload_n 0, 1) := by decide +kernel
theorem dX0_presentChange_8 : decode cX0_presentChange 8 = .ok (.getfield 9, 3) := by decide +kernel
theorem dX0_presentChange_11 : decode cX0_presentChange 11 = .ok (.aload_n 0, 1) := by decide +kernel
theorem dX0_presentChange_12 : decode cX0_presentChange 12 = .ok (.getfield 21, 3) := by decide +kernel
theorem dX0_presentChange_15 : decode cX0_presentChange 15 = .ok (.iconst 1, 1) := by decide +kernel
theorem dX0_presentChange_16 : decode cX0_presentChange 16 = .ok (.isub, 1) := by decide +kernel
theorem dX0_presentChange_17 : decode cX0_presentChange 17 = .ok (.laload, 1) := by decide +kernel
theorem dX0_presentChange_18 : decode cX0_presentChange 18 = .ok (.goto 4, 3) := by decide +kernel
theorem dX0_presentChange_21 : decode cX0_presentChange 21 = .ok (.lconst 0, 1) := by decide +kernel
theorem dX0_presentChange_22 : decode cX0_presentChange 22 = .ok (.lreturn, 1) := by decide +kernel
theorem dX0_verdictIn_0 : decode cX0_verdictIn 0 = .ok (.aload_n 0, 1) := by decide +kernel
theorem dX0_verdictIn_1 : decode cX0_verdictIn 1 = .ok (.getfield 15, 3) := by decide +kernel
theorem dX0_verdictIn_4 : decode cX0_verdictIn 4 = .ok (.iload_n 1, 1) := by decide +kernel
theorem dX0_verdictIn_5 : decode cX0_verdictIn 5 = .ok (.laload, 1) := by decide +kernel
theorem dX0_verdictIn_6 : decode cX0_verdictIn 6 = .ok (.iload_n 2, 1) := by decide +kernel
theorem dX0_verdictIn_7 : decode cX0_verdictIn 7 = .ok (.lushr, 1) := by decide +kernel
theorem dX0_verdictIn_8 : decode cX0_verdictIn 8 = .ok (.lconst 1, 1) := by decide +kernel
theorem dX0_verdictIn_9 : decode cX0_verdictIn 9 = .ok (.land, 1) := by decide +kernel
theorem dX0_verdictIn_10 : decode cX0_verdictIn 10 = .ok (.lconst 1, 1) := by decide +kernel
theorem dX0_verdictIn_11 : decode cX0_verdictIn 11 = .ok (.lcmp, 1) := by decide +kernel
theorem dX0_verdictIn_12 : decode cX0_verdictIn 12 = .ok (.ifCond .ne 5, 3) := by decide +kernel
theorem dX0_verdictIn_15 : decode cX0_verdictIn 15 = .ok (.iconst 1, 1) := by decide +kernel
theorem dX0_verdictIn_16 : decode cX0_verdictIn 16 = .ok (.ireturn, 1) := by decide +kernel
theorem dX0_verdictIn_17 : decode cX0_verdictIn 17 = .ok (.aload_n 0, 1) := by decide +kernel
theorem dX0_verdictIn_18 : decode cX0_verdictIn 18 = .ok (.getfield 18, 3) := by decide +kernel
theorem dX0_verdictIn_21 : decode cX0_verdictIn 21 = .ok (.iload_n 1, 1) := by decide +kernel
theorem dX0_verdictIn_22 : decode cX0_verdictIn 22 = .ok (.laload, 1) := by decide +kernel
theorem dX0_verdictIn_23 : decode cX0_verdictIn 23 = .ok (.iload_n 2, 1) := by decide +kernel
theorem dX0_verdictIn_24 : decode cX0_verdictIn 24 = .ok (.lushr, 1) := by decide +kernel
theorem dX0_verdictIn_25 : decode cX0_verdictIn 25 = .ok (.lconst 1, 1) := by decide +kernel
theorem dX0_verdictIn_26 : decode cX0_verdictIn 26 = .ok (.land, 1) := by decide +kernel
theorem dX0_verdictIn_27 : decode cX0_verdictIn 27 = .ok (.lconst 1, 1) := by decide +kernel
theorem dX0_verdictIn_28 : decode cX0_verdictIn 28 = .ok (.lcmp, 1) := by decide +kernel
theorem dX0_verdictIn_29 : decode cX0_verdictIn 29 = .ok (.ifCond .ne 7, 3) := by decide +kernel
theorem dX0_verdictIn_32 : decode cX0_verdictIn 32 = .ok (.iconst 0, 1) := by decide +kernel
theorem dX0_verdictIn_33 : decode cX0_verdictIn 33 = .ok (.goto 5, 3) := by decide +kernel
theorem dX0_verdictIn_36 : decode cX0_verdictIn 36 = .ok (.bipush (-9), 2) := by decide +kernel
theorem dX0_verdictIn_38 : decode cX0_verdictIn 38 = .ok (.ireturn, 1) := by decide +kernel
theorem dX0_judge_0 : decode cX0_judge 0 = .ok (.lconst 1, 1) := by decide +kernel
theorem dX0_judge_1 : decode cX0_judge 1 = .ok (.aload_n 0, 1) := by decide +kernel
theorem dX0_judge_2 : decode cX0_judge 2 = .ok (.getfield 21, 3) := by decide +kernel
theorem dX0_judge_5 : decode cX0_judge 5 = .ok (.iconst 1, 1) := by decide +kernel
theorem dX0_judge_6 : decode cX0_judge 6 = .ok (.isub, 1) := by decide +kernel
theorem dX0_judge_7 : decode cX0_judge 7 = .ok (.lshl, 1) := by decide +kernel
theorem dX0_judge_8 : decode cX0_judge 8 = .ok (.lstore_n 3, 1) := by decide +kernel
theorem dX0_judge_9 : decode cX0_judge 9 = .ok (.aload_n 0, 1) := by decide +kernel
theorem dX0_judge_10 : decode cX0_judge 10 = .ok (.getfield 15, 3) := by decide +kernel
theorem dX0_judge_13 : decode cX0_judge 13 = .ok (.iload_n 1, 1) := by decide +kernel
theorem dX0_judge_14 : decode cX0_judge 14 = .ok (.iload_n 2, 1) := by decide +kernel
theorem dX0_judge_15 : decode cX0_judge 15 = .ok (.ifCond .eq 14, 3) := by decide +kernel
theorem dX0_judge_18 : decode cX0_judge 18 = .ok (.aload_n 0, 1) := by decide +kernel
theorem dX0_judge_19 : decode cX0_judge 19 = .ok (.getfield 15, 3) := by decide +kernel
theorem dX0_judge_22 : decode cX0_judge 22 = .ok (.iload_n 1, 1) := by decide +kernel
theorem dX0_judge_23 : decode cX0_judge 23 = .ok (.laload, 1) := by decide +kernel
theorem dX0_judge_24 : decode cX0_judge 24 = .ok (.lload_n 3, 1) := by decide +kernel
theorem dX0_judge_25 : decode cX0_judge 25 = .ok (.lor, 1) := by decide +kernel
theorem dX0_judge_26 : decode cX0_judge 26 = .ok (.goto 15, 3) := by decide +kernel
theorem dX0_judge_29 : decode cX0_judge 29 = .ok (.aload_n 0, 1) := by decide +kernel
theorem dX0_judge_30 : decode cX0_judge 30 = .ok (.getfield 15, 3) := by decide +kernel
theorem dX0_judge_33 : decode cX0_judge 33 = .ok (.iload_n 1, 1) := by decide +kernel
theorem dX0_judge_34 : decode cX0_judge 34 = .ok (.laload, 1) := by decide +kernel
theorem dX0_judge_35 : decode cX0_judge 35 = .ok (.lload_n 3, 1) := by decide +kernel
theorem dX0_judge_36 : decode cX0_judge 36 = .ok (.ldc2_w 25, 3) := by decide +kernel
theorem dX0_judge_39 : decode cX0_judge 39 = .ok (.lxor, 1) := by decide +kernel
theorem dX0_judge_40 : decode cX0_judge 40 = .ok (.land, 1) := by decide +kernel
theorem dX0_judge_41 : decode cX0_judge 41 = .ok (.lastore, 1) := by decide +kernel
theorem dX0_judge_42 : decode cX0_judge 42 = .ok (.aload_n 0, 1) := by decide +kernel
theorem dX0_judge_43 : decode cX0_judge 43 = .ok (.getfield 18, 3) := by decide +kernel
theorem dX0_judge_46 : decode cX0_judge 46 = .ok (.iload_n 1, 1) := by decide +kernel
theorem dX0_judge_47 : decode cX0_judge 47 = .ok (.iload_n 2, 1) := by decide +kernel
theorem dX0_judge_48 : decode cX0_judge 48 = .ok (.ifCond .eq 18, 3) := by decide +kernel
theorem dX0_judge_51 : decode cX0_judge 51 = .ok (.aload_n 0, 1) := by decide +kernel
theorem dX0_judge_52 : decode cX0_judge 52 = .ok (.getfield 18, 3) := by decide +kernel
theorem dX0_judge_55 : decode cX0_judge 55 = .ok (.iload_n 1, 1) := by decide +kernel
theorem dX0_judge_56 : decode cX0_judge 56 = .ok (.laload, 1) := by decide +kernel
theorem dX0_judge_57 : decode cX0_judge 57 = .ok (.lload_n 3, 1) := by decide +kernel
theorem dX0_judge_58 : decode cX0_judge 58 = .ok (.ldc2_w 25, 3) := by decide +kernel
theorem dX0_judge_61 : decode cX0_judge 61 = .ok (.lxor, 1) := by decide +kernel
theorem dX0_judge_62 : decode cX0_judge 62 = .ok (.land, 1) := by decide +kernel
theorem dX0_judge_63 : decode cX0_judge 63 = .ok (.goto 11, 3) := by decide +kernel
theorem dX0_judge_66 : decode cX0_judge 66 = .ok (.aload_n 0, 1) := by decide +kernel
theorem dX0_judge_67 : decode cX0_judge 67 = .ok (.getfield 18, 3) := by decide +kernel
theorem dX0_judge_70 : decode cX0_judge 70 = .ok (.iload_n 1, 1) := by decide +kernel
theorem dX0_judge_71 : decode cX0_judge 71 = .ok (.laload, 1) := by decide +kernel
theorem dX0_judge_72 : decode cX0_judge 72 = .ok (.lload_n 3, 1) := by decide +kernel
theorem dX0_judge_73 : decode cX0_judge 73 = .ok (.lor, 1) := by decide +kernel
theorem dX0_judge_74 : decode cX0_judge 74 = .ok (.lastore, 1) := by decide +kernel
theorem dX0_judge_75 : decode cX0_judge 75 = .ok (.return_, 1) := by decide +kernel
theorem dX0_heat_0 : decode cX0_heat 0 = .ok (.aload_n 0, 1) := by decide +kernel
theorem dX0_heat_1 : decode cX0_heat 1 = .ok (.getfield 21, 3) := by decide +kernel
theorem dX0_heat_4 : decode cX0_heat 4 = .ok (.iconst 1, 1) := by decide +kernel
theorem dX0_heat_5 : decode cX0_heat 5 = .ok (.isub, 1) := by decide +kernel
theorem dX0_heat_6 : decode cX0_heat 6 = .ok (.istore_n 2, 1) := by decide +kernel
theorem dX0_heat_7 : decode cX0_heat 7 = .ok (.iload_n 2, 1) := by decide +kernel
theorem dX0_heat_8 : decode cX0_heat 8 = .ok (.iconst 1, 1) := by decide +kernel
theorem dX0_heat_9 : decode cX0_heat 9 = .ok (.if_icmp .ge 5, 3) := by decide +kernel
theorem dX0_heat_12 : decode cX0_heat 12 = .ok (.iconst 0, 1) := by decide +kernel
theorem dX0_heat_13 : decode cX0_heat 13 = .ok (.ireturn, 1) := by decide +kernel
theorem dX0_heat_14 : decode cX0_heat 14 = .ok (.iload_n 2, 1) := by decide +kernel
theorem dX0_heat_15 : decode cX0_heat 15 = .ok (.bipush 8, 2) := by decide +kernel
theorem dX0_heat_17 : decode cX0_heat 17 = .ok (.if_icmp .lt 17, 3) := by decide +kernel
theorem dX0_heat_20 : decode cX0_heat 20 = .ok (.aload_n 0, 1) := by decide +kernel
theorem dX0_heat_21 : decode cX0_heat 21 = .ok (.getfield 15, 3) := by decide +kernel
theorem dX0_heat_24 : decode cX0_heat 24 = .ok (.iload_n 1, 1) := by decide +kernel
theorem dX0_heat_25 : decode cX0_heat 25 = .ok (.laload, 1) := by decide +kernel
theorem dX0_heat_26 : decode cX0_heat 26 = .ok (.iload_n 2, 1) := by decide +kernel
theorem dX0_heat_27 : decode cX0_heat 27 = .ok (.bipush 8, 2) := by decide +kernel
theorem dX0_heat_29 : decode cX0_heat 29 = .ok (.isub, 1) := by decide +kernel
theorem dX0_heat_30 : decode cX0_heat 30 = .ok (.lushr, 1) := by decide +kernel
theorem dX0_heat_31 : decode cX0_heat 31 = .ok (.goto 14, 3) := by decide +kernel
theorem dX0_heat_34 : decode cX0_heat 34 = .ok (.aload_n 0, 1) := by decide +kernel
theorem dX0_heat_35 : decode cX0_heat 35 = .ok (.getfield 15, 3) := by decide +kernel
theorem dX0_heat_38 : decode cX0_heat 38 = .ok (.iload_n 1, 1) := by decide +kernel
theorem dX0_heat_39 : decode cX0_heat 39 = .ok (.laload, 1) := by decide +kernel
theorem dX0_heat_40 : decode cX0_heat 40 = .ok (.bipush 8, 2) := by decide +kernel
theorem dX0_heat_42 : decode cX0_heat 42 = .ok (.iload_n 2, 1) := by decide +kernel
theorem dX0_heat_43 : decode cX0_heat 43 = .ok (.isub, 1) := by decide +kernel
theorem dX0_heat_44 : decode cX0_heat 44 = .ok (.lshl, 1) := by decide +kernel
theorem dX0_heat_45 : decode cX0_heat 45 = .ok (.lstore_n 3, 1) := by decide +kernel
theorem dX0_heat_46 : decode cX0_heat 46 = .ok (.lload_n 3, 1) := by decide +kernel
theorem dX0_heat_47 : decode cX0_heat 47 = .ok (.ldc2_w 27, 3) := by decide +kernel
theorem dX0_heat_50 : decode cX0_heat 50 = .ok (.land, 1) := by decide +kernel
theorem dX0_heat_51 : decode cX0_heat 51 = .ok (.l2i, 1) := by decide +kernel
theorem dX0_heat_52 : decode cX0_heat 52 = .ok (.ireturn, 1) := by decide +kernel
set_option maxRecDepth 20000 in
theorem ggX0_wavers_X0_verdictIn : GoodIn wsX0_wavers wsX0_verdictIn := goodIn_r _ [7, 8, 9, 10, 11, 12, 13] (by decide +kernel) (by decide +kernel)
set_option maxRecDepth 20000 in
theorem gX0_wavers_X0_verdictIn : GoodIn wsX0_wavers (wsV RX0 29 RX0 yX0_verdictIn wsX0_verdictIn) := goodIn_app (goodIn_of _ (by decide +kernel)) ggX0_wavers_X0_verdictIn
theorem dX0_wavers_0 : decode cX0_wavers 0 = .ok (.bipush (-9), 2) := by decide +kernel
theorem dX0_wavers_2 : decode cX0_wavers 2 = .ok (.istore 4, 2) := by decide +kernel
theorem dX0_wavers_4 : decode cX0_wavers 4 = .ok (.lconst 0, 1) := by decide +kernel
theorem dX0_wavers_5 : decode cX0_wavers 5 = .ok (.lstore 5, 2) := by decide +kernel
theorem dX0_wavers_7 : decode cX0_wavers 7 = .ok (.iconst 0, 1) := by decide +kernel
theorem dX0_wavers_8 : decode cX0_wavers 8 = .ok (.istore 7, 2) := by decide +kernel
theorem dX0_wavers_10 : decode cX0_wavers 10 = .ok (.iload 7, 2) := by decide +kernel
theorem dX0_wavers_12 : decode cX0_wavers 12 = .ok (.aload_n 0, 1) := by decide +kernel
theorem dX0_wavers_13 : decode cX0_wavers 13 = .ok (.getfield 21, 3) := by decide +kernel
theorem dX0_wavers_16 : decode cX0_wavers 16 = .ok (.if_icmp .ge 69, 3) := by decide +kernel
theorem dX0_wavers_19 : decode cX0_wavers 19 = .ok (.lload 5, 2) := by decide +kernel
theorem dX0_wavers_21 : decode cX0_wavers 21 = .ok (.aload_n 0, 1) := by decide +kernel
theorem dX0_wavers_22 : decode cX0_wavers 22 = .ok (.getfield 9, 3) := by decide +kernel
theorem dX0_wavers_25 : decode cX0_wavers 25 = .ok (.iload 7, 2) := by decide +kernel
theorem dX0_wavers_27 : decode cX0_wavers 27 = .ok (.laload, 1) := by decide +kernel
theorem dX0_wavers_28 : decode cX0_wavers 28 = .ok (.lor, 1) := by decide +kernel
theorem dX0_wavers_29 : decode cX0_wavers 29 = .ok (.lstore 5, 2) := by decide +kernel
theorem dX0_wavers_31 : decode cX0_wavers 31 = .ok (.aload_n 0, 1) := by decide +kernel
theorem dX0_wavers_32 : decode cX0_wavers 32 = .ok (.iload_n 1, 1) := by decide +kernel
theorem dX0_wavers_33 : decode cX0_wavers 33 = .ok (.iload 7, 2) := by decide +kernel
theorem dX0_wavers_35 : decode cX0_wavers 35 = .ok (.invokevirtual 29, 3) := by decide +kernel
theorem dX0_wavers_38 : decode cX0_wavers 38 = .ok (.istore 8, 2) := by decide +kernel
theorem dX0_wavers_40 : decode cX0_wavers 40 = .ok (.iload 8, 2) := by decide +kernel
theorem dX0_wavers_42 : decode cX0_wavers 42 = .ok (.bipush (-9), 2) := by decide +kernel
theorem dX0_wavers_44 : decode cX0_wavers 44 = .ok (.if_icmp .eq 35, 3) := by decide +kernel
theorem dX0_wavers_47 : decode cX0_wavers 47 = .ok (.iload 4, 2) := by decide +kernel
theorem dX0_wavers_49 : decode cX0_wavers 49 = .ok (.bipush (-9), 2) := by decide +kernel
theorem dX0_wavers_51 : decode cX0_wavers 51 = .ok (.if_icmp .eq 21, 3) := by decide +kernel
theorem dX0_wavers_54 : decode cX0_wavers 54 = .ok (.iload 4, 2) := by decide +kernel
theorem dX0_wavers_56 : decode cX0_wavers 56 = .ok (.iload 8, 2) := by decide +kernel
theorem dX0_wavers_58 : decode cX0_wavers 58 = .ok (.if_icmp .eq 14, 3) := by decide +kernel
theorem dX0_wavers_61 : decode cX0_wavers 61 = .ok (.lload 5, 2) := by decide +kernel
theorem dX0_wavers_63 : decode cX0_wavers 63 = .ok (.lload_n 2, 1) := by decide +kernel
theorem dX0_wavers_64 : decode cX0_wavers 64 = .ok (.land, 1) := by decide +kernel
theorem dX0_wavers_65 : decode cX0_wavers 65 = .ok (.lconst 0, 1) := by decide +kernel
theorem dX0_wavers_66 : decode cX0_wavers 66 = .ok (.lcmp, 1) := by decide +kernel
theorem dX0_wavers_67 : decode cX0_wavers 67 = .ok (.ifCond .ne 5, 3) := by decide +kernel
theorem dX0_wavers_70 : decode cX0_wavers 70 = .ok (.iconst 1, 1) := by decide +kernel
theorem dX0_wavers_71 : decode cX0_wavers 71 = .ok (.ireturn, 1) := by decide +kernel
theorem dX0_wavers_72 : decode cX0_wavers 72 = .ok (.iload 8, 2) := by decide +kernel
theorem dX0_wavers_74 : decode cX0_wavers 74 = .ok (.istore 4, 2) := by decide +kernel
theorem dX0_wavers_76 : decode cX0_wavers 76 = .ok (.lconst 0, 1) := by decide +kernel
theorem dX0_wavers_77 : decode cX0_wavers 77 = .ok (.lstore 5, 2) := by decide +kernel
theorem dX0_wavers_79 : decode cX0_wavers 79 = .ok (.iinc 7 1, 3) := by decide +kernel
theorem dX0_wavers_82 : decode cX0_wavers 82 = .ok (.goto (-72), 3) := by decide +kernel
theorem dX0_wavers_85 : decode cX0_wavers 85 = .ok (.iconst 0, 1) := by decide +kernel
theorem dX0_wavers_86 : decode cX0_wavers 86 = .ok (.ireturn, 1) := by decide +kernel
theorem dX0_fellLast_0 : decode cX0_fellLast 0 = .ok (.aload_n 0, 1) := by decide +kernel
theorem dX0_fellLast_1 : decode cX0_fellLast 1 = .ok (.getfield 15, 3) := by decide +kernel
theorem dX0_fellLast_4 : decode cX0_fellLast 4 = .ok (.iload_n 1, 1) := by decide +kernel
theorem dX0_fellLast_5 : decode cX0_fellLast 5 = .ok (.laload, 1) := by decide +kernel
theorem dX0_fellLast_6 : decode cX0_fellLast 6 = .ok (.aload_n 0, 1) := by decide +kernel
theorem dX0_fellLast_7 : decode cX0_fellLast 7 = .ok (.getfield 18, 3) := by decide +kernel
theorem dX0_fellLast_10 : decode cX0_fellLast 10 = .ok (.iload_n 1, 1) := by decide +kernel
theorem dX0_fellLast_11 : decode cX0_fellLast 11 = .ok (.laload, 1) := by decide +kernel
theorem dX0_fellLast_12 : decode cX0_fellLast 12 = .ok (.lcmp, 1) := by decide +kernel
theorem dX0_fellLast_13 : decode cX0_fellLast 13 = .ok (.ifCond .le 7, 3) := by decide +kernel
theorem dX0_fellLast_16 : decode cX0_fellLast 16 = .ok (.iconst 1, 1) := by decide +kernel
theorem dX0_fellLast_17 : decode cX0_fellLast 17 = .ok (.goto 4, 3) := by decide +kernel
theorem dX0_fellLast_20 : decode cX0_fellLast 20 = .ok (.iconst 0, 1) := by decide +kernel
theorem dX0_fellLast_21 : decode cX0_fellLast 21 = .ok (.ireturn, 1) := by decide +kernel
set_option maxRecDepth 20000 in
theorem ggX0_verdictsInAll_J13_bitCount_95d88 : GoodIn wsX0_verdictsInAll wsJ13_bitCount_95d88 := goodIn_r _ [6, 7, 8, 9] (by decide +kernel) (by decide +kernel)
set_option maxRecDepth 20000 in
theorem gX0_verdictsInAll_J13_bitCount_95d88 : GoodIn wsX0_verdictsInAll (va_wsS RX0 33 yJ13_bitCount_95d88 wsJ13_bitCount_95d88) := goodIn_app (goodIn_of _ (by decide +kernel)) ggX0_verdictsInAll_J13_bitCount_95d88
theorem dX0_verdictsInAll_0 : decode cX0_verdictsInAll 0 = .ok (.iconst 0, 1) := by decide +kernel
theorem dX0_verdictsInAll_1 : decode cX0_verdictsInAll 1 = .ok (.istore_n 1, 1) := by decide +kernel
theorem dX0_verdictsInAll_2 : decode cX0_verdictsInAll 2 = .ok (.iconst 0, 1) := by decide +kernel
theorem dX0_verdictsInAll_3 : decode cX0_verdictsInAll 3 = .ok (.istore_n 2, 1) := by decide +kernel
theorem dX0_verdictsInAll_4 : decode cX0_verdictsInAll 4 = .ok (.iload_n 2, 1) := by decide +kernel
theorem dX0_verdictsInAll_5 : decode cX0_verdictsInAll 5 = .ok (.bipush 20, 2) := by decide +kernel
theorem dX0_verdictsInAll_7 : decode cX0_verdictsInAll 7 = .ok (.if_icmp .ge 31, 3) := by decide +kernel
theorem dX0_verdictsInAll_10 : decode cX0_verdictsInAll 10 = .ok (.iload_n 1, 1) := by decide +kernel
theorem dX0_verdictsInAll_11 : decode cX0_verdictsInAll 11 = .ok (.aload_n 0, 1) := by decide +kernel
theorem dX0_verdictsInAll_12 : decode cX0_verdictsInAll 12 = .ok (.getfield 15, 3) := by decide +kernel
theorem dX0_verdictsInAll_15 : decode cX0_verdictsInAll 15 = .ok (.iload_n 2, 1) := by decide +kernel
theorem dX0_verdictsInAll_16 : decode cX0_verdictsInAll 16 = .ok (.laload, 1) := by decide +kernel
theorem dX0_verdictsInAll_17 : decode cX0_verdictsInAll 17 = .ok (.invokestatic 33, 3) := by decide +kernel
theorem dX0_verdictsInAll_20 : decode cX0_verdictsInAll 20 = .ok (.aload_n 0, 1) := by decide +kernel
theorem dX0_verdictsInAll_21 : decode cX0_verdictsInAll 21 = .ok (.getfield 18, 3) := by decide +kernel
theorem dX0_verdictsInAll_24 : decode cX0_verdictsInAll 24 = .ok (.iload_n 2, 1) := by decide +kernel
theorem dX0_verdictsInAll_25 : decode cX0_verdictsInAll 25 = .ok (.laload, 1) := by decide +kernel
theorem dX0_verdictsInAll_26 : decode cX0_verdictsInAll 26 = .ok (.invokestatic 33, 3) := by decide +kernel
theorem dX0_verdictsInAll_29 : decode cX0_verdictsInAll 29 = .ok (.iadd, 1) := by decide +kernel
theorem dX0_verdictsInAll_30 : decode cX0_verdictsInAll 30 = .ok (.iadd, 1) := by decide +kernel
theorem dX0_verdictsInAll_31 : decode cX0_verdictsInAll 31 = .ok (.istore_n 1, 1) := by decide +kernel
theorem dX0_verdictsInAll_32 : decode cX0_verdictsInAll 32 = .ok (.iinc 2 1, 3) := by decide +kernel
theorem dX0_verdictsInAll_35 : decode cX0_verdictsInAll 35 = .ok (.goto (-31), 3) := by decide +kernel
theorem dX0_verdictsInAll_38 : decode cX0_verdictsInAll 38 = .ok (.iload_n 1, 1) := by decide +kernel
theorem dX0_verdictsInAll_39 : decode cX0_verdictsInAll 39 = .ok (.ireturn, 1) := by decide +kernel
theorem dX1_init_0 : decode cX1_init 0 = .ok (.aload_n 0, 1) := by decide +kernel
theorem dX1_init_1 : decode cX1_init 1 = .ok (.invokespecial 3, 3) := by decide +kernel
theorem dX1_init_4 : decode cX1_init 4 = .ok (.aload_n 0, 1) := by decide +kernel
theorem dX1_init_5 : decode cX1_init 5 = .ok (.bipush 20, 2) := by decide +kernel
theorem dX1_init_7 : decode cX1_init 7 = .ok (.newarray .int, 2) := by decide +kernel
theorem dX1_init_9 : decode cX1_init 9 = .ok (.putfield 9, 3) := by decide +kernel
theorem dX1_init_12 : decode cX1_init 12 = .ok (.aload_n 0, 1) := by decide +kernel
theorem dX1_init_13 : decode cX1_init 13 = .ok (.iconst 0, 1) := by decide +kernel
theorem dX1_init_14 : decode cX1_init 14 = .ok (.putfield 15, 3) := by decide +kernel
theorem dX1_init_17 : decode cX1_init 17 = .ok (.aload_n 0, 1) := by decide +kernel
theorem dX1_init_18 : decode cX1_init 18 = .ok (.iconst 0, 1) := by decide +kernel
theorem dX1_init_19 : decode cX1_init 19 = .ok (.putfield 19, 3) := by decide +kernel
theorem dX1_init_22 : decode cX1_init 22 = .ok (.aload_n 0, 1) := by decide +kernel
theorem dX1_init_23 : decode cX1_init 23 = .ok (.iconst 0, 1) := by decide +kernel
theorem dX1_init_24 : decode cX1_init 24 = .ok (.putfield 22, 3) := by decide +kernel
theorem dX1_init_27 : decode cX1_init 27 = .ok (.aload_n 0, 1) := by decide +kernel
theorem dX1_init_28 : decode cX1_init 28 = .ok (.lconst 0, 1) := by decide +kernel
theorem dX1_init_29 : decode cX1_init 29 = .ok (.putfield 25, 3) := by decide +kernel
theorem dX1_init_32 : decode cX1_init 32 = .ok (.aload_n 0, 1) := by decide +kernel
theorem dX1_init_33 : decode cX1_init 33 = .ok (.lconst 0, 1) := by decide +kernel
theorem dX1_init_34 : decode cX1_init 34 = .ok (.putfield 29, 3) := by decide +kernel
theorem dX1_init_37 : decode cX1_init 37 = .ok (.aload_n 0, 1) := by decide +kernel
theorem dX1_init_38 : decode cX1_init 38 = .ok (.iconst 0, 1) := by decide +kernel
theorem dX1_init_39 : decode cX1_init 39 = .ok (.putfield 32, 3) := by decide +kernel
theorem dX1_init_42 : decode cX1_init 42 = .ok (.return_, 1) := by decide +kernel
theorem dX1_drop_0 : decode cX1_drop 0 = .ok (.aload_n 0, 1) := by decide +kernel
theorem dX1_drop_1 : decode cX1_drop 1 = .ok (.iconst 0, 1) := by decide +kernel
theorem dX1_drop_2 : decode cX1_drop 2 = .ok (.putfield 32, 3) := by decide +kernel
theorem dX1_drop_5 : decode cX1_drop 5 = .ok (.aload_n 0, 1) := by decide +kernel
theorem dX1_drop_6 : decode cX1_drop 6 = .ok (.iconst 0, 1) := by decide +kernel
theorem dX1_drop_7 : decode cX1_drop 7 = .ok (.putfield 15, 3) := by decide +kernel
theorem dX1_drop_10 : decode cX1_drop 10 = .ok (.aload_n 0, 1) := by decide +kernel
theorem dX1_drop_11 : decode cX1_drop 11 = .ok (.iconst 0, 1) := by decide +kernel
theorem dX1_drop_12 : decode cX1_drop 12 = .ok (.putfield 19, 3) := by decide +kernel
theorem dX1_drop_15 : decode cX1_drop 15 = .ok (.aload_n 0, 1) := by decide +kernel
theorem dX1_drop_16 : decode cX1_drop 16 = .ok (.iconst 0, 1) := by decide +kernel
theorem dX1_drop_17 : decode cX1_drop 17 = .ok (.putfield 22, 3) := by decide +kernel
theorem dX1_drop_20 : decode cX1_drop 20 = .ok (.aload_n 0, 1) := by decide +kernel
theorem dX1_drop_21 : decode cX1_drop 21 = .ok (.lconst 0, 1) := by decide +kernel
theorem dX1_drop_22 : decode cX1_drop 22 = .ok (.putfield 25, 3) := by decide +kernel
theorem dX1_drop_25 : decode cX1_drop 25 = .ok (.aload_n 0, 1) := by decide +kernel
theorem dX1_drop_26 : decode cX1_drop 26 = .ok (.lconst 0, 1) := by decide +kernel
theorem dX1_drop_27 : decode cX1_drop 27 = .ok (.putfield 29, 3) := by decide +kernel
theorem dX1_drop_30 : decode cX1_drop 30 = .ok (.return_, 1) := by decide +kernel
set_option maxRecDepth 20000 in
theorem ggX1_begin_X1_drop : GoodIn wsX1_begin wsX1_drop := goodIn_r _ [7, 1, 8, 9, 10, 11, 2, 12, 13, 14, 15, 16, 17, 18] (by decide +kernel) (by decide +kernel)
set_option maxRecDepth 20000 in
theorem gX1_begin_X1_drop : GoodIn wsX1_begin (wsV RX1 36 RX1 yX1_drop wsX1_drop) := goodIn_app (goodIn_of _ (by decide +kernel)) ggX1_begin_X1_drop
theorem dX1_begin_0 : decode cX1_begin 0 = .ok (.aload_n 0, 1) := by decide +kernel
theorem dX1_begin_1 : decode cX1_begin 1 = .ok (.invokevirtual 36, 3) := by decide +kernel
theorem dX1_begin_4 : decode cX1_begin 4 = .ok (.aload_n 0, 1) := by decide +kernel
theorem dX1_begin_5 : decode cX1_begin 5 = .ok (.iconst 1, 1) := by decide +kernel
theorem dX1_begin_6 : decode cX1_begin 6 = .ok (.putfield 32, 3) := by decide +kernel
theorem dX1_begin_9 : decode cX1_begin 9 = .ok (.aload_n 0, 1) := by decide +kernel
theorem dX1_begin_10 : decode cX1_begin 10 = .ok (.lload_n 1, 1) := by decide +kernel
theorem dX1_begin_11 : decode cX1_begin 11 = .ok (.putfield 29, 3) := by decide +kernel
theorem dX1_begin_14 : decode cX1_begin 14 = .ok (.return_, 1) := by decide +kernel
theorem dX1_take_0 : decode cX1_take 0 = .ok (.aload_n 0, 1) := by decide +kernel
theorem dX1_take_1 : decode cX1_take 1 = .ok (.getfield 15, 3) := by decide +kernel
theorem dX1_take_4 : decode cX1_take 4 = .ok (.bipush 20, 2) := by decide +kernel
theorem dX1_take_6 : decode cX1_take 6 = .ok (.if_icmp .ge 55, 3) := by decide +kernel
theorem dX1_take_9 : decode cX1_take 9 = .ok (.aload_n 0, 1) := by decide +kernel
theorem dX1_take_10 : decode cX1_take 10 = .ok (.getfield 9, 3) := by decide +kernel
theorem dX1_take_13 : decode cX1_take 13 = .ok (.aload_n 0, 1) := by decide +kernel
theorem dX1_take_14 : decode cX1_take 14 = .ok (.getfield 15, 3) := by decide +kernel
theorem dX1_take_17 : decode cX1_take 17 = .ok (.iload_n 1, 1) := by decide +kernel
theorem dX1_take_18 : decode cX1_take 18 = .ok (.iastore, 1) := by decide +kernel
theorem dX1_take_19 : decode cX1_take 19 = .ok (.aload_n 0, 1) := by decide +kernel
theorem dX1_take_20 : decode cX1_take 20 = .ok (.dup, 1) := by decide +kernel
theorem dX1_take_21 : decode cX1_take 21 = .ok (.getfield 15, 3) := by decide +kernel
theorem dX1_take_24 : decode cX1_take 24 = .ok (.iconst 1, 1) := by decide +kernel
theorem dX1_take_25 : decode cX1_take 25 = .ok (.iadd, 1) := by decide +kernel
theorem dX1_take_26 : decode cX1_take 26 = .ok (.putfield 15, 3) := by decide +kernel
theorem dX1_take_29 : decode cX1_take 29 = .ok (.aload_n 0, 1) := by decide +kernel
theorem dX1_take_30 : decode cX1_take 30 = .ok (.dup, 1) := by decide +kernel
theorem dX1_take_31 : decode cX1_take 31 = .ok (.getfield 19, 3) := by decide +kernel
theorem dX1_take_34 : decode cX1_take 34 = .ok (.iconst 1, 1) := by decide +kernel
theorem dX1_take_35 : decode cX1_take 35 = .ok (.iload_n 1, 1) := by decide +kernel
theorem dX1_take_36 : decode cX1_take 36 = .ok (.ishl, 1) := by decide +kernel
theorem dX1_take_37 : decode cX1_take 37 = .ok (.ior, 1) := by decide +kernel
theorem dX1_take_38 : decode cX1_take 38 = .ok (.putfield 19, 3) := by decide +kernel
theorem dX1_take_41 : decode cX1_take 41 = .ok (.aload_n 0, 1) := by decide +kernel
theorem dX1_take_42 : decode cX1_take 42 = .ok (.dup, 1) := by decide +kernel
theorem dX1_take_43 : decode cX1_take 43 = .ok (.getfield 22, 3) := by decide +kernel
theorem dX1_take_46 : decode cX1_take 46 = .ok (.iload_n 2, 1) := by decide +kernel
theorem dX1_take_47 : decode cX1_take 47 = .ok (.iadd, 1) := by decide +kernel
theorem dX1_take_48 : decode cX1_take 48 = .ok (.putfield 22, 3) := by decide +kernel
theorem dX1_take_51 : decode cX1_take 51 = .ok (.aload_n 0, 1) := by decide +kernel
theorem dX1_take_52 : decode cX1_take 52 = .ok (.dup, 1) := by decide +kernel
theorem dX1_take_53 : decode cX1_take 53 = .ok (.getfield 25, 3) := by decide +kernel
theorem dX1_take_56 : decode cX1_take 56 = .ok (.lload_n 3, 1) := by decide +kernel
theorem dX1_take_57 : decode cX1_take 57 = .ok (.lor, 1) := by decide +kernel
theorem dX1_take_58 : decode cX1_take 58 = .ok (.putfield 25, 3) := by decide +kernel
theorem dX1_take_61 : decode cX1_take 61 = .ok (.return_, 1) := by decide +kernel
set_option maxRecDepth 20000 in
theorem ggX1_partsSeen_J13_bitCount_95d88 : GoodIn wsX1_partsSeen wsJ13_bitCount_95d88 := goodIn_r _ [6, 7, 8, 9] (by decide +kernel) (by decide +kernel)
set_option maxRecDepth 20000 in
theorem gX1_partsSeen_J13_bitCount_95d88 : GoodIn wsX1_partsSeen (va_wsS RX1 39 yJ13_bitCount_95d88 wsJ13_bitCount_95d88) := goodIn_app (goodIn_of _ (by decide +kernel)) ggX1_partsSeen_J13_bitCount_95d88
theorem dX1_partsSeen_0 : decode cX1_partsSeen 0 = .ok (.aload_n 0, 1) := by decide +kernel
theorem dX1_partsSeen_1 : decode cX1_partsSeen 1 = .ok (.getfield 25, 3) := by decide +kernel
theorem dX1_partsSeen_4 : decode cX1_partsSeen 4 = .ok (.aload_n 0, 1) := by decide +kernel
theorem dX1_partsSeen_5 : decode cX1_partsSeen 5 = .ok (.getfield 29, 3) := by decide +kernel
theorem dX1_partsSeen_8 : decode cX1_partsSeen 8 = .ok (.land, 1) := by decide +kernel
theorem dX1_partsSeen_9 : decode cX1_partsSeen 9 = .ok (.invokestatic 39, 3) := by decide +kernel
theorem dX1_partsSeen_12 : decode cX1_partsSeen 12 = .ok (.ireturn, 1) := by decide +kernel
theorem dX2_init_0 : decode cX2_init 0 = .ok (.aload_n 0, 1) := by decide +kernel
theorem dX2_init_1 : decode cX2_init 1 = .ok (.invokespecial 3, 3) := by decide +kernel
theorem dX2_init_4 : decode cX2_init 4 = .ok (.aload_n 0, 1) := by decide +kernel
theorem dX2_init_5 : decode cX2_init 5 = .ok (.bipush 12, 2) := by decide +kernel
theorem dX2_init_7 : decode cX2_init 7 = .ok (.newarray .int, 2) := by decide +kernel
theorem dX2_init_9 : decode cX2_init 9 = .ok (.putfield 9, 3) := by decide +kernel
theorem dX2_init_12 : decode cX2_init 12 = .ok (.aload_n 0, 1) := by decide +kernel
theorem dX2_init_13 : decode cX2_init 13 = .ok (.bipush 12, 2) := by decide +kernel
theorem dX2_init_15 : decode cX2_init 15 = .ok (.newarray .int, 2) := by decide +kernel
theorem dX2_init_17 : decode cX2_init 17 = .ok (.putfield 15, 3) := by decide +kernel
theorem dX2_init_20 : decode cX2_init 20 = .ok (.aload_n 0, 1) := by decide +kernel
theorem dX2_init_21 : decode cX2_init 21 = .ok (.bipush 12, 2) := by decide +kernel
theorem dX2_init_23 : decode cX2_init 23 = .ok (.newarray .int, 2) := by decide +kernel
theorem dX2_init_25 : decode cX2_init 25 = .ok (.putfield 18, 3) := by decide +kernel
theorem dX2_init_28 : decode cX2_init 28 = .ok (.aload_n 0, 1) := by decide +kernel
theorem dX2_init_29 : decode cX2_init 29 = .ok (.bipush 12, 2) := by decide +kernel
theorem dX2_init_31 : decode cX2_init 31 = .ok (.newarray .long, 2) := by decide +kernel
theorem dX2_init_33 : decode cX2_init 33 = .ok (.putfield 21, 3) := by decide +kernel
theorem dX2_init_36 : decode cX2_init 36 = .ok (.aload_n 0, 1) := by decide +kernel
theorem dX2_init_37 : decode cX2_init 37 = .ok (.iconst 0, 1) := by decide +kernel
theorem dX2_init_38 : decode cX2_init 38 = .ok (.putfield 25, 3) := by decide +kernel
theorem dX2_init_41 : decode cX2_init 41 = .ok (.aload_n 0, 1) := by decide +kernel
theorem dX2_init_42 : decode cX2_init 42 = .ok (.bipush 13, 2) := by decide +kernel
theorem dX2_init_44 : decode cX2_init 44 = .ok (.newarray .int, 2) := by decide +kernel
theorem dX2_init_46 : decode cX2_init 46 = .ok (.putfield 29, 3) := by decide +kernel
theorem dX2_init_49 : decode cX2_init 49 = .ok (.aload_n 0, 1) := by decide +kernel
theorem dX2_init_50 : decode cX2_init 50 = .ok (.bipush 13, 2) := by decide +kernel
theorem dX2_init_52 : decode cX2_init 52 = .ok (.newarray .int, 2) := by decide +kernel
theorem dX2_init_54 : decode cX2_init 54 = .ok (.putfield 32, 3) := by decide +kernel
theorem dX2_init_57 : decode cX2_init 57 = .ok (.aload_n 0, 1) := by decide +kernel
theorem dX2_init_58 : decode cX2_init 58 = .ok (.bipush 13, 2) := by decide +kernel
theorem dX2_init_60 : decode cX2_init 60 = .ok (.newarray .int, 2) := by decide +kernel
theorem dX2_init_62 : decode cX2_init 62 = .ok (.putfield 35, 3) := by decide +kernel
theorem dX2_init_65 : decode cX2_init 65 = .ok (.aload_n 0, 1) := by decide +kernel
theorem dX2_init_66 : decode cX2_init 66 = .ok (.bipush 13, 2) := by decide +kernel
theorem dX2_init_68 : decode cX2_init 68 = .ok (.newarray .long, 2) := by decide +kernel
theorem dX2_init_70 : decode cX2_init 70 = .ok (.putfield 38, 3) := by decide +kernel
theorem dX2_init_73 : decode cX2_init 73 = .ok (.aload_n 0, 1) := by decide +kernel
theorem dX2_init_74 : decode cX2_init 74 = .ok (.iconst 0, 1) := by decide +kernel
theorem dX2_init_75 : decode cX2_init 75 = .ok (.putfield 41, 3) := by decide +kernel
theorem dX2_init_78 : decode cX2_init 78 = .ok (.aload_n 0, 1) := by decide +kernel
theorem dX2_init_79 : decode cX2_init 79 = .ok (.iconst 0, 1) := by decide +kernel
theorem dX2_init_80 : decode cX2_init 80 = .ok (.putfield 44, 3) := by decide +kernel
theorem dX2_init_83 : decode cX2_init 83 = .ok (.aload_n 0, 1) := by decide +kernel
theorem dX2_init_84 : decode cX2_init 84 = .ok (.lconst 0, 1) := by decide +kernel
theorem dX2_init_85 : decode cX2_init 85 = .ok (.putfield 47, 3) := by decide +kernel
theorem dX2_init_88 : decode cX2_init 88 = .ok (.return_, 1) := by decide +kernel
theorem dX2_begin_0 : decode cX2_begin 0 = .ok (.aload_n 0, 1) := by decide +kernel
theorem dX2_begin_1 : decode cX2_begin 1 = .ok (.iconst 0, 1) := by decide +kernel
theorem dX2_begin_2 : decode cX2_begin 2 = .ok (.putfield 25, 3) := by decide +kernel
theorem dX2_begin_5 : decode cX2_begin 5 = .ok (.aload_n 0, 1) := by decide +kernel
theorem dX2_begin_6 : decode cX2_begin 6 = .ok (.iconst 0, 1) := by decide +kernel
theorem dX2_begin_7 : decode cX2_begin 7 = .ok (.putfield 41, 3) := by decide +kernel
theorem dX2_begin_10 : decode cX2_begin 10 = .ok (.aload_n 0, 1) := by decide +kernel
theorem dX2_begin_11 : decode cX2_begin 11 = .ok (.iconst 0, 1) := by decide +kernel
theorem dX2_begin_12 : decode cX2_begin 12 = .ok (.putfield 44, 3) := by decide +kernel
theorem dX2_begin_15 : decode cX2_begin 15 = .ok (.aload_n 0, 1) := by decide +kernel
theorem dX2_begin_16 : decode cX2_begin 16 = .ok (.lconst 0, 1) := by decide +kernel
theorem dX2_begin_17 : decode cX2_begin 17 = .ok (.putfield 47, 3) := by decide +kernel
theorem dX2_begin_20 : decode cX2_begin 20 = .ok (.return_, 1) := by decide +kernel
theorem dX2_add_0 : decode cX2_add 0 = .ok (.aload_n 0, 1) := by decide +kernel
theorem dX2_add_1 : decode cX2_add 1 = .ok (.getfield 25, 3) := by decide +kernel
theorem dX2_add_4 : decode cX2_add 4 = .ok (.bipush 12, 2) := by decide +kernel
theorem dX2_add_6 : decode cX2_add 6 = .ok (.if_icmp .ge 54, 3) := by decide +kernel
theorem dX2_add_9 : decode cX2_add 9 = .ok (.aload_n 0, 1) := by decide +kernel
theorem dX2_add_10 : decode cX2_add 10 = .ok (.getfield 9, 3) := by decide +kernel
theorem dX2_add_13 : decode cX2_add 13 = .ok (.aload_n 0, 1) := by decide +kernel
theorem dX2_add_14 : decode cX2_add 14 = .ok (.getfield 25, 3) := by decide +kernel
theorem dX2_add_17 : decode cX2_add 17 = .ok (.iload_n 1, 1) := by decide +kernel
theorem dX2_add_18 : decode cX2_add 18 = .ok (.iastore, 1) := by decide +kernel
theorem dX2_add_19 : decode cX2_add 19 = .ok (.aload_n 0, 1) := by decide +kernel
theorem dX2_add_20 : decode cX2_add 20 = .ok (.getfield 15, 3) := by decide +kernel
theorem dX2_add_23 : decode cX2_add 23 = .ok (.aload_n 0, 1) := by decide +kernel
theorem dX2_add_24 : decode cX2_add 24 = .ok (.getfield 25, 3) := by decide +kernel
theorem dX2_add_27 : decode cX2_add 27 = .ok (.iload_n 2, 1) := by decide +kernel
theorem dX2_add_28 : decode cX2_add 28 = .ok (.iastore, 1) := by decide +kernel
theorem dX2_add_29 : decode cX2_add 29 = .ok (.aload_n 0, 1) := by decide +kernel
theorem dX2_add_30 : decode cX2_add 30 = .ok (.getfield 18, 3) := by decide +kernel
theorem dX2_add_33 : decode cX2_add 33 = .ok (.aload_n 0, 1) := by decide +kernel
theorem dX2_add_34 : decode cX2_add 34 = .ok (.getfield 25, 3) := by decide +kernel
theorem dX2_add_37 : decode cX2_add 37 = .ok (.iload_n 3, 1) := by decide +kernel
theorem dX2_add_38 : decode cX2_add 38 = .ok (.iastore, 1) := by decide +kernel
theorem dX2_add_39 : decode cX2_add 39 = .ok (.aload_n 0, 1) := by decide +kernel
theorem dX2_add_40 : decode cX2_add 40 = .ok (.getfield 21, 3) := by decide +kernel
theorem dX2_add_43 : decode cX2_add 43 = .ok (.aload_n 0, 1) := by decide +kernel
theorem dX2_add_44 : decode cX2_add 44 = .ok (.getfield 25, 3) := by decide +kernel
theorem dX2_add_47 : decode cX2_add 47 = .ok (.lload 4, 2) := by decide +kernel
theorem dX2_add_49 : decode cX2_add 49 = .ok (.lastore, 1) := by decide +kernel
theorem dX2_add_50 : decode cX2_add 50 = .ok (.aload_n 0, 1) := by decide +kernel
theorem dX2_add_51 : decode cX2_add 51 = .ok (.dup, 1) := by decide +kernel
theorem dX2_add_52 : decode cX2_add 52 = .ok (.getfield 25, 3) := by decide +kernel
theorem dX2_add_55 : decode cX2_add 55 = .ok (.iconst 1, 1) := by decide +kernel
theorem dX2_add_56 : decode cX2_add 56 = .ok (.iadd, 1) := by decide +kernel
theorem dX2_add_57 : decode cX2_add 57 = .ok (.putfield 25, 3) := by decide +kernel
theorem dX2_add_60 : decode cX2_add 60 = .ok (.return_, 1) := by decide +kernel
set_option maxRecDepth 20000 in
theorem ggX2_sumUp_J6_numberOfTrailingZeros_0f7a4 : GoodIn wsX2_sumUp wsJ6_numberOfTrailingZeros_0f7a4 := goodIn_r _ [16, 17] (by decide +kernel) (by decide +kernel)
set_option maxRecDepth 20000 in
theorem gX2_sumUp_J6_numberOfTrailingZeros_0f7a4 : GoodIn wsX2_sumUp (va_wsS RX2 51 yJ6_numberOfTrailingZeros_0f7a4 wsJ6_numberOfTrailingZeros_0f7a4) := goodIn_app (goodIn_of _ (by decide +kernel)) ggX2_sumUp_J6_numberOfTrailingZeros_0f7a4
theorem dX2_sumUp_0 : decode cX2_sumUp 0 = .ok (.iload_n 1, 1) := by decide +kernel
theorem dX2_sumUp_1 : decode cX2_sumUp 1 = .ok (.invokestatic 51, 3) := by decide +kernel
theorem dX2_sumUp_4 : decode cX2_sumUp 4 = .ok (.bipush 11, 2) := by decide +kernel
theorem dX2_sumUp_6 : decode cX2_sumUp 6 = .ok (.invokestatic 57, 3) := by decide +kernel
theorem dX2_sumUp_9 : decode cX2_sumUp 9 = .ok (.istore_n 2, 1) := by decide +kernel
theorem dX2_sumUp_10 : decode cX2_sumUp 10 = .ok (.iload_n 1, 1) := by decide +kernel
theorem dX2_sumUp_11 : decode cX2_sumUp 11 = .ok (.iload_n 1, 1) := by decide +kernel
theorem dX2_sumUp_12 : decode cX2_sumUp 12 = .ok (.iconst 1, 1) := by decide +kernel
theorem dX2_sumUp_13 : decode cX2_sumUp 13 = .ok (.isub, 1) := by decide +kernel
theorem dX2_sumUp_14 : decode cX2_sumUp 14 = .ok (.iand, 1) := by decide +kernel
theorem dX2_sumUp_15 : decode cX2_sumUp 15 = .ok (.invokestatic 51, 3) := by decide +kernel
theorem dX2_sumUp_18 : decode cX2_sumUp 18 = .ok (.bipush 12, 2) := by decide +kernel
theorem dX2_sumUp_20 : decode cX2_sumUp 20 = .ok (.invokestatic 57, 3) := by decide +kernel
theorem dX2_sumUp_23 : decode cX2_sumUp 23 = .ok (.istore_n 3, 1) := by decide +kernel
theorem dX2_sumUp_24 : decode cX2_sumUp 24 = .ok (.aload_n 0, 1) := by decide +kernel
theorem dX2_sumUp_25 : decode cX2_sumUp 25 = .ok (.getfield 29, 3) := by decide +kernel
theorem dX2_sumUp_28 : decode cX2_sumUp 28 = .ok (.iload_n 2, 1) := by decide +kernel
theorem dX2_sumUp_29 : decode cX2_sumUp 29 = .ok (.aload_n 0, 1) := by decide +kernel
theorem dX2_sumUp_30 : decode cX2_sumUp 30 = .ok (.getfield 29, 3) := by decide +kernel
theorem dX2_sumUp_33 : decode cX2_sumUp 33 = .ok (.iload_n 3, 1) := by decide +kernel
theorem dX2_sumUp_34 : decode cX2_sumUp 34 = .ok (.iaload, 1) := by decide +kernel
theorem dX2_sumUp_35 : decode cX2_sumUp 35 = .ok (.aload_n 0, 1) := by decide +kernel
theorem dX2_sumUp_36 : decode cX2_sumUp 36 = .ok (.getfield 9, 3) := by decide +kernel
theorem dX2_sumUp_39 : decode cX2_sumUp 39 = .ok (.iload_n 2, 1) := by decide +kernel
theorem dX2_sumUp_40 : decode cX2_sumUp 40 = .ok (.iaload, 1) := by decide +kernel
theorem dX2_sumUp_41 : decode cX2_sumUp 41 = .ok (.ior, 1) := by decide +kernel
theorem dX2_sumUp_42 : decode cX2_sumUp 42 = .ok (.iastore, 1) := by decide +kernel
theorem dX2_sumUp_43 : decode cX2_sumUp 43 = .ok (.aload_n 0, 1) := by decide +kernel
theorem dX2_sumUp_44 : decode cX2_sumUp 44 = .ok (.getfield 32, 3) := by decide +kernel
theorem dX2_sumUp_47 : decode cX2_sumUp 47 = .ok (.iload_n 2, 1) := by decide +kernel
theorem dX2_sumUp_48 : decode cX2_sumUp 48 = .ok (.aload_n 0, 1) := by decide +kernel
theorem dX2_sumUp_49 : decode cX2_sumUp 49 = .ok (.getfield 32, 3) := by decide +kernel
theorem dX2_sumUp_52 : decode cX2_sumUp 52 = .ok (.iload_n 3, 1) := by decide +kernel
theorem dX2_sumUp_53 : decode cX2_sumUp 53 = .ok (.iaload, 1) := by decide +kernel
theorem dX2_sumUp_54 : decode cX2_sumUp 54 = .ok (.aload_n 0, 1) := by decide +kernel
theorem dX2_sumUp_55 : decode cX2_sumUp 55 = .ok (.getfield 15, 3) := by decide +kernel
theorem dX2_sumUp_58 : decode cX2_sumUp 58 = .ok (.iload_n 2, 1) := by decide +kernel
theorem dX2_sumUp_59 : decode cX2_sumUp 59 = .ok (.iaload, 1) := by decide +kernel
theorem dX2_sumUp_60 : decode cX2_sumUp 60 = .ok (.ior, 1) := by decide +kernel
theorem dX2_sumUp_61 : decode cX2_sumUp 61 = .ok (.iastore, 1) := by decide +kernel
theorem dX2_sumUp_62 : decode cX2_sumUp 62 = .ok (.aload_n 0, 1) := by decide +kernel
theorem dX2_sumUp_63 : decode cX2_sumUp 63 = .ok (.getfield 35, 3) := by decide +kernel
theorem dX2_sumUp_66 : decode cX2_sumUp 66 = .ok (.iload_n 2, 1) := by decide +kernel
theorem dX2_sumUp_67 : decode cX2_sumUp 67 = .ok (.aload_n 0, 1) := by decide +kernel
theorem dX2_sumUp_68 : decode cX2_sumUp 68 = .ok (.getfield 35, 3) := by decide +kernel
theorem dX2_sumUp_71 : decode cX2_sumUp 71 = .ok (.iload_n 3, 1) := by decide +kernel
theorem dX2_sumUp_72 : decode cX2_sumUp 72 = .ok (.iaload, 1) := by decide +kernel
theorem dX2_sumUp_73 : decode cX2_sumUp 73 = .ok (.aload_n 0, 1) := by decide +kernel
theorem dX2_sumUp_74 : decode cX2_sumUp 74 = .ok (.getfield 18, 3) := by decide +kernel
theorem dX2_sumUp_77 : decode cX2_sumUp 77 = .ok (.iload_n 2, 1) := by decide +kernel
theorem dX2_sumUp_78 : decode cX2_sumUp 78 = .ok (.iaload, 1) := by decide +kernel
theorem dX2_sumUp_79 : decode cX2_sumUp 79 = .ok (.iadd, 1) := by decide +kernel
theorem dX2_sumUp_80 : decode cX2_sumUp 80 = .ok (.iastore, 1) := by decide +kernel
theorem dX2_sumUp_81 : decode cX2_sumUp 81 = .ok (.aload_n 0, 1) := by decide +kernel
theorem dX2_sumUp_82 : decode cX2_sumUp 82 = .ok (.getfield 38, 3) := by decide +kernel
theorem dX2_sumUp_85 : decode cX2_sumUp 85 = .ok (.iload_n 2, 1) := by decide +kernel
theorem dX2_sumUp_86 : decode cX2_sumUp 86 = .ok (.aload_n 0, 1) := by decide +kernel
theorem dX2_sumUp_87 : decode cX2_sumUp 87 = .ok (.getfield 38, 3) := by decide +kernel
theorem dX2_sumUp_90 : decode cX2_sumUp 90 = .ok (.iload_n 3, 1) := by decide +kernel
theorem dX2_sumUp_91 : decode cX2_sumUp 91 = .ok (.laload, 1) := by decide +kernel
theorem dX2_sumUp_92 : decode cX2_sumUp 92 = .ok (.aload_n 0, 1) := by decide +kernel
theorem dX2_sumUp_93 : decode cX2_sumUp 93 = .ok (.getfield 21, 3) := by decide +kernel
theorem dX2_sumUp_96 : decode cX2_sumUp 96 = .ok (.iload_n 2, 1) := by decide +kernel
theorem dX2_sumUp_97 : decode cX2_sumUp 97 = .ok (.laload, 1) := by decide +kernel
theorem dX2_sumUp_98 : decode cX2_sumUp 98 = .ok (.lor, 1) := by decide +kernel
theorem dX2_sumUp_99 : decode cX2_sumUp 99 = .ok (.lastore, 1) := by decide +kernel
theorem dX2_sumUp_100 : decode cX2_sumUp 100 = .ok (.iload_n 2, 1) := by decide +kernel
theorem dX2_sumUp_101 : decode cX2_sumUp 101 = .ok (.ireturn, 1) := by decide +kernel
theorem dX2_keep_0 : decode cX2_keep 0 = .ok (.aload_n 0, 1) := by decide +kernel
theorem dX2_keep_1 : decode cX2_keep 1 = .ok (.aload_n 0, 1) := by decide +kernel
theorem dX2_keep_2 : decode cX2_keep 2 = .ok (.getfield 29, 3) := by decide +kernel
theorem dX2_keep_5 : decode cX2_keep 5 = .ok (.iload_n 1, 1) := by decide +kernel
theorem dX2_keep_6 : decode cX2_keep 6 = .ok (.iaload, 1) := by decide +kernel
theorem dX2_keep_7 : decode cX2_keep 7 = .ok (.putfield 41, 3) := by decide +kernel
theorem dX2_keep_10 : decode cX2_keep 10 = .ok (.aload_n 0, 1) := by decide +kernel
theorem dX2_keep_11 : decode cX2_keep 11 = .ok (.aload_n 0, 1) := by decide +kernel
theorem dX2_keep_12 : decode cX2_keep 12 = .ok (.getfield 35, 3) := by decide +kernel
theorem dX2_keep_15 : decode cX2_keep 15 = .ok (.iload_n 1, 1) := by decide +kernel
theorem dX2_keep_16 : decode cX2_keep 16 = .ok (.iaload, 1) := by decide +kernel
theorem dX2_keep_17 : decode cX2_keep 17 = .ok (.putfield 44, 3) := by decide +kernel
theorem dX2_keep_20 : decode cX2_keep 20 = .ok (.aload_n 0, 1) := by decide +kernel
theorem dX2_keep_21 : decode cX2_keep 21 = .ok (.aload_n 0, 1) := by decide +kernel
theorem dX2_keep_22 : decode cX2_keep 22 = .ok (.getfield 38, 3) := by decide +kernel
theorem dX2_keep_25 : decode cX2_keep 25 = .ok (.iload_n 1, 1) := by decide +kernel
theorem dX2_keep_26 : decode cX2_keep 26 = .ok (.laload, 1) := by decide +kernel
theorem dX2_keep_27 : decode cX2_keep 27 = .ok (.putfield 47, 3) := by decide +kernel
theorem dX2_keep_30 : decode cX2_keep 30 = .ok (.return_, 1) := by decide +kernel
set_option maxRecDepth 20000 in
theorem ggX2_seekWidest_X2_sumUp : GoodIn wsX2_seekWidest wsX2_sumUp := goodIn_r _ [9, 10, 11, 12, 13, 4, 14, 3, 15, 2, 16, 17, 18, 19, 20, 21, 22, 23, 42, 43, 44, 45, 46, 47, 48, 49, 50, 51, 52, 53] (by decide +kernel) (by decide +kernel)
set_option maxRecDepth 20000 in
theorem gX2_seekWidest_X2_sumUp : GoodIn wsX2_seekWidest (wsV RX2 63 RX2 yX2_sumUp wsX2_sumUp) := goodIn_app (goodIn_of _ (by decide +kernel)) ggX2_seekWidest_X2_sumUp
set_option maxRecDepth 20000 in
theorem ggX2_seekWidest_X2_isWider : GoodIn wsX2_seekWidest wsX2_isWider := goodIn_r _ [27, 17, 28, 2, 29, 30, 31, 32, 33, 34, 35, 36, 42, 43, 44, 45, 46, 47, 48, 49, 50, 51, 52, 53] (by decide +kernel) (by decide +kernel)
set_option maxRecDepth 20000 in
theorem gX2_seekWidest_X2_isWider : GoodIn wsX2_seekWidest (wsV RX2 66 RX2 yX2_isWider wsX2_isWider) := goodIn_app (goodIn_of _ (by decide +kernel)) ggX2_seekWidest_X2_isWider
set_option maxRecDepth 20000 in
theorem ggX2_seekWidest_X2_keep : GoodIn wsX2_seekWidest wsX2_keep := goodIn_r _ [40, 4, 41, 2, 29, 17, 28, 42, 43, 44, 45, 46, 47, 48, 49, 50, 51, 52, 53] (by decide +kernel) (by decide +kernel)
set_option maxRecDepth 20000 in
theorem gX2_seekWidest_X2_keep : GoodIn wsX2_seekWidest (wsV RX2 70 RX2 yX2_keep wsX2_keep) := goodIn_app (goodIn_of _ (by decide +kernel)) ggX2_seekWidest_X2_keep
theorem dX2_seekWidest_0 : decode cX2_seekWidest 0 = .ok (.iconst 1, 1) := by decide +kernel
theorem dX2_seekWidest_1 : decode cX2_seekWidest 1 = .ok (.aload_n 0, 1) := by decide +kernel
theorem dX2_seekWidest_2 : decode cX2_seekWidest 2 = .ok (.getfield 25, 3) := by decide +kernel
theorem dX2_seekWidest_5 : decode cX2_seekWidest 5 = .ok (.ishl, 1) := by decide +kernel
theorem dX2_seekWidest_6 : decode cX2_seekWidest 6 = .ok (.istore_n 2, 1) := by decide +kernel
theorem dX2_seekWidest_7 : decode cX2_seekWidest 7 = .ok (.iconst 1, 1) := by decide +kernel
theorem dX2_seekWidest_8 : decode cX2_seekWidest 8 = .ok (.istore_n 3, 1) := by decide +kernel
theorem dX2_seekWidest_9 : decode cX2_seekWidest 9 = .ok (.iload_n 3, 1) := by decide +kernel
theorem dX2_seekWidest_10 : decode cX2_seekWidest 10 = .ok (.iload_n 2, 1) := by decide +kernel
theorem dX2_seekWidest_11 : decode cX2_seekWidest 11 = .ok (.if_icmp .ge 69, 3) := by decide +kernel
theorem dX2_seekWidest_14 : decode cX2_seekWidest 14 = .ok (.aload_n 0, 1) := by decide +kernel
theorem dX2_seekWidest_15 : decode cX2_seekWidest 15 = .ok (.iload_n 3, 1) := by decide +kernel
theorem dX2_seekWidest_16 : decode cX2_seekWidest 16 = .ok (.invokevirtual 63, 3) := by decide +kernel
theorem dX2_seekWidest_19 : decode cX2_seekWidest 19 = .ok (.istore 4, 2) := by decide +kernel
theorem dX2_seekWidest_21 : decode cX2_seekWidest 21 = .ok (.aload_n 0, 1) := by decide +kernel
theorem dX2_seekWidest_22 : decode cX2_seekWidest 22 = .ok (.getfield 35, 3) := by decide +kernel
theorem dX2_seekWidest_25 : decode cX2_seekWidest 25 = .ok (.iload 4, 2) := by decide +kernel
theorem dX2_seekWidest_27 : decode cX2_seekWidest 27 = .ok (.iaload, 1) := by decide +kernel
theorem dX2_seekWidest_28 : decode cX2_seekWidest 28 = .ok (.iload_n 1, 1) := by decide +kernel
theorem dX2_seekWidest_29 : decode cX2_seekWidest 29 = .ok (.if_icmp .le 13, 3) := by decide +kernel
theorem dX2_seekWidest_32 : decode cX2_seekWidest 32 = .ok (.iload_n 3, 1) := by decide +kernel
theorem dX2_seekWidest_33 : decode cX2_seekWidest 33 = .ok (.iconst 1, 1) := by decide +kernel
theorem dX2_seekWidest_34 : decode cX2_seekWidest 34 = .ok (.iload 4, 2) := by decide +kernel
theorem dX2_seekWidest_36 : decode cX2_seekWidest 36 = .ok (.ishl, 1) := by decide +kernel
theorem dX2_seekWidest_37 : decode cX2_seekWidest 37 = .ok (.iadd, 1) := by decide +kernel
theorem dX2_seekWidest_38 : decode cX2_seekWidest 38 = .ok (.istore_n 3, 1) := by decide +kernel
theorem dX2_seekWidest_39 : decode cX2_seekWidest 39 = .ok (.goto 38, 3) := by decide +kernel
theorem dX2_seekWidest_42 : decode cX2_seekWidest 42 = .ok (.aload_n 0, 1) := by decide +kernel
theorem dX2_seekWidest_43 : decode cX2_seekWidest 43 = .ok (.getfield 32, 3) := by decide +kernel
theorem dX2_seekWidest_46 : decode cX2_seekWidest 46 = .ok (.iload 4, 2) := by decide +kernel
theorem dX2_seekWidest_48 : decode cX2_seekWidest 48 = .ok (.iaload, 1) := by decide +kernel
theorem dX2_seekWidest_49 : decode cX2_seekWidest 49 = .ok (.aload_n 0, 1) := by decide +kernel
theorem dX2_seekWidest_50 : decode cX2_seekWidest 50 = .ok (.getfield 29, 3) := by decide +kernel
theorem dX2_seekWidest_53 : decode cX2_seekWidest 53 = .ok (.iload 4, 2) := by decide +kernel
theorem dX2_seekWidest_55 : decode cX2_seekWidest 55 = .ok (.iaload, 1) := by decide +kernel
theorem dX2_seekWidest_56 : decode cX2_seekWidest 56 = .ok (.if_icmp .ne 18, 3) := by decide +kernel
theorem dX2_seekWidest_59 : decode cX2_seekWidest 59 = .ok (.aload_n 0, 1) := by decide +kernel
theorem dX2_seekWidest_60 : decode cX2_seekWidest 60 = .ok (.iload 4, 2) := by decide +kernel
theorem dX2_seekWidest_62 : decode cX2_seekWidest 62 = .ok (.invokevirtual 66, 3) := by decide +kernel
theorem dX2_seekWidest_65 : decode cX2_seekWidest 65 = .ok (.ifCond .eq 9, 3) := by decide +kernel
theorem dX2_seekWidest_68 : decode cX2_seekWidest 68 = .ok (.aload_n 0, 1) := by decide +kernel
theorem dX2_seekWidest_69 : decode cX2_seekWidest 69 = .ok (.iload 4, 2) := by decide +kernel
theorem dX2_seekWidest_71 : decode cX2_seekWidest 71 = .ok (.invokevirtual 70, 3) := by decide +kernel
theorem dX2_seekWidest_74 : decode cX2_seekWidest 74 = .ok (.iinc 3 1, 3) := by decide +kernel
theorem dX2_seekWidest_77 : decode cX2_seekWidest 77 = .ok (.goto (-68), 3) := by decide +kernel
theorem dX2_seekWidest_80 : decode cX2_seekWidest 80 = .ok (.return_, 1) := by decide +kernel
set_option maxRecDepth 20000 in
theorem ggX2_isWider_J13_bitCount_95d88 : GoodIn wsX2_isWider wsJ13_bitCount_95d88 := goodIn_r _ [8, 9, 10, 11] (by decide +kernel) (by decide +kernel)
set_option maxRecDepth 20000 in
theorem gX2_isWider_J13_bitCount_95d88 : GoodIn wsX2_isWider (va_wsS RX2 74 yJ13_bitCount_95d88 wsJ13_bitCount_95d88) := goodIn_app (goodIn_of _ (by decide +kernel)) ggX2_isWider_J13_bitCount_95d88
theorem dX2_isWider_0 : decode cX2_isWider 0 = .ok (.aload_n 0, 1) := by decide +kernel
theorem dX2_isWider_1 : decode cX2_isWider 1 = .ok (.getfield 38, 3) := by decide +kernel
theorem dX2_isWider_4 : decode cX2_isWider 4 = .ok (.iload_n 1, 1) := by decide +kernel
theorem dX2_isWider_5 : decode cX2_isWider 5 = .ok (.laload, 1) := by decide +kernel
theorem dX2_isWider_6 : decode cX2_isWider 6 = .ok (.invokestatic 74, 3) := by decide +kernel
theorem dX2_isWider_9 : decode cX2_isWider 9 = .ok (.aload_n 0, 1) := by decide +kernel
theorem dX2_isWider_10 : decode cX2_isWider 10 = .ok (.getfield 47, 3) := by decide +kernel
theorem dX2_isWider_13 : decode cX2_isWider 13 = .ok (.invokestatic 74, 3) := by decide +kernel
theorem dX2_isWider_16 : decode cX2_isWider 16 = .ok (.isub, 1) := by decide +kernel
theorem dX2_isWider_17 : decode cX2_isWider 17 = .ok (.istore_n 2, 1) := by decide +kernel
theorem dX2_isWider_18 : decode cX2_isWider 18 = .ok (.iload_n 2, 1) := by decide +kernel
theorem dX2_isWider_19 : decode cX2_isWider 19 = .ok (.ifCond .gt 20, 3) := by decide +kernel
theorem dX2_isWider_22 : decode cX2_isWider 22 = .ok (.iload_n 2, 1) := by decide +kernel
theorem dX2_isWider_23 : decode cX2_isWider 23 = .ok (.ifCond .ne 20, 3) := by decide +kernel
theorem dX2_isWider_26 : decode cX2_isWider 26 = .ok (.aload_n 0, 1) := by decide +kernel
theorem dX2_isWider_27 : decode cX2_isWider 27 = .ok (.getfield 35, 3) := by decide +kernel
theorem dX2_isWider_30 : decode cX2_isWider 30 = .ok (.iload_n 1, 1) := by decide +kernel
theorem dX2_isWider_31 : decode cX2_isWider 31 = .ok (.iaload, 1) := by decide +kernel
theorem dX2_isWider_32 : decode cX2_isWider 32 = .ok (.aload_n 0, 1) := by decide +kernel
theorem dX2_isWider_33 : decode cX2_isWider 33 = .ok (.getfield 44, 3) := by decide +kernel
theorem dX2_isWider_36 : decode cX2_isWider 36 = .ok (.if_icmp .ge 7, 3) := by decide +kernel
theorem dX2_isWider_39 : decode cX2_isWider 39 = .ok (.iconst 1, 1) := by decide +kernel
theorem dX2_isWider_40 : decode cX2_isWider 40 = .ok (.goto 4, 3) := by decide +kernel
theorem dX2_isWider_43 : decode cX2_isWider 43 = .ok (.iconst 0, 1) := by decide +kernel
theorem dX2_isWider_44 : decode cX2_isWider 44 = .ok (.ireturn, 1) := by decide +kernel
set_option maxRecDepth 20000 in
theorem ggX2_seekFewest_X2_sumUp : GoodIn wsX2_seekFewest wsX2_sumUp := goodIn_r _ [9, 10, 11, 12, 13, 14, 15, 16, 17, 3, 18, 2, 19, 20, 21, 22, 23, 24, 37, 38, 39, 40, 41, 42, 43, 44, 45, 46, 47, 48] (by decide +kernel) (by decide +kernel)
set_option maxRecDepth 20000 in
theorem gX2_seekFewest_X2_sumUp : GoodIn wsX2_seekFewest (wsV RX2 63 RX2 yX2_sumUp wsX2_sumUp) := goodIn_app (goodIn_of _ (by decide +kernel)) ggX2_seekFewest_X2_sumUp
set_option maxRecDepth 20000 in
theorem ggX2_seekFewest_J6_bitCount_0f7a4 : GoodIn wsX2_seekFewest wsJ6_bitCount_0f7a4 := goodIn_r _ [27, 28, 29, 30] (by decide +kernel) (by decide +kernel)
set_option maxRecDepth 20000 in
theorem gX2_seekFewest_J6_bitCount_0f7a4 : GoodIn wsX2_seekFewest (va_wsS RX2 80 yJ6_bitCount_0f7a4 wsJ6_bitCount_0f7a4) := goodIn_app (goodIn_of _ (by decide +kernel)) ggX2_seekFewest_J6_bitCount_0f7a4
set_option maxRecDepth 20000 in
theorem ggX2_seekFewest_X2_keep : GoodIn wsX2_seekFewest wsX2_keep := goodIn_r _ [34, 14, 35, 3, 4, 2, 36, 37, 38, 39, 40, 41, 42, 43, 44, 45, 46, 47, 48] (by decide +kernel) (by decide +kernel)
set_option maxRecDepth 20000 in
theorem gX2_seekFewest_X2_keep : GoodIn wsX2_seekFewest (wsV RX2 70 RX2 yX2_keep wsX2_keep) := goodIn_app (goodIn_of _ (by decide +kernel)) ggX2_seekFewest_X2_keep
theorem dX2_seekFewest_0 : decode cX2_seekFewest 0 = .ok (.lload_n 1, 1) := by decide +kernel
theorem dX2_seekFewest_1 : decode cX2_seekFewest 1 = .ok (.lconst 0, 1) := by decide +kernel
theorem dX2_seekFewest_2 : decode cX2_seekFewest 2 = .ok (.lcmp, 1) := by decide +kernel
theorem dX2_seekFewest_3 : decode cX2_seekFewest 3 = .ok (.ifCond .ne 7, 3) := by decide +kernel
theorem dX2_seekFewest_6 : decode cX2_seekFewest 6 = .ok (.iconst 0, 1) := by decide +kernel
theorem dX2_seekFewest_7 : decode cX2_seekFewest 7 = .ok (.goto 9, 3) := by decide +kernel
theorem dX2_seekFewest_10 : decode cX2_seekFewest 10 = .ok (.iconst 1, 1) := by decide +kernel
theorem dX2_seekFewest_11 : decode cX2_seekFewest 11 = .ok (.aload_n 0, 1) := by decide +kernel
theorem dX2_seekFewest_12 : decode cX2_seekFewest 12 = .ok (.getfield 25, 3) := by decide +kernel
theorem dX2_seekFewest_15 : decode cX2_seekFewest 15 = .ok (.ishl, 1) := by decide +kernel
theorem dX2_seekFewest_16 : decode cX2_seekFewest 16 = .ok (.istore_n 3, 1) := by decide +kernel
theorem dX2_seekFewest_17 : decode cX2_seekFewest 17 = .ok (.bipush 13, 2) := by decide +kernel
theorem dX2_seekFewest_19 : decode cX2_seekFewest 19 = .ok (.istore 4, 2) := by decide +kernel
theorem dX2_seekFewest_21 : decode cX2_seekFewest 21 = .ok (.iconst 1, 1) := by decide +kernel
theorem dX2_seekFewest_22 : decode cX2_seekFewest 22 = .ok (.istore 5, 2) := by decide +kernel
theorem dX2_seekFewest_24 : decode cX2_seekFewest 24 = .ok (.iload 5, 2) := by decide +kernel
theorem dX2_seekFewest_26 : decode cX2_seekFewest 26 = .ok (.iload_n 3, 1) := by decide +kernel
theorem dX2_seekFewest_27 : decode cX2_seekFewest 27 = .ok (.if_icmp .ge 120, 3) := by decide +kernel
theorem dX2_seekFewest_30 : decode cX2_seekFewest 30 = .ok (.aload_n 0, 1) := by decide +kernel
theorem dX2_seekFewest_31 : decode cX2_seekFewest 31 = .ok (.iload 5, 2) := by decide +kernel
theorem dX2_seekFewest_33 : decode cX2_seekFewest 33 = .ok (.invokevirtual 63, 3) := by decide +kernel
theorem dX2_seekFewest_36 : decode cX2_seekFewest 36 = .ok (.istore 6, 2) := by decide +kernel
theorem dX2_seekFewest_38 : decode cX2_seekFewest 38 = .ok (.iload 5, 2) := by decide +kernel
theorem dX2_seekFewest_40 : decode cX2_seekFewest 40 = .ok (.invokestatic 80, 3) := by decide +kernel
theorem dX2_seekFewest_43 : decode cX2_seekFewest 43 = .ok (.istore 7, 2) := by decide +kernel
theorem dX2_seekFewest_45 : decode cX2_seekFewest 45 = .ok (.aload_n 0, 1) := by decide +kernel
theorem dX2_seekFewest_46 : decode cX2_seekFewest 46 = .ok (.getfield 38, 3) := by decide +kernel
theorem dX2_seekFewest_49 : decode cX2_seekFewest 49 = .ok (.iload 6, 2) := by decide +kernel
theorem dX2_seekFewest_51 : decode cX2_seekFewest 51 = .ok (.laload, 1) := by decide +kernel
theorem dX2_seekFewest_52 : decode cX2_seekFewest 52 = .ok (.lload_n 1, 1) := by decide +kernel
theorem dX2_seekFewest_53 : decode cX2_seekFewest 53 = .ok (.lcmp, 1) := by decide +kernel
theorem dX2_seekFewest_54 : decode cX2_seekFewest 54 = .ok (.ifCond .ne 7, 3) := by decide +kernel
theorem dX2_seekFewest_57 : decode cX2_seekFewest 57 = .ok (.iconst 1, 1) := by decide +kernel
theorem dX2_seekFewest_58 : decode cX2_seekFewest 58 = .ok (.goto 4, 3) := by decide +kernel
theorem dX2_seekFewest_61 : decode cX2_seekFewest 61 = .ok (.iconst 0, 1) := by decide +kernel
theorem dX2_seekFewest_62 : decode cX2_seekFewest 62 = .ok (.istore 8, 2) := by decide +kernel
theorem dX2_seekFewest_64 : decode cX2_seekFewest 64 = .ok (.iload 7, 2) := by decide +kernel
theorem dX2_seekFewest_66 : decode cX2_seekFewest 66 = .ok (.iload 4, 2) := by decide +kernel
theorem dX2_seekFewest_68 : decode cX2_seekFewest 68 = .ok (.if_icmp .lt 24, 3) := by decide +kernel
theorem dX2_seekFewest_71 : decode cX2_seekFewest 71 = .ok (.iload 7, 2) := by decide +kernel
theorem dX2_seekFewest_73 : decode cX2_seekFewest 73 = .ok (.iload 4, 2) := by decide +kernel
theorem dX2_seekFewest_75 : decode cX2_seekFewest 75 = .ok (.if_icmp .ne 21, 3) := by decide +kernel
theorem dX2_seekFewest_78 : decode cX2_seekFewest 78 = .ok (.aload_n 0, 1) := by decide +kernel
theorem dX2_seekFewest_79 : decode cX2_seekFewest 79 = .ok (.getfield 35, 3) := by decide +kernel
theorem dX2_seekFewest_82 : decode cX2_seekFewest 82 = .ok (.iload 6, 2) := by decide +kernel
theorem dX2_seekFewest_84 : decode cX2_seekFewest 84 = .ok (.iaload, 1) := by decide +kernel
theorem dX2_seekFewest_85 : decode cX2_seekFewest 85 = .ok (.aload_n 0, 1) := by decide +kernel
theorem dX2_seekFewest_86 : decode cX2_seekFewest 86 = .ok (.getfield 44, 3) := by decide +kernel
theorem dX2_seekFewest_89 : decode cX2_seekFewest 89 = .ok (.if_icmp .ge 7, 3) := by decide +kernel
theorem dX2_seekFewest_92 : decode cX2_seekFewest 92 = .ok (.iconst 1, 1) := by decide +kernel
theorem dX2_seekFewest_93 : decode cX2_seekFewest 93 = .ok (.goto 4, 3) := by decide +kernel
theorem dX2_seekFewest_96 : decode cX2_seekFewest 96 = .ok (.iconst 0, 1) := by decide +kernel
theorem dX2_seekFewest_97 : decode cX2_seekFewest 97 = .ok (.istore 9, 2) := by decide +kernel
theorem dX2_seekFewest_99 : decode cX2_seekFewest 99 = .ok (.iload 8, 2) := by decide +kernel
theorem dX2_seekFewest_101 : decode cX2_seekFewest 101 = .ok (.ifCond .eq 18, 3) := by decide +kernel
theorem dX2_seekFewest_104 : decode cX2_seekFewest 104 = .ok (.iload 9, 2) := by decide +kernel
theorem dX2_seekFewest_106 : decode cX2_seekFewest 106 = .ok (.ifCond .eq 13, 3) := by decide +kernel
theorem dX2_seekFewest_109 : decode cX2_seekFewest 109 = .ok (.iload 7, 2) := by decide +kernel
theorem dX2_seekFewest_111 : decode cX2_seekFewest 111 = .ok (.istore 4, 2) := by decide +kernel
theorem dX2_seekFewest_113 : decode cX2_seekFewest 113 = .ok (.aload_n 0, 1) := by decide +kernel
theorem dX2_seekFewest_114 : decode cX2_seekFewest 114 = .ok (.iload 6, 2) := by decide +kernel
theorem dX2_seekFewest_116 : decode cX2_seekFewest 116 = .ok (.invokevirtual 70, 3) := by decide +kernel
theorem dX2_seekFewest_119 : decode cX2_seekFewest 119 = .ok (.iload 5, 2) := by decide +kernel
theorem dX2_seekFewest_121 : decode cX2_seekFewest 121 = .ok (.iload 8, 2) := by decide +kernel
theorem dX2_seekFewest_123 : decode cX2_seekFewest 123 = .ok (.ifCond .ne 10, 3) := by decide +kernel
theorem dX2_seekFewest_126 : decode cX2_seekFewest 126 = .ok (.iload 7, 2) := by decide +kernel
theorem dX2_seekFewest_128 : decode cX2_seekFewest 128 = .ok (.iload 4, 2) := by decide +kernel
theorem dX2_seekFewest_130 : decode cX2_seekFewest 130 = .ok (.if_icmp .lt 10, 3) := by decide +kernel
theorem dX2_seekFewest_133 : decode cX2_seekFewest 133 = .ok (.iconst 1, 1) := by decide +kernel
theorem dX2_seekFewest_134 : decode cX2_seekFewest 134 = .ok (.iload 6, 2) := by decide +kernel
theorem dX2_seekFewest_136 : decode cX2_seekFewest 136 = .ok (.ishl, 1) := by decide +kernel
theorem dX2_seekFewest_137 : decode cX2_seekFewest 137 = .ok (.goto 4, 3) := by decide +kernel
theorem dX2_seekFewest_140 : decode cX2_seekFewest 140 = .ok (.iconst 1, 1) := by decide +kernel
theorem dX2_seekFewest_141 : decode cX2_seekFewest 141 = .ok (.iadd, 1) := by decide +kernel
theorem dX2_seekFewest_142 : decode cX2_seekFewest 142 = .ok (.istore 5, 2) := by decide +kernel
theorem dX2_seekFewest_144 : decode cX2_seekFewest 144 = .ok (.goto (-120), 3) := by decide +kernel
theorem dX2_seekFewest_147 : decode cX2_seekFewest 147 = .ok (.return_, 1) := by decide +kernel
theorem dX3_init_0 : decode cX3_init 0 = .ok (.aload_n 0, 1) := by decide +kernel
theorem dX3_init_1 : decode cX3_init 1 = .ok (.invokespecial 3, 3) := by decide +kernel
theorem dX3_init_4 : decode cX3_init 4 = .ok (.aload_n 0, 1) := by decide +kernel
theorem dX3_init_5 : decode cX3_init 5 = .ok (.bipush 20, 2) := by decide +kernel
theorem dX3_init_7 : decode cX3_init 7 = .ok (.newarray .int, 2) := by decide +kernel
theorem dX3_init_9 : decode cX3_init 9 = .ok (.putfield 9, 3) := by decide +kernel
theorem dX3_init_12 : decode cX3_init 12 = .ok (.aload_n 0, 1) := by decide +kernel
theorem dX3_init_13 : decode cX3_init 13 = .ok (.bipush 20, 2) := by decide +kernel
theorem dX3_init_15 : decode cX3_init 15 = .ok (.newarray .int, 2) := by decide +kernel
theorem dX3_init_17 : decode cX3_init 17 = .ok (.putfield 15, 3) := by decide +kernel
theorem dX3_init_20 : decode cX3_init 20 = .ok (.aload_n 0, 1) := by decide +kernel
theorem dX3_init_21 : decode cX3_init 21 = .ok (.bipush 20, 2) := by decide +kernel
theorem dX3_init_23 : decode cX3_init 23 = .ok (.newarray .int, 2) := by decide +kernel
theorem dX3_init_25 : decode cX3_init 25 = .ok (.putfield 18, 3) := by decide +kernel
theorem dX3_init_28 : decode cX3_init 28 = .ok (.aload_n 0, 1) := by decide +kernel
theorem dX3_init_29 : decode cX3_init 29 = .ok (.bipush 20, 2) := by decide +kernel
theorem dX3_init_31 : decode cX3_init 31 = .ok (.newarray .int, 2) := by decide +kernel
theorem dX3_init_33 : decode cX3_init 33 = .ok (.putfield 21, 3) := by decide +kernel
theorem dX3_init_36 : decode cX3_init 36 = .ok (.aload_n 0, 1) := by decide +kernel
theorem dX3_init_37 : decode cX3_init 37 = .ok (.bipush 20, 2) := by decide +kernel
theorem dX3_init_39 : decode cX3_init 39 = .ok (.newarray .long, 2) := by decide +kernel
theorem dX3_init_41 : decode cX3_init 41 = .ok (.putfield 24, 3) := by decide +kernel
theorem dX3_init_44 : decode cX3_init 44 = .ok (.aload_n 0, 1) := by decide +kernel
theorem dX3_init_45 : decode cX3_init 45 = .ok (.bipush 20, 2) := by decide +kernel
theorem dX3_init_47 : decode cX3_init 47 = .ok (.newarray .boolean, 2) := by decide +kernel
theorem dX3_init_49 : decode cX3_init 49 = .ok (.putfield 28, 3) := by decide +kernel
theorem dX3_init_52 : decode cX3_init 52 = .ok (.aload_n 0, 1) := by decide +kernel
theorem dX3_init_53 : decode cX3_init 53 = .ok (.iconst 0, 1) := by decide +kernel
theorem dX3_init_54 : decode cX3_init 54 = .ok (.putfield 32, 3) := by decide +kernel
theorem dX3_init_57 : decode cX3_init 57 = .ok (.return_, 1) := by decide +kernel
theorem dX3_has_0 : decode cX3_has 0 = .ok (.iload_n 1, 1) := by decide +kernel
theorem dX3_has_1 : decode cX3_has 1 = .ok (.ifCond .lt 15, 3) := by decide +kernel
theorem dX3_has_4 : decode cX3_has 4 = .ok (.iload_n 1, 1) := by decide +kernel
theorem dX3_has_5 : decode cX3_has 5 = .ok (.aload_n 0, 1) := by decide +kernel
theorem dX3_has_6 : decode cX3_has 6 = .ok (.getfield 32, 3) := by decide +kernel
theorem dX3_has_9 : decode cX3_has 9 = .ok (.if_icmp .ge 7, 3) := by decide +kernel
theorem dX3_has_12 : decode cX3_has 12 = .ok (.iconst 1, 1) := by decide +kernel
theorem dX3_has_13 : decode cX3_has 13 = .ok (.goto 4, 3) := by decide +kernel
theorem dX3_has_16 : decode cX3_has 16 = .ok (.iconst 0, 1) := by decide +kernel
theorem dX3_has_17 : decode cX3_has 17 = .ok (.ireturn, 1) := by decide +kernel
theorem dX3_hasAll_0 : decode cX3_hasAll 0 = .ok (.iload_n 1, 1) := by decide +kernel
theorem dX3_hasAll_1 : decode cX3_hasAll 1 = .ok (.aload_n 0, 1) := by decide +kernel
theorem dX3_hasAll_2 : decode cX3_hasAll 2 = .ok (.getfield 32, 3) := by decide +kernel
theorem dX3_hasAll_5 : decode cX3_hasAll 5 = .ok (.iushr, 1) := by decide +kernel
theorem dX3_hasAll_6 : decode cX3_hasAll 6 = .ok (.ifCond .ne 7, 3) := by decide +kernel
theorem dX3_hasAll_9 : decode cX3_hasAll 9 = .ok (.iconst 1, 1) := by decide +kernel
theorem dX3_hasAll_10 : decode cX3_hasAll 10 = .ok (.goto 4, 3) := by decide +kernel
theorem dX3_hasAll_13 : decode cX3_hasAll 13 = .ok (.iconst 0, 1) := by decide +kernel
theorem dX3_hasAll_14 : decode cX3_hasAll 14 = .ok (.ireturn, 1) := by decide +kernel
theorem dX3_add_0 : decode cX3_add 0 = .ok (.iload_n 1, 1) := by decide +kernel
theorem dX3_add_1 : decode cX3_add 1 = .ok (.iconst 2, 1) := by decide +kernel
theorem dX3_add_2 : decode cX3_add 2 = .ok (.if_icmp .ne 7, 3) := by decide +kernel
theorem dX3_add_5 : decode cX3_add 5 = .ok (.iconst 1, 1) := by decide +kernel
theorem dX3_add_6 : decode cX3_add 6 = .ok (.goto 4, 3) := by decide +kernel
theorem dX3_add_9 : decode cX3_add 9 = .ok (.iconst 0, 1) := by decide +kernel
theorem dX3_add_10 : decode cX3_add 10 = .ok (.istore 4, 2) := by decide +kernel
theorem dX3_add_12 : decode cX3_add 12 = .ok (.aload_n 0, 1) := by decide +kernel
theorem dX3_add_13 : decode cX3_add 13 = .ok (.getfield 9, 3) := by decide +kernel
theorem dX3_add_16 : decode cX3_add 16 = .ok (.aload_n 0, 1) := by decide +kernel
theorem dX3_add_17 : decode cX3_add 17 = .ok (.getfield 32, 3) := by decide +kernel
theorem dX3_add_20 : decode cX3_add 20 = .ok (.iload_n 1, 1) := by decide +kernel
theorem dX3_add_21 : decode cX3_add 21 = .ok (.iastore, 1) := by decide +kernel
theorem dX3_add_22 : decode cX3_add 22 = .ok (.aload_n 0, 1) := by decide +kernel
theorem dX3_add_23 : decode cX3_add 23 = .ok (.getfield 15, 3) := by decide +kernel
theorem dX3_add_26 : decode cX3_add 26 = .ok (.aload_n 0, 1) := by decide +kernel
theorem dX3_add_27 : decode cX3_add 27 = .ok (.getfield 32, 3) := by decide +kernel
theorem dX3_add_30 : decode cX3_add 30 = .ok (.iload_n 2, 1) := by decide +kernel
theorem dX3_add_31 : decode cX3_add 31 = .ok (.iastore, 1) := by decide +kernel
theorem dX3_add_32 : decode cX3_add 32 = .ok (.aload_n 0, 1) := by decide +kernel
theorem dX3_add_33 : decode cX3_add 33 = .ok (.getfield 18, 3) := by decide +kernel
theorem dX3_add_36 : decode cX3_add 36 = .ok (.aload_n 0, 1) := by decide +kernel
theorem dX3_add_37 : decode cX3_add 37 = .ok (.getfield 32, 3) := by decide +kernel
theorem dX3_add_40 : decode cX3_add 40 = .ok (.iload 4, 2) := by decide +kernel
theorem dX3_add_42 : decode cX3_add 42 = .ok (.ifCond .eq 7, 3) := by decide +kernel
theorem dX3_add_45 : decode cX3_add 45 = .ok (.iload_n 3, 1) := by decide +kernel
theorem dX3_add_46 : decode cX3_add 46 = .ok (.goto 5, 3) := by decide +kernel
theorem dX3_add_49 : decode cX3_add 49 = .ok (.bipush (-9), 2) := by decide +kernel
theorem dX3_add_51 : decode cX3_add 51 = .ok (.iastore, 1) := by decide +kernel
theorem dX3_add_52 : decode cX3_add 52 = .ok (.aload_n 0, 1) := by decide +kernel
theorem dX3_add_53 : decode cX3_add 53 = .ok (.getfield 21, 3) := by decide +kernel
theorem dX3_add_56 : decode cX3_add 56 = .ok (.aload_n 0, 1) := by decide +kernel
theorem dX3_add_57 : decode cX3_add 57 = .ok (.getfield 32, 3) := by decide +kernel
theorem dX3_add_60 : decode cX3_add 60 = .ok (.iconst 1, 1) := by decide +kernel
theorem dX3_add_61 : decode cX3_add 61 = .ok (.aload_n 0, 1) := by decide +kernel
theorem dX3_add_62 : decode cX3_add 62 = .ok (.getfield 32, 3) := by decide +kernel
theorem dX3_add_65 : decode cX3_add 65 = .ok (.ishl, 1) := by decide +kernel
theorem dX3_add_66 : decode cX3_add 66 = .ok (.iload 4, 2) := by decide +kernel
theorem dX3_add_68 : decode cX3_add 68 = .ok (.ifCond .eq 12, 3) := by decide +kernel
theorem dX3_add_71 : decode cX3_add 71 = .ok (.aload_n 0, 1) := by decide +kernel
theorem dX3_add_72 : decode cX3_add 72 = .ok (.getfield 21, 3) := by decide +kernel
theorem dX3_add_75 : decode cX3_add 75 = .ok (.iload_n 3, 1) := by decide +kernel
theorem dX3_add_76 : decode cX3_add 76 = .ok (.iaload, 1) := by decide +kernel
theorem dX3_add_77 : decode cX3_add 77 = .ok (.goto 4, 3) := by decide +kernel
theorem dX3_add_80 : decode cX3_add 80 = .ok (.iconst 0, 1) := by decide +kernel
theorem dX3_add_81 : decode cX3_add 81 = .ok (.ior, 1) := by decide +kernel
theorem dX3_add_82 : decode cX3_add 82 = .ok (.iastore, 1) := by decide +kernel
theorem dX3_add_83 : decode cX3_add 83 = .ok (.aload_n 0, 1) := by decide +kernel
theorem dX3_add_84 : decode cX3_add 84 = .ok (.dup, 1) := by decide +kernel
theorem dX3_add_85 : decode cX3_add 85 = .ok (.getfield 32, 3) := by decide +kernel
theorem dX3_add_88 : decode cX3_add 88 = .ok (.iconst 1, 1) := by decide +kernel
theorem dX3_add_89 : decode cX3_add 89 = .ok (.iadd, 1) := by decide +kernel
theorem dX3_add_90 : decode cX3_add 90 = .ok (.putfield 32, 3) := by decide +kernel
theorem dX3_add_93 : decode cX3_add 93 = .ok (.aload_n 0, 1) := by decide +kernel
theorem dX3_add_94 : decode cX3_add 94 = .ok (.getfield 32, 3) := by decide +kernel
theorem dX3_add_97 : decode cX3_add 97 = .ok (.iconst 1, 1) := by decide +kernel
theorem dX3_add_98 : decode cX3_add 98 = .ok (.isub, 1) := by decide +kernel
theorem dX3_add_99 : decode cX3_add 99 = .ok (.ireturn, 1) := by decide +kernel
theorem dX3_countedTime_0 : decode cX3_countedTime 0 = .ok (.aload_n 0, 1) := by decide +kernel
theorem dX3_countedTime_1 : decode cX3_countedTime 1 = .ok (.getfield 9, 3) := by decide +kernel
theorem dX3_countedTime_4 : decode cX3_countedTime 4 = .ok (.iload_n 1, 1) := by decide +kernel
theorem dX3_countedTime_5 : decode cX3_countedTime 5 = .ok (.iaload, 1) := by decide +kernel
theorem dX3_countedTime_6 : decode cX3_countedTime 6 = .ok (.iconst 1, 1) := by decide +kernel
theorem dX3_countedTime_7 : decode cX3_countedTime 7 = .ok (.if_icmp .ne 14, 3) := by decide +kernel
theorem dX3_countedTime_10 : decode cX3_countedTime 10 = .ok (.iconst 3, 1) := by decide +kernel
theorem dX3_countedTime_11 : decode cX3_countedTime 11 = .ok (.aload_n 0, 1) := by decide +kernel
theorem dX3_countedTime_12 : decode cX3_countedTime 12 = .ok (.getfield 15, 3) := by decide +kernel
theorem dX3_countedTime_15 : decode cX3_countedTime 15 = .ok (.iload_n 1, 1) := by decide +kernel
theorem dX3_countedTime_16 : decode cX3_countedTime 16 = .ok (.iaload, 1) := by decide +kernel
theorem dX3_countedTime_17 : decode cX3_countedTime 17 = .ok (.imul, 1) := by decide +kernel
theorem dX3_countedTime_18 : decode cX3_countedTime 18 = .ok (.goto 9, 3) := by decide +kernel
theorem dX3_countedTime_21 : decode cX3_countedTime 21 = .ok (.aload_n 0, 1) := by decide +kernel
theorem dX3_countedTime_22 : decode cX3_countedTime 22 = .ok (.getfield 15, 3) := by decide +kernel
theorem dX3_countedTime_25 : decode cX3_countedTime 25 = .ok (.iload_n 1, 1) := by decide +kernel
theorem dX3_countedTime_26 : decode cX3_countedTime 26 = .ok (.iaload, 1) := by decide +kernel
theorem dX3_countedTime_27 : decode cX3_countedTime 27 = .ok (.ireturn, 1) := by decide +kernel
theorem dX3_reachByte_0 : decode cX3_reachByte 0 = .ok (.aload_n 0, 1) := by decide +kernel
theorem dX3_reachByte_1 : decode cX3_reachByte 1 = .ok (.getfield 24, 3) := by decide +kernel
theorem dX3_reachByte_4 : decode cX3_reachByte 4 = .ok (.iload_n 1, 1) := by decide +kernel
theorem dX3_reachByte_5 : decode cX3_reachByte 5 = .ok (.laload, 1) := by decide +kernel
theorem dX3_reachByte_6 : decode cX3_reachByte 6 = .ok (.bipush 8, 2) := by decide +kernel
theorem dX3_reachByte_8 : decode cX3_reachByte 8 = .ok (.iload_n 2, 1) := by decide +kernel
theorem dX3_reachByte_9 : decode cX3_reachByte 9 = .ok (.imul, 1) := by decide +kernel
theorem dX3_reachByte_10 : decode cX3_reachByte 10 = .ok (.lushr, 1) := by decide +kernel
theorem dX3_reachByte_11 : decode cX3_reachByte 11 = .ok (.ldc2_w 36, 3) := by decide +kernel
theorem dX3_reachByte_14 : decode cX3_reachByte 14 = .ok (.land, 1) := by decide +kernel
theorem dX3_reachByte_15 : decode cX3_reachByte 15 = .ok (.l2i, 1) := by decide +kernel
theorem dX3_reachByte_16 : decode cX3_reachByte 16 = .ok (.ireturn, 1) := by decide +kernel
theorem dX3_setReachByte_0 : decode cX3_setReachByte 0 = .ok (.aload_n 0, 1) := by decide +kernel
theorem dX3_setReachByte_1 : decode cX3_setReachByte 1 = .ok (.getfield 24, 3) := by decide +kernel
theorem dX3_setReachByte_4 : decode cX3_setReachByte 4 = .ok (.iload_n 1, 1) := by decide +kernel
theorem dX3_setReachByte_5 : decode cX3_setReachByte 5 = .ok (.aload_n 0, 1) := by decide +kernel
theorem dX3_setReachByte_6 : decode cX3_setReachByte 6 = .ok (.getfield 24, 3) := by decide +kernel
theorem dX3_setReachByte_9 : decode cX3_setReachByte 9 = .ok (.iload_n 1, 1) := by decide +kernel
theorem dX3_setReachByte_10 : decode cX3_setReachByte 10 = .ok (.laload, 1) := by decide +kernel
theorem dX3_setReachByte_11 : decode cX3_setReachByte 11 = .ok (.ldc2_w 36, 3) := by decide +kernel
theorem dX3_setReachByte_14 : decode cX3_setReachByte 14 = .ok (.bipush 8, 2) := by decide +kernel
theorem dX3_setReachByte_16 : decode cX3_setReachByte 16 = .ok (.iload_n 2, 1) := by decide +kernel
theorem dX3_setReachByte_17 : decode cX3_setReachByte 17 = .ok (.imul, 1) := by decide +kernel
theorem dX3_setReachByte_18 : decode cX3_setReachByte 18 = .ok (.lshl, 1) := by decide +kernel
theorem dX3_setReachByte_19 : decode cX3_setReachByte 19 = .ok (.ldc2_w 38, 3) := by decide +kernel
theorem dX3_setReachByte_22 : decode cX3_setReachByte 22 = .ok (.lxor, 1) := by decide +kernel
theorem dX3_setReachByte_23 : decode cX3_setReachByte 23 = .ok (.land, 1) := by decide +kernel
theorem dX3_setReachByte_24 : decode cX3_setReachByte 24 = .ok (.iload_n 3, 1) := by decide +kernel
theorem dX3_setReachByte_25 : decode cX3_setReachByte 25 = .ok (.i2l, 1) := by decide +kernel
theorem dX3_setReachByte_26 : decode cX3_setReachByte 26 = .ok (.bipush 8, 2) := by decide +kernel
theorem dX3_setReachByte_28 : decode cX3_setReachByte 28 = .ok (.iload_n 2, 1) := by decide +kernel
theorem dX3_setReachByte_29 : decode cX3_setReachByte 29 = .ok (.imul, 1) := by decide +kernel
theorem dX3_setReachByte_30 : decode cX3_setReachByte 30 = .ok (.lshl, 1) := by decide +kernel
theorem dX3_setReachByte_31 : decode cX3_setReachByte 31 = .ok (.lor, 1) := by decide +kernel
theorem dX3_setReachByte_32 : decode cX3_setReachByte 32 = .ok (.lastore, 1) := by decide +kernel
theorem dX3_setReachByte_33 : decode cX3_setReachByte 33 = .ok (.return_, 1) := by decide +kernel
theorem dX3_copyBytes_0 : decode cX3_copyBytes 0 = .ok (.lconst 1, 1) := by decide +kernel
theorem dX3_copyBytes_1 : decode cX3_copyBytes 1 = .ok (.bipush 8, 2) := by decide +kernel
theorem dX3_copyBytes_3 : decode cX3_copyBytes 3 = .ok (.iload 5, 2) := by decide +kernel
theorem dX3_copyBytes_5 : decode cX3_copyBytes 5 = .ok (.imul, 1) := by decide +kernel
theorem dX3_copyBytes_6 : decode cX3_copyBytes 6 = .ok (.lshl, 1) := by decide +kernel
theorem dX3_copyBytes_7 : decode cX3_copyBytes 7 = .ok (.lconst 1, 1) := by decide +kernel
theorem dX3_copyBytes_8 : decode cX3_copyBytes 8 = .ok (.lsub, 1) := by decide +kernel
theorem dX3_copyBytes_9 : decode cX3_copyBytes 9 = .ok (.lstore 6, 2) := by decide +kernel
theorem dX3_copyBytes_11 : decode cX3_copyBytes 11 = .ok (.aload_n 0, 1) := by decide +kernel
theorem dX3_copyBytes_12 : decode cX3_copyBytes 12 = .ok (.getfield 24, 3) := by decide +kernel
theorem dX3_copyBytes_15 : decode cX3_copyBytes 15 = .ok (.iload_n 1, 1) := by decide +kernel
theorem dX3_copyBytes_16 : decode cX3_copyBytes 16 = .ok (.laload, 1) := by decide +kernel
theorem dX3_copyBytes_17 : decode cX3_copyBytes 17 = .ok (.bipush 8, 2) := by decide +kernel
theorem dX3_copyBytes_19 : decode cX3_copyBytes 19 = .ok (.iload_n 2, 1) := by decide +kernel
theorem dX3_copyBytes_20 : decode cX3_copyBytes 20 = .ok (.imul, 1) := by decide +kernel
theorem dX3_copyBytes_21 : decode cX3_copyBytes 21 = .ok (.lushr, 1) := by decide +kernel
theorem dX3_copyBytes_22 : decode cX3_copyBytes 22 = .ok (.lload 6, 2) := by decide +kernel
theorem dX3_copyBytes_24 : decode cX3_copyBytes 24 = .ok (.land, 1) := by decide +kernel
theorem dX3_copyBytes_25 : decode cX3_copyBytes 25 = .ok (.lstore 8, 2) := by decide +kernel
theorem dX3_copyBytes_27 : decode cX3_copyBytes 27 = .ok (.aload_n 0, 1) := by decide +kernel
theorem dX3_copyBytes_28 : decode cX3_copyBytes 28 = .ok (.getfield 24, 3) := by decide +kernel
theorem dX3_copyBytes_31 : decode cX3_copyBytes 31 = .ok (.iload_n 3, 1) := by decide +kernel
theorem dX3_copyBytes_32 : decode cX3_copyBytes 32 = .ok (.aload_n 0, 1) := by decide +kernel
theorem dX3_copyBytes_33 : decode cX3_copyBytes 33 = .ok (.getfield 24, 3) := by decide +kernel
theorem dX3_copyBytes_36 : decode cX3_copyBytes 36 = .ok (.iload_n 3, 1) := by decide +kernel
theorem dX3_copyBytes_37 : decode cX3_copyBytes 37 = .ok (.laload, 1) := by decide +kernel
theorem dX3_copyBytes_38 : decode cX3_copyBytes 38 = .ok (.lload 6, 2) := by decide +kernel
theorem dX3_copyBytes_40 : decode cX3_copyBytes 40 = .ok (.bipush 8, 2) := by decide +kernel
theorem dX3_copyBytes_42 : decode cX3_copyBytes 42 = .ok (.iload 4, 2) := by decide +kernel
theorem dX3_copyBytes_44 : decode cX3_copyBytes 44 = .ok (.imul, 1) := by decide +kernel
theorem dX3_copyBytes_45 : decode cX3_copyBytes 45 = .ok (.lshl, 1) := by decide +kernel
theorem dX3_copyBytes_46 : decode cX3_copyBytes 46 = .ok (.ldc2_w 38, 3) := by decide +kernel
theorem dX3_copyBytes_49 : decode cX3_copyBytes 49 = .ok (.lxor, 1) := by decide +kernel
theorem dX3_copyBytes_50 : decode cX3_copyBytes 50 = .ok (.land, 1) := by decide +kernel
theorem dX3_copyBytes_51 : decode cX3_copyBytes 51 = .ok (.lload 8, 2) := by decide +kernel
theorem dX3_copyBytes_53 : decode cX3_copyBytes 53 = .ok (.bipush 8, 2) := by decide +kernel
theorem dX3_copyBytes_55 : decode cX3_copyBytes 55 = .ok (.iload 4, 2) := by decide +kernel
theorem dX3_copyBytes_57 : decode cX3_copyBytes 57 = .ok (.imul, 1) := by decide +kernel
theorem dX3_copyBytes_58 : decode cX3_copyBytes 58 = .ok (.lshl, 1) := by decide +kernel
theorem dX3_copyBytes_59 : decode cX3_copyBytes 59 = .ok (.lor, 1) := by decide +kernel
theorem dX3_copyBytes_60 : decode cX3_copyBytes 60 = .ok (.lastore, 1) := by decide +kernel
theorem dX3_copyBytes_61 : decode cX3_copyBytes 61 = .ok (.return_, 1) := by decide +kernel
set_option maxRecDepth 20000 in
theorem ggX3_timeOf_X4_isIn : GoodIn wsX3_timeOf wsX4_isIn := goodIn_r _ [4] (by decide +kernel) (by decide +kernel)
set_option maxRecDepth 20000 in
theorem gX3_timeOf_X4_isIn_n40 : GoodIn wsX3_timeOf (wsX4_isIn) := ggX3_timeOf_X4_isIn
set_option maxRecDepth 20000 in
theorem ggX3_timeOf_X3_countedTime : GoodIn wsX3_timeOf wsX3_countedTime := goodIn_r _ [9, 10, 11, 12, 13, 14, 15, 16, 17, 18] (by decide +kernel) (by decide +kernel)
set_option maxRecDepth 20000 in
theorem gX3_timeOf_X3_countedTime : GoodIn wsX3_timeOf (wsV RX3 44 RX3 yX3_countedTime wsX3_countedTime) := goodIn_app (goodIn_of _ (by decide +kernel)) ggX3_timeOf_X3_countedTime
theorem dX3_timeOf_0 : decode cX3_timeOf 0 = .ok (.iconst 0, 1) := by decide +kernel
theorem dX3_timeOf_1 : decode cX3_timeOf 1 = .ok (.istore_n 2, 1) := by decide +kernel
theorem dX3_timeOf_2 : decode cX3_timeOf 2 = .ok (.iconst 0, 1) := by decide +kernel
theorem dX3_timeOf_3 : decode cX3_timeOf 3 = .ok (.istore_n 3, 1) := by decide +kernel
theorem dX3_timeOf_4 : decode cX3_timeOf 4 = .ok (.iload_n 3, 1) := by decide +kernel
theorem dX3_timeOf_5 : decode cX3_timeOf 5 = .ok (.aload_n 0, 1) := by decide +kernel
theorem dX3_timeOf_6 : decode cX3_timeOf 6 = .ok (.getfield 32, 3) := by decide +kernel
theorem dX3_timeOf_9 : decode cX3_timeOf 9 = .ok (.if_icmp .ge 29, 3) := by decide +kernel
theorem dX3_timeOf_12 : decode cX3_timeOf 12 = .ok (.iload_n 2, 1) := by decide +kernel
theorem dX3_timeOf_13 : decode cX3_timeOf 13 = .ok (.iload_n 3, 1) := by decide +kernel
theorem dX3_timeOf_14 : decode cX3_timeOf 14 = .ok (.iload_n 1, 1) := by decide +kernel
theorem dX3_timeOf_15 : decode cX3_timeOf 15 = .ok (.invokestatic 40, 3) := by decide +kernel
theorem dX3_timeOf_18 : decode cX3_timeOf 18 = .ok (.ifCond .eq 11, 3) := by decide +kernel
theorem dX3_timeOf_21 : decode cX3_timeOf 21 = .ok (.aload_n 0, 1) := by decide +kernel
theorem dX3_timeOf_22 : decode cX3_timeOf 22 = .ok (.iload_n 3, 1) := by decide +kernel
theorem dX3_timeOf_23 : decode cX3_timeOf 23 = .ok (.invokevirtual 44, 3) := by decide +kernel
theorem dX3_timeOf_26 : decode cX3_timeOf 26 = .ok (.goto 4, 3) := by decide +kernel
theorem dX3_timeOf_29 : decode cX3_timeOf 29 = .ok (.iconst 0, 1) := by decide +kernel
theorem dX3_timeOf_30 : decode cX3_timeOf 30 = .ok (.iadd, 1) := by decide +kernel
theorem dX3_timeOf_31 : decode cX3_timeOf 31 = .ok (.istore_n 2, 1) := by decide +kernel
theorem dX3_timeOf_32 : decode cX3_timeOf 32 = .ok (.iinc 3 1, 3) := by decide +kernel
theorem dX3_timeOf_35 : decode cX3_timeOf 35 = .ok (.goto (-31), 3) := by decide +kernel
theorem dX3_timeOf_38 : decode cX3_timeOf 38 = .ok (.iload_n 2, 1) := by decide +kernel
theorem dX3_timeOf_39 : decode cX3_timeOf 39 = .ok (.ireturn, 1) := by decide +kernel
set_option maxRecDepth 20000 in
theorem ggX3_partsOf_X4_isIn : GoodIn wsX3_partsOf wsX4_isIn := goodIn_r _ [5] (by decide +kernel) (by decide +kernel)
set_option maxRecDepth 20000 in
theorem gX3_partsOf_X4_isIn_n40 : GoodIn wsX3_partsOf (wsX4_isIn) := ggX3_partsOf_X4_isIn
theorem dX3_partsOf_0 : decode cX3_partsOf 0 = .ok (.lconst 0, 1) := by decide +kernel
theorem dX3_partsOf_1 : decode cX3_partsOf 1 = .ok (.lstore_n 2, 1) := by decide +kernel
theorem dX3_partsOf_2 : decode cX3_partsOf 2 = .ok (.iconst 0, 1) := by decide +kernel
theorem dX3_partsOf_3 : decode cX3_partsOf 3 = .ok (.istore 4, 2) := by decide +kernel
theorem dX3_partsOf_5 : decode cX3_partsOf 5 = .ok (.iload 4, 2) := by decide +kernel
theorem dX3_partsOf_7 : decode cX3_partsOf 7 = .ok (.aload_n 0, 1) := by decide +kernel
theorem dX3_partsOf_8 : decode cX3_partsOf 8 = .ok (.getfield 32, 3) := by decide +kernel
theorem dX3_partsOf_11 : decode cX3_partsOf 11 = .ok (.if_icmp .ge 32, 3) := by decide +kernel
theorem dX3_partsOf_14 : decode cX3_partsOf 14 = .ok (.lload_n 2, 1) := by decide +kernel
theorem dX3_partsOf_15 : decode cX3_partsOf 15 = .ok (.iload 4, 2) := by decide +kernel
theorem dX3_partsOf_17 : decode cX3_partsOf 17 = .ok (.iload_n 1, 1) := by decide +kernel
theorem dX3_partsOf_18 : decode cX3_partsOf 18 = .ok (.invokestatic 40, 3) := by decide +kernel
theorem dX3_partsOf_21 : decode cX3_partsOf 21 = .ok (.ifCond .eq 13, 3) := by decide +kernel
theorem dX3_partsOf_24 : decode cX3_partsOf 24 = .ok (.aload_n 0, 1) := by decide +kernel
theorem dX3_partsOf_25 : decode cX3_partsOf 25 = .ok (.getfield 24, 3) := by decide +kernel
theorem dX3_partsOf_28 : decode cX3_partsOf 28 = .ok (.iload 4, 2) := by decide +kernel
theorem dX3_partsOf_30 : decode cX3_partsOf 30 = .ok (.laload, 1) := by decide +kernel
theorem dX3_partsOf_31 : decode cX3_partsOf 31 = .ok (.goto 4, 3) := by decide +kernel
theorem dX3_partsOf_34 : decode cX3_partsOf 34 = .ok (.lconst 0, 1) := by decide +kernel
theorem dX3_partsOf_35 : decode cX3_partsOf 35 = .ok (.lor, 1) := by decide +kernel
theorem dX3_partsOf_36 : decode cX3_partsOf 36 = .ok (.lstore_n 2, 1) := by decide +kernel
theorem dX3_partsOf_37 : decode cX3_partsOf 37 = .ok (.iinc 4 1, 3) := by decide +kernel
theorem dX3_partsOf_40 : decode cX3_partsOf 40 = .ok (.goto (-35), 3) := by decide +kernel
theorem dX3_partsOf_43 : decode cX3_partsOf 43 = .ok (.lload_n 2, 1) := by decide +kernel
theorem dX3_partsOf_44 : decode cX3_partsOf 44 = .ok (.lreturn, 1) := by decide +kernel
theorem dX3_pickable_0 : decode cX3_pickable 0 = .ok (.iconst 0, 1) := by decide +kernel
theorem dX3_pickable_1 : decode cX3_pickable 1 = .ok (.istore_n 1, 1) := by decide +kernel
theorem dX3_pickable_2 : decode cX3_pickable 2 = .ok (.iconst 0, 1) := by decide +kernel
theorem dX3_pickable_3 : decode cX3_pickable 3 = .ok (.istore_n 2, 1) := by decide +kernel
theorem dX3_pickable_4 : decode cX3_pickable 4 = .ok (.iload_n 2, 1) := by decide +kernel
theorem dX3_pickable_5 : decode cX3_pickable 5 = .ok (.aload_n 0, 1) := by decide +kernel
theorem dX3_pickable_6 : decode cX3_pickable 6 = .ok (.getfield 32, 3) := by decide +kernel
theorem dX3_pickable_9 : decode cX3_pickable 9 = .ok (.if_icmp .ge 38, 3) := by decide +kernel
theorem dX3_pickable_12 : decode cX3_pickable 12 = .ok (.iload_n 1, 1) := by decide +kernel
theorem dX3_pickable_13 : decode cX3_pickable 13 = .ok (.aload_n 0, 1) := by decide +kernel
theorem dX3_pickable_14 : decode cX3_pickable 14 = .ok (.getfield 9, 3) := by decide +kernel
theorem dX3_pickable_17 : decode cX3_pickable 17 = .ok (.iload_n 2, 1) := by decide +kernel
theorem dX3_pickable_18 : decode cX3_pickable 18 = .ok (.iaload, 1) := by decide +kernel
theorem dX3_pickable_19 : decode cX3_pickable 19 = .ok (.iconst 3, 1) := by decide +kernel
theorem dX3_pickable_20 : decode cX3_pickable 20 = .ok (.if_icmp .eq 12, 3) := by decide +kernel
theorem dX3_pickable_23 : decode cX3_pickable 23 = .ok (.aload_n 0, 1) := by decide +kernel
theorem dX3_pickable_24 : decode cX3_pickable 24 = .ok (.getfield 28, 3) := by decide +kernel
theorem dX3_pickable_27 : decode cX3_pickable 27 = .ok (.iload_n 2, 1) := by decide +kernel
theorem dX3_pickable_28 : decode cX3_pickable 28 = .ok (.baload, 1) := by decide +kernel
theorem dX3_pickable_29 : decode cX3_pickable 29 = .ok (.ifCond .eq 9, 3) := by decide +kernel
theorem dX3_pickable_32 : decode cX3_pickable 32 = .ok (.iconst 1, 1) := by decide +kernel
theorem dX3_pickable_33 : decode cX3_pickable 33 = .ok (.iload_n 2, 1) := by decide +kernel
theorem dX3_pickable_34 : decode cX3_pickable 34 = .ok (.ishl, 1) := by decide +kernel
theorem dX3_pickable_35 : decode cX3_pickable 35 = .ok (.goto 4, 3) := by decide +kernel
theorem dX3_pickable_38 : decode cX3_pickable 38 = .ok (.iconst 0, 1) := by decide +kernel
theorem dX3_pickable_39 : decode cX3_pickable 39 = .ok (.ior, 1) := by decide +kernel
theorem dX3_pickable_40 : decode cX3_pickable 40 = .ok (.istore_n 1, 1) := by decide +kernel
theorem dX3_pickable_41 : decode cX3_pickable 41 = .ok (.iinc 2 1, 3) := by decide +kernel
theorem dX3_pickable_44 : decode cX3_pickable 44 = .ok (.goto (-40), 3) := by decide +kernel
theorem dX3_pickable_47 : decode cX3_pickable 47 = .ok (.iconst 0, 1) := by decide +kernel
theorem dX3_pickable_48 : decode cX3_pickable 48 = .ok (.istore_n 2, 1) := by decide +kernel
theorem dX3_pickable_49 : decode cX3_pickable 49 = .ok (.iconst 0, 1) := by decide +kernel
theorem dX3_pickable_50 : decode cX3_pickable 50 = .ok (.istore_n 3, 1) := by decide +kernel
theorem dX3_pickable_51 : decode cX3_pickable 51 = .ok (.iload_n 3, 1) := by decide +kernel
theorem dX3_pickable_52 : decode cX3_pickable 52 = .ok (.aload_n 0, 1) := by decide +kernel
theorem dX3_pickable_53 : decode cX3_pickable 53 = .ok (.getfield 32, 3) := by decide +kernel
theorem dX3_pickable_56 : decode cX3_pickable 56 = .ok (.if_icmp .ge 30, 3) := by decide +kernel
theorem dX3_pickable_59 : decode cX3_pickable 59 = .ok (.iload_n 2, 1) := by decide +kernel
theorem dX3_pickable_60 : decode cX3_pickable 60 = .ok (.aload_n 0, 1) := by decide +kernel
theorem dX3_pickable_61 : decode cX3_pickable 61 = .ok (.getfield 21, 3) := by decide +kernel
theorem dX3_pickable_64 : decode cX3_pickable 64 = .ok (.iload_n 3, 1) := by decide +kernel
theorem dX3_pickable_65 : decode cX3_pickable 65 = .ok (.iaload, 1) := by decide +kernel
theorem dX3_pickable_66 : decode cX3_pickable 66 = .ok (.iload_n 1, 1) := by decide +kernel
theorem dX3_pickable_67 : decode cX3_pickable 67 = .ok (.iand, 1) := by decide +kernel
theorem dX3_pickable_68 : decode cX3_pickable 68 = .ok (.ifCond .ne 9, 3) := by decide +kernel
theorem dX3_pickable_71 : decode cX3_pickable 71 = .ok (.iconst 1, 1) := by decide +kernel
theorem dX3_pickable_72 : decode cX3_pickable 72 = .ok (.iload_n 3, 1) := by decide +kernel
theorem dX3_pickable_73 : decode cX3_pickable 73 = .ok (.ishl, 1) := by decide +kernel
theorem dX3_pickable_74 : decode cX3_pickable 74 = .ok (.goto 4, 3) := by decide +kernel
theorem dX3_pickable_77 : decode cX3_pickable 77 = .ok (.iconst 0, 1) := by decide +kernel
theorem dX3_pickable_78 : decode cX3_pickable 78 = .ok (.ior, 1) := by decide +kernel
theorem dX3_pickable_79 : decode cX3_pickable 79 = .ok (.istore_n 2, 1) := by decide +kernel
theorem dX3_pickable_80 : decode cX3_pickable 80 = .ok (.iinc 3 1, 3) := by decide +kernel
theorem dX3_pickable_83 : decode cX3_pickable 83 = .ok (.goto (-32), 3) := by decide +kernel
theorem dX3_pickable_86 : decode cX3_pickable 86 = .ok (.iload_n 2, 1) := by decide +kernel
theorem dX3_pickable_87 : decode cX3_pickable 87 = .ok (.ireturn, 1) := by decide +kernel
theorem dJ6_numberOfTrailingZeros_0f7a4_0 : decode cJ6_numberOfTrailingZeros_0f7a4 0 = .ok (.iload_n 0, 1) := by decide +kernel
theorem dJ6_numberOfTrailingZeros_0f7a4_1 : decode cJ6_numberOfTrailingZeros_0f7a4 1 = .ok (.iconst (-1), 1) := by decide +kernel
theorem dJ6_numberOfTrailingZeros_0f7a4_2 : decode cJ6_numberOfTrailingZeros_0f7a4 2 = .ok (.ixor, 1) := by decide +kernel
theorem dJ6_numberOfTrailingZeros_0f7a4_3 : decode cJ6_numberOfTrailingZeros_0f7a4 3 = .ok (.iload_n 0, 1) := by decide +kernel
theorem dJ6_numberOfTrailingZeros_0f7a4_4 : decode cJ6_numberOfTrailingZeros_0f7a4 4 = .ok (.iconst 1, 1) := by decide +kernel
theorem dJ6_numberOfTrailingZeros_0f7a4_5 : decode cJ6_numberOfTrailingZeros_0f7a4 5 = .ok (.isub, 1) := by decide +kernel
theorem dJ6_numberOfTrailingZeros_0f7a4_6 : decode cJ6_numberOfTrailingZeros_0f7a4 6 = .ok (.iand, 1) := by decide +kernel
theorem dJ6_numberOfTrailingZeros_0f7a4_7 : decode cJ6_numberOfTrailingZeros_0f7a4 7 = .ok (.istore_n 0, 1) := by decide +kernel
theorem dJ6_numberOfTrailingZeros_0f7a4_8 : decode cJ6_numberOfTrailingZeros_0f7a4 8 = .ok (.iload_n 0, 1) := by decide +kernel
theorem dJ6_numberOfTrailingZeros_0f7a4_9 : decode cJ6_numberOfTrailingZeros_0f7a4 9 = .ok (.ifCond .gt 8, 3) := by decide +kernel
theorem dJ6_numberOfTrailingZeros_0f7a4_12 : decode cJ6_numberOfTrailingZeros_0f7a4 12 = .ok (.iload_n 0, 1) := by decide +kernel
theorem dJ6_numberOfTrailingZeros_0f7a4_13 : decode cJ6_numberOfTrailingZeros_0f7a4 13 = .ok (.bipush 32, 2) := by decide +kernel
theorem dJ6_numberOfTrailingZeros_0f7a4_15 : decode cJ6_numberOfTrailingZeros_0f7a4 15 = .ok (.iand, 1) := by decide +kernel
theorem dJ6_numberOfTrailingZeros_0f7a4_16 : decode cJ6_numberOfTrailingZeros_0f7a4 16 = .ok (.ireturn, 1) := by decide +kernel
theorem dJ6_numberOfTrailingZeros_0f7a4_17 : decode cJ6_numberOfTrailingZeros_0f7a4 17 = .ok (.iconst 1, 1) := by decide +kernel
theorem dJ6_numberOfTrailingZeros_0f7a4_18 : decode cJ6_numberOfTrailingZeros_0f7a4 18 = .ok (.istore_n 1, 1) := by decide +kernel
theorem dJ6_numberOfTrailingZeros_0f7a4_19 : decode cJ6_numberOfTrailingZeros_0f7a4 19 = .ok (.iload_n 0, 1) := by decide +kernel
theorem dJ6_numberOfTrailingZeros_0f7a4_20 : decode cJ6_numberOfTrailingZeros_0f7a4 20 = .ok (.ldc_w 264, 3) := by decide +kernel
theorem dJ6_numberOfTrailingZeros_0f7a4_23 : decode cJ6_numberOfTrailingZeros_0f7a4 23 = .ok (.if_icmp .le 11, 3) := by decide +kernel
theorem dJ6_numberOfTrailingZeros_0f7a4_26 : decode cJ6_numberOfTrailingZeros_0f7a4 26 = .ok (.iinc 1 16, 3) := by decide +kernel
theorem dJ6_numberOfTrailingZeros_0f7a4_29 : decode cJ6_numberOfTrailingZeros_0f7a4 29 = .ok (.iload_n 0, 1) := by decide +kernel
theorem dJ6_numberOfTrailingZeros_0f7a4_30 : decode cJ6_numberOfTrailingZeros_0f7a4 30 = .ok (.bipush 16, 2) := by decide +kernel
theorem dJ6_numberOfTrailingZeros_0f7a4_32 : decode cJ6_numberOfTrailingZeros_0f7a4 32 = .ok (.iushr, 1) := by decide +kernel
theorem dJ6_numberOfTrailingZeros_0f7a4_33 : decode cJ6_numberOfTrailingZeros_0f7a4 33 = .ok (.istore_n 0, 1) := by decide +kernel
theorem dJ6_numberOfTrailingZeros_0f7a4_34 : decode cJ6_numberOfTrailingZeros_0f7a4 34 = .ok (.iload_n 0, 1) := by decide +kernel
theorem dJ6_numberOfTrailingZeros_0f7a4_35 : decode cJ6_numberOfTrailingZeros_0f7a4 35 = .ok (.sipush 256, 3) := by decide +kernel
theorem dJ6_numberOfTrailingZeros_0f7a4_38 : decode cJ6_numberOfTrailingZeros_0f7a4 38 = .ok (.if_icmp .le 11, 3) := by decide +kernel
theorem dJ6_numberOfTrailingZeros_0f7a4_41 : decode cJ6_numberOfTrailingZeros_0f7a4 41 = .ok (.iinc 1 8, 3) := by decide +kernel
theorem dJ6_numberOfTrailingZeros_0f7a4_44 : decode cJ6_numberOfTrailingZeros_0f7a4 44 = .ok (.iload_n 0, 1) := by decide +kernel
theorem dJ6_numberOfTrailingZeros_0f7a4_45 : decode cJ6_numberOfTrailingZeros_0f7a4 45 = .ok (.bipush 8, 2) := by decide +kernel
theorem dJ6_numberOfTrailingZeros_0f7a4_47 : decode cJ6_numberOfTrailingZeros_0f7a4 47 = .ok (.iushr, 1) := by decide +kernel
theorem dJ6_numberOfTrailingZeros_0f7a4_48 : decode cJ6_numberOfTrailingZeros_0f7a4 48 = .ok (.istore_n 0, 1) := by decide +kernel
theorem dJ6_numberOfTrailingZeros_0f7a4_49 : decode cJ6_numberOfTrailingZeros_0f7a4 49 = .ok (.iload_n 0, 1) := by decide +kernel
theorem dJ6_numberOfTrailingZeros_0f7a4_50 : decode cJ6_numberOfTrailingZeros_0f7a4 50 = .ok (.bipush 16, 2) := by decide +kernel
theorem dJ6_numberOfTrailingZeros_0f7a4_52 : decode cJ6_numberOfTrailingZeros_0f7a4 52 = .ok (.if_icmp .le 10, 3) := by decide +kernel
theorem dJ6_numberOfTrailingZeros_0f7a4_55 : decode cJ6_numberOfTrailingZeros_0f7a4 55 = .ok (.iinc 1 4, 3) := by decide +kernel
theorem dJ6_numberOfTrailingZeros_0f7a4_58 : decode cJ6_numberOfTrailingZeros_0f7a4 58 = .ok (.iload_n 0, 1) := by decide +kernel
theorem dJ6_numberOfTrailingZeros_0f7a4_59 : decode cJ6_numberOfTrailingZeros_0f7a4 59 = .ok (.iconst 4, 1) := by decide +kernel
theorem dJ6_numberOfTrailingZeros_0f7a4_60 : decode cJ6_numberOfTrailingZeros_0f7a4 60 = .ok (.iushr, 1) := by decide +kernel
theorem dJ6_numberOfTrailingZeros_0f7a4_61 : decode cJ6_numberOfTrailingZeros_0f7a4 61 = .ok (.istore_n 0, 1) := by decide +kernel
theorem dJ6_numberOfTrailingZeros_0f7a4_62 : decode cJ6_numberOfTrailingZeros_0f7a4 62 = .ok (.iload_n 0, 1) := by decide +kernel
theorem dJ6_numberOfTrailingZeros_0f7a4_63 : decode cJ6_numberOfTrailingZeros_0f7a4 63 = .ok (.iconst 4, 1) := by decide +kernel
theorem dJ6_numberOfTrailingZeros_0f7a4_64 : decode cJ6_numberOfTrailingZeros_0f7a4 64 = .ok (.if_icmp .le 10, 3) := by decide +kernel
theorem dJ6_numberOfTrailingZeros_0f7a4_67 : decode cJ6_numberOfTrailingZeros_0f7a4 67 = .ok (.iinc 1 2, 3) := by decide +kernel
theorem dJ6_numberOfTrailingZeros_0f7a4_70 : decode cJ6_numberOfTrailingZeros_0f7a4 70 = .ok (.iload_n 0, 1) := by decide +kernel
theorem dJ6_numberOfTrailingZeros_0f7a4_71 : decode cJ6_numberOfTrailingZeros_0f7a4 71 = .ok (.iconst 2, 1) := by decide +kernel
theorem dJ6_numberOfTrailingZeros_0f7a4_72 : decode cJ6_numberOfTrailingZeros_0f7a4 72 = .ok (.iushr, 1) := by decide +kernel
theorem dJ6_numberOfTrailingZeros_0f7a4_73 : decode cJ6_numberOfTrailingZeros_0f7a4 73 = .ok (.istore_n 0, 1) := by decide +kernel
theorem dJ6_numberOfTrailingZeros_0f7a4_74 : decode cJ6_numberOfTrailingZeros_0f7a4 74 = .ok (.iload_n 1, 1) := by decide +kernel
theorem dJ6_numberOfTrailingZeros_0f7a4_75 : decode cJ6_numberOfTrailingZeros_0f7a4 75 = .ok (.iload_n 0, 1) := by decide +kernel
theorem dJ6_numberOfTrailingZeros_0f7a4_76 : decode cJ6_numberOfTrailingZeros_0f7a4 76 = .ok (.iconst 1, 1) := by decide +kernel
theorem dJ6_numberOfTrailingZeros_0f7a4_77 : decode cJ6_numberOfTrailingZeros_0f7a4 77 = .ok (.iushr, 1) := by decide +kernel
theorem dJ6_numberOfTrailingZeros_0f7a4_78 : decode cJ6_numberOfTrailingZeros_0f7a4 78 = .ok (.iadd, 1) := by decide +kernel
theorem dJ6_numberOfTrailingZeros_0f7a4_79 : decode cJ6_numberOfTrailingZeros_0f7a4 79 = .ok (.ireturn, 1) := by decide +kernel
theorem dJ6_bitCount_0f7a4_0 : decode cJ6_bitCount_0f7a4 0 = .ok (.iload_n 0, 1) := by decide +kernel
theorem dJ6_bitCount_0f7a4_1 : decode cJ6_bitCount_0f7a4 1 = .ok (.iload_n 0, 1) := by decide +kernel
theorem dJ6_bitCount_0f7a4_2 : decode cJ6_bitCount_0f7a4 2 = .ok (.iconst 1, 1) := by decide +kernel
theorem dJ6_bitCount_0f7a4_3 : decode cJ6_bitCount_0f7a4 3 = .ok (.iushr, 1) := by decide +kernel
theorem dJ6_bitCount_0f7a4_4 : decode cJ6_bitCount_0f7a4 4 = .ok (.ldc_w 265, 3) := by decide +kernel
theorem dJ6_bitCount_0f7a4_7 : decode cJ6_bitCount_0f7a4 7 = .ok (.iand, 1) := by decide +kernel
theorem dJ6_bitCount_0f7a4_8 : decode cJ6_bitCount_0f7a4 8 = .ok (.isub, 1) := by decide +kernel
theorem dJ6_bitCount_0f7a4_9 : decode cJ6_bitCount_0f7a4 9 = .ok (.istore_n 0, 1) := by decide +kernel
theorem dJ6_bitCount_0f7a4_10 : decode cJ6_bitCount_0f7a4 10 = .ok (.iload_n 0, 1) := by decide +kernel
theorem dJ6_bitCount_0f7a4_11 : decode cJ6_bitCount_0f7a4 11 = .ok (.ldc_w 266, 3) := by decide +kernel
theorem dJ6_bitCount_0f7a4_14 : decode cJ6_bitCount_0f7a4 14 = .ok (.iand, 1) := by decide +kernel
theorem dJ6_bitCount_0f7a4_15 : decode cJ6_bitCount_0f7a4 15 = .ok (.iload_n 0, 1) := by decide +kernel
theorem dJ6_bitCount_0f7a4_16 : decode cJ6_bitCount_0f7a4 16 = .ok (.iconst 2, 1) := by decide +kernel
theorem dJ6_bitCount_0f7a4_17 : decode cJ6_bitCount_0f7a4 17 = .ok (.iushr, 1) := by decide +kernel
theorem dJ6_bitCount_0f7a4_18 : decode cJ6_bitCount_0f7a4 18 = .ok (.ldc_w 266, 3) := by decide +kernel
theorem dJ6_bitCount_0f7a4_21 : decode cJ6_bitCount_0f7a4 21 = .ok (.iand, 1) := by decide +kernel
theorem dJ6_bitCount_0f7a4_22 : decode cJ6_bitCount_0f7a4 22 = .ok (.iadd, 1) := by decide +kernel
theorem dJ6_bitCount_0f7a4_23 : decode cJ6_bitCount_0f7a4 23 = .ok (.istore_n 0, 1) := by decide +kernel
theorem dJ6_bitCount_0f7a4_24 : decode cJ6_bitCount_0f7a4 24 = .ok (.iload_n 0, 1) := by decide +kernel
theorem dJ6_bitCount_0f7a4_25 : decode cJ6_bitCount_0f7a4 25 = .ok (.iload_n 0, 1) := by decide +kernel
theorem dJ6_bitCount_0f7a4_26 : decode cJ6_bitCount_0f7a4 26 = .ok (.iconst 4, 1) := by decide +kernel
theorem dJ6_bitCount_0f7a4_27 : decode cJ6_bitCount_0f7a4 27 = .ok (.iushr, 1) := by decide +kernel
theorem dJ6_bitCount_0f7a4_28 : decode cJ6_bitCount_0f7a4 28 = .ok (.iadd, 1) := by decide +kernel
theorem dJ6_bitCount_0f7a4_29 : decode cJ6_bitCount_0f7a4 29 = .ok (.ldc_w 267, 3) := by decide +kernel
theorem dJ6_bitCount_0f7a4_32 : decode cJ6_bitCount_0f7a4 32 = .ok (.iand, 1) := by decide +kernel
theorem dJ6_bitCount_0f7a4_33 : decode cJ6_bitCount_0f7a4 33 = .ok (.istore_n 0, 1) := by decide +kernel
theorem dJ6_bitCount_0f7a4_34 : decode cJ6_bitCount_0f7a4 34 = .ok (.iload_n 0, 1) := by decide +kernel
theorem dJ6_bitCount_0f7a4_35 : decode cJ6_bitCount_0f7a4 35 = .ok (.iload_n 0, 1) := by decide +kernel
theorem dJ6_bitCount_0f7a4_36 : decode cJ6_bitCount_0f7a4 36 = .ok (.bipush 8, 2) := by decide +kernel
theorem dJ6_bitCount_0f7a4_38 : decode cJ6_bitCount_0f7a4 38 = .ok (.iushr, 1) := by decide +kernel
theorem dJ6_bitCount_0f7a4_39 : decode cJ6_bitCount_0f7a4 39 = .ok (.iadd, 1) := by decide +kernel
theorem dJ6_bitCount_0f7a4_40 : decode cJ6_bitCount_0f7a4 40 = .ok (.istore_n 0, 1) := by decide +kernel
theorem dJ6_bitCount_0f7a4_41 : decode cJ6_bitCount_0f7a4 41 = .ok (.iload_n 0, 1) := by decide +kernel
theorem dJ6_bitCount_0f7a4_42 : decode cJ6_bitCount_0f7a4 42 = .ok (.iload_n 0, 1) := by decide +kernel
theorem dJ6_bitCount_0f7a4_43 : decode cJ6_bitCount_0f7a4 43 = .ok (.bipush 16, 2) := by decide +kernel
theorem dJ6_bitCount_0f7a4_45 : decode cJ6_bitCount_0f7a4 45 = .ok (.iushr, 1) := by decide +kernel
theorem dJ6_bitCount_0f7a4_46 : decode cJ6_bitCount_0f7a4 46 = .ok (.iadd, 1) := by decide +kernel
theorem dJ6_bitCount_0f7a4_47 : decode cJ6_bitCount_0f7a4 47 = .ok (.istore_n 0, 1) := by decide +kernel
theorem dJ6_bitCount_0f7a4_48 : decode cJ6_bitCount_0f7a4 48 = .ok (.iload_n 0, 1) := by decide +kernel
theorem dJ6_bitCount_0f7a4_49 : decode cJ6_bitCount_0f7a4 49 = .ok (.bipush 63, 2) := by decide +kernel
theorem dJ6_bitCount_0f7a4_51 : decode cJ6_bitCount_0f7a4 51 = .ok (.iand, 1) := by decide +kernel
theorem dJ6_bitCount_0f7a4_52 : decode cJ6_bitCount_0f7a4 52 = .ok (.ireturn, 1) := by decide +kernel
set_option maxRecDepth 20000 in
theorem ggJ13_numberOfTrailingZeros_95d88_J6_numberOfTrailingZeros_0f7a4 : GoodIn wsJ13_numberOfTrailingZeros_95d88 wsJ6_numberOfTrailingZeros_0f7a4 := goodIn_r _ [4, 5] (by decide +kernel) (by decide +kernel)
set_option maxRecDepth 20000 in
theorem gJ13_numberOfTrailingZeros_95d88_J6_numberOfTrailingZeros_0f7a4 : GoodIn wsJ13_numberOfTrailingZeros_95d88 (va_wsS RJ13 311 yJ6_numberOfTrailingZeros_0f7a4 wsJ6_numberOfTrailingZeros_0f7a4) := goodIn_app (goodIn_of _ (by decide +kernel)) ggJ13_numberOfTrailingZeros_95d88_J6_numberOfTrailingZeros_0f7a4
theorem dJ13_numberOfTrailingZeros_95d88_0 : decode cJ13_numberOfTrailingZeros_95d88 0 = .ok (.lload_n 0, 1) := by decide +kernel
theorem dJ13_numberOfTrailingZeros_95d88_1 : decode cJ13_numberOfTrailingZeros_95d88 1 = .ok (.l2i, 1) := by decide +kernel
theorem dJ13_numberOfTrailingZeros_95d88_2 : decode cJ13_numberOfTrailingZeros_95d88 2 = .ok (.istore_n 2, 1) := by decide +kernel
theorem dJ13_numberOfTrailingZeros_95d88_3 : decode cJ13_numberOfTrailingZeros_95d88 3 = .ok (.iload_n 2, 1) := by decide +kernel
theorem dJ13_numberOfTrailingZeros_95d88_4 : decode cJ13_numberOfTrailingZeros_95d88 4 = .ok (.ifCond .ne 17, 3) := by decide +kernel
theorem dJ13_numberOfTrailingZeros_95d88_7 : decode cJ13_numberOfTrailingZeros_95d88 7 = .ok (.bipush 32, 2) := by decide +kernel
theorem dJ13_numberOfTrailingZeros_95d88_9 : decode cJ13_numberOfTrailingZeros_95d88 9 = .ok (.lload_n 0, 1) := by decide +kernel
theorem dJ13_numberOfTrailingZeros_95d88_10 : decode cJ13_numberOfTrailingZeros_95d88 10 = .ok (.bipush 32, 2) := by decide +kernel
theorem dJ13_numberOfTrailingZeros_95d88_12 : decode cJ13_numberOfTrailingZeros_95d88 12 = .ok (.lushr, 1) := by decide +kernel
theorem dJ13_numberOfTrailingZeros_95d88_13 : decode cJ13_numberOfTrailingZeros_95d88 13 = .ok (.l2i, 1) := by decide +kernel
theorem dJ13_numberOfTrailingZeros_95d88_14 : decode cJ13_numberOfTrailingZeros_95d88 14 = .ok (.invokestatic 311, 3) := by decide +kernel
theorem dJ13_numberOfTrailingZeros_95d88_17 : decode cJ13_numberOfTrailingZeros_95d88 17 = .ok (.iadd, 1) := by decide +kernel
theorem dJ13_numberOfTrailingZeros_95d88_18 : decode cJ13_numberOfTrailingZeros_95d88 18 = .ok (.goto 7, 3) := by decide +kernel
theorem dJ13_numberOfTrailingZeros_95d88_21 : decode cJ13_numberOfTrailingZeros_95d88 21 = .ok (.iload_n 2, 1) := by decide +kernel
theorem dJ13_numberOfTrailingZeros_95d88_22 : decode cJ13_numberOfTrailingZeros_95d88 22 = .ok (.invokestatic 311, 3) := by decide +kernel
theorem dJ13_numberOfTrailingZeros_95d88_25 : decode cJ13_numberOfTrailingZeros_95d88 25 = .ok (.ireturn, 1) := by decide +kernel
theorem dJ13_bitCount_95d88_0 : decode cJ13_bitCount_95d88 0 = .ok (.lload_n 0, 1) := by decide +kernel
theorem dJ13_bitCount_95d88_1 : decode cJ13_bitCount_95d88 1 = .ok (.lload_n 0, 1) := by decide +kernel
theorem dJ13_bitCount_95d88_2 : decode cJ13_bitCount_95d88 2 = .ok (.iconst 1, 1) := by decide +kernel
theorem dJ13_bitCount_95d88_3 : decode cJ13_bitCount_95d88 3 = .ok (.lushr, 1) := by decide +kernel
theorem dJ13_bitCount_95d88_4 : decode cJ13_bitCount_95d88 4 = .ok (.ldc2_w 314, 3) := by decide +kernel
theorem dJ13_bitCount_95d88_7 : decode cJ13_bitCount_95d88 7 = .ok (.land, 1) := by decide +kernel
theorem dJ13_bitCount_95d88_8 : decode cJ13_bitCount_95d88 8 = .ok (.lsub, 1) := by decide +kernel
theorem dJ13_bitCount_95d88_9 : decode cJ13_bitCount_95d88 9 = .ok (.lstore_n 0, 1) := by decide +kernel
theorem dJ13_bitCount_95d88_10 : decode cJ13_bitCount_95d88 10 = .ok (.lload_n 0, 1) := by decide +kernel
theorem dJ13_bitCount_95d88_11 : decode cJ13_bitCount_95d88 11 = .ok (.ldc2_w 316, 3) := by decide +kernel
theorem dJ13_bitCount_95d88_14 : decode cJ13_bitCount_95d88 14 = .ok (.land, 1) := by decide +kernel
theorem dJ13_bitCount_95d88_15 : decode cJ13_bitCount_95d88 15 = .ok (.lload_n 0, 1) := by decide +kernel
theorem dJ13_bitCount_95d88_16 : decode cJ13_bitCount_95d88 16 = .ok (.iconst 2, 1) := by decide +kernel
theorem dJ13_bitCount_95d88_17 : decode cJ13_bitCount_95d88 17 = .ok (.lushr, 1) := by decide +kernel
theorem dJ13_bitCount_95d88_18 : decode cJ13_bitCount_95d88 18 = .ok (.ldc2_w 316, 3) := by decide +kernel
theorem dJ13_bitCount_95d88_21 : decode cJ13_bitCount_95d88 21 = .ok (.land, 1) := by decide +kernel
theorem dJ13_bitCount_95d88_22 : decode cJ13_bitCount_95d88 22 = .ok (.ladd, 1) := by decide +kernel
theorem dJ13_bitCount_95d88_23 : decode cJ13_bitCount_95d88 23 = .ok (.lstore_n 0, 1) := by decide +kernel
theorem dJ13_bitCount_95d88_24 : decode cJ13_bitCount_95d88 24 = .ok (.lload_n 0, 1) := by decide +kernel
theorem dJ13_bitCount_95d88_25 : decode cJ13_bitCount_95d88 25 = .ok (.lload_n 0, 1) := by decide +kernel
theorem dJ13_bitCount_95d88_26 : decode cJ13_bitCount_95d88 26 = .ok (.iconst 4, 1) := by decide +kernel
theorem dJ13_bitCount_95d88_27 : decode cJ13_bitCount_95d88 27 = .ok (.lushr, 1) := by decide +kernel
theorem dJ13_bitCount_95d88_28 : decode cJ13_bitCount_95d88 28 = .ok (.ladd, 1) := by decide +kernel
theorem dJ13_bitCount_95d88_29 : decode cJ13_bitCount_95d88 29 = .ok (.ldc2_w 318, 3) := by decide +kernel
theorem dJ13_bitCount_95d88_32 : decode cJ13_bitCount_95d88 32 = .ok (.land, 1) := by decide +kernel
theorem dJ13_bitCount_95d88_33 : decode cJ13_bitCount_95d88 33 = .ok (.lstore_n 0, 1) := by decide +kernel
theorem dJ13_bitCount_95d88_34 : decode cJ13_bitCount_95d88 34 = .ok (.lload_n 0, 1) := by decide +kernel
theorem dJ13_bitCount_95d88_35 : decode cJ13_bitCount_95d88 35 = .ok (.lload_n 0, 1) := by decide +kernel
theorem dJ13_bitCount_95d88_36 : decode cJ13_bitCount_95d88 36 = .ok (.bipush 8, 2) := by decide +kernel
theorem dJ13_bitCount_95d88_38 : decode cJ13_bitCount_95d88 38 = .ok (.lushr, 1) := by decide +kernel
theorem dJ13_bitCount_95d88_39 : decode cJ13_bitCount_95d88 39 = .ok (.ladd, 1) := by decide +kernel
theorem dJ13_bitCount_95d88_40 : decode cJ13_bitCount_95d88 40 = .ok (.lstore_n 0, 1) := by decide +kernel
theorem dJ13_bitCount_95d88_41 : decode cJ13_bitCount_95d88 41 = .ok (.lload_n 0, 1) := by decide +kernel
theorem dJ13_bitCount_95d88_42 : decode cJ13_bitCount_95d88 42 = .ok (.lload_n 0, 1) := by decide +kernel
theorem dJ13_bitCount_95d88_43 : decode cJ13_bitCount_95d88 43 = .ok (.bipush 16, 2) := by decide +kernel
theorem dJ13_bitCount_95d88_45 : decode cJ13_bitCount_95d88 45 = .ok (.lushr, 1) := by decide +kernel
theorem dJ13_bitCount_95d88_46 : decode cJ13_bitCount_95d88 46 = .ok (.ladd, 1) := by decide +kernel
theorem dJ13_bitCount_95d88_47 : decode cJ13_bitCount_95d88 47 = .ok (.lstore_n 0, 1) := by decide +kernel
theorem dJ13_bitCount_95d88_48 : decode cJ13_bitCount_95d88 48 = .ok (.lload_n 0, 1) := by decide +kernel
theorem dJ13_bitCount_95d88_49 : decode cJ13_bitCount_95d88 49 = .ok (.lload_n 0, 1) := by decide +kernel
theorem dJ13_bitCount_95d88_50 : decode cJ13_bitCount_95d88 50 = .ok (.bipush 32, 2) := by decide +kernel
theorem dJ13_bitCount_95d88_52 : decode cJ13_bitCount_95d88 52 = .ok (.lushr, 1) := by decide +kernel
theorem dJ13_bitCount_95d88_53 : decode cJ13_bitCount_95d88 53 = .ok (.ladd, 1) := by decide +kernel
theorem dJ13_bitCount_95d88_54 : decode cJ13_bitCount_95d88 54 = .ok (.lstore_n 0, 1) := by decide +kernel
theorem dJ13_bitCount_95d88_55 : decode cJ13_bitCount_95d88 55 = .ok (.lload_n 0, 1) := by decide +kernel
theorem dJ13_bitCount_95d88_56 : decode cJ13_bitCount_95d88 56 = .ok (.l2i, 1) := by decide +kernel
theorem dJ13_bitCount_95d88_57 : decode cJ13_bitCount_95d88 57 = .ok (.bipush 127, 2) := by decide +kernel
theorem dJ13_bitCount_95d88_59 : decode cJ13_bitCount_95d88 59 = .ok (.iand, 1) := by decide +kernel
theorem dJ13_bitCount_95d88_60 : decode cJ13_bitCount_95d88 60 = .ok (.ireturn, 1) := by decide +kernel
theorem dJ9_min_7cf53_0 : decode cJ9_min_7cf53 0 = .ok (.iload_n 0, 1) := by decide +kernel
theorem dJ9_min_7cf53_1 : decode cJ9_min_7cf53 1 = .ok (.iload_n 1, 1) := by decide +kernel
theorem dJ9_min_7cf53_2 : decode cJ9_min_7cf53 2 = .ok (.if_icmp .gt 7, 3) := by decide +kernel
theorem dJ9_min_7cf53_5 : decode cJ9_min_7cf53 5 = .ok (.iload_n 0, 1) := by decide +kernel
theorem dJ9_min_7cf53_6 : decode cJ9_min_7cf53 6 = .ok (.goto 4, 3) := by decide +kernel
theorem dJ9_min_7cf53_9 : decode cJ9_min_7cf53 9 = .ok (.iload_n 1, 1) := by decide +kernel
theorem dJ9_min_7cf53_10 : decode cJ9_min_7cf53 10 = .ok (.ireturn, 1) := by decide +kernel
end
section
set_option maxRecDepth 20000 in
theorem ggX4_init_X3_init : GoodIn wsX4_init wsX3_init := goodIn_r _ [25, 26, 2, 3, 20, 27, 28, 29, 30, 31, 32, 33, 34, 35, 68, 69, 70, 71, 72, 73, 74] (by decide +kernel) (by decide +kernel)
set_option maxRecDepth 20000 in
theorem gX4_init_X3_init_n9 : GoodIn wsX4_init (wsX3_init) := ggX4_init_X3_init
set_option maxRecDepth 20000 in
theorem ggX4_init_X0_init : GoodIn wsX4_init wsX0_init := goodIn_r _ [37, 38, 2, 3, 31, 39, 40, 41, 42, 82, 83, 84, 85] (by decide +kernel) (by decide +kernel)
set_option maxRecDepth 20000 in
theorem gX4_init_X0_init_n18 : GoodIn wsX4_init (wsX0_init) := ggX4_init_X0_init
set_option maxRecDepth 20000 in
theorem ggX4_init_X1_init : GoodIn wsX4_init wsX1_init := goodIn_r _ [44, 45, 2, 3, 20, 46, 47, 48, 49, 50, 51, 52, 86, 87, 88, 89, 90, 91, 92] (by decide +kernel) (by decide +kernel)
set_option maxRecDepth 20000 in
theorem gX4_init_X1_init_n25 : GoodIn wsX4_init (wsX1_init) := ggX4_init_X1_init
set_option maxRecDepth 20000 in
theorem ggX4_init_X2_init : GoodIn wsX4_init wsX2_init := goodIn_r _ [54, 55, 2, 3, 20, 56, 57, 58, 31, 59, 60, 61, 62, 63, 64, 65, 66, 67, 93, 94, 95, 96, 97, 98, 99, 100, 101, 102, 103, 104] (by decide +kernel) (by decide +kernel)
set_option maxRecDepth 20000 in
theorem gX4_init_X2_init_n32 : GoodIn wsX4_init (wsX2_init) := ggX4_init_X2_init
theorem dX4_init_0 : decode cX4_init 0 = .ok (.aload_n 0, 1) := by decide +kernel
theorem dX4_init_1 : decode cX4_init 1 = .ok (.invokespecial 1, 3) := by decide +kernel
theorem dX4_init_4 : decode cX4_init 4 = .ok (.aload_n 0, 1) := by decide +kernel
theorem dX4_init_5 : decode cX4_init 5 = .ok (.new 7, 3) := by decide +kernel
theorem dX4_init_8 : decode cX4_init 8 = .ok (.dup, 1) := by decide +kernel
theorem dX4_init_9 : decode cX4_init 9 = .ok (.invokespecial 9, 3) := by decide +kernel
theorem dX4_init_12 : decode cX4_init 12 = .ok (.putfield 10, 3) := by decide +kernel
theorem dX4_init_15 : decode cX4_init 15 = .ok (.aload_n 0, 1) := by decide +kernel
theorem dX4_init_16 : decode cX4_init 16 = .ok (.new 16, 3) := by decide +kernel
theorem dX4_init_19 : decode cX4_init 19 = .ok (.dup, 1) := by decide +kernel
theorem dX4_init_20 : decode cX4_init 20 = .ok (.invokespecial 18, 3) := by decide +kernel
theorem dX4_init_23 : decode cX4_init 23 = .ok (.putfield 19, 3) := by decide +kernel
theorem dX4_init_26 : decode cX4_init 26 = .ok (.aload_n 0, 1) := by decide +kernel
theorem dX4_init_27 : decode cX4_init 27 = .ok (.new 23, 3) := by decide +kernel
theorem dX4_init_30 : decode cX4_init 30 = .ok (.dup, 1) := by decide +kernel
theorem dX4_init_31 : decode cX4_init 31 = .ok (.invokespecial 25, 3) := by decide +kernel
theorem dX4_init_34 : decode cX4_init 34 = .ok (.putfield 26, 3) := by decide +kernel
theorem dX4_init_37 : decode cX4_init 37 = .ok (.aload_n 0, 1) := by decide +kernel
theorem dX4_init_38 : decode cX4_init 38 = .ok (.new 30, 3) := by decide +kernel
theorem dX4_init_41 : decode cX4_init 41 = .ok (.dup, 1) := by decide +kernel
theorem dX4_init_42 : decode cX4_init 42 = .ok (.invokespecial 32, 3) := by decide +kernel
theorem dX4_init_45 : decode cX4_init 45 = .ok (.putfield 33, 3) := by decide +kernel
theorem dX4_init_48 : decode cX4_init 48 = .ok (.aload_n 0, 1) := by decide +kernel
theorem dX4_init_49 : decode cX4_init 49 = .ok (.iconst 5, 1) := by decide +kernel
theorem dX4_init_50 : decode cX4_init 50 = .ok (.newarray .int, 2) := by decide +kernel
theorem dX4_init_52 : decode cX4_init 52 = .ok (.putfield 37, 3) := by decide +kernel
theorem dX4_init_55 : decode cX4_init 55 = .ok (.aload_n 0, 1) := by decide +kernel
theorem dX4_init_56 : decode cX4_init 56 = .ok (.iconst 0, 1) := by decide +kernel
theorem dX4_init_57 : decode cX4_init 57 = .ok (.putfield 41, 3) := by decide +kernel
theorem dX4_init_60 : decode cX4_init 60 = .ok (.aload_n 0, 1) := by decide +kernel
theorem dX4_init_61 : decode cX4_init 61 = .ok (.lconst 0, 1) := by decide +kernel
theorem dX4_init_62 : decode cX4_init 62 = .ok (.putfield 45, 3) := by decide +kernel
theorem dX4_init_65 : decode cX4_init 65 = .ok (.return_, 1) := by decide +kernel
set_option maxRecDepth 20000 in
theorem ggX4_test_X4_isKind : GoodIn wsX4_test wsX4_isKind := goodIn_r _ [6] (by decide +kernel) (by decide +kernel)
set_option maxRecDepth 20000 in
theorem gX4_test_X4_isKind : GoodIn wsX4_test (va_wsS RX4 49 yX4_isKind wsX4_isKind) := goodIn_app (goodIn_of _ (by decide +kernel)) ggX4_test_X4_isKind
set_option maxRecDepth 20000 in
theorem ggX4_test_X3_has : GoodIn wsX4_test wsX3_has := goodIn_r _ [11, 12, 28, 29, 30, 31, 32, 33, 34] (by decide +kernel) (by decide +kernel)
set_option maxRecDepth 20000 in
theorem gX4_test_X3_has : GoodIn wsX4_test (wsV RX4 53 RX3 yX3_has wsX3_has) := goodIn_app (goodIn_of _ (by decide +kernel)) ggX4_test_X3_has
set_option maxRecDepth 20000 in
theorem ggX4_test_X3_add : GoodIn wsX4_test wsX3_add := goodIn_r _ [16, 17, 12, 18, 19, 20, 28, 29, 30, 31, 32, 33, 34] (by decide +kernel) (by decide +kernel)
set_option maxRecDepth 20000 in
theorem gX4_test_X3_add : GoodIn wsX4_test (wsV RX4 59 RX3 yX3_add wsX3_add) := goodIn_app (goodIn_of _ (by decide +kernel)) ggX4_test_X3_add
theorem dX4_test_0 : decode cX4_test 0 = .ok (.iload_n 1, 1) := by decide +kernel
theorem dX4_test_1 : decode cX4_test 1 = .ok (.invokestatic 49, 3) := by decide +kernel
theorem dX4_test_4 : decode cX4_test 4 = .ok (.ifCond .eq 15, 3) := by decide +kernel
theorem dX4_test_7 : decode cX4_test 7 = .ok (.iload_n 2, 1) := by decide +kernel
theorem dX4_test_8 : decode cX4_test 8 = .ok (.iconst 1, 1) := by decide +kernel
theorem dX4_test_9 : decode cX4_test 9 = .ok (.if_icmp .lt 10, 3) := by decide +kernel
theorem dX4_test_12 : decode cX4_test 12 = .ok (.iload_n 2, 1) := by decide +kernel
theorem dX4_test_13 : decode cX4_test 13 = .ok (.sipush 1000, 3) := by decide +kernel
theorem dX4_test_16 : decode cX4_test 16 = .ok (.if_icmp .le 5, 3) := by decide +kernel
theorem dX4_test_19 : decode cX4_test 19 = .ok (.iconst (-1), 1) := by decide +kernel
theorem dX4_test_20 : decode cX4_test 20 = .ok (.ireturn, 1) := by decide +kernel
theorem dX4_test_21 : decode cX4_test 21 = .ok (.iload_n 1, 1) := by decide +kernel
theorem dX4_test_22 : decode cX4_test 22 = .ok (.iconst 2, 1) := by decide +kernel
theorem dX4_test_23 : decode cX4_test 23 = .ok (.if_icmp .ne 16, 3) := by decide +kernel
theorem dX4_test_26 : decode cX4_test 26 = .ok (.aload_n 0, 1) := by decide +kernel
theorem dX4_test_27 : decode cX4_test 27 = .ok (.getfield 10, 3) := by decide +kernel
theorem dX4_test_30 : decode cX4_test 30 = .ok (.iload_n 3, 1) := by decide +kernel
theorem dX4_test_31 : decode cX4_test 31 = .ok (.invokevirtual 53, 3) := by decide +kernel
theorem dX4_test_34 : decode cX4_test 34 = .ok (.ifCond .ne 5, 3) := by decide +kernel
theorem dX4_test_37 : decode cX4_test 37 = .ok (.iconst (-1), 1) := by decide +kernel
theorem dX4_test_38 : decode cX4_test 38 = .ok (.ireturn, 1) := by decide +kernel
theorem dX4_test_39 : decode cX4_test 39 = .ok (.aload_n 0, 1) := by decide +kernel
theorem dX4_test_40 : decode cX4_test 40 = .ok (.getfield 10, 3) := by decide +kernel
theorem dX4_test_43 : decode cX4_test 43 = .ok (.getfield 56, 3) := by decide +kernel
theorem dX4_test_46 : decode cX4_test 46 = .ok (.bipush 20, 2) := by decide +kernel
theorem dX4_test_48 : decode cX4_test 48 = .ok (.if_icmp .lt 6, 3) := by decide +kernel
theorem dX4_test_51 : decode cX4_test 51 = .ok (.bipush (-2), 2) := by decide +kernel
theorem dX4_test_53 : decode cX4_test 53 = .ok (.ireturn, 1) := by decide +kernel
theorem dX4_test_54 : decode cX4_test 54 = .ok (.aload_n 0, 1) := by decide +kernel
theorem dX4_test_55 : decode cX4_test 55 = .ok (.getfield 10, 3) := by decide +kernel
theorem dX4_test_58 : decode cX4_test 58 = .ok (.iload_n 1, 1) := by decide +kernel
theorem dX4_test_59 : decode cX4_test 59 = .ok (.iload_n 2, 1) := by decide +kernel
theorem dX4_test_60 : decode cX4_test 60 = .ok (.iload_n 3, 1) := by decide +kernel
theorem dX4_test_61 : decode cX4_test 61 = .ok (.invokevirtual 59, 3) := by decide +kernel
theorem dX4_test_64 : decode cX4_test 64 = .ok (.ireturn, 1) := by decide +kernel
set_option maxRecDepth 20000 in
theorem ggX4_turn_X3_has : GoodIn wsX4_turn wsX3_has := goodIn_r _ [7, 8, 26, 27, 28, 29, 30, 31, 32] (by decide +kernel) (by decide +kernel)
set_option maxRecDepth 20000 in
theorem gX4_turn_X3_has : GoodIn wsX4_turn (wsV RX4 53 RX3 yX3_has wsX3_has) := goodIn_app (goodIn_of _ (by decide +kernel)) ggX4_turn_X3_has
set_option maxRecDepth 20000 in
theorem ggX4_turn_X4_isKind : GoodIn wsX4_turn wsX4_isKind := goodIn_r _ [12] (by decide +kernel) (by decide +kernel)
set_option maxRecDepth 20000 in
theorem gX4_turn_X4_isKind : GoodIn wsX4_turn (va_wsS RX4 49 yX4_isKind wsX4_isKind) := goodIn_app (goodIn_of _ (by decide +kernel)) ggX4_turn_X4_isKind
set_option maxRecDepth 20000 in
theorem ggX4_turn_X4_refuse : GoodIn wsX4_turn wsX4_refuse := goodIn_r _ [16, 17, 18, 19, 20, 21, 22, 23, 24, 25] (by decide +kernel) (by decide +kernel)
set_option maxRecDepth 20000 in
theorem gX4_turn_X4_refuse : GoodIn wsX4_turn (wsV RX4 66 RX4 yX4_refuse wsX4_refuse) := goodIn_app (goodIn_of _ (by decide +kernel)) ggX4_turn_X4_refuse
theorem dX4_turn_0 : decode cX4_turn 0 = .ok (.aload_n 0, 1) := by decide +kernel
theorem dX4_turn_1 : decode cX4_turn 1 = .ok (.getfield 10, 3) := by decide +kernel
theorem dX4_turn_4 : decode cX4_turn 4 = .ok (.iload_n 1, 1) := by decide +kernel
theorem dX4_turn_5 : decode cX4_turn 5 = .ok (.invokevirtual 53, 3) := by decide +kernel
theorem dX4_turn_8 : decode cX4_turn 8 = .ok (.ifCond .eq 15, 3) := by decide +kernel
theorem dX4_turn_11 : decode cX4_turn 11 = .ok (.iload_n 2, 1) := by decide +kernel
theorem dX4_turn_12 : decode cX4_turn 12 = .ok (.invokestatic 49, 3) := by decide +kernel
theorem dX4_turn_15 : decode cX4_turn 15 = .ok (.ifCond .eq 8, 3) := by decide +kernel
theorem dX4_turn_18 : decode cX4_turn 18 = .ok (.iload_n 2, 1) := by decide +kernel
theorem dX4_turn_19 : decode cX4_turn 19 = .ok (.iconst 2, 1) := by decide +kernel
theorem dX4_turn_20 : decode cX4_turn 20 = .ok (.if_icmp .ne 5, 3) := by decide +kernel
theorem dX4_turn_23 : decode cX4_turn 23 = .ok (.iconst (-1), 1) := by decide +kernel
theorem dX4_turn_24 : decode cX4_turn 24 = .ok (.ireturn, 1) := by decide +kernel
theorem dX4_turn_25 : decode cX4_turn 25 = .ok (.aload_n 0, 1) := by decide +kernel
theorem dX4_turn_26 : decode cX4_turn 26 = .ok (.getfield 10, 3) := by decide +kernel
theorem dX4_turn_29 : decode cX4_turn 29 = .ok (.getfield 63, 3) := by decide +kernel
theorem dX4_turn_32 : decode cX4_turn 32 = .ok (.iload_n 1, 1) := by decide +kernel
theorem dX4_turn_33 : decode cX4_turn 33 = .ok (.iaload, 1) := by decide +kernel
theorem dX4_turn_34 : decode cX4_turn 34 = .ok (.istore_n 3, 1) := by decide +kernel
theorem dX4_turn_35 : decode cX4_turn 35 = .ok (.iload_n 3, 1) := by decide +kernel
theorem dX4_turn_36 : decode cX4_turn 36 = .ok (.iconst 2, 1) := by decide +kernel
theorem dX4_turn_37 : decode cX4_turn 37 = .ok (.if_icmp .ne 9, 3) := by decide +kernel
theorem dX4_turn_40 : decode cX4_turn 40 = .ok (.aload_n 0, 1) := by decide +kernel
theorem dX4_turn_41 : decode cX4_turn 41 = .ok (.iconst 3, 1) := by decide +kernel
theorem dX4_turn_42 : decode cX4_turn 42 = .ok (.invokevirtual 66, 3) := by decide +kernel
theorem dX4_turn_45 : decode cX4_turn 45 = .ok (.ireturn, 1) := by decide +kernel
theorem dX4_turn_46 : decode cX4_turn 46 = .ok (.aload_n 0, 1) := by decide +kernel
theorem dX4_turn_47 : decode cX4_turn 47 = .ok (.getfield 10, 3) := by decide +kernel
theorem dX4_turn_50 : decode cX4_turn 50 = .ok (.getfield 63, 3) := by decide +kernel
theorem dX4_turn_53 : decode cX4_turn 53 = .ok (.iload_n 1, 1) := by decide +kernel
theorem dX4_turn_54 : decode cX4_turn 54 = .ok (.iload_n 2, 1) := by decide +kernel
theorem dX4_turn_55 : decode cX4_turn 55 = .ok (.iastore, 1) := by decide +kernel
theorem dX4_turn_56 : decode cX4_turn 56 = .ok (.iload_n 3, 1) := by decide +kernel
theorem dX4_turn_57 : decode cX4_turn 57 = .ok (.ireturn, 1) := by decide +kernel
set_option maxRecDepth 20000 in
theorem ggX4_reach_X3_has : GoodIn wsX4_reach wsX3_has := goodIn_r _ [7, 8, 37, 38, 39, 40, 41, 42, 43] (by decide +kernel) (by decide +kernel)
set_option maxRecDepth 20000 in
theorem gX4_reach_X3_has : GoodIn wsX4_reach (wsV RX4 53 RX3 yX3_has wsX3_has) := goodIn_app (goodIn_of _ (by decide +kernel)) ggX4_reach_X3_has
set_option maxRecDepth 20000 in
theorem ggX4_reach_X4_refuse : GoodIn wsX4_reach wsX4_refuse := goodIn_r _ [13, 14, 15, 30, 31, 32, 33, 34, 35, 36] (by decide +kernel) (by decide +kernel)
set_option maxRecDepth 20000 in
theorem gX4_reach_X4_refuse : GoodIn wsX4_reach (wsV RX4 66 RX4 yX4_refuse wsX4_refuse) := goodIn_app (goodIn_of _ (by decide +kernel)) ggX4_reach_X4_refuse
set_option maxRecDepth 20000 in
theorem ggX4_reach_X4_isPlace : GoodIn wsX4_reach wsX4_isPlace := goodIn_r _ [18] (by decide +kernel) (by decide +kernel)
set_option maxRecDepth 20000 in
theorem gX4_reach_X4_isPlace : GoodIn wsX4_reach (va_wsS RX4 74 yX4_isPlace wsX4_isPlace) := goodIn_app (goodIn_of _ (by decide +kernel)) ggX4_reach_X4_isPlace
set_option maxRecDepth 20000 in
theorem ggX4_reach_X3_reachByte : GoodIn wsX4_reach wsX3_reachByte := goodIn_r _ [22, 23, 24, 37, 38, 39, 40, 41, 42, 43] (by decide +kernel) (by decide +kernel)
set_option maxRecDepth 20000 in
theorem gX4_reach_X3_reachByte : GoodIn wsX4_reach (wsV RX4 77 RX3 yX3_reachByte wsX3_reachByte) := goodIn_app (goodIn_of _ (by decide +kernel)) ggX4_reach_X3_reachByte
set_option maxRecDepth 20000 in
theorem ggX4_reach_X3_setReachByte : GoodIn wsX4_reach wsX3_setReachByte := goodIn_r _ [28, 23, 24, 29, 37, 38, 39, 40, 41, 42, 43] (by decide +kernel) (by decide +kernel)
set_option maxRecDepth 20000 in
theorem gX4_reach_X3_setReachByte : GoodIn wsX4_reach (wsV RX4 81 RX3 yX3_setReachByte wsX3_setReachByte) := goodIn_app (goodIn_of _ (by decide +kernel)) ggX4_reach_X3_setReachByte
theorem dX4_reach_0 : decode cX4_reach 0 = .ok (.aload_n 0, 1) := by decide +kernel
theorem dX4_reach_1 : decode cX4_reach 1 = .ok (.getfield 10, 3) := by decide +kernel
theorem dX4_reach_4 : decode cX4_reach 4 = .ok (.iload_n 1, 1) := by decide +kernel
theorem dX4_reach_5 : decode cX4_reach 5 = .ok (.invokevirtual 53, 3) := by decide +kernel
theorem dX4_reach_8 : decode cX4_reach 8 = .ok (.ifCond .eq 14, 3) := by decide +kernel
theorem dX4_reach_11 : decode cX4_reach 11 = .ok (.iload_n 3, 1) := by decide +kernel
theorem dX4_reach_12 : decode cX4_reach 12 = .ok (.ifCond .lt 10, 3) := by decide +kernel
theorem dX4_reach_15 : decode cX4_reach 15 = .ok (.iload_n 3, 1) := by decide +kernel
theorem dX4_reach_16 : decode cX4_reach 16 = .ok (.sipush 255, 3) := by decide +kernel
theorem dX4_reach_19 : decode cX4_reach 19 = .ok (.if_icmp .le 5, 3) := by decide +kernel
theorem dX4_reach_22 : decode cX4_reach 22 = .ok (.iconst (-1), 1) := by decide +kernel
theorem dX4_reach_23 : decode cX4_reach 23 = .ok (.ireturn, 1) := by decide +kernel
theorem dX4_reach_24 : decode cX4_reach 24 = .ok (.aload_n 0, 1) := by decide +kernel
theorem dX4_reach_25 : decode cX4_reach 25 = .ok (.getfield 10, 3) := by decide +kernel
theorem dX4_reach_28 : decode cX4_reach 28 = .ok (.getfield 70, 3) := by decide +kernel
theorem dX4_reach_31 : decode cX4_reach 31 = .ok (.iload_n 1, 1) := by decide +kernel
theorem dX4_reach_32 : decode cX4_reach 32 = .ok (.baload, 1) := by decide +kernel
theorem dX4_reach_33 : decode cX4_reach 33 = .ok (.ifCond .eq 9, 3) := by decide +kernel
theorem dX4_reach_36 : decode cX4_reach 36 = .ok (.aload_n 0, 1) := by decide +kernel
theorem dX4_reach_37 : decode cX4_reach 37 = .ok (.iconst 1, 1) := by decide +kernel
theorem dX4_reach_38 : decode cX4_reach 38 = .ok (.invokevirtual 66, 3) := by decide +kernel
theorem dX4_reach_41 : decode cX4_reach 41 = .ok (.ireturn, 1) := by decide +kernel
theorem dX4_reach_42 : decode cX4_reach 42 = .ok (.iload_n 2, 1) := by decide +kernel
theorem dX4_reach_43 : decode cX4_reach 43 = .ok (.invokestatic 74, 3) := by decide +kernel
theorem dX4_reach_46 : decode cX4_reach 46 = .ok (.ifCond .ne 9, 3) := by decide +kernel
theorem dX4_reach_49 : decode cX4_reach 49 = .ok (.aload_n 0, 1) := by decide +kernel
theorem dX4_reach_50 : decode cX4_reach 50 = .ok (.iconst 2, 1) := by decide +kernel
theorem dX4_reach_51 : decode cX4_reach 51 = .ok (.invokevirtual 66, 3) := by decide +kernel
theorem dX4_reach_54 : decode cX4_reach 54 = .ok (.ireturn, 1) := by decide +kernel
theorem dX4_reach_55 : decode cX4_reach 55 = .ok (.aload_n 0, 1) := by decide +kernel
theorem dX4_reach_56 : decode cX4_reach 56 = .ok (.getfield 10, 3) := by decide +kernel
theorem dX4_reach_59 : decode cX4_reach 59 = .ok (.iload_n 1, 1) := by decide +kernel
theorem dX4_reach_60 : decode cX4_reach 60 = .ok (.iload_n 2, 1) := by decide +kernel
theorem dX4_reach_61 : decode cX4_reach 61 = .ok (.invokevirtual 77, 3) := by decide +kernel
theorem dX4_reach_64 : decode cX4_reach 64 = .ok (.istore 4, 2) := by decide +kernel
theorem dX4_reach_66 : decode cX4_reach 66 = .ok (.aload_n 0, 1) := by decide +kernel
theorem dX4_reach_67 : decode cX4_reach 67 = .ok (.getfield 10, 3) := by decide +kernel
theorem dX4_reach_70 : decode cX4_reach 70 = .ok (.iload_n 1, 1) := by decide +kernel
theorem dX4_reach_71 : decode cX4_reach 71 = .ok (.iload_n 2, 1) := by decide +kernel
theorem dX4_reach_72 : decode cX4_reach 72 = .ok (.iload_n 3, 1) := by decide +kernel
theorem dX4_reach_73 : decode cX4_reach 73 = .ok (.invokevirtual 81, 3) := by decide +kernel
theorem dX4_reach_76 : decode cX4_reach 76 = .ok (.iload 4, 2) := by decide +kernel
theorem dX4_reach_78 : decode cX4_reach 78 = .ok (.ireturn, 1) := by decide +kernel
set_option maxRecDepth 20000 in
theorem ggX4_byteOf_X3_has : GoodIn wsX4_byteOf wsX3_has := goodIn_r _ [7, 8, 32, 33, 34, 35, 36, 37, 38] (by decide +kernel) (by decide +kernel)
set_option maxRecDepth 20000 in
theorem gX4_byteOf_X3_has : GoodIn wsX4_byteOf (wsV RX4 53 RX3 yX3_has wsX3_has) := goodIn_app (goodIn_of _ (by decide +kernel)) ggX4_byteOf_X3_has
set_option maxRecDepth 20000 in
theorem ggX4_byteOf_X4_refuse : GoodIn wsX4_byteOf wsX4_refuse := goodIn_r _ [13, 14, 15, 25, 26, 27, 28, 29, 30, 31] (by decide +kernel) (by decide +kernel)
set_option maxRecDepth 20000 in
theorem gX4_byteOf_X4_refuse : GoodIn wsX4_byteOf (wsV RX4 66 RX4 yX4_refuse wsX4_refuse) := goodIn_app (goodIn_of _ (by decide +kernel)) ggX4_byteOf_X4_refuse
set_option maxRecDepth 20000 in
theorem ggX4_byteOf_X4_isPlace : GoodIn wsX4_byteOf wsX4_isPlace := goodIn_r _ [18] (by decide +kernel) (by decide +kernel)
set_option maxRecDepth 20000 in
theorem gX4_byteOf_X4_isPlace : GoodIn wsX4_byteOf (va_wsS RX4 74 yX4_isPlace wsX4_isPlace) := goodIn_app (goodIn_of _ (by decide +kernel)) ggX4_byteOf_X4_isPlace
set_option maxRecDepth 20000 in
theorem ggX4_byteOf_X3_reachByte : GoodIn wsX4_byteOf wsX3_reachByte := goodIn_r _ [22, 23, 24, 32, 33, 34, 35, 36, 37, 38] (by decide +kernel) (by decide +kernel)
set_option maxRecDepth 20000 in
theorem gX4_byteOf_X3_reachByte : GoodIn wsX4_byteOf (wsV RX4 77 RX3 yX3_reachByte wsX3_reachByte) := goodIn_app (goodIn_of _ (by decide +kernel)) ggX4_byteOf_X3_reachByte
theorem dX4_byteOf_0 : decode cX4_byteOf 0 = .ok (.aload_n 0, 1) := by decide +kernel
theorem dX4_byteOf_1 : decode cX4_byteOf 1 = .ok (.getfield 10, 3) := by decide +kernel
theorem dX4_byteOf_4 : decode cX4_byteOf 4 = .ok (.iload_n 1, 1) := by decide +kernel
theorem dX4_byteOf_5 : decode cX4_byteOf 5 = .ok (.invokevirtual 53, 3) := by decide +kernel
theorem dX4_byteOf_8 : decode cX4_byteOf 8 = .ok (.ifCond .ne 5, 3) := by decide +kernel
theorem dX4_byteOf_11 : decode cX4_byteOf 11 = .ok (.iconst (-1), 1) := by decide +kernel
theorem dX4_byteOf_12 : decode cX4_byteOf 12 = .ok (.ireturn, 1) := by decide +kernel
theorem dX4_byteOf_13 : decode cX4_byteOf 13 = .ok (.aload_n 0, 1) := by decide +kernel
theorem dX4_byteOf_14 : decode cX4_byteOf 14 = .ok (.getfield 10, 3) := by decide +kernel
theorem dX4_byteOf_17 : decode cX4_byteOf 17 = .ok (.getfield 70, 3) := by decide +kernel
theorem dX4_byteOf_20 : decode cX4_byteOf 20 = .ok (.iload_n 1, 1) := by decide +kernel
theorem dX4_byteOf_21 : decode cX4_byteOf 21 = .ok (.baload, 1) := by decide +kernel
theorem dX4_byteOf_22 : decode cX4_byteOf 22 = .ok (.ifCond .eq 9, 3) := by decide +kernel
theorem dX4_byteOf_25 : decode cX4_byteOf 25 = .ok (.aload_n 0, 1) := by decide +kernel
theorem dX4_byteOf_26 : decode cX4_byteOf 26 = .ok (.iconst 1, 1) := by decide +kernel
theorem dX4_byteOf_27 : decode cX4_byteOf 27 = .ok (.invokevirtual 66, 3) := by decide +kernel
theorem dX4_byteOf_30 : decode cX4_byteOf 30 = .ok (.ireturn, 1) := by decide +kernel
theorem dX4_byteOf_31 : decode cX4_byteOf 31 = .ok (.iload_n 2, 1) := by decide +kernel
theorem dX4_byteOf_32 : decode cX4_byteOf 32 = .ok (.invokestatic 74, 3) := by decide +kernel
theorem dX4_byteOf_35 : decode cX4_byteOf 35 = .ok (.ifCond .ne 9, 3) := by decide +kernel
theorem dX4_byteOf_38 : decode cX4_byteOf 38 = .ok (.aload_n 0, 1) := by decide +kernel
theorem dX4_byteOf_39 : decode cX4_byteOf 39 = .ok (.iconst 2, 1) := by decide +kernel
theorem dX4_byteOf_40 : decode cX4_byteOf 40 = .ok (.invokevirtual 66, 3) := by decide +kernel
theorem dX4_byteOf_43 : decode cX4_byteOf 43 = .ok (.ireturn, 1) := by decide +kernel
theorem dX4_byteOf_44 : decode cX4_byteOf 44 = .ok (.aload_n 0, 1) := by decide +kernel
theorem dX4_byteOf_45 : decode cX4_byteOf 45 = .ok (.getfield 10, 3) := by decide +kernel
theorem dX4_byteOf_48 : decode cX4_byteOf 48 = .ok (.iload_n 1, 1) := by decide +kernel
theorem dX4_byteOf_49 : decode cX4_byteOf 49 = .ok (.iload_n 2, 1) := by decide +kernel
theorem dX4_byteOf_50 : decode cX4_byteOf 50 = .ok (.invokevirtual 77, 3) := by decide +kernel
theorem dX4_byteOf_53 : decode cX4_byteOf 53 = .ok (.ireturn, 1) := by decide +kernel
set_option maxRecDepth 20000 in
theorem ggX4_tear_X3_has : GoodIn wsX4_tear wsX3_has := goodIn_r _ [8, 9, 24, 25, 26, 27, 28, 29, 30] (by decide +kernel) (by decide +kernel)
set_option maxRecDepth 20000 in
theorem gX4_tear_X3_has : GoodIn wsX4_tear (wsV RX4 53 RX3 yX3_has wsX3_has) := goodIn_app (goodIn_of _ (by decide +kernel)) ggX4_tear_X3_has
set_option maxRecDepth 20000 in
theorem ggX4_tear_X4_refuse : GoodIn wsX4_tear wsX4_refuse := goodIn_r _ [14, 15, 16, 17, 18, 19, 20, 21, 22, 23] (by decide +kernel) (by decide +kernel)
set_option maxRecDepth 20000 in
theorem gX4_tear_X4_refuse : GoodIn wsX4_tear (wsV RX4 66 RX4 yX4_refuse wsX4_refuse) := goodIn_app (goodIn_of _ (by decide +kernel)) ggX4_tear_X4_refuse
theorem dX4_tear_0 : decode cX4_tear 0 = .ok (.aload_n 0, 1) := by decide +kernel
theorem dX4_tear_1 : decode cX4_tear 1 = .ok (.getfield 10, 3) := by decide +kernel
theorem dX4_tear_4 : decode cX4_tear 4 = .ok (.iload_n 1, 1) := by decide +kernel
theorem dX4_tear_5 : decode cX4_tear 5 = .ok (.invokevirtual 53, 3) := by decide +kernel
theorem dX4_tear_8 : decode cX4_tear 8 = .ok (.ifCond .ne 5, 3) := by decide +kernel
theorem dX4_tear_11 : decode cX4_tear 11 = .ok (.iconst (-1), 1) := by decide +kernel
theorem dX4_tear_12 : decode cX4_tear 12 = .ok (.ireturn, 1) := by decide +kernel
theorem dX4_tear_13 : decode cX4_tear 13 = .ok (.aload_n 0, 1) := by decide +kernel
theorem dX4_tear_14 : decode cX4_tear 14 = .ok (.getfield 10, 3) := by decide +kernel
theorem dX4_tear_17 : decode cX4_tear 17 = .ok (.getfield 70, 3) := by decide +kernel
theorem dX4_tear_20 : decode cX4_tear 20 = .ok (.iload_n 1, 1) := by decide +kernel
theorem dX4_tear_21 : decode cX4_tear 21 = .ok (.baload, 1) := by decide +kernel
theorem dX4_tear_22 : decode cX4_tear 22 = .ok (.ifCond .eq 9, 3) := by decide +kernel
theorem dX4_tear_25 : decode cX4_tear 25 = .ok (.aload_n 0, 1) := by decide +kernel
theorem dX4_tear_26 : decode cX4_tear 26 = .ok (.iconst 1, 1) := by decide +kernel
theorem dX4_tear_27 : decode cX4_tear 27 = .ok (.invokevirtual 66, 3) := by decide +kernel
theorem dX4_tear_30 : decode cX4_tear 30 = .ok (.ireturn, 1) := by decide +kernel
theorem dX4_tear_31 : decode cX4_tear 31 = .ok (.aload_n 0, 1) := by decide +kernel
theorem dX4_tear_32 : decode cX4_tear 32 = .ok (.getfield 10, 3) := by decide +kernel
theorem dX4_tear_35 : decode cX4_tear 35 = .ok (.getfield 70, 3) := by decide +kernel
theorem dX4_tear_38 : decode cX4_tear 38 = .ok (.iload_n 1, 1) := by decide +kernel
theorem dX4_tear_39 : decode cX4_tear 39 = .ok (.iconst 1, 1) := by decide +kernel
theorem dX4_tear_40 : decode cX4_tear 40 = .ok (.bastore, 1) := by decide +kernel
theorem dX4_tear_41 : decode cX4_tear 41 = .ok (.aload_n 0, 1) := by decide +kernel
theorem dX4_tear_42 : decode cX4_tear 42 = .ok (.getfield 10, 3) := by decide +kernel
theorem dX4_tear_45 : decode cX4_tear 45 = .ok (.getfield 85, 3) := by decide +kernel
theorem dX4_tear_48 : decode cX4_tear 48 = .ok (.iload_n 1, 1) := by decide +kernel
theorem dX4_tear_49 : decode cX4_tear 49 = .ok (.lconst 0, 1) := by decide +kernel
theorem dX4_tear_50 : decode cX4_tear 50 = .ok (.lastore, 1) := by decide +kernel
theorem dX4_tear_51 : decode cX4_tear 51 = .ok (.iconst 1, 1) := by decide +kernel
theorem dX4_tear_52 : decode cX4_tear 52 = .ok (.ireturn, 1) := by decide +kernel
set_option maxRecDepth 20000 in
theorem ggX4_anew_X3_has : GoodIn wsX4_anew wsX3_has := goodIn_r _ [8, 9, 17, 18, 19, 20, 21, 22, 23] (by decide +kernel) (by decide +kernel)
set_option maxRecDepth 20000 in
theorem gX4_anew_X3_has : GoodIn wsX4_anew (wsV RX4 53 RX3 yX3_has wsX3_has) := goodIn_app (goodIn_of _ (by decide +kernel)) ggX4_anew_X3_has
theorem dX4_anew_0 : decode cX4_anew 0 = .ok (.aload_n 0, 1) := by decide +kernel
theorem dX4_anew_1 : decode cX4_anew 1 = .ok (.getfield 10, 3) := by decide +kernel
theorem dX4_anew_4 : decode cX4_anew 4 = .ok (.iload_n 1, 1) := by decide +kernel
theorem dX4_anew_5 : decode cX4_anew 5 = .ok (.invokevirtual 53, 3) := by decide +kernel
theorem dX4_anew_8 : decode cX4_anew 8 = .ok (.ifCond .ne 5, 3) := by decide +kernel
theorem dX4_anew_11 : decode cX4_anew 11 = .ok (.iconst (-1), 1) := by decide +kernel
theorem dX4_anew_12 : decode cX4_anew 12 = .ok (.ireturn, 1) := by decide +kernel
theorem dX4_anew_13 : decode cX4_anew 13 = .ok (.aload_n 0, 1) := by decide +kernel
theorem dX4_anew_14 : decode cX4_anew 14 = .ok (.getfield 10, 3) := by decide +kernel
theorem dX4_anew_17 : decode cX4_anew 17 = .ok (.getfield 70, 3) := by decide +kernel
theorem dX4_anew_20 : decode cX4_anew 20 = .ok (.iload_n 1, 1) := by decide +kernel
theorem dX4_anew_21 : decode cX4_anew 21 = .ok (.baload, 1) := by decide +kernel
theorem dX4_anew_22 : decode cX4_anew 22 = .ok (.ifCond .eq 7, 3) := by decide +kernel
theorem dX4_anew_25 : decode cX4_anew 25 = .ok (.iconst 0, 1) := by decide +kernel
theorem dX4_anew_26 : decode cX4_anew 26 = .ok (.goto 4, 3) := by decide +kernel
theorem dX4_anew_29 : decode cX4_anew 29 = .ok (.iconst 1, 1) := by decide +kernel
theorem dX4_anew_30 : decode cX4_anew 30 = .ok (.istore_n 2, 1) := by decide +kernel
theorem dX4_anew_31 : decode cX4_anew 31 = .ok (.aload_n 0, 1) := by decide +kernel
theorem dX4_anew_32 : decode cX4_anew 32 = .ok (.getfield 10, 3) := by decide +kernel
theorem dX4_anew_35 : decode cX4_anew 35 = .ok (.getfield 70, 3) := by decide +kernel
theorem dX4_anew_38 : decode cX4_anew 38 = .ok (.iload_n 1, 1) := by decide +kernel
theorem dX4_anew_39 : decode cX4_anew 39 = .ok (.iconst 0, 1) := by decide +kernel
theorem dX4_anew_40 : decode cX4_anew 40 = .ok (.bastore, 1) := by decide +kernel
theorem dX4_anew_41 : decode cX4_anew 41 = .ok (.aload_n 0, 1) := by decide +kernel
theorem dX4_anew_42 : decode cX4_anew 42 = .ok (.getfield 10, 3) := by decide +kernel
theorem dX4_anew_45 : decode cX4_anew 45 = .ok (.getfield 85, 3) := by decide +kernel
theorem dX4_anew_48 : decode cX4_anew 48 = .ok (.iload_n 1, 1) := by decide +kernel
theorem dX4_anew_49 : decode cX4_anew 49 = .ok (.lconst 0, 1) := by decide +kernel
theorem dX4_anew_50 : decode cX4_anew 50 = .ok (.lastore, 1) := by decide +kernel
theorem dX4_anew_51 : decode cX4_anew 51 = .ok (.iload_n 2, 1) := by decide +kernel
theorem dX4_anew_52 : decode cX4_anew 52 = .ok (.ireturn, 1) := by decide +kernel
set_option maxRecDepth 20000 in
theorem ggX4_copy_X3_has : GoodIn wsX4_copy wsX3_has := goodIn_r _ [7, 8, 32, 33, 34, 35, 36, 37, 38] (by decide +kernel) (by decide +kernel)
set_option maxRecDepth 20000 in
theorem gX4_copy_X3_has : GoodIn wsX4_copy (wsV RX4 53 RX3 yX3_has wsX3_has) := goodIn_app (goodIn_of _ (by decide +kernel)) ggX4_copy_X3_has
set_option maxRecDepth 20000 in
theorem ggX4_copy_X4_refuse : GoodIn wsX4_copy wsX4_refuse := goodIn_r _ [13, 14, 15, 25, 26, 27, 28, 29, 30, 31] (by decide +kernel) (by decide +kernel)
set_option maxRecDepth 20000 in
theorem gX4_copy_X4_refuse : GoodIn wsX4_copy (wsV RX4 66 RX4 yX4_refuse wsX4_refuse) := goodIn_app (goodIn_of _ (by decide +kernel)) ggX4_copy_X4_refuse
set_option maxRecDepth 20000 in
theorem ggX4_copy_X4_isStretch : GoodIn wsX4_copy wsX4_isStretch := goodIn_r _ [18] (by decide +kernel) (by decide +kernel)
set_option maxRecDepth 20000 in
theorem gX4_copy_X4_isStretch : GoodIn wsX4_copy (va_wsS RX4 89 yX4_isStretch wsX4_isStretch) := goodIn_app (goodIn_of _ (by decide +kernel)) ggX4_copy_X4_isStretch
set_option maxRecDepth 20000 in
theorem ggX4_copy_X3_copyBytes : GoodIn wsX4_copy wsX3_copyBytes := goodIn_r _ [22, 23, 24, 32, 33, 34, 35, 36, 37, 38] (by decide +kernel) (by decide +kernel)
set_option maxRecDepth 20000 in
theorem gX4_copy_X3_copyBytes : GoodIn wsX4_copy (wsV RX4 93 RX3 yX3_copyBytes wsX3_copyBytes) := goodIn_app (goodIn_of _ (by decide +kernel)) ggX4_copy_X3_copyBytes
theorem dX4_copy_0 : decode cX4_copy 0 = .ok (.aload_n 0, 1) := by decide +kernel
theorem dX4_copy_1 : decode cX4_copy 1 = .ok (.getfield 10, 3) := by decide +kernel
theorem dX4_copy_4 : decode cX4_copy 4 = .ok (.iload_n 1, 1) := by decide +kernel
theorem dX4_copy_5 : decode cX4_copy 5 = .ok (.invokevirtual 53, 3) := by decide +kernel
theorem dX4_copy_8 : decode cX4_copy 8 = .ok (.ifCond .eq 14, 3) := by decide +kernel
theorem dX4_copy_11 : decode cX4_copy 11 = .ok (.aload_n 0, 1) := by decide +kernel
theorem dX4_copy_12 : decode cX4_copy 12 = .ok (.getfield 10, 3) := by decide +kernel
theorem dX4_copy_15 : decode cX4_copy 15 = .ok (.iload_n 3, 1) := by decide +kernel
theorem dX4_copy_16 : decode cX4_copy 16 = .ok (.invokevirtual 53, 3) := by decide +kernel
theorem dX4_copy_19 : decode cX4_copy 19 = .ok (.ifCond .ne 5, 3) := by decide +kernel
theorem dX4_copy_22 : decode cX4_copy 22 = .ok (.iconst (-1), 1) := by decide +kernel
theorem dX4_copy_23 : decode cX4_copy 23 = .ok (.ireturn, 1) := by decide +kernel
theorem dX4_copy_24 : decode cX4_copy 24 = .ok (.iload 5, 2) := by decide +kernel
theorem dX4_copy_26 : decode cX4_copy 26 = .ok (.ifCond .ge 9, 3) := by decide +kernel
theorem dX4_copy_29 : decode cX4_copy 29 = .ok (.aload_n 0, 1) := by decide +kernel
theorem dX4_copy_30 : decode cX4_copy 30 = .ok (.iconst 4, 1) := by decide +kernel
theorem dX4_copy_31 : decode cX4_copy 31 = .ok (.invokevirtual 66, 3) := by decide +kernel
theorem dX4_copy_34 : decode cX4_copy 34 = .ok (.ireturn, 1) := by decide +kernel
theorem dX4_copy_35 : decode cX4_copy 35 = .ok (.aload_n 0, 1) := by decide +kernel
theorem dX4_copy_36 : decode cX4_copy 36 = .ok (.getfield 10, 3) := by decide +kernel
theorem dX4_copy_39 : decode cX4_copy 39 = .ok (.getfield 70, 3) := by decide +kernel
theorem dX4_copy_42 : decode cX4_copy 42 = .ok (.iload_n 1, 1) := by decide +kernel
theorem dX4_copy_43 : decode cX4_copy 43 = .ok (.baload, 1) := by decide +kernel
theorem dX4_copy_44 : decode cX4_copy 44 = .ok (.ifCond .ne 15, 3) := by decide +kernel
theorem dX4_copy_47 : decode cX4_copy 47 = .ok (.aload_n 0, 1) := by decide +kernel
theorem dX4_copy_48 : decode cX4_copy 48 = .ok (.getfield 10, 3) := by decide +kernel
theorem dX4_copy_51 : decode cX4_copy 51 = .ok (.getfield 70, 3) := by decide +kernel
theorem dX4_copy_54 : decode cX4_copy 54 = .ok (.iload_n 3, 1) := by decide +kernel
theorem dX4_copy_55 : decode cX4_copy 55 = .ok (.baload, 1) := by decide +kernel
theorem dX4_copy_56 : decode cX4_copy 56 = .ok (.ifCond .eq 9, 3) := by decide +kernel
theorem dX4_copy_59 : decode cX4_copy 59 = .ok (.aload_n 0, 1) := by decide +kernel
theorem dX4_copy_60 : decode cX4_copy 60 = .ok (.iconst 1, 1) := by decide +kernel
theorem dX4_copy_61 : decode cX4_copy 61 = .ok (.invokevirtual 66, 3) := by decide +kernel
theorem dX4_copy_64 : decode cX4_copy 64 = .ok (.ireturn, 1) := by decide +kernel
theorem dX4_copy_65 : decode cX4_copy 65 = .ok (.iload_n 2, 1) := by decide +kernel
theorem dX4_copy_66 : decode cX4_copy 66 = .ok (.iload 5, 2) := by decide +kernel
theorem dX4_copy_68 : decode cX4_copy 68 = .ok (.invokestatic 89, 3) := by decide +kernel
theorem dX4_copy_71 : decode cX4_copy 71 = .ok (.ifCond .eq 13, 3) := by decide +kernel
theorem dX4_copy_74 : decode cX4_copy 74 = .ok (.iload 4, 2) := by decide +kernel
theorem dX4_copy_76 : decode cX4_copy 76 = .ok (.iload 5, 2) := by decide +kernel
theorem dX4_copy_78 : decode cX4_copy 78 = .ok (.invokestatic 89, 3) := by decide +kernel
theorem dX4_copy_81 : decode cX4_copy 81 = .ok (.ifCond .ne 9, 3) := by decide +kernel
theorem dX4_copy_84 : decode cX4_copy 84 = .ok (.aload_n 0, 1) := by decide +kernel
theorem dX4_copy_85 : decode cX4_copy 85 = .ok (.iconst 2, 1) := by decide +kernel
theorem dX4_copy_86 : decode cX4_copy 86 = .ok (.invokevirtual 66, 3) := by decide +kernel
theorem dX4_copy_89 : decode cX4_copy 89 = .ok (.ireturn, 1) := by decide +kernel
theorem dX4_copy_90 : decode cX4_copy 90 = .ok (.aload_n 0, 1) := by decide +kernel
theorem dX4_copy_91 : decode cX4_copy 91 = .ok (.getfield 10, 3) := by decide +kernel
theorem dX4_copy_94 : decode cX4_copy 94 = .ok (.iload_n 1, 1) := by decide +kernel
theorem dX4_copy_95 : decode cX4_copy 95 = .ok (.iload_n 2, 1) := by decide +kernel
theorem dX4_copy_96 : decode cX4_copy 96 = .ok (.iload_n 3, 1) := by decide +kernel
theorem dX4_copy_97 : decode cX4_copy 97 = .ok (.iload 4, 2) := by decide +kernel
theorem dX4_copy_99 : decode cX4_copy 99 = .ok (.iload 5, 2) := by decide +kernel
theorem dX4_copy_101 : decode cX4_copy 101 = .ok (.invokevirtual 93, 3) := by decide +kernel
theorem dX4_copy_104 : decode cX4_copy 104 = .ok (.iconst 1, 1) := by decide +kernel
theorem dX4_copy_105 : decode cX4_copy 105 = .ok (.ireturn, 1) := by decide +kernel
set_option maxRecDepth 20000 in
theorem ggX4_told_X3_has : GoodIn wsX4_told wsX3_has := goodIn_r _ [6, 7, 64, 65, 66, 67, 68, 69, 70] (by decide +kernel) (by decide +kernel)
set_option maxRecDepth 20000 in
theorem gX4_told_X3_has : GoodIn wsX4_told (wsV RX4 53 RX3 yX3_has wsX3_has) := goodIn_app (goodIn_of _ (by decide +kernel)) ggX4_told_X3_has
set_option maxRecDepth 20000 in
theorem ggX4_told_X4_factOf : GoodIn wsX4_told wsX4_factOf := goodIn_r _ [12, 1, 13, 14, 15, 16, 17, 18, 19, 5, 20, 21, 22, 23, 24, 25, 26, 27, 28, 29, 30, 31, 32, 33, 11, 34, 35, 36, 37, 38, 39, 40, 41, 42, 43, 44, 45, 46, 47, 48, 49, 50, 51, 52, 53, 54, 55, 56, 57, 58, 59, 60, 61, 62, 63, 64, 65, 66, 67, 68, 69, 70, 71, 72, 73, 74] (by decide +kernel) (by decide +kernel)
set_option maxRecDepth 20000 in
theorem gX4_told_X4_factOf : GoodIn wsX4_told (wsV RX4 97 RX4 yX4_factOf wsX4_factOf) := goodIn_app (goodIn_of _ (by decide +kernel)) ggX4_told_X4_factOf
theorem dX4_told_0 : decode cX4_told 0 = .ok (.aload_n 0, 1) := by decide +kernel
theorem dX4_told_1 : decode cX4_told 1 = .ok (.getfield 10, 3) := by decide +kernel
theorem dX4_told_4 : decode cX4_told 4 = .ok (.iload_n 1, 1) := by decide +kernel
theorem dX4_told_5 : decode cX4_told 5 = .ok (.invokevirtual 53, 3) := by decide +kernel
theorem dX4_told_8 : decode cX4_told 8 = .ok (.ifCond .eq 13, 3) := by decide +kernel
theorem dX4_told_11 : decode cX4_told 11 = .ok (.iload_n 2, 1) := by decide +kernel
theorem dX4_told_12 : decode cX4_told 12 = .ok (.ifCond .lt 9, 3) := by decide +kernel
theorem dX4_told_15 : decode cX4_told 15 = .ok (.iload_n 2, 1) := by decide +kernel
theorem dX4_told_16 : decode cX4_told 16 = .ok (.bipush 6, 2) := by decide +kernel
theorem dX4_told_18 : decode cX4_told 18 = .ok (.if_icmp .le 5, 3) := by decide +kernel
theorem dX4_told_21 : decode cX4_told 21 = .ok (.iconst (-1), 1) := by decide +kernel
theorem dX4_told_22 : decode cX4_told 22 = .ok (.ireturn, 1) := by decide +kernel
theorem dX4_told_23 : decode cX4_told 23 = .ok (.aload_n 0, 1) := by decide +kernel
theorem dX4_told_24 : decode cX4_told 24 = .ok (.iload_n 1, 1) := by decide +kernel
theorem dX4_told_25 : decode cX4_told 25 = .ok (.iload_n 2, 1) := by decide +kernel
theorem dX4_told_26 : decode cX4_told 26 = .ok (.invokevirtual 97, 3) := by decide +kernel
theorem dX4_told_29 : decode cX4_told 29 = .ok (.ireturn, 1) := by decide +kernel
set_option maxRecDepth 20000 in
theorem ggX4_time_X3_has : GoodIn wsX4_time wsX3_has := goodIn_r _ [8, 9, 27, 28, 29, 30, 31, 32, 33] (by decide +kernel) (by decide +kernel)
set_option maxRecDepth 20000 in
theorem gX4_time_X3_has : GoodIn wsX4_time (wsV RX4 53 RX3 yX3_has wsX3_has) := goodIn_app (goodIn_of _ (by decide +kernel)) ggX4_time_X3_has
set_option maxRecDepth 20000 in
theorem ggX4_time_X4_isKind : GoodIn wsX4_time wsX4_isKind := goodIn_r _ [13] (by decide +kernel) (by decide +kernel)
set_option maxRecDepth 20000 in
theorem gX4_time_X4_isKind : GoodIn wsX4_time (va_wsS RX4 49 yX4_isKind wsX4_isKind) := goodIn_app (goodIn_of _ (by decide +kernel)) ggX4_time_X4_isKind
set_option maxRecDepth 20000 in
theorem ggX4_time_X4_refuse : GoodIn wsX4_time wsX4_refuse := goodIn_r _ [17, 18, 19, 20, 21, 22, 23, 24, 25, 26] (by decide +kernel) (by decide +kernel)
set_option maxRecDepth 20000 in
theorem gX4_time_X4_refuse : GoodIn wsX4_time (wsV RX4 66 RX4 yX4_refuse wsX4_refuse) := goodIn_app (goodIn_of _ (by decide +kernel)) ggX4_time_X4_refuse
theorem dX4_time_0 : decode cX4_time 0 = .ok (.aload_n 0, 1) := by decide +kernel
theorem dX4_time_1 : decode cX4_time 1 = .ok (.getfield 10, 3) := by decide +kernel
theorem dX4_time_4 : decode cX4_time 4 = .ok (.iload_n 1, 1) := by decide +kernel
theorem dX4_time_5 : decode cX4_time 5 = .ok (.invokevirtual 53, 3) := by decide +kernel
theorem dX4_time_8 : decode cX4_time 8 = .ok (.ifCond .eq 10, 3) := by decide +kernel
theorem dX4_time_11 : decode cX4_time 11 = .ok (.iload_n 2, 1) := by decide +kernel
theorem dX4_time_12 : decode cX4_time 12 = .ok (.invokestatic 49, 3) := by decide +kernel
theorem dX4_time_15 : decode cX4_time 15 = .ok (.ifCond .ne 5, 3) := by decide +kernel
theorem dX4_time_18 : decode cX4_time 18 = .ok (.iconst (-1), 1) := by decide +kernel
theorem dX4_time_19 : decode cX4_time 19 = .ok (.ireturn, 1) := by decide +kernel
theorem dX4_time_20 : decode cX4_time 20 = .ok (.iload_n 2, 1) := by decide +kernel
theorem dX4_time_21 : decode cX4_time 21 = .ok (.ifCond .eq 22, 3) := by decide +kernel
theorem dX4_time_24 : decode cX4_time 24 = .ok (.iload_n 2, 1) := by decide +kernel
theorem dX4_time_25 : decode cX4_time 25 = .ok (.aload_n 0, 1) := by decide +kernel
theorem dX4_time_26 : decode cX4_time 26 = .ok (.getfield 10, 3) := by decide +kernel
theorem dX4_time_29 : decode cX4_time 29 = .ok (.getfield 63, 3) := by decide +kernel
theorem dX4_time_32 : decode cX4_time 32 = .ok (.iload_n 1, 1) := by decide +kernel
theorem dX4_time_33 : decode cX4_time 33 = .ok (.iaload, 1) := by decide +kernel
theorem dX4_time_34 : decode cX4_time 34 = .ok (.if_icmp .eq 9, 3) := by decide +kernel
theorem dX4_time_37 : decode cX4_time 37 = .ok (.aload_n 0, 1) := by decide +kernel
theorem dX4_time_38 : decode cX4_time 38 = .ok (.iconst 3, 1) := by decide +kernel
theorem dX4_time_39 : decode cX4_time 39 = .ok (.invokevirtual 66, 3) := by decide +kernel
theorem dX4_time_42 : decode cX4_time 42 = .ok (.ireturn, 1) := by decide +kernel
theorem dX4_time_43 : decode cX4_time 43 = .ok (.aload_n 0, 1) := by decide +kernel
theorem dX4_time_44 : decode cX4_time 44 = .ok (.getfield 10, 3) := by decide +kernel
theorem dX4_time_47 : decode cX4_time 47 = .ok (.getfield 100, 3) := by decide +kernel
theorem dX4_time_50 : decode cX4_time 50 = .ok (.iload_n 1, 1) := by decide +kernel
theorem dX4_time_51 : decode cX4_time 51 = .ok (.iaload, 1) := by decide +kernel
theorem dX4_time_52 : decode cX4_time 52 = .ok (.ireturn, 1) := by decide +kernel
set_option maxRecDepth 20000 in
theorem ggX4_build_X1_drop : GoodIn wsX4_build wsX1_drop := goodIn_r _ [8, 9, 10, 11, 12, 13, 14, 33, 34, 35, 36, 37, 38, 39] (by decide +kernel) (by decide +kernel)
set_option maxRecDepth 20000 in
theorem gX4_build_X1_drop : GoodIn wsX4_build (wsV RX4 104 RX1 yX1_drop wsX1_drop) := goodIn_app (goodIn_of _ (by decide +kernel)) ggX4_build_X1_drop
set_option maxRecDepth 20000 in
theorem ggX4_build_X0_add : GoodIn wsX4_build wsX0_add := goodIn_r _ [19, 20, 21, 29, 30, 31, 32] (by decide +kernel) (by decide +kernel)
set_option maxRecDepth 20000 in
theorem gX4_build_X0_add : GoodIn wsX4_build (wsV RX4 107 RX0 yX0_add wsX0_add) := goodIn_app (goodIn_of _ (by decide +kernel)) ggX4_build_X0_add
theorem dX4_build_0 : decode cX4_build 0 = .ok (.lload_n 1, 1) := by decide +kernel
theorem dX4_build_1 : decode cX4_build 1 = .ok (.bipush 40, 2) := by decide +kernel
theorem dX4_build_3 : decode cX4_build 3 = .ok (.lushr, 1) := by decide +kernel
theorem dX4_build_4 : decode cX4_build 4 = .ok (.lconst 0, 1) := by decide +kernel
theorem dX4_build_5 : decode cX4_build 5 = .ok (.lcmp, 1) := by decide +kernel
theorem dX4_build_6 : decode cX4_build 6 = .ok (.ifCond .eq 5, 3) := by decide +kernel
theorem dX4_build_9 : decode cX4_build 9 = .ok (.iconst (-1), 1) := by decide +kernel
theorem dX4_build_10 : decode cX4_build 10 = .ok (.ireturn, 1) := by decide +kernel
theorem dX4_build_11 : decode cX4_build 11 = .ok (.aload_n 0, 1) := by decide +kernel
theorem dX4_build_12 : decode cX4_build 12 = .ok (.getfield 19, 3) := by decide +kernel
theorem dX4_build_15 : decode cX4_build 15 = .ok (.getfield 103, 3) := by decide +kernel
theorem dX4_build_18 : decode cX4_build 18 = .ok (.bipush 60, 2) := by decide +kernel
theorem dX4_build_20 : decode cX4_build 20 = .ok (.if_icmp .lt 6, 3) := by decide +kernel
theorem dX4_build_23 : decode cX4_build 23 = .ok (.bipush (-2), 2) := by decide +kernel
theorem dX4_build_25 : decode cX4_build 25 = .ok (.ireturn, 1) := by decide +kernel
theorem dX4_build_26 : decode cX4_build 26 = .ok (.aload_n 0, 1) := by decide +kernel
theorem dX4_build_27 : decode cX4_build 27 = .ok (.getfield 26, 3) := by decide +kernel
theorem dX4_build_30 : decode cX4_build 30 = .ok (.invokevirtual 104, 3) := by decide +kernel
theorem dX4_build_33 : decode cX4_build 33 = .ok (.aload_n 0, 1) := by decide +kernel
theorem dX4_build_34 : decode cX4_build 34 = .ok (.getfield 19, 3) := by decide +kernel
theorem dX4_build_37 : decode cX4_build 37 = .ok (.lload_n 1, 1) := by decide +kernel
theorem dX4_build_38 : decode cX4_build 38 = .ok (.invokevirtual 107, 3) := by decide +kernel
theorem dX4_build_41 : decode cX4_build 41 = .ok (.ireturn, 1) := by decide +kernel
set_option maxRecDepth 20000 in
theorem ggX4_verdict_X3_has : GoodIn wsX4_verdict wsX3_has := goodIn_r _ [8, 9, 34, 35, 36, 37, 38, 39, 40] (by decide +kernel) (by decide +kernel)
set_option maxRecDepth 20000 in
theorem gX4_verdict_X3_has : GoodIn wsX4_verdict (wsV RX4 53 RX3 yX3_has wsX3_has) := goodIn_app (goodIn_of _ (by decide +kernel)) ggX4_verdict_X3_has
set_option maxRecDepth 20000 in
theorem ggX4_verdict_X0_verdictIn : GoodIn wsX4_verdict wsX0_verdictIn := goodIn_r _ [14, 15, 16, 30, 31, 32, 33] (by decide +kernel) (by decide +kernel)
set_option maxRecDepth 20000 in
theorem gX4_verdict_X0_verdictIn : GoodIn wsX4_verdict (wsV RX4 110 RX0 yX0_verdictIn wsX0_verdictIn) := goodIn_app (goodIn_of _ (by decide +kernel)) ggX4_verdict_X0_verdictIn
set_option maxRecDepth 20000 in
theorem ggX4_verdict_X0_judge : GoodIn wsX4_verdict wsX0_judge := goodIn_r _ [20, 21, 15, 22, 16, 30, 31, 32, 33] (by decide +kernel) (by decide +kernel)
set_option maxRecDepth 20000 in
theorem gX4_verdict_X0_judge : GoodIn wsX4_verdict (wsV RX4 113 RX0 yX0_judge wsX0_judge) := goodIn_app (goodIn_of _ (by decide +kernel)) ggX4_verdict_X0_judge
theorem dX4_verdict_0 : decode cX4_verdict 0 = .ok (.aload_n 0, 1) := by decide +kernel
theorem dX4_verdict_1 : decode cX4_verdict 1 = .ok (.getfield 10, 3) := by decide +kernel
theorem dX4_verdict_4 : decode cX4_verdict 4 = .ok (.iload_n 1, 1) := by decide +kernel
theorem dX4_verdict_5 : decode cX4_verdict 5 = .ok (.invokevirtual 53, 3) := by decide +kernel
theorem dX4_verdict_8 : decode cX4_verdict 8 = .ok (.ifCond .ne 5, 3) := by decide +kernel
theorem dX4_verdict_11 : decode cX4_verdict 11 = .ok (.iconst (-1), 1) := by decide +kernel
theorem dX4_verdict_12 : decode cX4_verdict 12 = .ok (.ireturn, 1) := by decide +kernel
theorem dX4_verdict_13 : decode cX4_verdict 13 = .ok (.aload_n 0, 1) := by decide +kernel
theorem dX4_verdict_14 : decode cX4_verdict 14 = .ok (.getfield 19, 3) := by decide +kernel
theorem dX4_verdict_17 : decode cX4_verdict 17 = .ok (.getfield 103, 3) := by decide +kernel
theorem dX4_verdict_20 : decode cX4_verdict 20 = .ok (.ifCond .ne 6, 3) := by decide +kernel
theorem dX4_verdict_23 : decode cX4_verdict 23 = .ok (.bipush (-4), 2) := by decide +kernel
theorem dX4_verdict_25 : decode cX4_verdict 25 = .ok (.ireturn, 1) := by decide +kernel
theorem dX4_verdict_26 : decode cX4_verdict 26 = .ok (.aload_n 0, 1) := by decide +kernel
theorem dX4_verdict_27 : decode cX4_verdict 27 = .ok (.getfield 19, 3) := by decide +kernel
theorem dX4_verdict_30 : decode cX4_verdict 30 = .ok (.iload_n 1, 1) := by decide +kernel
theorem dX4_verdict_31 : decode cX4_verdict 31 = .ok (.aload_n 0, 1) := by decide +kernel
theorem dX4_verdict_32 : decode cX4_verdict 32 = .ok (.getfield 19, 3) := by decide +kernel
theorem dX4_verdict_35 : decode cX4_verdict 35 = .ok (.getfield 103, 3) := by decide +kernel
theorem dX4_verdict_38 : decode cX4_verdict 38 = .ok (.iconst 1, 1) := by decide +kernel
theorem dX4_verdict_39 : decode cX4_verdict 39 = .ok (.isub, 1) := by decide +kernel
theorem dX4_verdict_40 : decode cX4_verdict 40 = .ok (.invokevirtual 110, 3) := by decide +kernel
theorem dX4_verdict_43 : decode cX4_verdict 43 = .ok (.istore_n 3, 1) := by decide +kernel
theorem dX4_verdict_44 : decode cX4_verdict 44 = .ok (.aload_n 0, 1) := by decide +kernel
theorem dX4_verdict_45 : decode cX4_verdict 45 = .ok (.getfield 19, 3) := by decide +kernel
theorem dX4_verdict_48 : decode cX4_verdict 48 = .ok (.iload_n 1, 1) := by decide +kernel
theorem dX4_verdict_49 : decode cX4_verdict 49 = .ok (.iload_n 2, 1) := by decide +kernel
theorem dX4_verdict_50 : decode cX4_verdict 50 = .ok (.invokevirtual 113, 3) := by decide +kernel
theorem dX4_verdict_53 : decode cX4_verdict 53 = .ok (.iload_n 3, 1) := by decide +kernel
theorem dX4_verdict_54 : decode cX4_verdict 54 = .ok (.bipush (-9), 2) := by decide +kernel
theorem dX4_verdict_56 : decode cX4_verdict 56 = .ok (.if_icmp .ne 7, 3) := by decide +kernel
theorem dX4_verdict_59 : decode cX4_verdict 59 = .ok (.iconst 0, 1) := by decide +kernel
theorem dX4_verdict_60 : decode cX4_verdict 60 = .ok (.goto 4, 3) := by decide +kernel
theorem dX4_verdict_63 : decode cX4_verdict 63 = .ok (.iconst 1, 1) := by decide +kernel
theorem dX4_verdict_64 : decode cX4_verdict 64 = .ok (.ireturn, 1) := by decide +kernel
set_option maxRecDepth 20000 in
theorem ggX4_was_X3_has : GoodIn wsX4_was wsX3_has := goodIn_r _ [7, 8, 28, 29, 30, 31, 32, 33, 34] (by decide +kernel) (by decide +kernel)
set_option maxRecDepth 20000 in
theorem gX4_was_X3_has : GoodIn wsX4_was (wsV RX4 53 RX3 yX3_has wsX3_has) := goodIn_app (goodIn_of _ (by decide +kernel)) ggX4_was_X3_has
set_option maxRecDepth 20000 in
theorem ggX4_was_X0_has : GoodIn wsX4_was wsX0_has := goodIn_r _ [13, 14, 35, 36, 37, 38] (by decide +kernel) (by decide +kernel)
set_option maxRecDepth 20000 in
theorem gX4_was_X0_has : GoodIn wsX4_was (wsV RX4 117 RX0 yX0_has wsX0_has) := goodIn_app (goodIn_of _ (by decide +kernel)) ggX4_was_X0_has
set_option maxRecDepth 20000 in
theorem ggX4_was_X0_verdictIn : GoodIn wsX4_was wsX0_verdictIn := goodIn_r _ [18, 19, 20, 35, 36, 37, 38] (by decide +kernel) (by decide +kernel)
set_option maxRecDepth 20000 in
theorem gX4_was_X0_verdictIn : GoodIn wsX4_was (wsV RX4 110 RX0 yX0_verdictIn wsX0_verdictIn) := goodIn_app (goodIn_of _ (by decide +kernel)) ggX4_was_X0_verdictIn
theorem dX4_was_0 : decode cX4_was 0 = .ok (.aload_n 0, 1) := by decide +kernel
theorem dX4_was_1 : decode cX4_was 1 = .ok (.getfield 10, 3) := by decide +kernel
theorem dX4_was_4 : decode cX4_was 4 = .ok (.iload_n 1, 1) := by decide +kernel
theorem dX4_was_5 : decode cX4_was 5 = .ok (.invokevirtual 53, 3) := by decide +kernel
theorem dX4_was_8 : decode cX4_was 8 = .ok (.ifCond .eq 14, 3) := by decide +kernel
theorem dX4_was_11 : decode cX4_was 11 = .ok (.aload_n 0, 1) := by decide +kernel
theorem dX4_was_12 : decode cX4_was 12 = .ok (.getfield 19, 3) := by decide +kernel
theorem dX4_was_15 : decode cX4_was 15 = .ok (.iload_n 2, 1) := by decide +kernel
theorem dX4_was_16 : decode cX4_was 16 = .ok (.invokevirtual 117, 3) := by decide +kernel
theorem dX4_was_19 : decode cX4_was 19 = .ok (.ifCond .ne 5, 3) := by decide +kernel
theorem dX4_was_22 : decode cX4_was 22 = .ok (.iconst (-1), 1) := by decide +kernel
theorem dX4_was_23 : decode cX4_was 23 = .ok (.ireturn, 1) := by decide +kernel
theorem dX4_was_24 : decode cX4_was 24 = .ok (.aload_n 0, 1) := by decide +kernel
theorem dX4_was_25 : decode cX4_was 25 = .ok (.getfield 19, 3) := by decide +kernel
theorem dX4_was_28 : decode cX4_was 28 = .ok (.iload_n 1, 1) := by decide +kernel
theorem dX4_was_29 : decode cX4_was 29 = .ok (.iload_n 2, 1) := by decide +kernel
theorem dX4_was_30 : decode cX4_was 30 = .ok (.invokevirtual 110, 3) := by decide +kernel
theorem dX4_was_33 : decode cX4_was 33 = .ok (.ireturn, 1) := by decide +kernel
set_option maxRecDepth 20000 in
theorem ggX4_change_X0_has : GoodIn wsX4_change wsX0_has := goodIn_r _ [8, 9, 17, 18, 19, 20] (by decide +kernel) (by decide +kernel)
set_option maxRecDepth 20000 in
theorem gX4_change_X0_has : GoodIn wsX4_change (wsV RX4 117 RX0 yX0_has wsX0_has) := goodIn_app (goodIn_of _ (by decide +kernel)) ggX4_change_X0_has
theorem dX4_change_0 : decode cX4_change 0 = .ok (.aload_n 0, 1) := by decide +kernel
theorem dX4_change_1 : decode cX4_change 1 = .ok (.getfield 19, 3) := by decide +kernel
theorem dX4_change_4 : decode cX4_change 4 = .ok (.iload_n 1, 1) := by decide +kernel
theorem dX4_change_5 : decode cX4_change 5 = .ok (.invokevirtual 117, 3) := by decide +kernel
theorem dX4_change_8 : decode cX4_change 8 = .ok (.ifCond .ne 5, 3) := by decide +kernel
theorem dX4_change_11 : decode cX4_change 11 = .ok (.iconst (-1), 1) := by decide +kernel
theorem dX4_change_12 : decode cX4_change 12 = .ok (.ireturn, 1) := by decide +kernel
theorem dX4_change_13 : decode cX4_change 13 = .ok (.aload_n 0, 1) := by decide +kernel
theorem dX4_change_14 : decode cX4_change 14 = .ok (.aload_n 0, 1) := by decide +kernel
theorem dX4_change_15 : decode cX4_change 15 = .ok (.getfield 19, 3) := by decide +kernel
theorem dX4_change_18 : decode cX4_change 18 = .ok (.getfield 118, 3) := by decide +kernel
theorem dX4_change_21 : decode cX4_change 21 = .ok (.iload_n 1, 1) := by decide +kernel
theorem dX4_change_22 : decode cX4_change 22 = .ok (.laload, 1) := by decide +kernel
theorem dX4_change_23 : decode cX4_change 23 = .ok (.putfield 45, 3) := by decide +kernel
theorem dX4_change_26 : decode cX4_change 26 = .ok (.iconst 1, 1) := by decide +kernel
theorem dX4_change_27 : decode cX4_change 27 = .ok (.ireturn, 1) := by decide +kernel
set_option maxRecDepth 20000 in
theorem ggX4_often_X3_has : GoodIn wsX4_often wsX3_has := goodIn_r _ [10, 11, 30, 31, 32, 33, 34, 35, 36] (by decide +kernel) (by decide +kernel)
set_option maxRecDepth 20000 in
theorem gX4_often_X3_has : GoodIn wsX4_often (wsV RX4 53 RX3 yX3_has wsX3_has) := goodIn_app (goodIn_of _ (by decide +kernel)) ggX4_often_X3_has
set_option maxRecDepth 20000 in
theorem ggX4_often_J13_bitCount_95d88 : GoodIn wsX4_often wsJ13_bitCount_95d88 := goodIn_r _ [15, 16, 17, 18] (by decide +kernel) (by decide +kernel)
set_option maxRecDepth 20000 in
theorem gX4_often_J13_bitCount_95d88 : GoodIn wsX4_often (va_wsS RX4 124 yJ13_bitCount_95d88 wsJ13_bitCount_95d88) := goodIn_app (goodIn_of _ (by decide +kernel)) ggX4_often_J13_bitCount_95d88
theorem dX4_often_0 : decode cX4_often 0 = .ok (.aload_n 0, 1) := by decide +kernel
theorem dX4_often_1 : decode cX4_often 1 = .ok (.getfield 10, 3) := by decide +kernel
theorem dX4_often_4 : decode cX4_often 4 = .ok (.iload_n 1, 1) := by decide +kernel
theorem dX4_often_5 : decode cX4_often 5 = .ok (.invokevirtual 53, 3) := by decide +kernel
theorem dX4_often_8 : decode cX4_often 8 = .ok (.ifCond .eq 12, 3) := by decide +kernel
theorem dX4_often_11 : decode cX4_often 11 = .ok (.iload_n 2, 1) := by decide +kernel
theorem dX4_often_12 : decode cX4_often 12 = .ok (.ifCond .lt 8, 3) := by decide +kernel
theorem dX4_often_15 : decode cX4_often 15 = .ok (.iload_n 2, 1) := by decide +kernel
theorem dX4_often_16 : decode cX4_often 16 = .ok (.iconst 2, 1) := by decide +kernel
theorem dX4_often_17 : decode cX4_often 17 = .ok (.if_icmp .le 5, 3) := by decide +kernel
theorem dX4_often_20 : decode cX4_often 20 = .ok (.iconst (-1), 1) := by decide +kernel
theorem dX4_often_21 : decode cX4_often 21 = .ok (.ireturn, 1) := by decide +kernel
theorem dX4_often_22 : decode cX4_often 22 = .ok (.aload_n 0, 1) := by decide +kernel
theorem dX4_often_23 : decode cX4_often 23 = .ok (.getfield 19, 3) := by decide +kernel
theorem dX4_often_26 : decode cX4_often 26 = .ok (.getfield 121, 3) := by decide +kernel
theorem dX4_often_29 : decode cX4_often 29 = .ok (.iload_n 1, 1) := by decide +kernel
theorem dX4_often_30 : decode cX4_often 30 = .ok (.laload, 1) := by decide +kernel
theorem dX4_often_31 : decode cX4_often 31 = .ok (.invokestatic 124, 3) := by decide +kernel
theorem dX4_often_34 : decode cX4_often 34 = .ok (.istore_n 3, 1) := by decide +kernel
theorem dX4_often_35 : decode cX4_often 35 = .ok (.aload_n 0, 1) := by decide +kernel
theorem dX4_often_36 : decode cX4_often 36 = .ok (.getfield 19, 3) := by decide +kernel
theorem dX4_often_39 : decode cX4_often 39 = .ok (.getfield 129, 3) := by decide +kernel
theorem dX4_often_42 : decode cX4_often 42 = .ok (.iload_n 1, 1) := by decide +kernel
theorem dX4_often_43 : decode cX4_often 43 = .ok (.laload, 1) := by decide +kernel
theorem dX4_often_44 : decode cX4_often 44 = .ok (.invokestatic 124, 3) := by decide +kernel
theorem dX4_often_47 : decode cX4_often 47 = .ok (.istore 4, 2) := by decide +kernel
theorem dX4_often_49 : decode cX4_often 49 = .ok (.iload_n 2, 1) := by decide +kernel
theorem dX4_often_50 : decode cX4_often 50 = .ok (.ifCond .ne 5, 3) := by decide +kernel
theorem dX4_often_53 : decode cX4_often 53 = .ok (.iload_n 3, 1) := by decide +kernel
theorem dX4_often_54 : decode cX4_often 54 = .ok (.ireturn, 1) := by decide +kernel
theorem dX4_often_55 : decode cX4_often 55 = .ok (.iload_n 2, 1) := by decide +kernel
theorem dX4_often_56 : decode cX4_often 56 = .ok (.iconst 1, 1) := by decide +kernel
theorem dX4_often_57 : decode cX4_often 57 = .ok (.if_icmp .ne 8, 3) := by decide +kernel
theorem dX4_often_60 : decode cX4_often 60 = .ok (.iload 4, 2) := by decide +kernel
theorem dX4_often_62 : decode cX4_often 62 = .ok (.goto 15, 3) := by decide +kernel
theorem dX4_often_65 : decode cX4_often 65 = .ok (.aload_n 0, 1) := by decide +kernel
theorem dX4_often_66 : decode cX4_often 66 = .ok (.getfield 19, 3) := by decide +kernel
theorem dX4_often_69 : decode cX4_often 69 = .ok (.getfield 103, 3) := by decide +kernel
theorem dX4_often_72 : decode cX4_often 72 = .ok (.iload_n 3, 1) := by decide +kernel
theorem dX4_often_73 : decode cX4_often 73 = .ok (.isub, 1) := by decide +kernel
theorem dX4_often_74 : decode cX4_often 74 = .ok (.iload 4, 2) := by decide +kernel
theorem dX4_often_76 : decode cX4_often 76 = .ok (.isub, 1) := by decide +kernel
theorem dX4_often_77 : decode cX4_often 77 = .ok (.ireturn, 1) := by decide +kernel
set_option maxRecDepth 20000 in
theorem ggX4_pick_X4_isSpan : GoodIn wsX4_pick wsX4_isSpan := goodIn_r _ [12] (by decide +kernel) (by decide +kernel)
set_option maxRecDepth 20000 in
theorem gX4_pick_X4_isSpan : GoodIn wsX4_pick (va_wsS RX4 132 yX4_isSpan wsX4_isSpan) := goodIn_app (goodIn_of _ (by decide +kernel)) ggX4_pick_X4_isSpan
set_option maxRecDepth 20000 in
theorem ggX4_pick_X0_presentChange : GoodIn wsX4_pick wsX0_presentChange := goodIn_r _ [17, 18, 19, 100, 101, 102, 103] (by decide +kernel) (by decide +kernel)
set_option maxRecDepth 20000 in
theorem gX4_pick_X0_presentChange : GoodIn wsX4_pick (wsV RX4 135 RX0 yX0_presentChange wsX0_presentChange) := goodIn_app (goodIn_of _ (by decide +kernel)) ggX4_pick_X0_presentChange
set_option maxRecDepth 20000 in
theorem ggX4_pick_X1_begin : GoodIn wsX4_pick wsX1_begin := goodIn_r _ [24, 25, 26, 27, 28, 29, 23, 30, 31, 32, 33, 34, 111, 112, 113, 114, 115, 116, 117] (by decide +kernel) (by decide +kernel)
set_option maxRecDepth 20000 in
theorem gX4_pick_X1_begin : GoodIn wsX4_pick (wsV RX4 139 RX1 yX1_begin wsX1_begin) := goodIn_app (goodIn_of _ (by decide +kernel)) ggX4_pick_X1_begin
set_option maxRecDepth 20000 in
theorem ggX4_pick_X3_pickable : GoodIn wsX4_pick wsX3_pickable := goodIn_r _ [39, 40, 41, 42, 43, 104, 105, 106, 107, 108, 109, 110] (by decide +kernel) (by decide +kernel)
set_option maxRecDepth 20000 in
theorem gX4_pick_X3_pickable : GoodIn wsX4_pick (wsV RX4 143 RX3 yX3_pickable wsX3_pickable) := goodIn_app (goodIn_of _ (by decide +kernel)) ggX4_pick_X3_pickable
set_option maxRecDepth 20000 in
theorem ggX4_pick_X4_worthiest : GoodIn wsX4_pick wsX4_worthiest := goodIn_r _ [47, 4, 5, 48, 3, 6, 49, 50, 51, 1, 52, 53, 11, 54, 55, 56, 57, 38, 58, 40, 59, 60, 61, 62, 41, 63, 64, 65, 66, 67, 68, 69, 70, 71, 72, 73, 74, 75, 76, 77, 78, 16, 79, 18, 80, 81, 93, 94, 95, 96, 97, 98, 99, 104, 105, 106, 107, 108, 109, 110, 111, 112, 113, 114, 115, 116, 117, 100, 101, 102, 103] (by decide +kernel) (by decide +kernel)
set_option maxRecDepth 20000 in
theorem gX4_pick_X4_worthiest : GoodIn wsX4_pick (wsV RX4 153 RX4 yX4_worthiest wsX4_worthiest) := goodIn_app (goodIn_of _ (by decide +kernel)) ggX4_pick_X4_worthiest
set_option maxRecDepth 20000 in
theorem ggX4_pick_X4_takeChain : GoodIn wsX4_pick wsX4_takeChain := goodIn_r _ [85, 4, 48, 3, 6, 5, 86, 52, 53, 11, 54, 87, 60, 61, 38, 62, 41, 63, 88, 89, 90, 23, 91, 31, 92, 32, 33, 34, 93, 94, 95, 96, 97, 98, 99, 104, 105, 106, 107, 108, 109, 110, 111, 112, 113, 114, 115, 116, 117] (by decide +kernel) (by decide +kernel)
set_option maxRecDepth 20000 in
theorem gX4_pick_X4_takeChain : GoodIn wsX4_pick (wsV RX4 156 RX4 yX4_takeChain wsX4_takeChain) := goodIn_app (goodIn_of _ (by decide +kernel)) ggX4_pick_X4_takeChain
theorem dX4_pick_0 : decode cX4_pick 0 = .ok (.iload_n 1, 1) := by decide +kernel
theorem dX4_pick_1 : decode cX4_pick 1 = .ok (.invokestatic 132, 3) := by decide +kernel
theorem dX4_pick_4 : decode cX4_pick 4 = .ok (.ifCond .ne 5, 3) := by decide +kernel
theorem dX4_pick_7 : decode cX4_pick 7 = .ok (.iconst (-1), 1) := by decide +kernel
theorem dX4_pick_8 : decode cX4_pick 8 = .ok (.ireturn, 1) := by decide +kernel
theorem dX4_pick_9 : decode cX4_pick 9 = .ok (.aload_n 0, 1) := by decide +kernel
theorem dX4_pick_10 : decode cX4_pick 10 = .ok (.getfield 19, 3) := by decide +kernel
theorem dX4_pick_13 : decode cX4_pick 13 = .ok (.getfield 103, 3) := by decide +kernel
theorem dX4_pick_16 : decode cX4_pick 16 = .ok (.ifCond .ne 6, 3) := by decide +kernel
theorem dX4_pick_19 : decode cX4_pick 19 = .ok (.bipush (-4), 2) := by decide +kernel
theorem dX4_pick_21 : decode cX4_pick 21 = .ok (.ireturn, 1) := by decide +kernel
theorem dX4_pick_22 : decode cX4_pick 22 = .ok (.aload_n 0, 1) := by decide +kernel
theorem dX4_pick_23 : decode cX4_pick 23 = .ok (.getfield 26, 3) := by decide +kernel
theorem dX4_pick_26 : decode cX4_pick 26 = .ok (.aload_n 0, 1) := by decide +kernel
theorem dX4_pick_27 : decode cX4_pick 27 = .ok (.getfield 19, 3) := by decide +kernel
theorem dX4_pick_30 : decode cX4_pick 30 = .ok (.invokevirtual 135, 3) := by decide +kernel
theorem dX4_pick_33 : decode cX4_pick 33 = .ok (.invokevirtual 139, 3) := by decide +kernel
theorem dX4_pick_36 : decode cX4_pick 36 = .ok (.aload_n 0, 1) := by decide +kernel
theorem dX4_pick_37 : decode cX4_pick 37 = .ok (.getfield 10, 3) := by decide +kernel
theorem dX4_pick_40 : decode cX4_pick 40 = .ok (.invokevirtual 143, 3) := by decide +kernel
theorem dX4_pick_43 : decode cX4_pick 43 = .ok (.istore_n 2, 1) := by decide +kernel
theorem dX4_pick_44 : decode cX4_pick 44 = .ok (.iconst 0, 1) := by decide +kernel
theorem dX4_pick_45 : decode cX4_pick 45 = .ok (.istore_n 3, 1) := by decide +kernel
theorem dX4_pick_46 : decode cX4_pick 46 = .ok (.iload_n 3, 1) := by decide +kernel
theorem dX4_pick_47 : decode cX4_pick 47 = .ok (.aload_n 0, 1) := by decide +kernel
theorem dX4_pick_48 : decode cX4_pick 48 = .ok (.getfield 10, 3) := by decide +kernel
theorem dX4_pick_51 : decode cX4_pick 51 = .ok (.getfield 56, 3) := by decide +kernel
theorem dX4_pick_54 : decode cX4_pick 54 = .ok (.if_icmp .ge 51, 3) := by decide +kernel
theorem dX4_pick_57 : decode cX4_pick 57 = .ok (.aload_n 0, 1) := by decide +kernel
theorem dX4_pick_58 : decode cX4_pick 58 = .ok (.iload_n 2, 1) := by decide +kernel
theorem dX4_pick_59 : decode cX4_pick 59 = .ok (.aload_n 0, 1) := by decide +kernel
theorem dX4_pick_60 : decode cX4_pick 60 = .ok (.getfield 26, 3) := by decide +kernel
theorem dX4_pick_63 : decode cX4_pick 63 = .ok (.getfield 147, 3) := by decide +kernel
theorem dX4_pick_66 : decode cX4_pick 66 = .ok (.iconst (-1), 1) := by decide +kernel
theorem dX4_pick_67 : decode cX4_pick 67 = .ok (.ixor, 1) := by decide +kernel
theorem dX4_pick_68 : decode cX4_pick 68 = .ok (.iand, 1) := by decide +kernel
theorem dX4_pick_69 : decode cX4_pick 69 = .ok (.iload_n 1, 1) := by decide +kernel
theorem dX4_pick_70 : decode cX4_pick 70 = .ok (.aload_n 0, 1) := by decide +kernel
theorem dX4_pick_71 : decode cX4_pick 71 = .ok (.getfield 26, 3) := by decide +kernel
theorem dX4_pick_74 : decode cX4_pick 74 = .ok (.getfield 150, 3) := by decide +kernel
theorem dX4_pick_77 : decode cX4_pick 77 = .ok (.isub, 1) := by decide +kernel
theorem dX4_pick_78 : decode cX4_pick 78 = .ok (.invokevirtual 153, 3) := by decide +kernel
theorem dX4_pick_81 : decode cX4_pick 81 = .ok (.istore 4, 2) := by decide +kernel
theorem dX4_pick_83 : decode cX4_pick 83 = .ok (.iload 4, 2) := by decide +kernel
theorem dX4_pick_85 : decode cX4_pick 85 = .ok (.bipush (-9), 2) := by decide +kernel
theorem dX4_pick_87 : decode cX4_pick 87 = .ok (.if_icmp .ne 6, 3) := by decide +kernel
theorem dX4_pick_90 : decode cX4_pick 90 = .ok (.goto 15, 3) := by decide +kernel
theorem dX4_pick_93 : decode cX4_pick 93 = .ok (.aload_n 0, 1) := by decide +kernel
theorem dX4_pick_94 : decode cX4_pick 94 = .ok (.iload 4, 2) := by decide +kernel
theorem dX4_pick_96 : decode cX4_pick 96 = .ok (.invokevirtual 156, 3) := by decide +kernel
theorem dX4_pick_99 : decode cX4_pick 99 = .ok (.iinc 3 1, 3) := by decide +kernel
theorem dX4_pick_102 : decode cX4_pick 102 = .ok (.goto (-56), 3) := by decide +kernel
theorem dX4_pick_105 : decode cX4_pick 105 = .ok (.aload_n 0, 1) := by decide +kernel
theorem dX4_pick_106 : decode cX4_pick 106 = .ok (.getfield 26, 3) := by decide +kernel
theorem dX4_pick_109 : decode cX4_pick 109 = .ok (.getfield 160, 3) := by decide +kernel
theorem dX4_pick_112 : decode cX4_pick 112 = .ok (.ireturn, 1) := by decide +kernel
theorem dX4_picked_0 : decode cX4_picked 0 = .ok (.aload_n 0, 1) := by decide +kernel
theorem dX4_picked_1 : decode cX4_picked 1 = .ok (.getfield 26, 3) := by decide +kernel
theorem dX4_picked_4 : decode cX4_picked 4 = .ok (.getfield 161, 3) := by decide +kernel
theorem dX4_picked_7 : decode cX4_picked 7 = .ok (.ifCond .eq 18, 3) := by decide +kernel
theorem dX4_picked_10 : decode cX4_picked 10 = .ok (.iload_n 1, 1) := by decide +kernel
theorem dX4_picked_11 : decode cX4_picked 11 = .ok (.ifCond .lt 14, 3) := by decide +kernel
theorem dX4_picked_14 : decode cX4_picked 14 = .ok (.iload_n 1, 1) := by decide +kernel
theorem dX4_picked_15 : decode cX4_picked 15 = .ok (.aload_n 0, 1) := by decide +kernel
theorem dX4_picked_16 : decode cX4_picked 16 = .ok (.getfield 26, 3) := by decide +kernel
theorem dX4_picked_19 : decode cX4_picked 19 = .ok (.getfield 160, 3) := by decide +kernel
theorem dX4_picked_22 : decode cX4_picked 22 = .ok (.if_icmp .lt 6, 3) := by decide +kernel
theorem dX4_picked_25 : decode cX4_picked 25 = .ok (.bipush (-9), 2) := by decide +kernel
theorem dX4_picked_27 : decode cX4_picked 27 = .ok (.ireturn, 1) := by decide +kernel
theorem dX4_picked_28 : decode cX4_picked 28 = .ok (.aload_n 0, 1) := by decide +kernel
theorem dX4_picked_29 : decode cX4_picked 29 = .ok (.getfield 26, 3) := by decide +kernel
theorem dX4_picked_32 : decode cX4_picked 32 = .ok (.getfield 165, 3) := by decide +kernel
theorem dX4_picked_35 : decode cX4_picked 35 = .ok (.iload_n 1, 1) := by decide +kernel
theorem dX4_picked_36 : decode cX4_picked 36 = .ok (.iaload, 1) := by decide +kernel
theorem dX4_picked_37 : decode cX4_picked 37 = .ok (.ireturn, 1) := by decide +kernel
set_option maxRecDepth 20000 in
theorem ggX4_about_X1_partsSeen : GoodIn wsX4_about wsX1_partsSeen := goodIn_r _ [9, 10, 11, 12, 13, 14, 15, 16, 17, 18, 26, 27, 28, 29, 30, 31, 32] (by decide +kernel) (by decide +kernel)
set_option maxRecDepth 20000 in
theorem gX4_about_X1_partsSeen : GoodIn wsX4_about (wsV RX4 168 RX1 yX1_partsSeen wsX1_partsSeen) := goodIn_app (goodIn_of _ (by decide +kernel)) ggX4_about_X1_partsSeen
theorem dX4_about_0 : decode cX4_about 0 = .ok (.iload_n 1, 1) := by decide +kernel
theorem dX4_about_1 : decode cX4_about 1 = .ok (.ifCond .lt 8, 3) := by decide +kernel
theorem dX4_about_4 : decode cX4_about 4 = .ok (.iload_n 1, 1) := by decide +kernel
theorem dX4_about_5 : decode cX4_about 5 = .ok (.iconst 2, 1) := by decide +kernel
theorem dX4_about_6 : decode cX4_about 6 = .ok (.if_icmp .le 5, 3) := by decide +kernel
theorem dX4_about_9 : decode cX4_about 9 = .ok (.iconst (-1), 1) := by decide +kernel
theorem dX4_about_10 : decode cX4_about 10 = .ok (.ireturn, 1) := by decide +kernel
theorem dX4_about_11 : decode cX4_about 11 = .ok (.aload_n 0, 1) := by decide +kernel
theorem dX4_about_12 : decode cX4_about 12 = .ok (.getfield 26, 3) := by decide +kernel
theorem dX4_about_15 : decode cX4_about 15 = .ok (.getfield 161, 3) := by decide +kernel
theorem dX4_about_18 : decode cX4_about 18 = .ok (.ifCond .ne 6, 3) := by decide +kernel
theorem dX4_about_21 : decode cX4_about 21 = .ok (.bipush (-9), 2) := by decide +kernel
theorem dX4_about_23 : decode cX4_about 23 = .ok (.ireturn, 1) := by decide +kernel
theorem dX4_about_24 : decode cX4_about 24 = .ok (.iload_n 1, 1) := by decide +kernel
theorem dX4_about_25 : decode cX4_about 25 = .ok (.ifCond .ne 11, 3) := by decide +kernel
theorem dX4_about_28 : decode cX4_about 28 = .ok (.aload_n 0, 1) := by decide +kernel
theorem dX4_about_29 : decode cX4_about 29 = .ok (.getfield 26, 3) := by decide +kernel
theorem dX4_about_32 : decode cX4_about 32 = .ok (.getfield 150, 3) := by decide +kernel
theorem dX4_about_35 : decode cX4_about 35 = .ok (.ireturn, 1) := by decide +kernel
theorem dX4_about_36 : decode cX4_about 36 = .ok (.iload_n 1, 1) := by decide +kernel
theorem dX4_about_37 : decode cX4_about 37 = .ok (.iconst 1, 1) := by decide +kernel
theorem dX4_about_38 : decode cX4_about 38 = .ok (.if_icmp .ne 13, 3) := by decide +kernel
theorem dX4_about_41 : decode cX4_about 41 = .ok (.aload_n 0, 1) := by decide +kernel
theorem dX4_about_42 : decode cX4_about 42 = .ok (.getfield 26, 3) := by decide +kernel
theorem dX4_about_45 : decode cX4_about 45 = .ok (.invokevirtual 168, 3) := by decide +kernel
theorem dX4_about_48 : decode cX4_about 48 = .ok (.goto 10, 3) := by decide +kernel
theorem dX4_about_51 : decode cX4_about 51 = .ok (.aload_n 0, 1) := by decide +kernel
theorem dX4_about_52 : decode cX4_about 52 = .ok (.getfield 26, 3) := by decide +kernel
theorem dX4_about_55 : decode cX4_about 55 = .ok (.getfield 147, 3) := by decide +kernel
theorem dX4_about_58 : decode cX4_about 58 = .ok (.ireturn, 1) := by decide +kernel
set_option maxRecDepth 20000 in
theorem ggX4_best_X4_isSpan : GoodIn wsX4_best wsX4_isSpan := goodIn_r _ [14] (by decide +kernel) (by decide +kernel)
set_option maxRecDepth 20000 in
theorem gX4_best_X4_isSpan : GoodIn wsX4_best (va_wsS RX4 132 yX4_isSpan wsX4_isSpan) := goodIn_app (goodIn_of _ (by decide +kernel)) ggX4_best_X4_isSpan
set_option maxRecDepth 20000 in
theorem ggX4_best_X3_pickable : GoodIn wsX4_best wsX3_pickable := goodIn_r _ [19, 20, 21, 22, 23, 110, 111, 112, 113, 114, 115, 116] (by decide +kernel) (by decide +kernel)
set_option maxRecDepth 20000 in
theorem gX4_best_X3_pickable : GoodIn wsX4_best (wsV RX4 143 RX3 yX3_pickable wsX3_pickable) := goodIn_app (goodIn_of _ (by decide +kernel)) ggX4_best_X3_pickable
set_option maxRecDepth 20000 in
theorem ggX4_best_J6_bitCount_0f7a4 : GoodIn wsX4_best wsJ6_bitCount_0f7a4 := goodIn_r _ [27, 28, 29, 30] (by decide +kernel) (by decide +kernel)
set_option maxRecDepth 20000 in
theorem gX4_best_J6_bitCount_0f7a4 : GoodIn wsX4_best (va_wsS RX4 171 yJ6_bitCount_0f7a4 wsJ6_bitCount_0f7a4) := goodIn_app (goodIn_of _ (by decide +kernel)) ggX4_best_J6_bitCount_0f7a4
set_option maxRecDepth 20000 in
theorem ggX4_best_X0_presentChange : GoodIn wsX4_best wsX0_presentChange := goodIn_r _ [35, 36, 37, 106, 107, 108, 109] (by decide +kernel) (by decide +kernel)
set_option maxRecDepth 20000 in
theorem gX4_best_X0_presentChange : GoodIn wsX4_best (wsV RX4 135 RX0 yX0_presentChange wsX0_presentChange) := goodIn_app (goodIn_of _ (by decide +kernel)) ggX4_best_X0_presentChange
set_option maxRecDepth 20000 in
theorem ggX4_best_X2_begin : GoodIn wsX4_best wsX2_begin := goodIn_r _ [42, 43, 44, 45, 46, 117, 118, 119, 120, 121, 122, 123, 124, 125, 126, 127, 128] (by decide +kernel) (by decide +kernel)
set_option maxRecDepth 20000 in
theorem gX4_best_X2_begin : GoodIn wsX4_best (wsV RX4 175 RX2 yX2_begin wsX2_begin) := goodIn_app (goodIn_of _ (by decide +kernel)) ggX4_best_X2_begin
set_option maxRecDepth 20000 in
theorem ggX4_best_X4_isIn : GoodIn wsX4_best wsX4_isIn := goodIn_r _ [49] (by decide +kernel) (by decide +kernel)
set_option maxRecDepth 20000 in
theorem gX4_best_X4_isIn : GoodIn wsX4_best (va_wsS RX4 177 yX4_isIn wsX4_isIn) := goodIn_app (goodIn_of _ (by decide +kernel)) ggX4_best_X4_isIn
set_option maxRecDepth 20000 in
theorem ggX4_best_X3_countedTime : GoodIn wsX4_best wsX3_countedTime := goodIn_r _ [53, 21, 54, 110, 111, 112, 113, 114, 115, 116] (by decide +kernel) (by decide +kernel)
set_option maxRecDepth 20000 in
theorem gX4_best_X3_countedTime : GoodIn wsX4_best (wsV RX4 183 RX3 yX3_countedTime wsX3_countedTime) := goodIn_app (goodIn_of _ (by decide +kernel)) ggX4_best_X3_countedTime
set_option maxRecDepth 20000 in
theorem ggX4_best_X2_add : GoodIn wsX4_best wsX2_add := goodIn_r _ [58, 43, 59, 60, 61, 62, 117, 118, 119, 120, 121, 122, 123, 124, 125, 126, 127, 128] (by decide +kernel) (by decide +kernel)
set_option maxRecDepth 20000 in
theorem gX4_best_X2_add : GoodIn wsX4_best (wsV RX4 186 RX2 yX2_add wsX2_add) := goodIn_app (goodIn_of _ (by decide +kernel)) ggX4_best_X2_add
set_option maxRecDepth 20000 in
theorem ggX4_best_X2_seekWidest : GoodIn wsX4_best wsX2_seekWidest := goodIn_r _ [66, 43, 67, 68, 69, 70, 71, 72, 41, 73, 74, 75, 76, 77, 59, 60, 61, 78, 62, 79, 80, 26, 81, 82, 83, 84, 85, 86, 46, 45, 87, 88, 89, 90, 91, 92, 93, 94, 95, 96, 97, 44, 117, 118, 119, 120, 121, 122, 123, 124, 125, 126, 127, 128] (by decide +kernel) (by decide +kernel)
set_option maxRecDepth 20000 in
theorem gX4_best_X2_seekWidest : GoodIn wsX4_best (wsV RX4 189 RX2 yX2_seekWidest wsX2_seekWidest) := goodIn_app (goodIn_of _ (by decide +kernel)) ggX4_best_X2_seekWidest
set_option maxRecDepth 20000 in
theorem ggX4_best_J13_bitCount_95d88 : GoodIn wsX4_best wsJ13_bitCount_95d88 := goodIn_r _ [90, 91, 92, 93] (by decide +kernel) (by decide +kernel)
set_option maxRecDepth 20000 in
theorem gX4_best_J13_bitCount_95d88 : GoodIn wsX4_best (va_wsS RX4 124 yJ13_bitCount_95d88 wsJ13_bitCount_95d88) := goodIn_app (goodIn_of _ (by decide +kernel)) ggX4_best_J13_bitCount_95d88
theorem dX4_best_0 : decode cX4_best 0 = .ok (.iload_n 1, 1) := by decide +kernel
theorem dX4_best_1 : decode cX4_best 1 = .ok (.invokestatic 132, 3) := by decide +kernel
theorem dX4_best_4 : decode cX4_best 4 = .ok (.ifCond .ne 5, 3) := by decide +kernel
theorem dX4_best_7 : decode cX4_best 7 = .ok (.iconst (-1), 1) := by decide +kernel
theorem dX4_best_8 : decode cX4_best 8 = .ok (.ireturn, 1) := by decide +kernel
theorem dX4_best_9 : decode cX4_best 9 = .ok (.aload_n 0, 1) := by decide +kernel
theorem dX4_best_10 : decode cX4_best 10 = .ok (.getfield 19, 3) := by decide +kernel
theorem dX4_best_13 : decode cX4_best 13 = .ok (.getfield 103, 3) := by decide +kernel
theorem dX4_best_16 : decode cX4_best 16 = .ok (.ifCond .ne 6, 3) := by decide +kernel
theorem dX4_best_19 : decode cX4_best 19 = .ok (.bipush (-4), 2) := by decide +kernel
theorem dX4_best_21 : decode cX4_best 21 = .ok (.ireturn, 1) := by decide +kernel
theorem dX4_best_22 : decode cX4_best 22 = .ok (.aload_n 0, 1) := by decide +kernel
theorem dX4_best_23 : decode cX4_best 23 = .ok (.getfield 10, 3) := by decide +kernel
theorem dX4_best_26 : decode cX4_best 26 = .ok (.invokevirtual 143, 3) := by decide +kernel
theorem dX4_best_29 : decode cX4_best 29 = .ok (.istore_n 2, 1) := by decide +kernel
theorem dX4_best_30 : decode cX4_best 30 = .ok (.iload_n 2, 1) := by decide +kernel
theorem dX4_best_31 : decode cX4_best 31 = .ok (.invokestatic 171, 3) := by decide +kernel
theorem dX4_best_34 : decode cX4_best 34 = .ok (.bipush 12, 2) := by decide +kernel
theorem dX4_best_36 : decode cX4_best 36 = .ok (.if_icmp .le 6, 3) := by decide +kernel
theorem dX4_best_39 : decode cX4_best 39 = .ok (.bipush (-6), 2) := by decide +kernel
theorem dX4_best_41 : decode cX4_best 41 = .ok (.ireturn, 1) := by decide +kernel
theorem dX4_best_42 : decode cX4_best 42 = .ok (.aload_n 0, 1) := by decide +kernel
theorem dX4_best_43 : decode cX4_best 43 = .ok (.getfield 19, 3) := by decide +kernel
theorem dX4_best_46 : decode cX4_best 46 = .ok (.invokevirtual 135, 3) := by decide +kernel
theorem dX4_best_49 : decode cX4_best 49 = .ok (.lstore_n 3, 1) := by decide +kernel
theorem dX4_best_50 : decode cX4_best 50 = .ok (.aload_n 0, 1) := by decide +kernel
theorem dX4_best_51 : decode cX4_best 51 = .ok (.getfield 33, 3) := by decide +kernel
theorem dX4_best_54 : decode cX4_best 54 = .ok (.invokevirtual 175, 3) := by decide +kernel
theorem dX4_best_57 : decode cX4_best 57 = .ok (.iconst 0, 1) := by decide +kernel
theorem dX4_best_58 : decode cX4_best 58 = .ok (.istore 5, 2) := by decide +kernel
theorem dX4_best_60 : decode cX4_best 60 = .ok (.iload 5, 2) := by decide +kernel
theorem dX4_best_62 : decode cX4_best 62 = .ok (.aload_n 0, 1) := by decide +kernel
theorem dX4_best_63 : decode cX4_best 63 = .ok (.getfield 10, 3) := by decide +kernel
theorem dX4_best_66 : decode cX4_best 66 = .ok (.getfield 56, 3) := by decide +kernel
theorem dX4_best_69 : decode cX4_best 69 = .ok (.if_icmp .ge 60, 3) := by decide +kernel
theorem dX4_best_72 : decode cX4_best 72 = .ok (.iload 5, 2) := by decide +kernel
theorem dX4_best_74 : decode cX4_best 74 = .ok (.iload_n 2, 1) := by decide +kernel
theorem dX4_best_75 : decode cX4_best 75 = .ok (.invokestatic 177, 3) := by decide +kernel
theorem dX4_best_78 : decode cX4_best 78 = .ok (.ifCond .eq 45, 3) := by decide +kernel
theorem dX4_best_81 : decode cX4_best 81 = .ok (.aload_n 0, 1) := by decide +kernel
theorem dX4_best_82 : decode cX4_best 82 = .ok (.getfield 33, 3) := by decide +kernel
theorem dX4_best_85 : decode cX4_best 85 = .ok (.iconst 1, 1) := by decide +kernel
theorem dX4_best_86 : decode cX4_best 86 = .ok (.iload 5, 2) := by decide +kernel
theorem dX4_best_88 : decode cX4_best 88 = .ok (.ishl, 1) := by decide +kernel
theorem dX4_best_89 : decode cX4_best 89 = .ok (.aload_n 0, 1) := by decide +kernel
theorem dX4_best_90 : decode cX4_best 90 = .ok (.getfield 10, 3) := by decide +kernel
theorem dX4_best_93 : decode cX4_best 93 = .ok (.getfield 180, 3) := by decide +kernel
theorem dX4_best_96 : decode cX4_best 96 = .ok (.iload 5, 2) := by decide +kernel
theorem dX4_best_98 : decode cX4_best 98 = .ok (.iaload, 1) := by decide +kernel
theorem dX4_best_99 : decode cX4_best 99 = .ok (.aload_n 0, 1) := by decide +kernel
theorem dX4_best_100 : decode cX4_best 100 = .ok (.getfield 10, 3) := by decide +kernel
theorem dX4_best_103 : decode cX4_best 103 = .ok (.iload 5, 2) := by decide +kernel
theorem dX4_best_105 : decode cX4_best 105 = .ok (.invokevirtual 183, 3) := by decide +kernel
theorem dX4_best_108 : decode cX4_best 108 = .ok (.aload_n 0, 1) := by decide +kernel
theorem dX4_best_109 : decode cX4_best 109 = .ok (.getfield 10, 3) := by decide +kernel
theorem dX4_best_112 : decode cX4_best 112 = .ok (.getfield 85, 3) := by decide +kernel
theorem dX4_best_115 : decode cX4_best 115 = .ok (.iload 5, 2) := by decide +kernel
theorem dX4_best_117 : decode cX4_best 117 = .ok (.laload, 1) := by decide +kernel
theorem dX4_best_118 : decode cX4_best 118 = .ok (.lload_n 3, 1) := by decide +kernel
theorem dX4_best_119 : decode cX4_best 119 = .ok (.land, 1) := by decide +kernel
theorem dX4_best_120 : decode cX4_best 120 = .ok (.invokevirtual 186, 3) := by decide +kernel
theorem dX4_best_123 : decode cX4_best 123 = .ok (.iinc 5 1, 3) := by decide +kernel
theorem dX4_best_126 : decode cX4_best 126 = .ok (.goto (-66), 3) := by decide +kernel
theorem dX4_best_129 : decode cX4_best 129 = .ok (.aload_n 0, 1) := by decide +kernel
theorem dX4_best_130 : decode cX4_best 130 = .ok (.getfield 33, 3) := by decide +kernel
theorem dX4_best_133 : decode cX4_best 133 = .ok (.iload_n 1, 1) := by decide +kernel
theorem dX4_best_134 : decode cX4_best 134 = .ok (.invokevirtual 189, 3) := by decide +kernel
theorem dX4_best_137 : decode cX4_best 137 = .ok (.aload_n 0, 1) := by decide +kernel
theorem dX4_best_138 : decode cX4_best 138 = .ok (.aload_n 0, 1) := by decide +kernel
theorem dX4_best_139 : decode cX4_best 139 = .ok (.getfield 33, 3) := by decide +kernel
theorem dX4_best_142 : decode cX4_best 142 = .ok (.getfield 192, 3) := by decide +kernel
theorem dX4_best_145 : decode cX4_best 145 = .ok (.i2l, 1) := by decide +kernel
theorem dX4_best_146 : decode cX4_best 146 = .ok (.putfield 45, 3) := by decide +kernel
theorem dX4_best_149 : decode cX4_best 149 = .ok (.aload_n 0, 1) := by decide +kernel
theorem dX4_best_150 : decode cX4_best 150 = .ok (.getfield 33, 3) := by decide +kernel
theorem dX4_best_153 : decode cX4_best 153 = .ok (.getfield 195, 3) := by decide +kernel
theorem dX4_best_156 : decode cX4_best 156 = .ok (.invokestatic 124, 3) := by decide +kernel
theorem dX4_best_159 : decode cX4_best 159 = .ok (.ireturn, 1) := by decide +kernel
set_option maxRecDepth 20000 in
theorem ggX4_run_X3_hasAll : GoodIn wsX4_run wsX3_hasAll := goodIn_r _ [12, 13, 41, 42, 43, 44, 45, 46, 47] (by decide +kernel) (by decide +kernel)
set_option maxRecDepth 20000 in
theorem gX4_run_X3_hasAll : GoodIn wsX4_run (wsV RX4 198 RX3 yX3_hasAll wsX3_hasAll) := goodIn_app (goodIn_of _ (by decide +kernel)) ggX4_run_X3_hasAll
set_option maxRecDepth 20000 in
theorem ggX4_run_X4_isIn : GoodIn wsX4_run wsX4_isIn := goodIn_r _ [17] (by decide +kernel) (by decide +kernel)
set_option maxRecDepth 20000 in
theorem gX4_run_X4_isIn : GoodIn wsX4_run (va_wsS RX4 177 yX4_isIn wsX4_isIn) := goodIn_app (goodIn_of _ (by decide +kernel)) ggX4_run_X4_isIn
set_option maxRecDepth 20000 in
theorem ggX4_run_X0_judge : GoodIn wsX4_run wsX0_judge := goodIn_r _ [22, 23, 24, 25, 26, 48, 49, 50, 51] (by decide +kernel) (by decide +kernel)
set_option maxRecDepth 20000 in
theorem gX4_run_X0_judge : GoodIn wsX4_run (wsV RX4 113 RX0 yX0_judge wsX0_judge) := goodIn_app (goodIn_of _ (by decide +kernel)) ggX4_run_X0_judge
theorem dX4_run_0 : decode cX4_run 0 = .ok (.aload_n 0, 1) := by decide +kernel
theorem dX4_run_1 : decode cX4_run 1 = .ok (.getfield 10, 3) := by decide +kernel
theorem dX4_run_4 : decode cX4_run 4 = .ok (.iload_n 1, 1) := by decide +kernel
theorem dX4_run_5 : decode cX4_run 5 = .ok (.invokevirtual 198, 3) := by decide +kernel
theorem dX4_run_8 : decode cX4_run 8 = .ok (.ifCond .ne 5, 3) := by decide +kernel
theorem dX4_run_11 : decode cX4_run 11 = .ok (.iconst (-1), 1) := by decide +kernel
theorem dX4_run_12 : decode cX4_run 12 = .ok (.ireturn, 1) := by decide +kernel
theorem dX4_run_13 : decode cX4_run 13 = .ok (.aload_n 0, 1) := by decide +kernel
theorem dX4_run_14 : decode cX4_run 14 = .ok (.getfield 26, 3) := by decide +kernel
theorem dX4_run_17 : decode cX4_run 17 = .ok (.getfield 161, 3) := by decide +kernel
theorem dX4_run_20 : decode cX4_run 20 = .ok (.ifCond .ne 6, 3) := by decide +kernel
theorem dX4_run_23 : decode cX4_run 23 = .ok (.bipush (-4), 2) := by decide +kernel
theorem dX4_run_25 : decode cX4_run 25 = .ok (.ireturn, 1) := by decide +kernel
theorem dX4_run_26 : decode cX4_run 26 = .ok (.iconst 0, 1) := by decide +kernel
theorem dX4_run_27 : decode cX4_run 27 = .ok (.istore_n 2, 1) := by decide +kernel
theorem dX4_run_28 : decode cX4_run 28 = .ok (.iconst 0, 1) := by decide +kernel
theorem dX4_run_29 : decode cX4_run 29 = .ok (.istore_n 3, 1) := by decide +kernel
theorem dX4_run_30 : decode cX4_run 30 = .ok (.iconst 0, 1) := by decide +kernel
theorem dX4_run_31 : decode cX4_run 31 = .ok (.istore 4, 2) := by decide +kernel
theorem dX4_run_33 : decode cX4_run 33 = .ok (.iload 4, 2) := by decide +kernel
theorem dX4_run_35 : decode cX4_run 35 = .ok (.aload_n 0, 1) := by decide +kernel
theorem dX4_run_36 : decode cX4_run 36 = .ok (.getfield 26, 3) := by decide +kernel
theorem dX4_run_39 : decode cX4_run 39 = .ok (.getfield 160, 3) := by decide +kernel
theorem dX4_run_42 : decode cX4_run 42 = .ok (.if_icmp .ge 74, 3) := by decide +kernel
theorem dX4_run_45 : decode cX4_run 45 = .ok (.aload_n 0, 1) := by decide +kernel
theorem dX4_run_46 : decode cX4_run 46 = .ok (.getfield 26, 3) := by decide +kernel
theorem dX4_run_49 : decode cX4_run 49 = .ok (.getfield 165, 3) := by decide +kernel
theorem dX4_run_52 : decode cX4_run 52 = .ok (.iload 4, 2) := by decide +kernel
theorem dX4_run_54 : decode cX4_run 54 = .ok (.iaload, 1) := by decide +kernel
theorem dX4_run_55 : decode cX4_run 55 = .ok (.istore 5, 2) := by decide +kernel
theorem dX4_run_57 : decode cX4_run 57 = .ok (.aload_n 0, 1) := by decide +kernel
theorem dX4_run_58 : decode cX4_run 58 = .ok (.getfield 10, 3) := by decide +kernel
theorem dX4_run_61 : decode cX4_run 61 = .ok (.getfield 180, 3) := by decide +kernel
theorem dX4_run_64 : decode cX4_run 64 = .ok (.iload 5, 2) := by decide +kernel
theorem dX4_run_66 : decode cX4_run 66 = .ok (.iaload, 1) := by decide +kernel
theorem dX4_run_67 : decode cX4_run 67 = .ok (.iload_n 2, 1) := by decide +kernel
theorem dX4_run_68 : decode cX4_run 68 = .ok (.iand, 1) := by decide +kernel
theorem dX4_run_69 : decode cX4_run 69 = .ok (.ifCond .ne 41, 3) := by decide +kernel
theorem dX4_run_72 : decode cX4_run 72 = .ok (.iload 5, 2) := by decide +kernel
theorem dX4_run_74 : decode cX4_run 74 = .ok (.iload_n 1, 1) := by decide +kernel
theorem dX4_run_75 : decode cX4_run 75 = .ok (.invokestatic 177, 3) := by decide +kernel
theorem dX4_run_78 : decode cX4_run 78 = .ok (.istore 6, 2) := by decide +kernel
theorem dX4_run_80 : decode cX4_run 80 = .ok (.aload_n 0, 1) := by decide +kernel
theorem dX4_run_81 : decode cX4_run 81 = .ok (.getfield 19, 3) := by decide +kernel
theorem dX4_run_84 : decode cX4_run 84 = .ok (.iload 5, 2) := by decide +kernel
theorem dX4_run_86 : decode cX4_run 86 = .ok (.iload 6, 2) := by decide +kernel
theorem dX4_run_88 : decode cX4_run 88 = .ok (.invokevirtual 113, 3) := by decide +kernel
theorem dX4_run_91 : decode cX4_run 91 = .ok (.iinc 3 1, 3) := by decide +kernel
theorem dX4_run_94 : decode cX4_run 94 = .ok (.iload_n 2, 1) := by decide +kernel
theorem dX4_run_95 : decode cX4_run 95 = .ok (.iload 6, 2) := by decide +kernel
theorem dX4_run_97 : decode cX4_run 97 = .ok (.ifCond .eq 10, 3) := by decide +kernel
theorem dX4_run_100 : decode cX4_run 100 = .ok (.iconst 1, 1) := by decide +kernel
theorem dX4_run_101 : decode cX4_run 101 = .ok (.iload 5, 2) := by decide +kernel
theorem dX4_run_103 : decode cX4_run 103 = .ok (.ishl, 1) := by decide +kernel
theorem dX4_run_104 : decode cX4_run 104 = .ok (.goto 4, 3) := by decide +kernel
theorem dX4_run_107 : decode cX4_run 107 = .ok (.iconst 0, 1) := by decide +kernel
theorem dX4_run_108 : decode cX4_run 108 = .ok (.ior, 1) := by decide +kernel
theorem dX4_run_109 : decode cX4_run 109 = .ok (.istore_n 2, 1) := by decide +kernel
theorem dX4_run_110 : decode cX4_run 110 = .ok (.iinc 4 1, 3) := by decide +kernel
theorem dX4_run_113 : decode cX4_run 113 = .ok (.goto (-80), 3) := by decide +kernel
theorem dX4_run_116 : decode cX4_run 116 = .ok (.iload_n 3, 1) := by decide +kernel
theorem dX4_run_117 : decode cX4_run 117 = .ok (.ireturn, 1) := by decide +kernel
set_option maxRecDepth 20000 in
theorem ggX4_suspects_X0_verdictIn : GoodIn wsX4_suspects wsX0_verdictIn := goodIn_r _ [12, 13, 14, 45, 46, 47, 48] (by decide +kernel) (by decide +kernel)
set_option maxRecDepth 20000 in
theorem gX4_suspects_X0_verdictIn : GoodIn wsX4_suspects (wsV RX4 110 RX0 yX0_verdictIn wsX0_verdictIn) := goodIn_app (goodIn_of _ (by decide +kernel)) ggX4_suspects_X0_verdictIn
set_option maxRecDepth 20000 in
theorem ggX4_suspects_X4_isFlaky : GoodIn wsX4_suspects wsX4_isFlaky := goodIn_r _ [19, 1, 3, 5, 20, 21, 22, 11, 23, 24, 25, 26, 9, 10, 12, 13, 14, 38, 39, 40, 41, 42, 43, 44, 49, 50, 51, 52, 53, 54, 55, 45, 46, 47, 48] (by decide +kernel) (by decide +kernel)
set_option maxRecDepth 20000 in
theorem gX4_suspects_X4_isFlaky : GoodIn wsX4_suspects (wsV RX4 201 RX4 yX4_isFlaky wsX4_isFlaky) := goodIn_app (goodIn_of _ (by decide +kernel)) ggX4_suspects_X4_isFlaky
set_option maxRecDepth 20000 in
theorem ggX4_suspects_X0_presentChange : GoodIn wsX4_suspects wsX0_presentChange := goodIn_r _ [30, 24, 25, 45, 46, 47, 48] (by decide +kernel) (by decide +kernel)
set_option maxRecDepth 20000 in
theorem gX4_suspects_X0_presentChange : GoodIn wsX4_suspects (wsV RX4 135 RX0 yX0_presentChange wsX0_presentChange) := goodIn_app (goodIn_of _ (by decide +kernel)) ggX4_suspects_X0_presentChange
set_option maxRecDepth 20000 in
theorem ggX4_suspects_J13_bitCount_95d88 : GoodIn wsX4_suspects wsJ13_bitCount_95d88 := goodIn_r _ [34, 35, 36, 37] (by decide +kernel) (by decide +kernel)
set_option maxRecDepth 20000 in
theorem gX4_suspects_J13_bitCount_95d88 : GoodIn wsX4_suspects (va_wsS RX4 124 yJ13_bitCount_95d88 wsJ13_bitCount_95d88) := goodIn_app (goodIn_of _ (by decide +kernel)) ggX4_suspects_J13_bitCount_95d88
theorem dX4_suspects_0 : decode cX4_suspects 0 = .ok (.aload_n 0, 1) := by decide +kernel
theorem dX4_suspects_1 : decode cX4_suspects 1 = .ok (.getfield 19, 3) := by decide +kernel
theorem dX4_suspects_4 : decode cX4_suspects 4 = .ok (.getfield 103, 3) := by decide +kernel
theorem dX4_suspects_7 : decode cX4_suspects 7 = .ok (.ifCond .ne 6, 3) := by decide +kernel
theorem dX4_suspects_10 : decode cX4_suspects 10 = .ok (.bipush (-4), 2) := by decide +kernel
theorem dX4_suspects_12 : decode cX4_suspects 12 = .ok (.ireturn, 1) := by decide +kernel
theorem dX4_suspects_13 : decode cX4_suspects 13 = .ok (.aload_n 0, 1) := by decide +kernel
theorem dX4_suspects_14 : decode cX4_suspects 14 = .ok (.getfield 19, 3) := by decide +kernel
theorem dX4_suspects_17 : decode cX4_suspects 17 = .ok (.getfield 103, 3) := by decide +kernel
theorem dX4_suspects_20 : decode cX4_suspects 20 = .ok (.iconst 1, 1) := by decide +kernel
theorem dX4_suspects_21 : decode cX4_suspects 21 = .ok (.isub, 1) := by decide +kernel
theorem dX4_suspects_22 : decode cX4_suspects 22 = .ok (.istore_n 1, 1) := by decide +kernel
theorem dX4_suspects_23 : decode cX4_suspects 23 = .ok (.lconst 0, 1) := by decide +kernel
theorem dX4_suspects_24 : decode cX4_suspects 24 = .ok (.lstore_n 2, 1) := by decide +kernel
theorem dX4_suspects_25 : decode cX4_suspects 25 = .ok (.lconst 0, 1) := by decide +kernel
theorem dX4_suspects_26 : decode cX4_suspects 26 = .ok (.lstore 4, 2) := by decide +kernel
theorem dX4_suspects_28 : decode cX4_suspects 28 = .ok (.iconst 0, 1) := by decide +kernel
theorem dX4_suspects_29 : decode cX4_suspects 29 = .ok (.istore 6, 2) := by decide +kernel
theorem dX4_suspects_31 : decode cX4_suspects 31 = .ok (.iload 6, 2) := by decide +kernel
theorem dX4_suspects_33 : decode cX4_suspects 33 = .ok (.aload_n 0, 1) := by decide +kernel
theorem dX4_suspects_34 : decode cX4_suspects 34 = .ok (.getfield 10, 3) := by decide +kernel
theorem dX4_suspects_37 : decode cX4_suspects 37 = .ok (.getfield 56, 3) := by decide +kernel
theorem dX4_suspects_40 : decode cX4_suspects 40 = .ok (.if_icmp .ge 72, 3) := by decide +kernel
theorem dX4_suspects_43 : decode cX4_suspects 43 = .ok (.aload_n 0, 1) := by decide +kernel
theorem dX4_suspects_44 : decode cX4_suspects 44 = .ok (.getfield 19, 3) := by decide +kernel
theorem dX4_suspects_47 : decode cX4_suspects 47 = .ok (.iload 6, 2) := by decide +kernel
theorem dX4_suspects_49 : decode cX4_suspects 49 = .ok (.iload_n 1, 1) := by decide +kernel
theorem dX4_suspects_50 : decode cX4_suspects 50 = .ok (.invokevirtual 110, 3) := by decide +kernel
theorem dX4_suspects_53 : decode cX4_suspects 53 = .ok (.istore 7, 2) := by decide +kernel
theorem dX4_suspects_55 : decode cX4_suspects 55 = .ok (.iload 7, 2) := by decide +kernel
theorem dX4_suspects_57 : decode cX4_suspects 57 = .ok (.ifCond .ne 21, 3) := by decide +kernel
theorem dX4_suspects_60 : decode cX4_suspects 60 = .ok (.lload 4, 2) := by decide +kernel
theorem dX4_suspects_62 : decode cX4_suspects 62 = .ok (.aload_n 0, 1) := by decide +kernel
theorem dX4_suspects_63 : decode cX4_suspects 63 = .ok (.getfield 10, 3) := by decide +kernel
theorem dX4_suspects_66 : decode cX4_suspects 66 = .ok (.getfield 85, 3) := by decide +kernel
theorem dX4_suspects_69 : decode cX4_suspects 69 = .ok (.iload 6, 2) := by decide +kernel
theorem dX4_suspects_71 : decode cX4_suspects 71 = .ok (.laload, 1) := by decide +kernel
theorem dX4_suspects_72 : decode cX4_suspects 72 = .ok (.lor, 1) := by decide +kernel
theorem dX4_suspects_73 : decode cX4_suspects 73 = .ok (.lstore 4, 2) := by decide +kernel
theorem dX4_suspects_75 : decode cX4_suspects 75 = .ok (.goto 31, 3) := by decide +kernel
theorem dX4_suspects_78 : decode cX4_suspects 78 = .ok (.iload 7, 2) := by decide +kernel
theorem dX4_suspects_80 : decode cX4_suspects 80 = .ok (.iconst 1, 1) := by decide +kernel
theorem dX4_suspects_81 : decode cX4_suspects 81 = .ok (.if_icmp .ne 25, 3) := by decide +kernel
theorem dX4_suspects_84 : decode cX4_suspects 84 = .ok (.aload_n 0, 1) := by decide +kernel
theorem dX4_suspects_85 : decode cX4_suspects 85 = .ok (.iload 6, 2) := by decide +kernel
theorem dX4_suspects_87 : decode cX4_suspects 87 = .ok (.invokevirtual 201, 3) := by decide +kernel
theorem dX4_suspects_90 : decode cX4_suspects 90 = .ok (.ifCond .ne 16, 3) := by decide +kernel
theorem dX4_suspects_93 : decode cX4_suspects 93 = .ok (.lload_n 2, 1) := by decide +kernel
theorem dX4_suspects_94 : decode cX4_suspects 94 = .ok (.aload_n 0, 1) := by decide +kernel
theorem dX4_suspects_95 : decode cX4_suspects 95 = .ok (.getfield 10, 3) := by decide +kernel
theorem dX4_suspects_98 : decode cX4_suspects 98 = .ok (.getfield 85, 3) := by decide +kernel
theorem dX4_suspects_101 : decode cX4_suspects 101 = .ok (.iload 6, 2) := by decide +kernel
theorem dX4_suspects_103 : decode cX4_suspects 103 = .ok (.laload, 1) := by decide +kernel
theorem dX4_suspects_104 : decode cX4_suspects 104 = .ok (.lor, 1) := by decide +kernel
theorem dX4_suspects_105 : decode cX4_suspects 105 = .ok (.lstore_n 2, 1) := by decide +kernel
theorem dX4_suspects_106 : decode cX4_suspects 106 = .ok (.iinc 6 1, 3) := by decide +kernel
theorem dX4_suspects_109 : decode cX4_suspects 109 = .ok (.goto (-78), 3) := by decide +kernel
theorem dX4_suspects_112 : decode cX4_suspects 112 = .ok (.aload_n 0, 1) := by decide +kernel
theorem dX4_suspects_113 : decode cX4_suspects 113 = .ok (.lload_n 2, 1) := by decide +kernel
theorem dX4_suspects_114 : decode cX4_suspects 114 = .ok (.lload 4, 2) := by decide +kernel
theorem dX4_suspects_116 : decode cX4_suspects 116 = .ok (.ldc2_w 204, 3) := by decide +kernel
theorem dX4_suspects_119 : decode cX4_suspects 119 = .ok (.lxor, 1) := by decide +kernel
theorem dX4_suspects_120 : decode cX4_suspects 120 = .ok (.land, 1) := by decide +kernel
theorem dX4_suspects_121 : decode cX4_suspects 121 = .ok (.aload_n 0, 1) := by decide +kernel
theorem dX4_suspects_122 : decode cX4_suspects 122 = .ok (.getfield 19, 3) := by decide +kernel
theorem dX4_suspects_125 : decode cX4_suspects 125 = .ok (.invokevirtual 135, 3) := by decide +kernel
theorem dX4_suspects_128 : decode cX4_suspects 128 = .ok (.land, 1) := by decide +kernel
theorem dX4_suspects_129 : decode cX4_suspects 129 = .ok (.putfield 45, 3) := by decide +kernel
theorem dX4_suspects_132 : decode cX4_suspects 132 = .ok (.aload_n 0, 1) := by decide +kernel
theorem dX4_suspects_133 : decode cX4_suspects 133 = .ok (.getfield 45, 3) := by decide +kernel
theorem dX4_suspects_136 : decode cX4_suspects 136 = .ok (.invokestatic 124, 3) := by decide +kernel
theorem dX4_suspects_139 : decode cX4_suspects 139 = .ok (.ireturn, 1) := by decide +kernel
set_option maxRecDepth 20000 in
theorem ggX4_badWork_X0_verdictIn : GoodIn wsX4_badWork wsX0_verdictIn := goodIn_r _ [9, 10, 11, 32, 33, 34, 35] (by decide +kernel) (by decide +kernel)
set_option maxRecDepth 20000 in
theorem gX4_badWork_X0_verdictIn : GoodIn wsX4_badWork (wsV RX4 110 RX0 yX0_verdictIn wsX0_verdictIn) := goodIn_app (goodIn_of _ (by decide +kernel)) ggX4_badWork_X0_verdictIn
set_option maxRecDepth 20000 in
theorem ggX4_badWork_X4_isFlaky : GoodIn wsX4_badWork wsX4_isFlaky := goodIn_r _ [16, 1, 3, 17, 18, 19, 20, 8, 21, 22, 23, 24, 6, 7, 9, 10, 11, 25, 26, 27, 28, 29, 30, 31, 36, 37, 38, 39, 40, 41, 42, 32, 33, 34, 35] (by decide +kernel) (by decide +kernel)
set_option maxRecDepth 20000 in
theorem gX4_badWork_X4_isFlaky : GoodIn wsX4_badWork (wsV RX4 201 RX4 yX4_isFlaky wsX4_isFlaky) := goodIn_app (goodIn_of _ (by decide +kernel)) ggX4_badWork_X4_isFlaky
theorem dX4_badWork_0 : decode cX4_badWork 0 = .ok (.aload_n 0, 1) := by decide +kernel
theorem dX4_badWork_1 : decode cX4_badWork 1 = .ok (.getfield 19, 3) := by decide +kernel
theorem dX4_badWork_4 : decode cX4_badWork 4 = .ok (.getfield 103, 3) := by decide +kernel
theorem dX4_badWork_7 : decode cX4_badWork 7 = .ok (.ifCond .ne 6, 3) := by decide +kernel
theorem dX4_badWork_10 : decode cX4_badWork 10 = .ok (.bipush (-4), 2) := by decide +kernel
theorem dX4_badWork_12 : decode cX4_badWork 12 = .ok (.ireturn, 1) := by decide +kernel
theorem dX4_badWork_13 : decode cX4_badWork 13 = .ok (.aload_n 0, 1) := by decide +kernel
theorem dX4_badWork_14 : decode cX4_badWork 14 = .ok (.getfield 19, 3) := by decide +kernel
theorem dX4_badWork_17 : decode cX4_badWork 17 = .ok (.getfield 103, 3) := by decide +kernel
theorem dX4_badWork_20 : decode cX4_badWork 20 = .ok (.iconst 1, 1) := by decide +kernel
theorem dX4_badWork_21 : decode cX4_badWork 21 = .ok (.isub, 1) := by decide +kernel
theorem dX4_badWork_22 : decode cX4_badWork 22 = .ok (.istore_n 1, 1) := by decide +kernel
theorem dX4_badWork_23 : decode cX4_badWork 23 = .ok (.iconst 0, 1) := by decide +kernel
theorem dX4_badWork_24 : decode cX4_badWork 24 = .ok (.istore_n 2, 1) := by decide +kernel
theorem dX4_badWork_25 : decode cX4_badWork 25 = .ok (.iload_n 2, 1) := by decide +kernel
theorem dX4_badWork_26 : decode cX4_badWork 26 = .ok (.aload_n 0, 1) := by decide +kernel
theorem dX4_badWork_27 : decode cX4_badWork 27 = .ok (.getfield 10, 3) := by decide +kernel
theorem dX4_badWork_30 : decode cX4_badWork 30 = .ok (.getfield 56, 3) := by decide +kernel
theorem dX4_badWork_33 : decode cX4_badWork 33 = .ok (.if_icmp .ge 32, 3) := by decide +kernel
theorem dX4_badWork_36 : decode cX4_badWork 36 = .ok (.aload_n 0, 1) := by decide +kernel
theorem dX4_badWork_37 : decode cX4_badWork 37 = .ok (.getfield 19, 3) := by decide +kernel
theorem dX4_badWork_40 : decode cX4_badWork 40 = .ok (.iload_n 2, 1) := by decide +kernel
theorem dX4_badWork_41 : decode cX4_badWork 41 = .ok (.iload_n 1, 1) := by decide +kernel
theorem dX4_badWork_42 : decode cX4_badWork 42 = .ok (.invokevirtual 110, 3) := by decide +kernel
theorem dX4_badWork_45 : decode cX4_badWork 45 = .ok (.iconst 1, 1) := by decide +kernel
theorem dX4_badWork_46 : decode cX4_badWork 46 = .ok (.if_icmp .ne 13, 3) := by decide +kernel
theorem dX4_badWork_49 : decode cX4_badWork 49 = .ok (.aload_n 0, 1) := by decide +kernel
theorem dX4_badWork_50 : decode cX4_badWork 50 = .ok (.iload_n 2, 1) := by decide +kernel
theorem dX4_badWork_51 : decode cX4_badWork 51 = .ok (.invokevirtual 201, 3) := by decide +kernel
theorem dX4_badWork_54 : decode cX4_badWork 54 = .ok (.ifCond .ne 5, 3) := by decide +kernel
theorem dX4_badWork_57 : decode cX4_badWork 57 = .ok (.iconst 1, 1) := by decide +kernel
theorem dX4_badWork_58 : decode cX4_badWork 58 = .ok (.ireturn, 1) := by decide +kernel
theorem dX4_badWork_59 : decode cX4_badWork 59 = .ok (.iinc 2 1, 3) := by decide +kernel
theorem dX4_badWork_62 : decode cX4_badWork 62 = .ok (.goto (-37), 3) := by decide +kernel
theorem dX4_badWork_65 : decode cX4_badWork 65 = .ok (.iconst 0, 1) := by decide +kernel
theorem dX4_badWork_66 : decode cX4_badWork 66 = .ok (.ireturn, 1) := by decide +kernel
set_option maxRecDepth 20000 in
theorem ggX4_fewest_X4_witnesses : GoodIn wsX4_fewest wsX4_witnesses := goodIn_r _ [13, 2, 3, 14, 5, 6, 15, 16, 17, 12, 18, 19, 20, 21, 22, 23, 24, 25, 26, 27, 28, 29, 30, 31, 32, 96, 97, 98, 99, 100, 101, 102, 103, 104, 105, 106, 107, 108, 109, 110, 111, 112, 113] (by decide +kernel) (by decide +kernel)
set_option maxRecDepth 20000 in
theorem gX4_fewest_X4_witnesses : GoodIn wsX4_fewest (wsV RX4 206 RX4 yX4_witnesses wsX4_witnesses) := goodIn_app (goodIn_of _ (by decide +kernel)) ggX4_fewest_X4_witnesses
set_option maxRecDepth 20000 in
theorem ggX4_fewest_J6_bitCount_0f7a4 : GoodIn wsX4_fewest wsJ6_bitCount_0f7a4 := goodIn_r _ [36, 37, 38, 39] (by decide +kernel) (by decide +kernel)
set_option maxRecDepth 20000 in
theorem gX4_fewest_J6_bitCount_0f7a4 : GoodIn wsX4_fewest (va_wsS RX4 171 yJ6_bitCount_0f7a4 wsJ6_bitCount_0f7a4) := goodIn_app (goodIn_of _ (by decide +kernel)) ggX4_fewest_J6_bitCount_0f7a4
set_option maxRecDepth 20000 in
theorem ggX4_fewest_X2_begin : GoodIn wsX4_fewest wsX2_begin := goodIn_r _ [44, 45, 46, 47, 48, 114, 115, 116, 117, 118, 119, 120, 121, 122, 123, 124, 125] (by decide +kernel) (by decide +kernel)
set_option maxRecDepth 20000 in
theorem gX4_fewest_X2_begin : GoodIn wsX4_fewest (wsV RX4 175 RX2 yX2_begin wsX2_begin) := goodIn_app (goodIn_of _ (by decide +kernel)) ggX4_fewest_X2_begin
set_option maxRecDepth 20000 in
theorem ggX4_fewest_X4_isIn : GoodIn wsX4_fewest wsX4_isIn := goodIn_r _ [51] (by decide +kernel) (by decide +kernel)
set_option maxRecDepth 20000 in
theorem gX4_fewest_X4_isIn : GoodIn wsX4_fewest (va_wsS RX4 177 yX4_isIn wsX4_isIn) := goodIn_app (goodIn_of _ (by decide +kernel)) ggX4_fewest_X4_isIn
set_option maxRecDepth 20000 in
theorem ggX4_fewest_X3_countedTime : GoodIn wsX4_fewest wsX3_countedTime := goodIn_r _ [56, 57, 58, 103, 104, 105, 106, 107, 108, 109] (by decide +kernel) (by decide +kernel)
set_option maxRecDepth 20000 in
theorem gX4_fewest_X3_countedTime : GoodIn wsX4_fewest (wsV RX4 183 RX3 yX3_countedTime wsX3_countedTime) := goodIn_app (goodIn_of _ (by decide +kernel)) ggX4_fewest_X3_countedTime
set_option maxRecDepth 20000 in
theorem ggX4_fewest_X2_add : GoodIn wsX4_fewest wsX2_add := goodIn_r _ [62, 45, 63, 64, 65, 66, 114, 115, 116, 117, 118, 119, 120, 121, 122, 123, 124, 125] (by decide +kernel) (by decide +kernel)
set_option maxRecDepth 20000 in
theorem gX4_fewest_X2_add : GoodIn wsX4_fewest (wsV RX4 186 RX2 yX2_add wsX2_add) := goodIn_app (goodIn_of _ (by decide +kernel)) ggX4_fewest_X2_add
set_option maxRecDepth 20000 in
theorem ggX4_fewest_X4_buildsShown : GoodIn wsX4_fewest wsX4_buildsShown := goodIn_r _ [70, 2, 3, 5, 6, 49, 50, 12, 51, 96, 97, 98, 99, 100, 101, 102, 103, 104, 105, 106, 107, 108, 109, 110, 111, 112, 113] (by decide +kernel) (by decide +kernel)
set_option maxRecDepth 20000 in
theorem gX4_fewest_X4_buildsShown : GoodIn wsX4_fewest (wsV RX4 209 RX4 yX4_buildsShown wsX4_buildsShown) := goodIn_app (goodIn_of _ (by decide +kernel)) ggX4_fewest_X4_buildsShown
set_option maxRecDepth 20000 in
theorem ggX4_fewest_X2_seekFewest : GoodIn wsX4_fewest wsX2_seekFewest := goodIn_r _ [74, 45, 75, 76, 47, 77, 78, 79, 43, 80, 81, 82, 83, 84, 85, 63, 86, 64, 65, 66, 87, 88, 35, 89, 90, 91, 34, 36, 37, 38, 39, 92, 93, 94, 95, 46, 48, 114, 115, 116, 117, 118, 119, 120, 121, 122, 123, 124, 125] (by decide +kernel) (by decide +kernel)
set_option maxRecDepth 20000 in
theorem gX4_fewest_X2_seekFewest : GoodIn wsX4_fewest (wsV RX4 213 RX2 yX2_seekFewest wsX2_seekFewest) := goodIn_app (goodIn_of _ (by decide +kernel)) ggX4_fewest_X2_seekFewest
theorem dX4_fewest_0 : decode cX4_fewest 0 = .ok (.aload_n 0, 1) := by decide +kernel
theorem dX4_fewest_1 : decode cX4_fewest 1 = .ok (.invokevirtual 206, 3) := by decide +kernel
theorem dX4_fewest_4 : decode cX4_fewest 4 = .ok (.istore_n 1, 1) := by decide +kernel
theorem dX4_fewest_5 : decode cX4_fewest 5 = .ok (.iload_n 1, 1) := by decide +kernel
theorem dX4_fewest_6 : decode cX4_fewest 6 = .ok (.invokestatic 171, 3) := by decide +kernel
theorem dX4_fewest_9 : decode cX4_fewest 9 = .ok (.bipush 12, 2) := by decide +kernel
theorem dX4_fewest_11 : decode cX4_fewest 11 = .ok (.if_icmp .le 6, 3) := by decide +kernel
theorem dX4_fewest_14 : decode cX4_fewest 14 = .ok (.bipush (-6), 2) := by decide +kernel
theorem dX4_fewest_16 : decode cX4_fewest 16 = .ok (.ireturn, 1) := by decide +kernel
theorem dX4_fewest_17 : decode cX4_fewest 17 = .ok (.aload_n 0, 1) := by decide +kernel
theorem dX4_fewest_18 : decode cX4_fewest 18 = .ok (.getfield 33, 3) := by decide +kernel
theorem dX4_fewest_21 : decode cX4_fewest 21 = .ok (.invokevirtual 175, 3) := by decide +kernel
theorem dX4_fewest_24 : decode cX4_fewest 24 = .ok (.iconst 0, 1) := by decide +kernel
theorem dX4_fewest_25 : decode cX4_fewest 25 = .ok (.istore_n 2, 1) := by decide +kernel
theorem dX4_fewest_26 : decode cX4_fewest 26 = .ok (.iload_n 2, 1) := by decide +kernel
theorem dX4_fewest_27 : decode cX4_fewest 27 = .ok (.aload_n 0, 1) := by decide +kernel
theorem dX4_fewest_28 : decode cX4_fewest 28 = .ok (.getfield 10, 3) := by decide +kernel
theorem dX4_fewest_31 : decode cX4_fewest 31 = .ok (.getfield 56, 3) := by decide +kernel
theorem dX4_fewest_34 : decode cX4_fewest 34 = .ok (.if_icmp .ge 53, 3) := by decide +kernel
theorem dX4_fewest_37 : decode cX4_fewest 37 = .ok (.iload_n 2, 1) := by decide +kernel
theorem dX4_fewest_38 : decode cX4_fewest 38 = .ok (.iload_n 1, 1) := by decide +kernel
theorem dX4_fewest_39 : decode cX4_fewest 39 = .ok (.invokestatic 177, 3) := by decide +kernel
theorem dX4_fewest_42 : decode cX4_fewest 42 = .ok (.ifCond .eq 39, 3) := by decide +kernel
theorem dX4_fewest_45 : decode cX4_fewest 45 = .ok (.aload_n 0, 1) := by decide +kernel
theorem dX4_fewest_46 : decode cX4_fewest 46 = .ok (.getfield 33, 3) := by decide +kernel
theorem dX4_fewest_49 : decode cX4_fewest 49 = .ok (.iconst 1, 1) := by decide +kernel
theorem dX4_fewest_50 : decode cX4_fewest 50 = .ok (.iload_n 2, 1) := by decide +kernel
theorem dX4_fewest_51 : decode cX4_fewest 51 = .ok (.ishl, 1) := by decide +kernel
theorem dX4_fewest_52 : decode cX4_fewest 52 = .ok (.aload_n 0, 1) := by decide +kernel
theorem dX4_fewest_53 : decode cX4_fewest 53 = .ok (.getfield 10, 3) := by decide +kernel
theorem dX4_fewest_56 : decode cX4_fewest 56 = .ok (.getfield 180, 3) := by decide +kernel
theorem dX4_fewest_59 : decode cX4_fewest 59 = .ok (.iload_n 2, 1) := by decide +kernel
theorem dX4_fewest_60 : decode cX4_fewest 60 = .ok (.iaload, 1) := by decide +kernel
theorem dX4_fewest_61 : decode cX4_fewest 61 = .ok (.aload_n 0, 1) := by decide +kernel
theorem dX4_fewest_62 : decode cX4_fewest 62 = .ok (.getfield 10, 3) := by decide +kernel
theorem dX4_fewest_65 : decode cX4_fewest 65 = .ok (.iload_n 2, 1) := by decide +kernel
theorem dX4_fewest_66 : decode cX4_fewest 66 = .ok (.invokevirtual 183, 3) := by decide +kernel
theorem dX4_fewest_69 : decode cX4_fewest 69 = .ok (.aload_n 0, 1) := by decide +kernel
theorem dX4_fewest_70 : decode cX4_fewest 70 = .ok (.getfield 19, 3) := by decide +kernel
theorem dX4_fewest_73 : decode cX4_fewest 73 = .ok (.getfield 121, 3) := by decide +kernel
theorem dX4_fewest_76 : decode cX4_fewest 76 = .ok (.iload_n 2, 1) := by decide +kernel
theorem dX4_fewest_77 : decode cX4_fewest 77 = .ok (.laload, 1) := by decide +kernel
theorem dX4_fewest_78 : decode cX4_fewest 78 = .ok (.invokevirtual 186, 3) := by decide +kernel
theorem dX4_fewest_81 : decode cX4_fewest 81 = .ok (.iinc 2 1, 3) := by decide +kernel
theorem dX4_fewest_84 : decode cX4_fewest 84 = .ok (.goto (-58), 3) := by decide +kernel
theorem dX4_fewest_87 : decode cX4_fewest 87 = .ok (.aload_n 0, 1) := by decide +kernel
theorem dX4_fewest_88 : decode cX4_fewest 88 = .ok (.getfield 33, 3) := by decide +kernel
theorem dX4_fewest_91 : decode cX4_fewest 91 = .ok (.aload_n 0, 1) := by decide +kernel
theorem dX4_fewest_92 : decode cX4_fewest 92 = .ok (.iload_n 1, 1) := by decide +kernel
theorem dX4_fewest_93 : decode cX4_fewest 93 = .ok (.invokevirtual 209, 3) := by decide +kernel
theorem dX4_fewest_96 : decode cX4_fewest 96 = .ok (.invokevirtual 213, 3) := by decide +kernel
theorem dX4_fewest_99 : decode cX4_fewest 99 = .ok (.aload_n 0, 1) := by decide +kernel
theorem dX4_fewest_100 : decode cX4_fewest 100 = .ok (.aload_n 0, 1) := by decide +kernel
theorem dX4_fewest_101 : decode cX4_fewest 101 = .ok (.getfield 33, 3) := by decide +kernel
theorem dX4_fewest_104 : decode cX4_fewest 104 = .ok (.getfield 192, 3) := by decide +kernel
theorem dX4_fewest_107 : decode cX4_fewest 107 = .ok (.i2l, 1) := by decide +kernel
theorem dX4_fewest_108 : decode cX4_fewest 108 = .ok (.putfield 45, 3) := by decide +kernel
theorem dX4_fewest_111 : decode cX4_fewest 111 = .ok (.aload_n 0, 1) := by decide +kernel
theorem dX4_fewest_112 : decode cX4_fewest 112 = .ok (.getfield 33, 3) := by decide +kernel
theorem dX4_fewest_115 : decode cX4_fewest 115 = .ok (.getfield 192, 3) := by decide +kernel
theorem dX4_fewest_118 : decode cX4_fewest 118 = .ok (.invokestatic 171, 3) := by decide +kernel
theorem dX4_fewest_121 : decode cX4_fewest 121 = .ok (.ireturn, 1) := by decide +kernel
set_option maxRecDepth 20000 in
theorem ggX4_missed_X3_hasAll : GoodIn wsX4_missed wsX3_hasAll := goodIn_r _ [7, 8, 59, 60, 61, 62, 63, 64, 65] (by decide +kernel) (by decide +kernel)
set_option maxRecDepth 20000 in
theorem gX4_missed_X3_hasAll : GoodIn wsX4_missed (wsV RX4 198 RX3 yX3_hasAll wsX3_hasAll) := goodIn_app (goodIn_of _ (by decide +kernel)) ggX4_missed_X3_hasAll
set_option maxRecDepth 20000 in
theorem ggX4_missed_X4_witnesses : GoodIn wsX4_missed wsX4_witnesses := goodIn_r _ [13, 1, 14, 15, 16, 17, 18, 19, 20, 12, 21, 22, 23, 24, 25, 26, 27, 28, 29, 30, 31, 32, 33, 34, 35, 52, 53, 54, 55, 56, 57, 58, 59, 60, 61, 62, 63, 64, 65, 66, 67, 68, 69] (by decide +kernel) (by decide +kernel)
set_option maxRecDepth 20000 in
theorem gX4_missed_X4_witnesses : GoodIn wsX4_missed (wsV RX4 206 RX4 yX4_witnesses wsX4_witnesses) := goodIn_app (goodIn_of _ (by decide +kernel)) ggX4_missed_X4_witnesses
set_option maxRecDepth 20000 in
theorem ggX4_missed_X4_buildsShown : GoodIn wsX4_missed wsX4_buildsShown := goodIn_r _ [39, 1, 14, 16, 17, 40, 41, 12, 42, 52, 53, 54, 55, 56, 57, 58, 59, 60, 61, 62, 63, 64, 65, 66, 67, 68, 69] (by decide +kernel) (by decide +kernel)
set_option maxRecDepth 20000 in
theorem gX4_missed_X4_buildsShown : GoodIn wsX4_missed (wsV RX4 209 RX4 yX4_buildsShown wsX4_buildsShown) := goodIn_app (goodIn_of _ (by decide +kernel)) ggX4_missed_X4_buildsShown
set_option maxRecDepth 20000 in
theorem ggX4_missed_J13_numberOfTrailingZeros_95d88 : GoodIn wsX4_missed wsJ13_numberOfTrailingZeros_95d88 := goodIn_r _ [46, 47, 48, 49, 50, 51] (by decide +kernel) (by decide +kernel)
set_option maxRecDepth 20000 in
theorem gX4_missed_J13_numberOfTrailingZeros_95d88 : GoodIn wsX4_missed (va_wsS RX4 216 yJ13_numberOfTrailingZeros_95d88 wsJ13_numberOfTrailingZeros_95d88) := goodIn_app (goodIn_of _ (by decide +kernel)) ggX4_missed_J13_numberOfTrailingZeros_95d88
theorem dX4_missed_0 : decode cX4_missed 0 = .ok (.aload_n 0, 1) := by decide +kernel
theorem dX4_missed_1 : decode cX4_missed 1 = .ok (.getfield 10, 3) := by decide +kernel
theorem dX4_missed_4 : decode cX4_missed 4 = .ok (.iload_n 1, 1) := by decide +kernel
theorem dX4_missed_5 : decode cX4_missed 5 = .ok (.invokevirtual 198, 3) := by decide +kernel
theorem dX4_missed_8 : decode cX4_missed 8 = .ok (.ifCond .ne 5, 3) := by decide +kernel
theorem dX4_missed_11 : decode cX4_missed 11 = .ok (.iconst (-1), 1) := by decide +kernel
theorem dX4_missed_12 : decode cX4_missed 12 = .ok (.ireturn, 1) := by decide +kernel
theorem dX4_missed_13 : decode cX4_missed 13 = .ok (.aload_n 0, 1) := by decide +kernel
theorem dX4_missed_14 : decode cX4_missed 14 = .ok (.aload_n 0, 1) := by decide +kernel
theorem dX4_missed_15 : decode cX4_missed 15 = .ok (.invokevirtual 206, 3) := by decide +kernel
theorem dX4_missed_18 : decode cX4_missed 18 = .ok (.invokevirtual 209, 3) := by decide +kernel
theorem dX4_missed_21 : decode cX4_missed 21 = .ok (.aload_n 0, 1) := by decide +kernel
theorem dX4_missed_22 : decode cX4_missed 22 = .ok (.iload_n 1, 1) := by decide +kernel
theorem dX4_missed_23 : decode cX4_missed 23 = .ok (.invokevirtual 209, 3) := by decide +kernel
theorem dX4_missed_26 : decode cX4_missed 26 = .ok (.ldc2_w 204, 3) := by decide +kernel
theorem dX4_missed_29 : decode cX4_missed 29 = .ok (.lxor, 1) := by decide +kernel
theorem dX4_missed_30 : decode cX4_missed 30 = .ok (.land, 1) := by decide +kernel
theorem dX4_missed_31 : decode cX4_missed 31 = .ok (.lstore_n 2, 1) := by decide +kernel
theorem dX4_missed_32 : decode cX4_missed 32 = .ok (.lload_n 2, 1) := by decide +kernel
theorem dX4_missed_33 : decode cX4_missed 33 = .ok (.lconst 0, 1) := by decide +kernel
theorem dX4_missed_34 : decode cX4_missed 34 = .ok (.lcmp, 1) := by decide +kernel
theorem dX4_missed_35 : decode cX4_missed 35 = .ok (.ifCond .ne 8, 3) := by decide +kernel
theorem dX4_missed_38 : decode cX4_missed 38 = .ok (.bipush (-9), 2) := by decide +kernel
theorem dX4_missed_40 : decode cX4_missed 40 = .ok (.goto 7, 3) := by decide +kernel
theorem dX4_missed_43 : decode cX4_missed 43 = .ok (.lload_n 2, 1) := by decide +kernel
theorem dX4_missed_44 : decode cX4_missed 44 = .ok (.invokestatic 216, 3) := by decide +kernel
theorem dX4_missed_47 : decode cX4_missed 47 = .ok (.ireturn, 1) := by decide +kernel
theorem dX4_asked_0 : decode cX4_asked 0 = .ok (.aload_n 0, 1) := by decide +kernel
theorem dX4_asked_1 : decode cX4_asked 1 = .ok (.getfield 45, 3) := by decide +kernel
theorem dX4_asked_4 : decode cX4_asked 4 = .ok (.lreturn, 1) := by decide +kernel
set_option maxRecDepth 20000 in
theorem ggX4_count_X0_verdictsInAll : GoodIn wsX4_count wsX0_verdictsInAll := goodIn_r _ [9, 10, 11, 12, 13, 14, 15, 16, 17, 18, 33, 34, 35, 36] (by decide +kernel) (by decide +kernel)
set_option maxRecDepth 20000 in
theorem gX4_count_X0_verdictsInAll : GoodIn wsX4_count (wsV RX4 219 RX0 yX0_verdictsInAll wsX0_verdictsInAll) := goodIn_app (goodIn_of _ (by decide +kernel)) ggX4_count_X0_verdictsInAll
theorem dX4_count_0 : decode cX4_count 0 = .ok (.iload_n 1, 1) := by decide +kernel
theorem dX4_count_1 : decode cX4_count 1 = .ok (.ifCond .ne 11, 3) := by decide +kernel
theorem dX4_count_4 : decode cX4_count 4 = .ok (.aload_n 0, 1) := by decide +kernel
theorem dX4_count_5 : decode cX4_count 5 = .ok (.getfield 10, 3) := by decide +kernel
theorem dX4_count_8 : decode cX4_count 8 = .ok (.getfield 56, 3) := by decide +kernel
theorem dX4_count_11 : decode cX4_count 11 = .ok (.ireturn, 1) := by decide +kernel
theorem dX4_count_12 : decode cX4_count 12 = .ok (.iload_n 1, 1) := by decide +kernel
theorem dX4_count_13 : decode cX4_count 13 = .ok (.iconst 1, 1) := by decide +kernel
theorem dX4_count_14 : decode cX4_count 14 = .ok (.if_icmp .ne 11, 3) := by decide +kernel
theorem dX4_count_17 : decode cX4_count 17 = .ok (.aload_n 0, 1) := by decide +kernel
theorem dX4_count_18 : decode cX4_count 18 = .ok (.getfield 19, 3) := by decide +kernel
theorem dX4_count_21 : decode cX4_count 21 = .ok (.getfield 103, 3) := by decide +kernel
theorem dX4_count_24 : decode cX4_count 24 = .ok (.ireturn, 1) := by decide +kernel
theorem dX4_count_25 : decode cX4_count 25 = .ok (.iload_n 1, 1) := by decide +kernel
theorem dX4_count_26 : decode cX4_count 26 = .ok (.iconst 2, 1) := by decide +kernel
theorem dX4_count_27 : decode cX4_count 27 = .ok (.if_icmp .ne 13, 3) := by decide +kernel
theorem dX4_count_30 : decode cX4_count 30 = .ok (.aload_n 0, 1) := by decide +kernel
theorem dX4_count_31 : decode cX4_count 31 = .ok (.getfield 19, 3) := by decide +kernel
theorem dX4_count_34 : decode cX4_count 34 = .ok (.invokevirtual 219, 3) := by decide +kernel
theorem dX4_count_37 : decode cX4_count 37 = .ok (.goto 4, 3) := by decide +kernel
theorem dX4_count_40 : decode cX4_count 40 = .ok (.iconst (-1), 1) := by decide +kernel
theorem dX4_count_41 : decode cX4_count 41 = .ok (.ireturn, 1) := by decide +kernel
theorem dX4_finding_0 : decode cX4_finding 0 = .ok (.aload_n 0, 1) := by decide +kernel
theorem dX4_finding_1 : decode cX4_finding 1 = .ok (.getfield 41, 3) := by decide +kernel
theorem dX4_finding_4 : decode cX4_finding 4 = .ok (.ireturn, 1) := by decide +kernel
theorem dX4_findings_0 : decode cX4_findings 0 = .ok (.iload_n 1, 1) := by decide +kernel
theorem dX4_findings_1 : decode cX4_findings 1 = .ok (.iconst 1, 1) := by decide +kernel
theorem dX4_findings_2 : decode cX4_findings 2 = .ok (.if_icmp .lt 8, 3) := by decide +kernel
theorem dX4_findings_5 : decode cX4_findings 5 = .ok (.iload_n 1, 1) := by decide +kernel
theorem dX4_findings_6 : decode cX4_findings 6 = .ok (.iconst 4, 1) := by decide +kernel
theorem dX4_findings_7 : decode cX4_findings 7 = .ok (.if_icmp .le 7, 3) := by decide +kernel
theorem dX4_findings_10 : decode cX4_findings 10 = .ok (.iconst (-1), 1) := by decide +kernel
theorem dX4_findings_11 : decode cX4_findings 11 = .ok (.goto 9, 3) := by decide +kernel
theorem dX4_findings_14 : decode cX4_findings 14 = .ok (.aload_n 0, 1) := by decide +kernel
theorem dX4_findings_15 : decode cX4_findings 15 = .ok (.getfield 37, 3) := by decide +kernel
theorem dX4_findings_18 : decode cX4_findings 18 = .ok (.iload_n 1, 1) := by decide +kernel
theorem dX4_findings_19 : decode cX4_findings 19 = .ok (.iaload, 1) := by decide +kernel
theorem dX4_findings_20 : decode cX4_findings 20 = .ok (.ireturn, 1) := by decide +kernel
set_option maxRecDepth 20000 in
theorem ggX4_digest_X4_digestOfTest : GoodIn wsX4_digest wsX4_digestOfTest := goodIn_r _ [12, 6, 2, 13, 14, 15, 16, 11, 17, 18, 19, 4, 20, 21, 22, 23, 24, 25, 26, 27, 28, 29, 30, 31, 32, 33, 34, 35, 36, 37, 38, 39, 40, 41, 42, 43, 44, 45, 46, 47, 48, 49, 50, 51, 52, 53, 54, 55, 56, 57, 58, 59, 60, 61, 62, 63, 64, 65, 66, 67, 69, 70, 71, 72, 73, 74, 75, 76, 77, 78, 79, 80, 81, 82, 83, 84, 85, 86] (by decide +kernel) (by decide +kernel)
set_option maxRecDepth 20000 in
theorem gX4_digest_X4_digestOfTest : GoodIn wsX4_digest (wsV RX4 224 RX4 yX4_digestOfTest wsX4_digestOfTest) := goodIn_app (goodIn_of _ (by decide +kernel)) ggX4_digest_X4_digestOfTest
set_option maxRecDepth 20000 in
theorem ggX4_digest_X0_verdictIn : GoodIn wsX4_digest wsX0_verdictIn := goodIn_r _ [49, 34, 50, 83, 84, 85, 86] (by decide +kernel) (by decide +kernel)
set_option maxRecDepth 20000 in
theorem gX4_digest_X0_verdictIn : GoodIn wsX4_digest (wsV RX4 110 RX0 yX0_verdictIn wsX0_verdictIn) := goodIn_app (goodIn_of _ (by decide +kernel)) ggX4_digest_X0_verdictIn
theorem dX4_digest_0 : decode cX4_digest 0 = .ok (.ldc2_w 222, 3) := by decide +kernel
theorem dX4_digest_3 : decode cX4_digest 3 = .ok (.lstore_n 1, 1) := by decide +kernel
theorem dX4_digest_4 : decode cX4_digest 4 = .ok (.iconst 0, 1) := by decide +kernel
theorem dX4_digest_5 : decode cX4_digest 5 = .ok (.istore_n 3, 1) := by decide +kernel
theorem dX4_digest_6 : decode cX4_digest 6 = .ok (.iload_n 3, 1) := by decide +kernel
theorem dX4_digest_7 : decode cX4_digest 7 = .ok (.aload_n 0, 1) := by decide +kernel
theorem dX4_digest_8 : decode cX4_digest 8 = .ok (.getfield 10, 3) := by decide +kernel
theorem dX4_digest_11 : decode cX4_digest 11 = .ok (.getfield 56, 3) := by decide +kernel
theorem dX4_digest_14 : decode cX4_digest 14 = .ok (.if_icmp .ge 16, 3) := by decide +kernel
theorem dX4_digest_17 : decode cX4_digest 17 = .ok (.aload_n 0, 1) := by decide +kernel
theorem dX4_digest_18 : decode cX4_digest 18 = .ok (.lload_n 1, 1) := by decide +kernel
theorem dX4_digest_19 : decode cX4_digest 19 = .ok (.iload_n 3, 1) := by decide +kernel
theorem dX4_digest_20 : decode cX4_digest 20 = .ok (.invokevirtual 224, 3) := by decide +kernel
theorem dX4_digest_23 : decode cX4_digest 23 = .ok (.lstore_n 1, 1) := by decide +kernel
theorem dX4_digest_24 : decode cX4_digest 24 = .ok (.iinc 3 1, 3) := by decide +kernel
theorem dX4_digest_27 : decode cX4_digest 27 = .ok (.goto (-21), 3) := by decide +kernel
theorem dX4_digest_30 : decode cX4_digest 30 = .ok (.iconst 0, 1) := by decide +kernel
theorem dX4_digest_31 : decode cX4_digest 31 = .ok (.istore_n 3, 1) := by decide +kernel
theorem dX4_digest_32 : decode cX4_digest 32 = .ok (.iload_n 3, 1) := by decide +kernel
theorem dX4_digest_33 : decode cX4_digest 33 = .ok (.aload_n 0, 1) := by decide +kernel
theorem dX4_digest_34 : decode cX4_digest 34 = .ok (.getfield 19, 3) := by decide +kernel
theorem dX4_digest_37 : decode cX4_digest 37 = .ok (.getfield 103, 3) := by decide +kernel
theorem dX4_digest_40 : decode cX4_digest 40 = .ok (.if_icmp .ge 64, 3) := by decide +kernel
theorem dX4_digest_43 : decode cX4_digest 43 = .ok (.ldc2_w 228, 3) := by decide +kernel
theorem dX4_digest_46 : decode cX4_digest 46 = .ok (.lload_n 1, 1) := by decide +kernel
theorem dX4_digest_47 : decode cX4_digest 47 = .ok (.lmul, 1) := by decide +kernel
theorem dX4_digest_48 : decode cX4_digest 48 = .ok (.aload_n 0, 1) := by decide +kernel
theorem dX4_digest_49 : decode cX4_digest 49 = .ok (.getfield 19, 3) := by decide +kernel
theorem dX4_digest_52 : decode cX4_digest 52 = .ok (.getfield 118, 3) := by decide +kernel
theorem dX4_digest_55 : decode cX4_digest 55 = .ok (.iload_n 3, 1) := by decide +kernel
theorem dX4_digest_56 : decode cX4_digest 56 = .ok (.laload, 1) := by decide +kernel
theorem dX4_digest_57 : decode cX4_digest 57 = .ok (.ladd, 1) := by decide +kernel
theorem dX4_digest_58 : decode cX4_digest 58 = .ok (.lstore_n 1, 1) := by decide +kernel
theorem dX4_digest_59 : decode cX4_digest 59 = .ok (.iconst 0, 1) := by decide +kernel
theorem dX4_digest_60 : decode cX4_digest 60 = .ok (.istore 4, 2) := by decide +kernel
theorem dX4_digest_62 : decode cX4_digest 62 = .ok (.iload 4, 2) := by decide +kernel
theorem dX4_digest_64 : decode cX4_digest 64 = .ok (.aload_n 0, 1) := by decide +kernel
theorem dX4_digest_65 : decode cX4_digest 65 = .ok (.getfield 10, 3) := by decide +kernel
theorem dX4_digest_68 : decode cX4_digest 68 = .ok (.getfield 56, 3) := by decide +kernel
theorem dX4_digest_71 : decode cX4_digest 71 = .ok (.if_icmp .ge 27, 3) := by decide +kernel
theorem dX4_digest_74 : decode cX4_digest 74 = .ok (.ldc2_w 228, 3) := by decide +kernel
theorem dX4_digest_77 : decode cX4_digest 77 = .ok (.lload_n 1, 1) := by decide +kernel
theorem dX4_digest_78 : decode cX4_digest 78 = .ok (.lmul, 1) := by decide +kernel
theorem dX4_digest_79 : decode cX4_digest 79 = .ok (.aload_n 0, 1) := by decide +kernel
theorem dX4_digest_80 : decode cX4_digest 80 = .ok (.getfield 19, 3) := by decide +kernel
theorem dX4_digest_83 : decode cX4_digest 83 = .ok (.iload 4, 2) := by decide +kernel
theorem dX4_digest_85 : decode cX4_digest 85 = .ok (.iload_n 3, 1) := by decide +kernel
theorem dX4_digest_86 : decode cX4_digest 86 = .ok (.invokevirtual 110, 3) := by decide +kernel
theorem dX4_digest_89 : decode cX4_digest 89 = .ok (.i2l, 1) := by decide +kernel
theorem dX4_digest_90 : decode cX4_digest 90 = .ok (.ladd, 1) := by decide +kernel
theorem dX4_digest_91 : decode cX4_digest 91 = .ok (.lstore_n 1, 1) := by decide +kernel
theorem dX4_digest_92 : decode cX4_digest 92 = .ok (.iinc 4 1, 3) := by decide +kernel
theorem dX4_digest_95 : decode cX4_digest 95 = .ok (.goto (-33), 3) := by decide +kernel
theorem dX4_digest_98 : decode cX4_digest 98 = .ok (.iinc 3 1, 3) := by decide +kernel
theorem dX4_digest_101 : decode cX4_digest 101 = .ok (.goto (-69), 3) := by decide +kernel
theorem dX4_digest_104 : decode cX4_digest 104 = .ok (.lload_n 1, 1) := by decide +kernel
theorem dX4_digest_105 : decode cX4_digest 105 = .ok (.lreturn, 1) := by decide +kernel
theorem dX4_isKind_0 : decode cX4_isKind 0 = .ok (.iload_n 0, 1) := by decide +kernel
theorem dX4_isKind_1 : decode cX4_isKind 1 = .ok (.ifCond .lt 12, 3) := by decide +kernel
theorem dX4_isKind_4 : decode cX4_isKind 4 = .ok (.iload_n 0, 1) := by decide +kernel
theorem dX4_isKind_5 : decode cX4_isKind 5 = .ok (.iconst 3, 1) := by decide +kernel
theorem dX4_isKind_6 : decode cX4_isKind 6 = .ok (.if_icmp .gt 7, 3) := by decide +kernel
theorem dX4_isKind_9 : decode cX4_isKind 9 = .ok (.iconst 1, 1) := by decide +kernel
theorem dX4_isKind_10 : decode cX4_isKind 10 = .ok (.goto 4, 3) := by decide +kernel
theorem dX4_isKind_13 : decode cX4_isKind 13 = .ok (.iconst 0, 1) := by decide +kernel
theorem dX4_isKind_14 : decode cX4_isKind 14 = .ok (.ireturn, 1) := by decide +kernel
theorem dX4_isPlace_0 : decode cX4_isPlace 0 = .ok (.iload_n 0, 1) := by decide +kernel
theorem dX4_isPlace_1 : decode cX4_isPlace 1 = .ok (.ifCond .lt 12, 3) := by decide +kernel
theorem dX4_isPlace_4 : decode cX4_isPlace 4 = .ok (.iload_n 0, 1) := by decide +kernel
theorem dX4_isPlace_5 : decode cX4_isPlace 5 = .ok (.iconst 5, 1) := by decide +kernel
theorem dX4_isPlace_6 : decode cX4_isPlace 6 = .ok (.if_icmp .ge 7, 3) := by decide +kernel
theorem dX4_isPlace_9 : decode cX4_isPlace 9 = .ok (.iconst 1, 1) := by decide +kernel
theorem dX4_isPlace_10 : decode cX4_isPlace 10 = .ok (.goto 4, 3) := by decide +kernel
theorem dX4_isPlace_13 : decode cX4_isPlace 13 = .ok (.iconst 0, 1) := by decide +kernel
theorem dX4_isPlace_14 : decode cX4_isPlace 14 = .ok (.ireturn, 1) := by decide +kernel
theorem dX4_isStretch_0 : decode cX4_isStretch 0 = .ok (.iload_n 0, 1) := by decide +kernel
theorem dX4_isStretch_1 : decode cX4_isStretch 1 = .ok (.ifCond .lt 19, 3) := by decide +kernel
theorem dX4_isStretch_4 : decode cX4_isStretch 4 = .ok (.iload_n 0, 1) := by decide +kernel
theorem dX4_isStretch_5 : decode cX4_isStretch 5 = .ok (.iconst 5, 1) := by decide +kernel
theorem dX4_isStretch_6 : decode cX4_isStretch 6 = .ok (.if_icmp .gt 14, 3) := by decide +kernel
theorem dX4_isStretch_9 : decode cX4_isStretch 9 = .ok (.iload_n 1, 1) := by decide +kernel
theorem dX4_isStretch_10 : decode cX4_isStretch 10 = .ok (.iconst 5, 1) := by decide +kernel
theorem dX4_isStretch_11 : decode cX4_isStretch 11 = .ok (.iload_n 0, 1) := by decide +kernel
theorem dX4_isStretch_12 : decode cX4_isStretch 12 = .ok (.isub, 1) := by decide +kernel
theorem dX4_isStretch_13 : decode cX4_isStretch 13 = .ok (.if_icmp .gt 7, 3) := by decide +kernel
theorem dX4_isStretch_16 : decode cX4_isStretch 16 = .ok (.iconst 1, 1) := by decide +kernel
theorem dX4_isStretch_17 : decode cX4_isStretch 17 = .ok (.goto 4, 3) := by decide +kernel
theorem dX4_isStretch_20 : decode cX4_isStretch 20 = .ok (.iconst 0, 1) := by decide +kernel
theorem dX4_isStretch_21 : decode cX4_isStretch 21 = .ok (.ireturn, 1) := by decide +kernel
theorem dX4_isSpan_0 : decode cX4_isSpan 0 = .ok (.iload_n 0, 1) := by decide +kernel
theorem dX4_isSpan_1 : decode cX4_isSpan 1 = .ok (.ifCond .lt 14, 3) := by decide +kernel
theorem dX4_isSpan_4 : decode cX4_isSpan 4 = .ok (.iload_n 0, 1) := by decide +kernel
theorem dX4_isSpan_5 : decode cX4_isSpan 5 = .ok (.sipush 30000, 3) := by decide +kernel
theorem dX4_isSpan_8 : decode cX4_isSpan 8 = .ok (.if_icmp .gt 7, 3) := by decide +kernel
theorem dX4_isSpan_11 : decode cX4_isSpan 11 = .ok (.iconst 1, 1) := by decide +kernel
theorem dX4_isSpan_12 : decode cX4_isSpan 12 = .ok (.goto 4, 3) := by decide +kernel
theorem dX4_isSpan_15 : decode cX4_isSpan 15 = .ok (.iconst 0, 1) := by decide +kernel
theorem dX4_isSpan_16 : decode cX4_isSpan 16 = .ok (.ireturn, 1) := by decide +kernel
theorem dX4_isIn_0 : decode cX4_isIn 0 = .ok (.iload_n 1, 1) := by decide +kernel
theorem dX4_isIn_1 : decode cX4_isIn 1 = .ok (.iload_n 0, 1) := by decide +kernel
theorem dX4_isIn_2 : decode cX4_isIn 2 = .ok (.iushr, 1) := by decide +kernel
theorem dX4_isIn_3 : decode cX4_isIn 3 = .ok (.iconst 1, 1) := by decide +kernel
theorem dX4_isIn_4 : decode cX4_isIn 4 = .ok (.iand, 1) := by decide +kernel
theorem dX4_isIn_5 : decode cX4_isIn 5 = .ok (.iconst 1, 1) := by decide +kernel
theorem dX4_isIn_6 : decode cX4_isIn 6 = .ok (.if_icmp .ne 7, 3) := by decide +kernel
theorem dX4_isIn_9 : decode cX4_isIn 9 = .ok (.iconst 1, 1) := by decide +kernel
theorem dX4_isIn_10 : decode cX4_isIn 10 = .ok (.goto 4, 3) := by decide +kernel
theorem dX4_isIn_13 : decode cX4_isIn 13 = .ok (.iconst 0, 1) := by decide +kernel
theorem dX4_isIn_14 : decode cX4_isIn 14 = .ok (.ireturn, 1) := by decide +kernel
theorem dX4_refuse_0 : decode cX4_refuse 0 = .ok (.aload_n 0, 1) := by decide +kernel
theorem dX4_refuse_1 : decode cX4_refuse 1 = .ok (.iload_n 1, 1) := by decide +kernel
theorem dX4_refuse_2 : decode cX4_refuse 2 = .ok (.putfield 41, 3) := by decide +kernel
theorem dX4_refuse_5 : decode cX4_refuse 5 = .ok (.aload_n 0, 1) := by decide +kernel
theorem dX4_refuse_6 : decode cX4_refuse 6 = .ok (.getfield 37, 3) := by decide +kernel
theorem dX4_refuse_9 : decode cX4_refuse 9 = .ok (.iload_n 1, 1) := by decide +kernel
theorem dX4_refuse_10 : decode cX4_refuse 10 = .ok (.dup2, 1) := by decide +kernel
theorem dX4_refuse_11 : decode cX4_refuse 11 = .ok (.iaload, 1) := by decide +kernel
theorem dX4_refuse_12 : decode cX4_refuse 12 = .ok (.iconst 1, 1) := by decide +kernel
theorem dX4_refuse_13 : decode cX4_refuse 13 = .ok (.iadd, 1) := by decide +kernel
theorem dX4_refuse_14 : decode cX4_refuse 14 = .ok (.iastore, 1) := by decide +kernel
theorem dX4_refuse_15 : decode cX4_refuse 15 = .ok (.bipush (-3), 2) := by decide +kernel
theorem dX4_refuse_17 : decode cX4_refuse 17 = .ok (.ireturn, 1) := by decide +kernel
set_option maxRecDepth 20000 in
theorem ggX4_isFlaky_X0_wavers : GoodIn wsX4_isFlaky wsX0_wavers := goodIn_r _ [8, 9, 10, 11, 12, 13, 7, 14, 15, 16, 31, 32, 33, 34] (by decide +kernel) (by decide +kernel)
set_option maxRecDepth 20000 in
theorem gX4_isFlaky_X0_wavers : GoodIn wsX4_isFlaky (wsV RX4 230 RX0 yX0_wavers wsX0_wavers) := goodIn_app (goodIn_of _ (by decide +kernel)) ggX4_isFlaky_X0_wavers
theorem dX4_isFlaky_0 : decode cX4_isFlaky 0 = .ok (.aload_n 0, 1) := by decide +kernel
theorem dX4_isFlaky_1 : decode cX4_isFlaky 1 = .ok (.getfield 19, 3) := by decide +kernel
theorem dX4_isFlaky_4 : decode cX4_isFlaky 4 = .ok (.iload_n 1, 1) := by decide +kernel
theorem dX4_isFlaky_5 : decode cX4_isFlaky 5 = .ok (.aload_n 0, 1) := by decide +kernel
theorem dX4_isFlaky_6 : decode cX4_isFlaky 6 = .ok (.getfield 10, 3) := by decide +kernel
theorem dX4_isFlaky_9 : decode cX4_isFlaky 9 = .ok (.getfield 85, 3) := by decide +kernel
theorem dX4_isFlaky_12 : decode cX4_isFlaky 12 = .ok (.iload_n 1, 1) := by decide +kernel
theorem dX4_isFlaky_13 : decode cX4_isFlaky 13 = .ok (.laload, 1) := by decide +kernel
theorem dX4_isFlaky_14 : decode cX4_isFlaky 14 = .ok (.invokevirtual 230, 3) := by decide +kernel
theorem dX4_isFlaky_17 : decode cX4_isFlaky 17 = .ok (.ireturn, 1) := by decide +kernel
set_option maxRecDepth 20000 in
theorem ggX4_factOf_X3_countedTime : GoodIn wsX4_factOf wsX3_countedTime := goodIn_r _ [10, 11, 12, 55, 56, 57, 58, 59, 60, 61] (by decide +kernel) (by decide +kernel)
set_option maxRecDepth 20000 in
theorem gX4_factOf_X3_countedTime : GoodIn wsX4_factOf (wsV RX4 183 RX3 yX3_countedTime wsX3_countedTime) := goodIn_app (goodIn_of _ (by decide +kernel)) ggX4_factOf_X3_countedTime
set_option maxRecDepth 20000 in
theorem ggX4_factOf_X0_heat : GoodIn wsX4_factOf wsX0_heat := goodIn_r _ [17, 18, 19, 20, 62, 63, 64, 65] (by decide +kernel) (by decide +kernel)
set_option maxRecDepth 20000 in
theorem gX4_factOf_X0_heat : GoodIn wsX4_factOf (wsV RX4 237 RX0 yX0_heat wsX0_heat) := goodIn_app (goodIn_of _ (by decide +kernel)) ggX4_factOf_X0_heat
set_option maxRecDepth 20000 in
theorem ggX4_factOf_X4_isFlaky : GoodIn wsX4_factOf wsX4_isFlaky := goodIn_r _ [25, 4, 1, 26, 27, 28, 29, 16, 30, 18, 31, 32, 33, 34, 35, 19, 36, 48, 49, 50, 51, 52, 53, 54, 55, 56, 57, 58, 59, 60, 61, 62, 63, 64, 65] (by decide +kernel) (by decide +kernel)
set_option maxRecDepth 20000 in
theorem gX4_factOf_X4_isFlaky : GoodIn wsX4_factOf (wsV RX4 201 RX4 yX4_isFlaky wsX4_isFlaky) := goodIn_app (goodIn_of _ (by decide +kernel)) ggX4_factOf_X4_isFlaky
set_option maxRecDepth 20000 in
theorem ggX4_factOf_X0_fellLast : GoodIn wsX4_factOf wsX0_fellLast := goodIn_r _ [40, 19, 36, 62, 63, 64, 65] (by decide +kernel) (by decide +kernel)
set_option maxRecDepth 20000 in
theorem gX4_factOf_X0_fellLast : GoodIn wsX4_factOf (wsV RX4 240 RX0 yX0_fellLast wsX0_fellLast) := goodIn_app (goodIn_of _ (by decide +kernel)) ggX4_factOf_X0_fellLast
set_option maxRecDepth 20000 in
theorem ggX4_factOf_J6_bitCount_0f7a4 : GoodIn wsX4_factOf wsJ6_bitCount_0f7a4 := goodIn_r _ [44, 45, 46, 47] (by decide +kernel) (by decide +kernel)
set_option maxRecDepth 20000 in
theorem gX4_factOf_J6_bitCount_0f7a4 : GoodIn wsX4_factOf (va_wsS RX4 171 yJ6_bitCount_0f7a4 wsJ6_bitCount_0f7a4) := goodIn_app (goodIn_of _ (by decide +kernel)) ggX4_factOf_J6_bitCount_0f7a4
theorem dX4_factOf_0 : decode cX4_factOf 0 = .ok (.iload_n 2, 1) := by decide +kernel
theorem dX4_factOf_1 : decode cX4_factOf 1 = .ok (.tableswitch 116 0 5 #[39, 49, 58, 68, 77, 91], 39) := by decide +kernel
theorem dX4_factOf_40 : decode cX4_factOf 40 = .ok (.aload_n 0, 1) := by decide +kernel
theorem dX4_factOf_41 : decode cX4_factOf 41 = .ok (.getfield 10, 3) := by decide +kernel
theorem dX4_factOf_44 : decode cX4_factOf 44 = .ok (.getfield 63, 3) := by decide +kernel
theorem dX4_factOf_47 : decode cX4_factOf 47 = .ok (.iload_n 1, 1) := by decide +kernel
theorem dX4_factOf_48 : decode cX4_factOf 48 = .ok (.iaload, 1) := by decide +kernel
theorem dX4_factOf_49 : decode cX4_factOf 49 = .ok (.ireturn, 1) := by decide +kernel
theorem dX4_factOf_50 : decode cX4_factOf 50 = .ok (.aload_n 0, 1) := by decide +kernel
theorem dX4_factOf_51 : decode cX4_factOf 51 = .ok (.getfield 10, 3) := by decide +kernel
theorem dX4_factOf_54 : decode cX4_factOf 54 = .ok (.iload_n 1, 1) := by decide +kernel
theorem dX4_factOf_55 : decode cX4_factOf 55 = .ok (.invokevirtual 183, 3) := by decide +kernel
theorem dX4_factOf_58 : decode cX4_factOf 58 = .ok (.ireturn, 1) := by decide +kernel
theorem dX4_factOf_59 : decode cX4_factOf 59 = .ok (.aload_n 0, 1) := by decide +kernel
theorem dX4_factOf_60 : decode cX4_factOf 60 = .ok (.getfield 10, 3) := by decide +kernel
theorem dX4_factOf_63 : decode cX4_factOf 63 = .ok (.getfield 234, 3) := by decide +kernel
theorem dX4_factOf_66 : decode cX4_factOf 66 = .ok (.iload_n 1, 1) := by decide +kernel
theorem dX4_factOf_67 : decode cX4_factOf 67 = .ok (.iaload, 1) := by decide +kernel
theorem dX4_factOf_68 : decode cX4_factOf 68 = .ok (.ireturn, 1) := by decide +kernel
theorem dX4_factOf_69 : decode cX4_factOf 69 = .ok (.aload_n 0, 1) := by decide +kernel
theorem dX4_factOf_70 : decode cX4_factOf 70 = .ok (.getfield 19, 3) := by decide +kernel
theorem dX4_factOf_73 : decode cX4_factOf 73 = .ok (.iload_n 1, 1) := by decide +kernel
theorem dX4_factOf_74 : decode cX4_factOf 74 = .ok (.invokevirtual 237, 3) := by decide +kernel
theorem dX4_factOf_77 : decode cX4_factOf 77 = .ok (.ireturn, 1) := by decide +kernel
theorem dX4_factOf_78 : decode cX4_factOf 78 = .ok (.aload_n 0, 1) := by decide +kernel
theorem dX4_factOf_79 : decode cX4_factOf 79 = .ok (.iload_n 1, 1) := by decide +kernel
theorem dX4_factOf_80 : decode cX4_factOf 80 = .ok (.invokevirtual 201, 3) := by decide +kernel
theorem dX4_factOf_83 : decode cX4_factOf 83 = .ok (.ifCond .eq 7, 3) := by decide +kernel
theorem dX4_factOf_86 : decode cX4_factOf 86 = .ok (.iconst 1, 1) := by decide +kernel
theorem dX4_factOf_87 : decode cX4_factOf 87 = .ok (.goto 4, 3) := by decide +kernel
theorem dX4_factOf_90 : decode cX4_factOf 90 = .ok (.iconst 0, 1) := by decide +kernel
theorem dX4_factOf_91 : decode cX4_factOf 91 = .ok (.ireturn, 1) := by decide +kernel
theorem dX4_factOf_92 : decode cX4_factOf 92 = .ok (.aload_n 0, 1) := by decide +kernel
theorem dX4_factOf_93 : decode cX4_factOf 93 = .ok (.getfield 19, 3) := by decide +kernel
theorem dX4_factOf_96 : decode cX4_factOf 96 = .ok (.iload_n 1, 1) := by decide +kernel
theorem dX4_factOf_97 : decode cX4_factOf 97 = .ok (.invokevirtual 240, 3) := by decide +kernel
theorem dX4_factOf_100 : decode cX4_factOf 100 = .ok (.ifCond .eq 15, 3) := by decide +kernel
theorem dX4_factOf_103 : decode cX4_factOf 103 = .ok (.aload_n 0, 1) := by decide +kernel
theorem dX4_factOf_104 : decode cX4_factOf 104 = .ok (.iload_n 1, 1) := by decide +kernel
theorem dX4_factOf_105 : decode cX4_factOf 105 = .ok (.invokevirtual 201, 3) := by decide +kernel
theorem dX4_factOf_108 : decode cX4_factOf 108 = .ok (.ifCond .ne 7, 3) := by decide +kernel
theorem dX4_factOf_111 : decode cX4_factOf 111 = .ok (.iconst 1, 1) := by decide +kernel
theorem dX4_factOf_112 : decode cX4_factOf 112 = .ok (.goto 4, 3) := by decide +kernel
theorem dX4_factOf_115 : decode cX4_factOf 115 = .ok (.iconst 0, 1) := by decide +kernel
theorem dX4_factOf_116 : decode cX4_factOf 116 = .ok (.ireturn, 1) := by decide +kernel
theorem dX4_factOf_117 : decode cX4_factOf 117 = .ok (.aload_n 0, 1) := by decide +kernel
theorem dX4_factOf_118 : decode cX4_factOf 118 = .ok (.getfield 10, 3) := by decide +kernel
theorem dX4_factOf_121 : decode cX4_factOf 121 = .ok (.getfield 180, 3) := by decide +kernel
theorem dX4_factOf_124 : decode cX4_factOf 124 = .ok (.iload_n 1, 1) := by decide +kernel
theorem dX4_factOf_125 : decode cX4_factOf 125 = .ok (.iaload, 1) := by decide +kernel
theorem dX4_factOf_126 : decode cX4_factOf 126 = .ok (.invokestatic 171, 3) := by decide +kernel
theorem dX4_factOf_129 : decode cX4_factOf 129 = .ok (.ireturn, 1) := by decide +kernel
set_option maxRecDepth 20000 in
theorem ggX4_digestOfTest_X4_factOf : GoodIn wsX4_digestOfTest wsX4_factOf := goodIn_r _ [8, 2, 9, 10, 11, 12, 13, 14, 15, 16, 17, 18, 19, 20, 21, 22, 23, 24, 25, 26, 27, 28, 29, 30, 7, 31, 32, 33, 34, 35, 36, 37, 38, 39, 40, 41, 42, 43, 44, 45, 46, 47, 48, 49, 50, 51, 52, 53, 60, 61, 62, 63, 64, 65, 66, 67, 68, 69, 70, 71, 72, 73, 74, 75, 76, 77] (by decide +kernel) (by decide +kernel)
set_option maxRecDepth 20000 in
theorem gX4_digestOfTest_X4_factOf : GoodIn wsX4_digestOfTest (wsV RX4 97 RX4 yX4_factOf wsX4_factOf) := goodIn_app (goodIn_of _ (by decide +kernel)) ggX4_digestOfTest_X4_factOf
set_option maxRecDepth 20000 in
theorem ggX4_digestOfTest_X3_reachByte : GoodIn wsX4_digestOfTest wsX3_reachByte := goodIn_r _ [57, 58, 59, 67, 68, 69, 70, 71, 72, 73] (by decide +kernel) (by decide +kernel)
set_option maxRecDepth 20000 in
theorem gX4_digestOfTest_X3_reachByte : GoodIn wsX4_digestOfTest (wsV RX4 77 RX3 yX3_reachByte wsX3_reachByte) := goodIn_app (goodIn_of _ (by decide +kernel)) ggX4_digestOfTest_X3_reachByte
theorem dX4_digestOfTest_0 : decode cX4_digestOfTest 0 = .ok (.lload_n 1, 1) := by decide +kernel
theorem dX4_digestOfTest_1 : decode cX4_digestOfTest 1 = .ok (.lstore 4, 2) := by decide +kernel
theorem dX4_digestOfTest_3 : decode cX4_digestOfTest 3 = .ok (.iconst 0, 1) := by decide +kernel
theorem dX4_digestOfTest_4 : decode cX4_digestOfTest 4 = .ok (.istore 6, 2) := by decide +kernel
theorem dX4_digestOfTest_6 : decode cX4_digestOfTest 6 = .ok (.iload 6, 2) := by decide +kernel
theorem dX4_digestOfTest_8 : decode cX4_digestOfTest 8 = .ok (.bipush 6, 2) := by decide +kernel
theorem dX4_digestOfTest_10 : decode cX4_digestOfTest 10 = .ok (.if_icmp .gt 26, 3) := by decide +kernel
theorem dX4_digestOfTest_13 : decode cX4_digestOfTest 13 = .ok (.ldc2_w 228, 3) := by decide +kernel
theorem dX4_digestOfTest_16 : decode cX4_digestOfTest 16 = .ok (.lload 4, 2) := by decide +kernel
theorem dX4_digestOfTest_18 : decode cX4_digestOfTest 18 = .ok (.lmul, 1) := by decide +kernel
theorem dX4_digestOfTest_19 : decode cX4_digestOfTest 19 = .ok (.aload_n 0, 1) := by decide +kernel
theorem dX4_digestOfTest_20 : decode cX4_digestOfTest 20 = .ok (.iload_n 3, 1) := by decide +kernel
theorem dX4_digestOfTest_21 : decode cX4_digestOfTest 21 = .ok (.iload 6, 2) := by decide +kernel
theorem dX4_digestOfTest_23 : decode cX4_digestOfTest 23 = .ok (.invokevirtual 97, 3) := by decide +kernel
theorem dX4_digestOfTest_26 : decode cX4_digestOfTest 26 = .ok (.i2l, 1) := by decide +kernel
theorem dX4_digestOfTest_27 : decode cX4_digestOfTest 27 = .ok (.ladd, 1) := by decide +kernel
theorem dX4_digestOfTest_28 : decode cX4_digestOfTest 28 = .ok (.lstore 4, 2) := by decide +kernel
theorem dX4_digestOfTest_30 : decode cX4_digestOfTest 30 = .ok (.iinc 6 1, 3) := by decide +kernel
theorem dX4_digestOfTest_33 : decode cX4_digestOfTest 33 = .ok (.goto (-27), 3) := by decide +kernel
theorem dX4_digestOfTest_36 : decode cX4_digestOfTest 36 = .ok (.aload_n 0, 1) := by decide +kernel
theorem dX4_digestOfTest_37 : decode cX4_digestOfTest 37 = .ok (.getfield 10, 3) := by decide +kernel
theorem dX4_digestOfTest_40 : decode cX4_digestOfTest 40 = .ok (.getfield 70, 3) := by decide +kernel
theorem dX4_digestOfTest_43 : decode cX4_digestOfTest 43 = .ok (.iload_n 3, 1) := by decide +kernel
theorem dX4_digestOfTest_44 : decode cX4_digestOfTest 44 = .ok (.baload, 1) := by decide +kernel
theorem dX4_digestOfTest_45 : decode cX4_digestOfTest 45 = .ok (.ifCond .eq 12, 3) := by decide +kernel
theorem dX4_digestOfTest_48 : decode cX4_digestOfTest 48 = .ok (.ldc2_w 228, 3) := by decide +kernel
theorem dX4_digestOfTest_51 : decode cX4_digestOfTest 51 = .ok (.lload 4, 2) := by decide +kernel
theorem dX4_digestOfTest_53 : decode cX4_digestOfTest 53 = .ok (.lmul, 1) := by decide +kernel
theorem dX4_digestOfTest_54 : decode cX4_digestOfTest 54 = .ok (.lconst 1, 1) := by decide +kernel
theorem dX4_digestOfTest_55 : decode cX4_digestOfTest 55 = .ok (.lsub, 1) := by decide +kernel
theorem dX4_digestOfTest_56 : decode cX4_digestOfTest 56 = .ok (.lreturn, 1) := by decide +kernel
theorem dX4_digestOfTest_57 : decode cX4_digestOfTest 57 = .ok (.iconst 0, 1) := by decide +kernel
theorem dX4_digestOfTest_58 : decode cX4_digestOfTest 58 = .ok (.istore 6, 2) := by decide +kernel
theorem dX4_digestOfTest_60 : decode cX4_digestOfTest 60 = .ok (.iload 6, 2) := by decide +kernel
theorem dX4_digestOfTest_62 : decode cX4_digestOfTest 62 = .ok (.iconst 5, 1) := by decide +kernel
theorem dX4_digestOfTest_63 : decode cX4_digestOfTest 63 = .ok (.if_icmp .ge 29, 3) := by decide +kernel
theorem dX4_digestOfTest_66 : decode cX4_digestOfTest 66 = .ok (.ldc2_w 228, 3) := by decide +kernel
theorem dX4_digestOfTest_69 : decode cX4_digestOfTest 69 = .ok (.lload 4, 2) := by decide +kernel
theorem dX4_digestOfTest_71 : decode cX4_digestOfTest 71 = .ok (.lmul, 1) := by decide +kernel
theorem dX4_digestOfTest_72 : decode cX4_digestOfTest 72 = .ok (.aload_n 0, 1) := by decide +kernel
theorem dX4_digestOfTest_73 : decode cX4_digestOfTest 73 = .ok (.getfield 10, 3) := by decide +kernel
theorem dX4_digestOfTest_76 : decode cX4_digestOfTest 76 = .ok (.iload_n 3, 1) := by decide +kernel
theorem dX4_digestOfTest_77 : decode cX4_digestOfTest 77 = .ok (.iload 6, 2) := by decide +kernel
theorem dX4_digestOfTest_79 : decode cX4_digestOfTest 79 = .ok (.invokevirtual 77, 3) := by decide +kernel
theorem dX4_digestOfTest_82 : decode cX4_digestOfTest 82 = .ok (.i2l, 1) := by decide +kernel
theorem dX4_digestOfTest_83 : decode cX4_digestOfTest 83 = .ok (.ladd, 1) := by decide +kernel
theorem dX4_digestOfTest_84 : decode cX4_digestOfTest 84 = .ok (.lstore 4, 2) := by decide +kernel
theorem dX4_digestOfTest_86 : decode cX4_digestOfTest 86 = .ok (.iinc 6 1, 3) := by decide +kernel
theorem dX4_digestOfTest_89 : decode cX4_digestOfTest 89 = .ok (.goto (-29), 3) := by decide +kernel
theorem dX4_digestOfTest_92 : decode cX4_digestOfTest 92 = .ok (.lload 4, 2) := by decide +kernel
theorem dX4_digestOfTest_94 : decode cX4_digestOfTest 94 = .ok (.lreturn, 1) := by decide +kernel
set_option maxRecDepth 20000 in
theorem ggX4_worthiest_X4_isIn : GoodIn wsX4_worthiest wsX4_isIn := goodIn_r _ [13] (by decide +kernel) (by decide +kernel)
set_option maxRecDepth 20000 in
theorem gX4_worthiest_X4_isIn : GoodIn wsX4_worthiest (va_wsS RX4 177 yX4_isIn wsX4_isIn) := goodIn_app (goodIn_of _ (by decide +kernel)) ggX4_worthiest_X4_isIn
set_option maxRecDepth 20000 in
theorem ggX4_worthiest_X3_timeOf : GoodIn wsX4_worthiest wsX3_timeOf := goodIn_r _ [18, 19, 11, 12, 13, 20, 21, 22, 17, 23, 24, 25, 53, 54, 55, 56, 57, 58, 59] (by decide +kernel) (by decide +kernel)
set_option maxRecDepth 20000 in
theorem gX4_worthiest_X3_timeOf : GoodIn wsX4_worthiest (wsV RX4 243 RX3 yX3_timeOf wsX3_timeOf) := goodIn_app (goodIn_of _ (by decide +kernel)) ggX4_worthiest_X3_timeOf
set_option maxRecDepth 20000 in
theorem ggX4_worthiest_X3_partsOf : GoodIn wsX4_worthiest wsX3_partsOf := goodIn_r _ [29, 19, 30, 11, 12, 13, 53, 54, 55, 56, 57, 58, 59] (by decide +kernel) (by decide +kernel)
set_option maxRecDepth 20000 in
theorem gX4_worthiest_X3_partsOf : GoodIn wsX4_worthiest (wsV RX4 246 RX3 yX3_partsOf wsX3_partsOf) := goodIn_app (goodIn_of _ (by decide +kernel)) ggX4_worthiest_X3_partsOf
set_option maxRecDepth 20000 in
theorem ggX4_worthiest_J13_bitCount_95d88 : GoodIn wsX4_worthiest wsJ13_bitCount_95d88 := goodIn_r _ [34, 35, 36, 37] (by decide +kernel) (by decide +kernel)
set_option maxRecDepth 20000 in
theorem gX4_worthiest_J13_bitCount_95d88 : GoodIn wsX4_worthiest (va_wsS RX4 124 yJ13_bitCount_95d88 wsJ13_bitCount_95d88) := goodIn_app (goodIn_of _ (by decide +kernel)) ggX4_worthiest_J13_bitCount_95d88
set_option maxRecDepth 20000 in
theorem ggX4_worthiest_X0_heat : GoodIn wsX4_worthiest wsX0_heat := goodIn_r _ [42, 43, 44, 45, 67, 68, 69, 70] (by decide +kernel) (by decide +kernel)
set_option maxRecDepth 20000 in
theorem gX4_worthiest_X0_heat : GoodIn wsX4_worthiest (wsV RX4 237 RX0 yX0_heat wsX0_heat) := goodIn_app (goodIn_of _ (by decide +kernel)) ggX4_worthiest_X0_heat
theorem dX4_worthiest_0 : decode cX4_worthiest 0 = .ok (.bipush (-9), 2) := by decide +kernel
theorem dX4_worthiest_2 : decode cX4_worthiest 2 = .ok (.istore_n 3, 1) := by decide +kernel
theorem dX4_worthiest_3 : decode cX4_worthiest 3 = .ok (.lconst 0, 1) := by decide +kernel
theorem dX4_worthiest_4 : decode cX4_worthiest 4 = .ok (.lstore 4, 2) := by decide +kernel
theorem dX4_worthiest_6 : decode cX4_worthiest 6 = .ok (.lconst 1, 1) := by decide +kernel
theorem dX4_worthiest_7 : decode cX4_worthiest 7 = .ok (.lstore 6, 2) := by decide +kernel
theorem dX4_worthiest_9 : decode cX4_worthiest 9 = .ok (.iconst 0, 1) := by decide +kernel
theorem dX4_worthiest_10 : decode cX4_worthiest 10 = .ok (.istore 8, 2) := by decide +kernel
theorem dX4_worthiest_12 : decode cX4_worthiest 12 = .ok (.iload 8, 2) := by decide +kernel
theorem dX4_worthiest_14 : decode cX4_worthiest 14 = .ok (.aload_n 0, 1) := by decide +kernel
theorem dX4_worthiest_15 : decode cX4_worthiest 15 = .ok (.getfield 10, 3) := by decide +kernel
theorem dX4_worthiest_18 : decode cX4_worthiest 18 = .ok (.getfield 56, 3) := by decide +kernel
theorem dX4_worthiest_21 : decode cX4_worthiest 21 = .ok (.if_icmp .ge 138, 3) := by decide +kernel
theorem dX4_worthiest_24 : decode cX4_worthiest 24 = .ok (.iload 8, 2) := by decide +kernel
theorem dX4_worthiest_26 : decode cX4_worthiest 26 = .ok (.iload_n 1, 1) := by decide +kernel
theorem dX4_worthiest_27 : decode cX4_worthiest 27 = .ok (.invokestatic 177, 3) := by decide +kernel
theorem dX4_worthiest_30 : decode cX4_worthiest 30 = .ok (.ifCond .eq 123, 3) := by decide +kernel
theorem dX4_worthiest_33 : decode cX4_worthiest 33 = .ok (.aload_n 0, 1) := by decide +kernel
theorem dX4_worthiest_34 : decode cX4_worthiest 34 = .ok (.getfield 10, 3) := by decide +kernel
theorem dX4_worthiest_37 : decode cX4_worthiest 37 = .ok (.getfield 180, 3) := by decide +kernel
theorem dX4_worthiest_40 : decode cX4_worthiest 40 = .ok (.iload 8, 2) := by decide +kernel
theorem dX4_worthiest_42 : decode cX4_worthiest 42 = .ok (.iaload, 1) := by decide +kernel
theorem dX4_worthiest_43 : decode cX4_worthiest 43 = .ok (.aload_n 0, 1) := by decide +kernel
theorem dX4_worthiest_44 : decode cX4_worthiest 44 = .ok (.getfield 26, 3) := by decide +kernel
theorem dX4_worthiest_47 : decode cX4_worthiest 47 = .ok (.getfield 147, 3) := by decide +kernel
theorem dX4_worthiest_50 : decode cX4_worthiest 50 = .ok (.iconst (-1), 1) := by decide +kernel
theorem dX4_worthiest_51 : decode cX4_worthiest 51 = .ok (.ixor, 1) := by decide +kernel
theorem dX4_worthiest_52 : decode cX4_worthiest 52 = .ok (.iand, 1) := by decide +kernel
theorem dX4_worthiest_53 : decode cX4_worthiest 53 = .ok (.istore 9, 2) := by decide +kernel
theorem dX4_worthiest_55 : decode cX4_worthiest 55 = .ok (.aload_n 0, 1) := by decide +kernel
theorem dX4_worthiest_56 : decode cX4_worthiest 56 = .ok (.getfield 10, 3) := by decide +kernel
theorem dX4_worthiest_59 : decode cX4_worthiest 59 = .ok (.iload 9, 2) := by decide +kernel
theorem dX4_worthiest_61 : decode cX4_worthiest 61 = .ok (.invokevirtual 243, 3) := by decide +kernel
theorem dX4_worthiest_64 : decode cX4_worthiest 64 = .ok (.i2l, 1) := by decide +kernel
theorem dX4_worthiest_65 : decode cX4_worthiest 65 = .ok (.lstore 10, 2) := by decide +kernel
theorem dX4_worthiest_67 : decode cX4_worthiest 67 = .ok (.aload_n 0, 1) := by decide +kernel
theorem dX4_worthiest_68 : decode cX4_worthiest 68 = .ok (.getfield 10, 3) := by decide +kernel
theorem dX4_worthiest_71 : decode cX4_worthiest 71 = .ok (.iload 9, 2) := by decide +kernel
theorem dX4_worthiest_73 : decode cX4_worthiest 73 = .ok (.invokevirtual 246, 3) := by decide +kernel
theorem dX4_worthiest_76 : decode cX4_worthiest 76 = .ok (.aload_n 0, 1) := by decide +kernel
theorem dX4_worthiest_77 : decode cX4_worthiest 77 = .ok (.getfield 26, 3) := by decide +kernel
theorem dX4_worthiest_80 : decode cX4_worthiest 80 = .ok (.getfield 249, 3) := by decide +kernel
theorem dX4_worthiest_83 : decode cX4_worthiest 83 = .ok (.land, 1) := by decide +kernel
theorem dX4_worthiest_84 : decode cX4_worthiest 84 = .ok (.aload_n 0, 1) := by decide +kernel
theorem dX4_worthiest_85 : decode cX4_worthiest 85 = .ok (.getfield 26, 3) := by decide +kernel
theorem dX4_worthiest_88 : decode cX4_worthiest 88 = .ok (.getfield 252, 3) := by decide +kernel
theorem dX4_worthiest_91 : decode cX4_worthiest 91 = .ok (.ldc2_w 204, 3) := by decide +kernel
theorem dX4_worthiest_94 : decode cX4_worthiest 94 = .ok (.lxor, 1) := by decide +kernel
theorem dX4_worthiest_95 : decode cX4_worthiest 95 = .ok (.land, 1) := by decide +kernel
theorem dX4_worthiest_96 : decode cX4_worthiest 96 = .ok (.lstore 12, 2) := by decide +kernel
theorem dX4_worthiest_98 : decode cX4_worthiest 98 = .ok (.lload 12, 2) := by decide +kernel
theorem dX4_worthiest_100 : decode cX4_worthiest 100 = .ok (.invokestatic 124, 3) := by decide +kernel
theorem dX4_worthiest_103 : decode cX4_worthiest 103 = .ok (.i2l, 1) := by decide +kernel
theorem dX4_worthiest_104 : decode cX4_worthiest 104 = .ok (.bipush 16, 2) := by decide +kernel
theorem dX4_worthiest_106 : decode cX4_worthiest 106 = .ok (.aload_n 0, 1) := by decide +kernel
theorem dX4_worthiest_107 : decode cX4_worthiest 107 = .ok (.getfield 19, 3) := by decide +kernel
theorem dX4_worthiest_110 : decode cX4_worthiest 110 = .ok (.iload 8, 2) := by decide +kernel
theorem dX4_worthiest_112 : decode cX4_worthiest 112 = .ok (.invokevirtual 237, 3) := by decide +kernel
theorem dX4_worthiest_115 : decode cX4_worthiest 115 = .ok (.iadd, 1) := by decide +kernel
theorem dX4_worthiest_116 : decode cX4_worthiest 116 = .ok (.i2l, 1) := by decide +kernel
theorem dX4_worthiest_117 : decode cX4_worthiest 117 = .ok (.lmul, 1) := by decide +kernel
theorem dX4_worthiest_118 : decode cX4_worthiest 118 = .ok (.lstore 14, 2) := by decide +kernel
theorem dX4_worthiest_120 : decode cX4_worthiest 120 = .ok (.lload 10, 2) := by decide +kernel
theorem dX4_worthiest_122 : decode cX4_worthiest 122 = .ok (.iload_n 2, 1) := by decide +kernel
theorem dX4_worthiest_123 : decode cX4_worthiest 123 = .ok (.i2l, 1) := by decide +kernel
theorem dX4_worthiest_124 : decode cX4_worthiest 124 = .ok (.lcmp, 1) := by decide +kernel
theorem dX4_worthiest_125 : decode cX4_worthiest 125 = .ok (.ifCond .gt 28, 3) := by decide +kernel
theorem dX4_worthiest_128 : decode cX4_worthiest 128 = .ok (.lload 14, 2) := by decide +kernel
theorem dX4_worthiest_130 : decode cX4_worthiest 130 = .ok (.lload 6, 2) := by decide +kernel
theorem dX4_worthiest_132 : decode cX4_worthiest 132 = .ok (.lmul, 1) := by decide +kernel
theorem dX4_worthiest_133 : decode cX4_worthiest 133 = .ok (.lload 4, 2) := by decide +kernel
theorem dX4_worthiest_135 : decode cX4_worthiest 135 = .ok (.lload 10, 2) := by decide +kernel
theorem dX4_worthiest_137 : decode cX4_worthiest 137 = .ok (.lmul, 1) := by decide +kernel
theorem dX4_worthiest_138 : decode cX4_worthiest 138 = .ok (.lcmp, 1) := by decide +kernel
theorem dX4_worthiest_139 : decode cX4_worthiest 139 = .ok (.ifCond .le 14, 3) := by decide +kernel
theorem dX4_worthiest_142 : decode cX4_worthiest 142 = .ok (.iload 8, 2) := by decide +kernel
theorem dX4_worthiest_144 : decode cX4_worthiest 144 = .ok (.istore_n 3, 1) := by decide +kernel
theorem dX4_worthiest_145 : decode cX4_worthiest 145 = .ok (.lload 14, 2) := by decide +kernel
theorem dX4_worthiest_147 : decode cX4_worthiest 147 = .ok (.lstore 4, 2) := by decide +kernel
theorem dX4_worthiest_149 : decode cX4_worthiest 149 = .ok (.lload 10, 2) := by decide +kernel
theorem dX4_worthiest_151 : decode cX4_worthiest 151 = .ok (.lstore 6, 2) := by decide +kernel
theorem dX4_worthiest_153 : decode cX4_worthiest 153 = .ok (.iinc 8 1, 3) := by decide +kernel
theorem dX4_worthiest_156 : decode cX4_worthiest 156 = .ok (.goto (-144), 3) := by decide +kernel
theorem dX4_worthiest_159 : decode cX4_worthiest 159 = .ok (.iload_n 3, 1) := by decide +kernel
theorem dX4_worthiest_160 : decode cX4_worthiest 160 = .ok (.ireturn, 1) := by decide +kernel
set_option maxRecDepth 20000 in
theorem ggX4_takeChain_X4_isIn : GoodIn wsX4_takeChain wsX4_isIn := goodIn_r _ [10] (by decide +kernel) (by decide +kernel)
set_option maxRecDepth 20000 in
theorem gX4_takeChain_X4_isIn : GoodIn wsX4_takeChain (va_wsS RX4 177 yX4_isIn wsX4_isIn) := goodIn_app (goodIn_of _ (by decide +kernel)) ggX4_takeChain_X4_isIn
set_option maxRecDepth 20000 in
theorem ggX4_takeChain_X3_countedTime : GoodIn wsX4_takeChain wsX3_countedTime := goodIn_r _ [15, 16, 17, 35, 36, 37, 38, 39, 40, 41] (by decide +kernel) (by decide +kernel)
set_option maxRecDepth 20000 in
theorem gX4_takeChain_X3_countedTime : GoodIn wsX4_takeChain (wsV RX4 183 RX3 yX3_countedTime wsX3_countedTime) := goodIn_app (goodIn_of _ (by decide +kernel)) ggX4_takeChain_X3_countedTime
set_option maxRecDepth 20000 in
theorem ggX4_takeChain_X1_take : GoodIn wsX4_takeChain wsX1_take := goodIn_r _ [22, 23, 24, 25, 26, 27, 42, 43, 44, 45, 46, 47, 48] (by decide +kernel) (by decide +kernel)
set_option maxRecDepth 20000 in
theorem gX4_takeChain_X1_take : GoodIn wsX4_takeChain (wsV RX4 255 RX1 yX1_take wsX1_take) := goodIn_app (goodIn_of _ (by decide +kernel)) ggX4_takeChain_X1_take
theorem dX4_takeChain_0 : decode cX4_takeChain 0 = .ok (.aload_n 0, 1) := by decide +kernel
theorem dX4_takeChain_1 : decode cX4_takeChain 1 = .ok (.getfield 10, 3) := by decide +kernel
theorem dX4_takeChain_4 : decode cX4_takeChain 4 = .ok (.getfield 180, 3) := by decide +kernel
theorem dX4_takeChain_7 : decode cX4_takeChain 7 = .ok (.iload_n 1, 1) := by decide +kernel
theorem dX4_takeChain_8 : decode cX4_takeChain 8 = .ok (.iaload, 1) := by decide +kernel
theorem dX4_takeChain_9 : decode cX4_takeChain 9 = .ok (.aload_n 0, 1) := by decide +kernel
theorem dX4_takeChain_10 : decode cX4_takeChain 10 = .ok (.getfield 26, 3) := by decide +kernel
theorem dX4_takeChain_13 : decode cX4_takeChain 13 = .ok (.getfield 147, 3) := by decide +kernel
theorem dX4_takeChain_16 : decode cX4_takeChain 16 = .ok (.iconst (-1), 1) := by decide +kernel
theorem dX4_takeChain_17 : decode cX4_takeChain 17 = .ok (.ixor, 1) := by decide +kernel
theorem dX4_takeChain_18 : decode cX4_takeChain 18 = .ok (.iand, 1) := by decide +kernel
theorem dX4_takeChain_19 : decode cX4_takeChain 19 = .ok (.istore_n 2, 1) := by decide +kernel
theorem dX4_takeChain_20 : decode cX4_takeChain 20 = .ok (.iconst 0, 1) := by decide +kernel
theorem dX4_takeChain_21 : decode cX4_takeChain 21 = .ok (.istore_n 3, 1) := by decide +kernel
theorem dX4_takeChain_22 : decode cX4_takeChain 22 = .ok (.iload_n 3, 1) := by decide +kernel
theorem dX4_takeChain_23 : decode cX4_takeChain 23 = .ok (.aload_n 0, 1) := by decide +kernel
theorem dX4_takeChain_24 : decode cX4_takeChain 24 = .ok (.getfield 10, 3) := by decide +kernel
theorem dX4_takeChain_27 : decode cX4_takeChain 27 = .ok (.getfield 56, 3) := by decide +kernel
theorem dX4_takeChain_30 : decode cX4_takeChain 30 = .ok (.if_icmp .ge 42, 3) := by decide +kernel
theorem dX4_takeChain_33 : decode cX4_takeChain 33 = .ok (.iload_n 3, 1) := by decide +kernel
theorem dX4_takeChain_34 : decode cX4_takeChain 34 = .ok (.iload_n 2, 1) := by decide +kernel
theorem dX4_takeChain_35 : decode cX4_takeChain 35 = .ok (.invokestatic 177, 3) := by decide +kernel
theorem dX4_takeChain_38 : decode cX4_takeChain 38 = .ok (.ifCond .eq 28, 3) := by decide +kernel
theorem dX4_takeChain_41 : decode cX4_takeChain 41 = .ok (.aload_n 0, 1) := by decide +kernel
theorem dX4_takeChain_42 : decode cX4_takeChain 42 = .ok (.getfield 26, 3) := by decide +kernel
theorem dX4_takeChain_45 : decode cX4_takeChain 45 = .ok (.iload_n 3, 1) := by decide +kernel
theorem dX4_takeChain_46 : decode cX4_takeChain 46 = .ok (.aload_n 0, 1) := by decide +kernel
theorem dX4_takeChain_47 : decode cX4_takeChain 47 = .ok (.getfield 10, 3) := by decide +kernel
theorem dX4_takeChain_50 : decode cX4_takeChain 50 = .ok (.iload_n 3, 1) := by decide +kernel
theorem dX4_takeChain_51 : decode cX4_takeChain 51 = .ok (.invokevirtual 183, 3) := by decide +kernel
theorem dX4_takeChain_54 : decode cX4_takeChain 54 = .ok (.aload_n 0, 1) := by decide +kernel
theorem dX4_takeChain_55 : decode cX4_takeChain 55 = .ok (.getfield 10, 3) := by decide +kernel
theorem dX4_takeChain_58 : decode cX4_takeChain 58 = .ok (.getfield 85, 3) := by decide +kernel
theorem dX4_takeChain_61 : decode cX4_takeChain 61 = .ok (.iload_n 3, 1) := by decide +kernel
theorem dX4_takeChain_62 : decode cX4_takeChain 62 = .ok (.laload, 1) := by decide +kernel
theorem dX4_takeChain_63 : decode cX4_takeChain 63 = .ok (.invokevirtual 255, 3) := by decide +kernel
theorem dX4_takeChain_66 : decode cX4_takeChain 66 = .ok (.iinc 3 1, 3) := by decide +kernel
theorem dX4_takeChain_69 : decode cX4_takeChain 69 = .ok (.goto (-47), 3) := by decide +kernel
theorem dX4_takeChain_72 : decode cX4_takeChain 72 = .ok (.return_, 1) := by decide +kernel
set_option maxRecDepth 20000 in
theorem ggX4_witnesses_X4_isFlaky : GoodIn wsX4_witnesses wsX4_isFlaky := goodIn_r _ [10, 4, 1, 11, 12, 13, 14, 15, 16, 17, 18, 19, 20, 21, 22, 23, 24, 25, 26, 27, 28, 29, 30, 31, 32, 33, 34, 35, 36, 37, 38, 39, 40, 41, 42] (by decide +kernel) (by decide +kernel)
set_option maxRecDepth 20000 in
theorem gX4_witnesses_X4_isFlaky : GoodIn wsX4_witnesses (wsV RX4 201 RX4 yX4_isFlaky wsX4_isFlaky) := goodIn_app (goodIn_of _ (by decide +kernel)) ggX4_witnesses_X4_isFlaky
theorem dX4_witnesses_0 : decode cX4_witnesses 0 = .ok (.iconst 0, 1) := by decide +kernel
theorem dX4_witnesses_1 : decode cX4_witnesses 1 = .ok (.istore_n 1, 1) := by decide +kernel
theorem dX4_witnesses_2 : decode cX4_witnesses 2 = .ok (.iconst 0, 1) := by decide +kernel
theorem dX4_witnesses_3 : decode cX4_witnesses 3 = .ok (.istore_n 2, 1) := by decide +kernel
theorem dX4_witnesses_4 : decode cX4_witnesses 4 = .ok (.iload_n 2, 1) := by decide +kernel
theorem dX4_witnesses_5 : decode cX4_witnesses 5 = .ok (.aload_n 0, 1) := by decide +kernel
theorem dX4_witnesses_6 : decode cX4_witnesses 6 = .ok (.getfield 10, 3) := by decide +kernel
theorem dX4_witnesses_9 : decode cX4_witnesses 9 = .ok (.getfield 56, 3) := by decide +kernel
theorem dX4_witnesses_12 : decode cX4_witnesses 12 = .ok (.if_icmp .ge 50, 3) := by decide +kernel
theorem dX4_witnesses_15 : decode cX4_witnesses 15 = .ok (.aload_n 0, 1) := by decide +kernel
theorem dX4_witnesses_16 : decode cX4_witnesses 16 = .ok (.getfield 10, 3) := by decide +kernel
theorem dX4_witnesses_19 : decode cX4_witnesses 19 = .ok (.getfield 63, 3) := by decide +kernel
theorem dX4_witnesses_22 : decode cX4_witnesses 22 = .ok (.iload_n 2, 1) := by decide +kernel
theorem dX4_witnesses_23 : decode cX4_witnesses 23 = .ok (.iaload, 1) := by decide +kernel
theorem dX4_witnesses_24 : decode cX4_witnesses 24 = .ok (.iconst 3, 1) := by decide +kernel
theorem dX4_witnesses_25 : decode cX4_witnesses 25 = .ok (.if_icmp .eq 31, 3) := by decide +kernel
theorem dX4_witnesses_28 : decode cX4_witnesses 28 = .ok (.aload_n 0, 1) := by decide +kernel
theorem dX4_witnesses_29 : decode cX4_witnesses 29 = .ok (.getfield 19, 3) := by decide +kernel
theorem dX4_witnesses_32 : decode cX4_witnesses 32 = .ok (.getfield 121, 3) := by decide +kernel
theorem dX4_witnesses_35 : decode cX4_witnesses 35 = .ok (.iload_n 2, 1) := by decide +kernel
theorem dX4_witnesses_36 : decode cX4_witnesses 36 = .ok (.laload, 1) := by decide +kernel
theorem dX4_witnesses_37 : decode cX4_witnesses 37 = .ok (.lconst 0, 1) := by decide +kernel
theorem dX4_witnesses_38 : decode cX4_witnesses 38 = .ok (.lcmp, 1) := by decide +kernel
theorem dX4_witnesses_39 : decode cX4_witnesses 39 = .ok (.ifCond .eq 17, 3) := by decide +kernel
theorem dX4_witnesses_42 : decode cX4_witnesses 42 = .ok (.aload_n 0, 1) := by decide +kernel
theorem dX4_witnesses_43 : decode cX4_witnesses 43 = .ok (.iload_n 2, 1) := by decide +kernel
theorem dX4_witnesses_44 : decode cX4_witnesses 44 = .ok (.invokevirtual 201, 3) := by decide +kernel
theorem dX4_witnesses_47 : decode cX4_witnesses 47 = .ok (.ifCond .ne 9, 3) := by decide +kernel
theorem dX4_witnesses_50 : decode cX4_witnesses 50 = .ok (.iload_n 1, 1) := by decide +kernel
theorem dX4_witnesses_51 : decode cX4_witnesses 51 = .ok (.iconst 1, 1) := by decide +kernel
theorem dX4_witnesses_52 : decode cX4_witnesses 52 = .ok (.iload_n 2, 1) := by decide +kernel
theorem dX4_witnesses_53 : decode cX4_witnesses 53 = .ok (.ishl, 1) := by decide +kernel
theorem dX4_witnesses_54 : decode cX4_witnesses 54 = .ok (.ior, 1) := by decide +kernel
theorem dX4_witnesses_55 : decode cX4_witnesses 55 = .ok (.istore_n 1, 1) := by decide +kernel
theorem dX4_witnesses_56 : decode cX4_witnesses 56 = .ok (.iinc 2 1, 3) := by decide +kernel
theorem dX4_witnesses_59 : decode cX4_witnesses 59 = .ok (.goto (-55), 3) := by decide +kernel
theorem dX4_witnesses_62 : decode cX4_witnesses 62 = .ok (.iload_n 1, 1) := by decide +kernel
theorem dX4_witnesses_63 : decode cX4_witnesses 63 = .ok (.ireturn, 1) := by decide +kernel
set_option maxRecDepth 20000 in
theorem ggX4_buildsShown_X4_isIn : GoodIn wsX4_buildsShown wsX4_isIn := goodIn_r _ [8] (by decide +kernel) (by decide +kernel)
set_option maxRecDepth 20000 in
theorem gX4_buildsShown_X4_isIn : GoodIn wsX4_buildsShown (va_wsS RX4 177 yX4_isIn wsX4_isIn) := goodIn_app (goodIn_of _ (by decide +kernel)) ggX4_buildsShown_X4_isIn
theorem dX4_buildsShown_0 : decode cX4_buildsShown 0 = .ok (.lconst 0, 1) := by decide +kernel
theorem dX4_buildsShown_1 : decode cX4_buildsShown 1 = .ok (.lstore_n 2, 1) := by decide +kernel
theorem dX4_buildsShown_2 : decode cX4_buildsShown 2 = .ok (.iconst 0, 1) := by decide +kernel
theorem dX4_buildsShown_3 : decode cX4_buildsShown 3 = .ok (.istore 4, 2) := by decide +kernel
theorem dX4_buildsShown_5 : decode cX4_buildsShown 5 = .ok (.iload 4, 2) := by decide +kernel
theorem dX4_buildsShown_7 : decode cX4_buildsShown 7 = .ok (.aload_n 0, 1) := by decide +kernel
theorem dX4_buildsShown_8 : decode cX4_buildsShown 8 = .ok (.getfield 10, 3) := by decide +kernel
theorem dX4_buildsShown_11 : decode cX4_buildsShown 11 = .ok (.getfield 56, 3) := by decide +kernel
theorem dX4_buildsShown_14 : decode cX4_buildsShown 14 = .ok (.if_icmp .ge 31, 3) := by decide +kernel
theorem dX4_buildsShown_17 : decode cX4_buildsShown 17 = .ok (.iload 4, 2) := by decide +kernel
theorem dX4_buildsShown_19 : decode cX4_buildsShown 19 = .ok (.iload_n 1, 1) := by decide +kernel
theorem dX4_buildsShown_20 : decode cX4_buildsShown 20 = .ok (.invokestatic 177, 3) := by decide +kernel
theorem dX4_buildsShown_23 : decode cX4_buildsShown 23 = .ok (.ifCond .eq 16, 3) := by decide +kernel
theorem dX4_buildsShown_26 : decode cX4_buildsShown 26 = .ok (.lload_n 2, 1) := by decide +kernel
theorem dX4_buildsShown_27 : decode cX4_buildsShown 27 = .ok (.aload_n 0, 1) := by decide +kernel
theorem dX4_buildsShown_28 : decode cX4_buildsShown 28 = .ok (.getfield 19, 3) := by decide +kernel
theorem dX4_buildsShown_31 : decode cX4_buildsShown 31 = .ok (.getfield 121, 3) := by decide +kernel
theorem dX4_buildsShown_34 : decode cX4_buildsShown 34 = .ok (.iload 4, 2) := by decide +kernel
theorem dX4_buildsShown_36 : decode cX4_buildsShown 36 = .ok (.laload, 1) := by decide +kernel
theorem dX4_buildsShown_37 : decode cX4_buildsShown 37 = .ok (.lor, 1) := by decide +kernel
theorem dX4_buildsShown_38 : decode cX4_buildsShown 38 = .ok (.lstore_n 2, 1) := by decide +kernel
theorem dX4_buildsShown_39 : decode cX4_buildsShown 39 = .ok (.iinc 4 1, 3) := by decide +kernel
theorem dX4_buildsShown_42 : decode cX4_buildsShown 42 = .ok (.goto (-37), 3) := by decide +kernel
theorem dX4_buildsShown_45 : decode cX4_buildsShown 45 = .ok (.lload_n 2, 1) := by decide +kernel
theorem dX4_buildsShown_46 : decode cX4_buildsShown 46 = .ok (.lreturn, 1) := by decide +kernel
end
section
theorem dX5_init_0 : decode cX5_init 0 = .ok (.aload_n 0, 1) := by decide +kernel
theorem dX5_init_1 : decode cX5_init 1 = .ok (.invokespecial 1, 3) := by decide +kernel
theorem dX5_init_4 : decode cX5_init 4 = .ok (.aload_n 0, 1) := by decide +kernel
theorem dX5_init_5 : decode cX5_init 5 = .ok (.iconst 5, 1) := by decide +kernel
theorem dX5_init_6 : decode cX5_init 6 = .ok (.newarray .int, 2) := by decide +kernel
theorem dX5_init_8 : decode cX5_init 8 = .ok (.putfield 7, 3) := by decide +kernel
theorem dX5_init_11 : decode cX5_init 11 = .ok (.aload_n 0, 1) := by decide +kernel
theorem dX5_init_12 : decode cX5_init 12 = .ok (.bipush 20, 2) := by decide +kernel
theorem dX5_init_14 : decode cX5_init 14 = .ok (.newarray .int, 2) := by decide +kernel
theorem dX5_init_16 : decode cX5_init 16 = .ok (.putfield 13, 3) := by decide +kernel
theorem dX5_init_19 : decode cX5_init 19 = .ok (.aload_n 0, 1) := by decide +kernel
theorem dX5_init_20 : decode cX5_init 20 = .ok (.bipush 20, 2) := by decide +kernel
theorem dX5_init_22 : decode cX5_init 22 = .ok (.newarray .int, 2) := by decide +kernel
theorem dX5_init_24 : decode cX5_init 24 = .ok (.putfield 16, 3) := by decide +kernel
theorem dX5_init_27 : decode cX5_init 27 = .ok (.aload_n 0, 1) := by decide +kernel
theorem dX5_init_28 : decode cX5_init 28 = .ok (.bipush 20, 2) := by decide +kernel
theorem dX5_init_30 : decode cX5_init 30 = .ok (.newarray .int, 2) := by decide +kernel
theorem dX5_init_32 : decode cX5_init 32 = .ok (.putfield 19, 3) := by decide +kernel
theorem dX5_init_35 : decode cX5_init 35 = .ok (.aload_n 0, 1) := by decide +kernel
theorem dX5_init_36 : decode cX5_init 36 = .ok (.bipush 20, 2) := by decide +kernel
theorem dX5_init_38 : decode cX5_init 38 = .ok (.newarray .boolean, 2) := by decide +kernel
theorem dX5_init_40 : decode cX5_init 40 = .ok (.putfield 22, 3) := by decide +kernel
theorem dX5_init_43 : decode cX5_init 43 = .ok (.aload_n 0, 1) := by decide +kernel
theorem dX5_init_44 : decode cX5_init 44 = .ok (.bipush 100, 2) := by decide +kernel
theorem dX5_init_46 : decode cX5_init 46 = .ok (.newarray .int, 2) := by decide +kernel
theorem dX5_init_48 : decode cX5_init 48 = .ok (.putfield 26, 3) := by decide +kernel
theorem dX5_init_51 : decode cX5_init 51 = .ok (.aload_n 0, 1) := by decide +kernel
theorem dX5_init_52 : decode cX5_init 52 = .ok (.bipush 60, 2) := by decide +kernel
theorem dX5_init_54 : decode cX5_init 54 = .ok (.newarray .long, 2) := by decide +kernel
theorem dX5_init_56 : decode cX5_init 56 = .ok (.putfield 29, 3) := by decide +kernel
theorem dX5_init_59 : decode cX5_init 59 = .ok (.aload_n 0, 1) := by decide +kernel
theorem dX5_init_60 : decode cX5_init 60 = .ok (.sipush 1200, 3) := by decide +kernel
theorem dX5_init_63 : decode cX5_init 63 = .ok (.newarray .int, 2) := by decide +kernel
theorem dX5_init_65 : decode cX5_init 65 = .ok (.putfield 33, 3) := by decide +kernel
theorem dX5_init_68 : decode cX5_init 68 = .ok (.aload_n 0, 1) := by decide +kernel
theorem dX5_init_69 : decode cX5_init 69 = .ok (.iconst 5, 1) := by decide +kernel
theorem dX5_init_70 : decode cX5_init 70 = .ok (.newarray .int, 2) := by decide +kernel
theorem dX5_init_72 : decode cX5_init 72 = .ok (.putfield 36, 3) := by decide +kernel
theorem dX5_init_75 : decode cX5_init 75 = .ok (.aload_n 0, 1) := by decide +kernel
theorem dX5_init_76 : decode cX5_init 76 = .ok (.bipush (-9), 2) := by decide +kernel
theorem dX5_init_78 : decode cX5_init 78 = .ok (.putfield 39, 3) := by decide +kernel
theorem dX5_init_81 : decode cX5_init 81 = .ok (.aload_n 0, 1) := by decide +kernel
theorem dX5_init_82 : decode cX5_init 82 = .ok (.bipush 20, 2) := by decide +kernel
theorem dX5_init_84 : decode cX5_init 84 = .ok (.newarray .int, 2) := by decide +kernel
theorem dX5_init_86 : decode cX5_init 86 = .ok (.putfield 43, 3) := by decide +kernel
theorem dX5_init_89 : decode cX5_init 89 = .ok (.aload_n 0, 1) := by decide +kernel
theorem dX5_init_90 : decode cX5_init 90 = .ok (.bipush 20, 2) := by decide +kernel
theorem dX5_init_92 : decode cX5_init 92 = .ok (.newarray .int, 2) := by decide +kernel
theorem dX5_init_94 : decode cX5_init 94 = .ok (.putfield 46, 3) := by decide +kernel
theorem dX5_init_97 : decode cX5_init 97 = .ok (.iconst 0, 1) := by decide +kernel
theorem dX5_init_98 : decode cX5_init 98 = .ok (.istore_n 1, 1) := by decide +kernel
theorem dX5_init_99 : decode cX5_init 99 = .ok (.iload_n 1, 1) := by decide +kernel
theorem dX5_init_100 : decode cX5_init 100 = .ok (.sipush 1200, 3) := by decide +kernel
theorem dX5_init_103 : decode cX5_init 103 = .ok (.if_icmp .ge 17, 3) := by decide +kernel
theorem dX5_init_106 : decode cX5_init 106 = .ok (.aload_n 0, 1) := by decide +kernel
theorem dX5_init_107 : decode cX5_init 107 = .ok (.getfield 33, 3) := by decide +kernel
theorem dX5_init_110 : decode cX5_init 110 = .ok (.iload_n 1, 1) := by decide +kernel
theorem dX5_init_111 : decode cX5_init 111 = .ok (.bipush (-9), 2) := by decide +kernel
theorem dX5_init_113 : decode cX5_init 113 = .ok (.iastore, 1) := by decide +kernel
theorem dX5_init_114 : decode cX5_init 114 = .ok (.iinc 1 1, 3) := by decide +kernel
theorem dX5_init_117 : decode cX5_init 117 = .ok (.goto (-18), 3) := by decide +kernel
theorem dX5_init_120 : decode cX5_init 120 = .ok (.return_, 1) := by decide +kernel
theorem dX5_in_0 : decode cX5_in 0 = .ok (.iload_n 0, 1) := by decide +kernel
theorem dX5_in_1 : decode cX5_in 1 = .ok (.iload_n 1, 1) := by decide +kernel
theorem dX5_in_2 : decode cX5_in 2 = .ok (.if_icmp .lt 12, 3) := by decide +kernel
theorem dX5_in_5 : decode cX5_in 5 = .ok (.iload_n 0, 1) := by decide +kernel
theorem dX5_in_6 : decode cX5_in 6 = .ok (.iload_n 2, 1) := by decide +kernel
theorem dX5_in_7 : decode cX5_in 7 = .ok (.if_icmp .gt 7, 3) := by decide +kernel
theorem dX5_in_10 : decode cX5_in 10 = .ok (.iconst 1, 1) := by decide +kernel
theorem dX5_in_11 : decode cX5_in 11 = .ok (.goto 4, 3) := by decide +kernel
theorem dX5_in_14 : decode cX5_in 14 = .ok (.iconst 0, 1) := by decide +kernel
theorem dX5_in_15 : decode cX5_in 15 = .ok (.ireturn, 1) := by decide +kernel
theorem dX5_meets_0 : decode cX5_meets 0 = .ok (.aload_n 0, 1) := by decide +kernel
theorem dX5_meets_1 : decode cX5_meets 1 = .ok (.iload_n 1, 1) := by decide +kernel
theorem dX5_meets_2 : decode cX5_meets 2 = .ok (.putfield 49, 3) := by decide +kernel
theorem dX5_meets_5 : decode cX5_meets 5 = .ok (.aload_n 0, 1) := by decide +kernel
theorem dX5_meets_6 : decode cX5_meets 6 = .ok (.getfield 7, 3) := by decide +kernel
theorem dX5_meets_9 : decode cX5_meets 9 = .ok (.iload_n 1, 1) := by decide +kernel
theorem dX5_meets_10 : decode cX5_meets 10 = .ok (.dup2, 1) := by decide +kernel
theorem dX5_meets_11 : decode cX5_meets 11 = .ok (.iaload, 1) := by decide +kernel
theorem dX5_meets_12 : decode cX5_meets 12 = .ok (.iconst 1, 1) := by decide +kernel
theorem dX5_meets_13 : decode cX5_meets 13 = .ok (.iadd, 1) := by decide +kernel
theorem dX5_meets_14 : decode cX5_meets 14 = .ok (.iastore, 1) := by decide +kernel
theorem dX5_meets_15 : decode cX5_meets 15 = .ok (.bipush (-3), 2) := by decide +kernel
theorem dX5_meets_17 : decode cX5_meets 17 = .ok (.ireturn, 1) := by decide +kernel
set_option maxRecDepth 20000 in
theorem ggX5_isTest_X5_in : GoodIn wsX5_isTest wsX5_in := goodIn_r _ [5] (by decide +kernel) (by decide +kernel)
set_option maxRecDepth 20000 in
theorem gX5_isTest_X5_in : GoodIn wsX5_isTest (va_wsS RX5 55 yX5_in wsX5_in) := goodIn_app (goodIn_of _ (by decide +kernel)) ggX5_isTest_X5_in
theorem dX5_isTest_0 : decode cX5_isTest 0 = .ok (.iload_n 1, 1) := by decide +kernel
theorem dX5_isTest_1 : decode cX5_isTest 1 = .ok (.iconst 0, 1) := by decide +kernel
theorem dX5_isTest_2 : decode cX5_isTest 2 = .ok (.aload_n 0, 1) := by decide +kernel
theorem dX5_isTest_3 : decode cX5_isTest 3 = .ok (.getfield 52, 3) := by decide +kernel
theorem dX5_isTest_6 : decode cX5_isTest 6 = .ok (.iconst 1, 1) := by decide +kernel
theorem dX5_isTest_7 : decode cX5_isTest 7 = .ok (.isub, 1) := by decide +kernel
theorem dX5_isTest_8 : decode cX5_isTest 8 = .ok (.invokestatic 55, 3) := by decide +kernel
theorem dX5_isTest_11 : decode cX5_isTest 11 = .ok (.ireturn, 1) := by decide +kernel
set_option maxRecDepth 20000 in
theorem ggX5_isBuild_X5_in : GoodIn wsX5_isBuild wsX5_in := goodIn_r _ [5] (by decide +kernel) (by decide +kernel)
set_option maxRecDepth 20000 in
theorem gX5_isBuild_X5_in : GoodIn wsX5_isBuild (va_wsS RX5 55 yX5_in wsX5_in) := goodIn_app (goodIn_of _ (by decide +kernel)) ggX5_isBuild_X5_in
theorem dX5_isBuild_0 : decode cX5_isBuild 0 = .ok (.iload_n 1, 1) := by decide +kernel
theorem dX5_isBuild_1 : decode cX5_isBuild 1 = .ok (.iconst 0, 1) := by decide +kernel
theorem dX5_isBuild_2 : decode cX5_isBuild 2 = .ok (.aload_n 0, 1) := by decide +kernel
theorem dX5_isBuild_3 : decode cX5_isBuild 3 = .ok (.getfield 59, 3) := by decide +kernel
theorem dX5_isBuild_6 : decode cX5_isBuild 6 = .ok (.iconst 1, 1) := by decide +kernel
theorem dX5_isBuild_7 : decode cX5_isBuild 7 = .ok (.isub, 1) := by decide +kernel
theorem dX5_isBuild_8 : decode cX5_isBuild 8 = .ok (.invokestatic 55, 3) := by decide +kernel
theorem dX5_isBuild_11 : decode cX5_isBuild 11 = .ok (.ireturn, 1) := by decide +kernel
set_option maxRecDepth 20000 in
theorem ggX5_test_X5_in : GoodIn wsX5_test wsX5_in := goodIn_r _ [8] (by decide +kernel) (by decide +kernel)
set_option maxRecDepth 20000 in
theorem gX5_test_X5_in : GoodIn wsX5_test (va_wsS RX5 55 yX5_in wsX5_in) := goodIn_app (goodIn_of _ (by decide +kernel)) ggX5_test_X5_in
set_option maxRecDepth 20000 in
theorem ggX5_test_X5_isTest : GoodIn wsX5_test wsX5_isTest := goodIn_r _ [12, 1, 5, 6, 7, 8, 13, 14, 15, 16, 17, 18, 19, 20, 21, 22, 23, 24, 25, 26, 27, 28, 29, 30, 31] (by decide +kernel) (by decide +kernel)
set_option maxRecDepth 20000 in
theorem gX5_test_X5_isTest : GoodIn wsX5_test (wsV RX5 62 RX5 yX5_isTest wsX5_isTest) := goodIn_app (goodIn_of _ (by decide +kernel)) ggX5_test_X5_isTest
theorem dX5_test_0 : decode cX5_test 0 = .ok (.iload_n 1, 1) := by decide +kernel
theorem dX5_test_1 : decode cX5_test 1 = .ok (.iconst 0, 1) := by decide +kernel
theorem dX5_test_2 : decode cX5_test 2 = .ok (.iconst 3, 1) := by decide +kernel
theorem dX5_test_3 : decode cX5_test 3 = .ok (.invokestatic 55, 3) := by decide +kernel
theorem dX5_test_6 : decode cX5_test 6 = .ok (.ifCond .eq 27, 3) := by decide +kernel
theorem dX5_test_9 : decode cX5_test 9 = .ok (.iload_n 2, 1) := by decide +kernel
theorem dX5_test_10 : decode cX5_test 10 = .ok (.iconst 1, 1) := by decide +kernel
theorem dX5_test_11 : decode cX5_test 11 = .ok (.sipush 1000, 3) := by decide +kernel
theorem dX5_test_14 : decode cX5_test 14 = .ok (.invokestatic 55, 3) := by decide +kernel
theorem dX5_test_17 : decode cX5_test 17 = .ok (.ifCond .eq 16, 3) := by decide +kernel
theorem dX5_test_20 : decode cX5_test 20 = .ok (.iload_n 1, 1) := by decide +kernel
theorem dX5_test_21 : decode cX5_test 21 = .ok (.iconst 2, 1) := by decide +kernel
theorem dX5_test_22 : decode cX5_test 22 = .ok (.if_icmp .ne 13, 3) := by decide +kernel
theorem dX5_test_25 : decode cX5_test 25 = .ok (.aload_n 0, 1) := by decide +kernel
theorem dX5_test_26 : decode cX5_test 26 = .ok (.iload_n 3, 1) := by decide +kernel
theorem dX5_test_27 : decode cX5_test 27 = .ok (.invokevirtual 62, 3) := by decide +kernel
theorem dX5_test_30 : decode cX5_test 30 = .ok (.ifCond .ne 5, 3) := by decide +kernel
theorem dX5_test_33 : decode cX5_test 33 = .ok (.iconst (-1), 1) := by decide +kernel
theorem dX5_test_34 : decode cX5_test 34 = .ok (.ireturn, 1) := by decide +kernel
theorem dX5_test_35 : decode cX5_test 35 = .ok (.aload_n 0, 1) := by decide +kernel
theorem dX5_test_36 : decode cX5_test 36 = .ok (.getfield 52, 3) := by decide +kernel
theorem dX5_test_39 : decode cX5_test 39 = .ok (.bipush 20, 2) := by decide +kernel
theorem dX5_test_41 : decode cX5_test 41 = .ok (.if_icmp .ne 6, 3) := by decide +kernel
theorem dX5_test_44 : decode cX5_test 44 = .ok (.bipush (-2), 2) := by decide +kernel
theorem dX5_test_46 : decode cX5_test 46 = .ok (.ireturn, 1) := by decide +kernel
theorem dX5_test_47 : decode cX5_test 47 = .ok (.aload_n 0, 1) := by decide +kernel
theorem dX5_test_48 : decode cX5_test 48 = .ok (.getfield 13, 3) := by decide +kernel
theorem dX5_test_51 : decode cX5_test 51 = .ok (.aload_n 0, 1) := by decide +kernel
theorem dX5_test_52 : decode cX5_test 52 = .ok (.getfield 52, 3) := by decide +kernel
theorem dX5_test_55 : decode cX5_test 55 = .ok (.iload_n 1, 1) := by decide +kernel
theorem dX5_test_56 : decode cX5_test 56 = .ok (.iastore, 1) := by decide +kernel
theorem dX5_test_57 : decode cX5_test 57 = .ok (.aload_n 0, 1) := by decide +kernel
theorem dX5_test_58 : decode cX5_test 58 = .ok (.getfield 16, 3) := by decide +kernel
theorem dX5_test_61 : decode cX5_test 61 = .ok (.aload_n 0, 1) := by decide +kernel
theorem dX5_test_62 : decode cX5_test 62 = .ok (.getfield 52, 3) := by decide +kernel
theorem dX5_test_65 : decode cX5_test 65 = .ok (.iload_n 2, 1) := by decide +kernel
theorem dX5_test_66 : decode cX5_test 66 = .ok (.iastore, 1) := by decide +kernel
theorem dX5_test_67 : decode cX5_test 67 = .ok (.aload_n 0, 1) := by decide +kernel
theorem dX5_test_68 : decode cX5_test 68 = .ok (.getfield 19, 3) := by decide +kernel
theorem dX5_test_71 : decode cX5_test 71 = .ok (.aload_n 0, 1) := by decide +kernel
theorem dX5_test_72 : decode cX5_test 72 = .ok (.getfield 52, 3) := by decide +kernel
theorem dX5_test_75 : decode cX5_test 75 = .ok (.iload_n 1, 1) := by decide +kernel
theorem dX5_test_76 : decode cX5_test 76 = .ok (.iconst 2, 1) := by decide +kernel
theorem dX5_test_77 : decode cX5_test 77 = .ok (.if_icmp .ne 7, 3) := by decide +kernel
theorem dX5_test_80 : decode cX5_test 80 = .ok (.iload_n 3, 1) := by decide +kernel
theorem dX5_test_81 : decode cX5_test 81 = .ok (.goto 5, 3) := by decide +kernel
theorem dX5_test_84 : decode cX5_test 84 = .ok (.bipush (-9), 2) := by decide +kernel
theorem dX5_test_86 : decode cX5_test 86 = .ok (.iastore, 1) := by decide +kernel
theorem dX5_test_87 : decode cX5_test 87 = .ok (.aload_n 0, 1) := by decide +kernel
theorem dX5_test_88 : decode cX5_test 88 = .ok (.dup, 1) := by decide +kernel
theorem dX5_test_89 : decode cX5_test 89 = .ok (.getfield 52, 3) := by decide +kernel
theorem dX5_test_92 : decode cX5_test 92 = .ok (.iconst 1, 1) := by decide +kernel
theorem dX5_test_93 : decode cX5_test 93 = .ok (.iadd, 1) := by decide +kernel
theorem dX5_test_94 : decode cX5_test 94 = .ok (.putfield 52, 3) := by decide +kernel
theorem dX5_test_97 : decode cX5_test 97 = .ok (.aload_n 0, 1) := by decide +kernel
theorem dX5_test_98 : decode cX5_test 98 = .ok (.getfield 52, 3) := by decide +kernel
theorem dX5_test_101 : decode cX5_test 101 = .ok (.iconst 1, 1) := by decide +kernel
theorem dX5_test_102 : decode cX5_test 102 = .ok (.isub, 1) := by decide +kernel
theorem dX5_test_103 : decode cX5_test 103 = .ok (.ireturn, 1) := by decide +kernel
set_option maxRecDepth 20000 in
theorem ggX5_turn_X5_isTest : GoodIn wsX5_turn wsX5_isTest := goodIn_r _ [6, 7, 8, 9, 5, 10, 17, 18, 19, 20, 21, 22, 23, 24, 25, 26, 27, 28, 29, 30, 31, 32, 33, 34, 35] (by decide +kernel) (by decide +kernel)
set_option maxRecDepth 20000 in
theorem gX5_turn_X5_isTest : GoodIn wsX5_turn (wsV RX5 62 RX5 yX5_isTest wsX5_isTest) := goodIn_app (goodIn_of _ (by decide +kernel)) ggX5_turn_X5_isTest
set_option maxRecDepth 20000 in
theorem ggX5_turn_X5_in : GoodIn wsX5_turn wsX5_in := goodIn_r _ [10] (by decide +kernel) (by decide +kernel)
set_option maxRecDepth 20000 in
theorem gX5_turn_X5_in : GoodIn wsX5_turn (va_wsS RX5 55 yX5_in wsX5_in) := goodIn_app (goodIn_of _ (by decide +kernel)) ggX5_turn_X5_in
set_option maxRecDepth 20000 in
theorem ggX5_turn_X5_meets : GoodIn wsX5_turn wsX5_meets := goodIn_r _ [14, 15, 16, 17, 18, 19, 20, 21, 22, 23, 24, 25, 26, 27, 28, 29, 30, 31, 32, 33, 34, 35] (by decide +kernel) (by decide +kernel)
set_option maxRecDepth 20000 in
theorem gX5_turn_X5_meets : GoodIn wsX5_turn (wsV RX5 66 RX5 yX5_meets wsX5_meets) := goodIn_app (goodIn_of _ (by decide +kernel)) ggX5_turn_X5_meets
theorem dX5_turn_0 : decode cX5_turn 0 = .ok (.aload_n 0, 1) := by decide +kernel
theorem dX5_turn_1 : decode cX5_turn 1 = .ok (.iload_n 1, 1) := by decide +kernel
theorem dX5_turn_2 : decode cX5_turn 2 = .ok (.invokevirtual 62, 3) := by decide +kernel
theorem dX5_turn_5 : decode cX5_turn 5 = .ok (.ifCond .eq 17, 3) := by decide +kernel
theorem dX5_turn_8 : decode cX5_turn 8 = .ok (.iload_n 2, 1) := by decide +kernel
theorem dX5_turn_9 : decode cX5_turn 9 = .ok (.iconst 0, 1) := by decide +kernel
theorem dX5_turn_10 : decode cX5_turn 10 = .ok (.iconst 3, 1) := by decide +kernel
theorem dX5_turn_11 : decode cX5_turn 11 = .ok (.invokestatic 55, 3) := by decide +kernel
theorem dX5_turn_14 : decode cX5_turn 14 = .ok (.ifCond .eq 8, 3) := by decide +kernel
theorem dX5_turn_17 : decode cX5_turn 17 = .ok (.iload_n 2, 1) := by decide +kernel
theorem dX5_turn_18 : decode cX5_turn 18 = .ok (.iconst 2, 1) := by decide +kernel
theorem dX5_turn_19 : decode cX5_turn 19 = .ok (.if_icmp .ne 5, 3) := by decide +kernel
theorem dX5_turn_22 : decode cX5_turn 22 = .ok (.iconst (-1), 1) := by decide +kernel
theorem dX5_turn_23 : decode cX5_turn 23 = .ok (.ireturn, 1) := by decide +kernel
theorem dX5_turn_24 : decode cX5_turn 24 = .ok (.aload_n 0, 1) := by decide +kernel
theorem dX5_turn_25 : decode cX5_turn 25 = .ok (.getfield 13, 3) := by decide +kernel
theorem dX5_turn_28 : decode cX5_turn 28 = .ok (.iload_n 1, 1) := by decide +kernel
theorem dX5_turn_29 : decode cX5_turn 29 = .ok (.iaload, 1) := by decide +kernel
theorem dX5_turn_30 : decode cX5_turn 30 = .ok (.iconst 2, 1) := by decide +kernel
theorem dX5_turn_31 : decode cX5_turn 31 = .ok (.if_icmp .ne 9, 3) := by decide +kernel
theorem dX5_turn_34 : decode cX5_turn 34 = .ok (.aload_n 0, 1) := by decide +kernel
theorem dX5_turn_35 : decode cX5_turn 35 = .ok (.iconst 3, 1) := by decide +kernel
theorem dX5_turn_36 : decode cX5_turn 36 = .ok (.invokevirtual 66, 3) := by decide +kernel
theorem dX5_turn_39 : decode cX5_turn 39 = .ok (.ireturn, 1) := by decide +kernel
theorem dX5_turn_40 : decode cX5_turn 40 = .ok (.aload_n 0, 1) := by decide +kernel
theorem dX5_turn_41 : decode cX5_turn 41 = .ok (.getfield 13, 3) := by decide +kernel
theorem dX5_turn_44 : decode cX5_turn 44 = .ok (.iload_n 1, 1) := by decide +kernel
theorem dX5_turn_45 : decode cX5_turn 45 = .ok (.iaload, 1) := by decide +kernel
theorem dX5_turn_46 : decode cX5_turn 46 = .ok (.istore_n 3, 1) := by decide +kernel
theorem dX5_turn_47 : decode cX5_turn 47 = .ok (.aload_n 0, 1) := by decide +kernel
theorem dX5_turn_48 : decode cX5_turn 48 = .ok (.getfield 13, 3) := by decide +kernel
theorem dX5_turn_51 : decode cX5_turn 51 = .ok (.iload_n 1, 1) := by decide +kernel
theorem dX5_turn_52 : decode cX5_turn 52 = .ok (.iload_n 2, 1) := by decide +kernel
theorem dX5_turn_53 : decode cX5_turn 53 = .ok (.iastore, 1) := by decide +kernel
theorem dX5_turn_54 : decode cX5_turn 54 = .ok (.iload_n 3, 1) := by decide +kernel
theorem dX5_turn_55 : decode cX5_turn 55 = .ok (.ireturn, 1) := by decide +kernel
set_option maxRecDepth 20000 in
theorem ggX5_reach_X5_isTest : GoodIn wsX5_reach wsX5_isTest := goodIn_r _ [7, 8, 9, 10, 6, 11, 18, 19, 20, 21, 22, 23, 24, 25, 26, 27, 28, 29, 30, 31, 32, 33, 34, 35, 36] (by decide +kernel) (by decide +kernel)
set_option maxRecDepth 20000 in
theorem gX5_reach_X5_isTest : GoodIn wsX5_reach (wsV RX5 62 RX5 yX5_isTest wsX5_isTest) := goodIn_app (goodIn_of _ (by decide +kernel)) ggX5_reach_X5_isTest
set_option maxRecDepth 20000 in
theorem ggX5_reach_X5_in : GoodIn wsX5_reach wsX5_in := goodIn_r _ [11] (by decide +kernel) (by decide +kernel)
set_option maxRecDepth 20000 in
theorem gX5_reach_X5_in : GoodIn wsX5_reach (va_wsS RX5 55 yX5_in wsX5_in) := goodIn_app (goodIn_of _ (by decide +kernel)) ggX5_reach_X5_in
set_option maxRecDepth 20000 in
theorem ggX5_reach_X5_meets : GoodIn wsX5_reach wsX5_meets := goodIn_r _ [15, 16, 17, 18, 19, 20, 21, 22, 23, 24, 25, 26, 27, 28, 29, 30, 31, 32, 33, 34, 35, 36] (by decide +kernel) (by decide +kernel)
set_option maxRecDepth 20000 in
theorem gX5_reach_X5_meets : GoodIn wsX5_reach (wsV RX5 66 RX5 yX5_meets wsX5_meets) := goodIn_app (goodIn_of _ (by decide +kernel)) ggX5_reach_X5_meets
theorem dX5_reach_0 : decode cX5_reach 0 = .ok (.aload_n 0, 1) := by decide +kernel
theorem dX5_reach_1 : decode cX5_reach 1 = .ok (.iload_n 1, 1) := by decide +kernel
theorem dX5_reach_2 : decode cX5_reach 2 = .ok (.invokevirtual 62, 3) := by decide +kernel
theorem dX5_reach_5 : decode cX5_reach 5 = .ok (.ifCond .eq 14, 3) := by decide +kernel
theorem dX5_reach_8 : decode cX5_reach 8 = .ok (.iload_n 3, 1) := by decide +kernel
theorem dX5_reach_9 : decode cX5_reach 9 = .ok (.iconst 0, 1) := by decide +kernel
theorem dX5_reach_10 : decode cX5_reach 10 = .ok (.sipush 255, 3) := by decide +kernel
theorem dX5_reach_13 : decode cX5_reach 13 = .ok (.invokestatic 55, 3) := by decide +kernel
theorem dX5_reach_16 : decode cX5_reach 16 = .ok (.ifCond .ne 5, 3) := by decide +kernel
theorem dX5_reach_19 : decode cX5_reach 19 = .ok (.iconst (-1), 1) := by decide +kernel
theorem dX5_reach_20 : decode cX5_reach 20 = .ok (.ireturn, 1) := by decide +kernel
theorem dX5_reach_21 : decode cX5_reach 21 = .ok (.aload_n 0, 1) := by decide +kernel
theorem dX5_reach_22 : decode cX5_reach 22 = .ok (.getfield 22, 3) := by decide +kernel
theorem dX5_reach_25 : decode cX5_reach 25 = .ok (.iload_n 1, 1) := by decide +kernel
theorem dX5_reach_26 : decode cX5_reach 26 = .ok (.baload, 1) := by decide +kernel
theorem dX5_reach_27 : decode cX5_reach 27 = .ok (.ifCond .eq 9, 3) := by decide +kernel
theorem dX5_reach_30 : decode cX5_reach 30 = .ok (.aload_n 0, 1) := by decide +kernel
theorem dX5_reach_31 : decode cX5_reach 31 = .ok (.iconst 1, 1) := by decide +kernel
theorem dX5_reach_32 : decode cX5_reach 32 = .ok (.invokevirtual 66, 3) := by decide +kernel
theorem dX5_reach_35 : decode cX5_reach 35 = .ok (.ireturn, 1) := by decide +kernel
theorem dX5_reach_36 : decode cX5_reach 36 = .ok (.iload_n 2, 1) := by decide +kernel
theorem dX5_reach_37 : decode cX5_reach 37 = .ok (.iconst 0, 1) := by decide +kernel
theorem dX5_reach_38 : decode cX5_reach 38 = .ok (.iconst 4, 1) := by decide +kernel
theorem dX5_reach_39 : decode cX5_reach 39 = .ok (.invokestatic 55, 3) := by decide +kernel
theorem dX5_reach_42 : decode cX5_reach 42 = .ok (.ifCond .ne 9, 3) := by decide +kernel
theorem dX5_reach_45 : decode cX5_reach 45 = .ok (.aload_n 0, 1) := by decide +kernel
theorem dX5_reach_46 : decode cX5_reach 46 = .ok (.iconst 2, 1) := by decide +kernel
theorem dX5_reach_47 : decode cX5_reach 47 = .ok (.invokevirtual 66, 3) := by decide +kernel
theorem dX5_reach_50 : decode cX5_reach 50 = .ok (.ireturn, 1) := by decide +kernel
theorem dX5_reach_51 : decode cX5_reach 51 = .ok (.aload_n 0, 1) := by decide +kernel
theorem dX5_reach_52 : decode cX5_reach 52 = .ok (.getfield 26, 3) := by decide +kernel
theorem dX5_reach_55 : decode cX5_reach 55 = .ok (.iconst 5, 1) := by decide +kernel
theorem dX5_reach_56 : decode cX5_reach 56 = .ok (.iload_n 1, 1) := by decide +kernel
theorem dX5_reach_57 : decode cX5_reach 57 = .ok (.imul, 1) := by decide +kernel
theorem dX5_reach_58 : decode cX5_reach 58 = .ok (.iload_n 2, 1) := by decide +kernel
theorem dX5_reach_59 : decode cX5_reach 59 = .ok (.iadd, 1) := by decide +kernel
theorem dX5_reach_60 : decode cX5_reach 60 = .ok (.iaload, 1) := by decide +kernel
theorem dX5_reach_61 : decode cX5_reach 61 = .ok (.istore 4, 2) := by decide +kernel
theorem dX5_reach_63 : decode cX5_reach 63 = .ok (.aload_n 0, 1) := by decide +kernel
theorem dX5_reach_64 : decode cX5_reach 64 = .ok (.getfield 26, 3) := by decide +kernel
theorem dX5_reach_67 : decode cX5_reach 67 = .ok (.iconst 5, 1) := by decide +kernel
theorem dX5_reach_68 : decode cX5_reach 68 = .ok (.iload_n 1, 1) := by decide +kernel
theorem dX5_reach_69 : decode cX5_reach 69 = .ok (.imul, 1) := by decide +kernel
theorem dX5_reach_70 : decode cX5_reach 70 = .ok (.iload_n 2, 1) := by decide +kernel
theorem dX5_reach_71 : decode cX5_reach 71 = .ok (.iadd, 1) := by decide +kernel
theorem dX5_reach_72 : decode cX5_reach 72 = .ok (.iload_n 3, 1) := by decide +kernel
theorem dX5_reach_73 : decode cX5_reach 73 = .ok (.iastore, 1) := by decide +kernel
theorem dX5_reach_74 : decode cX5_reach 74 = .ok (.iload 4, 2) := by decide +kernel
theorem dX5_reach_76 : decode cX5_reach 76 = .ok (.ireturn, 1) := by decide +kernel
set_option maxRecDepth 20000 in
theorem ggX5_byteOf_X5_isTest : GoodIn wsX5_byteOf wsX5_isTest := goodIn_r _ [7, 8, 9, 10, 6, 11, 18, 19, 20, 21, 22, 23, 24, 25, 26, 27, 28, 29, 30, 31, 32, 33, 34, 35, 36] (by decide +kernel) (by decide +kernel)
set_option maxRecDepth 20000 in
theorem gX5_byteOf_X5_isTest : GoodIn wsX5_byteOf (wsV RX5 62 RX5 yX5_isTest wsX5_isTest) := goodIn_app (goodIn_of _ (by decide +kernel)) ggX5_byteOf_X5_isTest
set_option maxRecDepth 20000 in
theorem ggX5_byteOf_X5_meets : GoodIn wsX5_byteOf wsX5_meets := goodIn_r _ [15, 16, 17, 18, 19, 20, 21, 22, 23, 24, 25, 26, 27, 28, 29, 30, 31, 32, 33, 34, 35, 36] (by decide +kernel) (by decide +kernel)
set_option maxRecDepth 20000 in
theorem gX5_byteOf_X5_meets : GoodIn wsX5_byteOf (wsV RX5 66 RX5 yX5_meets wsX5_meets) := goodIn_app (goodIn_of _ (by decide +kernel)) ggX5_byteOf_X5_meets
set_option maxRecDepth 20000 in
theorem ggX5_byteOf_X5_in : GoodIn wsX5_byteOf wsX5_in := goodIn_r _ [11] (by decide +kernel) (by decide +kernel)
set_option maxRecDepth 20000 in
theorem gX5_byteOf_X5_in : GoodIn wsX5_byteOf (va_wsS RX5 55 yX5_in wsX5_in) := goodIn_app (goodIn_of _ (by decide +kernel)) ggX5_byteOf_X5_in
theorem dX5_byteOf_0 : decode cX5_byteOf 0 = .ok (.aload_n 0, 1) := by decide +kernel
theorem dX5_byteOf_1 : decode cX5_byteOf 1 = .ok (.iload_n 1, 1) := by decide +kernel
theorem dX5_byteOf_2 : decode cX5_byteOf 2 = .ok (.invokevirtual 62, 3) := by decide +kernel
theorem dX5_byteOf_5 : decode cX5_byteOf 5 = .ok (.ifCond .ne 5, 3) := by decide +kernel
theorem dX5_byteOf_8 : decode cX5_byteOf 8 = .ok (.iconst (-1), 1) := by decide +kernel
theorem dX5_byteOf_9 : decode cX5_byteOf 9 = .ok (.ireturn, 1) := by decide +kernel
theorem dX5_byteOf_10 : decode cX5_byteOf 10 = .ok (.aload_n 0, 1) := by decide +kernel
theorem dX5_byteOf_11 : decode cX5_byteOf 11 = .ok (.getfield 22, 3) := by decide +kernel
theorem dX5_byteOf_14 : decode cX5_byteOf 14 = .ok (.iload_n 1, 1) := by decide +kernel
theorem dX5_byteOf_15 : decode cX5_byteOf 15 = .ok (.baload, 1) := by decide +kernel
theorem dX5_byteOf_16 : decode cX5_byteOf 16 = .ok (.ifCond .eq 9, 3) := by decide +kernel
theorem dX5_byteOf_19 : decode cX5_byteOf 19 = .ok (.aload_n 0, 1) := by decide +kernel
theorem dX5_byteOf_20 : decode cX5_byteOf 20 = .ok (.iconst 1, 1) := by decide +kernel
theorem dX5_byteOf_21 : decode cX5_byteOf 21 = .ok (.invokevirtual 66, 3) := by decide +kernel
theorem dX5_byteOf_24 : decode cX5_byteOf 24 = .ok (.ireturn, 1) := by decide +kernel
theorem dX5_byteOf_25 : decode cX5_byteOf 25 = .ok (.iload_n 2, 1) := by decide +kernel
theorem dX5_byteOf_26 : decode cX5_byteOf 26 = .ok (.iconst 0, 1) := by decide +kernel
theorem dX5_byteOf_27 : decode cX5_byteOf 27 = .ok (.iconst 4, 1) := by decide +kernel
theorem dX5_byteOf_28 : decode cX5_byteOf 28 = .ok (.invokestatic 55, 3) := by decide +kernel
theorem dX5_byteOf_31 : decode cX5_byteOf 31 = .ok (.ifCond .eq 16, 3) := by decide +kernel
theorem dX5_byteOf_34 : decode cX5_byteOf 34 = .ok (.aload_n 0, 1) := by decide +kernel
theorem dX5_byteOf_35 : decode cX5_byteOf 35 = .ok (.getfield 26, 3) := by decide +kernel
theorem dX5_byteOf_38 : decode cX5_byteOf 38 = .ok (.iconst 5, 1) := by decide +kernel
theorem dX5_byteOf_39 : decode cX5_byteOf 39 = .ok (.iload_n 1, 1) := by decide +kernel
theorem dX5_byteOf_40 : decode cX5_byteOf 40 = .ok (.imul, 1) := by decide +kernel
theorem dX5_byteOf_41 : decode cX5_byteOf 41 = .ok (.iload_n 2, 1) := by decide +kernel
theorem dX5_byteOf_42 : decode cX5_byteOf 42 = .ok (.iadd, 1) := by decide +kernel
theorem dX5_byteOf_43 : decode cX5_byteOf 43 = .ok (.iaload, 1) := by decide +kernel
theorem dX5_byteOf_44 : decode cX5_byteOf 44 = .ok (.goto 8, 3) := by decide +kernel
theorem dX5_byteOf_47 : decode cX5_byteOf 47 = .ok (.aload_n 0, 1) := by decide +kernel
theorem dX5_byteOf_48 : decode cX5_byteOf 48 = .ok (.iconst 2, 1) := by decide +kernel
theorem dX5_byteOf_49 : decode cX5_byteOf 49 = .ok (.invokevirtual 66, 3) := by decide +kernel
theorem dX5_byteOf_52 : decode cX5_byteOf 52 = .ok (.ireturn, 1) := by decide +kernel
set_option maxRecDepth 20000 in
theorem ggX5_tear_X5_isTest : GoodIn wsX5_tear wsX5_isTest := goodIn_r _ [6, 7, 8, 9, 5, 10, 17, 18, 19, 20, 21, 22, 23, 24, 25, 26, 27, 28, 29, 30, 31, 32, 33, 34, 35] (by decide +kernel) (by decide +kernel)
set_option maxRecDepth 20000 in
theorem gX5_tear_X5_isTest : GoodIn wsX5_tear (wsV RX5 62 RX5 yX5_isTest wsX5_isTest) := goodIn_app (goodIn_of _ (by decide +kernel)) ggX5_tear_X5_isTest
set_option maxRecDepth 20000 in
theorem ggX5_tear_X5_meets : GoodIn wsX5_tear wsX5_meets := goodIn_r _ [14, 15, 16, 17, 18, 19, 20, 21, 22, 23, 24, 25, 26, 27, 28, 29, 30, 31, 32, 33, 34, 35] (by decide +kernel) (by decide +kernel)
set_option maxRecDepth 20000 in
theorem gX5_tear_X5_meets : GoodIn wsX5_tear (wsV RX5 66 RX5 yX5_meets wsX5_meets) := goodIn_app (goodIn_of _ (by decide +kernel)) ggX5_tear_X5_meets
theorem dX5_tear_0 : decode cX5_tear 0 = .ok (.aload_n 0, 1) := by decide +kernel
theorem dX5_tear_1 : decode cX5_tear 1 = .ok (.iload_n 1, 1) := by decide +kernel
theorem dX5_tear_2 : decode cX5_tear 2 = .ok (.invokevirtual 62, 3) := by decide +kernel
theorem dX5_tear_5 : decode cX5_tear 5 = .ok (.ifCond .ne 5, 3) := by decide +kernel
theorem dX5_tear_8 : decode cX5_tear 8 = .ok (.iconst (-1), 1) := by decide +kernel
theorem dX5_tear_9 : decode cX5_tear 9 = .ok (.ireturn, 1) := by decide +kernel
theorem dX5_tear_10 : decode cX5_tear 10 = .ok (.aload_n 0, 1) := by decide +kernel
theorem dX5_tear_11 : decode cX5_tear 11 = .ok (.getfield 22, 3) := by decide +kernel
theorem dX5_tear_14 : decode cX5_tear 14 = .ok (.iload_n 1, 1) := by decide +kernel
theorem dX5_tear_15 : decode cX5_tear 15 = .ok (.baload, 1) := by decide +kernel
theorem dX5_tear_16 : decode cX5_tear 16 = .ok (.ifCond .eq 9, 3) := by decide +kernel
theorem dX5_tear_19 : decode cX5_tear 19 = .ok (.aload_n 0, 1) := by decide +kernel
theorem dX5_tear_20 : decode cX5_tear 20 = .ok (.iconst 1, 1) := by decide +kernel
theorem dX5_tear_21 : decode cX5_tear 21 = .ok (.invokevirtual 66, 3) := by decide +kernel
theorem dX5_tear_24 : decode cX5_tear 24 = .ok (.ireturn, 1) := by decide +kernel
theorem dX5_tear_25 : decode cX5_tear 25 = .ok (.aload_n 0, 1) := by decide +kernel
theorem dX5_tear_26 : decode cX5_tear 26 = .ok (.getfield 22, 3) := by decide +kernel
theorem dX5_tear_29 : decode cX5_tear 29 = .ok (.iload_n 1, 1) := by decide +kernel
theorem dX5_tear_30 : decode cX5_tear 30 = .ok (.iconst 1, 1) := by decide +kernel
theorem dX5_tear_31 : decode cX5_tear 31 = .ok (.bastore, 1) := by decide +kernel
theorem dX5_tear_32 : decode cX5_tear 32 = .ok (.iconst 1, 1) := by decide +kernel
theorem dX5_tear_33 : decode cX5_tear 33 = .ok (.ireturn, 1) := by decide +kernel
set_option maxRecDepth 20000 in
theorem ggX5_anew_X5_isTest : GoodIn wsX5_anew wsX5_isTest := goodIn_r _ [7, 8, 9, 10, 6, 11, 12, 13, 14, 15, 16, 17, 18, 19, 20, 21, 22, 23, 24, 25, 26, 27, 28, 29, 30] (by decide +kernel) (by decide +kernel)
set_option maxRecDepth 20000 in
theorem gX5_anew_X5_isTest : GoodIn wsX5_anew (wsV RX5 62 RX5 yX5_isTest wsX5_isTest) := goodIn_app (goodIn_of _ (by decide +kernel)) ggX5_anew_X5_isTest
theorem dX5_anew_0 : decode cX5_anew 0 = .ok (.aload_n 0, 1) := by decide +kernel
theorem dX5_anew_1 : decode cX5_anew 1 = .ok (.iload_n 1, 1) := by decide +kernel
theorem dX5_anew_2 : decode cX5_anew 2 = .ok (.invokevirtual 62, 3) := by decide +kernel
theorem dX5_anew_5 : decode cX5_anew 5 = .ok (.ifCond .ne 5, 3) := by decide +kernel
theorem dX5_anew_8 : decode cX5_anew 8 = .ok (.iconst (-1), 1) := by decide +kernel
theorem dX5_anew_9 : decode cX5_anew 9 = .ok (.ireturn, 1) := by decide +kernel
theorem dX5_anew_10 : decode cX5_anew 10 = .ok (.aload_n 0, 1) := by decide +kernel
theorem dX5_anew_11 : decode cX5_anew 11 = .ok (.getfield 22, 3) := by decide +kernel
theorem dX5_anew_14 : decode cX5_anew 14 = .ok (.iload_n 1, 1) := by decide +kernel
theorem dX5_anew_15 : decode cX5_anew 15 = .ok (.baload, 1) := by decide +kernel
theorem dX5_anew_16 : decode cX5_anew 16 = .ok (.ifCond .eq 7, 3) := by decide +kernel
theorem dX5_anew_19 : decode cX5_anew 19 = .ok (.iconst 0, 1) := by decide +kernel
theorem dX5_anew_20 : decode cX5_anew 20 = .ok (.goto 4, 3) := by decide +kernel
theorem dX5_anew_23 : decode cX5_anew 23 = .ok (.iconst 1, 1) := by decide +kernel
theorem dX5_anew_24 : decode cX5_anew 24 = .ok (.istore_n 2, 1) := by decide +kernel
theorem dX5_anew_25 : decode cX5_anew 25 = .ok (.aload_n 0, 1) := by decide +kernel
theorem dX5_anew_26 : decode cX5_anew 26 = .ok (.getfield 22, 3) := by decide +kernel
theorem dX5_anew_29 : decode cX5_anew 29 = .ok (.iload_n 1, 1) := by decide +kernel
theorem dX5_anew_30 : decode cX5_anew 30 = .ok (.iconst 0, 1) := by decide +kernel
theorem dX5_anew_31 : decode cX5_anew 31 = .ok (.bastore, 1) := by decide +kernel
theorem dX5_anew_32 : decode cX5_anew 32 = .ok (.iconst 0, 1) := by decide +kernel
theorem dX5_anew_33 : decode cX5_anew 33 = .ok (.istore_n 3, 1) := by decide +kernel
theorem dX5_anew_34 : decode cX5_anew 34 = .ok (.iload_n 3, 1) := by decide +kernel
theorem dX5_anew_35 : decode cX5_anew 35 = .ok (.iconst 5, 1) := by decide +kernel
theorem dX5_anew_36 : decode cX5_anew 36 = .ok (.if_icmp .ge 20, 3) := by decide +kernel
theorem dX5_anew_39 : decode cX5_anew 39 = .ok (.aload_n 0, 1) := by decide +kernel
theorem dX5_anew_40 : decode cX5_anew 40 = .ok (.getfield 26, 3) := by decide +kernel
theorem dX5_anew_43 : decode cX5_anew 43 = .ok (.iconst 5, 1) := by decide +kernel
theorem dX5_anew_44 : decode cX5_anew 44 = .ok (.iload_n 1, 1) := by decide +kernel
theorem dX5_anew_45 : decode cX5_anew 45 = .ok (.imul, 1) := by decide +kernel
theorem dX5_anew_46 : decode cX5_anew 46 = .ok (.iload_n 3, 1) := by decide +kernel
theorem dX5_anew_47 : decode cX5_anew 47 = .ok (.iadd, 1) := by decide +kernel
theorem dX5_anew_48 : decode cX5_anew 48 = .ok (.iconst 0, 1) := by decide +kernel
theorem dX5_anew_49 : decode cX5_anew 49 = .ok (.iastore, 1) := by decide +kernel
theorem dX5_anew_50 : decode cX5_anew 50 = .ok (.iinc 3 1, 3) := by decide +kernel
theorem dX5_anew_53 : decode cX5_anew 53 = .ok (.goto (-19), 3) := by decide +kernel
theorem dX5_anew_56 : decode cX5_anew 56 = .ok (.iload_n 2, 1) := by decide +kernel
theorem dX5_anew_57 : decode cX5_anew 57 = .ok (.ireturn, 1) := by decide +kernel
set_option maxRecDepth 20000 in
theorem ggX5_copy_X5_isTest : GoodIn wsX5_copy wsX5_isTest := goodIn_r _ [9, 10, 11, 12, 8, 13, 20, 21, 22, 23, 24, 25, 26, 27, 28, 29, 30, 31, 32, 33, 34, 35, 36, 37, 38] (by decide +kernel) (by decide +kernel)
set_option maxRecDepth 20000 in
theorem gX5_copy_X5_isTest : GoodIn wsX5_copy (wsV RX5 62 RX5 yX5_isTest wsX5_isTest) := goodIn_app (goodIn_of _ (by decide +kernel)) ggX5_copy_X5_isTest
set_option maxRecDepth 20000 in
theorem ggX5_copy_X5_meets : GoodIn wsX5_copy wsX5_meets := goodIn_r _ [17, 18, 19, 20, 21, 22, 23, 24, 25, 26, 27, 28, 29, 30, 31, 32, 33, 34, 35, 36, 37, 38] (by decide +kernel) (by decide +kernel)
set_option maxRecDepth 20000 in
theorem gX5_copy_X5_meets : GoodIn wsX5_copy (wsV RX5 66 RX5 yX5_meets wsX5_meets) := goodIn_app (goodIn_of _ (by decide +kernel)) ggX5_copy_X5_meets
theorem dX5_copy_0 : decode cX5_copy 0 = .ok (.aload_n 0, 1) := by decide +kernel
theorem dX5_copy_1 : decode cX5_copy 1 = .ok (.iload_n 1, 1) := by decide +kernel
theorem dX5_copy_2 : decode cX5_copy 2 = .ok (.invokevirtual 62, 3) := by decide +kernel
theorem dX5_copy_5 : decode cX5_copy 5 = .ok (.ifCond .eq 11, 3) := by decide +kernel
theorem dX5_copy_8 : decode cX5_copy 8 = .ok (.aload_n 0, 1) := by decide +kernel
theorem dX5_copy_9 : decode cX5_copy 9 = .ok (.iload_n 3, 1) := by decide +kernel
theorem dX5_copy_10 : decode cX5_copy 10 = .ok (.invokevirtual 62, 3) := by decide +kernel
theorem dX5_copy_13 : decode cX5_copy 13 = .ok (.ifCond .ne 5, 3) := by decide +kernel
theorem dX5_copy_16 : decode cX5_copy 16 = .ok (.iconst (-1), 1) := by decide +kernel
theorem dX5_copy_17 : decode cX5_copy 17 = .ok (.ireturn, 1) := by decide +kernel
theorem dX5_copy_18 : decode cX5_copy 18 = .ok (.iload 5, 2) := by decide +kernel
theorem dX5_copy_20 : decode cX5_copy 20 = .ok (.ifCond .ge 9, 3) := by decide +kernel
theorem dX5_copy_23 : decode cX5_copy 23 = .ok (.aload_n 0, 1) := by decide +kernel
theorem dX5_copy_24 : decode cX5_copy 24 = .ok (.iconst 4, 1) := by decide +kernel
theorem dX5_copy_25 : decode cX5_copy 25 = .ok (.invokevirtual 66, 3) := by decide +kernel
theorem dX5_copy_28 : decode cX5_copy 28 = .ok (.ireturn, 1) := by decide +kernel
theorem dX5_copy_29 : decode cX5_copy 29 = .ok (.aload_n 0, 1) := by decide +kernel
theorem dX5_copy_30 : decode cX5_copy 30 = .ok (.getfield 22, 3) := by decide +kernel
theorem dX5_copy_33 : decode cX5_copy 33 = .ok (.iload_n 1, 1) := by decide +kernel
theorem dX5_copy_34 : decode cX5_copy 34 = .ok (.baload, 1) := by decide +kernel
theorem dX5_copy_35 : decode cX5_copy 35 = .ok (.ifCond .ne 12, 3) := by decide +kernel
theorem dX5_copy_38 : decode cX5_copy 38 = .ok (.aload_n 0, 1) := by decide +kernel
theorem dX5_copy_39 : decode cX5_copy 39 = .ok (.getfield 22, 3) := by decide +kernel
theorem dX5_copy_42 : decode cX5_copy 42 = .ok (.iload_n 3, 1) := by decide +kernel
theorem dX5_copy_43 : decode cX5_copy 43 = .ok (.baload, 1) := by decide +kernel
theorem dX5_copy_44 : decode cX5_copy 44 = .ok (.ifCond .eq 9, 3) := by decide +kernel
theorem dX5_copy_47 : decode cX5_copy 47 = .ok (.aload_n 0, 1) := by decide +kernel
theorem dX5_copy_48 : decode cX5_copy 48 = .ok (.iconst 1, 1) := by decide +kernel
theorem dX5_copy_49 : decode cX5_copy 49 = .ok (.invokevirtual 66, 3) := by decide +kernel
theorem dX5_copy_52 : decode cX5_copy 52 = .ok (.ireturn, 1) := by decide +kernel
theorem dX5_copy_53 : decode cX5_copy 53 = .ok (.iload_n 2, 1) := by decide +kernel
theorem dX5_copy_54 : decode cX5_copy 54 = .ok (.ifCond .lt 35, 3) := by decide +kernel
theorem dX5_copy_57 : decode cX5_copy 57 = .ok (.iload 4, 2) := by decide +kernel
theorem dX5_copy_59 : decode cX5_copy 59 = .ok (.ifCond .lt 30, 3) := by decide +kernel
theorem dX5_copy_62 : decode cX5_copy 62 = .ok (.iload_n 2, 1) := by decide +kernel
theorem dX5_copy_63 : decode cX5_copy 63 = .ok (.i2l, 1) := by decide +kernel
theorem dX5_copy_64 : decode cX5_copy 64 = .ok (.iload 5, 2) := by decide +kernel
theorem dX5_copy_66 : decode cX5_copy 66 = .ok (.i2l, 1) := by decide +kernel
theorem dX5_copy_67 : decode cX5_copy 67 = .ok (.ladd, 1) := by decide +kernel
theorem dX5_copy_68 : decode cX5_copy 68 = .ok (.ldc2_w 70, 3) := by decide +kernel
theorem dX5_copy_71 : decode cX5_copy 71 = .ok (.lcmp, 1) := by decide +kernel
theorem dX5_copy_72 : decode cX5_copy 72 = .ok (.ifCond .gt 17, 3) := by decide +kernel
theorem dX5_copy_75 : decode cX5_copy 75 = .ok (.iload 4, 2) := by decide +kernel
theorem dX5_copy_77 : decode cX5_copy 77 = .ok (.i2l, 1) := by decide +kernel
theorem dX5_copy_78 : decode cX5_copy 78 = .ok (.iload 5, 2) := by decide +kernel
theorem dX5_copy_80 : decode cX5_copy 80 = .ok (.i2l, 1) := by decide +kernel
theorem dX5_copy_81 : decode cX5_copy 81 = .ok (.ladd, 1) := by decide +kernel
theorem dX5_copy_82 : decode cX5_copy 82 = .ok (.ldc2_w 70, 3) := by decide +kernel
theorem dX5_copy_85 : decode cX5_copy 85 = .ok (.lcmp, 1) := by decide +kernel
theorem dX5_copy_86 : decode cX5_copy 86 = .ok (.ifCond .le 9, 3) := by decide +kernel
theorem dX5_copy_89 : decode cX5_copy 89 = .ok (.aload_n 0, 1) := by decide +kernel
theorem dX5_copy_90 : decode cX5_copy 90 = .ok (.iconst 2, 1) := by decide +kernel
theorem dX5_copy_91 : decode cX5_copy 91 = .ok (.invokevirtual 66, 3) := by decide +kernel
theorem dX5_copy_94 : decode cX5_copy 94 = .ok (.ireturn, 1) := by decide +kernel
theorem dX5_copy_95 : decode cX5_copy 95 = .ok (.iconst 0, 1) := by decide +kernel
theorem dX5_copy_96 : decode cX5_copy 96 = .ok (.istore 6, 2) := by decide +kernel
theorem dX5_copy_98 : decode cX5_copy 98 = .ok (.iload 6, 2) := by decide +kernel
theorem dX5_copy_100 : decode cX5_copy 100 = .ok (.iload 5, 2) := by decide +kernel
theorem dX5_copy_102 : decode cX5_copy 102 = .ok (.if_icmp .ge 29, 3) := by decide +kernel
theorem dX5_copy_105 : decode cX5_copy 105 = .ok (.aload_n 0, 1) := by decide +kernel
theorem dX5_copy_106 : decode cX5_copy 106 = .ok (.getfield 36, 3) := by decide +kernel
theorem dX5_copy_109 : decode cX5_copy 109 = .ok (.iload 6, 2) := by decide +kernel
theorem dX5_copy_111 : decode cX5_copy 111 = .ok (.aload_n 0, 1) := by decide +kernel
theorem dX5_copy_112 : decode cX5_copy 112 = .ok (.getfield 26, 3) := by decide +kernel
theorem dX5_copy_115 : decode cX5_copy 115 = .ok (.iconst 5, 1) := by decide +kernel
theorem dX5_copy_116 : decode cX5_copy 116 = .ok (.iload_n 1, 1) := by decide +kernel
theorem dX5_copy_117 : decode cX5_copy 117 = .ok (.imul, 1) := by decide +kernel
theorem dX5_copy_118 : decode cX5_copy 118 = .ok (.iload_n 2, 1) := by decide +kernel
theorem dX5_copy_119 : decode cX5_copy 119 = .ok (.iadd, 1) := by decide +kernel
theorem dX5_copy_120 : decode cX5_copy 120 = .ok (.iload 6, 2) := by decide +kernel
theorem dX5_copy_122 : decode cX5_copy 122 = .ok (.iadd, 1) := by decide +kernel
theorem dX5_copy_123 : decode cX5_copy 123 = .ok (.iaload, 1) := by decide +kernel
theorem dX5_copy_124 : decode cX5_copy 124 = .ok (.iastore, 1) := by decide +kernel
theorem dX5_copy_125 : decode cX5_copy 125 = .ok (.iinc 6 1, 3) := by decide +kernel
theorem dX5_copy_128 : decode cX5_copy 128 = .ok (.goto (-30), 3) := by decide +kernel
theorem dX5_copy_131 : decode cX5_copy 131 = .ok (.iconst 0, 1) := by decide +kernel
theorem dX5_copy_132 : decode cX5_copy 132 = .ok (.istore 6, 2) := by decide +kernel
theorem dX5_copy_134 : decode cX5_copy 134 = .ok (.iload 6, 2) := by decide +kernel
theorem dX5_copy_136 : decode cX5_copy 136 = .ok (.iload 5, 2) := by decide +kernel
theorem dX5_copy_138 : decode cX5_copy 138 = .ok (.if_icmp .ge 30, 3) := by decide +kernel
theorem dX5_copy_141 : decode cX5_copy 141 = .ok (.aload_n 0, 1) := by decide +kernel
theorem dX5_copy_142 : decode cX5_copy 142 = .ok (.getfield 26, 3) := by decide +kernel
theorem dX5_copy_145 : decode cX5_copy 145 = .ok (.iconst 5, 1) := by decide +kernel
theorem dX5_copy_146 : decode cX5_copy 146 = .ok (.iload_n 3, 1) := by decide +kernel
theorem dX5_copy_147 : decode cX5_copy 147 = .ok (.imul, 1) := by decide +kernel
theorem dX5_copy_148 : decode cX5_copy 148 = .ok (.iload 4, 2) := by decide +kernel
theorem dX5_copy_150 : decode cX5_copy 150 = .ok (.iadd, 1) := by decide +kernel
theorem dX5_copy_151 : decode cX5_copy 151 = .ok (.iload 6, 2) := by decide +kernel
theorem dX5_copy_153 : decode cX5_copy 153 = .ok (.iadd, 1) := by decide +kernel
theorem dX5_copy_154 : decode cX5_copy 154 = .ok (.aload_n 0, 1) := by decide +kernel
theorem dX5_copy_155 : decode cX5_copy 155 = .ok (.getfield 36, 3) := by decide +kernel
theorem dX5_copy_158 : decode cX5_copy 158 = .ok (.iload 6, 2) := by decide +kernel
theorem dX5_copy_160 : decode cX5_copy 160 = .ok (.iaload, 1) := by decide +kernel
theorem dX5_copy_161 : decode cX5_copy 161 = .ok (.iastore, 1) := by decide +kernel
theorem dX5_copy_162 : decode cX5_copy 162 = .ok (.iinc 6 1, 3) := by decide +kernel
theorem dX5_copy_165 : decode cX5_copy 165 = .ok (.goto (-31), 3) := by decide +kernel
theorem dX5_copy_168 : decode cX5_copy 168 = .ok (.iconst 1, 1) := by decide +kernel
theorem dX5_copy_169 : decode cX5_copy 169 = .ok (.ireturn, 1) := by decide +kernel
theorem dX5_reachOf_0 : decode cX5_reachOf 0 = .ok (.lconst 0, 1) := by decide +kernel
theorem dX5_reachOf_1 : decode cX5_reachOf 1 = .ok (.lstore_n 2, 1) := by decide +kernel
theorem dX5_reachOf_2 : decode cX5_reachOf 2 = .ok (.iconst 0, 1) := by decide +kernel
theorem dX5_reachOf_3 : decode cX5_reachOf 3 = .ok (.istore 4, 2) := by decide +kernel
theorem dX5_reachOf_5 : decode cX5_reachOf 5 = .ok (.iload 4, 2) := by decide +kernel
theorem dX5_reachOf_7 : decode cX5_reachOf 7 = .ok (.iconst 5, 1) := by decide +kernel
theorem dX5_reachOf_8 : decode cX5_reachOf 8 = .ok (.if_icmp .ge 39, 3) := by decide +kernel
theorem dX5_reachOf_11 : decode cX5_reachOf 11 = .ok (.aload_n 0, 1) := by decide +kernel
theorem dX5_reachOf_12 : decode cX5_reachOf 12 = .ok (.getfield 22, 3) := by decide +kernel
theorem dX5_reachOf_15 : decode cX5_reachOf 15 = .ok (.iload_n 1, 1) := by decide +kernel
theorem dX5_reachOf_16 : decode cX5_reachOf 16 = .ok (.baload, 1) := by decide +kernel
theorem dX5_reachOf_17 : decode cX5_reachOf 17 = .ok (.ifCond .ne 30, 3) := by decide +kernel
theorem dX5_reachOf_20 : decode cX5_reachOf 20 = .ok (.lload_n 2, 1) := by decide +kernel
theorem dX5_reachOf_21 : decode cX5_reachOf 21 = .ok (.aload_n 0, 1) := by decide +kernel
theorem dX5_reachOf_22 : decode cX5_reachOf 22 = .ok (.getfield 26, 3) := by decide +kernel
theorem dX5_reachOf_25 : decode cX5_reachOf 25 = .ok (.iconst 5, 1) := by decide +kernel
theorem dX5_reachOf_26 : decode cX5_reachOf 26 = .ok (.iload_n 1, 1) := by decide +kernel
theorem dX5_reachOf_27 : decode cX5_reachOf 27 = .ok (.imul, 1) := by decide +kernel
theorem dX5_reachOf_28 : decode cX5_reachOf 28 = .ok (.iload 4, 2) := by decide +kernel
theorem dX5_reachOf_30 : decode cX5_reachOf 30 = .ok (.iadd, 1) := by decide +kernel
theorem dX5_reachOf_31 : decode cX5_reachOf 31 = .ok (.iaload, 1) := by decide +kernel
theorem dX5_reachOf_32 : decode cX5_reachOf 32 = .ok (.i2l, 1) := by decide +kernel
theorem dX5_reachOf_33 : decode cX5_reachOf 33 = .ok (.bipush 8, 2) := by decide +kernel
theorem dX5_reachOf_35 : decode cX5_reachOf 35 = .ok (.iload 4, 2) := by decide +kernel
theorem dX5_reachOf_37 : decode cX5_reachOf 37 = .ok (.imul, 1) := by decide +kernel
theorem dX5_reachOf_38 : decode cX5_reachOf 38 = .ok (.lshl, 1) := by decide +kernel
theorem dX5_reachOf_39 : decode cX5_reachOf 39 = .ok (.lor, 1) := by decide +kernel
theorem dX5_reachOf_40 : decode cX5_reachOf 40 = .ok (.lstore_n 2, 1) := by decide +kernel
theorem dX5_reachOf_41 : decode cX5_reachOf 41 = .ok (.iinc 4 1, 3) := by decide +kernel
theorem dX5_reachOf_44 : decode cX5_reachOf 44 = .ok (.goto (-39), 3) := by decide +kernel
theorem dX5_reachOf_47 : decode cX5_reachOf 47 = .ok (.lload_n 2, 1) := by decide +kernel
theorem dX5_reachOf_48 : decode cX5_reachOf 48 = .ok (.lreturn, 1) := by decide +kernel
theorem dX5_timeOf_0 : decode cX5_timeOf 0 = .ok (.aload_n 0, 1) := by decide +kernel
theorem dX5_timeOf_1 : decode cX5_timeOf 1 = .ok (.getfield 13, 3) := by decide +kernel
theorem dX5_timeOf_4 : decode cX5_timeOf 4 = .ok (.iload_n 1, 1) := by decide +kernel
theorem dX5_timeOf_5 : decode cX5_timeOf 5 = .ok (.iaload, 1) := by decide +kernel
theorem dX5_timeOf_6 : decode cX5_timeOf 6 = .ok (.iconst 1, 1) := by decide +kernel
theorem dX5_timeOf_7 : decode cX5_timeOf 7 = .ok (.if_icmp .ne 14, 3) := by decide +kernel
theorem dX5_timeOf_10 : decode cX5_timeOf 10 = .ok (.iconst 3, 1) := by decide +kernel
theorem dX5_timeOf_11 : decode cX5_timeOf 11 = .ok (.aload_n 0, 1) := by decide +kernel
theorem dX5_timeOf_12 : decode cX5_timeOf 12 = .ok (.getfield 16, 3) := by decide +kernel
theorem dX5_timeOf_15 : decode cX5_timeOf 15 = .ok (.iload_n 1, 1) := by decide +kernel
theorem dX5_timeOf_16 : decode cX5_timeOf 16 = .ok (.iaload, 1) := by decide +kernel
theorem dX5_timeOf_17 : decode cX5_timeOf 17 = .ok (.imul, 1) := by decide +kernel
theorem dX5_timeOf_18 : decode cX5_timeOf 18 = .ok (.goto 9, 3) := by decide +kernel
theorem dX5_timeOf_21 : decode cX5_timeOf 21 = .ok (.aload_n 0, 1) := by decide +kernel
theorem dX5_timeOf_22 : decode cX5_timeOf 22 = .ok (.getfield 16, 3) := by decide +kernel
theorem dX5_timeOf_25 : decode cX5_timeOf 25 = .ok (.iload_n 1, 1) := by decide +kernel
theorem dX5_timeOf_26 : decode cX5_timeOf 26 = .ok (.iaload, 1) := by decide +kernel
theorem dX5_timeOf_27 : decode cX5_timeOf 27 = .ok (.ireturn, 1) := by decide +kernel
theorem dX5_chainOf_0 : decode cX5_chainOf 0 = .ok (.iconst 0, 1) := by decide +kernel
theorem dX5_chainOf_1 : decode cX5_chainOf 1 = .ok (.istore_n 2, 1) := by decide +kernel
theorem dX5_chainOf_2 : decode cX5_chainOf 2 = .ok (.iload_n 1, 1) := by decide +kernel
theorem dX5_chainOf_3 : decode cX5_chainOf 3 = .ok (.istore_n 3, 1) := by decide +kernel
theorem dX5_chainOf_4 : decode cX5_chainOf 4 = .ok (.iload_n 3, 1) := by decide +kernel
theorem dX5_chainOf_5 : decode cX5_chainOf 5 = .ok (.ifCond .lt 19, 3) := by decide +kernel
theorem dX5_chainOf_8 : decode cX5_chainOf 8 = .ok (.iload_n 2, 1) := by decide +kernel
theorem dX5_chainOf_9 : decode cX5_chainOf 9 = .ok (.iconst 1, 1) := by decide +kernel
theorem dX5_chainOf_10 : decode cX5_chainOf 10 = .ok (.iload_n 3, 1) := by decide +kernel
theorem dX5_chainOf_11 : decode cX5_chainOf 11 = .ok (.ishl, 1) := by decide +kernel
theorem dX5_chainOf_12 : decode cX5_chainOf 12 = .ok (.ior, 1) := by decide +kernel
theorem dX5_chainOf_13 : decode cX5_chainOf 13 = .ok (.istore_n 2, 1) := by decide +kernel
theorem dX5_chainOf_14 : decode cX5_chainOf 14 = .ok (.aload_n 0, 1) := by decide +kernel
theorem dX5_chainOf_15 : decode cX5_chainOf 15 = .ok (.getfield 19, 3) := by decide +kernel
theorem dX5_chainOf_18 : decode cX5_chainOf 18 = .ok (.iload_n 3, 1) := by decide +kernel
theorem dX5_chainOf_19 : decode cX5_chainOf 19 = .ok (.iaload, 1) := by decide +kernel
theorem dX5_chainOf_20 : decode cX5_chainOf 20 = .ok (.istore_n 3, 1) := by decide +kernel
theorem dX5_chainOf_21 : decode cX5_chainOf 21 = .ok (.goto (-17), 3) := by decide +kernel
theorem dX5_chainOf_24 : decode cX5_chainOf 24 = .ok (.iload_n 2, 1) := by decide +kernel
theorem dX5_chainOf_25 : decode cX5_chainOf 25 = .ok (.ireturn, 1) := by decide +kernel
theorem dX5_bits_0 : decode cX5_bits 0 = .ok (.iconst 0, 1) := by decide +kernel
theorem dX5_bits_1 : decode cX5_bits 1 = .ok (.istore_n 2, 1) := by decide +kernel
theorem dX5_bits_2 : decode cX5_bits 2 = .ok (.iconst 0, 1) := by decide +kernel
theorem dX5_bits_3 : decode cX5_bits 3 = .ok (.istore_n 3, 1) := by decide +kernel
theorem dX5_bits_4 : decode cX5_bits 4 = .ok (.iload_n 3, 1) := by decide +kernel
theorem dX5_bits_5 : decode cX5_bits 5 = .ok (.bipush 40, 2) := by decide +kernel
theorem dX5_bits_7 : decode cX5_bits 7 = .ok (.if_icmp .ge 18, 3) := by decide +kernel
theorem dX5_bits_10 : decode cX5_bits 10 = .ok (.iload_n 2, 1) := by decide +kernel
theorem dX5_bits_11 : decode cX5_bits 11 = .ok (.lload_n 0, 1) := by decide +kernel
theorem dX5_bits_12 : decode cX5_bits 12 = .ok (.iload_n 3, 1) := by decide +kernel
theorem dX5_bits_13 : decode cX5_bits 13 = .ok (.lshr, 1) := by decide +kernel
theorem dX5_bits_14 : decode cX5_bits 14 = .ok (.lconst 1, 1) := by decide +kernel
theorem dX5_bits_15 : decode cX5_bits 15 = .ok (.land, 1) := by decide +kernel
theorem dX5_bits_16 : decode cX5_bits 16 = .ok (.l2i, 1) := by decide +kernel
theorem dX5_bits_17 : decode cX5_bits 17 = .ok (.iadd, 1) := by decide +kernel
theorem dX5_bits_18 : decode cX5_bits 18 = .ok (.istore_n 2, 1) := by decide +kernel
theorem dX5_bits_19 : decode cX5_bits 19 = .ok (.iinc 3 1, 3) := by decide +kernel
theorem dX5_bits_22 : decode cX5_bits 22 = .ok (.goto (-18), 3) := by decide +kernel
theorem dX5_bits_25 : decode cX5_bits 25 = .ok (.iload_n 2, 1) := by decide +kernel
theorem dX5_bits_26 : decode cX5_bits 26 = .ok (.ireturn, 1) := by decide +kernel
theorem dX5_has_0 : decode cX5_has 0 = .ok (.iload_n 0, 1) := by decide +kernel
theorem dX5_has_1 : decode cX5_has 1 = .ok (.iload_n 1, 1) := by decide +kernel
theorem dX5_has_2 : decode cX5_has 2 = .ok (.ishr, 1) := by decide +kernel
theorem dX5_has_3 : decode cX5_has 3 = .ok (.iconst 1, 1) := by decide +kernel
theorem dX5_has_4 : decode cX5_has 4 = .ok (.iand, 1) := by decide +kernel
theorem dX5_has_5 : decode cX5_has 5 = .ok (.iconst 1, 1) := by decide +kernel
theorem dX5_has_6 : decode cX5_has 6 = .ok (.if_icmp .ne 7, 3) := by decide +kernel
theorem dX5_has_9 : decode cX5_has 9 = .ok (.iconst 1, 1) := by decide +kernel
theorem dX5_has_10 : decode cX5_has 10 = .ok (.goto 4, 3) := by decide +kernel
theorem dX5_has_13 : decode cX5_has 13 = .ok (.iconst 0, 1) := by decide +kernel
theorem dX5_has_14 : decode cX5_has 14 = .ok (.ireturn, 1) := by decide +kernel
theorem dX5_heatOf_0 : decode cX5_heatOf 0 = .ok (.iconst 0, 1) := by decide +kernel
theorem dX5_heatOf_1 : decode cX5_heatOf 1 = .ok (.istore_n 2, 1) := by decide +kernel
theorem dX5_heatOf_2 : decode cX5_heatOf 2 = .ok (.iconst 1, 1) := by decide +kernel
theorem dX5_heatOf_3 : decode cX5_heatOf 3 = .ok (.istore_n 3, 1) := by decide +kernel
theorem dX5_heatOf_4 : decode cX5_heatOf 4 = .ok (.iload_n 3, 1) := by decide +kernel
theorem dX5_heatOf_5 : decode cX5_heatOf 5 = .ok (.bipush 8, 2) := by decide +kernel
theorem dX5_heatOf_7 : decode cX5_heatOf 7 = .ok (.if_icmp .gt 55, 3) := by decide +kernel
theorem dX5_heatOf_10 : decode cX5_heatOf 10 = .ok (.aload_n 0, 1) := by decide +kernel
theorem dX5_heatOf_11 : decode cX5_heatOf 11 = .ok (.getfield 59, 3) := by decide +kernel
theorem dX5_heatOf_14 : decode cX5_heatOf 14 = .ok (.iconst 1, 1) := by decide +kernel
theorem dX5_heatOf_15 : decode cX5_heatOf 15 = .ok (.isub, 1) := by decide +kernel
theorem dX5_heatOf_16 : decode cX5_heatOf 16 = .ok (.iload_n 3, 1) := by decide +kernel
theorem dX5_heatOf_17 : decode cX5_heatOf 17 = .ok (.isub, 1) := by decide +kernel
theorem dX5_heatOf_18 : decode cX5_heatOf 18 = .ok (.ifCond .lt 44, 3) := by decide +kernel
theorem dX5_heatOf_21 : decode cX5_heatOf 21 = .ok (.iload_n 2, 1) := by decide +kernel
theorem dX5_heatOf_22 : decode cX5_heatOf 22 = .ok (.aload_n 0, 1) := by decide +kernel
theorem dX5_heatOf_23 : decode cX5_heatOf 23 = .ok (.getfield 33, 3) := by decide +kernel
theorem dX5_heatOf_26 : decode cX5_heatOf 26 = .ok (.bipush 20, 2) := by decide +kernel
theorem dX5_heatOf_28 : decode cX5_heatOf 28 = .ok (.aload_n 0, 1) := by decide +kernel
theorem dX5_heatOf_29 : decode cX5_heatOf 29 = .ok (.getfield 59, 3) := by decide +kernel
theorem dX5_heatOf_32 : decode cX5_heatOf 32 = .ok (.iconst 1, 1) := by decide +kernel
theorem dX5_heatOf_33 : decode cX5_heatOf 33 = .ok (.isub, 1) := by decide +kernel
theorem dX5_heatOf_34 : decode cX5_heatOf 34 = .ok (.iload_n 3, 1) := by decide +kernel
theorem dX5_heatOf_35 : decode cX5_heatOf 35 = .ok (.isub, 1) := by decide +kernel
theorem dX5_heatOf_36 : decode cX5_heatOf 36 = .ok (.imul, 1) := by decide +kernel
theorem dX5_heatOf_37 : decode cX5_heatOf 37 = .ok (.iload_n 1, 1) := by decide +kernel
theorem dX5_heatOf_38 : decode cX5_heatOf 38 = .ok (.iadd, 1) := by decide +kernel
theorem dX5_heatOf_39 : decode cX5_heatOf 39 = .ok (.iaload, 1) := by decide +kernel
theorem dX5_heatOf_40 : decode cX5_heatOf 40 = .ok (.iconst 1, 1) := by decide +kernel
theorem dX5_heatOf_41 : decode cX5_heatOf 41 = .ok (.if_icmp .ne 12, 3) := by decide +kernel
theorem dX5_heatOf_44 : decode cX5_heatOf 44 = .ok (.iconst 1, 1) := by decide +kernel
theorem dX5_heatOf_45 : decode cX5_heatOf 45 = .ok (.bipush 8, 2) := by decide +kernel
theorem dX5_heatOf_47 : decode cX5_heatOf 47 = .ok (.iload_n 3, 1) := by decide +kernel
theorem dX5_heatOf_48 : decode cX5_heatOf 48 = .ok (.isub, 1) := by decide +kernel
theorem dX5_heatOf_49 : decode cX5_heatOf 49 = .ok (.ishl, 1) := by decide +kernel
theorem dX5_heatOf_50 : decode cX5_heatOf 50 = .ok (.goto 4, 3) := by decide +kernel
theorem dX5_heatOf_53 : decode cX5_heatOf 53 = .ok (.iconst 0, 1) := by decide +kernel
theorem dX5_heatOf_54 : decode cX5_heatOf 54 = .ok (.iadd, 1) := by decide +kernel
theorem dX5_heatOf_55 : decode cX5_heatOf 55 = .ok (.istore_n 2, 1) := by decide +kernel
theorem dX5_heatOf_56 : decode cX5_heatOf 56 = .ok (.iinc 3 1, 3) := by decide +kernel
theorem dX5_heatOf_59 : decode cX5_heatOf 59 = .ok (.goto (-55), 3) := by decide +kernel
theorem dX5_heatOf_62 : decode cX5_heatOf 62 = .ok (.iload_n 2, 1) := by decide +kernel
theorem dX5_heatOf_63 : decode cX5_heatOf 63 = .ok (.ireturn, 1) := by decide +kernel
set_option maxRecDepth 20000 in
theorem ggX5_isFlaky_X5_reachOf : GoodIn wsX5_isFlaky wsX5_reachOf := goodIn_r _ [8, 9, 10, 11, 12, 13, 14, 15, 16, 17, 18, 19, 20, 21, 22, 23, 24, 25, 26, 27, 28, 29] (by decide +kernel) (by decide +kernel)
set_option maxRecDepth 20000 in
theorem gX5_isFlaky_X5_reachOf : GoodIn wsX5_isFlaky (wsV RX5 72 RX5 yX5_reachOf wsX5_reachOf) := goodIn_app (goodIn_of _ (by decide +kernel)) ggX5_isFlaky_X5_reachOf
theorem dX5_isFlaky_0 : decode cX5_isFlaky 0 = .ok (.aload_n 0, 1) := by decide +kernel
theorem dX5_isFlaky_1 : decode cX5_isFlaky 1 = .ok (.iload_n 1, 1) := by decide +kernel
theorem dX5_isFlaky_2 : decode cX5_isFlaky 2 = .ok (.invokevirtual 72, 3) := by decide +kernel
theorem dX5_isFlaky_5 : decode cX5_isFlaky 5 = .ok (.lstore_n 2, 1) := by decide +kernel
theorem dX5_isFlaky_6 : decode cX5_isFlaky 6 = .ok (.bipush (-9), 2) := by decide +kernel
theorem dX5_isFlaky_8 : decode cX5_isFlaky 8 = .ok (.istore 4, 2) := by decide +kernel
theorem dX5_isFlaky_10 : decode cX5_isFlaky 10 = .ok (.iconst 0, 1) := by decide +kernel
theorem dX5_isFlaky_11 : decode cX5_isFlaky 11 = .ok (.istore 5, 2) := by decide +kernel
theorem dX5_isFlaky_13 : decode cX5_isFlaky 13 = .ok (.iconst 0, 1) := by decide +kernel
theorem dX5_isFlaky_14 : decode cX5_isFlaky 14 = .ok (.istore 6, 2) := by decide +kernel
theorem dX5_isFlaky_16 : decode cX5_isFlaky 16 = .ok (.iconst 0, 1) := by decide +kernel
theorem dX5_isFlaky_17 : decode cX5_isFlaky 17 = .ok (.istore 7, 2) := by decide +kernel
theorem dX5_isFlaky_19 : decode cX5_isFlaky 19 = .ok (.iload 7, 2) := by decide +kernel
theorem dX5_isFlaky_21 : decode cX5_isFlaky 21 = .ok (.aload_n 0, 1) := by decide +kernel
theorem dX5_isFlaky_22 : decode cX5_isFlaky 22 = .ok (.getfield 59, 3) := by decide +kernel
theorem dX5_isFlaky_25 : decode cX5_isFlaky 25 = .ok (.if_icmp .ge 90, 3) := by decide +kernel
theorem dX5_isFlaky_28 : decode cX5_isFlaky 28 = .ok (.iload 5, 2) := by decide +kernel
theorem dX5_isFlaky_30 : decode cX5_isFlaky 30 = .ok (.ifCond .ne 17, 3) := by decide +kernel
theorem dX5_isFlaky_33 : decode cX5_isFlaky 33 = .ok (.aload_n 0, 1) := by decide +kernel
theorem dX5_isFlaky_34 : decode cX5_isFlaky 34 = .ok (.getfield 29, 3) := by decide +kernel
theorem dX5_isFlaky_37 : decode cX5_isFlaky 37 = .ok (.iload 7, 2) := by decide +kernel
theorem dX5_isFlaky_39 : decode cX5_isFlaky 39 = .ok (.laload, 1) := by decide +kernel
theorem dX5_isFlaky_40 : decode cX5_isFlaky 40 = .ok (.lload_n 2, 1) := by decide +kernel
theorem dX5_isFlaky_41 : decode cX5_isFlaky 41 = .ok (.land, 1) := by decide +kernel
theorem dX5_isFlaky_42 : decode cX5_isFlaky 42 = .ok (.lconst 0, 1) := by decide +kernel
theorem dX5_isFlaky_43 : decode cX5_isFlaky 43 = .ok (.lcmp, 1) := by decide +kernel
theorem dX5_isFlaky_44 : decode cX5_isFlaky 44 = .ok (.ifCond .eq 7, 3) := by decide +kernel
theorem dX5_isFlaky_47 : decode cX5_isFlaky 47 = .ok (.iconst 1, 1) := by decide +kernel
theorem dX5_isFlaky_48 : decode cX5_isFlaky 48 = .ok (.goto 4, 3) := by decide +kernel
theorem dX5_isFlaky_51 : decode cX5_isFlaky 51 = .ok (.iconst 0, 1) := by decide +kernel
theorem dX5_isFlaky_52 : decode cX5_isFlaky 52 = .ok (.istore 5, 2) := by decide +kernel
theorem dX5_isFlaky_54 : decode cX5_isFlaky 54 = .ok (.aload_n 0, 1) := by decide +kernel
theorem dX5_isFlaky_55 : decode cX5_isFlaky 55 = .ok (.getfield 33, 3) := by decide +kernel
theorem dX5_isFlaky_58 : decode cX5_isFlaky 58 = .ok (.bipush 20, 2) := by decide +kernel
theorem dX5_isFlaky_60 : decode cX5_isFlaky 60 = .ok (.iload 7, 2) := by decide +kernel
theorem dX5_isFlaky_62 : decode cX5_isFlaky 62 = .ok (.imul, 1) := by decide +kernel
theorem dX5_isFlaky_63 : decode cX5_isFlaky 63 = .ok (.iload_n 1, 1) := by decide +kernel
theorem dX5_isFlaky_64 : decode cX5_isFlaky 64 = .ok (.iadd, 1) := by decide +kernel
theorem dX5_isFlaky_65 : decode cX5_isFlaky 65 = .ok (.iaload, 1) := by decide +kernel
theorem dX5_isFlaky_66 : decode cX5_isFlaky 66 = .ok (.istore 8, 2) := by decide +kernel
theorem dX5_isFlaky_68 : decode cX5_isFlaky 68 = .ok (.iload 8, 2) := by decide +kernel
theorem dX5_isFlaky_70 : decode cX5_isFlaky 70 = .ok (.ifCond .lt 39, 3) := by decide +kernel
theorem dX5_isFlaky_73 : decode cX5_isFlaky 73 = .ok (.iload 6, 2) := by decide +kernel
theorem dX5_isFlaky_75 : decode cX5_isFlaky 75 = .ok (.ifCond .ne 20, 3) := by decide +kernel
theorem dX5_isFlaky_78 : decode cX5_isFlaky 78 = .ok (.iload 4, 2) := by decide +kernel
theorem dX5_isFlaky_80 : decode cX5_isFlaky 80 = .ok (.ifCond .lt 19, 3) := by decide +kernel
theorem dX5_isFlaky_83 : decode cX5_isFlaky 83 = .ok (.iload 4, 2) := by decide +kernel
theorem dX5_isFlaky_85 : decode cX5_isFlaky 85 = .ok (.iload 8, 2) := by decide +kernel
theorem dX5_isFlaky_87 : decode cX5_isFlaky 87 = .ok (.if_icmp .eq 12, 3) := by decide +kernel
theorem dX5_isFlaky_90 : decode cX5_isFlaky 90 = .ok (.iload 5, 2) := by decide +kernel
theorem dX5_isFlaky_92 : decode cX5_isFlaky 92 = .ok (.ifCond .ne 7, 3) := by decide +kernel
theorem dX5_isFlaky_95 : decode cX5_isFlaky 95 = .ok (.iconst 1, 1) := by decide +kernel
theorem dX5_isFlaky_96 : decode cX5_isFlaky 96 = .ok (.goto 4, 3) := by decide +kernel
theorem dX5_isFlaky_99 : decode cX5_isFlaky 99 = .ok (.iconst 0, 1) := by decide +kernel
theorem dX5_isFlaky_100 : decode cX5_isFlaky 100 = .ok (.istore 6, 2) := by decide +kernel
theorem dX5_isFlaky_102 : decode cX5_isFlaky 102 = .ok (.iload 8, 2) := by decide +kernel
theorem dX5_isFlaky_104 : decode cX5_isFlaky 104 = .ok (.istore 4, 2) := by decide +kernel
theorem dX5_isFlaky_106 : decode cX5_isFlaky 106 = .ok (.iconst 0, 1) := by decide +kernel
theorem dX5_isFlaky_107 : decode cX5_isFlaky 107 = .ok (.istore 5, 2) := by decide +kernel
theorem dX5_isFlaky_109 : decode cX5_isFlaky 109 = .ok (.iinc 7 1, 3) := by decide +kernel
theorem dX5_isFlaky_112 : decode cX5_isFlaky 112 = .ok (.goto (-93), 3) := by decide +kernel
theorem dX5_isFlaky_115 : decode cX5_isFlaky 115 = .ok (.iload 6, 2) := by decide +kernel
theorem dX5_isFlaky_117 : decode cX5_isFlaky 117 = .ok (.ireturn, 1) := by decide +kernel
set_option maxRecDepth 20000 in
theorem ggX5_isBroken_X5_isFlaky : GoodIn wsX5_isBroken wsX5_isFlaky := goodIn_r _ [7, 1, 8, 2, 9, 10, 11, 6, 12, 13, 14, 15, 16, 17, 18, 19, 20, 21, 22, 23, 24, 25, 26, 27, 28, 29, 30, 31, 32, 33] (by decide +kernel) (by decide +kernel)
set_option maxRecDepth 20000 in
theorem gX5_isBroken_X5_isFlaky : GoodIn wsX5_isBroken (wsV RX5 76 RX5 yX5_isFlaky wsX5_isFlaky) := goodIn_app (goodIn_of _ (by decide +kernel)) ggX5_isBroken_X5_isFlaky
theorem dX5_isBroken_0 : decode cX5_isBroken 0 = .ok (.bipush (-9), 2) := by decide +kernel
theorem dX5_isBroken_2 : decode cX5_isBroken 2 = .ok (.istore_n 2, 1) := by decide +kernel
theorem dX5_isBroken_3 : decode cX5_isBroken 3 = .ok (.iconst 0, 1) := by decide +kernel
theorem dX5_isBroken_4 : decode cX5_isBroken 4 = .ok (.istore_n 3, 1) := by decide +kernel
theorem dX5_isBroken_5 : decode cX5_isBroken 5 = .ok (.iload_n 3, 1) := by decide +kernel
theorem dX5_isBroken_6 : decode cX5_isBroken 6 = .ok (.aload_n 0, 1) := by decide +kernel
theorem dX5_isBroken_7 : decode cX5_isBroken 7 = .ok (.getfield 59, 3) := by decide +kernel
theorem dX5_isBroken_10 : decode cX5_isBroken 10 = .ok (.if_icmp .ge 39, 3) := by decide +kernel
theorem dX5_isBroken_13 : decode cX5_isBroken 13 = .ok (.aload_n 0, 1) := by decide +kernel
theorem dX5_isBroken_14 : decode cX5_isBroken 14 = .ok (.getfield 33, 3) := by decide +kernel
theorem dX5_isBroken_17 : decode cX5_isBroken 17 = .ok (.bipush 20, 2) := by decide +kernel
theorem dX5_isBroken_19 : decode cX5_isBroken 19 = .ok (.iload_n 3, 1) := by decide +kernel
theorem dX5_isBroken_20 : decode cX5_isBroken 20 = .ok (.imul, 1) := by decide +kernel
theorem dX5_isBroken_21 : decode cX5_isBroken 21 = .ok (.iload_n 1, 1) := by decide +kernel
theorem dX5_isBroken_22 : decode cX5_isBroken 22 = .ok (.iadd, 1) := by decide +kernel
theorem dX5_isBroken_23 : decode cX5_isBroken 23 = .ok (.iaload, 1) := by decide +kernel
theorem dX5_isBroken_24 : decode cX5_isBroken 24 = .ok (.ifCond .lt 17, 3) := by decide +kernel
theorem dX5_isBroken_27 : decode cX5_isBroken 27 = .ok (.aload_n 0, 1) := by decide +kernel
theorem dX5_isBroken_28 : decode cX5_isBroken 28 = .ok (.getfield 33, 3) := by decide +kernel
theorem dX5_isBroken_31 : decode cX5_isBroken 31 = .ok (.bipush 20, 2) := by decide +kernel
theorem dX5_isBroken_33 : decode cX5_isBroken 33 = .ok (.iload_n 3, 1) := by decide +kernel
theorem dX5_isBroken_34 : decode cX5_isBroken 34 = .ok (.imul, 1) := by decide +kernel
theorem dX5_isBroken_35 : decode cX5_isBroken 35 = .ok (.iload_n 1, 1) := by decide +kernel
theorem dX5_isBroken_36 : decode cX5_isBroken 36 = .ok (.iadd, 1) := by decide +kernel
theorem dX5_isBroken_37 : decode cX5_isBroken 37 = .ok (.iaload, 1) := by decide +kernel
theorem dX5_isBroken_38 : decode cX5_isBroken 38 = .ok (.goto 4, 3) := by decide +kernel
theorem dX5_isBroken_41 : decode cX5_isBroken 41 = .ok (.iload_n 2, 1) := by decide +kernel
theorem dX5_isBroken_42 : decode cX5_isBroken 42 = .ok (.istore_n 2, 1) := by decide +kernel
theorem dX5_isBroken_43 : decode cX5_isBroken 43 = .ok (.iinc 3 1, 3) := by decide +kernel
theorem dX5_isBroken_46 : decode cX5_isBroken 46 = .ok (.goto (-41), 3) := by decide +kernel
theorem dX5_isBroken_49 : decode cX5_isBroken 49 = .ok (.iload_n 2, 1) := by decide +kernel
theorem dX5_isBroken_50 : decode cX5_isBroken 50 = .ok (.iconst 1, 1) := by decide +kernel
theorem dX5_isBroken_51 : decode cX5_isBroken 51 = .ok (.if_icmp .ne 15, 3) := by decide +kernel
theorem dX5_isBroken_54 : decode cX5_isBroken 54 = .ok (.aload_n 0, 1) := by decide +kernel
theorem dX5_isBroken_55 : decode cX5_isBroken 55 = .ok (.iload_n 1, 1) := by decide +kernel
theorem dX5_isBroken_56 : decode cX5_isBroken 56 = .ok (.invokevirtual 76, 3) := by decide +kernel
theorem dX5_isBroken_59 : decode cX5_isBroken 59 = .ok (.ifCond .ne 7, 3) := by decide +kernel
theorem dX5_isBroken_62 : decode cX5_isBroken 62 = .ok (.iconst 1, 1) := by decide +kernel
theorem dX5_isBroken_63 : decode cX5_isBroken 63 = .ok (.goto 4, 3) := by decide +kernel
theorem dX5_isBroken_66 : decode cX5_isBroken 66 = .ok (.iconst 0, 1) := by decide +kernel
theorem dX5_isBroken_67 : decode cX5_isBroken 67 = .ok (.ireturn, 1) := by decide +kernel
set_option maxRecDepth 20000 in
theorem ggX5_tells_X5_timeOf : GoodIn wsX5_tells wsX5_timeOf := goodIn_r _ [7, 1, 8, 37, 38, 39, 40, 41, 42, 43, 44, 45, 46, 47, 48, 49, 50, 51, 52, 53, 54, 55] (by decide +kernel) (by decide +kernel)
set_option maxRecDepth 20000 in
theorem gX5_tells_X5_timeOf : GoodIn wsX5_tells (wsV RX5 79 RX5 yX5_timeOf wsX5_timeOf) := goodIn_app (goodIn_of _ (by decide +kernel)) ggX5_tells_X5_timeOf
set_option maxRecDepth 20000 in
theorem ggX5_tells_X5_heatOf : GoodIn wsX5_tells wsX5_heatOf := goodIn_r _ [12, 13, 14, 37, 38, 39, 40, 41, 42, 43, 44, 45, 46, 47, 48, 49, 50, 51, 52, 53, 54, 55] (by decide +kernel) (by decide +kernel)
set_option maxRecDepth 20000 in
theorem gX5_tells_X5_heatOf : GoodIn wsX5_tells (wsV RX5 82 RX5 yX5_heatOf wsX5_heatOf) := goodIn_app (goodIn_of _ (by decide +kernel)) ggX5_tells_X5_heatOf
set_option maxRecDepth 20000 in
theorem ggX5_tells_X5_isFlaky : GoodIn wsX5_tells wsX5_isFlaky := goodIn_r _ [18, 13, 19, 14, 20, 21, 22, 6, 23, 24, 25, 37, 38, 39, 40, 41, 42, 43, 44, 45, 46, 47, 48, 49, 50, 51, 52, 53, 54, 55] (by decide +kernel) (by decide +kernel)
set_option maxRecDepth 20000 in
theorem gX5_tells_X5_isFlaky : GoodIn wsX5_tells (wsV RX5 76 RX5 yX5_isFlaky wsX5_isFlaky) := goodIn_app (goodIn_of _ (by decide +kernel)) ggX5_tells_X5_isFlaky
set_option maxRecDepth 20000 in
theorem ggX5_tells_X5_isBroken : GoodIn wsX5_tells wsX5_isBroken := goodIn_r _ [29, 13, 14, 15, 16, 17, 6, 18, 19, 20, 21, 22, 23, 24, 25, 37, 38, 39, 40, 41, 42, 43, 44, 45, 46, 47, 48, 49, 50, 51, 52, 53, 54, 55] (by decide +kernel) (by decide +kernel)
set_option maxRecDepth 20000 in
theorem gX5_tells_X5_isBroken : GoodIn wsX5_tells (wsV RX5 85 RX5 yX5_isBroken wsX5_isBroken) := goodIn_app (goodIn_of _ (by decide +kernel)) ggX5_tells_X5_isBroken
set_option maxRecDepth 20000 in
theorem ggX5_tells_X5_chainOf : GoodIn wsX5_tells wsX5_chainOf := goodIn_r _ [33, 2, 37, 38, 39, 40, 41, 42, 43, 44, 45, 46, 47, 48, 49, 50, 51, 52, 53, 54, 55] (by decide +kernel) (by decide +kernel)
set_option maxRecDepth 20000 in
theorem gX5_tells_X5_chainOf : GoodIn wsX5_tells (wsV RX5 88 RX5 yX5_chainOf wsX5_chainOf) := goodIn_app (goodIn_of _ (by decide +kernel)) ggX5_tells_X5_chainOf
set_option maxRecDepth 20000 in
theorem ggX5_tells_X5_bits : GoodIn wsX5_tells wsX5_bits := goodIn_r _ [36] (by decide +kernel) (by decide +kernel)
set_option maxRecDepth 20000 in
theorem gX5_tells_X5_bits : GoodIn wsX5_tells (va_wsS RX5 91 yX5_bits wsX5_bits) := goodIn_app (goodIn_of _ (by decide +kernel)) ggX5_tells_X5_bits
theorem dX5_tells_0 : decode cX5_tells 0 = .ok (.iload_n 2, 1) := by decide +kernel
theorem dX5_tells_1 : decode cX5_tells 1 = .ok (.tableswitch 93 0 5 #[39, 46, 52, 59, 65, 79], 39) := by decide +kernel
theorem dX5_tells_40 : decode cX5_tells 40 = .ok (.aload_n 0, 1) := by decide +kernel
theorem dX5_tells_41 : decode cX5_tells 41 = .ok (.getfield 13, 3) := by decide +kernel
theorem dX5_tells_44 : decode cX5_tells 44 = .ok (.iload_n 1, 1) := by decide +kernel
theorem dX5_tells_45 : decode cX5_tells 45 = .ok (.iaload, 1) := by decide +kernel
theorem dX5_tells_46 : decode cX5_tells 46 = .ok (.ireturn, 1) := by decide +kernel
theorem dX5_tells_47 : decode cX5_tells 47 = .ok (.aload_n 0, 1) := by decide +kernel
theorem dX5_tells_48 : decode cX5_tells 48 = .ok (.iload_n 1, 1) := by decide +kernel
theorem dX5_tells_49 : decode cX5_tells 49 = .ok (.invokevirtual 79, 3) := by decide +kernel
theorem dX5_tells_52 : decode cX5_tells 52 = .ok (.ireturn, 1) := by decide +kernel
theorem dX5_tells_53 : decode cX5_tells 53 = .ok (.aload_n 0, 1) := by decide +kernel
theorem dX5_tells_54 : decode cX5_tells 54 = .ok (.getfield 19, 3) := by decide +kernel
theorem dX5_tells_57 : decode cX5_tells 57 = .ok (.iload_n 1, 1) := by decide +kernel
theorem dX5_tells_58 : decode cX5_tells 58 = .ok (.iaload, 1) := by decide +kernel
theorem dX5_tells_59 : decode cX5_tells 59 = .ok (.ireturn, 1) := by decide +kernel
theorem dX5_tells_60 : decode cX5_tells 60 = .ok (.aload_n 0, 1) := by decide +kernel
theorem dX5_tells_61 : decode cX5_tells 61 = .ok (.iload_n 1, 1) := by decide +kernel
theorem dX5_tells_62 : decode cX5_tells 62 = .ok (.invokevirtual 82, 3) := by decide +kernel
theorem dX5_tells_65 : decode cX5_tells 65 = .ok (.ireturn, 1) := by decide +kernel
theorem dX5_tells_66 : decode cX5_tells 66 = .ok (.aload_n 0, 1) := by decide +kernel
theorem dX5_tells_67 : decode cX5_tells 67 = .ok (.iload_n 1, 1) := by decide +kernel
theorem dX5_tells_68 : decode cX5_tells 68 = .ok (.invokevirtual 76, 3) := by decide +kernel
theorem dX5_tells_71 : decode cX5_tells 71 = .ok (.ifCond .eq 7, 3) := by decide +kernel
theorem dX5_tells_74 : decode cX5_tells 74 = .ok (.iconst 1, 1) := by decide +kernel
theorem dX5_tells_75 : decode cX5_tells 75 = .ok (.goto 4, 3) := by decide +kernel
theorem dX5_tells_78 : decode cX5_tells 78 = .ok (.iconst 0, 1) := by decide +kernel
theorem dX5_tells_79 : decode cX5_tells 79 = .ok (.ireturn, 1) := by decide +kernel
theorem dX5_tells_80 : decode cX5_tells 80 = .ok (.aload_n 0, 1) := by decide +kernel
theorem dX5_tells_81 : decode cX5_tells 81 = .ok (.iload_n 1, 1) := by decide +kernel
theorem dX5_tells_82 : decode cX5_tells 82 = .ok (.invokevirtual 85, 3) := by decide +kernel
theorem dX5_tells_85 : decode cX5_tells 85 = .ok (.ifCond .eq 7, 3) := by decide +kernel
theorem dX5_tells_88 : decode cX5_tells 88 = .ok (.iconst 1, 1) := by decide +kernel
theorem dX5_tells_89 : decode cX5_tells 89 = .ok (.goto 4, 3) := by decide +kernel
theorem dX5_tells_92 : decode cX5_tells 92 = .ok (.iconst 0, 1) := by decide +kernel
theorem dX5_tells_93 : decode cX5_tells 93 = .ok (.ireturn, 1) := by decide +kernel
theorem dX5_tells_94 : decode cX5_tells 94 = .ok (.aload_n 0, 1) := by decide +kernel
theorem dX5_tells_95 : decode cX5_tells 95 = .ok (.iload_n 1, 1) := by decide +kernel
theorem dX5_tells_96 : decode cX5_tells 96 = .ok (.invokevirtual 88, 3) := by decide +kernel
theorem dX5_tells_99 : decode cX5_tells 99 = .ok (.i2l, 1) := by decide +kernel
theorem dX5_tells_100 : decode cX5_tells 100 = .ok (.invokestatic 91, 3) := by decide +kernel
theorem dX5_tells_103 : decode cX5_tells 103 = .ok (.ireturn, 1) := by decide +kernel
set_option maxRecDepth 20000 in
theorem ggX5_told_X5_isTest : GoodIn wsX5_told wsX5_isTest := goodIn_r _ [5, 6, 7, 8, 4, 9, 49, 50, 51, 52, 53, 54, 55, 56, 57, 58, 59, 60, 61, 62, 63, 64, 65, 66, 67] (by decide +kernel) (by decide +kernel)
set_option maxRecDepth 20000 in
theorem gX5_told_X5_isTest : GoodIn wsX5_told (wsV RX5 62 RX5 yX5_isTest wsX5_isTest) := goodIn_app (goodIn_of _ (by decide +kernel)) ggX5_told_X5_isTest
set_option maxRecDepth 20000 in
theorem ggX5_told_X5_in : GoodIn wsX5_told wsX5_in := goodIn_r _ [9] (by decide +kernel) (by decide +kernel)
set_option maxRecDepth 20000 in
theorem gX5_told_X5_in : GoodIn wsX5_told (va_wsS RX5 55 yX5_in wsX5_in) := goodIn_app (goodIn_of _ (by decide +kernel)) ggX5_told_X5_in
set_option maxRecDepth 20000 in
theorem ggX5_told_X5_tells : GoodIn wsX5_told wsX5_tells := goodIn_r _ [13, 14, 15, 16, 17, 18, 4, 19, 20, 21, 22, 23, 24, 25, 26, 27, 28, 29, 30, 31, 32, 33, 34, 35, 36, 37, 38, 39, 40, 41, 42, 43, 44, 45, 46, 47, 48, 49, 50, 51, 52, 53, 54, 55, 56, 57, 58, 59, 60, 61, 62, 63, 64, 65, 66, 67] (by decide +kernel) (by decide +kernel)
set_option maxRecDepth 20000 in
theorem gX5_told_X5_tells : GoodIn wsX5_told (wsV RX5 95 RX5 yX5_tells wsX5_tells) := goodIn_app (goodIn_of _ (by decide +kernel)) ggX5_told_X5_tells
theorem dX5_told_0 : decode cX5_told 0 = .ok (.aload_n 0, 1) := by decide +kernel
theorem dX5_told_1 : decode cX5_told 1 = .ok (.iload_n 1, 1) := by decide +kernel
theorem dX5_told_2 : decode cX5_told 2 = .ok (.invokevirtual 62, 3) := by decide +kernel
theorem dX5_told_5 : decode cX5_told 5 = .ok (.ifCond .eq 22, 3) := by decide +kernel
theorem dX5_told_8 : decode cX5_told 8 = .ok (.iload_n 2, 1) := by decide +kernel
theorem dX5_told_9 : decode cX5_told 9 = .ok (.iconst 0, 1) := by decide +kernel
theorem dX5_told_10 : decode cX5_told 10 = .ok (.bipush 6, 2) := by decide +kernel
theorem dX5_told_12 : decode cX5_told 12 = .ok (.invokestatic 55, 3) := by decide +kernel
theorem dX5_told_15 : decode cX5_told 15 = .ok (.ifCond .eq 12, 3) := by decide +kernel
theorem dX5_told_18 : decode cX5_told 18 = .ok (.aload_n 0, 1) := by decide +kernel
theorem dX5_told_19 : decode cX5_told 19 = .ok (.iload_n 1, 1) := by decide +kernel
theorem dX5_told_20 : decode cX5_told 20 = .ok (.iload_n 2, 1) := by decide +kernel
theorem dX5_told_21 : decode cX5_told 21 = .ok (.invokevirtual 95, 3) := by decide +kernel
theorem dX5_told_24 : decode cX5_told 24 = .ok (.goto 4, 3) := by decide +kernel
theorem dX5_told_27 : decode cX5_told 27 = .ok (.iconst (-1), 1) := by decide +kernel
theorem dX5_told_28 : decode cX5_told 28 = .ok (.ireturn, 1) := by decide +kernel
set_option maxRecDepth 20000 in
theorem ggX5_time_X5_isTest : GoodIn wsX5_time wsX5_isTest := goodIn_r _ [7, 8, 9, 10, 6, 11, 18, 19, 20, 21, 22, 23, 24, 25, 26, 27, 28, 29, 30, 31, 32, 33, 34, 35, 36] (by decide +kernel) (by decide +kernel)
set_option maxRecDepth 20000 in
theorem gX5_time_X5_isTest : GoodIn wsX5_time (wsV RX5 62 RX5 yX5_isTest wsX5_isTest) := goodIn_app (goodIn_of _ (by decide +kernel)) ggX5_time_X5_isTest
set_option maxRecDepth 20000 in
theorem ggX5_time_X5_in : GoodIn wsX5_time wsX5_in := goodIn_r _ [11] (by decide +kernel) (by decide +kernel)
set_option maxRecDepth 20000 in
theorem gX5_time_X5_in : GoodIn wsX5_time (va_wsS RX5 55 yX5_in wsX5_in) := goodIn_app (goodIn_of _ (by decide +kernel)) ggX5_time_X5_in
set_option maxRecDepth 20000 in
theorem ggX5_time_X5_meets : GoodIn wsX5_time wsX5_meets := goodIn_r _ [15, 16, 17, 18, 19, 20, 21, 22, 23, 24, 25, 26, 27, 28, 29, 30, 31, 32, 33, 34, 35, 36] (by decide +kernel) (by decide +kernel)
set_option maxRecDepth 20000 in
theorem gX5_time_X5_meets : GoodIn wsX5_time (wsV RX5 66 RX5 yX5_meets wsX5_meets) := goodIn_app (goodIn_of _ (by decide +kernel)) ggX5_time_X5_meets
theorem dX5_time_0 : decode cX5_time 0 = .ok (.aload_n 0, 1) := by decide +kernel
theorem dX5_time_1 : decode cX5_time 1 = .ok (.iload_n 1, 1) := by decide +kernel
theorem dX5_time_2 : decode cX5_time 2 = .ok (.invokevirtual 62, 3) := by decide +kernel
theorem dX5_time_5 : decode cX5_time 5 = .ok (.ifCond .eq 12, 3) := by decide +kernel
theorem dX5_time_8 : decode cX5_time 8 = .ok (.iload_n 2, 1) := by decide +kernel
theorem dX5_time_9 : decode cX5_time 9 = .ok (.iconst 0, 1) := by decide +kernel
theorem dX5_time_10 : decode cX5_time 10 = .ok (.iconst 3, 1) := by decide +kernel
theorem dX5_time_11 : decode cX5_time 11 = .ok (.invokestatic 55, 3) := by decide +kernel
theorem dX5_time_14 : decode cX5_time 14 = .ok (.ifCond .ne 5, 3) := by decide +kernel
theorem dX5_time_17 : decode cX5_time 17 = .ok (.iconst (-1), 1) := by decide +kernel
theorem dX5_time_18 : decode cX5_time 18 = .ok (.ireturn, 1) := by decide +kernel
theorem dX5_time_19 : decode cX5_time 19 = .ok (.iload_n 2, 1) := by decide +kernel
theorem dX5_time_20 : decode cX5_time 20 = .ok (.ifCond .eq 13, 3) := by decide +kernel
theorem dX5_time_23 : decode cX5_time 23 = .ok (.iload_n 2, 1) := by decide +kernel
theorem dX5_time_24 : decode cX5_time 24 = .ok (.aload_n 0, 1) := by decide +kernel
theorem dX5_time_25 : decode cX5_time 25 = .ok (.getfield 13, 3) := by decide +kernel
theorem dX5_time_28 : decode cX5_time 28 = .ok (.iload_n 1, 1) := by decide +kernel
theorem dX5_time_29 : decode cX5_time 29 = .ok (.iaload, 1) := by decide +kernel
theorem dX5_time_30 : decode cX5_time 30 = .ok (.if_icmp .ne 12, 3) := by decide +kernel
theorem dX5_time_33 : decode cX5_time 33 = .ok (.aload_n 0, 1) := by decide +kernel
theorem dX5_time_34 : decode cX5_time 34 = .ok (.getfield 16, 3) := by decide +kernel
theorem dX5_time_37 : decode cX5_time 37 = .ok (.iload_n 1, 1) := by decide +kernel
theorem dX5_time_38 : decode cX5_time 38 = .ok (.iaload, 1) := by decide +kernel
theorem dX5_time_39 : decode cX5_time 39 = .ok (.goto 8, 3) := by decide +kernel
theorem dX5_time_42 : decode cX5_time 42 = .ok (.aload_n 0, 1) := by decide +kernel
theorem dX5_time_43 : decode cX5_time 43 = .ok (.iconst 3, 1) := by decide +kernel
theorem dX5_time_44 : decode cX5_time 44 = .ok (.invokevirtual 66, 3) := by decide +kernel
theorem dX5_time_47 : decode cX5_time 47 = .ok (.ireturn, 1) := by decide +kernel
theorem dX5_build_0 : decode cX5_build 0 = .ok (.lload_n 1, 1) := by decide +kernel
theorem dX5_build_1 : decode cX5_build 1 = .ok (.ldc2_w 99, 3) := by decide +kernel
theorem dX5_build_4 : decode cX5_build 4 = .ok (.land, 1) := by decide +kernel
theorem dX5_build_5 : decode cX5_build 5 = .ok (.lconst 0, 1) := by decide +kernel
theorem dX5_build_6 : decode cX5_build 6 = .ok (.lcmp, 1) := by decide +kernel
theorem dX5_build_7 : decode cX5_build 7 = .ok (.ifCond .eq 5, 3) := by decide +kernel
theorem dX5_build_10 : decode cX5_build 10 = .ok (.iconst (-1), 1) := by decide +kernel
theorem dX5_build_11 : decode cX5_build 11 = .ok (.ireturn, 1) := by decide +kernel
theorem dX5_build_12 : decode cX5_build 12 = .ok (.aload_n 0, 1) := by decide +kernel
theorem dX5_build_13 : decode cX5_build 13 = .ok (.getfield 59, 3) := by decide +kernel
theorem dX5_build_16 : decode cX5_build 16 = .ok (.bipush 60, 2) := by decide +kernel
theorem dX5_build_18 : decode cX5_build 18 = .ok (.if_icmp .ne 6, 3) := by decide +kernel
theorem dX5_build_21 : decode cX5_build 21 = .ok (.bipush (-2), 2) := by decide +kernel
theorem dX5_build_23 : decode cX5_build 23 = .ok (.ireturn, 1) := by decide +kernel
theorem dX5_build_24 : decode cX5_build 24 = .ok (.aload_n 0, 1) := by decide +kernel
theorem dX5_build_25 : decode cX5_build 25 = .ok (.getfield 29, 3) := by decide +kernel
theorem dX5_build_28 : decode cX5_build 28 = .ok (.aload_n 0, 1) := by decide +kernel
theorem dX5_build_29 : decode cX5_build 29 = .ok (.getfield 59, 3) := by decide +kernel
theorem dX5_build_32 : decode cX5_build 32 = .ok (.lload_n 1, 1) := by decide +kernel
theorem dX5_build_33 : decode cX5_build 33 = .ok (.lastore, 1) := by decide +kernel
theorem dX5_build_34 : decode cX5_build 34 = .ok (.aload_n 0, 1) := by decide +kernel
theorem dX5_build_35 : decode cX5_build 35 = .ok (.dup, 1) := by decide +kernel
theorem dX5_build_36 : decode cX5_build 36 = .ok (.getfield 59, 3) := by decide +kernel
theorem dX5_build_39 : decode cX5_build 39 = .ok (.iconst 1, 1) := by decide +kernel
theorem dX5_build_40 : decode cX5_build 40 = .ok (.iadd, 1) := by decide +kernel
theorem dX5_build_41 : decode cX5_build 41 = .ok (.putfield 59, 3) := by decide +kernel
theorem dX5_build_44 : decode cX5_build 44 = .ok (.aload_n 0, 1) := by decide +kernel
theorem dX5_build_45 : decode cX5_build 45 = .ok (.bipush (-9), 2) := by decide +kernel
theorem dX5_build_47 : decode cX5_build 47 = .ok (.putfield 39, 3) := by decide +kernel
theorem dX5_build_50 : decode cX5_build 50 = .ok (.aload_n 0, 1) := by decide +kernel
theorem dX5_build_51 : decode cX5_build 51 = .ok (.getfield 59, 3) := by decide +kernel
theorem dX5_build_54 : decode cX5_build 54 = .ok (.iconst 1, 1) := by decide +kernel
theorem dX5_build_55 : decode cX5_build 55 = .ok (.isub, 1) := by decide +kernel
theorem dX5_build_56 : decode cX5_build 56 = .ok (.ireturn, 1) := by decide +kernel
theorem dX5_judge_0 : decode cX5_judge 0 = .ok (.bipush 20, 2) := by decide +kernel
theorem dX5_judge_2 : decode cX5_judge 2 = .ok (.aload_n 0, 1) := by decide +kernel
theorem dX5_judge_3 : decode cX5_judge 3 = .ok (.getfield 59, 3) := by decide +kernel
theorem dX5_judge_6 : decode cX5_judge 6 = .ok (.iconst 1, 1) := by decide +kernel
theorem dX5_judge_7 : decode cX5_judge 7 = .ok (.isub, 1) := by decide +kernel
theorem dX5_judge_8 : decode cX5_judge 8 = .ok (.imul, 1) := by decide +kernel
theorem dX5_judge_9 : decode cX5_judge 9 = .ok (.iload_n 1, 1) := by decide +kernel
theorem dX5_judge_10 : decode cX5_judge 10 = .ok (.iadd, 1) := by decide +kernel
theorem dX5_judge_11 : decode cX5_judge 11 = .ok (.istore_n 3, 1) := by decide +kernel
theorem dX5_judge_12 : decode cX5_judge 12 = .ok (.aload_n 0, 1) := by decide +kernel
theorem dX5_judge_13 : decode cX5_judge 13 = .ok (.getfield 33, 3) := by decide +kernel
theorem dX5_judge_16 : decode cX5_judge 16 = .ok (.iload_n 3, 1) := by decide +kernel
theorem dX5_judge_17 : decode cX5_judge 17 = .ok (.iaload, 1) := by decide +kernel
theorem dX5_judge_18 : decode cX5_judge 18 = .ok (.ifCond .lt 7, 3) := by decide +kernel
theorem dX5_judge_21 : decode cX5_judge 21 = .ok (.iconst 1, 1) := by decide +kernel
theorem dX5_judge_22 : decode cX5_judge 22 = .ok (.goto 4, 3) := by decide +kernel
theorem dX5_judge_25 : decode cX5_judge 25 = .ok (.iconst 0, 1) := by decide +kernel
theorem dX5_judge_26 : decode cX5_judge 26 = .ok (.istore 4, 2) := by decide +kernel
theorem dX5_judge_28 : decode cX5_judge 28 = .ok (.aload_n 0, 1) := by decide +kernel
theorem dX5_judge_29 : decode cX5_judge 29 = .ok (.getfield 33, 3) := by decide +kernel
theorem dX5_judge_32 : decode cX5_judge 32 = .ok (.iload_n 3, 1) := by decide +kernel
theorem dX5_judge_33 : decode cX5_judge 33 = .ok (.iload_n 2, 1) := by decide +kernel
theorem dX5_judge_34 : decode cX5_judge 34 = .ok (.ifCond .eq 7, 3) := by decide +kernel
theorem dX5_judge_37 : decode cX5_judge 37 = .ok (.iconst 1, 1) := by decide +kernel
theorem dX5_judge_38 : decode cX5_judge 38 = .ok (.goto 4, 3) := by decide +kernel
theorem dX5_judge_41 : decode cX5_judge 41 = .ok (.iconst 0, 1) := by decide +kernel
theorem dX5_judge_42 : decode cX5_judge 42 = .ok (.iastore, 1) := by decide +kernel
theorem dX5_judge_43 : decode cX5_judge 43 = .ok (.iload 4, 2) := by decide +kernel
theorem dX5_judge_45 : decode cX5_judge 45 = .ok (.ireturn, 1) := by decide +kernel
set_option maxRecDepth 20000 in
theorem ggX5_verdict_X5_isTest : GoodIn wsX5_verdict wsX5_isTest := goodIn_r _ [6, 7, 8, 9, 5, 10, 16, 17, 18, 19, 20, 21, 22, 23, 24, 25, 26, 27, 28, 29, 30, 31, 32, 33, 34] (by decide +kernel) (by decide +kernel)
set_option maxRecDepth 20000 in
theorem gX5_verdict_X5_isTest : GoodIn wsX5_verdict (wsV RX5 62 RX5 yX5_isTest wsX5_isTest) := goodIn_app (goodIn_of _ (by decide +kernel)) ggX5_verdict_X5_isTest
set_option maxRecDepth 20000 in
theorem ggX5_verdict_X5_judge : GoodIn wsX5_verdict wsX5_judge := goodIn_r _ [14, 1, 15, 16, 17, 18, 19, 20, 21, 22, 23, 24, 25, 26, 27, 28, 29, 30, 31, 32, 33, 34] (by decide +kernel) (by decide +kernel)
set_option maxRecDepth 20000 in
theorem gX5_verdict_X5_judge : GoodIn wsX5_verdict (wsV RX5 101 RX5 yX5_judge wsX5_judge) := goodIn_app (goodIn_of _ (by decide +kernel)) ggX5_verdict_X5_judge
theorem dX5_verdict_0 : decode cX5_verdict 0 = .ok (.aload_n 0, 1) := by decide +kernel
theorem dX5_verdict_1 : decode cX5_verdict 1 = .ok (.iload_n 1, 1) := by decide +kernel
theorem dX5_verdict_2 : decode cX5_verdict 2 = .ok (.invokevirtual 62, 3) := by decide +kernel
theorem dX5_verdict_5 : decode cX5_verdict 5 = .ok (.ifCond .ne 7, 3) := by decide +kernel
theorem dX5_verdict_8 : decode cX5_verdict 8 = .ok (.iconst (-1), 1) := by decide +kernel
theorem dX5_verdict_9 : decode cX5_verdict 9 = .ok (.goto 21, 3) := by decide +kernel
theorem dX5_verdict_12 : decode cX5_verdict 12 = .ok (.aload_n 0, 1) := by decide +kernel
theorem dX5_verdict_13 : decode cX5_verdict 13 = .ok (.getfield 59, 3) := by decide +kernel
theorem dX5_verdict_16 : decode cX5_verdict 16 = .ok (.ifCond .ne 8, 3) := by decide +kernel
theorem dX5_verdict_19 : decode cX5_verdict 19 = .ok (.bipush (-4), 2) := by decide +kernel
theorem dX5_verdict_21 : decode cX5_verdict 21 = .ok (.goto 9, 3) := by decide +kernel
theorem dX5_verdict_24 : decode cX5_verdict 24 = .ok (.aload_n 0, 1) := by decide +kernel
theorem dX5_verdict_25 : decode cX5_verdict 25 = .ok (.iload_n 1, 1) := by decide +kernel
theorem dX5_verdict_26 : decode cX5_verdict 26 = .ok (.iload_n 2, 1) := by decide +kernel
theorem dX5_verdict_27 : decode cX5_verdict 27 = .ok (.invokevirtual 101, 3) := by decide +kernel
theorem dX5_verdict_30 : decode cX5_verdict 30 = .ok (.ireturn, 1) := by decide +kernel
set_option maxRecDepth 20000 in
theorem ggX5_was_X5_isTest : GoodIn wsX5_was wsX5_isTest := goodIn_r _ [6, 7, 8, 9, 5, 10, 16, 17, 18, 19, 20, 21, 22, 23, 24, 25, 26, 27, 28, 29, 30, 31, 32, 33, 34] (by decide +kernel) (by decide +kernel)
set_option maxRecDepth 20000 in
theorem gX5_was_X5_isTest : GoodIn wsX5_was (wsV RX5 62 RX5 yX5_isTest wsX5_isTest) := goodIn_app (goodIn_of _ (by decide +kernel)) ggX5_was_X5_isTest
set_option maxRecDepth 20000 in
theorem ggX5_was_X5_isBuild : GoodIn wsX5_was wsX5_isBuild := goodIn_r _ [14, 15, 8, 9, 5, 10, 16, 17, 18, 19, 20, 21, 22, 23, 24, 25, 26, 27, 28, 29, 30, 31, 32, 33, 34] (by decide +kernel) (by decide +kernel)
set_option maxRecDepth 20000 in
theorem gX5_was_X5_isBuild : GoodIn wsX5_was (wsV RX5 105 RX5 yX5_isBuild wsX5_isBuild) := goodIn_app (goodIn_of _ (by decide +kernel)) ggX5_was_X5_isBuild
theorem dX5_was_0 : decode cX5_was 0 = .ok (.aload_n 0, 1) := by decide +kernel
theorem dX5_was_1 : decode cX5_was 1 = .ok (.iload_n 1, 1) := by decide +kernel
theorem dX5_was_2 : decode cX5_was 2 = .ok (.invokevirtual 62, 3) := by decide +kernel
theorem dX5_was_5 : decode cX5_was 5 = .ok (.ifCond .eq 25, 3) := by decide +kernel
theorem dX5_was_8 : decode cX5_was 8 = .ok (.aload_n 0, 1) := by decide +kernel
theorem dX5_was_9 : decode cX5_was 9 = .ok (.iload_n 2, 1) := by decide +kernel
theorem dX5_was_10 : decode cX5_was 10 = .ok (.invokevirtual 105, 3) := by decide +kernel
theorem dX5_was_13 : decode cX5_was 13 = .ok (.ifCond .eq 17, 3) := by decide +kernel
theorem dX5_was_16 : decode cX5_was 16 = .ok (.aload_n 0, 1) := by decide +kernel
theorem dX5_was_17 : decode cX5_was 17 = .ok (.getfield 33, 3) := by decide +kernel
theorem dX5_was_20 : decode cX5_was 20 = .ok (.bipush 20, 2) := by decide +kernel
theorem dX5_was_22 : decode cX5_was 22 = .ok (.iload_n 2, 1) := by decide +kernel
theorem dX5_was_23 : decode cX5_was 23 = .ok (.imul, 1) := by decide +kernel
theorem dX5_was_24 : decode cX5_was 24 = .ok (.iload_n 1, 1) := by decide +kernel
theorem dX5_was_25 : decode cX5_was 25 = .ok (.iadd, 1) := by decide +kernel
theorem dX5_was_26 : decode cX5_was 26 = .ok (.iaload, 1) := by decide +kernel
theorem dX5_was_27 : decode cX5_was 27 = .ok (.goto 4, 3) := by decide +kernel
theorem dX5_was_30 : decode cX5_was 30 = .ok (.iconst (-1), 1) := by decide +kernel
theorem dX5_was_31 : decode cX5_was 31 = .ok (.ireturn, 1) := by decide +kernel
set_option maxRecDepth 20000 in
theorem ggX5_change_X5_isBuild : GoodIn wsX5_change wsX5_isBuild := goodIn_r _ [7, 8, 9, 10, 6, 11, 12, 13, 14, 15, 16, 17, 18, 19, 20, 21, 22, 23, 24, 25, 26, 27, 28, 29, 30] (by decide +kernel) (by decide +kernel)
set_option maxRecDepth 20000 in
theorem gX5_change_X5_isBuild : GoodIn wsX5_change (wsV RX5 105 RX5 yX5_isBuild wsX5_isBuild) := goodIn_app (goodIn_of _ (by decide +kernel)) ggX5_change_X5_isBuild
theorem dX5_change_0 : decode cX5_change 0 = .ok (.aload_n 0, 1) := by decide +kernel
theorem dX5_change_1 : decode cX5_change 1 = .ok (.iload_n 1, 1) := by decide +kernel
theorem dX5_change_2 : decode cX5_change 2 = .ok (.invokevirtual 105, 3) := by decide +kernel
theorem dX5_change_5 : decode cX5_change 5 = .ok (.ifCond .ne 5, 3) := by decide +kernel
theorem dX5_change_8 : decode cX5_change 8 = .ok (.iconst (-1), 1) := by decide +kernel
theorem dX5_change_9 : decode cX5_change 9 = .ok (.ireturn, 1) := by decide +kernel
theorem dX5_change_10 : decode cX5_change 10 = .ok (.aload_n 0, 1) := by decide +kernel
theorem dX5_change_11 : decode cX5_change 11 = .ok (.aload_n 0, 1) := by decide +kernel
theorem dX5_change_12 : decode cX5_change 12 = .ok (.getfield 29, 3) := by decide +kernel
theorem dX5_change_15 : decode cX5_change 15 = .ok (.iload_n 1, 1) := by decide +kernel
theorem dX5_change_16 : decode cX5_change 16 = .ok (.laload, 1) := by decide +kernel
theorem dX5_change_17 : decode cX5_change 17 = .ok (.putfield 108, 3) := by decide +kernel
theorem dX5_change_20 : decode cX5_change 20 = .ok (.iconst 1, 1) := by decide +kernel
theorem dX5_change_21 : decode cX5_change 21 = .ok (.ireturn, 1) := by decide +kernel
set_option maxRecDepth 20000 in
theorem ggX5_often_X5_isTest : GoodIn wsX5_often wsX5_isTest := goodIn_r _ [7, 8, 9, 10, 6, 11, 12, 13, 14, 15, 16, 17, 18, 19, 20, 21, 22, 23, 24, 25, 26, 27, 28, 29, 30] (by decide +kernel) (by decide +kernel)
set_option maxRecDepth 20000 in
theorem gX5_often_X5_isTest : GoodIn wsX5_often (wsV RX5 62 RX5 yX5_isTest wsX5_isTest) := goodIn_app (goodIn_of _ (by decide +kernel)) ggX5_often_X5_isTest
set_option maxRecDepth 20000 in
theorem ggX5_often_X5_in : GoodIn wsX5_often wsX5_in := goodIn_r _ [11] (by decide +kernel) (by decide +kernel)
set_option maxRecDepth 20000 in
theorem gX5_often_X5_in : GoodIn wsX5_often (va_wsS RX5 55 yX5_in wsX5_in) := goodIn_app (goodIn_of _ (by decide +kernel)) ggX5_often_X5_in
theorem dX5_often_0 : decode cX5_often 0 = .ok (.aload_n 0, 1) := by decide +kernel
theorem dX5_often_1 : decode cX5_often 1 = .ok (.iload_n 1, 1) := by decide +kernel
theorem dX5_often_2 : decode cX5_often 2 = .ok (.invokevirtual 62, 3) := by decide +kernel
theorem dX5_often_5 : decode cX5_often 5 = .ok (.ifCond .eq 12, 3) := by decide +kernel
theorem dX5_often_8 : decode cX5_often 8 = .ok (.iload_n 2, 1) := by decide +kernel
theorem dX5_often_9 : decode cX5_often 9 = .ok (.iconst 0, 1) := by decide +kernel
theorem dX5_often_10 : decode cX5_often 10 = .ok (.iconst 2, 1) := by decide +kernel
theorem dX5_often_11 : decode cX5_often 11 = .ok (.invokestatic 55, 3) := by decide +kernel
theorem dX5_often_14 : decode cX5_often 14 = .ok (.ifCond .ne 5, 3) := by decide +kernel
theorem dX5_often_17 : decode cX5_often 17 = .ok (.iconst (-1), 1) := by decide +kernel
theorem dX5_often_18 : decode cX5_often 18 = .ok (.ireturn, 1) := by decide +kernel
theorem dX5_often_19 : decode cX5_often 19 = .ok (.iload_n 2, 1) := by decide +kernel
theorem dX5_often_20 : decode cX5_often 20 = .ok (.ifCond .ne 7, 3) := by decide +kernel
theorem dX5_often_23 : decode cX5_often 23 = .ok (.iconst 1, 1) := by decide +kernel
theorem dX5_often_24 : decode cX5_often 24 = .ok (.goto 14, 3) := by decide +kernel
theorem dX5_often_27 : decode cX5_often 27 = .ok (.iload_n 2, 1) := by decide +kernel
theorem dX5_often_28 : decode cX5_often 28 = .ok (.iconst 1, 1) := by decide +kernel
theorem dX5_often_29 : decode cX5_often 29 = .ok (.if_icmp .ne 7, 3) := by decide +kernel
theorem dX5_often_32 : decode cX5_often 32 = .ok (.iconst 0, 1) := by decide +kernel
theorem dX5_often_33 : decode cX5_often 33 = .ok (.goto 5, 3) := by decide +kernel
theorem dX5_often_36 : decode cX5_often 36 = .ok (.bipush (-9), 2) := by decide +kernel
theorem dX5_often_38 : decode cX5_often 38 = .ok (.istore_n 3, 1) := by decide +kernel
theorem dX5_often_39 : decode cX5_often 39 = .ok (.iconst 0, 1) := by decide +kernel
theorem dX5_often_40 : decode cX5_often 40 = .ok (.istore 4, 2) := by decide +kernel
theorem dX5_often_42 : decode cX5_often 42 = .ok (.iconst 0, 1) := by decide +kernel
theorem dX5_often_43 : decode cX5_often 43 = .ok (.istore 5, 2) := by decide +kernel
theorem dX5_often_45 : decode cX5_often 45 = .ok (.iload 5, 2) := by decide +kernel
theorem dX5_often_47 : decode cX5_often 47 = .ok (.aload_n 0, 1) := by decide +kernel
theorem dX5_often_48 : decode cX5_often 48 = .ok (.getfield 59, 3) := by decide +kernel
theorem dX5_often_51 : decode cX5_often 51 = .ok (.if_icmp .ge 35, 3) := by decide +kernel
theorem dX5_often_54 : decode cX5_often 54 = .ok (.iload 4, 2) := by decide +kernel
theorem dX5_often_56 : decode cX5_often 56 = .ok (.aload_n 0, 1) := by decide +kernel
theorem dX5_often_57 : decode cX5_often 57 = .ok (.getfield 33, 3) := by decide +kernel
theorem dX5_often_60 : decode cX5_often 60 = .ok (.bipush 20, 2) := by decide +kernel
theorem dX5_often_62 : decode cX5_often 62 = .ok (.iload 5, 2) := by decide +kernel
theorem dX5_often_64 : decode cX5_often 64 = .ok (.imul, 1) := by decide +kernel
theorem dX5_often_65 : decode cX5_often 65 = .ok (.iload_n 1, 1) := by decide +kernel
theorem dX5_often_66 : decode cX5_often 66 = .ok (.iadd, 1) := by decide +kernel
theorem dX5_often_67 : decode cX5_often 67 = .ok (.iaload, 1) := by decide +kernel
theorem dX5_often_68 : decode cX5_often 68 = .ok (.iload_n 3, 1) := by decide +kernel
theorem dX5_often_69 : decode cX5_often 69 = .ok (.if_icmp .ne 7, 3) := by decide +kernel
theorem dX5_often_72 : decode cX5_often 72 = .ok (.iconst 1, 1) := by decide +kernel
theorem dX5_often_73 : decode cX5_often 73 = .ok (.goto 4, 3) := by decide +kernel
theorem dX5_often_76 : decode cX5_often 76 = .ok (.iconst 0, 1) := by decide +kernel
theorem dX5_often_77 : decode cX5_often 77 = .ok (.iadd, 1) := by decide +kernel
theorem dX5_often_78 : decode cX5_often 78 = .ok (.istore 4, 2) := by decide +kernel
theorem dX5_often_80 : decode cX5_often 80 = .ok (.iinc 5 1, 3) := by decide +kernel
theorem dX5_often_83 : decode cX5_often 83 = .ok (.goto (-38), 3) := by decide +kernel
theorem dX5_often_86 : decode cX5_often 86 = .ok (.iload 4, 2) := by decide +kernel
theorem dX5_often_88 : decode cX5_often 88 = .ok (.ireturn, 1) := by decide +kernel
theorem dX5_mayBe_0 : decode cX5_mayBe 0 = .ok (.iconst 1, 1) := by decide +kernel
theorem dX5_mayBe_1 : decode cX5_mayBe 1 = .ok (.istore_n 2, 1) := by decide +kernel
theorem dX5_mayBe_2 : decode cX5_mayBe 2 = .ok (.iload_n 1, 1) := by decide +kernel
theorem dX5_mayBe_3 : decode cX5_mayBe 3 = .ok (.istore_n 3, 1) := by decide +kernel
theorem dX5_mayBe_4 : decode cX5_mayBe 4 = .ok (.iload_n 3, 1) := by decide +kernel
theorem dX5_mayBe_5 : decode cX5_mayBe 5 = .ok (.ifCond .lt 42, 3) := by decide +kernel
theorem dX5_mayBe_8 : decode cX5_mayBe 8 = .ok (.iload_n 2, 1) := by decide +kernel
theorem dX5_mayBe_9 : decode cX5_mayBe 9 = .ok (.ifCond .eq 26, 3) := by decide +kernel
theorem dX5_mayBe_12 : decode cX5_mayBe 12 = .ok (.aload_n 0, 1) := by decide +kernel
theorem dX5_mayBe_13 : decode cX5_mayBe 13 = .ok (.getfield 13, 3) := by decide +kernel
theorem dX5_mayBe_16 : decode cX5_mayBe 16 = .ok (.iload_n 3, 1) := by decide +kernel
theorem dX5_mayBe_17 : decode cX5_mayBe 17 = .ok (.iaload, 1) := by decide +kernel
theorem dX5_mayBe_18 : decode cX5_mayBe 18 = .ok (.iconst 3, 1) := by decide +kernel
theorem dX5_mayBe_19 : decode cX5_mayBe 19 = .ok (.if_icmp .eq 16, 3) := by decide +kernel
theorem dX5_mayBe_22 : decode cX5_mayBe 22 = .ok (.aload_n 0, 1) := by decide +kernel
theorem dX5_mayBe_23 : decode cX5_mayBe 23 = .ok (.getfield 22, 3) := by decide +kernel
theorem dX5_mayBe_26 : decode cX5_mayBe 26 = .ok (.iload_n 3, 1) := by decide +kernel
theorem dX5_mayBe_27 : decode cX5_mayBe 27 = .ok (.baload, 1) := by decide +kernel
theorem dX5_mayBe_28 : decode cX5_mayBe 28 = .ok (.ifCond .ne 7, 3) := by decide +kernel
theorem dX5_mayBe_31 : decode cX5_mayBe 31 = .ok (.iconst 1, 1) := by decide +kernel
theorem dX5_mayBe_32 : decode cX5_mayBe 32 = .ok (.goto 4, 3) := by decide +kernel
theorem dX5_mayBe_35 : decode cX5_mayBe 35 = .ok (.iconst 0, 1) := by decide +kernel
theorem dX5_mayBe_36 : decode cX5_mayBe 36 = .ok (.istore_n 2, 1) := by decide +kernel
theorem dX5_mayBe_37 : decode cX5_mayBe 37 = .ok (.aload_n 0, 1) := by decide +kernel
theorem dX5_mayBe_38 : decode cX5_mayBe 38 = .ok (.getfield 19, 3) := by decide +kernel
theorem dX5_mayBe_41 : decode cX5_mayBe 41 = .ok (.iload_n 3, 1) := by decide +kernel
theorem dX5_mayBe_42 : decode cX5_mayBe 42 = .ok (.iaload, 1) := by decide +kernel
theorem dX5_mayBe_43 : decode cX5_mayBe 43 = .ok (.istore_n 3, 1) := by decide +kernel
theorem dX5_mayBe_44 : decode cX5_mayBe 44 = .ok (.goto (-40), 3) := by decide +kernel
theorem dX5_mayBe_47 : decode cX5_mayBe 47 = .ok (.iload_n 2, 1) := by decide +kernel
theorem dX5_mayBe_48 : decode cX5_mayBe 48 = .ok (.ireturn, 1) := by decide +kernel
set_option maxRecDepth 20000 in
theorem ggX5_reachOfSet_X5_has : GoodIn wsX5_reachOfSet wsX5_has := goodIn_r _ [5] (by decide +kernel) (by decide +kernel)
set_option maxRecDepth 20000 in
theorem gX5_reachOfSet_X5_has : GoodIn wsX5_reachOfSet (va_wsS RX5 112 yX5_has wsX5_has) := goodIn_app (goodIn_of _ (by decide +kernel)) ggX5_reachOfSet_X5_has
set_option maxRecDepth 20000 in
theorem ggX5_reachOfSet_X5_reachOf : GoodIn wsX5_reachOfSet wsX5_reachOf := goodIn_r _ [9, 10, 11, 12, 13, 14, 15, 16, 17, 18, 19, 20, 21, 22, 23, 24, 25, 26, 27, 28, 29, 30] (by decide +kernel) (by decide +kernel)
set_option maxRecDepth 20000 in
theorem gX5_reachOfSet_X5_reachOf : GoodIn wsX5_reachOfSet (wsV RX5 72 RX5 yX5_reachOf wsX5_reachOf) := goodIn_app (goodIn_of _ (by decide +kernel)) ggX5_reachOfSet_X5_reachOf
theorem dX5_reachOfSet_0 : decode cX5_reachOfSet 0 = .ok (.lconst 0, 1) := by decide +kernel
theorem dX5_reachOfSet_1 : decode cX5_reachOfSet 1 = .ok (.lstore_n 2, 1) := by decide +kernel
theorem dX5_reachOfSet_2 : decode cX5_reachOfSet 2 = .ok (.iconst 0, 1) := by decide +kernel
theorem dX5_reachOfSet_3 : decode cX5_reachOfSet 3 = .ok (.istore 4, 2) := by decide +kernel
theorem dX5_reachOfSet_5 : decode cX5_reachOfSet 5 = .ok (.iload 4, 2) := by decide +kernel
theorem dX5_reachOfSet_7 : decode cX5_reachOfSet 7 = .ok (.aload_n 0, 1) := by decide +kernel
theorem dX5_reachOfSet_8 : decode cX5_reachOfSet 8 = .ok (.getfield 52, 3) := by decide +kernel
theorem dX5_reachOfSet_11 : decode cX5_reachOfSet 11 = .ok (.if_icmp .ge 31, 3) := by decide +kernel
theorem dX5_reachOfSet_14 : decode cX5_reachOfSet 14 = .ok (.lload_n 2, 1) := by decide +kernel
theorem dX5_reachOfSet_15 : decode cX5_reachOfSet 15 = .ok (.iload_n 1, 1) := by decide +kernel
theorem dX5_reachOfSet_16 : decode cX5_reachOfSet 16 = .ok (.iload 4, 2) := by decide +kernel
theorem dX5_reachOfSet_18 : decode cX5_reachOfSet 18 = .ok (.invokestatic 112, 3) := by decide +kernel
theorem dX5_reachOfSet_21 : decode cX5_reachOfSet 21 = .ok (.ifCond .eq 12, 3) := by decide +kernel
theorem dX5_reachOfSet_24 : decode cX5_reachOfSet 24 = .ok (.aload_n 0, 1) := by decide +kernel
theorem dX5_reachOfSet_25 : decode cX5_reachOfSet 25 = .ok (.iload 4, 2) := by decide +kernel
theorem dX5_reachOfSet_27 : decode cX5_reachOfSet 27 = .ok (.invokevirtual 72, 3) := by decide +kernel
theorem dX5_reachOfSet_30 : decode cX5_reachOfSet 30 = .ok (.goto 4, 3) := by decide +kernel
theorem dX5_reachOfSet_33 : decode cX5_reachOfSet 33 = .ok (.lconst 0, 1) := by decide +kernel
theorem dX5_reachOfSet_34 : decode cX5_reachOfSet 34 = .ok (.lor, 1) := by decide +kernel
theorem dX5_reachOfSet_35 : decode cX5_reachOfSet 35 = .ok (.lstore_n 2, 1) := by decide +kernel
theorem dX5_reachOfSet_36 : decode cX5_reachOfSet 36 = .ok (.iinc 4 1, 3) := by decide +kernel
theorem dX5_reachOfSet_39 : decode cX5_reachOfSet 39 = .ok (.goto (-34), 3) := by decide +kernel
theorem dX5_reachOfSet_42 : decode cX5_reachOfSet 42 = .ok (.lload_n 2, 1) := by decide +kernel
theorem dX5_reachOfSet_43 : decode cX5_reachOfSet 43 = .ok (.lreturn, 1) := by decide +kernel
set_option maxRecDepth 20000 in
theorem ggX5_timeOfSet_X5_has : GoodIn wsX5_timeOfSet wsX5_has := goodIn_r _ [5] (by decide +kernel) (by decide +kernel)
set_option maxRecDepth 20000 in
theorem gX5_timeOfSet_X5_has : GoodIn wsX5_timeOfSet (va_wsS RX5 112 yX5_has wsX5_has) := goodIn_app (goodIn_of _ (by decide +kernel)) ggX5_timeOfSet_X5_has
set_option maxRecDepth 20000 in
theorem ggX5_timeOfSet_X5_timeOf : GoodIn wsX5_timeOfSet wsX5_timeOf := goodIn_r _ [9, 10, 11, 12, 13, 14, 15, 16, 17, 18, 19, 20, 21, 22, 23, 24, 25, 26, 27, 28, 29, 30] (by decide +kernel) (by decide +kernel)
set_option maxRecDepth 20000 in
theorem gX5_timeOfSet_X5_timeOf : GoodIn wsX5_timeOfSet (wsV RX5 79 RX5 yX5_timeOf wsX5_timeOf) := goodIn_app (goodIn_of _ (by decide +kernel)) ggX5_timeOfSet_X5_timeOf
theorem dX5_timeOfSet_0 : decode cX5_timeOfSet 0 = .ok (.iconst 0, 1) := by decide +kernel
theorem dX5_timeOfSet_1 : decode cX5_timeOfSet 1 = .ok (.istore_n 2, 1) := by decide +kernel
theorem dX5_timeOfSet_2 : decode cX5_timeOfSet 2 = .ok (.iconst 0, 1) := by decide +kernel
theorem dX5_timeOfSet_3 : decode cX5_timeOfSet 3 = .ok (.istore_n 3, 1) := by decide +kernel
theorem dX5_timeOfSet_4 : decode cX5_timeOfSet 4 = .ok (.iload_n 3, 1) := by decide +kernel
theorem dX5_timeOfSet_5 : decode cX5_timeOfSet 5 = .ok (.aload_n 0, 1) := by decide +kernel
theorem dX5_timeOfSet_6 : decode cX5_timeOfSet 6 = .ok (.getfield 52, 3) := by decide +kernel
theorem dX5_timeOfSet_9 : decode cX5_timeOfSet 9 = .ok (.if_icmp .ge 29, 3) := by decide +kernel
theorem dX5_timeOfSet_12 : decode cX5_timeOfSet 12 = .ok (.iload_n 2, 1) := by decide +kernel
theorem dX5_timeOfSet_13 : decode cX5_timeOfSet 13 = .ok (.iload_n 1, 1) := by decide +kernel
theorem dX5_timeOfSet_14 : decode cX5_timeOfSet 14 = .ok (.iload_n 3, 1) := by decide +kernel
theorem dX5_timeOfSet_15 : decode cX5_timeOfSet 15 = .ok (.invokestatic 112, 3) := by decide +kernel
theorem dX5_timeOfSet_18 : decode cX5_timeOfSet 18 = .ok (.ifCond .eq 11, 3) := by decide +kernel
theorem dX5_timeOfSet_21 : decode cX5_timeOfSet 21 = .ok (.aload_n 0, 1) := by decide +kernel
theorem dX5_timeOfSet_22 : decode cX5_timeOfSet 22 = .ok (.iload_n 3, 1) := by decide +kernel
theorem dX5_timeOfSet_23 : decode cX5_timeOfSet 23 = .ok (.invokevirtual 79, 3) := by decide +kernel
theorem dX5_timeOfSet_26 : decode cX5_timeOfSet 26 = .ok (.goto 4, 3) := by decide +kernel
theorem dX5_timeOfSet_29 : decode cX5_timeOfSet 29 = .ok (.iconst 0, 1) := by decide +kernel
theorem dX5_timeOfSet_30 : decode cX5_timeOfSet 30 = .ok (.iadd, 1) := by decide +kernel
theorem dX5_timeOfSet_31 : decode cX5_timeOfSet 31 = .ok (.istore_n 2, 1) := by decide +kernel
theorem dX5_timeOfSet_32 : decode cX5_timeOfSet 32 = .ok (.iinc 3 1, 3) := by decide +kernel
theorem dX5_timeOfSet_35 : decode cX5_timeOfSet 35 = .ok (.goto (-31), 3) := by decide +kernel
theorem dX5_timeOfSet_38 : decode cX5_timeOfSet 38 = .ok (.iload_n 2, 1) := by decide +kernel
theorem dX5_timeOfSet_39 : decode cX5_timeOfSet 39 = .ok (.ireturn, 1) := by decide +kernel
set_option maxRecDepth 20000 in
theorem ggX5_pick_X5_in : GoodIn wsX5_pick wsX5_in := goodIn_r _ [12] (by decide +kernel) (by decide +kernel)
set_option maxRecDepth 20000 in
theorem gX5_pick_X5_in : GoodIn wsX5_pick (va_wsS RX5 55 yX5_in wsX5_in) := goodIn_app (goodIn_of _ (by decide +kernel)) ggX5_pick_X5_in
set_option maxRecDepth 20000 in
theorem ggX5_pick_X5_reachOfSet : GoodIn wsX5_pick wsX5_reachOfSet := goodIn_r _ [16, 6, 17, 18, 11, 19, 20, 21, 22, 23, 24, 25, 58, 59, 60, 61, 62, 63, 64, 65, 66, 67, 68, 69, 70, 71, 72, 73, 74, 75, 76] (by decide +kernel) (by decide +kernel)
set_option maxRecDepth 20000 in
theorem gX5_pick_X5_reachOfSet : GoodIn wsX5_pick (wsV RX5 119 RX5 yX5_reachOfSet wsX5_reachOfSet) := goodIn_app (goodIn_of _ (by decide +kernel)) ggX5_pick_X5_reachOfSet
set_option maxRecDepth 20000 in
theorem ggX5_pick_X5_chainOf : GoodIn wsX5_pick wsX5_chainOf := goodIn_r _ [29, 30, 58, 59, 60, 61, 62, 63, 64, 65, 66, 67, 68, 69, 70, 71, 72, 73, 74, 75, 76] (by decide +kernel) (by decide +kernel)
set_option maxRecDepth 20000 in
theorem gX5_pick_X5_chainOf : GoodIn wsX5_pick (wsV RX5 88 RX5 yX5_chainOf wsX5_chainOf) := goodIn_app (goodIn_of _ (by decide +kernel)) ggX5_pick_X5_chainOf
set_option maxRecDepth 20000 in
theorem ggX5_pick_X5_mayBe : GoodIn wsX5_pick wsX5_mayBe := goodIn_r _ [34, 35, 24, 30, 58, 59, 60, 61, 62, 63, 64, 65, 66, 67, 68, 69, 70, 71, 72, 73, 74, 75, 76] (by decide +kernel) (by decide +kernel)
set_option maxRecDepth 20000 in
theorem gX5_pick_X5_mayBe : GoodIn wsX5_pick (wsV RX5 124 RX5 yX5_mayBe wsX5_mayBe) := goodIn_app (goodIn_of _ (by decide +kernel)) ggX5_pick_X5_mayBe
set_option maxRecDepth 20000 in
theorem ggX5_pick_X5_has : GoodIn wsX5_pick wsX5_has := goodIn_r _ [19] (by decide +kernel) (by decide +kernel)
set_option maxRecDepth 20000 in
theorem gX5_pick_X5_has : GoodIn wsX5_pick (va_wsS RX5 112 yX5_has wsX5_has) := goodIn_app (goodIn_of _ (by decide +kernel)) ggX5_pick_X5_has
set_option maxRecDepth 20000 in
theorem ggX5_pick_X5_bits : GoodIn wsX5_pick wsX5_bits := goodIn_r _ [38] (by decide +kernel) (by decide +kernel)
set_option maxRecDepth 20000 in
theorem gX5_pick_X5_bits : GoodIn wsX5_pick (va_wsS RX5 91 yX5_bits wsX5_bits) := goodIn_app (goodIn_of _ (by decide +kernel)) ggX5_pick_X5_bits
set_option maxRecDepth 20000 in
theorem ggX5_pick_X5_heatOf : GoodIn wsX5_pick wsX5_heatOf := goodIn_r _ [42, 1, 43, 58, 59, 60, 61, 62, 63, 64, 65, 66, 67, 68, 69, 70, 71, 72, 73, 74, 75, 76] (by decide +kernel) (by decide +kernel)
set_option maxRecDepth 20000 in
theorem gX5_pick_X5_heatOf : GoodIn wsX5_pick (wsV RX5 82 RX5 yX5_heatOf wsX5_heatOf) := goodIn_app (goodIn_of _ (by decide +kernel)) ggX5_pick_X5_heatOf
set_option maxRecDepth 20000 in
theorem ggX5_pick_X5_timeOfSet : GoodIn wsX5_pick wsX5_timeOfSet := goodIn_r _ [47, 6, 17, 18, 11, 19, 48, 49, 50, 51, 35, 52, 58, 59, 60, 61, 62, 63, 64, 65, 66, 67, 68, 69, 70, 71, 72, 73, 74, 75, 76] (by decide +kernel) (by decide +kernel)
set_option maxRecDepth 20000 in
theorem gX5_pick_X5_timeOfSet : GoodIn wsX5_pick (wsV RX5 127 RX5 yX5_timeOfSet wsX5_timeOfSet) := goodIn_app (goodIn_of _ (by decide +kernel)) ggX5_pick_X5_timeOfSet
set_option maxRecDepth 20000 in
theorem ggX5_pick_X5_take : GoodIn wsX5_pick wsX5_take := goodIn_r _ [56, 4, 6, 57, 3, 26, 27, 28, 11, 29, 30, 17, 18, 19, 58, 59, 60, 61, 62, 63, 64, 65, 66, 67, 68, 69, 70, 71, 72, 73, 74, 75, 76] (by decide +kernel) (by decide +kernel)
set_option maxRecDepth 20000 in
theorem gX5_pick_X5_take : GoodIn wsX5_pick (wsV RX5 130 RX5 yX5_take wsX5_take) := goodIn_app (goodIn_of _ (by decide +kernel)) ggX5_pick_X5_take
theorem dX5_pick_0 : decode cX5_pick 0 = .ok (.iload_n 1, 1) := by decide +kernel
theorem dX5_pick_1 : decode cX5_pick 1 = .ok (.iconst 0, 1) := by decide +kernel
theorem dX5_pick_2 : decode cX5_pick 2 = .ok (.sipush 30000, 3) := by decide +kernel
theorem dX5_pick_5 : decode cX5_pick 5 = .ok (.invokestatic 55, 3) := by decide +kernel
theorem dX5_pick_8 : decode cX5_pick 8 = .ok (.ifCond .ne 5, 3) := by decide +kernel
theorem dX5_pick_11 : decode cX5_pick 11 = .ok (.iconst (-1), 1) := by decide +kernel
theorem dX5_pick_12 : decode cX5_pick 12 = .ok (.ireturn, 1) := by decide +kernel
theorem dX5_pick_13 : decode cX5_pick 13 = .ok (.aload_n 0, 1) := by decide +kernel
theorem dX5_pick_14 : decode cX5_pick 14 = .ok (.getfield 59, 3) := by decide +kernel
theorem dX5_pick_17 : decode cX5_pick 17 = .ok (.ifCond .ne 6, 3) := by decide +kernel
theorem dX5_pick_20 : decode cX5_pick 20 = .ok (.bipush (-4), 2) := by decide +kernel
theorem dX5_pick_22 : decode cX5_pick 22 = .ok (.ireturn, 1) := by decide +kernel
theorem dX5_pick_23 : decode cX5_pick 23 = .ok (.aload_n 0, 1) := by decide +kernel
theorem dX5_pick_24 : decode cX5_pick 24 = .ok (.getfield 29, 3) := by decide +kernel
theorem dX5_pick_27 : decode cX5_pick 27 = .ok (.aload_n 0, 1) := by decide +kernel
theorem dX5_pick_28 : decode cX5_pick 28 = .ok (.getfield 59, 3) := by decide +kernel
theorem dX5_pick_31 : decode cX5_pick 31 = .ok (.iconst 1, 1) := by decide +kernel
theorem dX5_pick_32 : decode cX5_pick 32 = .ok (.isub, 1) := by decide +kernel
theorem dX5_pick_33 : decode cX5_pick 33 = .ok (.laload, 1) := by decide +kernel
theorem dX5_pick_34 : decode cX5_pick 34 = .ok (.lstore_n 2, 1) := by decide +kernel
theorem dX5_pick_35 : decode cX5_pick 35 = .ok (.aload_n 0, 1) := by decide +kernel
theorem dX5_pick_36 : decode cX5_pick 36 = .ok (.iconst 0, 1) := by decide +kernel
theorem dX5_pick_37 : decode cX5_pick 37 = .ok (.putfield 39, 3) := by decide +kernel
theorem dX5_pick_40 : decode cX5_pick 40 = .ok (.aload_n 0, 1) := by decide +kernel
theorem dX5_pick_41 : decode cX5_pick 41 = .ok (.iconst 0, 1) := by decide +kernel
theorem dX5_pick_42 : decode cX5_pick 42 = .ok (.putfield 116, 3) := by decide +kernel
theorem dX5_pick_45 : decode cX5_pick 45 = .ok (.iload_n 1, 1) := by decide +kernel
theorem dX5_pick_46 : decode cX5_pick 46 = .ok (.istore 4, 2) := by decide +kernel
theorem dX5_pick_48 : decode cX5_pick 48 = .ok (.iconst 0, 1) := by decide +kernel
theorem dX5_pick_49 : decode cX5_pick 49 = .ok (.istore 5, 2) := by decide +kernel
theorem dX5_pick_51 : decode cX5_pick 51 = .ok (.iload 5, 2) := by decide +kernel
theorem dX5_pick_53 : decode cX5_pick 53 = .ok (.ifCond .lt 185, 3) := by decide +kernel
theorem dX5_pick_56 : decode cX5_pick 56 = .ok (.bipush (-9), 2) := by decide +kernel
theorem dX5_pick_58 : decode cX5_pick 58 = .ok (.istore 5, 2) := by decide +kernel
theorem dX5_pick_60 : decode cX5_pick 60 = .ok (.lconst 0, 1) := by decide +kernel
theorem dX5_pick_61 : decode cX5_pick 61 = .ok (.lstore 6, 2) := by decide +kernel
theorem dX5_pick_63 : decode cX5_pick 63 = .ok (.lconst 1, 1) := by decide +kernel
theorem dX5_pick_64 : decode cX5_pick 64 = .ok (.lstore 8, 2) := by decide +kernel
theorem dX5_pick_66 : decode cX5_pick 66 = .ok (.lload_n 2, 1) := by decide +kernel
theorem dX5_pick_67 : decode cX5_pick 67 = .ok (.aload_n 0, 1) := by decide +kernel
theorem dX5_pick_68 : decode cX5_pick 68 = .ok (.aload_n 0, 1) := by decide +kernel
theorem dX5_pick_69 : decode cX5_pick 69 = .ok (.getfield 116, 3) := by decide +kernel
theorem dX5_pick_72 : decode cX5_pick 72 = .ok (.invokevirtual 119, 3) := by decide +kernel
theorem dX5_pick_75 : decode cX5_pick 75 = .ok (.ldc2_w 122, 3) := by decide +kernel
theorem dX5_pick_78 : decode cX5_pick 78 = .ok (.lxor, 1) := by decide +kernel
theorem dX5_pick_79 : decode cX5_pick 79 = .ok (.land, 1) := by decide +kernel
theorem dX5_pick_80 : decode cX5_pick 80 = .ok (.lstore 10, 2) := by decide +kernel
theorem dX5_pick_82 : decode cX5_pick 82 = .ok (.iconst 0, 1) := by decide +kernel
theorem dX5_pick_83 : decode cX5_pick 83 = .ok (.istore 12, 2) := by decide +kernel
theorem dX5_pick_85 : decode cX5_pick 85 = .ok (.iload 12, 2) := by decide +kernel
theorem dX5_pick_87 : decode cX5_pick 87 = .ok (.aload_n 0, 1) := by decide +kernel
theorem dX5_pick_88 : decode cX5_pick 88 = .ok (.getfield 52, 3) := by decide +kernel
theorem dX5_pick_91 : decode cX5_pick 91 = .ok (.if_icmp .ge 125, 3) := by decide +kernel
theorem dX5_pick_94 : decode cX5_pick 94 = .ok (.aload_n 0, 1) := by decide +kernel
theorem dX5_pick_95 : decode cX5_pick 95 = .ok (.iload 12, 2) := by decide +kernel
theorem dX5_pick_97 : decode cX5_pick 97 = .ok (.invokevirtual 88, 3) := by decide +kernel
theorem dX5_pick_100 : decode cX5_pick 100 = .ok (.aload_n 0, 1) := by decide +kernel
theorem dX5_pick_101 : decode cX5_pick 101 = .ok (.getfield 116, 3) := by decide +kernel
theorem dX5_pick_104 : decode cX5_pick 104 = .ok (.iconst (-1), 1) := by decide +kernel
theorem dX5_pick_105 : decode cX5_pick 105 = .ok (.ixor, 1) := by decide +kernel
theorem dX5_pick_106 : decode cX5_pick 106 = .ok (.iand, 1) := by decide +kernel
theorem dX5_pick_107 : decode cX5_pick 107 = .ok (.istore 13, 2) := by decide +kernel
theorem dX5_pick_109 : decode cX5_pick 109 = .ok (.aload_n 0, 1) := by decide +kernel
theorem dX5_pick_110 : decode cX5_pick 110 = .ok (.iload 12, 2) := by decide +kernel
theorem dX5_pick_112 : decode cX5_pick 112 = .ok (.invokevirtual 124, 3) := by decide +kernel
theorem dX5_pick_115 : decode cX5_pick 115 = .ok (.ifCond .eq 95, 3) := by decide +kernel
theorem dX5_pick_118 : decode cX5_pick 118 = .ok (.aload_n 0, 1) := by decide +kernel
theorem dX5_pick_119 : decode cX5_pick 119 = .ok (.getfield 116, 3) := by decide +kernel
theorem dX5_pick_122 : decode cX5_pick 122 = .ok (.iload 12, 2) := by decide +kernel
theorem dX5_pick_124 : decode cX5_pick 124 = .ok (.invokestatic 112, 3) := by decide +kernel
theorem dX5_pick_127 : decode cX5_pick 127 = .ok (.ifCond .eq 6, 3) := by decide +kernel
theorem dX5_pick_130 : decode cX5_pick 130 = .ok (.goto 80, 3) := by decide +kernel
theorem dX5_pick_133 : decode cX5_pick 133 = .ok (.aload_n 0, 1) := by decide +kernel
theorem dX5_pick_134 : decode cX5_pick 134 = .ok (.iload 13, 2) := by decide +kernel
theorem dX5_pick_136 : decode cX5_pick 136 = .ok (.invokevirtual 119, 3) := by decide +kernel
theorem dX5_pick_139 : decode cX5_pick 139 = .ok (.lload 10, 2) := by decide +kernel
theorem dX5_pick_141 : decode cX5_pick 141 = .ok (.land, 1) := by decide +kernel
theorem dX5_pick_142 : decode cX5_pick 142 = .ok (.invokestatic 91, 3) := by decide +kernel
theorem dX5_pick_145 : decode cX5_pick 145 = .ok (.i2l, 1) := by decide +kernel
theorem dX5_pick_146 : decode cX5_pick 146 = .ok (.bipush 16, 2) := by decide +kernel
theorem dX5_pick_148 : decode cX5_pick 148 = .ok (.aload_n 0, 1) := by decide +kernel
theorem dX5_pick_149 : decode cX5_pick 149 = .ok (.iload 12, 2) := by decide +kernel
theorem dX5_pick_151 : decode cX5_pick 151 = .ok (.invokevirtual 82, 3) := by decide +kernel
theorem dX5_pick_154 : decode cX5_pick 154 = .ok (.iadd, 1) := by decide +kernel
theorem dX5_pick_155 : decode cX5_pick 155 = .ok (.i2l, 1) := by decide +kernel
theorem dX5_pick_156 : decode cX5_pick 156 = .ok (.lmul, 1) := by decide +kernel
theorem dX5_pick_157 : decode cX5_pick 157 = .ok (.lstore 14, 2) := by decide +kernel
theorem dX5_pick_159 : decode cX5_pick 159 = .ok (.aload_n 0, 1) := by decide +kernel
theorem dX5_pick_160 : decode cX5_pick 160 = .ok (.iload 13, 2) := by decide +kernel
theorem dX5_pick_162 : decode cX5_pick 162 = .ok (.invokevirtual 127, 3) := by decide +kernel
theorem dX5_pick_165 : decode cX5_pick 165 = .ok (.i2l, 1) := by decide +kernel
theorem dX5_pick_166 : decode cX5_pick 166 = .ok (.lstore 16, 2) := by decide +kernel
theorem dX5_pick_168 : decode cX5_pick 168 = .ok (.lload 14, 2) := by decide +kernel
theorem dX5_pick_170 : decode cX5_pick 170 = .ok (.lconst 0, 1) := by decide +kernel
theorem dX5_pick_171 : decode cX5_pick 171 = .ok (.lcmp, 1) := by decide +kernel
theorem dX5_pick_172 : decode cX5_pick 172 = .ok (.ifCond .le 38, 3) := by decide +kernel
theorem dX5_pick_175 : decode cX5_pick 175 = .ok (.lload 16, 2) := by decide +kernel
theorem dX5_pick_177 : decode cX5_pick 177 = .ok (.iload 4, 2) := by decide +kernel
theorem dX5_pick_179 : decode cX5_pick 179 = .ok (.i2l, 1) := by decide +kernel
theorem dX5_pick_180 : decode cX5_pick 180 = .ok (.lcmp, 1) := by decide +kernel
theorem dX5_pick_181 : decode cX5_pick 181 = .ok (.ifCond .gt 29, 3) := by decide +kernel
theorem dX5_pick_184 : decode cX5_pick 184 = .ok (.lload 14, 2) := by decide +kernel
theorem dX5_pick_186 : decode cX5_pick 186 = .ok (.lload 8, 2) := by decide +kernel
theorem dX5_pick_188 : decode cX5_pick 188 = .ok (.lmul, 1) := by decide +kernel
theorem dX5_pick_189 : decode cX5_pick 189 = .ok (.lload 6, 2) := by decide +kernel
theorem dX5_pick_191 : decode cX5_pick 191 = .ok (.lload 16, 2) := by decide +kernel
theorem dX5_pick_193 : decode cX5_pick 193 = .ok (.lmul, 1) := by decide +kernel
theorem dX5_pick_194 : decode cX5_pick 194 = .ok (.lcmp, 1) := by decide +kernel
theorem dX5_pick_195 : decode cX5_pick 195 = .ok (.ifCond .le 15, 3) := by decide +kernel
theorem dX5_pick_198 : decode cX5_pick 198 = .ok (.iload 12, 2) := by decide +kernel
theorem dX5_pick_200 : decode cX5_pick 200 = .ok (.istore 5, 2) := by decide +kernel
theorem dX5_pick_202 : decode cX5_pick 202 = .ok (.lload 14, 2) := by decide +kernel
theorem dX5_pick_204 : decode cX5_pick 204 = .ok (.lstore 6, 2) := by decide +kernel
theorem dX5_pick_206 : decode cX5_pick 206 = .ok (.lload 16, 2) := by decide +kernel
theorem dX5_pick_208 : decode cX5_pick 208 = .ok (.lstore 8, 2) := by decide +kernel
theorem dX5_pick_210 : decode cX5_pick 210 = .ok (.iinc 12 1, 3) := by decide +kernel
theorem dX5_pick_213 : decode cX5_pick 213 = .ok (.goto (-128), 3) := by decide +kernel
theorem dX5_pick_216 : decode cX5_pick 216 = .ok (.iload 5, 2) := by decide +kernel
theorem dX5_pick_218 : decode cX5_pick 218 = .ok (.ifCond .lt 17, 3) := by decide +kernel
theorem dX5_pick_221 : decode cX5_pick 221 = .ok (.iload 4, 2) := by decide +kernel
theorem dX5_pick_223 : decode cX5_pick 223 = .ok (.lload 8, 2) := by decide +kernel
theorem dX5_pick_225 : decode cX5_pick 225 = .ok (.l2i, 1) := by decide +kernel
theorem dX5_pick_226 : decode cX5_pick 226 = .ok (.isub, 1) := by decide +kernel
theorem dX5_pick_227 : decode cX5_pick 227 = .ok (.istore 4, 2) := by decide +kernel
theorem dX5_pick_229 : decode cX5_pick 229 = .ok (.aload_n 0, 1) := by decide +kernel
theorem dX5_pick_230 : decode cX5_pick 230 = .ok (.iload 5, 2) := by decide +kernel
theorem dX5_pick_232 : decode cX5_pick 232 = .ok (.invokevirtual 130, 3) := by decide +kernel
theorem dX5_pick_235 : decode cX5_pick 235 = .ok (.goto (-184), 3) := by decide +kernel
theorem dX5_pick_238 : decode cX5_pick 238 = .ok (.aload_n 0, 1) := by decide +kernel
theorem dX5_pick_239 : decode cX5_pick 239 = .ok (.iload_n 1, 1) := by decide +kernel
theorem dX5_pick_240 : decode cX5_pick 240 = .ok (.iload 4, 2) := by decide +kernel
theorem dX5_pick_242 : decode cX5_pick 242 = .ok (.isub, 1) := by decide +kernel
theorem dX5_pick_243 : decode cX5_pick 243 = .ok (.putfield 134, 3) := by decide +kernel
theorem dX5_pick_246 : decode cX5_pick 246 = .ok (.aload_n 0, 1) := by decide +kernel
theorem dX5_pick_247 : decode cX5_pick 247 = .ok (.aload_n 0, 1) := by decide +kernel
theorem dX5_pick_248 : decode cX5_pick 248 = .ok (.aload_n 0, 1) := by decide +kernel
theorem dX5_pick_249 : decode cX5_pick 249 = .ok (.getfield 116, 3) := by decide +kernel
theorem dX5_pick_252 : decode cX5_pick 252 = .ok (.invokevirtual 119, 3) := by decide +kernel
theorem dX5_pick_255 : decode cX5_pick 255 = .ok (.lload_n 2, 1) := by decide +kernel
theorem dX5_pick_256 : decode cX5_pick 256 = .ok (.land, 1) := by decide +kernel
theorem dX5_pick_257 : decode cX5_pick 257 = .ok (.invokestatic 91, 3) := by decide +kernel
theorem dX5_pick_260 : decode cX5_pick 260 = .ok (.putfield 137, 3) := by decide +kernel
theorem dX5_pick_263 : decode cX5_pick 263 = .ok (.aload_n 0, 1) := by decide +kernel
theorem dX5_pick_264 : decode cX5_pick 264 = .ok (.getfield 39, 3) := by decide +kernel
theorem dX5_pick_267 : decode cX5_pick 267 = .ok (.ireturn, 1) := by decide +kernel
set_option maxRecDepth 20000 in
theorem ggX5_take_X5_chainOf : GoodIn wsX5_take wsX5_chainOf := goodIn_r _ [9, 10, 14, 15, 16, 17, 18, 19, 20, 21, 22, 23, 24, 25, 26, 27, 28, 29, 30, 31, 32] (by decide +kernel) (by decide +kernel)
set_option maxRecDepth 20000 in
theorem gX5_take_X5_chainOf : GoodIn wsX5_take (wsV RX5 88 RX5 yX5_chainOf wsX5_chainOf) := goodIn_app (goodIn_of _ (by decide +kernel)) ggX5_take_X5_chainOf
set_option maxRecDepth 20000 in
theorem ggX5_take_X5_has : GoodIn wsX5_take wsX5_has := goodIn_r _ [13] (by decide +kernel) (by decide +kernel)
set_option maxRecDepth 20000 in
theorem gX5_take_X5_has : GoodIn wsX5_take (va_wsS RX5 112 yX5_has wsX5_has) := goodIn_app (goodIn_of _ (by decide +kernel)) ggX5_take_X5_has
theorem dX5_take_0 : decode cX5_take 0 = .ok (.aload_n 0, 1) := by decide +kernel
theorem dX5_take_1 : decode cX5_take 1 = .ok (.iload_n 1, 1) := by decide +kernel
theorem dX5_take_2 : decode cX5_take 2 = .ok (.invokevirtual 88, 3) := by decide +kernel
theorem dX5_take_5 : decode cX5_take 5 = .ok (.aload_n 0, 1) := by decide +kernel
theorem dX5_take_6 : decode cX5_take 6 = .ok (.getfield 116, 3) := by decide +kernel
theorem dX5_take_9 : decode cX5_take 9 = .ok (.iconst (-1), 1) := by decide +kernel
theorem dX5_take_10 : decode cX5_take 10 = .ok (.ixor, 1) := by decide +kernel
theorem dX5_take_11 : decode cX5_take 11 = .ok (.iand, 1) := by decide +kernel
theorem dX5_take_12 : decode cX5_take 12 = .ok (.istore_n 2, 1) := by decide +kernel
theorem dX5_take_13 : decode cX5_take 13 = .ok (.iconst 0, 1) := by decide +kernel
theorem dX5_take_14 : decode cX5_take 14 = .ok (.istore_n 3, 1) := by decide +kernel
theorem dX5_take_15 : decode cX5_take 15 = .ok (.iload_n 3, 1) := by decide +kernel
theorem dX5_take_16 : decode cX5_take 16 = .ok (.aload_n 0, 1) := by decide +kernel
theorem dX5_take_17 : decode cX5_take 17 = .ok (.getfield 52, 3) := by decide +kernel
theorem dX5_take_20 : decode cX5_take 20 = .ok (.if_icmp .ge 37, 3) := by decide +kernel
theorem dX5_take_23 : decode cX5_take 23 = .ok (.iload_n 2, 1) := by decide +kernel
theorem dX5_take_24 : decode cX5_take 24 = .ok (.iload_n 3, 1) := by decide +kernel
theorem dX5_take_25 : decode cX5_take 25 = .ok (.invokestatic 112, 3) := by decide +kernel
theorem dX5_take_28 : decode cX5_take 28 = .ok (.ifCond .eq 23, 3) := by decide +kernel
theorem dX5_take_31 : decode cX5_take 31 = .ok (.aload_n 0, 1) := by decide +kernel
theorem dX5_take_32 : decode cX5_take 32 = .ok (.getfield 43, 3) := by decide +kernel
theorem dX5_take_35 : decode cX5_take 35 = .ok (.aload_n 0, 1) := by decide +kernel
theorem dX5_take_36 : decode cX5_take 36 = .ok (.getfield 39, 3) := by decide +kernel
theorem dX5_take_39 : decode cX5_take 39 = .ok (.iload_n 3, 1) := by decide +kernel
theorem dX5_take_40 : decode cX5_take 40 = .ok (.iastore, 1) := by decide +kernel
theorem dX5_take_41 : decode cX5_take 41 = .ok (.aload_n 0, 1) := by decide +kernel
theorem dX5_take_42 : decode cX5_take 42 = .ok (.dup, 1) := by decide +kernel
theorem dX5_take_43 : decode cX5_take 43 = .ok (.getfield 39, 3) := by decide +kernel
theorem dX5_take_46 : decode cX5_take 46 = .ok (.iconst 1, 1) := by decide +kernel
theorem dX5_take_47 : decode cX5_take 47 = .ok (.iadd, 1) := by decide +kernel
theorem dX5_take_48 : decode cX5_take 48 = .ok (.putfield 39, 3) := by decide +kernel
theorem dX5_take_51 : decode cX5_take 51 = .ok (.iinc 3 1, 3) := by decide +kernel
theorem dX5_take_54 : decode cX5_take 54 = .ok (.goto (-39), 3) := by decide +kernel
theorem dX5_take_57 : decode cX5_take 57 = .ok (.aload_n 0, 1) := by decide +kernel
theorem dX5_take_58 : decode cX5_take 58 = .ok (.dup, 1) := by decide +kernel
theorem dX5_take_59 : decode cX5_take 59 = .ok (.getfield 116, 3) := by decide +kernel
theorem dX5_take_62 : decode cX5_take 62 = .ok (.iload_n 2, 1) := by decide +kernel
theorem dX5_take_63 : decode cX5_take 63 = .ok (.ior, 1) := by decide +kernel
theorem dX5_take_64 : decode cX5_take 64 = .ok (.putfield 116, 3) := by decide +kernel
theorem dX5_take_67 : decode cX5_take 67 = .ok (.return_, 1) := by decide +kernel
set_option maxRecDepth 20000 in
theorem ggX5_picked_X5_in : GoodIn wsX5_picked wsX5_in := goodIn_r _ [6] (by decide +kernel) (by decide +kernel)
set_option maxRecDepth 20000 in
theorem gX5_picked_X5_in : GoodIn wsX5_picked (va_wsS RX5 55 yX5_in wsX5_in) := goodIn_app (goodIn_of _ (by decide +kernel)) ggX5_picked_X5_in
theorem dX5_picked_0 : decode cX5_picked 0 = .ok (.iload_n 1, 1) := by decide +kernel
theorem dX5_picked_1 : decode cX5_picked 1 = .ok (.iconst 0, 1) := by decide +kernel
theorem dX5_picked_2 : decode cX5_picked 2 = .ok (.aload_n 0, 1) := by decide +kernel
theorem dX5_picked_3 : decode cX5_picked 3 = .ok (.getfield 39, 3) := by decide +kernel
theorem dX5_picked_6 : decode cX5_picked 6 = .ok (.iconst 1, 1) := by decide +kernel
theorem dX5_picked_7 : decode cX5_picked 7 = .ok (.isub, 1) := by decide +kernel
theorem dX5_picked_8 : decode cX5_picked 8 = .ok (.invokestatic 55, 3) := by decide +kernel
theorem dX5_picked_11 : decode cX5_picked 11 = .ok (.ifCond .eq 12, 3) := by decide +kernel
theorem dX5_picked_14 : decode cX5_picked 14 = .ok (.aload_n 0, 1) := by decide +kernel
theorem dX5_picked_15 : decode cX5_picked 15 = .ok (.getfield 43, 3) := by decide +kernel
theorem dX5_picked_18 : decode cX5_picked 18 = .ok (.iload_n 1, 1) := by decide +kernel
theorem dX5_picked_19 : decode cX5_picked 19 = .ok (.iaload, 1) := by decide +kernel
theorem dX5_picked_20 : decode cX5_picked 20 = .ok (.goto 5, 3) := by decide +kernel
theorem dX5_picked_23 : decode cX5_picked 23 = .ok (.bipush (-9), 2) := by decide +kernel
theorem dX5_picked_25 : decode cX5_picked 25 = .ok (.ireturn, 1) := by decide +kernel
set_option maxRecDepth 20000 in
theorem ggX5_about_X5_in : GoodIn wsX5_about wsX5_in := goodIn_r _ [8] (by decide +kernel) (by decide +kernel)
set_option maxRecDepth 20000 in
theorem gX5_about_X5_in : GoodIn wsX5_about (va_wsS RX5 55 yX5_in wsX5_in) := goodIn_app (goodIn_of _ (by decide +kernel)) ggX5_about_X5_in
theorem dX5_about_0 : decode cX5_about 0 = .ok (.iload_n 1, 1) := by decide +kernel
theorem dX5_about_1 : decode cX5_about 1 = .ok (.iconst 0, 1) := by decide +kernel
theorem dX5_about_2 : decode cX5_about 2 = .ok (.iconst 2, 1) := by decide +kernel
theorem dX5_about_3 : decode cX5_about 3 = .ok (.invokestatic 55, 3) := by decide +kernel
theorem dX5_about_6 : decode cX5_about 6 = .ok (.ifCond .ne 5, 3) := by decide +kernel
theorem dX5_about_9 : decode cX5_about 9 = .ok (.iconst (-1), 1) := by decide +kernel
theorem dX5_about_10 : decode cX5_about 10 = .ok (.ireturn, 1) := by decide +kernel
theorem dX5_about_11 : decode cX5_about 11 = .ok (.aload_n 0, 1) := by decide +kernel
theorem dX5_about_12 : decode cX5_about 12 = .ok (.getfield 39, 3) := by decide +kernel
theorem dX5_about_15 : decode cX5_about 15 = .ok (.ifCond .ge 6, 3) := by decide +kernel
theorem dX5_about_18 : decode cX5_about 18 = .ok (.bipush (-9), 2) := by decide +kernel
theorem dX5_about_20 : decode cX5_about 20 = .ok (.ireturn, 1) := by decide +kernel
theorem dX5_about_21 : decode cX5_about 21 = .ok (.iload_n 1, 1) := by decide +kernel
theorem dX5_about_22 : decode cX5_about 22 = .ok (.ifCond .ne 10, 3) := by decide +kernel
theorem dX5_about_25 : decode cX5_about 25 = .ok (.aload_n 0, 1) := by decide +kernel
theorem dX5_about_26 : decode cX5_about 26 = .ok (.getfield 134, 3) := by decide +kernel
theorem dX5_about_29 : decode cX5_about 29 = .ok (.goto 19, 3) := by decide +kernel
theorem dX5_about_32 : decode cX5_about 32 = .ok (.iload_n 1, 1) := by decide +kernel
theorem dX5_about_33 : decode cX5_about 33 = .ok (.iconst 1, 1) := by decide +kernel
theorem dX5_about_34 : decode cX5_about 34 = .ok (.if_icmp .ne 10, 3) := by decide +kernel
theorem dX5_about_37 : decode cX5_about 37 = .ok (.aload_n 0, 1) := by decide +kernel
theorem dX5_about_38 : decode cX5_about 38 = .ok (.getfield 137, 3) := by decide +kernel
theorem dX5_about_41 : decode cX5_about 41 = .ok (.goto 7, 3) := by decide +kernel
theorem dX5_about_44 : decode cX5_about 44 = .ok (.aload_n 0, 1) := by decide +kernel
theorem dX5_about_45 : decode cX5_about 45 = .ok (.getfield 116, 3) := by decide +kernel
theorem dX5_about_48 : decode cX5_about 48 = .ok (.ireturn, 1) := by decide +kernel
set_option maxRecDepth 20000 in
theorem ggX5_setOf_X5_has : GoodIn wsX5_setOf wsX5_has := goodIn_r _ [5] (by decide +kernel) (by decide +kernel)
set_option maxRecDepth 20000 in
theorem gX5_setOf_X5_has : GoodIn wsX5_setOf (va_wsS RX5 112 yX5_has wsX5_has) := goodIn_app (goodIn_of _ (by decide +kernel)) ggX5_setOf_X5_has
theorem dX5_setOf_0 : decode cX5_setOf 0 = .ok (.iconst 0, 1) := by decide +kernel
theorem dX5_setOf_1 : decode cX5_setOf 1 = .ok (.istore_n 3, 1) := by decide +kernel
theorem dX5_setOf_2 : decode cX5_setOf 2 = .ok (.iconst 0, 1) := by decide +kernel
theorem dX5_setOf_3 : decode cX5_setOf 3 = .ok (.istore 4, 2) := by decide +kernel
theorem dX5_setOf_5 : decode cX5_setOf 5 = .ok (.iload 4, 2) := by decide +kernel
theorem dX5_setOf_7 : decode cX5_setOf 7 = .ok (.iload_n 2, 1) := by decide +kernel
theorem dX5_setOf_8 : decode cX5_setOf 8 = .ok (.if_icmp .ge 34, 3) := by decide +kernel
theorem dX5_setOf_11 : decode cX5_setOf 11 = .ok (.iload_n 3, 1) := by decide +kernel
theorem dX5_setOf_12 : decode cX5_setOf 12 = .ok (.iload_n 1, 1) := by decide +kernel
theorem dX5_setOf_13 : decode cX5_setOf 13 = .ok (.iload 4, 2) := by decide +kernel
theorem dX5_setOf_15 : decode cX5_setOf 15 = .ok (.invokestatic 112, 3) := by decide +kernel
theorem dX5_setOf_18 : decode cX5_setOf 18 = .ok (.ifCond .eq 15, 3) := by decide +kernel
theorem dX5_setOf_21 : decode cX5_setOf 21 = .ok (.iconst 1, 1) := by decide +kernel
theorem dX5_setOf_22 : decode cX5_setOf 22 = .ok (.aload_n 0, 1) := by decide +kernel
theorem dX5_setOf_23 : decode cX5_setOf 23 = .ok (.getfield 46, 3) := by decide +kernel
theorem dX5_setOf_26 : decode cX5_setOf 26 = .ok (.iload 4, 2) := by decide +kernel
theorem dX5_setOf_28 : decode cX5_setOf 28 = .ok (.iaload, 1) := by decide +kernel
theorem dX5_setOf_29 : decode cX5_setOf 29 = .ok (.ishl, 1) := by decide +kernel
theorem dX5_setOf_30 : decode cX5_setOf 30 = .ok (.goto 4, 3) := by decide +kernel
theorem dX5_setOf_33 : decode cX5_setOf 33 = .ok (.iconst 0, 1) := by decide +kernel
theorem dX5_setOf_34 : decode cX5_setOf 34 = .ok (.ior, 1) := by decide +kernel
theorem dX5_setOf_35 : decode cX5_setOf 35 = .ok (.istore_n 3, 1) := by decide +kernel
theorem dX5_setOf_36 : decode cX5_setOf 36 = .ok (.iinc 4 1, 3) := by decide +kernel
theorem dX5_setOf_39 : decode cX5_setOf 39 = .ok (.goto (-34), 3) := by decide +kernel
theorem dX5_setOf_42 : decode cX5_setOf 42 = .ok (.iload_n 3, 1) := by decide +kernel
theorem dX5_setOf_43 : decode cX5_setOf 43 = .ok (.ireturn, 1) := by decide +kernel
set_option maxRecDepth 20000 in
theorem ggX5_best_X5_in : GoodIn wsX5_best wsX5_in := goodIn_r _ [9] (by decide +kernel) (by decide +kernel)
set_option maxRecDepth 20000 in
theorem gX5_best_X5_in : GoodIn wsX5_best (va_wsS RX5 55 yX5_in wsX5_in) := goodIn_app (goodIn_of _ (by decide +kernel)) ggX5_best_X5_in
set_option maxRecDepth 20000 in
theorem ggX5_best_X5_mayBe : GoodIn wsX5_best wsX5_mayBe := goodIn_r _ [13, 14, 15, 16, 49, 50, 51, 52, 53, 54, 55, 56, 57, 58, 59, 60, 61, 62, 63, 64, 65, 66, 67] (by decide +kernel) (by decide +kernel)
set_option maxRecDepth 20000 in
theorem gX5_best_X5_mayBe : GoodIn wsX5_best (wsV RX5 124 RX5 yX5_mayBe wsX5_mayBe) := goodIn_app (goodIn_of _ (by decide +kernel)) ggX5_best_X5_mayBe
set_option maxRecDepth 20000 in
theorem ggX5_best_X5_setOf : GoodIn wsX5_best wsX5_setOf := goodIn_r _ [20, 3, 21, 22, 8, 23, 49, 50, 51, 52, 53, 54, 55, 56, 57, 58, 59, 60, 61, 62, 63, 64, 65, 66, 67] (by decide +kernel) (by decide +kernel)
set_option maxRecDepth 20000 in
theorem gX5_best_X5_setOf : GoodIn wsX5_best (wsV RX5 140 RX5 yX5_setOf wsX5_setOf) := goodIn_app (goodIn_of _ (by decide +kernel)) ggX5_best_X5_setOf
set_option maxRecDepth 20000 in
theorem ggX5_best_X5_reachOfSet : GoodIn wsX5_best wsX5_reachOfSet := goodIn_r _ [27, 2, 21, 22, 8, 23, 28, 29, 30, 31, 15, 32, 49, 50, 51, 52, 53, 54, 55, 56, 57, 58, 59, 60, 61, 62, 63, 64, 65, 66, 67] (by decide +kernel) (by decide +kernel)
set_option maxRecDepth 20000 in
theorem gX5_best_X5_reachOfSet : GoodIn wsX5_best (wsV RX5 119 RX5 yX5_reachOfSet wsX5_reachOfSet) := goodIn_app (goodIn_of _ (by decide +kernel)) ggX5_best_X5_reachOfSet
set_option maxRecDepth 20000 in
theorem ggX5_best_X5_bits : GoodIn wsX5_best wsX5_bits := goodIn_r _ [35] (by decide +kernel) (by decide +kernel)
set_option maxRecDepth 20000 in
theorem gX5_best_X5_bits : GoodIn wsX5_best (va_wsS RX5 91 yX5_bits wsX5_bits) := goodIn_app (goodIn_of _ (by decide +kernel)) ggX5_best_X5_bits
set_option maxRecDepth 20000 in
theorem ggX5_best_X5_timeOfSet : GoodIn wsX5_best wsX5_timeOfSet := goodIn_r _ [39, 2, 21, 22, 8, 23, 40, 41, 42, 43, 14, 44, 49, 50, 51, 52, 53, 54, 55, 56, 57, 58, 59, 60, 61, 62, 63, 64, 65, 66, 67] (by decide +kernel) (by decide +kernel)
set_option maxRecDepth 20000 in
theorem gX5_best_X5_timeOfSet : GoodIn wsX5_best (wsV RX5 127 RX5 yX5_timeOfSet wsX5_timeOfSet) := goodIn_app (goodIn_of _ (by decide +kernel)) ggX5_best_X5_timeOfSet
set_option maxRecDepth 20000 in
theorem ggX5_best_X5_has : GoodIn wsX5_best wsX5_has := goodIn_r _ [23] (by decide +kernel) (by decide +kernel)
set_option maxRecDepth 20000 in
theorem gX5_best_X5_has : GoodIn wsX5_best (va_wsS RX5 112 yX5_has wsX5_has) := goodIn_app (goodIn_of _ (by decide +kernel)) ggX5_best_X5_has
set_option maxRecDepth 20000 in
theorem ggX5_best_X5_chainOf : GoodIn wsX5_best wsX5_chainOf := goodIn_r _ [48, 16, 49, 50, 51, 52, 53, 54, 55, 56, 57, 58, 59, 60, 61, 62, 63, 64, 65, 66, 67] (by decide +kernel) (by decide +kernel)
set_option maxRecDepth 20000 in
theorem gX5_best_X5_chainOf : GoodIn wsX5_best (wsV RX5 88 RX5 yX5_chainOf wsX5_chainOf) := goodIn_app (goodIn_of _ (by decide +kernel)) ggX5_best_X5_chainOf
theorem dX5_best_0 : decode cX5_best 0 = .ok (.iload_n 1, 1) := by decide +kernel
theorem dX5_best_1 : decode cX5_best 1 = .ok (.iconst 0, 1) := by decide +kernel
theorem dX5_best_2 : decode cX5_best 2 = .ok (.sipush 30000, 3) := by decide +kernel
theorem dX5_best_5 : decode cX5_best 5 = .ok (.invokestatic 55, 3) := by decide +kernel
theorem dX5_best_8 : decode cX5_best 8 = .ok (.ifCond .ne 5, 3) := by decide +kernel
theorem dX5_best_11 : decode cX5_best 11 = .ok (.iconst (-1), 1) := by decide +kernel
theorem dX5_best_12 : decode cX5_best 12 = .ok (.ireturn, 1) := by decide +kernel
theorem dX5_best_13 : decode cX5_best 13 = .ok (.aload_n 0, 1) := by decide +kernel
theorem dX5_best_14 : decode cX5_best 14 = .ok (.getfield 59, 3) := by decide +kernel
theorem dX5_best_17 : decode cX5_best 17 = .ok (.ifCond .ne 6, 3) := by decide +kernel
theorem dX5_best_20 : decode cX5_best 20 = .ok (.bipush (-4), 2) := by decide +kernel
theorem dX5_best_22 : decode cX5_best 22 = .ok (.ireturn, 1) := by decide +kernel
theorem dX5_best_23 : decode cX5_best 23 = .ok (.iconst 0, 1) := by decide +kernel
theorem dX5_best_24 : decode cX5_best 24 = .ok (.istore_n 2, 1) := by decide +kernel
theorem dX5_best_25 : decode cX5_best 25 = .ok (.iconst 0, 1) := by decide +kernel
theorem dX5_best_26 : decode cX5_best 26 = .ok (.istore_n 3, 1) := by decide +kernel
theorem dX5_best_27 : decode cX5_best 27 = .ok (.iload_n 3, 1) := by decide +kernel
theorem dX5_best_28 : decode cX5_best 28 = .ok (.aload_n 0, 1) := by decide +kernel
theorem dX5_best_29 : decode cX5_best 29 = .ok (.getfield 52, 3) := by decide +kernel
theorem dX5_best_32 : decode cX5_best 32 = .ok (.if_icmp .ge 27, 3) := by decide +kernel
theorem dX5_best_35 : decode cX5_best 35 = .ok (.aload_n 0, 1) := by decide +kernel
theorem dX5_best_36 : decode cX5_best 36 = .ok (.iload_n 3, 1) := by decide +kernel
theorem dX5_best_37 : decode cX5_best 37 = .ok (.invokevirtual 124, 3) := by decide +kernel
theorem dX5_best_40 : decode cX5_best 40 = .ok (.ifCond .eq 13, 3) := by decide +kernel
theorem dX5_best_43 : decode cX5_best 43 = .ok (.aload_n 0, 1) := by decide +kernel
theorem dX5_best_44 : decode cX5_best 44 = .ok (.getfield 46, 3) := by decide +kernel
theorem dX5_best_47 : decode cX5_best 47 = .ok (.iload_n 2, 1) := by decide +kernel
theorem dX5_best_48 : decode cX5_best 48 = .ok (.iload_n 3, 1) := by decide +kernel
theorem dX5_best_49 : decode cX5_best 49 = .ok (.iastore, 1) := by decide +kernel
theorem dX5_best_50 : decode cX5_best 50 = .ok (.iinc 2 1, 3) := by decide +kernel
theorem dX5_best_53 : decode cX5_best 53 = .ok (.iinc 3 1, 3) := by decide +kernel
theorem dX5_best_56 : decode cX5_best 56 = .ok (.goto (-29), 3) := by decide +kernel
theorem dX5_best_59 : decode cX5_best 59 = .ok (.iload_n 2, 1) := by decide +kernel
theorem dX5_best_60 : decode cX5_best 60 = .ok (.bipush 12, 2) := by decide +kernel
theorem dX5_best_62 : decode cX5_best 62 = .ok (.if_icmp .le 6, 3) := by decide +kernel
theorem dX5_best_65 : decode cX5_best 65 = .ok (.bipush (-6), 2) := by decide +kernel
theorem dX5_best_67 : decode cX5_best 67 = .ok (.ireturn, 1) := by decide +kernel
theorem dX5_best_68 : decode cX5_best 68 = .ok (.iconst 0, 1) := by decide +kernel
theorem dX5_best_69 : decode cX5_best 69 = .ok (.istore_n 3, 1) := by decide +kernel
theorem dX5_best_70 : decode cX5_best 70 = .ok (.iconst 0, 1) := by decide +kernel
theorem dX5_best_71 : decode cX5_best 71 = .ok (.istore 4, 2) := by decide +kernel
theorem dX5_best_73 : decode cX5_best 73 = .ok (.iconst 0, 1) := by decide +kernel
theorem dX5_best_74 : decode cX5_best 74 = .ok (.istore 5, 2) := by decide +kernel
theorem dX5_best_76 : decode cX5_best 76 = .ok (.iconst 1, 1) := by decide +kernel
theorem dX5_best_77 : decode cX5_best 77 = .ok (.istore 6, 2) := by decide +kernel
theorem dX5_best_79 : decode cX5_best 79 = .ok (.iload 6, 2) := by decide +kernel
theorem dX5_best_81 : decode cX5_best 81 = .ok (.iconst 1, 1) := by decide +kernel
theorem dX5_best_82 : decode cX5_best 82 = .ok (.iload_n 2, 1) := by decide +kernel
theorem dX5_best_83 : decode cX5_best 83 = .ok (.ishl, 1) := by decide +kernel
theorem dX5_best_84 : decode cX5_best 84 = .ok (.if_icmp .ge 153, 3) := by decide +kernel
theorem dX5_best_87 : decode cX5_best 87 = .ok (.aload_n 0, 1) := by decide +kernel
theorem dX5_best_88 : decode cX5_best 88 = .ok (.iload 6, 2) := by decide +kernel
theorem dX5_best_90 : decode cX5_best 90 = .ok (.iload_n 2, 1) := by decide +kernel
theorem dX5_best_91 : decode cX5_best 91 = .ok (.invokevirtual 140, 3) := by decide +kernel
theorem dX5_best_94 : decode cX5_best 94 = .ok (.istore 7, 2) := by decide +kernel
theorem dX5_best_96 : decode cX5_best 96 = .ok (.aload_n 0, 1) := by decide +kernel
theorem dX5_best_97 : decode cX5_best 97 = .ok (.iload 7, 2) := by decide +kernel
theorem dX5_best_99 : decode cX5_best 99 = .ok (.invokevirtual 119, 3) := by decide +kernel
theorem dX5_best_102 : decode cX5_best 102 = .ok (.aload_n 0, 1) := by decide +kernel
theorem dX5_best_103 : decode cX5_best 103 = .ok (.getfield 29, 3) := by decide +kernel
theorem dX5_best_106 : decode cX5_best 106 = .ok (.aload_n 0, 1) := by decide +kernel
theorem dX5_best_107 : decode cX5_best 107 = .ok (.getfield 59, 3) := by decide +kernel
theorem dX5_best_110 : decode cX5_best 110 = .ok (.iconst 1, 1) := by decide +kernel
theorem dX5_best_111 : decode cX5_best 111 = .ok (.isub, 1) := by decide +kernel
theorem dX5_best_112 : decode cX5_best 112 = .ok (.laload, 1) := by decide +kernel
theorem dX5_best_113 : decode cX5_best 113 = .ok (.land, 1) := by decide +kernel
theorem dX5_best_114 : decode cX5_best 114 = .ok (.invokestatic 91, 3) := by decide +kernel
theorem dX5_best_117 : decode cX5_best 117 = .ok (.istore 8, 2) := by decide +kernel
theorem dX5_best_119 : decode cX5_best 119 = .ok (.aload_n 0, 1) := by decide +kernel
theorem dX5_best_120 : decode cX5_best 120 = .ok (.iload 7, 2) := by decide +kernel
theorem dX5_best_122 : decode cX5_best 122 = .ok (.invokevirtual 127, 3) := by decide +kernel
theorem dX5_best_125 : decode cX5_best 125 = .ok (.istore 9, 2) := by decide +kernel
theorem dX5_best_127 : decode cX5_best 127 = .ok (.iload 9, 2) := by decide +kernel
theorem dX5_best_129 : decode cX5_best 129 = .ok (.iload_n 1, 1) := by decide +kernel
theorem dX5_best_130 : decode cX5_best 130 = .ok (.if_icmp .gt 7, 3) := by decide +kernel
theorem dX5_best_133 : decode cX5_best 133 = .ok (.iconst 1, 1) := by decide +kernel
theorem dX5_best_134 : decode cX5_best 134 = .ok (.goto 4, 3) := by decide +kernel
theorem dX5_best_137 : decode cX5_best 137 = .ok (.iconst 0, 1) := by decide +kernel
theorem dX5_best_138 : decode cX5_best 138 = .ok (.istore 10, 2) := by decide +kernel
theorem dX5_best_140 : decode cX5_best 140 = .ok (.iconst 0, 1) := by decide +kernel
theorem dX5_best_141 : decode cX5_best 141 = .ok (.istore 11, 2) := by decide +kernel
theorem dX5_best_143 : decode cX5_best 143 = .ok (.iload 11, 2) := by decide +kernel
theorem dX5_best_145 : decode cX5_best 145 = .ok (.aload_n 0, 1) := by decide +kernel
theorem dX5_best_146 : decode cX5_best 146 = .ok (.getfield 52, 3) := by decide +kernel
theorem dX5_best_149 : decode cX5_best 149 = .ok (.if_icmp .ge 45, 3) := by decide +kernel
theorem dX5_best_152 : decode cX5_best 152 = .ok (.iload 10, 2) := by decide +kernel
theorem dX5_best_154 : decode cX5_best 154 = .ok (.ifCond .eq 40, 3) := by decide +kernel
theorem dX5_best_157 : decode cX5_best 157 = .ok (.iload 7, 2) := by decide +kernel
theorem dX5_best_159 : decode cX5_best 159 = .ok (.iload 11, 2) := by decide +kernel
theorem dX5_best_161 : decode cX5_best 161 = .ok (.invokestatic 112, 3) := by decide +kernel
theorem dX5_best_164 : decode cX5_best 164 = .ok (.ifCond .eq 17, 3) := by decide +kernel
theorem dX5_best_167 : decode cX5_best 167 = .ok (.aload_n 0, 1) := by decide +kernel
theorem dX5_best_168 : decode cX5_best 168 = .ok (.iload 11, 2) := by decide +kernel
theorem dX5_best_170 : decode cX5_best 170 = .ok (.invokevirtual 88, 3) := by decide +kernel
theorem dX5_best_173 : decode cX5_best 173 = .ok (.iload 7, 2) := by decide +kernel
theorem dX5_best_175 : decode cX5_best 175 = .ok (.iconst (-1), 1) := by decide +kernel
theorem dX5_best_176 : decode cX5_best 176 = .ok (.ixor, 1) := by decide +kernel
theorem dX5_best_177 : decode cX5_best 177 = .ok (.iand, 1) := by decide +kernel
theorem dX5_best_178 : decode cX5_best 178 = .ok (.ifCond .ne 7, 3) := by decide +kernel
theorem dX5_best_181 : decode cX5_best 181 = .ok (.iconst 1, 1) := by decide +kernel
theorem dX5_best_182 : decode cX5_best 182 = .ok (.goto 4, 3) := by decide +kernel
theorem dX5_best_185 : decode cX5_best 185 = .ok (.iconst 0, 1) := by decide +kernel
theorem dX5_best_186 : decode cX5_best 186 = .ok (.istore 10, 2) := by decide +kernel
theorem dX5_best_188 : decode cX5_best 188 = .ok (.iinc 11 1, 3) := by decide +kernel
theorem dX5_best_191 : decode cX5_best 191 = .ok (.goto (-48), 3) := by decide +kernel
theorem dX5_best_194 : decode cX5_best 194 = .ok (.iload 10, 2) := by decide +kernel
theorem dX5_best_196 : decode cX5_best 196 = .ok (.ifCond .eq 35, 3) := by decide +kernel
theorem dX5_best_199 : decode cX5_best 199 = .ok (.iload 8, 2) := by decide +kernel
theorem dX5_best_201 : decode cX5_best 201 = .ok (.iload 4, 2) := by decide +kernel
theorem dX5_best_203 : decode cX5_best 203 = .ok (.if_icmp .gt 17, 3) := by decide +kernel
theorem dX5_best_206 : decode cX5_best 206 = .ok (.iload 8, 2) := by decide +kernel
theorem dX5_best_208 : decode cX5_best 208 = .ok (.iload 4, 2) := by decide +kernel
theorem dX5_best_210 : decode cX5_best 210 = .ok (.if_icmp .ne 21, 3) := by decide +kernel
theorem dX5_best_213 : decode cX5_best 213 = .ok (.iload 9, 2) := by decide +kernel
theorem dX5_best_215 : decode cX5_best 215 = .ok (.iload 5, 2) := by decide +kernel
theorem dX5_best_217 : decode cX5_best 217 = .ok (.if_icmp .ge 14, 3) := by decide +kernel
theorem dX5_best_220 : decode cX5_best 220 = .ok (.iload 7, 2) := by decide +kernel
theorem dX5_best_222 : decode cX5_best 222 = .ok (.istore_n 3, 1) := by decide +kernel
theorem dX5_best_223 : decode cX5_best 223 = .ok (.iload 8, 2) := by decide +kernel
theorem dX5_best_225 : decode cX5_best 225 = .ok (.istore 4, 2) := by decide +kernel
theorem dX5_best_227 : decode cX5_best 227 = .ok (.iload 9, 2) := by decide +kernel
theorem dX5_best_229 : decode cX5_best 229 = .ok (.istore 5, 2) := by decide +kernel
theorem dX5_best_231 : decode cX5_best 231 = .ok (.iinc 6 1, 3) := by decide +kernel
theorem dX5_best_234 : decode cX5_best 234 = .ok (.goto (-155), 3) := by decide +kernel
theorem dX5_best_237 : decode cX5_best 237 = .ok (.aload_n 0, 1) := by decide +kernel
theorem dX5_best_238 : decode cX5_best 238 = .ok (.iload_n 3, 1) := by decide +kernel
theorem dX5_best_239 : decode cX5_best 239 = .ok (.i2l, 1) := by decide +kernel
theorem dX5_best_240 : decode cX5_best 240 = .ok (.putfield 108, 3) := by decide +kernel
theorem dX5_best_243 : decode cX5_best 243 = .ok (.iload 4, 2) := by decide +kernel
theorem dX5_best_245 : decode cX5_best 245 = .ok (.ireturn, 1) := by decide +kernel
theorem dX5_areTests_0 : decode cX5_areTests 0 = .ok (.iload_n 1, 1) := by decide +kernel
theorem dX5_areTests_1 : decode cX5_areTests 1 = .ok (.ifCond .lt 16, 3) := by decide +kernel
theorem dX5_areTests_4 : decode cX5_areTests 4 = .ok (.iload_n 1, 1) := by decide +kernel
theorem dX5_areTests_5 : decode cX5_areTests 5 = .ok (.aload_n 0, 1) := by decide +kernel
theorem dX5_areTests_6 : decode cX5_areTests 6 = .ok (.getfield 52, 3) := by decide +kernel
theorem dX5_areTests_9 : decode cX5_areTests 9 = .ok (.ishr, 1) := by decide +kernel
theorem dX5_areTests_10 : decode cX5_areTests 10 = .ok (.ifCond .ne 7, 3) := by decide +kernel
theorem dX5_areTests_13 : decode cX5_areTests 13 = .ok (.iconst 1, 1) := by decide +kernel
theorem dX5_areTests_14 : decode cX5_areTests 14 = .ok (.goto 4, 3) := by decide +kernel
theorem dX5_areTests_17 : decode cX5_areTests 17 = .ok (.iconst 0, 1) := by decide +kernel
theorem dX5_areTests_18 : decode cX5_areTests 18 = .ok (.ireturn, 1) := by decide +kernel
set_option maxRecDepth 20000 in
theorem ggX5_run_X5_areTests : GoodIn wsX5_run wsX5_areTests := goodIn_r _ [7, 8, 23, 24, 25, 26, 27, 28, 29, 30, 31, 32, 33, 34, 35, 36, 37, 38, 39, 40, 41] (by decide +kernel) (by decide +kernel)
set_option maxRecDepth 20000 in
theorem gX5_run_X5_areTests : GoodIn wsX5_run (wsV RX5 143 RX5 yX5_areTests wsX5_areTests) := goodIn_app (goodIn_of _ (by decide +kernel)) ggX5_run_X5_areTests
set_option maxRecDepth 20000 in
theorem ggX5_run_X5_chainOf : GoodIn wsX5_run wsX5_chainOf := goodIn_r _ [12, 13, 23, 24, 25, 26, 27, 28, 29, 30, 31, 32, 33, 34, 35, 36, 37, 38, 39, 40, 41] (by decide +kernel) (by decide +kernel)
set_option maxRecDepth 20000 in
theorem gX5_run_X5_chainOf : GoodIn wsX5_run (wsV RX5 88 RX5 yX5_chainOf wsX5_chainOf) := goodIn_app (goodIn_of _ (by decide +kernel)) ggX5_run_X5_chainOf
set_option maxRecDepth 20000 in
theorem ggX5_run_X5_has : GoodIn wsX5_run wsX5_has := goodIn_r _ [16] (by decide +kernel) (by decide +kernel)
set_option maxRecDepth 20000 in
theorem gX5_run_X5_has : GoodIn wsX5_run (va_wsS RX5 112 yX5_has wsX5_has) := goodIn_app (goodIn_of _ (by decide +kernel)) ggX5_run_X5_has
set_option maxRecDepth 20000 in
theorem ggX5_run_X5_judge : GoodIn wsX5_run wsX5_judge := goodIn_r _ [20, 21, 22, 23, 24, 25, 26, 27, 28, 29, 30, 31, 32, 33, 34, 35, 36, 37, 38, 39, 40, 41] (by decide +kernel) (by decide +kernel)
set_option maxRecDepth 20000 in
theorem gX5_run_X5_judge : GoodIn wsX5_run (wsV RX5 101 RX5 yX5_judge wsX5_judge) := goodIn_app (goodIn_of _ (by decide +kernel)) ggX5_run_X5_judge
theorem dX5_run_0 : decode cX5_run 0 = .ok (.aload_n 0, 1) := by decide +kernel
theorem dX5_run_1 : decode cX5_run 1 = .ok (.iload_n 1, 1) := by decide +kernel
theorem dX5_run_2 : decode cX5_run 2 = .ok (.invokevirtual 143, 3) := by decide +kernel
theorem dX5_run_5 : decode cX5_run 5 = .ok (.ifCond .ne 5, 3) := by decide +kernel
theorem dX5_run_8 : decode cX5_run 8 = .ok (.iconst (-1), 1) := by decide +kernel
theorem dX5_run_9 : decode cX5_run 9 = .ok (.ireturn, 1) := by decide +kernel
theorem dX5_run_10 : decode cX5_run 10 = .ok (.aload_n 0, 1) := by decide +kernel
theorem dX5_run_11 : decode cX5_run 11 = .ok (.getfield 39, 3) := by decide +kernel
theorem dX5_run_14 : decode cX5_run 14 = .ok (.ifCond .ge 6, 3) := by decide +kernel
theorem dX5_run_17 : decode cX5_run 17 = .ok (.bipush (-4), 2) := by decide +kernel
theorem dX5_run_19 : decode cX5_run 19 = .ok (.ireturn, 1) := by decide +kernel
theorem dX5_run_20 : decode cX5_run 20 = .ok (.iconst 0, 1) := by decide +kernel
theorem dX5_run_21 : decode cX5_run 21 = .ok (.istore_n 2, 1) := by decide +kernel
theorem dX5_run_22 : decode cX5_run 22 = .ok (.iconst 0, 1) := by decide +kernel
theorem dX5_run_23 : decode cX5_run 23 = .ok (.istore_n 3, 1) := by decide +kernel
theorem dX5_run_24 : decode cX5_run 24 = .ok (.iconst 0, 1) := by decide +kernel
theorem dX5_run_25 : decode cX5_run 25 = .ok (.istore 4, 2) := by decide +kernel
theorem dX5_run_27 : decode cX5_run 27 = .ok (.iload 4, 2) := by decide +kernel
theorem dX5_run_29 : decode cX5_run 29 = .ok (.aload_n 0, 1) := by decide +kernel
theorem dX5_run_30 : decode cX5_run 30 = .ok (.getfield 39, 3) := by decide +kernel
theorem dX5_run_33 : decode cX5_run 33 = .ok (.if_icmp .ge 66, 3) := by decide +kernel
theorem dX5_run_36 : decode cX5_run 36 = .ok (.aload_n 0, 1) := by decide +kernel
theorem dX5_run_37 : decode cX5_run 37 = .ok (.getfield 43, 3) := by decide +kernel
theorem dX5_run_40 : decode cX5_run 40 = .ok (.iload 4, 2) := by decide +kernel
theorem dX5_run_42 : decode cX5_run 42 = .ok (.iaload, 1) := by decide +kernel
theorem dX5_run_43 : decode cX5_run 43 = .ok (.istore 5, 2) := by decide +kernel
theorem dX5_run_45 : decode cX5_run 45 = .ok (.aload_n 0, 1) := by decide +kernel
theorem dX5_run_46 : decode cX5_run 46 = .ok (.iload 5, 2) := by decide +kernel
theorem dX5_run_48 : decode cX5_run 48 = .ok (.invokevirtual 88, 3) := by decide +kernel
theorem dX5_run_51 : decode cX5_run 51 = .ok (.iload_n 2, 1) := by decide +kernel
theorem dX5_run_52 : decode cX5_run 52 = .ok (.iand, 1) := by decide +kernel
theorem dX5_run_53 : decode cX5_run 53 = .ok (.ifCond .ne 40, 3) := by decide +kernel
theorem dX5_run_56 : decode cX5_run 56 = .ok (.aload_n 0, 1) := by decide +kernel
theorem dX5_run_57 : decode cX5_run 57 = .ok (.iload 5, 2) := by decide +kernel
theorem dX5_run_59 : decode cX5_run 59 = .ok (.iload_n 1, 1) := by decide +kernel
theorem dX5_run_60 : decode cX5_run 60 = .ok (.iload 5, 2) := by decide +kernel
theorem dX5_run_62 : decode cX5_run 62 = .ok (.invokestatic 112, 3) := by decide +kernel
theorem dX5_run_65 : decode cX5_run 65 = .ok (.invokevirtual 101, 3) := by decide +kernel
theorem dX5_run_68 : decode cX5_run 68 = .ok (.istore 6, 2) := by decide +kernel
theorem dX5_run_70 : decode cX5_run 70 = .ok (.iload_n 2, 1) := by decide +kernel
theorem dX5_run_71 : decode cX5_run 71 = .ok (.iload_n 1, 1) := by decide +kernel
theorem dX5_run_72 : decode cX5_run 72 = .ok (.iload 5, 2) := by decide +kernel
theorem dX5_run_74 : decode cX5_run 74 = .ok (.invokestatic 112, 3) := by decide +kernel
theorem dX5_run_77 : decode cX5_run 77 = .ok (.ifCond .eq 10, 3) := by decide +kernel
theorem dX5_run_80 : decode cX5_run 80 = .ok (.iconst 1, 1) := by decide +kernel
theorem dX5_run_81 : decode cX5_run 81 = .ok (.iload 5, 2) := by decide +kernel
theorem dX5_run_83 : decode cX5_run 83 = .ok (.ishl, 1) := by decide +kernel
theorem dX5_run_84 : decode cX5_run 84 = .ok (.goto 4, 3) := by decide +kernel
theorem dX5_run_87 : decode cX5_run 87 = .ok (.iconst 0, 1) := by decide +kernel
theorem dX5_run_88 : decode cX5_run 88 = .ok (.ior, 1) := by decide +kernel
theorem dX5_run_89 : decode cX5_run 89 = .ok (.istore_n 2, 1) := by decide +kernel
theorem dX5_run_90 : decode cX5_run 90 = .ok (.iinc 3 1, 3) := by decide +kernel
theorem dX5_run_93 : decode cX5_run 93 = .ok (.iinc 4 1, 3) := by decide +kernel
theorem dX5_run_96 : decode cX5_run 96 = .ok (.goto (-69), 3) := by decide +kernel
theorem dX5_run_99 : decode cX5_run 99 = .ok (.iload_n 3, 1) := by decide +kernel
theorem dX5_run_100 : decode cX5_run 100 = .ok (.ireturn, 1) := by decide +kernel
set_option maxRecDepth 20000 in
theorem ggX5_suspects_X5_isFlaky : GoodIn wsX5_suspects wsX5_isFlaky := goodIn_r _ [11, 1, 4, 3, 12, 13, 14, 10, 15, 16, 17, 21, 22, 23, 24, 25, 26, 27, 28, 29, 30, 31, 32, 33, 34, 35, 36, 37, 38, 39] (by decide +kernel) (by decide +kernel)
set_option maxRecDepth 20000 in
theorem gX5_suspects_X5_isFlaky : GoodIn wsX5_suspects (wsV RX5 76 RX5 yX5_isFlaky wsX5_isFlaky) := goodIn_app (goodIn_of _ (by decide +kernel)) ggX5_suspects_X5_isFlaky
set_option maxRecDepth 20000 in
theorem ggX5_suspects_X5_reachOf : GoodIn wsX5_suspects wsX5_reachOf := goodIn_r _ [15, 16, 17, 21, 22, 23, 24, 25, 26, 27, 28, 29, 30, 31, 32, 33, 34, 35, 36, 37, 38, 39] (by decide +kernel) (by decide +kernel)
set_option maxRecDepth 20000 in
theorem gX5_suspects_X5_reachOf : GoodIn wsX5_suspects (wsV RX5 72 RX5 yX5_reachOf wsX5_reachOf) := goodIn_app (goodIn_of _ (by decide +kernel)) ggX5_suspects_X5_reachOf
set_option maxRecDepth 20000 in
theorem ggX5_suspects_X5_bits : GoodIn wsX5_suspects wsX5_bits := goodIn_r _ [20] (by decide +kernel) (by decide +kernel)
set_option maxRecDepth 20000 in
theorem gX5_suspects_X5_bits : GoodIn wsX5_suspects (va_wsS RX5 91 yX5_bits wsX5_bits) := goodIn_app (goodIn_of _ (by decide +kernel)) ggX5_suspects_X5_bits
theorem dX5_suspects_0 : decode cX5_suspects 0 = .ok (.aload_n 0, 1) := by decide +kernel
theorem dX5_suspects_1 : decode cX5_suspects 1 = .ok (.getfield 59, 3) := by decide +kernel
theorem dX5_suspects_4 : decode cX5_suspects 4 = .ok (.ifCond .ne 6, 3) := by decide +kernel
theorem dX5_suspects_7 : decode cX5_suspects 7 = .ok (.bipush (-4), 2) := by decide +kernel
theorem dX5_suspects_9 : decode cX5_suspects 9 = .ok (.ireturn, 1) := by decide +kernel
theorem dX5_suspects_10 : decode cX5_suspects 10 = .ok (.lconst 0, 1) := by decide +kernel
theorem dX5_suspects_11 : decode cX5_suspects 11 = .ok (.lstore_n 1, 1) := by decide +kernel
theorem dX5_suspects_12 : decode cX5_suspects 12 = .ok (.lconst 0, 1) := by decide +kernel
theorem dX5_suspects_13 : decode cX5_suspects 13 = .ok (.lstore_n 3, 1) := by decide +kernel
theorem dX5_suspects_14 : decode cX5_suspects 14 = .ok (.iconst 0, 1) := by decide +kernel
theorem dX5_suspects_15 : decode cX5_suspects 15 = .ok (.istore 5, 2) := by decide +kernel
theorem dX5_suspects_17 : decode cX5_suspects 17 = .ok (.iload 5, 2) := by decide +kernel
theorem dX5_suspects_19 : decode cX5_suspects 19 = .ok (.aload_n 0, 1) := by decide +kernel
theorem dX5_suspects_20 : decode cX5_suspects 20 = .ok (.getfield 52, 3) := by decide +kernel
theorem dX5_suspects_23 : decode cX5_suspects 23 = .ok (.if_icmp .ge 74, 3) := by decide +kernel
theorem dX5_suspects_26 : decode cX5_suspects 26 = .ok (.aload_n 0, 1) := by decide +kernel
theorem dX5_suspects_27 : decode cX5_suspects 27 = .ok (.getfield 33, 3) := by decide +kernel
theorem dX5_suspects_30 : decode cX5_suspects 30 = .ok (.bipush 20, 2) := by decide +kernel
theorem dX5_suspects_32 : decode cX5_suspects 32 = .ok (.aload_n 0, 1) := by decide +kernel
theorem dX5_suspects_33 : decode cX5_suspects 33 = .ok (.getfield 59, 3) := by decide +kernel
theorem dX5_suspects_36 : decode cX5_suspects 36 = .ok (.iconst 1, 1) := by decide +kernel
theorem dX5_suspects_37 : decode cX5_suspects 37 = .ok (.isub, 1) := by decide +kernel
theorem dX5_suspects_38 : decode cX5_suspects 38 = .ok (.imul, 1) := by decide +kernel
theorem dX5_suspects_39 : decode cX5_suspects 39 = .ok (.iload 5, 2) := by decide +kernel
theorem dX5_suspects_41 : decode cX5_suspects 41 = .ok (.iadd, 1) := by decide +kernel
theorem dX5_suspects_42 : decode cX5_suspects 42 = .ok (.iaload, 1) := by decide +kernel
theorem dX5_suspects_43 : decode cX5_suspects 43 = .ok (.istore 6, 2) := by decide +kernel
theorem dX5_suspects_45 : decode cX5_suspects 45 = .ok (.lload_n 1, 1) := by decide +kernel
theorem dX5_suspects_46 : decode cX5_suspects 46 = .ok (.iload 6, 2) := by decide +kernel
theorem dX5_suspects_48 : decode cX5_suspects 48 = .ok (.iconst 1, 1) := by decide +kernel
theorem dX5_suspects_49 : decode cX5_suspects 49 = .ok (.if_icmp .ne 21, 3) := by decide +kernel
theorem dX5_suspects_52 : decode cX5_suspects 52 = .ok (.aload_n 0, 1) := by decide +kernel
theorem dX5_suspects_53 : decode cX5_suspects 53 = .ok (.iload 5, 2) := by decide +kernel
theorem dX5_suspects_55 : decode cX5_suspects 55 = .ok (.invokevirtual 76, 3) := by decide +kernel
theorem dX5_suspects_58 : decode cX5_suspects 58 = .ok (.ifCond .ne 12, 3) := by decide +kernel
theorem dX5_suspects_61 : decode cX5_suspects 61 = .ok (.aload_n 0, 1) := by decide +kernel
theorem dX5_suspects_62 : decode cX5_suspects 62 = .ok (.iload 5, 2) := by decide +kernel
theorem dX5_suspects_64 : decode cX5_suspects 64 = .ok (.invokevirtual 72, 3) := by decide +kernel
theorem dX5_suspects_67 : decode cX5_suspects 67 = .ok (.goto 4, 3) := by decide +kernel
theorem dX5_suspects_70 : decode cX5_suspects 70 = .ok (.lconst 0, 1) := by decide +kernel
theorem dX5_suspects_71 : decode cX5_suspects 71 = .ok (.lor, 1) := by decide +kernel
theorem dX5_suspects_72 : decode cX5_suspects 72 = .ok (.lstore_n 1, 1) := by decide +kernel
theorem dX5_suspects_73 : decode cX5_suspects 73 = .ok (.lload_n 3, 1) := by decide +kernel
theorem dX5_suspects_74 : decode cX5_suspects 74 = .ok (.iload 6, 2) := by decide +kernel
theorem dX5_suspects_76 : decode cX5_suspects 76 = .ok (.ifCond .ne 12, 3) := by decide +kernel
theorem dX5_suspects_79 : decode cX5_suspects 79 = .ok (.aload_n 0, 1) := by decide +kernel
theorem dX5_suspects_80 : decode cX5_suspects 80 = .ok (.iload 5, 2) := by decide +kernel
theorem dX5_suspects_82 : decode cX5_suspects 82 = .ok (.invokevirtual 72, 3) := by decide +kernel
theorem dX5_suspects_85 : decode cX5_suspects 85 = .ok (.goto 4, 3) := by decide +kernel
theorem dX5_suspects_88 : decode cX5_suspects 88 = .ok (.lconst 0, 1) := by decide +kernel
theorem dX5_suspects_89 : decode cX5_suspects 89 = .ok (.lor, 1) := by decide +kernel
theorem dX5_suspects_90 : decode cX5_suspects 90 = .ok (.lstore_n 3, 1) := by decide +kernel
theorem dX5_suspects_91 : decode cX5_suspects 91 = .ok (.iinc 5 1, 3) := by decide +kernel
theorem dX5_suspects_94 : decode cX5_suspects 94 = .ok (.goto (-77), 3) := by decide +kernel
theorem dX5_suspects_97 : decode cX5_suspects 97 = .ok (.aload_n 0, 1) := by decide +kernel
theorem dX5_suspects_98 : decode cX5_suspects 98 = .ok (.aload_n 0, 1) := by decide +kernel
theorem dX5_suspects_99 : decode cX5_suspects 99 = .ok (.getfield 29, 3) := by decide +kernel
theorem dX5_suspects_102 : decode cX5_suspects 102 = .ok (.aload_n 0, 1) := by decide +kernel
theorem dX5_suspects_103 : decode cX5_suspects 103 = .ok (.getfield 59, 3) := by decide +kernel
theorem dX5_suspects_106 : decode cX5_suspects 106 = .ok (.iconst 1, 1) := by decide +kernel
theorem dX5_suspects_107 : decode cX5_suspects 107 = .ok (.isub, 1) := by decide +kernel
theorem dX5_suspects_108 : decode cX5_suspects 108 = .ok (.laload, 1) := by decide +kernel
theorem dX5_suspects_109 : decode cX5_suspects 109 = .ok (.lload_n 1, 1) := by decide +kernel
theorem dX5_suspects_110 : decode cX5_suspects 110 = .ok (.land, 1) := by decide +kernel
theorem dX5_suspects_111 : decode cX5_suspects 111 = .ok (.lload_n 3, 1) := by decide +kernel
theorem dX5_suspects_112 : decode cX5_suspects 112 = .ok (.ldc2_w 122, 3) := by decide +kernel
theorem dX5_suspects_115 : decode cX5_suspects 115 = .ok (.lxor, 1) := by decide +kernel
theorem dX5_suspects_116 : decode cX5_suspects 116 = .ok (.land, 1) := by decide +kernel
theorem dX5_suspects_117 : decode cX5_suspects 117 = .ok (.putfield 108, 3) := by decide +kernel
theorem dX5_suspects_120 : decode cX5_suspects 120 = .ok (.aload_n 0, 1) := by decide +kernel
theorem dX5_suspects_121 : decode cX5_suspects 121 = .ok (.getfield 108, 3) := by decide +kernel
theorem dX5_suspects_124 : decode cX5_suspects 124 = .ok (.invokestatic 91, 3) := by decide +kernel
theorem dX5_suspects_127 : decode cX5_suspects 127 = .ok (.ireturn, 1) := by decide +kernel
set_option maxRecDepth 20000 in
theorem ggX5_badWork_X5_isFlaky : GoodIn wsX5_badWork wsX5_isFlaky := goodIn_r _ [8, 1, 9, 3, 10, 11, 12, 7, 13, 14, 15, 16, 17, 18, 19, 20, 21, 22, 23, 24, 25, 26, 27, 28, 29, 30, 31, 32, 33, 34] (by decide +kernel) (by decide +kernel)
set_option maxRecDepth 20000 in
theorem gX5_badWork_X5_isFlaky : GoodIn wsX5_badWork (wsV RX5 76 RX5 yX5_isFlaky wsX5_isFlaky) := goodIn_app (goodIn_of _ (by decide +kernel)) ggX5_badWork_X5_isFlaky
theorem dX5_badWork_0 : decode cX5_badWork 0 = .ok (.aload_n 0, 1) := by decide +kernel
theorem dX5_badWork_1 : decode cX5_badWork 1 = .ok (.getfield 59, 3) := by decide +kernel
theorem dX5_badWork_4 : decode cX5_badWork 4 = .ok (.ifCond .ne 6, 3) := by decide +kernel
theorem dX5_badWork_7 : decode cX5_badWork 7 = .ok (.bipush (-4), 2) := by decide +kernel
theorem dX5_badWork_9 : decode cX5_badWork 9 = .ok (.ireturn, 1) := by decide +kernel
theorem dX5_badWork_10 : decode cX5_badWork 10 = .ok (.iconst 0, 1) := by decide +kernel
theorem dX5_badWork_11 : decode cX5_badWork 11 = .ok (.istore_n 1, 1) := by decide +kernel
theorem dX5_badWork_12 : decode cX5_badWork 12 = .ok (.iconst 0, 1) := by decide +kernel
theorem dX5_badWork_13 : decode cX5_badWork 13 = .ok (.istore_n 2, 1) := by decide +kernel
theorem dX5_badWork_14 : decode cX5_badWork 14 = .ok (.iload_n 2, 1) := by decide +kernel
theorem dX5_badWork_15 : decode cX5_badWork 15 = .ok (.aload_n 0, 1) := by decide +kernel
theorem dX5_badWork_16 : decode cX5_badWork 16 = .ok (.getfield 52, 3) := by decide +kernel
theorem dX5_badWork_19 : decode cX5_badWork 19 = .ok (.if_icmp .ge 47, 3) := by decide +kernel
theorem dX5_badWork_22 : decode cX5_badWork 22 = .ok (.iload_n 1, 1) := by decide +kernel
theorem dX5_badWork_23 : decode cX5_badWork 23 = .ok (.ifCond .ne 31, 3) := by decide +kernel
theorem dX5_badWork_26 : decode cX5_badWork 26 = .ok (.aload_n 0, 1) := by decide +kernel
theorem dX5_badWork_27 : decode cX5_badWork 27 = .ok (.getfield 33, 3) := by decide +kernel
theorem dX5_badWork_30 : decode cX5_badWork 30 = .ok (.bipush 20, 2) := by decide +kernel
theorem dX5_badWork_32 : decode cX5_badWork 32 = .ok (.aload_n 0, 1) := by decide +kernel
theorem dX5_badWork_33 : decode cX5_badWork 33 = .ok (.getfield 59, 3) := by decide +kernel
theorem dX5_badWork_36 : decode cX5_badWork 36 = .ok (.iconst 1, 1) := by decide +kernel
theorem dX5_badWork_37 : decode cX5_badWork 37 = .ok (.isub, 1) := by decide +kernel
theorem dX5_badWork_38 : decode cX5_badWork 38 = .ok (.imul, 1) := by decide +kernel
theorem dX5_badWork_39 : decode cX5_badWork 39 = .ok (.iload_n 2, 1) := by decide +kernel
theorem dX5_badWork_40 : decode cX5_badWork 40 = .ok (.iadd, 1) := by decide +kernel
theorem dX5_badWork_41 : decode cX5_badWork 41 = .ok (.iaload, 1) := by decide +kernel
theorem dX5_badWork_42 : decode cX5_badWork 42 = .ok (.iconst 1, 1) := by decide +kernel
theorem dX5_badWork_43 : decode cX5_badWork 43 = .ok (.if_icmp .ne 15, 3) := by decide +kernel
theorem dX5_badWork_46 : decode cX5_badWork 46 = .ok (.aload_n 0, 1) := by decide +kernel
theorem dX5_badWork_47 : decode cX5_badWork 47 = .ok (.iload_n 2, 1) := by decide +kernel
theorem dX5_badWork_48 : decode cX5_badWork 48 = .ok (.invokevirtual 76, 3) := by decide +kernel
theorem dX5_badWork_51 : decode cX5_badWork 51 = .ok (.ifCond .ne 7, 3) := by decide +kernel
theorem dX5_badWork_54 : decode cX5_badWork 54 = .ok (.iconst 1, 1) := by decide +kernel
theorem dX5_badWork_55 : decode cX5_badWork 55 = .ok (.goto 4, 3) := by decide +kernel
theorem dX5_badWork_58 : decode cX5_badWork 58 = .ok (.iconst 0, 1) := by decide +kernel
theorem dX5_badWork_59 : decode cX5_badWork 59 = .ok (.istore_n 1, 1) := by decide +kernel
theorem dX5_badWork_60 : decode cX5_badWork 60 = .ok (.iinc 2 1, 3) := by decide +kernel
theorem dX5_badWork_63 : decode cX5_badWork 63 = .ok (.goto (-49), 3) := by decide +kernel
theorem dX5_badWork_66 : decode cX5_badWork 66 = .ok (.iload_n 1, 1) := by decide +kernel
theorem dX5_badWork_67 : decode cX5_badWork 67 = .ok (.ifCond .eq 7, 3) := by decide +kernel
theorem dX5_badWork_70 : decode cX5_badWork 70 = .ok (.iconst 1, 1) := by decide +kernel
theorem dX5_badWork_71 : decode cX5_badWork 71 = .ok (.goto 4, 3) := by decide +kernel
theorem dX5_badWork_74 : decode cX5_badWork 74 = .ok (.iconst 0, 1) := by decide +kernel
theorem dX5_badWork_75 : decode cX5_badWork 75 = .ok (.ireturn, 1) := by decide +kernel
set_option maxRecDepth 20000 in
theorem ggX5_fellOf_X5_has : GoodIn wsX5_fellOf wsX5_has := goodIn_r _ [6] (by decide +kernel) (by decide +kernel)
set_option maxRecDepth 20000 in
theorem gX5_fellOf_X5_has : GoodIn wsX5_fellOf (va_wsS RX5 112 yX5_has wsX5_has) := goodIn_app (goodIn_of _ (by decide +kernel)) ggX5_fellOf_X5_has
theorem dX5_fellOf_0 : decode cX5_fellOf 0 = .ok (.iconst 0, 1) := by decide +kernel
theorem dX5_fellOf_1 : decode cX5_fellOf 1 = .ok (.istore_n 3, 1) := by decide +kernel
theorem dX5_fellOf_2 : decode cX5_fellOf 2 = .ok (.iconst 0, 1) := by decide +kernel
theorem dX5_fellOf_3 : decode cX5_fellOf 3 = .ok (.istore 4, 2) := by decide +kernel
theorem dX5_fellOf_5 : decode cX5_fellOf 5 = .ok (.iload 4, 2) := by decide +kernel
theorem dX5_fellOf_7 : decode cX5_fellOf 7 = .ok (.aload_n 0, 1) := by decide +kernel
theorem dX5_fellOf_8 : decode cX5_fellOf 8 = .ok (.getfield 52, 3) := by decide +kernel
theorem dX5_fellOf_11 : decode cX5_fellOf 11 = .ok (.if_icmp .ge 45, 3) := by decide +kernel
theorem dX5_fellOf_14 : decode cX5_fellOf 14 = .ok (.iload_n 3, 1) := by decide +kernel
theorem dX5_fellOf_15 : decode cX5_fellOf 15 = .ok (.iload_n 2, 1) := by decide +kernel
theorem dX5_fellOf_16 : decode cX5_fellOf 16 = .ok (.iload 4, 2) := by decide +kernel
theorem dX5_fellOf_18 : decode cX5_fellOf 18 = .ok (.invokestatic 112, 3) := by decide +kernel
theorem dX5_fellOf_21 : decode cX5_fellOf 21 = .ok (.ifCond .eq 26, 3) := by decide +kernel
theorem dX5_fellOf_24 : decode cX5_fellOf 24 = .ok (.aload_n 0, 1) := by decide +kernel
theorem dX5_fellOf_25 : decode cX5_fellOf 25 = .ok (.getfield 33, 3) := by decide +kernel
theorem dX5_fellOf_28 : decode cX5_fellOf 28 = .ok (.bipush 20, 2) := by decide +kernel
theorem dX5_fellOf_30 : decode cX5_fellOf 30 = .ok (.iload_n 1, 1) := by decide +kernel
theorem dX5_fellOf_31 : decode cX5_fellOf 31 = .ok (.imul, 1) := by decide +kernel
theorem dX5_fellOf_32 : decode cX5_fellOf 32 = .ok (.iload 4, 2) := by decide +kernel
theorem dX5_fellOf_34 : decode cX5_fellOf 34 = .ok (.iadd, 1) := by decide +kernel
theorem dX5_fellOf_35 : decode cX5_fellOf 35 = .ok (.iaload, 1) := by decide +kernel
theorem dX5_fellOf_36 : decode cX5_fellOf 36 = .ok (.iconst 1, 1) := by decide +kernel
theorem dX5_fellOf_37 : decode cX5_fellOf 37 = .ok (.if_icmp .ne 10, 3) := by decide +kernel
theorem dX5_fellOf_40 : decode cX5_fellOf 40 = .ok (.iconst 1, 1) := by decide +kernel
theorem dX5_fellOf_41 : decode cX5_fellOf 41 = .ok (.iload 4, 2) := by decide +kernel
theorem dX5_fellOf_43 : decode cX5_fellOf 43 = .ok (.ishl, 1) := by decide +kernel
theorem dX5_fellOf_44 : decode cX5_fellOf 44 = .ok (.goto 4, 3) := by decide +kernel
theorem dX5_fellOf_47 : decode cX5_fellOf 47 = .ok (.iconst 0, 1) := by decide +kernel
theorem dX5_fellOf_48 : decode cX5_fellOf 48 = .ok (.ior, 1) := by decide +kernel
theorem dX5_fellOf_49 : decode cX5_fellOf 49 = .ok (.istore_n 3, 1) := by decide +kernel
theorem dX5_fellOf_50 : decode cX5_fellOf 50 = .ok (.iinc 4 1, 3) := by decide +kernel
theorem dX5_fellOf_53 : decode cX5_fellOf 53 = .ok (.goto (-48), 3) := by decide +kernel
theorem dX5_fellOf_56 : decode cX5_fellOf 56 = .ok (.iload_n 3, 1) := by decide +kernel
theorem dX5_fellOf_57 : decode cX5_fellOf 57 = .ok (.ireturn, 1) := by decide +kernel
set_option maxRecDepth 20000 in
theorem ggX5_counting_X5_isFlaky : GoodIn wsX5_counting wsX5_isFlaky := goodIn_r _ [7, 8, 9, 10, 11, 12, 13, 6, 14, 15, 16, 17, 18, 19, 20, 21, 22, 23, 24, 25, 26, 27, 28, 29, 30, 31, 32, 33, 34, 35] (by decide +kernel) (by decide +kernel)
set_option maxRecDepth 20000 in
theorem gX5_counting_X5_isFlaky : GoodIn wsX5_counting (wsV RX5 76 RX5 yX5_isFlaky wsX5_isFlaky) := goodIn_app (goodIn_of _ (by decide +kernel)) ggX5_counting_X5_isFlaky
theorem dX5_counting_0 : decode cX5_counting 0 = .ok (.iconst 0, 1) := by decide +kernel
theorem dX5_counting_1 : decode cX5_counting 1 = .ok (.istore_n 1, 1) := by decide +kernel
theorem dX5_counting_2 : decode cX5_counting 2 = .ok (.iconst 0, 1) := by decide +kernel
theorem dX5_counting_3 : decode cX5_counting 3 = .ok (.istore_n 2, 1) := by decide +kernel
theorem dX5_counting_4 : decode cX5_counting 4 = .ok (.iload_n 2, 1) := by decide +kernel
theorem dX5_counting_5 : decode cX5_counting 5 = .ok (.aload_n 0, 1) := by decide +kernel
theorem dX5_counting_6 : decode cX5_counting 6 = .ok (.getfield 52, 3) := by decide +kernel
theorem dX5_counting_9 : decode cX5_counting 9 = .ok (.if_icmp .ge 37, 3) := by decide +kernel
theorem dX5_counting_12 : decode cX5_counting 12 = .ok (.iload_n 1, 1) := by decide +kernel
theorem dX5_counting_13 : decode cX5_counting 13 = .ok (.aload_n 0, 1) := by decide +kernel
theorem dX5_counting_14 : decode cX5_counting 14 = .ok (.getfield 13, 3) := by decide +kernel
theorem dX5_counting_17 : decode cX5_counting 17 = .ok (.iload_n 2, 1) := by decide +kernel
theorem dX5_counting_18 : decode cX5_counting 18 = .ok (.iaload, 1) := by decide +kernel
theorem dX5_counting_19 : decode cX5_counting 19 = .ok (.iconst 3, 1) := by decide +kernel
theorem dX5_counting_20 : decode cX5_counting 20 = .ok (.if_icmp .eq 17, 3) := by decide +kernel
theorem dX5_counting_23 : decode cX5_counting 23 = .ok (.aload_n 0, 1) := by decide +kernel
theorem dX5_counting_24 : decode cX5_counting 24 = .ok (.iload_n 2, 1) := by decide +kernel
theorem dX5_counting_25 : decode cX5_counting 25 = .ok (.invokevirtual 76, 3) := by decide +kernel
theorem dX5_counting_28 : decode cX5_counting 28 = .ok (.ifCond .ne 9, 3) := by decide +kernel
theorem dX5_counting_31 : decode cX5_counting 31 = .ok (.iconst 1, 1) := by decide +kernel
theorem dX5_counting_32 : decode cX5_counting 32 = .ok (.iload_n 2, 1) := by decide +kernel
theorem dX5_counting_33 : decode cX5_counting 33 = .ok (.ishl, 1) := by decide +kernel
theorem dX5_counting_34 : decode cX5_counting 34 = .ok (.goto 4, 3) := by decide +kernel
theorem dX5_counting_37 : decode cX5_counting 37 = .ok (.iconst 0, 1) := by decide +kernel
theorem dX5_counting_38 : decode cX5_counting 38 = .ok (.ior, 1) := by decide +kernel
theorem dX5_counting_39 : decode cX5_counting 39 = .ok (.istore_n 1, 1) := by decide +kernel
theorem dX5_counting_40 : decode cX5_counting 40 = .ok (.iinc 2 1, 3) := by decide +kernel
theorem dX5_counting_43 : decode cX5_counting 43 = .ok (.goto (-39), 3) := by decide +kernel
theorem dX5_counting_46 : decode cX5_counting 46 = .ok (.iload_n 1, 1) := by decide +kernel
theorem dX5_counting_47 : decode cX5_counting 47 = .ok (.ireturn, 1) := by decide +kernel
set_option maxRecDepth 20000 in
theorem ggX5_fewest_X5_counting : GoodIn wsX5_fewest wsX5_counting := goodIn_r _ [9, 2, 10, 11, 12, 13, 8, 14, 1, 15, 16, 17, 18, 19, 20, 21, 22, 46, 47, 48, 49, 50, 51, 52, 53, 54, 55, 56, 57, 58, 59, 60, 61, 62, 63, 64] (by decide +kernel) (by decide +kernel)
set_option maxRecDepth 20000 in
theorem gX5_fewest_X5_counting : GoodIn wsX5_fewest (wsV RX5 146 RX5 yX5_counting wsX5_counting) := goodIn_app (goodIn_of _ (by decide +kernel)) ggX5_fewest_X5_counting
set_option maxRecDepth 20000 in
theorem ggX5_fewest_X5_fellOf : GoodIn wsX5_fewest wsX5_fellOf := goodIn_r _ [26, 2, 16, 27, 28, 8, 29, 46, 47, 48, 49, 50, 51, 52, 53, 54, 55, 56, 57, 58, 59, 60, 61, 62, 63, 64] (by decide +kernel) (by decide +kernel)
set_option maxRecDepth 20000 in
theorem gX5_fewest_X5_fellOf : GoodIn wsX5_fewest (wsV RX5 150 RX5 yX5_fellOf wsX5_fellOf) := goodIn_app (goodIn_of _ (by decide +kernel)) ggX5_fewest_X5_fellOf
set_option maxRecDepth 20000 in
theorem ggX5_fewest_X5_has : GoodIn wsX5_fewest wsX5_has := goodIn_r _ [29] (by decide +kernel) (by decide +kernel)
set_option maxRecDepth 20000 in
theorem gX5_fewest_X5_has : GoodIn wsX5_fewest (va_wsS RX5 112 yX5_has wsX5_has) := goodIn_app (goodIn_of _ (by decide +kernel)) ggX5_fewest_X5_has
set_option maxRecDepth 20000 in
theorem ggX5_fewest_X5_setOf : GoodIn wsX5_fewest wsX5_setOf := goodIn_r _ [33, 3, 27, 28, 8, 29, 46, 47, 48, 49, 50, 51, 52, 53, 54, 55, 56, 57, 58, 59, 60, 61, 62, 63, 64] (by decide +kernel) (by decide +kernel)
set_option maxRecDepth 20000 in
theorem gX5_fewest_X5_setOf : GoodIn wsX5_fewest (wsV RX5 140 RX5 yX5_setOf wsX5_setOf) := goodIn_app (goodIn_of _ (by decide +kernel)) ggX5_fewest_X5_setOf
set_option maxRecDepth 20000 in
theorem ggX5_fewest_X5_bits : GoodIn wsX5_fewest wsX5_bits := goodIn_r _ [36] (by decide +kernel) (by decide +kernel)
set_option maxRecDepth 20000 in
theorem gX5_fewest_X5_bits : GoodIn wsX5_fewest (va_wsS RX5 91 yX5_bits wsX5_bits) := goodIn_app (goodIn_of _ (by decide +kernel)) ggX5_fewest_X5_bits
set_option maxRecDepth 20000 in
theorem ggX5_fewest_X5_timeOfSet : GoodIn wsX5_fewest wsX5_timeOfSet := goodIn_r _ [40, 2, 27, 28, 8, 29, 41, 42, 43, 44, 10, 45, 46, 47, 48, 49, 50, 51, 52, 53, 54, 55, 56, 57, 58, 59, 60, 61, 62, 63, 64] (by decide +kernel) (by decide +kernel)
set_option maxRecDepth 20000 in
theorem gX5_fewest_X5_timeOfSet : GoodIn wsX5_fewest (wsV RX5 127 RX5 yX5_timeOfSet wsX5_timeOfSet) := goodIn_app (goodIn_of _ (by decide +kernel)) ggX5_fewest_X5_timeOfSet
theorem dX5_fewest_0 : decode cX5_fewest 0 = .ok (.aload_n 0, 1) := by decide +kernel
theorem dX5_fewest_1 : decode cX5_fewest 1 = .ok (.invokevirtual 146, 3) := by decide +kernel
theorem dX5_fewest_4 : decode cX5_fewest 4 = .ok (.istore_n 1, 1) := by decide +kernel
theorem dX5_fewest_5 : decode cX5_fewest 5 = .ok (.iconst 0, 1) := by decide +kernel
theorem dX5_fewest_6 : decode cX5_fewest 6 = .ok (.istore_n 2, 1) := by decide +kernel
theorem dX5_fewest_7 : decode cX5_fewest 7 = .ok (.iconst 0, 1) := by decide +kernel
theorem dX5_fewest_8 : decode cX5_fewest 8 = .ok (.istore_n 3, 1) := by decide +kernel
theorem dX5_fewest_9 : decode cX5_fewest 9 = .ok (.iload_n 3, 1) := by decide +kernel
theorem dX5_fewest_10 : decode cX5_fewest 10 = .ok (.aload_n 0, 1) := by decide +kernel
theorem dX5_fewest_11 : decode cX5_fewest 11 = .ok (.getfield 59, 3) := by decide +kernel
theorem dX5_fewest_14 : decode cX5_fewest 14 = .ok (.if_icmp .ge 18, 3) := by decide +kernel
theorem dX5_fewest_17 : decode cX5_fewest 17 = .ok (.iload_n 2, 1) := by decide +kernel
theorem dX5_fewest_18 : decode cX5_fewest 18 = .ok (.aload_n 0, 1) := by decide +kernel
theorem dX5_fewest_19 : decode cX5_fewest 19 = .ok (.iload_n 3, 1) := by decide +kernel
theorem dX5_fewest_20 : decode cX5_fewest 20 = .ok (.iload_n 1, 1) := by decide +kernel
theorem dX5_fewest_21 : decode cX5_fewest 21 = .ok (.invokevirtual 150, 3) := by decide +kernel
theorem dX5_fewest_24 : decode cX5_fewest 24 = .ok (.ior, 1) := by decide +kernel
theorem dX5_fewest_25 : decode cX5_fewest 25 = .ok (.istore_n 2, 1) := by decide +kernel
theorem dX5_fewest_26 : decode cX5_fewest 26 = .ok (.iinc 3 1, 3) := by decide +kernel
theorem dX5_fewest_29 : decode cX5_fewest 29 = .ok (.goto (-20), 3) := by decide +kernel
theorem dX5_fewest_32 : decode cX5_fewest 32 = .ok (.iconst 0, 1) := by decide +kernel
theorem dX5_fewest_33 : decode cX5_fewest 33 = .ok (.istore_n 3, 1) := by decide +kernel
theorem dX5_fewest_34 : decode cX5_fewest 34 = .ok (.iconst 0, 1) := by decide +kernel
theorem dX5_fewest_35 : decode cX5_fewest 35 = .ok (.istore 4, 2) := by decide +kernel
theorem dX5_fewest_37 : decode cX5_fewest 37 = .ok (.iload 4, 2) := by decide +kernel
theorem dX5_fewest_39 : decode cX5_fewest 39 = .ok (.aload_n 0, 1) := by decide +kernel
theorem dX5_fewest_40 : decode cX5_fewest 40 = .ok (.getfield 52, 3) := by decide +kernel
theorem dX5_fewest_43 : decode cX5_fewest 43 = .ok (.if_icmp .ge 29, 3) := by decide +kernel
theorem dX5_fewest_46 : decode cX5_fewest 46 = .ok (.iload_n 2, 1) := by decide +kernel
theorem dX5_fewest_47 : decode cX5_fewest 47 = .ok (.iload 4, 2) := by decide +kernel
theorem dX5_fewest_49 : decode cX5_fewest 49 = .ok (.invokestatic 112, 3) := by decide +kernel
theorem dX5_fewest_52 : decode cX5_fewest 52 = .ok (.ifCond .eq 14, 3) := by decide +kernel
theorem dX5_fewest_55 : decode cX5_fewest 55 = .ok (.aload_n 0, 1) := by decide +kernel
theorem dX5_fewest_56 : decode cX5_fewest 56 = .ok (.getfield 46, 3) := by decide +kernel
theorem dX5_fewest_59 : decode cX5_fewest 59 = .ok (.iload_n 3, 1) := by decide +kernel
theorem dX5_fewest_60 : decode cX5_fewest 60 = .ok (.iload 4, 2) := by decide +kernel
theorem dX5_fewest_62 : decode cX5_fewest 62 = .ok (.iastore, 1) := by decide +kernel
theorem dX5_fewest_63 : decode cX5_fewest 63 = .ok (.iinc 3 1, 3) := by decide +kernel
theorem dX5_fewest_66 : decode cX5_fewest 66 = .ok (.iinc 4 1, 3) := by decide +kernel
theorem dX5_fewest_69 : decode cX5_fewest 69 = .ok (.goto (-32), 3) := by decide +kernel
theorem dX5_fewest_72 : decode cX5_fewest 72 = .ok (.iload_n 3, 1) := by decide +kernel
theorem dX5_fewest_73 : decode cX5_fewest 73 = .ok (.bipush 12, 2) := by decide +kernel
theorem dX5_fewest_75 : decode cX5_fewest 75 = .ok (.if_icmp .le 6, 3) := by decide +kernel
theorem dX5_fewest_78 : decode cX5_fewest 78 = .ok (.bipush (-6), 2) := by decide +kernel
theorem dX5_fewest_80 : decode cX5_fewest 80 = .ok (.ireturn, 1) := by decide +kernel
theorem dX5_fewest_81 : decode cX5_fewest 81 = .ok (.iload_n 2, 1) := by decide +kernel
theorem dX5_fewest_82 : decode cX5_fewest 82 = .ok (.istore 4, 2) := by decide +kernel
theorem dX5_fewest_84 : decode cX5_fewest 84 = .ok (.iconst 0, 1) := by decide +kernel
theorem dX5_fewest_85 : decode cX5_fewest 85 = .ok (.istore 5, 2) := by decide +kernel
theorem dX5_fewest_87 : decode cX5_fewest 87 = .ok (.iload 5, 2) := by decide +kernel
theorem dX5_fewest_89 : decode cX5_fewest 89 = .ok (.iconst 1, 1) := by decide +kernel
theorem dX5_fewest_90 : decode cX5_fewest 90 = .ok (.iload_n 3, 1) := by decide +kernel
theorem dX5_fewest_91 : decode cX5_fewest 91 = .ok (.ishl, 1) := by decide +kernel
theorem dX5_fewest_92 : decode cX5_fewest 92 = .ok (.if_icmp .ge 143, 3) := by decide +kernel
theorem dX5_fewest_95 : decode cX5_fewest 95 = .ok (.aload_n 0, 1) := by decide +kernel
theorem dX5_fewest_96 : decode cX5_fewest 96 = .ok (.iload 5, 2) := by decide +kernel
theorem dX5_fewest_98 : decode cX5_fewest 98 = .ok (.iload_n 3, 1) := by decide +kernel
theorem dX5_fewest_99 : decode cX5_fewest 99 = .ok (.invokevirtual 140, 3) := by decide +kernel
theorem dX5_fewest_102 : decode cX5_fewest 102 = .ok (.istore 6, 2) := by decide +kernel
theorem dX5_fewest_104 : decode cX5_fewest 104 = .ok (.iconst 1, 1) := by decide +kernel
theorem dX5_fewest_105 : decode cX5_fewest 105 = .ok (.istore 7, 2) := by decide +kernel
theorem dX5_fewest_107 : decode cX5_fewest 107 = .ok (.iconst 0, 1) := by decide +kernel
theorem dX5_fewest_108 : decode cX5_fewest 108 = .ok (.istore 8, 2) := by decide +kernel
theorem dX5_fewest_110 : decode cX5_fewest 110 = .ok (.iload 8, 2) := by decide +kernel
theorem dX5_fewest_112 : decode cX5_fewest 112 = .ok (.aload_n 0, 1) := by decide +kernel
theorem dX5_fewest_113 : decode cX5_fewest 113 = .ok (.getfield 59, 3) := by decide +kernel
theorem dX5_fewest_116 : decode cX5_fewest 116 = .ok (.if_icmp .ge 42, 3) := by decide +kernel
theorem dX5_fewest_119 : decode cX5_fewest 119 = .ok (.iload 7, 2) := by decide +kernel
theorem dX5_fewest_121 : decode cX5_fewest 121 = .ok (.ifCond .eq 37, 3) := by decide +kernel
theorem dX5_fewest_124 : decode cX5_fewest 124 = .ok (.aload_n 0, 1) := by decide +kernel
theorem dX5_fewest_125 : decode cX5_fewest 125 = .ok (.iload 8, 2) := by decide +kernel
theorem dX5_fewest_127 : decode cX5_fewest 127 = .ok (.iload_n 1, 1) := by decide +kernel
theorem dX5_fewest_128 : decode cX5_fewest 128 = .ok (.invokevirtual 150, 3) := by decide +kernel
theorem dX5_fewest_131 : decode cX5_fewest 131 = .ok (.ifCond .eq 14, 3) := by decide +kernel
theorem dX5_fewest_134 : decode cX5_fewest 134 = .ok (.aload_n 0, 1) := by decide +kernel
theorem dX5_fewest_135 : decode cX5_fewest 135 = .ok (.iload 8, 2) := by decide +kernel
theorem dX5_fewest_137 : decode cX5_fewest 137 = .ok (.iload 6, 2) := by decide +kernel
theorem dX5_fewest_139 : decode cX5_fewest 139 = .ok (.invokevirtual 150, 3) := by decide +kernel
theorem dX5_fewest_142 : decode cX5_fewest 142 = .ok (.ifCond .eq 7, 3) := by decide +kernel
theorem dX5_fewest_145 : decode cX5_fewest 145 = .ok (.iconst 1, 1) := by decide +kernel
theorem dX5_fewest_146 : decode cX5_fewest 146 = .ok (.goto 4, 3) := by decide +kernel
theorem dX5_fewest_149 : decode cX5_fewest 149 = .ok (.iconst 0, 1) := by decide +kernel
theorem dX5_fewest_150 : decode cX5_fewest 150 = .ok (.istore 7, 2) := by decide +kernel
theorem dX5_fewest_152 : decode cX5_fewest 152 = .ok (.iinc 8 1, 3) := by decide +kernel
theorem dX5_fewest_155 : decode cX5_fewest 155 = .ok (.goto (-45), 3) := by decide +kernel
theorem dX5_fewest_158 : decode cX5_fewest 158 = .ok (.iload 6, 2) := by decide +kernel
theorem dX5_fewest_160 : decode cX5_fewest 160 = .ok (.i2l, 1) := by decide +kernel
theorem dX5_fewest_161 : decode cX5_fewest 161 = .ok (.invokestatic 91, 3) := by decide +kernel
theorem dX5_fewest_164 : decode cX5_fewest 164 = .ok (.iload 4, 2) := by decide +kernel
theorem dX5_fewest_166 : decode cX5_fewest 166 = .ok (.i2l, 1) := by decide +kernel
theorem dX5_fewest_167 : decode cX5_fewest 167 = .ok (.invokestatic 91, 3) := by decide +kernel
theorem dX5_fewest_170 : decode cX5_fewest 170 = .ok (.isub, 1) := by decide +kernel
theorem dX5_fewest_171 : decode cX5_fewest 171 = .ok (.istore 8, 2) := by decide +kernel
theorem dX5_fewest_173 : decode cX5_fewest 173 = .ok (.iload 7, 2) := by decide +kernel
theorem dX5_fewest_175 : decode cX5_fewest 175 = .ok (.ifCond .eq 54, 3) := by decide +kernel
theorem dX5_fewest_178 : decode cX5_fewest 178 = .ok (.iload 8, 2) := by decide +kernel
theorem dX5_fewest_180 : decode cX5_fewest 180 = .ok (.ifCond .lt 45, 3) := by decide +kernel
theorem dX5_fewest_183 : decode cX5_fewest 183 = .ok (.iload 8, 2) := by decide +kernel
theorem dX5_fewest_185 : decode cX5_fewest 185 = .ok (.ifCond .ne 44, 3) := by decide +kernel
theorem dX5_fewest_188 : decode cX5_fewest 188 = .ok (.aload_n 0, 1) := by decide +kernel
theorem dX5_fewest_189 : decode cX5_fewest 189 = .ok (.iload 6, 2) := by decide +kernel
theorem dX5_fewest_191 : decode cX5_fewest 191 = .ok (.invokevirtual 127, 3) := by decide +kernel
theorem dX5_fewest_194 : decode cX5_fewest 194 = .ok (.aload_n 0, 1) := by decide +kernel
theorem dX5_fewest_195 : decode cX5_fewest 195 = .ok (.iload 4, 2) := by decide +kernel
theorem dX5_fewest_197 : decode cX5_fewest 197 = .ok (.invokevirtual 127, 3) := by decide +kernel
theorem dX5_fewest_200 : decode cX5_fewest 200 = .ok (.if_icmp .lt 25, 3) := by decide +kernel
theorem dX5_fewest_203 : decode cX5_fewest 203 = .ok (.aload_n 0, 1) := by decide +kernel
theorem dX5_fewest_204 : decode cX5_fewest 204 = .ok (.iload 6, 2) := by decide +kernel
theorem dX5_fewest_206 : decode cX5_fewest 206 = .ok (.invokevirtual 127, 3) := by decide +kernel
theorem dX5_fewest_209 : decode cX5_fewest 209 = .ok (.aload_n 0, 1) := by decide +kernel
theorem dX5_fewest_210 : decode cX5_fewest 210 = .ok (.iload 4, 2) := by decide +kernel
theorem dX5_fewest_212 : decode cX5_fewest 212 = .ok (.invokevirtual 127, 3) := by decide +kernel
theorem dX5_fewest_215 : decode cX5_fewest 215 = .ok (.if_icmp .ne 14, 3) := by decide +kernel
theorem dX5_fewest_218 : decode cX5_fewest 218 = .ok (.iload 6, 2) := by decide +kernel
theorem dX5_fewest_220 : decode cX5_fewest 220 = .ok (.iload 4, 2) := by decide +kernel
theorem dX5_fewest_222 : decode cX5_fewest 222 = .ok (.if_icmp .ge 7, 3) := by decide +kernel
theorem dX5_fewest_225 : decode cX5_fewest 225 = .ok (.iload 6, 2) := by decide +kernel
theorem dX5_fewest_227 : decode cX5_fewest 227 = .ok (.istore 4, 2) := by decide +kernel
theorem dX5_fewest_229 : decode cX5_fewest 229 = .ok (.iinc 5 1, 3) := by decide +kernel
theorem dX5_fewest_232 : decode cX5_fewest 232 = .ok (.goto (-145), 3) := by decide +kernel
theorem dX5_fewest_235 : decode cX5_fewest 235 = .ok (.aload_n 0, 1) := by decide +kernel
theorem dX5_fewest_236 : decode cX5_fewest 236 = .ok (.iload 4, 2) := by decide +kernel
theorem dX5_fewest_238 : decode cX5_fewest 238 = .ok (.i2l, 1) := by decide +kernel
theorem dX5_fewest_239 : decode cX5_fewest 239 = .ok (.putfield 108, 3) := by decide +kernel
theorem dX5_fewest_242 : decode cX5_fewest 242 = .ok (.iload 4, 2) := by decide +kernel
theorem dX5_fewest_244 : decode cX5_fewest 244 = .ok (.i2l, 1) := by decide +kernel
theorem dX5_fewest_245 : decode cX5_fewest 245 = .ok (.invokestatic 91, 3) := by decide +kernel
theorem dX5_fewest_248 : decode cX5_fewest 248 = .ok (.ireturn, 1) := by decide +kernel
set_option maxRecDepth 20000 in
theorem ggX5_missed_X5_areTests : GoodIn wsX5_missed wsX5_areTests := goodIn_r _ [6, 7, 32, 33, 34, 35, 36, 37, 38, 39, 40, 41, 42, 43, 44, 45, 46, 47, 48, 49, 50] (by decide +kernel) (by decide +kernel)
set_option maxRecDepth 20000 in
theorem gX5_missed_X5_areTests : GoodIn wsX5_missed (wsV RX5 143 RX5 yX5_areTests wsX5_areTests) := goodIn_app (goodIn_of _ (by decide +kernel)) ggX5_missed_X5_areTests
set_option maxRecDepth 20000 in
theorem ggX5_missed_X5_counting : GoodIn wsX5_missed wsX5_counting := goodIn_r _ [11, 7, 12, 13, 14, 15, 5, 16, 1, 17, 18, 19, 20, 21, 22, 23, 24, 32, 33, 34, 35, 36, 37, 38, 39, 40, 41, 42, 43, 44, 45, 46, 47, 48, 49, 50] (by decide +kernel) (by decide +kernel)
set_option maxRecDepth 20000 in
theorem gX5_missed_X5_counting : GoodIn wsX5_missed (wsV RX5 146 RX5 yX5_counting wsX5_counting) := goodIn_app (goodIn_of _ (by decide +kernel)) ggX5_missed_X5_counting
set_option maxRecDepth 20000 in
theorem ggX5_missed_X5_fellOf : GoodIn wsX5_missed wsX5_fellOf := goodIn_r _ [28, 7, 18, 29, 30, 5, 31, 32, 33, 34, 35, 36, 37, 38, 39, 40, 41, 42, 43, 44, 45, 46, 47, 48, 49, 50] (by decide +kernel) (by decide +kernel)
set_option maxRecDepth 20000 in
theorem gX5_missed_X5_fellOf : GoodIn wsX5_missed (wsV RX5 150 RX5 yX5_fellOf wsX5_fellOf) := goodIn_app (goodIn_of _ (by decide +kernel)) ggX5_missed_X5_fellOf
theorem dX5_missed_0 : decode cX5_missed 0 = .ok (.aload_n 0, 1) := by decide +kernel
theorem dX5_missed_1 : decode cX5_missed 1 = .ok (.iload_n 1, 1) := by decide +kernel
theorem dX5_missed_2 : decode cX5_missed 2 = .ok (.invokevirtual 143, 3) := by decide +kernel
theorem dX5_missed_5 : decode cX5_missed 5 = .ok (.ifCond .ne 5, 3) := by decide +kernel
theorem dX5_missed_8 : decode cX5_missed 8 = .ok (.iconst (-1), 1) := by decide +kernel
theorem dX5_missed_9 : decode cX5_missed 9 = .ok (.ireturn, 1) := by decide +kernel
theorem dX5_missed_10 : decode cX5_missed 10 = .ok (.aload_n 0, 1) := by decide +kernel
theorem dX5_missed_11 : decode cX5_missed 11 = .ok (.invokevirtual 146, 3) := by decide +kernel
theorem dX5_missed_14 : decode cX5_missed 14 = .ok (.istore_n 2, 1) := by decide +kernel
theorem dX5_missed_15 : decode cX5_missed 15 = .ok (.iconst 0, 1) := by decide +kernel
theorem dX5_missed_16 : decode cX5_missed 16 = .ok (.istore_n 3, 1) := by decide +kernel
theorem dX5_missed_17 : decode cX5_missed 17 = .ok (.iload_n 3, 1) := by decide +kernel
theorem dX5_missed_18 : decode cX5_missed 18 = .ok (.aload_n 0, 1) := by decide +kernel
theorem dX5_missed_19 : decode cX5_missed 19 = .ok (.getfield 59, 3) := by decide +kernel
theorem dX5_missed_22 : decode cX5_missed 22 = .ok (.if_icmp .ge 29, 3) := by decide +kernel
theorem dX5_missed_25 : decode cX5_missed 25 = .ok (.aload_n 0, 1) := by decide +kernel
theorem dX5_missed_26 : decode cX5_missed 26 = .ok (.iload_n 3, 1) := by decide +kernel
theorem dX5_missed_27 : decode cX5_missed 27 = .ok (.iload_n 2, 1) := by decide +kernel
theorem dX5_missed_28 : decode cX5_missed 28 = .ok (.invokevirtual 150, 3) := by decide +kernel
theorem dX5_missed_31 : decode cX5_missed 31 = .ok (.ifCond .eq 14, 3) := by decide +kernel
theorem dX5_missed_34 : decode cX5_missed 34 = .ok (.aload_n 0, 1) := by decide +kernel
theorem dX5_missed_35 : decode cX5_missed 35 = .ok (.iload_n 3, 1) := by decide +kernel
theorem dX5_missed_36 : decode cX5_missed 36 = .ok (.iload_n 1, 1) := by decide +kernel
theorem dX5_missed_37 : decode cX5_missed 37 = .ok (.invokevirtual 150, 3) := by decide +kernel
theorem dX5_missed_40 : decode cX5_missed 40 = .ok (.ifCond .ne 5, 3) := by decide +kernel
theorem dX5_missed_43 : decode cX5_missed 43 = .ok (.iload_n 3, 1) := by decide +kernel
theorem dX5_missed_44 : decode cX5_missed 44 = .ok (.ireturn, 1) := by decide +kernel
theorem dX5_missed_45 : decode cX5_missed 45 = .ok (.iinc 3 1, 3) := by decide +kernel
theorem dX5_missed_48 : decode cX5_missed 48 = .ok (.goto (-31), 3) := by decide +kernel
theorem dX5_missed_51 : decode cX5_missed 51 = .ok (.bipush (-9), 2) := by decide +kernel
theorem dX5_missed_53 : decode cX5_missed 53 = .ok (.ireturn, 1) := by decide +kernel
theorem dX5_asked_0 : decode cX5_asked 0 = .ok (.aload_n 0, 1) := by decide +kernel
theorem dX5_asked_1 : decode cX5_asked 1 = .ok (.getfield 108, 3) := by decide +kernel
theorem dX5_asked_4 : decode cX5_asked 4 = .ok (.lreturn, 1) := by decide +kernel
theorem dX5_count_0 : decode cX5_count 0 = .ok (.iconst 0, 1) := by decide +kernel
theorem dX5_count_1 : decode cX5_count 1 = .ok (.istore_n 2, 1) := by decide +kernel
theorem dX5_count_2 : decode cX5_count 2 = .ok (.iconst 0, 1) := by decide +kernel
theorem dX5_count_3 : decode cX5_count 3 = .ok (.istore_n 3, 1) := by decide +kernel
theorem dX5_count_4 : decode cX5_count 4 = .ok (.iload_n 3, 1) := by decide +kernel
theorem dX5_count_5 : decode cX5_count 5 = .ok (.bipush 20, 2) := by decide +kernel
theorem dX5_count_7 : decode cX5_count 7 = .ok (.aload_n 0, 1) := by decide +kernel
theorem dX5_count_8 : decode cX5_count 8 = .ok (.getfield 59, 3) := by decide +kernel
theorem dX5_count_11 : decode cX5_count 11 = .ok (.imul, 1) := by decide +kernel
theorem dX5_count_12 : decode cX5_count 12 = .ok (.if_icmp .ge 26, 3) := by decide +kernel
theorem dX5_count_15 : decode cX5_count 15 = .ok (.iload_n 2, 1) := by decide +kernel
theorem dX5_count_16 : decode cX5_count 16 = .ok (.aload_n 0, 1) := by decide +kernel
theorem dX5_count_17 : decode cX5_count 17 = .ok (.getfield 33, 3) := by decide +kernel
theorem dX5_count_20 : decode cX5_count 20 = .ok (.iload_n 3, 1) := by decide +kernel
theorem dX5_count_21 : decode cX5_count 21 = .ok (.iaload, 1) := by decide +kernel
theorem dX5_count_22 : decode cX5_count 22 = .ok (.ifCond .lt 7, 3) := by decide +kernel
theorem dX5_count_25 : decode cX5_count 25 = .ok (.iconst 1, 1) := by decide +kernel
theorem dX5_count_26 : decode cX5_count 26 = .ok (.goto 4, 3) := by decide +kernel
theorem dX5_count_29 : decode cX5_count 29 = .ok (.iconst 0, 1) := by decide +kernel
theorem dX5_count_30 : decode cX5_count 30 = .ok (.iadd, 1) := by decide +kernel
theorem dX5_count_31 : decode cX5_count 31 = .ok (.istore_n 2, 1) := by decide +kernel
theorem dX5_count_32 : decode cX5_count 32 = .ok (.iinc 3 1, 3) := by decide +kernel
theorem dX5_count_35 : decode cX5_count 35 = .ok (.goto (-31), 3) := by decide +kernel
theorem dX5_count_38 : decode cX5_count 38 = .ok (.iload_n 1, 1) := by decide +kernel
theorem dX5_count_39 : decode cX5_count 39 = .ok (.ifCond .ne 10, 3) := by decide +kernel
theorem dX5_count_42 : decode cX5_count 42 = .ok (.aload_n 0, 1) := by decide +kernel
theorem dX5_count_43 : decode cX5_count 43 = .ok (.getfield 52, 3) := by decide +kernel
theorem dX5_count_46 : decode cX5_count 46 = .ok (.goto 25, 3) := by decide +kernel
theorem dX5_count_49 : decode cX5_count 49 = .ok (.iload_n 1, 1) := by decide +kernel
theorem dX5_count_50 : decode cX5_count 50 = .ok (.iconst 1, 1) := by decide +kernel
theorem dX5_count_51 : decode cX5_count 51 = .ok (.if_icmp .ne 10, 3) := by decide +kernel
theorem dX5_count_54 : decode cX5_count 54 = .ok (.aload_n 0, 1) := by decide +kernel
theorem dX5_count_55 : decode cX5_count 55 = .ok (.getfield 59, 3) := by decide +kernel
theorem dX5_count_58 : decode cX5_count 58 = .ok (.goto 13, 3) := by decide +kernel
theorem dX5_count_61 : decode cX5_count 61 = .ok (.iload_n 1, 1) := by decide +kernel
theorem dX5_count_62 : decode cX5_count 62 = .ok (.iconst 2, 1) := by decide +kernel
theorem dX5_count_63 : decode cX5_count 63 = .ok (.if_icmp .ne 7, 3) := by decide +kernel
theorem dX5_count_66 : decode cX5_count 66 = .ok (.iload_n 2, 1) := by decide +kernel
theorem dX5_count_67 : decode cX5_count 67 = .ok (.goto 4, 3) := by decide +kernel
theorem dX5_count_70 : decode cX5_count 70 = .ok (.iconst (-1), 1) := by decide +kernel
theorem dX5_count_71 : decode cX5_count 71 = .ok (.ireturn, 1) := by decide +kernel
theorem dX5_finding_0 : decode cX5_finding 0 = .ok (.aload_n 0, 1) := by decide +kernel
theorem dX5_finding_1 : decode cX5_finding 1 = .ok (.getfield 49, 3) := by decide +kernel
theorem dX5_finding_4 : decode cX5_finding 4 = .ok (.ireturn, 1) := by decide +kernel
set_option maxRecDepth 20000 in
theorem ggX5_findings_X5_in : GoodIn wsX5_findings wsX5_in := goodIn_r _ [5] (by decide +kernel) (by decide +kernel)
set_option maxRecDepth 20000 in
theorem gX5_findings_X5_in : GoodIn wsX5_findings (va_wsS RX5 55 yX5_in wsX5_in) := goodIn_app (goodIn_of _ (by decide +kernel)) ggX5_findings_X5_in
theorem dX5_findings_0 : decode cX5_findings 0 = .ok (.iload_n 1, 1) := by decide +kernel
theorem dX5_findings_1 : decode cX5_findings 1 = .ok (.iconst 1, 1) := by decide +kernel
theorem dX5_findings_2 : decode cX5_findings 2 = .ok (.iconst 4, 1) := by decide +kernel
theorem dX5_findings_3 : decode cX5_findings 3 = .ok (.invokestatic 55, 3) := by decide +kernel
theorem dX5_findings_6 : decode cX5_findings 6 = .ok (.ifCond .eq 12, 3) := by decide +kernel
theorem dX5_findings_9 : decode cX5_findings 9 = .ok (.aload_n 0, 1) := by decide +kernel
theorem dX5_findings_10 : decode cX5_findings 10 = .ok (.getfield 7, 3) := by decide +kernel
theorem dX5_findings_13 : decode cX5_findings 13 = .ok (.iload_n 1, 1) := by decide +kernel
theorem dX5_findings_14 : decode cX5_findings 14 = .ok (.iaload, 1) := by decide +kernel
theorem dX5_findings_15 : decode cX5_findings 15 = .ok (.goto 4, 3) := by decide +kernel
theorem dX5_findings_18 : decode cX5_findings 18 = .ok (.iconst (-1), 1) := by decide +kernel
theorem dX5_findings_19 : decode cX5_findings 19 = .ok (.ireturn, 1) := by decide +kernel
set_option maxRecDepth 20000 in
theorem ggX5_digest_X5_tells : GoodIn wsX5_digest wsX5_tells := goodIn_r _ [13, 14, 15, 16, 17, 18, 12, 19, 20, 21, 22, 23, 24, 6, 8, 25, 26, 27, 28, 7, 29, 30, 31, 32, 4, 5, 33, 34, 35, 36, 37, 38, 39, 40, 41, 42, 43, 44, 45, 46, 47, 48, 49, 50, 51, 52, 53, 54, 55, 56, 57, 58, 59, 60, 61, 62] (by decide +kernel) (by decide +kernel)
set_option maxRecDepth 20000 in
theorem gX5_digest_X5_tells : GoodIn wsX5_digest (wsV RX5 95 RX5 yX5_tells wsX5_tells) := goodIn_app (goodIn_of _ (by decide +kernel)) ggX5_digest_X5_tells
theorem dX5_digest_0 : decode cX5_digest 0 = .ok (.ldc2_w 153, 3) := by decide +kernel
theorem dX5_digest_3 : decode cX5_digest 3 = .ok (.lstore_n 1, 1) := by decide +kernel
theorem dX5_digest_4 : decode cX5_digest 4 = .ok (.iconst 0, 1) := by decide +kernel
theorem dX5_digest_5 : decode cX5_digest 5 = .ok (.istore_n 3, 1) := by decide +kernel
theorem dX5_digest_6 : decode cX5_digest 6 = .ok (.iload_n 3, 1) := by decide +kernel
theorem dX5_digest_7 : decode cX5_digest 7 = .ok (.aload_n 0, 1) := by decide +kernel
theorem dX5_digest_8 : decode cX5_digest 8 = .ok (.getfield 52, 3) := by decide +kernel
theorem dX5_digest_11 : decode cX5_digest 11 = .ok (.if_icmp .ge 100, 3) := by decide +kernel
theorem dX5_digest_14 : decode cX5_digest 14 = .ok (.iconst 0, 1) := by decide +kernel
theorem dX5_digest_15 : decode cX5_digest 15 = .ok (.istore 4, 2) := by decide +kernel
theorem dX5_digest_17 : decode cX5_digest 17 = .ok (.iload 4, 2) := by decide +kernel
theorem dX5_digest_19 : decode cX5_digest 19 = .ok (.bipush 6, 2) := by decide +kernel
theorem dX5_digest_21 : decode cX5_digest 21 = .ok (.if_icmp .gt 24, 3) := by decide +kernel
theorem dX5_digest_24 : decode cX5_digest 24 = .ok (.ldc2_w 155, 3) := by decide +kernel
theorem dX5_digest_27 : decode cX5_digest 27 = .ok (.lload_n 1, 1) := by decide +kernel
theorem dX5_digest_28 : decode cX5_digest 28 = .ok (.lmul, 1) := by decide +kernel
theorem dX5_digest_29 : decode cX5_digest 29 = .ok (.aload_n 0, 1) := by decide +kernel
theorem dX5_digest_30 : decode cX5_digest 30 = .ok (.iload_n 3, 1) := by decide +kernel
theorem dX5_digest_31 : decode cX5_digest 31 = .ok (.iload 4, 2) := by decide +kernel
theorem dX5_digest_33 : decode cX5_digest 33 = .ok (.invokevirtual 95, 3) := by decide +kernel
theorem dX5_digest_36 : decode cX5_digest 36 = .ok (.i2l, 1) := by decide +kernel
theorem dX5_digest_37 : decode cX5_digest 37 = .ok (.ladd, 1) := by decide +kernel
theorem dX5_digest_38 : decode cX5_digest 38 = .ok (.lstore_n 1, 1) := by decide +kernel
theorem dX5_digest_39 : decode cX5_digest 39 = .ok (.iinc 4 1, 3) := by decide +kernel
theorem dX5_digest_42 : decode cX5_digest 42 = .ok (.goto (-25), 3) := by decide +kernel
theorem dX5_digest_45 : decode cX5_digest 45 = .ok (.aload_n 0, 1) := by decide +kernel
theorem dX5_digest_46 : decode cX5_digest 46 = .ok (.getfield 22, 3) := by decide +kernel
theorem dX5_digest_49 : decode cX5_digest 49 = .ok (.iload_n 3, 1) := by decide +kernel
theorem dX5_digest_50 : decode cX5_digest 50 = .ok (.baload, 1) := by decide +kernel
theorem dX5_digest_51 : decode cX5_digest 51 = .ok (.ifCond .eq 11, 3) := by decide +kernel
theorem dX5_digest_54 : decode cX5_digest 54 = .ok (.ldc2_w 155, 3) := by decide +kernel
theorem dX5_digest_57 : decode cX5_digest 57 = .ok (.lload_n 1, 1) := by decide +kernel
theorem dX5_digest_58 : decode cX5_digest 58 = .ok (.lmul, 1) := by decide +kernel
theorem dX5_digest_59 : decode cX5_digest 59 = .ok (.lconst 1, 1) := by decide +kernel
theorem dX5_digest_60 : decode cX5_digest 60 = .ok (.lsub, 1) := by decide +kernel
theorem dX5_digest_61 : decode cX5_digest 61 = .ok (.lstore_n 1, 1) := by decide +kernel
theorem dX5_digest_62 : decode cX5_digest 62 = .ok (.iconst 0, 1) := by decide +kernel
theorem dX5_digest_63 : decode cX5_digest 63 = .ok (.istore 4, 2) := by decide +kernel
theorem dX5_digest_65 : decode cX5_digest 65 = .ok (.iload 4, 2) := by decide +kernel
theorem dX5_digest_67 : decode cX5_digest 67 = .ok (.iconst 5, 1) := by decide +kernel
theorem dX5_digest_68 : decode cX5_digest 68 = .ok (.if_icmp .ge 37, 3) := by decide +kernel
theorem dX5_digest_71 : decode cX5_digest 71 = .ok (.aload_n 0, 1) := by decide +kernel
theorem dX5_digest_72 : decode cX5_digest 72 = .ok (.getfield 22, 3) := by decide +kernel
theorem dX5_digest_75 : decode cX5_digest 75 = .ok (.iload_n 3, 1) := by decide +kernel
theorem dX5_digest_76 : decode cX5_digest 76 = .ok (.baload, 1) := by decide +kernel
theorem dX5_digest_77 : decode cX5_digest 77 = .ok (.ifCond .ne 28, 3) := by decide +kernel
theorem dX5_digest_80 : decode cX5_digest 80 = .ok (.ldc2_w 155, 3) := by decide +kernel
theorem dX5_digest_83 : decode cX5_digest 83 = .ok (.lload_n 1, 1) := by decide +kernel
theorem dX5_digest_84 : decode cX5_digest 84 = .ok (.lmul, 1) := by decide +kernel
theorem dX5_digest_85 : decode cX5_digest 85 = .ok (.aload_n 0, 1) := by decide +kernel
theorem dX5_digest_86 : decode cX5_digest 86 = .ok (.getfield 26, 3) := by decide +kernel
theorem dX5_digest_89 : decode cX5_digest 89 = .ok (.iconst 5, 1) := by decide +kernel
theorem dX5_digest_90 : decode cX5_digest 90 = .ok (.iload_n 3, 1) := by decide +kernel
theorem dX5_digest_91 : decode cX5_digest 91 = .ok (.imul, 1) := by decide +kernel
theorem dX5_digest_92 : decode cX5_digest 92 = .ok (.iload 4, 2) := by decide +kernel
theorem dX5_digest_94 : decode cX5_digest 94 = .ok (.iadd, 1) := by decide +kernel
theorem dX5_digest_95 : decode cX5_digest 95 = .ok (.iaload, 1) := by decide +kernel
theorem dX5_digest_96 : decode cX5_digest 96 = .ok (.i2l, 1) := by decide +kernel
theorem dX5_digest_97 : decode cX5_digest 97 = .ok (.ladd, 1) := by decide +kernel
theorem dX5_digest_98 : decode cX5_digest 98 = .ok (.lstore_n 1, 1) := by decide +kernel
theorem dX5_digest_99 : decode cX5_digest 99 = .ok (.iinc 4 1, 3) := by decide +kernel
theorem dX5_digest_102 : decode cX5_digest 102 = .ok (.goto (-37), 3) := by decide +kernel
theorem dX5_digest_105 : decode cX5_digest 105 = .ok (.iinc 3 1, 3) := by decide +kernel
theorem dX5_digest_108 : decode cX5_digest 108 = .ok (.goto (-102), 3) := by decide +kernel
theorem dX5_digest_111 : decode cX5_digest 111 = .ok (.iconst 0, 1) := by decide +kernel
theorem dX5_digest_112 : decode cX5_digest 112 = .ok (.istore_n 3, 1) := by decide +kernel
theorem dX5_digest_113 : decode cX5_digest 113 = .ok (.iload_n 3, 1) := by decide +kernel
theorem dX5_digest_114 : decode cX5_digest 114 = .ok (.aload_n 0, 1) := by decide +kernel
theorem dX5_digest_115 : decode cX5_digest 115 = .ok (.getfield 59, 3) := by decide +kernel
theorem dX5_digest_118 : decode cX5_digest 118 = .ok (.if_icmp .ge 60, 3) := by decide +kernel
theorem dX5_digest_121 : decode cX5_digest 121 = .ok (.ldc2_w 155, 3) := by decide +kernel
theorem dX5_digest_124 : decode cX5_digest 124 = .ok (.lload_n 1, 1) := by decide +kernel
theorem dX5_digest_125 : decode cX5_digest 125 = .ok (.lmul, 1) := by decide +kernel
theorem dX5_digest_126 : decode cX5_digest 126 = .ok (.aload_n 0, 1) := by decide +kernel
theorem dX5_digest_127 : decode cX5_digest 127 = .ok (.getfield 29, 3) := by decide +kernel
theorem dX5_digest_130 : decode cX5_digest 130 = .ok (.iload_n 3, 1) := by decide +kernel
theorem dX5_digest_131 : decode cX5_digest 131 = .ok (.laload, 1) := by decide +kernel
theorem dX5_digest_132 : decode cX5_digest 132 = .ok (.ladd, 1) := by decide +kernel
theorem dX5_digest_133 : decode cX5_digest 133 = .ok (.lstore_n 1, 1) := by decide +kernel
theorem dX5_digest_134 : decode cX5_digest 134 = .ok (.iconst 0, 1) := by decide +kernel
theorem dX5_digest_135 : decode cX5_digest 135 = .ok (.istore 4, 2) := by decide +kernel
theorem dX5_digest_137 : decode cX5_digest 137 = .ok (.iload 4, 2) := by decide +kernel
theorem dX5_digest_139 : decode cX5_digest 139 = .ok (.aload_n 0, 1) := by decide +kernel
theorem dX5_digest_140 : decode cX5_digest 140 = .ok (.getfield 52, 3) := by decide +kernel
theorem dX5_digest_143 : decode cX5_digest 143 = .ok (.if_icmp .ge 29, 3) := by decide +kernel
theorem dX5_digest_146 : decode cX5_digest 146 = .ok (.ldc2_w 155, 3) := by decide +kernel
theorem dX5_digest_149 : decode cX5_digest 149 = .ok (.lload_n 1, 1) := by decide +kernel
theorem dX5_digest_150 : decode cX5_digest 150 = .ok (.lmul, 1) := by decide +kernel
theorem dX5_digest_151 : decode cX5_digest 151 = .ok (.aload_n 0, 1) := by decide +kernel
theorem dX5_digest_152 : decode cX5_digest 152 = .ok (.getfield 33, 3) := by decide +kernel
theorem dX5_digest_155 : decode cX5_digest 155 = .ok (.bipush 20, 2) := by decide +kernel
theorem dX5_digest_157 : decode cX5_digest 157 = .ok (.iload_n 3, 1) := by decide +kernel
theorem dX5_digest_158 : decode cX5_digest 158 = .ok (.imul, 1) := by decide +kernel
theorem dX5_digest_159 : decode cX5_digest 159 = .ok (.iload 4, 2) := by decide +kernel
theorem dX5_digest_161 : decode cX5_digest 161 = .ok (.iadd, 1) := by decide +kernel
theorem dX5_digest_162 : decode cX5_digest 162 = .ok (.iaload, 1) := by decide +kernel
theorem dX5_digest_163 : decode cX5_digest 163 = .ok (.i2l, 1) := by decide +kernel
theorem dX5_digest_164 : decode cX5_digest 164 = .ok (.ladd, 1) := by decide +kernel
theorem dX5_digest_165 : decode cX5_digest 165 = .ok (.lstore_n 1, 1) := by decide +kernel
theorem dX5_digest_166 : decode cX5_digest 166 = .ok (.iinc 4 1, 3) := by decide +kernel
theorem dX5_digest_169 : decode cX5_digest 169 = .ok (.goto (-32), 3) := by decide +kernel
theorem dX5_digest_172 : decode cX5_digest 172 = .ok (.iinc 3 1, 3) := by decide +kernel
theorem dX5_digest_175 : decode cX5_digest 175 = .ok (.goto (-62), 3) := by decide +kernel
theorem dX5_digest_178 : decode cX5_digest 178 = .ok (.lload_n 1, 1) := by decide +kernel
theorem dX5_digest_179 : decode cX5_digest 179 = .ok (.lreturn, 1) := by decide +kernel
end
section
/-! my layer over the kit: one contract form for methods that only read, one for methods that write and make nothing -/
abbrev CT : Type := ClassId × ClassId × ClassId
abbrev tysC (c : CT) : List (ClassId × FieldType) := [(c.1, .int), (c.2.1, .long), (c.2.2, .boolean)]
def KK (D : va_G) (c : CT) (U : State) : Prop := va_K D vwCl (tysC c) U ∧ va_Nw (.methodLinkNest RX3 40 yX4_isIn RX4) U
theorem KK.moved {D : va_G} {c : CT} {s U : State} (hW : s.WarmedH U.vm) (h : KK D c s) : KK D c U := ⟨va_K.moved hW.alike h.1, va_Nw.warmM hW h.2⟩
theorem KK.calling {D : va_G} {c : CT} {U : State} {g : JFrame} {mk : MethodId} {a : Array Value} (h : KK D c U) : KK D c (U.calling g mk a) := ⟨va_K.moved (u := U) (U := U.calling g mk a) (Vm.Alike.refl U.vm) h.1, va_Nw.same (u := U) (U := U.calling g mk a) rfl rfl h.2⟩
def ROi (l : Launch) (y : MethodName) (ws : List Cond) (rm : Room) (av : List Value) (D : va_G) (c : CT) (w : va_W) (post : Int32) : Prop :=
  Met l y ws rm (va_Pc av (fun U => va_P D vwCl w U.heap ∧ KK D c U)) (vp_Si (fun r => r = post)) 0 0 (fun _ => False)
def ROl (l : Launch) (y : MethodName) (ws : List Cond) (rm : Room) (av : List Value) (D : va_G) (c : CT) (w : va_W) (post : Int64) : Prop :=
  Met l y ws rm (va_Pc av (fun U => va_P D vwCl w U.heap ∧ KK D c U)) (vp_Sl (fun r => r = post)) 0 0 (fun _ => False)
abbrev MPre (av : List Value) (D : va_G) (c : CT) (w : va_W) (sz : Nat) : Array Value → State → Prop := va_Pc av (fun U => U.heap.size = sz ∧ va_P D vwCl w U.heap ∧ KK D c U ∧ va_D (fun _ => True) w)
abbrev MB (D : va_G) (c : CT) (w w' : va_W) (sz : Nat) : Unit → State → Prop := fun _ t => va_P D vwCl w' t.heap ∧ va_D (va_A w sz) w'
def MUi (l : Launch) (y : MethodName) (ws : List Cond) (rm : Room) (av : List Value) (D : va_G) (c : CT) (w w' : va_W) (post : Int32) : Prop :=
  ∀ sz : Nat, Met l y ws rm (MPre av D c w sz) (va_Qi (fun (r : Int32) (_ : Unit) => r = post) (MB D c w w' sz) (va_A w sz)) 0 0 (va_A w sz)
def MUl (l : Launch) (y : MethodName) (ws : List Cond) (rm : Room) (av : List Value) (D : va_G) (c : CT) (w w' : va_W) (post : Int64) : Prop :=
  ∀ sz : Nat, Met l y ws rm (MPre av D c w sz) (va_Ql (fun (r : Int64) (_ : Unit) => r = post) (MB D c w w' sz) (va_A w sz)) 0 0 (va_A w sz)
def MUv (l : Launch) (y : MethodName) (ws : List Cond) (rm : Room) (av : List Value) (D : va_G) (c : CT) (w w' : va_W) : Prop :=
  ∀ sz : Nat, Met l y ws rm (MPre av D c w sz) (va_Qv (fun (_ : Unit) => True) (MB D c w w' sz) (va_A w sz)) 0 0 (va_A w sz)
section BASE
variable {p : Program} {l : Launch} {e : Env} {R : Room} {s : State} {m : MethodId} {args : Array Value} {below : List Frame} {meth : Method} {c0 : Code} {H H0 : Heap} {locs : List Loc} {cells slots : Nat} {Q : State → Prop} {A : Nat → Prop}
variable {y : MethodName} {cc bytes : ByteArray} {maxL nL n index pc : Nat} {ret : Option FieldType} {ws ws' Ts : List Cond} {rm : Room} {own C : String} {b : Nat} {As rest st0 : List Value} {ls : Array Slot} {D : va_G} {c : CT} {w w1 wc wr wk : va_W} {av : List Value}
/-! ### starts -/
theorem ro_starti {post : Int32} (hy : plainName y.cls = true) (hw : ws = Cond.code y cc maxL ret :: ws') (hav : (lg_sl av).length ≤ maxL)
    (body : ∀ (p : Program) (e : Env) (s : State) (m : MethodId) (args : Array Value) (below : List Frame) (meth : Method) (c0 : Code) (ls : Array Slot), p.tables.exec = Jvm.exec → c0.code = cc → meth.sig.returnType = ret → c0.maxLocals = maxL → s.vm.findClass y.cls = some m.cls → (∀ w ∈ ws, w.before args s = true) → meth.locks = false → va_P D vwCl w s.heap → KK D c s → lv_has ls maxL (lv_args 0 av) →
      W p l e rm s m args below meth c0 s.heap [] 0 0 (MQ below (vp_Si (fun r => r = post)) args s 0 0 (fun _ => False)) (F0 m 0 ls [])) : ROi l y ws rm av D c w post := by
  refine Met.ofW (cc := cc) (maxL := maxL) (ret := ret) hy hw ?_
  intro p e s m args below meth c0 s₁ B hml hv
  obtain ⟨rfl, hP, hK⟩ := hv
  have hl := lv_entry av (n := maxL) hav
  rw [lg_entry_eq]
  exact body p e s m _ below meth c0 _ B.exec B.bytes B.returns hml (findClass_of_methodNamed B.named) (atoms_spec (ws := ws) B.pre) B.notSynchronized hP hK hl
theorem ro_startl {post : Int64} (hy : plainName y.cls = true) (hw : ws = Cond.code y cc maxL ret :: ws') (hav : (lg_sl av).length ≤ maxL)
    (body : ∀ (p : Program) (e : Env) (s : State) (m : MethodId) (args : Array Value) (below : List Frame) (meth : Method) (c0 : Code) (ls : Array Slot), p.tables.exec = Jvm.exec → c0.code = cc → meth.sig.returnType = ret → c0.maxLocals = maxL → s.vm.findClass y.cls = some m.cls → (∀ w ∈ ws, w.before args s = true) → meth.locks = false → va_P D vwCl w s.heap → KK D c s → lv_has ls maxL (lv_args 0 av) →
      W p l e rm s m args below meth c0 s.heap [] 0 0 (MQ below (vp_Sl (fun r => r = post)) args s 0 0 (fun _ => False)) (F0 m 0 ls [])) : ROl l y ws rm av D c w post := by
  refine Met.ofW (cc := cc) (maxL := maxL) (ret := ret) hy hw ?_
  intro p e s m args below meth c0 s₁ B hml hv
  obtain ⟨rfl, hP, hK⟩ := hv
  have hl := lv_entry av (n := maxL) hav
  rw [lg_entry_eq]
  exact body p e s m _ below meth c0 _ B.exec B.bytes B.returns hml (findClass_of_methodNamed B.named) (atoms_spec (ws := ws) B.pre) B.notSynchronized hP hK hl
theorem mu_start {Qc : Nat → Array Value → State → Outcome → State → Prop} {mc ms : Nat} {fr : Nat → Addr → Prop} (hy : plainName y.cls = true) (hw : ws = Cond.code y cc maxL ret :: ws') (hav : (lg_sl av).length ≤ maxL)
    (body : ∀ (p : Program) (e : Env) (s : State) (m : MethodId) (args : Array Value) (below : List Frame) (meth : Method) (c0 : Code) (ls : Array Slot), p.tables.exec = Jvm.exec → c0.code = cc → meth.sig.returnType = ret → c0.maxLocals = maxL → s.vm.findClass y.cls = some m.cls → (∀ w ∈ ws, w.before args s = true) → meth.locks = false → (y.name = meth.name) → va_P D vwCl w s.heap → KK D c s → va_D (va_A w s.heap.size) w → va_S (va_A w s.heap.size) s.heap s.heap [] → (∀ q : Nat, s.heap.size ≤ q → va_A w s.heap.size q) → lv_has ls maxL (lv_args 0 av) →
      W p l e rm s m args below meth c0 s.heap [] 0 0 (MQ below (Qc s.heap.size) args s mc ms (fr s.heap.size)) (F0 m 0 ls [])) : ∀ sz : Nat, Met l y ws rm (MPre av D c w sz) (Qc sz) mc ms (fr sz) := by
  intro sz
  refine Met.ofW (cc := cc) (maxL := maxL) (ret := ret) hy hw ?_
  intro p e s m args below meth c0 s₁ B hml hv
  obtain ⟨rfl, hsz, hP, hK, hD⟩ := hv
  subst hsz
  have hl := lv_entry av (n := maxL) hav
  rw [lg_entry_eq]
  exact body p e s m _ below meth c0 _ B.exec B.bytes B.returns hml (findClass_of_methodNamed B.named) (atoms_spec (ws := ws) B.pre) B.notSynchronized (name_of_methodNamed B.named B.method).1.symm hP hK (hD.self (sz := s.heap.size)) va_S.rf (fun q h => Or.inr h) hl
/-! ### ends -/
theorem ro_reti {post v : Int32} (hx : p.tables.exec = Jvm.exec) (hb : c0.code = cc) (hr : meth.sig.returnType = some .int) (hlocks : meth.locks = false) (hv : v = post) (hdg : decode cc pc = .ok (.ireturn, 1)) :
    W p l e R s m args below meth c0 s.heap [] 0 0 (MQ below (vp_Si (fun r => r = post)) args s 0 0 (fun _ => False)) (F0 m pc ls [.int v]) :=
  W.iret hx hb hr (fun t ht _ => ⟨v, rfl, hv, ht⟩) (fun _ h => by cases h) hdg hlocks
theorem ro_retz {post v : Int32} (hx : p.tables.exec = Jvm.exec) (hb : c0.code = cc) (hr : meth.sig.returnType = some .boolean) (hlocks : meth.locks = false) (hn : v = 0 ∨ v = 1) (hv : v = post) (hdg : decode cc pc = .ok (.ireturn, 1)) :
    W p l e R s m args below meth c0 s.heap [] 0 0 (MQ below (vp_Si (fun r => r = post)) args s 0 0 (fun _ => False)) (F0 m pc ls [.int v]) :=
  W.zret hx hb hr (by rcases hn with rfl | rfl <;> rfl) (fun t ht _ => ⟨v, rfl, hv, ht⟩) (fun _ h => by cases h) hdg hlocks
theorem ro_retl {post v : Int64} (hx : p.tables.exec = Jvm.exec) (hb : c0.code = cc) (hr : meth.sig.returnType = some .long) (hlocks : meth.locks = false) (hv : v = post) (hdg : decode cc pc = .ok (.lreturn, 1)) :
    W p l e R s m args below meth c0 s.heap [] 0 0 (MQ below (vp_Sl (fun r => r = post)) args s 0 0 (fun _ => False)) (F0 m pc ls [.long v]) :=
  W.lret hx hb hr (fun t ht _ => ⟨v, rfl, hv, ht⟩) (fun _ h => by cases h) hdg hlocks
theorem mu_reti {post v : Int32} (hx : p.tables.exec = Jvm.exec) (hb : c0.code = cc) (hr : meth.sig.returnType = some .int) (hlocks : meth.locks = false) (hP : va_P D vwCl w1 H) (hD : va_D (va_A w s.heap.size) w1) (hS : va_S (va_A w s.heap.size) s.heap H locs) (hv : v = post) (hdg : decode cc pc = .ok (.ireturn, 1)) :
    W p l e R s m args below meth c0 H locs 0 0 (MQ below (va_Qi (fun (r : Int32) (_ : Unit) => r = post) (MB D c w w1 s.heap.size) (va_A w s.heap.size)) args s 0 0 (va_A w s.heap.size)) (F0 m pc ls [.int v]) :=
  W.iret hx hb hr (fun t ht _ => ⟨⟨v, (), rfl, hv, by rw [ht]; exact hP, hD⟩, hS.F ht⟩) hS.2.2 hdg hlocks
theorem mu_retl {post v : Int64} (hx : p.tables.exec = Jvm.exec) (hb : c0.code = cc) (hr : meth.sig.returnType = some .long) (hlocks : meth.locks = false) (hP : va_P D vwCl w1 H) (hD : va_D (va_A w s.heap.size) w1) (hS : va_S (va_A w s.heap.size) s.heap H locs) (hv : v = post) (hdg : decode cc pc = .ok (.lreturn, 1)) :
    W p l e R s m args below meth c0 H locs 0 0 (MQ below (va_Ql (fun (r : Int64) (_ : Unit) => r = post) (MB D c w w1 s.heap.size) (va_A w s.heap.size)) args s 0 0 (va_A w s.heap.size)) (F0 m pc ls [.long v]) :=
  W.lret hx hb hr (fun t ht _ => ⟨⟨v, (), rfl, hv, by rw [ht]; exact hP, hD⟩, hS.F ht⟩) hS.2.2 hdg hlocks
theorem mu_retv (hx : p.tables.exec = Jvm.exec) (hb : c0.code = cc) (hr : meth.sig.returnType = none) (hlocks : meth.locks = false) (hP : va_P D vwCl w1 H) (hD : va_D (va_A w s.heap.size) w1) (hS : va_S (va_A w s.heap.size) s.heap H locs) (hdg : decode cc pc = .ok (.return_, 1)) :
    W p l e R s m args below meth c0 H locs 0 0 (MQ below (va_Qv (fun (_ : Unit) => True) (MB D c w w1 s.heap.size) (va_A w s.heap.size)) args s 0 0 (va_A w s.heap.size)) (F0 m pc ls []) :=
  W.vret hx hb hr (fun t ht _ => ⟨⟨(), rfl, trivial, by rw [ht]; exact hP, hD⟩, hS.F ht⟩) hS.2.2 hdg hlocks
/-! ### calls of readers -/
theorem ro_preV {post : Prop} (hP : va_P D vwCl wc H) (hK : KK D c s) (hrecv : ∃ cellB : Cell, H[b]? = some cellB ∧ cellB.vm.isStatics = false ∧ s.vm.findClass C = some cellB.cls) : PreV s H C b (va_Pc (.ref b :: As) (fun U => va_P D vwCl wc U.heap ∧ KK D c U)) As :=
  ⟨fun a U g mk q => ⟨q.1, q.2.1, q.2.2.calling⟩, hrecv, fun U hU hW => ⟨rfl, by rw [hU]; exact hP, hK.moved hW⟩⟩
theorem ro_preS (hP : va_P D vwCl wc H) (hK : KK D c s) : PreS s H (va_Pc As (fun U => va_P D vwCl wc U.heap ∧ KK D c U)) As :=
  ⟨fun a U g mk q => ⟨q.1, q.2.1, q.2.2.calling⟩, fun U hU hW => ⟨rfl, by rw [hU]; exact hP, hK.moved hW⟩⟩
theorem ro_Vi {post : Int32} (S : CallFix p m c0 cc nL s args Ts own) (hM : ROi l y ws rm (.ref b :: As) D c wc post) (cw : CallW R s args own C index y bytes maxL ret ws rm 0 0 n) (hP : va_P D vwCl wc H) (hK : KK D c s) (hrecv : ∃ cellB : Cell, H[b]? = some cellB ∧ cellB.vm.isStatics = false ∧ s.vm.findClass C = some cellB.cls)
    (hn : As.length = n) (hsize : ls.size = nL) (hstack : st0 = As.reverse ++ .ref b :: rest) (hW : (rest.map fun v => v.category).sum ≤ 8) (hdg : decode cc pc = .ok (.invokevirtual index, 3)) (hf : cells ≤ R.cells ∧ slots ≤ R.slots)
    (kk : W p l e R s m args below meth c0 H locs cells slots Q (F0 m (pc + 3) ls (.int post :: rest))) : W p l e R s m args below meth c0 H locs cells slots Q (F0 m pc ls st0) :=
  vp_callSi (va_runV (g := F0 m pc ls st0) S hM cw (ro_preV (post := True) hP hK hrecv) rfl hn hsize hstack (lv_room (rest := st0) hW) hdg hf).run (fun r hr => by subst hr; exact kk)
theorem ro_Vl {post : Int64} (S : CallFix p m c0 cc nL s args Ts own) (hM : ROl l y ws rm (.ref b :: As) D c wc post) (cw : CallW R s args own C index y bytes maxL ret ws rm 0 0 n) (hP : va_P D vwCl wc H) (hK : KK D c s) (hrecv : ∃ cellB : Cell, H[b]? = some cellB ∧ cellB.vm.isStatics = false ∧ s.vm.findClass C = some cellB.cls)
    (hn : As.length = n) (hsize : ls.size = nL) (hstack : st0 = As.reverse ++ .ref b :: rest) (hW : (rest.map fun v => v.category).sum ≤ 8) (hdg : decode cc pc = .ok (.invokevirtual index, 3)) (hf : cells ≤ R.cells ∧ slots ≤ R.slots)
    (kk : W p l e R s m args below meth c0 H locs cells slots Q (F0 m (pc + 3) ls (.long post :: rest))) : W p l e R s m args below meth c0 H locs cells slots Q (F0 m pc ls st0) :=
  vp_callSl (va_runV (g := F0 m pc ls st0) S hM cw (ro_preV (post := True) hP hK hrecv) rfl hn hsize hstack (lv_room (rest := st0) hW) hdg hf).run (fun r hr => by subst hr; exact kk)
theorem ro_Si {post : Int32} (S : CallFix p m c0 cc nL s args Ts own) (hM : ROi l y ws rm As D c wc post) (cw : CallB R s args own index y bytes maxL ret ws rm 0 0 n ∧ (Cond.static y).before args s = true) (hP : va_P D vwCl wc H) (hK : KK D c s)
    (hn : As.length = n) (hsize : ls.size = nL) (hstack : st0 = As.reverse ++ rest) (hW : (rest.map fun v => v.category).sum ≤ 8) (hdg : decode cc pc = .ok (.invokestatic index, 3)) (hf : cells ≤ R.cells ∧ slots ≤ R.slots)
    (kk : W p l e R s m args below meth c0 H locs cells slots Q (F0 m (pc + 3) ls (.int post :: rest))) : W p l e R s m args below meth c0 H locs cells slots Q (F0 m pc ls st0) :=
  vp_callSi (va_runS (g := F0 m pc ls st0) S hM cw (ro_preS hP hK) rfl hn hsize hstack (lv_room (rest := st0) hW) hdg hf).run (fun r hr => by subst hr; exact kk)
theorem ro_SNi {post : Int32} {host : String} (S : CallFix p m c0 cc nL s args Ts own) (hM : ROi l y ws rm As D c wc post) (cw : va_CN R s args own index y host bytes maxL ret ws rm 0 0 n ∧ (Cond.static y).before args s = true ∧ True) (hP : va_P D vwCl wc H) (hK : KK D c s)
    (hn : As.length = n) (hsize : ls.size = nL) (hstack : st0 = As.reverse ++ rest) (hW : (rest.map fun v => v.category).sum ≤ 8) (hdg : decode cc pc = .ok (.invokestatic index, 3)) (hf : cells ≤ R.cells ∧ slots ≤ R.slots)
    (kk : W p l e R s m args below meth c0 H locs cells slots Q (F0 m (pc + 3) ls (.int post :: rest))) : W p l e R s m args below meth c0 H locs cells slots Q (F0 m pc ls st0) :=
  vp_callSi (va_runSN (g := F0 m pc ls st0) S hM cw (ro_preS hP hK) rfl hn hsize hstack (lv_room (rest := st0) hW) hdg hf).run (fun r hr => by subst hr; exact kk)
/-! ### calls of writers -/
theorem mu_preV (hP : va_P D vwCl wc H) (hD : va_D A wc) (hK : KK D c s) (hrecv : ∃ cellB : Cell, H[b]? = some cellB ∧ cellB.vm.isStatics = false ∧ s.vm.findClass C = some cellB.cls) : PreV s H C b (MPre (.ref b :: As) D c wc H.size) As :=
  ⟨fun a U g mk q => ⟨q.1, q.2.1, q.2.2.1, q.2.2.2.1.calling, q.2.2.2.2⟩, hrecv, fun U hU hW => ⟨rfl, by rw [hU], by rw [hU]; exact hP, hK.moved hW, hD.weaken (fun _ _ _ _ => trivial)⟩⟩
/-- behind a writer's call: the caller's world again, in its own order -/
theorem mu_back {A0 : Nat → Prop} {H1 : Heap} (hP : va_P D vwCl w H) (hD : va_D A0 w) (hS : va_S A0 H0 H locs) (hA : ∀ q : Nat, H0.size ≤ q → A0 q) (isC isR perm : List Nat) (hC : isC.map (fun i => w[i]?) = wc.map some) (hR : isR.map (fun i => w[i]?) = wr.map some) (hn : va_nd isR = true) (hdis : ∀ i ∈ isR, i ∉ isC)
    (hk : ∀ q : Nat, q < H.size → ¬ va_A wc H.size q → H1[q]? = H[q]?) (hP1 : va_P D vwCl w1 H1) (hD1 : va_D (va_A wc H.size) w1) (hpn : va_nd perm = true) (hpm : perm.map (fun i => (wr ++ w1)[i]?) = wk.map some) : va_P D vwCl wk H1 ∧ va_D A0 wk := by
  obtain ⟨hP2, hD2⟩ := va_join hP hD isC isR hC hR hn hdis hk (va_free hD hS hA isC hC) hP1 hD1
  refine ⟨?_, hD2.sub perm hpn hpm⟩
  intro k q hkq
  have h1 : (perm.map (fun i => (wr ++ w1)[i]?))[k]? = some (some q) := by rw [hpm, List.getElem?_map, hkq]; rfl
  rw [List.getElem?_map] at h1
  cases hi : perm[k]? with
  | none => rw [hi] at h1; cases h1
  | some i => rw [hi] at h1; exact hP2 i q (Option.some.inj h1)
theorem va_P.sb {is : List Nat} (hP : va_P D vwCl w H) (hs : is.map (fun i => w[i]?) = w1.map some) : va_P D vwCl w1 H := by
  intro k q hkq
  have h1 : (is.map (fun i => w[i]?))[k]? = some (some q) := by rw [hs, List.getElem?_map, hkq]; rfl
  rw [List.getElem?_map] at h1
  cases hi : is[k]? with
  | none => rw [hi] at h1; cases h1
  | some i => rw [hi] at h1; exact hP i q (Option.some.inj h1)
theorem mu_Vi {post : Int32} {A0 : Nat → Prop} (isC isR perm : List Nat) (S : CallFix p m c0 cc nL s args Ts own) (hM : MUi l y ws rm (.ref b :: As) D c wc w1 post) (cw : CallW R s args own C index y bytes maxL ret ws rm 0 0 n) (hP : va_P D vwCl w H) (hK : KK D c s) (hD : va_D A0 w) (hS : va_S A0 H0 H locs) (hA : ∀ q : Nat, H0.size ≤ q → A0 q) (hrecv : ∃ cellB : Cell, H[b]? = some cellB ∧ cellB.vm.isStatics = false ∧ s.vm.findClass C = some cellB.cls)
    (hC : isC.map (fun i => w[i]?) = wc.map some) (hR : isR.map (fun i => w[i]?) = wr.map some) (hcn : va_nd isC = true) (hrn : va_nd isR = true) (hdis : ∀ i ∈ isR, i ∉ isC) (hpn : va_nd perm = true) (hpm : perm.map (fun i => (wr ++ w1)[i]?) = wk.map some)
    (hn : As.length = n) (hsize : ls.size = nL) (hstack : st0 = As.reverse ++ .ref b :: rest) (hW : (rest.map fun v => v.category).sum ≤ 8) (hdg : decode cc pc = .ok (.invokevirtual index, 3)) (hf : cells ≤ R.cells ∧ slots ≤ R.slots)
    (kk : ∀ (H1 : Heap) (locs1 : List Loc), va_P D vwCl wk H1 → va_D A0 wk → va_S A0 H0 H1 locs1 → W p l e R s m args below meth c0 H1 locs1 cells slots Q (F0 m (pc + 3) ls (.int post :: rest))) : W p l e R s m args below meth c0 H locs cells slots Q (F0 m pc ls st0) := by
  have hF := va_free hD hS hA isC hC
  refine va_calli (va_runV (g := F0 m pc ls st0) S (hM H.size) cw (mu_preV (hP.sb hC) (hD.sub isC hcn hC) hK hrecv) rfl hn hsize hstack (lv_room (rest := st0) hW) hdg hf) hS (fun q _ h => hF q h) hF (fun r u t H1 locs1 ht hvm hw hB hz1 hk1 hS1 => ?_)
  subst hw
  obtain ⟨hP1, hD1⟩ := hB
  rw [ht] at hP1
  obtain ⟨hP2, hD2⟩ := mu_back hP hD hS hA isC isR perm hC hR hrn hdis hk1 hP1 hD1 hpn hpm
  exact kk H1 locs1 hP2 hD2 hS1
theorem mu_Vl {post : Int64} {A0 : Nat → Prop} (isC isR perm : List Nat) (S : CallFix p m c0 cc nL s args Ts own) (hM : MUl l y ws rm (.ref b :: As) D c wc w1 post) (cw : CallW R s args own C index y bytes maxL ret ws rm 0 0 n) (hP : va_P D vwCl w H) (hK : KK D c s) (hD : va_D A0 w) (hS : va_S A0 H0 H locs) (hA : ∀ q : Nat, H0.size ≤ q → A0 q) (hrecv : ∃ cellB : Cell, H[b]? = some cellB ∧ cellB.vm.isStatics = false ∧ s.vm.findClass C = some cellB.cls)
    (hC : isC.map (fun i => w[i]?) = wc.map some) (hR : isR.map (fun i => w[i]?) = wr.map some) (hcn : va_nd isC = true) (hrn : va_nd isR = true) (hdis : ∀ i ∈ isR, i ∉ isC) (hpn : va_nd perm = true) (hpm : perm.map (fun i => (wr ++ w1)[i]?) = wk.map some)
    (hn : As.length = n) (hsize : ls.size = nL) (hstack : st0 = As.reverse ++ .ref b :: rest) (hW : (rest.map fun v => v.category).sum ≤ 8) (hdg : decode cc pc = .ok (.invokevirtual index, 3)) (hf : cells ≤ R.cells ∧ slots ≤ R.slots)
    (kk : ∀ (H1 : Heap) (locs1 : List Loc), va_P D vwCl wk H1 → va_D A0 wk → va_S A0 H0 H1 locs1 → W p l e R s m args below meth c0 H1 locs1 cells slots Q (F0 m (pc + 3) ls (.long post :: rest))) : W p l e R s m args below meth c0 H locs cells slots Q (F0 m pc ls st0) := by
  have hF := va_free hD hS hA isC hC
  refine va_calll (va_runV (g := F0 m pc ls st0) S (hM H.size) cw (mu_preV (hP.sb hC) (hD.sub isC hcn hC) hK hrecv) rfl hn hsize hstack (lv_room (rest := st0) hW) hdg hf) hS (fun q _ h => hF q h) hF (fun r u t H1 locs1 ht hvm hw hB hz1 hk1 hS1 => ?_)
  subst hw
  obtain ⟨hP1, hD1⟩ := hB
  rw [ht] at hP1
  obtain ⟨hP2, hD2⟩ := mu_back hP hD hS hA isC isR perm hC hR hrn hdis hk1 hP1 hD1 hpn hpm
  exact kk H1 locs1 hP2 hD2 hS1
theorem mu_Vv {A0 : Nat → Prop} (isC isR perm : List Nat) (S : CallFix p m c0 cc nL s args Ts own) (hM : MUv l y ws rm (.ref b :: As) D c wc w1) (cw : CallW R s args own C index y bytes maxL ret ws rm 0 0 n) (hP : va_P D vwCl w H) (hK : KK D c s) (hD : va_D A0 w) (hS : va_S A0 H0 H locs) (hA : ∀ q : Nat, H0.size ≤ q → A0 q) (hrecv : ∃ cellB : Cell, H[b]? = some cellB ∧ cellB.vm.isStatics = false ∧ s.vm.findClass C = some cellB.cls)
    (hC : isC.map (fun i => w[i]?) = wc.map some) (hR : isR.map (fun i => w[i]?) = wr.map some) (hcn : va_nd isC = true) (hrn : va_nd isR = true) (hdis : ∀ i ∈ isR, i ∉ isC) (hpn : va_nd perm = true) (hpm : perm.map (fun i => (wr ++ w1)[i]?) = wk.map some)
    (hn : As.length = n) (hsize : ls.size = nL) (hstack : st0 = As.reverse ++ .ref b :: rest) (hW : (rest.map fun v => v.category).sum ≤ 8) (hdg : decode cc pc = .ok (.invokevirtual index, 3)) (hf : cells ≤ R.cells ∧ slots ≤ R.slots)
    (kk : ∀ (H1 : Heap) (locs1 : List Loc), va_P D vwCl wk H1 → va_D A0 wk → va_S A0 H0 H1 locs1 → W p l e R s m args below meth c0 H1 locs1 cells slots Q (F0 m (pc + 3) ls rest)) : W p l e R s m args below meth c0 H locs cells slots Q (F0 m pc ls st0) := by
  have hF := va_free hD hS hA isC hC
  refine va_callv (va_runV (g := F0 m pc ls st0) S (hM H.size) cw (mu_preV (hP.sb hC) (hD.sub isC hcn hC) hK hrecv) rfl hn hsize hstack (lv_room (rest := st0) hW) hdg hf) hS (fun q _ h => hF q h) hF (fun u t H1 locs1 ht hvm hw hB hz1 hk1 hS1 => ?_)
  obtain ⟨hP1, hD1⟩ := hB
  rw [ht] at hP1
  obtain ⟨hP2, hD2⟩ := mu_back hP hD hS hA isC isR perm hC hR hrn hdis hk1 hP1 hD1 hpn hpm
  exact kk H1 locs1 hP2 hD2 hS1
/-! ### arrays at a known place; a number on the stack under another name -/
theorem tp_i {x z : Int32} (h : x = z) (k : W p l e R s m args below meth c0 H locs cells slots Q (F0 m pc ls (.int z :: rest))) : W p l e R s m args below meth c0 H locs cells slots Q (F0 m pc ls (.int x :: rest)) := by subst h; exact k
theorem tp_l {x z : Int64} (h : x = z) (k : W p l e R s m args below meth c0 H locs cells slots Q (F0 m pc ls (.long z :: rest))) : W p l e R s m args below meth c0 H locs cells slots Q (F0 m pc ls (.long x :: rest)) := by subst h; exact k
theorem in_nI {i N : Nat} (h : i < N) (hN : N < 2147483648) : vp_in (nI i) N := vp_in_nI h hN
theorem cl_nI {i N : Nat} (h : i < N) (hN : N < 2147483648) : (nI i).toNatClampNeg = i := nI_clamp (Nat.lt_trans h hN)
theorem ld_i (hx : p.tables.exec = Jvm.exec) (hb : c0.code = cc) (hK : KK D c s) (hP : va_P D vwCl w H) (q0 : Nat) {a N : Nat} {f : Nat → Int32} (ha : w[q0]? = some (a, .inl (c.1, N, .inl f))) {i : Nat} (hi : i < N) (hN : N < 2147483648) (hdg : decode cc pc = .ok (.iaload, 1))
    (kk : W p l e R s m args below meth c0 H locs cells slots Q (F0 m (pc + 1) ls (.int (f i) :: rest))) : W p l e R s m args below meth c0 H locs cells slots Q (F0 m pc ls (.int (nI i) :: .ref a :: rest)) :=
  va_iald hx hb hK.1 hP q0 0 ha rfl (in_nI hi hN) hdg (by rw [cl_nI hi hN]; exact kk)
theorem ld_l (hx : p.tables.exec = Jvm.exec) (hb : c0.code = cc) (hK : KK D c s) (hP : va_P D vwCl w H) (q0 : Nat) {a N : Nat} {f : Nat → Int64} (ha : w[q0]? = some (a, .inl (c.2.1, N, .inr (.inl f)))) {i : Nat} (hi : i < N) (hN : N < 2147483648) (hdg : decode cc pc = .ok (.laload, 1))
    (kk : W p l e R s m args below meth c0 H locs cells slots Q (F0 m (pc + 1) ls (.long (f i) :: rest))) : W p l e R s m args below meth c0 H locs cells slots Q (F0 m pc ls (.int (nI i) :: .ref a :: rest)) :=
  va_lald hx hb hK.1 hP q0 1 ha rfl (in_nI hi hN) hdg (by rw [cl_nI hi hN]; exact kk)
theorem ld_z (hx : p.tables.exec = Jvm.exec) (hb : c0.code = cc) (hK : KK D c s) (hP : va_P D vwCl w H) (q0 : Nat) {a N : Nat} {f : Nat → Int32} (ha : w[q0]? = some (a, .inl (c.2.2, N, .inl f))) {i : Nat} (hi : i < N) (hN : N < 2147483648) (hdg : decode cc pc = .ok (.baload, 1))
    (kk : W p l e R s m args below meth c0 H locs cells slots Q (F0 m (pc + 1) ls (.int (f i) :: rest))) : W p l e R s m args below meth c0 H locs cells slots Q (F0 m pc ls (.int (nI i) :: .ref a :: rest)) :=
  va_zald hx hb hK.1 hP q0 2 ha rfl (in_nI hi hN) hdg (by rw [cl_nI hi hN]; exact kk)
theorem st_i (hx : p.tables.exec = Jvm.exec) (hb : c0.code = cc) (hK : KK D c s) (hP : va_P D vwCl w H) (hD : va_D A w) (hS : va_S A H0 H locs) (q0 : Nat) {a N : Nat} {f : Nat → Int32} (ha : w[q0]? = some (a, .inl (c.1, N, .inl f))) {i : Nat} {x : Int32} (hi : i < N) (hN : N < 2147483648) (hdg : decode cc pc = .ok (.iastore, 1))
    (kk : ∀ (H1 : Heap) (locs1 : List Loc), va_P D vwCl (w.set q0 (a, .inl (c.1, N, .inl (upd f i x)))) H1 → va_D A (w.set q0 (a, .inl (c.1, N, .inl (upd f i x)))) → va_S A H0 H1 locs1 → W p l e R s m args below meth c0 H1 locs1 cells slots Q (F0 m (pc + 1) ls rest)) : W p l e R s m args below meth c0 H locs cells slots Q (F0 m pc ls (.int x :: .int (nI i) :: .ref a :: rest)) :=
  va_iast hx hb hK.1 hP hD hS q0 0 ha rfl (in_nI hi hN) hdg (by rw [cl_nI hi hN]; exact kk)
theorem st_l (hx : p.tables.exec = Jvm.exec) (hb : c0.code = cc) (hK : KK D c s) (hP : va_P D vwCl w H) (hD : va_D A w) (hS : va_S A H0 H locs) (q0 : Nat) {a N : Nat} {f : Nat → Int64} (ha : w[q0]? = some (a, .inl (c.2.1, N, .inr (.inl f)))) {i : Nat} {x : Int64} (hi : i < N) (hN : N < 2147483648) (hdg : decode cc pc = .ok (.lastore, 1))
    (kk : ∀ (H1 : Heap) (locs1 : List Loc), va_P D vwCl (w.set q0 (a, .inl (c.2.1, N, .inr (.inl (vp_updL f i x))))) H1 → va_D A (w.set q0 (a, .inl (c.2.1, N, .inr (.inl (vp_updL f i x))))) → va_S A H0 H1 locs1 → W p l e R s m args below meth c0 H1 locs1 cells slots Q (F0 m (pc + 1) ls rest)) : W p l e R s m args below meth c0 H locs cells slots Q (F0 m pc ls (.long x :: .int (nI i) :: .ref a :: rest)) :=
  va_last hx hb hK.1 hP hD hS q0 1 ha rfl (in_nI hi hN) hdg (by rw [cl_nI hi hN]; exact kk)
theorem st_z (hx : p.tables.exec = Jvm.exec) (hb : c0.code = cc) (hK : KK D c s) (hP : va_P D vwCl w H) (hD : va_D A w) (hS : va_S A H0 H locs) (q0 : Nat) {a N : Nat} {f : Nat → Int32} (ha : w[q0]? = some (a, .inl (c.2.2, N, .inl f))) {i : Nat} {x : Int32} (hi : i < N) (hN : N < 2147483648) (hz : vp_nar .boolean x = x) (hdg : decode cc pc = .ok (.bastore, 1))
    (kk : ∀ (H1 : Heap) (locs1 : List Loc), va_P D vwCl (w.set q0 (a, .inl (c.2.2, N, .inl (upd f i x)))) H1 → va_D A (w.set q0 (a, .inl (c.2.2, N, .inl (upd f i x)))) → va_S A H0 H1 locs1 → W p l e R s m args below meth c0 H1 locs1 cells slots Q (F0 m (pc + 1) ls rest)) : W p l e R s m args below meth c0 H locs cells slots Q (F0 m pc ls (.int x :: .int (nI i) :: .ref a :: rest)) :=
  va_zast hx hb hK.1 hP hD hS q0 2 ha rfl (in_nI hi hN) hdg (by rw [cl_nI hi hN, hz]; exact kk)
theorem nI_inc (i : Nat) : nI i + Int32.ofInt 1 = nI (i + 1) := nI_1 i
end BASE
end
section
/-! the states as plain numbers, and the cells that hold them -/
abbrev TS : Type := (Nat → Int32) × (Nat → Int32) × (Nat → Int32) × (Nat → Int32) × (Nat → Int64) × (Nat → Int32) × Nat
abbrev tKd (t : TS) : Nat → Int32 := t.1
abbrev tOt (t : TS) : Nat → Int32 := t.2.1
abbrev tNd (t : TS) : Nat → Int32 := t.2.2.1
abbrev tCh (t : TS) : Nat → Int32 := t.2.2.2.1
abbrev tPa (t : TS) : Nat → Int64 := t.2.2.2.2.1
abbrev tTn (t : TS) : Nat → Int32 := t.2.2.2.2.2.1
abbrev tT (t : TS) : Nat := t.2.2.2.2.2.2
abbrev HS : Type := (Nat → Int64) × (Nat → Int64) × (Nat → Int64) × Nat
abbrev hCg (h : HS) : Nat → Int64 := h.1
abbrev hFe (h : HS) : Nat → Int64 := h.2.1
abbrev hPs (h : HS) : Nat → Int64 := h.2.2.1
abbrev hB (h : HS) : Nat := h.2.2.2
abbrev PS : Type := (Nat → Int32) × Nat × Int32 × Int32 × Int64 × Int64 × Int32
abbrev pRow (p : PS) : Nat → Int32 := p.1
abbrev pN (p : PS) : Nat := p.2.1
abbrev pBits (p : PS) : Int32 := p.2.2.1
abbrev pSpan (p : PS) : Int32 := p.2.2.2.1
abbrev pSeen (p : PS) : Int64 := p.2.2.2.2.1
abbrev pChg (p : PS) : Int64 := p.2.2.2.2.2.1
abbrev pTh (p : PS) : Int32 := p.2.2.2.2.2.2
abbrev SS : Type := (Nat → Int32) × (Nat → Int32) × (Nat → Int32) × (Nat → Int64) × Nat × (Nat → Int32) × (Nat → Int32) × (Nat → Int32) × (Nat → Int64) × Int32 × Int32 × Int64
abbrev sTb (t : SS) : Nat → Int32 := t.1
abbrev sCh (t : SS) : Nat → Int32 := t.2.1
abbrev sTi (t : SS) : Nat → Int32 := t.2.2.1
abbrev sCo (t : SS) : Nat → Int64 := t.2.2.2.1
abbrev sN (t : SS) : Nat := t.2.2.2.2.1
abbrev sBf (t : SS) : Nat → Int32 := t.2.2.2.2.2.1
abbrev sCf (t : SS) : Nat → Int32 := t.2.2.2.2.2.2.1
abbrev sTf (t : SS) : Nat → Int32 := t.2.2.2.2.2.2.2.1
abbrev sVf (t : SS) : Nat → Int64 := t.2.2.2.2.2.2.2.2.1
abbrev sFb (t : SS) : Int32 := t.2.2.2.2.2.2.2.2.2.1
abbrev sFt (t : SS) : Int32 := t.2.2.2.2.2.2.2.2.2.2.1
abbrev sFc (t : SS) : Int64 := t.2.2.2.2.2.2.2.2.2.2.2
abbrev MS : Type := (Nat → Int32) × Int32 × Int64
abbrev mFc (t : MS) : Nat → Int32 := t.1
abbrev mLf (t : MS) : Int32 := t.2.1
abbrev mLa (t : MS) : Int64 := t.2.2
abbrev CS : Type := MS × TS × HS × PS × SS
abbrev wT (q : Nat → Nat) (c : CT) (t : TS) : va_W := [(q 2, .inr (3, [.ref (q 3), .ref (q 4), .ref (q 5), .ref (q 6), .ref (q 7), .ref (q 8), .int (nI (tT t))])), (q 3, .inl (c.1, 20, .inl (tKd t))), (q 4, .inl (c.1, 20, .inl (tOt t))), (q 5, .inl (c.1, 20, .inl (tNd t))), (q 6, .inl (c.1, 20, .inl (tCh t))), (q 7, .inl (c.2.1, 20, .inr (.inl (tPa t)))), (q 8, .inl (c.2.2, 20, .inl (tTn t)))]
abbrev wH (q : Nat → Nat) (c : CT) (h : HS) : va_W := [(q 9, .inr (0, [.ref (q 10), .ref (q 11), .ref (q 12), .int (nI (hB h))])), (q 10, .inl (c.2.1, 60, .inr (.inl (hCg h)))), (q 11, .inl (c.2.1, 20, .inr (.inl (hFe h)))), (q 12, .inl (c.2.1, 20, .inr (.inl (hPs h))))]
abbrev wP (q : Nat → Nat) (c : CT) (p : PS) : va_W := [(q 13, .inr (1, [.ref (q 14), .int (nI (pN p)), .int (pBits p), .int (pSpan p), .long (pSeen p), .long (pChg p), .int (pTh p)])), (q 14, .inl (c.1, 20, .inl (pRow p)))]
abbrev wS (q : Nat → Nat) (c : CT) (t : SS) : va_W := [(q 15, .inr (2, [.ref (q 16), .ref (q 17), .ref (q 18), .ref (q 19), .int (nI (sN t)), .ref (q 20), .ref (q 21), .ref (q 22), .ref (q 23), .int (sFb t), .int (sFt t), .long (sFc t)])), (q 16, .inl (c.1, 12, .inl (sTb t))), (q 17, .inl (c.1, 12, .inl (sCh t))), (q 18, .inl (c.1, 12, .inl (sTi t))), (q 19, .inl (c.2.1, 12, .inr (.inl (sCo t)))), (q 20, .inl (c.1, 13, .inl (sBf t))), (q 21, .inl (c.1, 13, .inl (sCf t))), (q 22, .inl (c.1, 13, .inl (sTf t))), (q 23, .inl (c.2.1, 13, .inr (.inl (sVf t))))]
abbrev wM (q : Nat → Nat) (c : CT) (t : MS) : va_W := [(q 0, .inr (4, [.ref (q 2), .ref (q 9), .ref (q 13), .ref (q 15), .ref (q 1), .int (mLf t), .long (mLa t)])), (q 1, .inl (c.1, 5, .inl (mFc t)))]
abbrev wC (q : Nat → Nat) (c : CT) (t : CS) : va_W := wM q c t.1 ++ (wT q c t.2.1 ++ (wH q c t.2.2.1 ++ (wP q c t.2.2.2.1 ++ wS q c t.2.2.2.2)))
/-- the reference's: finding findings tests kinds times needs missing bytes builds changes verdicts asked moving pickMany picks pickTime pickParts pickSet may -/
abbrev GS : Type := Int32 × (Nat → Int32) × Nat × (Nat → Int32) × (Nat → Int32) × (Nat → Int32) × (Nat → Int32) × (Nat → Int32) × Nat × (Nat → Int64) × (Nat → Int32) × Int64 × (Nat → Int32) × Int32 × (Nat → Int32) × Int32 × Int32 × Int32 × (Nat → Int32)
abbrev gFi (g : GS) : Int32 := g.1
abbrev gFs (g : GS) : Nat → Int32 := g.2.1
abbrev gT (g : GS) : Nat := g.2.2.1
abbrev gKd (g : GS) : Nat → Int32 := g.2.2.2.1
abbrev gTi (g : GS) : Nat → Int32 := g.2.2.2.2.1
abbrev gNd (g : GS) : Nat → Int32 := g.2.2.2.2.2.1
abbrev gMs (g : GS) : Nat → Int32 := g.2.2.2.2.2.2.1
abbrev gBy (g : GS) : Nat → Int32 := g.2.2.2.2.2.2.2.1
abbrev gB (g : GS) : Nat := g.2.2.2.2.2.2.2.2.1
abbrev gCg (g : GS) : Nat → Int64 := g.2.2.2.2.2.2.2.2.2.1
abbrev gVe (g : GS) : Nat → Int32 := g.2.2.2.2.2.2.2.2.2.2.1
abbrev gAs (g : GS) : Int64 := g.2.2.2.2.2.2.2.2.2.2.2.1
abbrev gMv (g : GS) : Nat → Int32 := g.2.2.2.2.2.2.2.2.2.2.2.2.1
abbrev gPm (g : GS) : Int32 := g.2.2.2.2.2.2.2.2.2.2.2.2.2.1
abbrev gPk (g : GS) : Nat → Int32 := g.2.2.2.2.2.2.2.2.2.2.2.2.2.2.1
abbrev gPt (g : GS) : Int32 := g.2.2.2.2.2.2.2.2.2.2.2.2.2.2.2.1
abbrev gPp (g : GS) : Int32 := g.2.2.2.2.2.2.2.2.2.2.2.2.2.2.2.2.1
abbrev gPs (g : GS) : Int32 := g.2.2.2.2.2.2.2.2.2.2.2.2.2.2.2.2.2.1
abbrev gMay (g : GS) : Nat → Int32 := g.2.2.2.2.2.2.2.2.2.2.2.2.2.2.2.2.2.2
abbrev wG (z : Nat → Nat) (c : CT) (g : GS) : va_W := [(z 0, .inr (5, [.int (gFi g), .ref (z 1), .int (nI (gT g)), .ref (z 2), .ref (z 3), .ref (z 4), .ref (z 5), .ref (z 6), .int (nI (gB g)), .ref (z 7), .ref (z 8), .long (gAs g), .ref (z 9), .int (gPm g), .ref (z 10), .int (gPt g), .int (gPp g), .int (gPs g), .ref (z 11)])), (z 1, .inl (c.1, 5, .inl (gFs g))), (z 2, .inl (c.1, 20, .inl (gKd g))), (z 3, .inl (c.1, 20, .inl (gTi g))), (z 4, .inl (c.1, 20, .inl (gNd g))), (z 5, .inl (c.2.2, 20, .inl (gMs g))), (z 6, .inl (c.1, 100, .inl (gBy g))), (z 7, .inl (c.2.1, 60, .inr (.inl (gCg g)))), (z 8, .inl (c.1, 1200, .inl (gVe g))), (z 9, .inl (c.1, 5, .inl (gMv g))), (z 10, .inl (c.1, 20, .inl (gPk g))), (z 11, .inl (c.1, 20, .inl (gMay g)))]
/-! small words for answers -/
def bI (b : Bool) : Int32 := if b then 1 else 0
theorem bI_or (b : Bool) : bI b = 0 ∨ bI b = 1 := by cases b <;> simp [bI]
theorem bI_z {b : Bool} : bI b = 0 ↔ b = false := by cases b <;> simp [bI]
theorem bI_nz {b : Bool} : ¬ bI b = 0 ↔ b = true := by cases b <;> simp [bI]
theorem bI_t {b : Bool} (h : b = true) : bI b = 1 := by simp [bI, h]
theorem bI_f {b : Bool} (h : b = false) : bI b = 0 := by simp [bI, h]
theorem lg_ne {x y : Int64} : (¬ lg_cmp x y = 0) ↔ ¬ x = y := not_congr (lg_cmp_eq x y)
theorem lg_nle {x y : Int64} : (¬ lg_cmp x y ≤ 0) ↔ y < x := by rw [lg_cmp_le, Int64.not_le]
theorem lg_nge {x y : Int64} : (¬ 0 ≤ lg_cmp x y) ↔ x < y := by rw [lg_cmp_ge, Int64.not_le]
theorem lg_ngt {x y : Int64} : (¬ 0 < lg_cmp x y) ↔ x ≤ y := by rw [lg_cmp_gt, Int64.not_lt]
theorem lg_nlt {x y : Int64} : (¬ lg_cmp x y < 0) ↔ y ≤ x := by rw [lg_cmp_lt, Int64.not_lt]
theorem ix_ex {x : Int32} {N : Nat} (hN : N < 2147483648) (h0 : ¬ x < 0) (h1 : ¬ nI N ≤ x) : ∃ t : Nat, t < N ∧ x = nI t := by
  rcases pk_ix x (n := N) hN with h | h | h
  · exact absurd h h0
  · exact absurd h h1
  · exact h
abbrev QRi (below : List Frame) (args : Array Value) (s : State) (post : Int32) : State → Prop := MQ below (vp_Si (fun r => r = post)) args s 0 0 (fun _ => False)
abbrev QRl (below : List Frame) (args : Array Value) (s : State) (post : Int64) : State → Prop := MQ below (vp_Sl (fun r => r = post)) args s 0 0 (fun _ => False)
abbrev QMi (below : List Frame) (args : Array Value) (s : State) (D : va_G) (c : CT) (w w' : va_W) (post : Int32) : State → Prop := MQ below (va_Qi (fun (r : Int32) (_ : Unit) => r = post) (MB D c w w' s.heap.size) (va_A w s.heap.size)) args s 0 0 (va_A w s.heap.size)
abbrev QMl (below : List Frame) (args : Array Value) (s : State) (D : va_G) (c : CT) (w w' : va_W) (post : Int64) : State → Prop := MQ below (va_Ql (fun (r : Int64) (_ : Unit) => r = post) (MB D c w w' s.heap.size) (va_A w s.heap.size)) args s 0 0 (va_A w s.heap.size)
abbrev QMv (below : List Frame) (args : Array Value) (s : State) (D : va_G) (c : CT) (w w' : va_W) : State → Prop := MQ below (va_Qv (fun (_ : Unit) => True) (MB D c w w' s.heap.size) (va_A w s.heap.size)) args s 0 0 (va_A w s.heap.size)
theorem va_P0 {D : va_G} {H : Heap} : va_P D vwCl [] H := fun k q h => by simp at h
end
section
/-! bits of an int (bt) and of a long (bl); bt's first rows began as the kit's BITS text -/
def bt (x : Int32) (i : Nat) : Bool := x.toBitVec.getLsbD i
def bl (x : Int64) (i : Nat) : Bool := x.toBitVec.getLsbD i
def bL (b : Bool) : Int64 := if b then 1 else 0
theorem b_ext {x y : Int32} (h : ∀ i, i < 32 → bt x i = bt y i) : x = y := Int32.toBitVec_inj.mp (BitVec.eq_of_getLsbD_eq (fun i hi => h i hi))
theorem b_or (x y : Int32) (i : Nat) : bt (x ||| y) i = (bt x i || bt y i) := by unfold bt; rw [Int32.toBitVec_or, BitVec.getLsbD_or]
theorem b_and (x y : Int32) (i : Nat) : bt (x &&& y) i = (bt x i && bt y i) := by unfold bt; rw [Int32.toBitVec_and, BitVec.getLsbD_and]
theorem b_xor (x y : Int32) (i : Nat) : bt (x ^^^ y) i = (bt x i ^^ bt y i) := by unfold bt; rw [Int32.toBitVec_xor, BitVec.getLsbD_xor]
theorem b_big {x : Int32} {i : Nat} (h : 32 ≤ i) : bt x i = false := BitVec.getLsbD_of_ge _ _ h
theorem b_m1 : ∀ i, i < 32 → bt (-1) i = true := by decide +kernel
theorem b_0 (i : Nat) : bt 0 i = false := BitVec.getLsbD_zero
theorem b_not (x : Int32) {i : Nat} (h : i < 32) : bt (x ^^^ (-1)) i = !bt x i := by rw [b_xor, b_m1 i h]; cases bt x i <;> rfl
theorem b_1 (i : Nat) : bt 1 i = decide (i = 0) := by
  rcases Nat.lt_or_ge i 32 with h | h
  · exact (by decide +kernel : ∀ i, i < 32 → bt 1 i = decide (i = 0)) i h
  · rw [b_big h, decide_eq_false (by omega)]
theorem s_l : ∀ n, n < 32 → ((nI n &&& 31).toBitVec.smod 32).toNat = n := by decide +kernel
theorem s_u : ∀ n, n < 32 → (((nI n).toUInt32 &&& Int32.toUInt32 31).toBitVec % 32).toNat = n := by decide +kernel
theorem b_shl (n : Nat) (hn : n < 32) (x : Int32) {i : Nat} (hi : i < 32) : bt (x <<< (nI n &&& 31)) i = (decide (n ≤ i) && bt x (i - n)) := by
  unfold bt
  rw [Int32.toBitVec_shiftLeft]
  show (x.toBitVec <<< ((nI n &&& 31).toBitVec.smod 32).toNat).getLsbD i = _
  rw [s_l n hn, BitVec.getLsbD_shiftLeft]
  rcases Nat.lt_or_ge i n with h | h
  · simp [h, Nat.not_le.mpr h]
  · simp [hi, h, Nat.not_lt.mpr h]
theorem b_ushr (n : Nat) (hn : n < 32) (x : Int32) (i : Nat) : bt ((x.toUInt32 >>> ((nI n).toUInt32 &&& Int32.toUInt32 31)).toInt32) i = bt x (n + i) := by
  show (x.toUInt32 >>> ((nI n).toUInt32 &&& Int32.toUInt32 31)).toBitVec.getLsbD i = x.toUInt32.toBitVec.getLsbD (n + i)
  rw [UInt32.toBitVec_shiftRight]
  show (x.toUInt32.toBitVec >>> (((nI n).toUInt32 &&& Int32.toUInt32 31).toBitVec % 32).toNat).getLsbD i = _
  rw [s_u n hn, BitVec.getLsbD_ushiftRight]
theorem b_sshr (n : Nat) (hn : n < 32) (x : Int32) {i : Nat} (hi : i < 32) : bt (x >>> (nI n &&& 31)) i = if n + i < 32 then bt x (n + i) else bt x 31 := by
  unfold bt
  rw [Int32.toBitVec_shiftRight]
  show (x.toBitVec.sshiftRight ((nI n &&& 31).toBitVec.smod 32).toNat).getLsbD i = _
  rw [s_l n hn, BitVec.getLsbD_sshiftRight, BitVec.msb_eq_getLsbD_last]
  simp [hi]
/-- the set of one number -/
def one (t : Nat) : Int32 := 1 <<< (nI t &&& 31)
theorem b_one {t i : Nat} (ht : t < 32) (hi : i < 32) : bt (one t) i = decide (i = t) := by
  unfold one
  rw [b_shl t ht 1 hi, b_1]
  rcases Nat.lt_trichotomy i t with h | h | h
  · simp [Nat.not_le.mpr h, Nat.ne_of_lt h]
  · subst h; simp
  · have h1 : ¬ (i - t = 0) := by omega
    have h2 : ¬ (i = t) := by omega
    simp [h1, h2]
theorem and1 (x : Int32) : x &&& 1 = bI (bt x 0) := by
  apply b_ext
  intro i hi
  rw [b_and, b_1]
  by_cases h : i = 0
  · subst h
    cases hb : bt x 0 <;> simp [bI, b_1, b_0]
  · cases hb : bt x 0 <;> simp [bI, b_1, b_0, h]
theorem in_u {t : Nat} (ht : t < 32) (x : Int32) : (x.toUInt32 >>> ((nI t).toUInt32 &&& Int32.toUInt32 31)).toInt32 &&& 1 = bI (bt x t) := by rw [and1, b_ushr t ht]; rfl
theorem in_s {t : Nat} (ht : t < 32) (x : Int32) : (x >>> (nI t &&& 31)) &&& 1 = bI (bt x t) := by rw [and1, b_sshr t ht x (by decide), if_pos (by omega)]; rfl
theorem bI_1 {b : Bool} : bI b = 1 ↔ b = true := by cases b <;> simp [bI]
theorem bI_n1 {b : Bool} : ¬ bI b = 1 ↔ b = false := by cases b <;> simp [bI]
/-! longs -/
theorem l_ext {x y : Int64} (h : ∀ i, i < 64 → bl x i = bl y i) : x = y := Int64.toBitVec_inj.mp (BitVec.eq_of_getLsbD_eq (fun i hi => h i hi))
theorem l_or (x y : Int64) (i : Nat) : bl (x ||| y) i = (bl x i || bl y i) := by unfold bl; rw [Int64.toBitVec_or, BitVec.getLsbD_or]
theorem l_and (x y : Int64) (i : Nat) : bl (x &&& y) i = (bl x i && bl y i) := by unfold bl; rw [Int64.toBitVec_and, BitVec.getLsbD_and]
theorem l_xor (x y : Int64) (i : Nat) : bl (x ^^^ y) i = (bl x i ^^ bl y i) := by unfold bl; rw [Int64.toBitVec_xor, BitVec.getLsbD_xor]
theorem l_big {x : Int64} {i : Nat} (h : 64 ≤ i) : bl x i = false := BitVec.getLsbD_of_ge _ _ h
theorem l_m1 : ∀ i, i < 64 → bl (-1) i = true := by decide +kernel
theorem l_0 (i : Nat) : bl 0 i = false := BitVec.getLsbD_zero
theorem l_not (x : Int64) {i : Nat} (h : i < 64) : bl (x ^^^ (-1)) i = !bl x i := by rw [l_xor, l_m1 i h]; cases bl x i <;> rfl
theorem l_1 (i : Nat) : bl 1 i = decide (i = 0) := by
  rcases Nat.lt_or_ge i 64 with h | h
  · exact (by decide +kernel : ∀ i, i < 64 → bl 1 i = decide (i = 0)) i h
  · rw [l_big h, decide_eq_false (by omega)]
theorem sl_l : ∀ n, n < 64 → (((nI n).toInt64 &&& 63).toBitVec.smod 64).toNat = n := by decide +kernel
theorem sl_u : ∀ n, n < 64 → (((nI n).toInt64.toUInt64 &&& Int64.toUInt64 63).toBitVec % 64).toNat = n := by decide +kernel
theorem l_shl (n : Nat) (hn : n < 64) (x : Int64) {i : Nat} (hi : i < 64) : bl (x <<< ((nI n).toInt64 &&& 63)) i = (decide (n ≤ i) && bl x (i - n)) := by
  unfold bl
  rw [Int64.toBitVec_shiftLeft]
  show (x.toBitVec <<< (((nI n).toInt64 &&& 63).toBitVec.smod 64).toNat).getLsbD i = _
  rw [sl_l n hn, BitVec.getLsbD_shiftLeft]
  rcases Nat.lt_or_ge i n with h | h
  · simp [h, Nat.not_le.mpr h]
  · simp [hi, h, Nat.not_lt.mpr h]
theorem l_ushr (n : Nat) (hn : n < 64) (x : Int64) (i : Nat) : bl ((x.toUInt64 >>> ((nI n).toInt64.toUInt64 &&& Int64.toUInt64 63)).toInt64) i = bl x (n + i) := by
  show (x.toUInt64 >>> ((nI n).toInt64.toUInt64 &&& Int64.toUInt64 63)).toBitVec.getLsbD i = x.toUInt64.toBitVec.getLsbD (n + i)
  rw [UInt64.toBitVec_shiftRight]
  show (x.toUInt64.toBitVec >>> (((nI n).toInt64.toUInt64 &&& Int64.toUInt64 63).toBitVec % 64).toNat).getLsbD i = _
  rw [sl_u n hn, BitVec.getLsbD_ushiftRight]
theorem l_sshr (n : Nat) (hn : n < 64) (x : Int64) {i : Nat} (hi : i < 64) : bl (x >>> ((nI n).toInt64 &&& 63)) i = if n + i < 64 then bl x (n + i) else bl x 63 := by
  unfold bl
  rw [Int64.toBitVec_shiftRight]
  show (x.toBitVec.sshiftRight (((nI n).toInt64 &&& 63).toBitVec.smod 64).toNat).getLsbD i = _
  rw [sl_l n hn, BitVec.getLsbD_sshiftRight, BitVec.msb_eq_getLsbD_last]
  simp [hi]
def oneL (t : Nat) : Int64 := 1 <<< ((nI t).toInt64 &&& 63)
theorem l_one {t i : Nat} (ht : t < 64) (hi : i < 64) : bl (oneL t) i = decide (i = t) := by
  unfold oneL
  rw [l_shl t ht 1 hi, l_1]
  rcases Nat.lt_trichotomy i t with h | h | h
  · simp [Nat.not_le.mpr h, Nat.ne_of_lt h]
  · subst h; simp
  · have h1 : ¬ (i - t = 0) := by omega
    have h2 : ¬ (i = t) := by omega
    simp [h1, h2]
theorem and1L (x : Int64) : x &&& 1 = bL (bl x 0) := by
  apply l_ext
  intro i hi
  rw [l_and, l_1]
  by_cases h : i = 0
  · subst h
    cases hb : bl x 0 <;> simp [bL, l_1, l_0]
  · cases hb : bl x 0 <;> simp [bL, l_1, l_0, h]
theorem in_uL {t : Nat} (ht : t < 64) (x : Int64) : (x.toUInt64 >>> ((nI t).toInt64.toUInt64 &&& Int64.toUInt64 63)).toInt64 &&& 1 = bL (bl x t) := by rw [and1L, l_ushr t ht]; rfl
theorem in_sL {t : Nat} (ht : t < 64) (x : Int64) : (x >>> ((nI t).toInt64 &&& 63)) &&& 1 = bL (bl x t) := by rw [and1L, l_sshr t ht x (by decide), if_pos (by omega)]; rfl
theorem bL_1 {b : Bool} : bL b = 1 ↔ b = true := by cases b <;> simp [bL]
theorem bL_n1 {b : Bool} : ¬ bL b = 1 ↔ b = false := by cases b <;> simp [bL]
theorem bL_i (b : Bool) : (bL b).toInt32 = bI b := by cases b <;> rfl
/-- a number is in 0 .. N - 1 -/
def inN (x : Int32) (N : Nat) : Bool := decide (¬ x < 0) && decide (¬ nI N ≤ x)
theorem inN_ex {x : Int32} {N : Nat} (hN : N < 2147483648) (h : inN x N = true) : ∃ t : Nat, t < N ∧ x = nI t := by
  simp only [inN, Bool.and_eq_true, decide_eq_true_eq] at h
  exact ix_ex hN h.1 h.2
theorem inN_nI {t N : Nat} (hN : N < 2147483648) (h : t < N) : inN (nI t) N = true := by
  simp only [inN, Bool.and_eq_true, decide_eq_true_eq]
  exact ⟨nI_pos (by omega), nI_ge h (by omega)⟩
end
section
/-! what the readers answer -/
def rg (x a b : Int32) : Bool := !decide (x < a) && !decide (b < x)
def stB (i n : Int32) : Bool := !decide (i < 0) && !decide (5 < i) && !decide (5 - i < n)
def hAll (x : Int32) (T : Nat) : Bool := decide ((x.toUInt32 >>> ((nI T).toUInt32 &&& Int32.toUInt32 31)).toInt32 = 0)
def cTm (kd ot : Nat → Int32) (t : Nat) : Int32 := if kd t = 1 then 3 * ot t else ot t
def tmS (kd ot : Nat → Int32) (x : Int32) : Nat → Int32
  | 0 => 0
  | n + 1 => tmS kd ot x n + (if bt x n then cTm kd ot n else 0)
def paS (pa : Nat → Int64) (x : Int32) : Nat → Int64
  | 0 => 0
  | n + 1 => paS pa x n ||| (if bt x n then pa n else 0)
def vIn (fe ps : Nat → Int64) (t b : Nat) : Int32 := if bl (fe t) b then 1 else if bl (ps t) b then 0 else -9
def byB (x : Int64) (i : Nat) : Int32 := (((x.toUInt64 >>> ((nI (8 * i)).toInt64.toUInt64 &&& Int64.toUInt64 63)).toInt64) &&& 255).toInt32
def pcg (cg : Nat → Int64) (B : Nat) : Int64 := if B = 0 then 0 else cg (B - 1)
def bitsN (x : Int64) : Nat → Int32
  | 0 => 0
  | k + 1 => bitsN x k + bI (bl x k)
theorem mul8 (i : Nat) : (8 : Int32) * nI i = nI (8 * i) := pk_mul 8 i
theorem pred1 {n : Nat} (h : 0 < n) : nI n - 1 = nI (n - 1) := by
  obtain ⟨k, rfl⟩ : ∃ k, n = k + 1 := ⟨n - 1, by omega⟩
  rw [nI_pred]; rfl
end
section
/-! the JDK's bit counts and trailing zeros, as their code has them -/
def swL (x : Int64) : Int64 :=
  let a := x - ((x.toUInt64 >>> ((1 : Int32).toInt64.toUInt64 &&& Int64.toUInt64 63)).toInt64 &&& 6148914691236517205)
  let b := (a &&& 3689348814741910323) + ((a.toUInt64 >>> ((2 : Int32).toInt64.toUInt64 &&& Int64.toUInt64 63)).toInt64 &&& 3689348814741910323)
  let c := (b + (b.toUInt64 >>> ((4 : Int32).toInt64.toUInt64 &&& Int64.toUInt64 63)).toInt64) &&& 1085102592571150095
  let d := c + (c.toUInt64 >>> ((8 : Int32).toInt64.toUInt64 &&& Int64.toUInt64 63)).toInt64
  let e := d + (d.toUInt64 >>> ((16 : Int32).toInt64.toUInt64 &&& Int64.toUInt64 63)).toInt64
  e + (e.toUInt64 >>> ((32 : Int32).toInt64.toUInt64 &&& Int64.toUInt64 63)).toInt64
def swI (x : Int32) : Int32 :=
  let a := x - ((x.toUInt32 >>> ((1 : Int32).toUInt32 &&& Int32.toUInt32 31)).toInt32 &&& 1431655765)
  let b := (a &&& 858993459) + ((a.toUInt32 >>> ((2 : Int32).toUInt32 &&& Int32.toUInt32 31)).toInt32 &&& 858993459)
  let c := (b + (b.toUInt32 >>> ((4 : Int32).toUInt32 &&& Int32.toUInt32 31)).toInt32) &&& 252645135
  let d := c + (c.toUInt32 >>> ((8 : Int32).toUInt32 &&& Int32.toUInt32 31)).toInt32
  d + (d.toUInt32 >>> ((16 : Int32).toUInt32 &&& Int32.toUInt32 31)).toInt32
/-- how many bits, counted one by one -/
def pcL (x : Int64) : Nat → Int32
  | 0 => 0
  | k + 1 => pcL x k + bI (bl x k)
def pcI (x : Int32) : Nat → Int32
  | 0 => 0
  | k + 1 => pcI x k + bI (bt x k)
abbrev popL (x : Int64) : Int32 := pcL x 64
abbrev popI (x : Int32) : Int32 := pcI x 32
theorem swL_pop (x : Int64) : (swL x).toInt32 &&& 127 = popL x := by sorry
theorem swI_pop (x : Int32) : swI x &&& 63 = popI x := by sorry
def tz1 (m : Int32) (k : Int32) (s : Int32) : Int32 := if m ≤ k then m else (m.toUInt32 >>> (s.toUInt32 &&& Int32.toUInt32 31)).toInt32
def tzI (x : Int32) : Int32 :=
  let m := (x ^^^ (-1)) &&& (x - 1)
  if 0 < m then
    let a := tz1 m 65536 16
    let b := tz1 a 256 8
    let c := tz1 b 16 4
    let d := tz1 c 4 2
    (((1 + (if m ≤ 65536 then 0 else 16)) + (if a ≤ 256 then 0 else 8)) + (if b ≤ 16 then 0 else 4)) + (if c ≤ 4 then 0 else 2) + (d.toUInt32 >>> ((1 : Int32).toUInt32 &&& Int32.toUInt32 31)).toInt32
  else m &&& 32
def tzL (x : Int64) : Int32 := if x.toInt32 = 0 then 32 + tzI ((x.toUInt64 >>> ((32 : Int32).toInt64.toUInt64 &&& Int64.toUInt64 63)).toInt64).toInt32 else tzI x.toInt32
end
section
set_option maxHeartbeats 4000000 in
set_option maxRecDepth 100000 in
theorem c_X4_isKind (l : Launch) (D : va_G) (c : CT) (x : Int32)  : ROi l yX4_isKind wsX4_isKind ({ frames := 0, cells := 0, slots := 0, locals := 0 } : Room) [.int x] D c ([]) (bI (rg x 0 3)) := by
  refine ro_starti (cc := cX4_isKind) (maxL := 1) (ret := some .boolean) (by decide) rfl (Nat.le_of_ble_eq_true rfl) ?_
  intro p e s m args below meth c0 ls hx hb hr hml hown hts hlk hP hK hl
  have hown : s.vm.findClass RX4 = some m.cls := hown
  have hl : lv_has ls 1 [(0, .int x)] := hl
  refine lv_iload_n hx hb dX4_isKind_0 rfl (lv_at hl 0 rfl) ?_
  refine lv_if_lt (tgt := 13) hx hb dX4_isKind_1 (by decide) (fun c1 => ?_) (fun c1 => ?_)
  · -- 1 True
    refine lv_iconst (v := 0) hx hb dX4_isKind_13 (by decide) ?_
    exact ro_retz hx hb hr hlk (by decide) (by simp [rg, bI, c1]) dX4_isKind_14
  · -- 1 False
    refine lv_iload_n hx hb dX4_isKind_4 rfl (lv_at hl 0 rfl) ?_
    refine lv_iconst (v := 3) hx hb dX4_isKind_5 (by decide) ?_
    refine lv_icmp_gt (tgt := 13) hx hb dX4_isKind_6 (by decide) (fun c6 => ?_) (fun c6 => ?_)
    · -- 6 True
      refine lv_iconst (v := 0) hx hb dX4_isKind_13 (by decide) ?_
      exact ro_retz hx hb hr hlk (by decide) (by simp [rg, bI, c1, c6]) dX4_isKind_14
    · -- 6 False
      refine lv_iconst (v := 1) hx hb dX4_isKind_9 (by decide) ?_
      refine lv_goto (tgt := 14) hx hb dX4_isKind_10 (by decide) ?_
      exact ro_retz hx hb hr hlk (by decide) (by simp [rg, bI, c1, c6]) dX4_isKind_14

set_option maxHeartbeats 4000000 in
set_option maxRecDepth 100000 in
theorem c_X4_isPlace (l : Launch) (D : va_G) (c : CT) (x : Int32)  : ROi l yX4_isPlace wsX4_isPlace ({ frames := 0, cells := 0, slots := 0, locals := 0 } : Room) [.int x] D c ([]) (bI (inN x 5)) := by
  refine ro_starti (cc := cX4_isPlace) (maxL := 1) (ret := some .boolean) (by decide) rfl (Nat.le_of_ble_eq_true rfl) ?_
  intro p e s m args below meth c0 ls hx hb hr hml hown hts hlk hP hK hl
  have hown : s.vm.findClass RX4 = some m.cls := hown
  have hl : lv_has ls 1 [(0, .int x)] := hl
  refine lv_iload_n hx hb dX4_isPlace_0 rfl (lv_at hl 0 rfl) ?_
  refine lv_if_lt (tgt := 13) hx hb dX4_isPlace_1 (by decide) (fun c1 => ?_) (fun c1 => ?_)
  · -- 1 True
    refine lv_iconst (v := 0) hx hb dX4_isPlace_13 (by decide) ?_
    exact ro_retz hx hb hr hlk (by decide) (by simp [inN, bI, show nI 5 = 5 from rfl, c1]) dX4_isPlace_14
  · -- 1 False
    refine lv_iload_n hx hb dX4_isPlace_4 rfl (lv_at hl 0 rfl) ?_
    refine lv_iconst (v := 5) hx hb dX4_isPlace_5 (by decide) ?_
    refine lv_icmp_ge (tgt := 13) hx hb dX4_isPlace_6 (by decide) (fun c6 => ?_) (fun c6 => ?_)
    · -- 6 True
      refine lv_iconst (v := 0) hx hb dX4_isPlace_13 (by decide) ?_
      exact ro_retz hx hb hr hlk (by decide) (by simp [inN, bI, show nI 5 = 5 from rfl, c1, c6]) dX4_isPlace_14
    · -- 6 False
      refine lv_iconst (v := 1) hx hb dX4_isPlace_9 (by decide) ?_
      refine lv_goto (tgt := 14) hx hb dX4_isPlace_10 (by decide) ?_
      exact ro_retz hx hb hr hlk (by decide) (by simp [inN, bI, show nI 5 = 5 from rfl, c1, c6]) dX4_isPlace_14

set_option maxHeartbeats 4000000 in
set_option maxRecDepth 100000 in
theorem c_X4_isStretch (l : Launch) (D : va_G) (c : CT) (x y : Int32)  : ROi l yX4_isStretch wsX4_isStretch ({ frames := 0, cells := 0, slots := 0, locals := 0 } : Room) [.int x, .int y] D c ([]) (bI (stB x y)) := by
  refine ro_starti (cc := cX4_isStretch) (maxL := 2) (ret := some .boolean) (by decide) rfl (Nat.le_of_ble_eq_true rfl) ?_
  intro p e s m args below meth c0 ls hx hb hr hml hown hts hlk hP hK hl
  have hown : s.vm.findClass RX4 = some m.cls := hown
  have hl : lv_has ls 2 [(0, .int x), (1, .int y)] := hl
  refine lv_iload_n hx hb dX4_isStretch_0 rfl (lv_at hl 0 rfl) ?_
  refine lv_if_lt (tgt := 20) hx hb dX4_isStretch_1 (by decide) (fun c1 => ?_) (fun c1 => ?_)
  · -- 1 True
    refine lv_iconst (v := 0) hx hb dX4_isStretch_20 (by decide) ?_
    exact ro_retz hx hb hr hlk (by decide) (by simp [stB, bI, c1]) dX4_isStretch_21
  · -- 1 False
    refine lv_iload_n hx hb dX4_isStretch_4 rfl (lv_at hl 0 rfl) ?_
    refine lv_iconst (v := 5) hx hb dX4_isStretch_5 (by decide) ?_
    refine lv_icmp_gt (tgt := 20) hx hb dX4_isStretch_6 (by decide) (fun c6 => ?_) (fun c6 => ?_)
    · -- 6 True
      refine lv_iconst (v := 0) hx hb dX4_isStretch_20 (by decide) ?_
      exact ro_retz hx hb hr hlk (by decide) (by simp [stB, bI, c1, c6]) dX4_isStretch_21
    · -- 6 False
      refine lv_iload_n hx hb dX4_isStretch_9 rfl (lv_at hl 1 rfl) ?_
      refine lv_iconst (v := 5) hx hb dX4_isStretch_10 (by decide) ?_
      refine lv_iload_n hx hb dX4_isStretch_11 rfl (lv_at hl 0 rfl) ?_
      refine lv_isub hx hb dX4_isStretch_12 ?_
      refine lv_icmp_gt (tgt := 20) hx hb dX4_isStretch_13 (by decide) (fun c13 => ?_) (fun c13 => ?_)
      · -- 13 True
        refine lv_iconst (v := 0) hx hb dX4_isStretch_20 (by decide) ?_
        exact ro_retz hx hb hr hlk (by decide) (by simp [stB, bI, c1, c6, c13]) dX4_isStretch_21
      · -- 13 False
        refine lv_iconst (v := 1) hx hb dX4_isStretch_16 (by decide) ?_
        refine lv_goto (tgt := 21) hx hb dX4_isStretch_17 (by decide) ?_
        exact ro_retz hx hb hr hlk (by decide) (by simp [stB, bI, c1, c6, c13]) dX4_isStretch_21

set_option maxHeartbeats 4000000 in
set_option maxRecDepth 100000 in
theorem c_X4_isSpan (l : Launch) (D : va_G) (c : CT) (x : Int32)  : ROi l yX4_isSpan wsX4_isSpan ({ frames := 0, cells := 0, slots := 0, locals := 0 } : Room) [.int x] D c ([]) (bI (rg x 0 30000)) := by
  refine ro_starti (cc := cX4_isSpan) (maxL := 1) (ret := some .boolean) (by decide) rfl (Nat.le_of_ble_eq_true rfl) ?_
  intro p e s m args below meth c0 ls hx hb hr hml hown hts hlk hP hK hl
  have hown : s.vm.findClass RX4 = some m.cls := hown
  have hl : lv_has ls 1 [(0, .int x)] := hl
  refine lv_iload_n hx hb dX4_isSpan_0 rfl (lv_at hl 0 rfl) ?_
  refine lv_if_lt (tgt := 15) hx hb dX4_isSpan_1 (by decide) (fun c1 => ?_) (fun c1 => ?_)
  · -- 1 True
    refine lv_iconst (v := 0) hx hb dX4_isSpan_15 (by decide) ?_
    exact ro_retz hx hb hr hlk (by decide) (by simp [rg, bI, c1]) dX4_isSpan_16
  · -- 1 False
    refine lv_iload_n hx hb dX4_isSpan_4 rfl (lv_at hl 0 rfl) ?_
    refine lv_sipush (v := 30000) hx hb dX4_isSpan_5 (by decide) ?_
    refine lv_icmp_gt (tgt := 15) hx hb dX4_isSpan_8 (by decide) (fun c8 => ?_) (fun c8 => ?_)
    · -- 8 True
      refine lv_iconst (v := 0) hx hb dX4_isSpan_15 (by decide) ?_
      exact ro_retz hx hb hr hlk (by decide) (by simp [rg, bI, c1, c8]) dX4_isSpan_16
    · -- 8 False
      refine lv_iconst (v := 1) hx hb dX4_isSpan_11 (by decide) ?_
      refine lv_goto (tgt := 16) hx hb dX4_isSpan_12 (by decide) ?_
      exact ro_retz hx hb hr hlk (by decide) (by simp [rg, bI, c1, c8]) dX4_isSpan_16

set_option maxHeartbeats 4000000 in
set_option maxRecDepth 100000 in
theorem c_X4_isIn (l : Launch) (D : va_G) (c : CT) (t : Nat) (x : Int32) (ht : t < 32) : ROi l yX4_isIn wsX4_isIn ({ frames := 0, cells := 0, slots := 0, locals := 0 } : Room) [.int (nI t), .int x] D c ([]) (bI (bt x t)) := by
  refine ro_starti (cc := cX4_isIn) (maxL := 2) (ret := some .boolean) (by decide) rfl (Nat.le_of_ble_eq_true rfl) ?_
  intro p e s m args below meth c0 ls hx hb hr hml hown hts hlk hP hK hl
  have hown : s.vm.findClass RX4 = some m.cls := hown
  have hl : lv_has ls 2 [(0, .int (nI t)), (1, .int x)] := hl
  refine lv_iload_n hx hb dX4_isIn_0 rfl (lv_at hl 1 rfl) ?_
  refine lv_iload_n hx hb dX4_isIn_1 rfl (lv_at hl 0 rfl) ?_
  refine lv_iushr (v := (x.toUInt32 >>> ((nI t).toUInt32 &&& Int32.toUInt32 31)).toInt32) hx hb dX4_isIn_2 rfl ?_
  refine lv_iconst (v := 1) hx hb dX4_isIn_3 (by decide) ?_
  refine lv_iand hx hb dX4_isIn_4 ?_
  refine tp_i (z := bI (bt x t)) (in_u ht x) ?_
  refine lv_iconst (v := 1) hx hb dX4_isIn_5 (by decide) ?_
  refine lv_icmp_ne (tgt := 13) hx hb dX4_isIn_6 (by decide) (fun c6 => ?_) (fun c6 => ?_)
  · -- 6 True
    refine lv_iconst (v := 0) hx hb dX4_isIn_13 (by decide) ?_
    exact ro_retz hx hb hr hlk (by decide) ((bI_f (bI_n1.mp c6)).symm) dX4_isIn_14
  · -- 6 False
    refine lv_iconst (v := 1) hx hb dX4_isIn_9 (by decide) ?_
    refine lv_goto (tgt := 14) hx hb dX4_isIn_10 (by decide) ?_
    exact ro_retz hx hb hr hlk (by decide) ((bI_t (bI_1.mp c6)).symm) dX4_isIn_14

set_option maxHeartbeats 4000000 in
set_option maxRecDepth 100000 in
theorem c_X5_in (l : Launch) (D : va_G) (c : CT) (x a b : Int32)  : ROi l yX5_in wsX5_in ({ frames := 0, cells := 0, slots := 0, locals := 0 } : Room) [.int x, .int a, .int b] D c ([]) (bI (rg x a b)) := by
  refine ro_starti (cc := cX5_in) (maxL := 3) (ret := some .boolean) (by decide) rfl (Nat.le_of_ble_eq_true rfl) ?_
  intro p e s m args below meth c0 ls hx hb hr hml hown hts hlk hP hK hl
  have hown : s.vm.findClass RX5 = some m.cls := hown
  have hl : lv_has ls 3 [(0, .int x), (1, .int a), (2, .int b)] := hl
  refine lv_iload_n hx hb dX5_in_0 rfl (lv_at hl 0 rfl) ?_
  refine lv_iload_n hx hb dX5_in_1 rfl (lv_at hl 1 rfl) ?_
  refine lv_icmp_lt (tgt := 14) hx hb dX5_in_2 (by decide) (fun c2 => ?_) (fun c2 => ?_)
  · -- 2 True
    refine lv_iconst (v := 0) hx hb dX5_in_14 (by decide) ?_
    exact ro_retz hx hb hr hlk (by decide) (by simp [rg, bI, c2]) dX5_in_15
  · -- 2 False
    refine lv_iload_n hx hb dX5_in_5 rfl (lv_at hl 0 rfl) ?_
    refine lv_iload_n hx hb dX5_in_6 rfl (lv_at hl 2 rfl) ?_
    refine lv_icmp_gt (tgt := 14) hx hb dX5_in_7 (by decide) (fun c7 => ?_) (fun c7 => ?_)
    · -- 7 True
      refine lv_iconst (v := 0) hx hb dX5_in_14 (by decide) ?_
      exact ro_retz hx hb hr hlk (by decide) (by simp [rg, bI, c2, c7]) dX5_in_15
    · -- 7 False
      refine lv_iconst (v := 1) hx hb dX5_in_10 (by decide) ?_
      refine lv_goto (tgt := 15) hx hb dX5_in_11 (by decide) ?_
      exact ro_retz hx hb hr hlk (by decide) (by simp [rg, bI, c2, c7]) dX5_in_15

set_option maxHeartbeats 4000000 in
set_option maxRecDepth 100000 in
theorem c_X5_has (l : Launch) (D : va_G) (c : CT) (x : Int32) (t : Nat) (ht : t < 32) : ROi l yX5_has wsX5_has ({ frames := 0, cells := 0, slots := 0, locals := 0 } : Room) [.int x, .int (nI t)] D c ([]) (bI (bt x t)) := by
  refine ro_starti (cc := cX5_has) (maxL := 2) (ret := some .boolean) (by decide) rfl (Nat.le_of_ble_eq_true rfl) ?_
  intro p e s m args below meth c0 ls hx hb hr hml hown hts hlk hP hK hl
  have hown : s.vm.findClass RX5 = some m.cls := hown
  have hl : lv_has ls 2 [(0, .int x), (1, .int (nI t))] := hl
  refine lv_iload_n hx hb dX5_has_0 rfl (lv_at hl 0 rfl) ?_
  refine lv_iload_n hx hb dX5_has_1 rfl (lv_at hl 1 rfl) ?_
  refine lv_ishr hx hb dX5_has_2 ?_
  refine lv_iconst (v := 1) hx hb dX5_has_3 (by decide) ?_
  refine lv_iand hx hb dX5_has_4 ?_
  refine tp_i (z := bI (bt x t)) (in_s ht x) ?_
  refine lv_iconst (v := 1) hx hb dX5_has_5 (by decide) ?_
  refine lv_icmp_ne (tgt := 13) hx hb dX5_has_6 (by decide) (fun c6 => ?_) (fun c6 => ?_)
  · -- 6 True
    refine lv_iconst (v := 0) hx hb dX5_has_13 (by decide) ?_
    exact ro_retz hx hb hr hlk (by decide) ((bI_f (bI_n1.mp c6)).symm) dX5_has_14
  · -- 6 False
    refine lv_iconst (v := 1) hx hb dX5_has_9 (by decide) ?_
    refine lv_goto (tgt := 14) hx hb dX5_has_10 (by decide) ?_
    exact ro_retz hx hb hr hlk (by decide) ((bI_t (bI_1.mp c6)).symm) dX5_has_14

set_option maxHeartbeats 4000000 in
set_option maxRecDepth 100000 in
theorem c_X5_bits (l : Launch) (D : va_G) (c : CT) (x : Int64)  : ROi l yX5_bits wsX5_bits ({ frames := 0, cells := 0, slots := 0, locals := 0 } : Room) [.long x] D c ([]) (bitsN x 40) := by
  refine ro_starti (cc := cX5_bits) (maxL := 4) (ret := some .int) (by decide) rfl (Nat.le_of_ble_eq_true rfl) ?_
  intro p e s m args below meth c0 ls hx hb hr hml hown hts hlk hP hK hl
  have hown : s.vm.findClass RX5 = some m.cls := hown
  have hl : lv_has ls 4 [(0, .long x)] := hl
  refine lv_iconst (v := 0) hx hb dX5_bits_0 (by decide) ?_
  refine lv_istore_n (lv' := [(2, .int 0), (0, .long x)]) hx hb dX5_bits_1 rfl hl (by decide) rfl (fun ls hl => ?_)
  refine lv_iconst (v := 0) hx hb dX5_bits_2 (by decide) ?_
  refine lv_istore_n (lv' := [(3, .int 0), (2, .int 0), (0, .long x)]) hx hb dX5_bits_3 rfl hl (by decide) rfl (fun ls hl => ?_)
  have L4 : ∀ (n : Nat) (k : Nat) (a : Int32), (k ≤ 40) → (40 < k + n) → (a = bitsN x k) → ∀ ls : Array Slot, lv_has ls 4 [(3, .int (nI k)), (2, .int a), (0, .long x)] → W p l e ({ frames := 0, cells := 0, slots := 0, locals := 0 } : Room) s m args below meth c0 s.heap [] 0 0 (QRi below args s (bitsN x 40)) (F0 m 4 ls []) := by
    intro n
    induction n with
    | zero => intro k a hk hn ha ls hl; exact absurd hn (by omega)
    | succ n ih4 =>
      intro k a hk hn ha ls hl
      refine lv_iload_n hx hb dX5_bits_4 rfl (lv_at hl 0 rfl) ?_
      refine lv_bipush (v := 40) hx hb dX5_bits_5 (by decide) ?_
      refine lv_icmp_ge (tgt := 25) hx hb dX5_bits_7 (by decide) (fun c7 => ?_) (fun c7 => ?_)
      · -- 7 True
        have c7 : 40 ≤ k := (nI_leI (a := 40) (b := k) (by omega) (by omega)).mp c7
        refine lv_iload_n hx hb dX5_bits_25 rfl (lv_at hl 1 rfl) ?_
        exact ro_reti hx hb hr hlk (by rw [ha, show k = 40 by omega]) dX5_bits_26
      · -- 7 False
        have c7 : k < 40 := (Nat.not_le.mp (fun z => c7 ((nI_leI (a := 40) (b := k) (by omega) (by omega)).mpr z)))
        refine lv_iload_n hx hb dX5_bits_10 rfl (lv_at hl 1 rfl) ?_
        refine lv_lload_n hx hb dX5_bits_11 rfl (lv_at hl 2 rfl) ?_
        refine lv_iload_n hx hb dX5_bits_12 rfl (lv_at hl 0 rfl) ?_
        refine lv_lshr (v := (x >>> ((nI k).toInt64 &&& 63))) hx hb dX5_bits_13 rfl ?_
        refine lv_lconst (v := 1) hx hb dX5_bits_14 (by decide) ?_
        refine lv_land hx hb dX5_bits_15 ?_
        refine tp_l (z := bL (bl x k)) (in_sL (by omega) x) ?_
        refine lv_l2i (v := (bL (bl x k)).toInt32) hx hb dX5_bits_16 rfl ?_
        refine tp_i (z := bI (bl x k)) (bL_i _) ?_
        refine lv_iadd hx hb dX5_bits_17 ?_
        refine lv_istore_n (lv' := [(2, .int (a + bI (bl x k))), (3, .int (nI k)), (0, .long x)]) hx hb dX5_bits_18 rfl hl (by decide) rfl (fun ls hl => ?_)
        refine lv_iinc (v := nI (k + 1)) (lv' := [(3, .int (nI (k + 1))), (2, .int (a + bI (bl x k))), (0, .long x)]) hx hb dX5_bits_19 hl (k := 1) rfl (nI_inc _) (by decide) rfl (fun ls hl => ?_)
        refine lv_goto (tgt := 4) hx hb dX5_bits_22 (by decide) ?_
        exact ih4 (k + 1) (a + bI (bl x k)) (by omega) (by omega) (by rw [ha]; rfl) ls (lv_sub hl [0, 1, 2] rfl)
  exact L4 (41) 0 0 (by omega) (by omega) (rfl) ls (lv_sub hl [0, 1, 2] rfl)

set_option maxHeartbeats 4000000 in
set_option maxRecDepth 100000 in
theorem c_X3_has (l : Launch) (D : va_G) (q : Nat → Nat) (c : CT) (ts : TS) (x : Int32)  : ROi l yX3_has wsX3_has ({ frames := 0, cells := 0, slots := 0, locals := 0 } : Room) [.ref (q 2), .int x] D c (wT q c ts) (bI (inN x (tT ts))) := by
  refine ro_starti (cc := cX3_has) (maxL := 2) (ret := some .boolean) (by decide) rfl (Nat.le_of_ble_eq_true rfl) ?_
  intro p e s m args below meth c0 ls hx hb hr hml hown hts hlk hP hK hl
  have hown : s.vm.findClass RX3 = some m.cls := hown
  have hl : lv_has ls 2 [(0, .ref (q 2)), (1, .int x)] := hl
  have hin3 : ∀ w ∈ wsX30, w ∈ wsX3_has := by decide +kernel
  refine lv_iload_n hx hb dX3_has_0 rfl (lv_at hl 1 rfl) ?_
  refine lv_if_lt (tgt := 16) hx hb dX3_has_1 (by decide) (fun c1 => ?_) (fun c1 => ?_)
  · -- 1 True
    refine lv_iconst (v := 0) hx hb dX3_has_16 (by decide) ?_
    exact ro_retz hx hb hr hlk (by decide) (by simp [inN, bI, c1]) dX3_has_17
  · -- 1 False
    refine lv_iload_n hx hb dX3_has_4 rfl (lv_at hl 1 rfl) ?_
    refine lv_aload_n hx hb dX3_has_5 rfl (lv_at hl 0 rfl) ?_
    refine va_get (D := D) (ci := 3) (v := .int (nI (tT ts))) (C := RX3) (T := TX3) (N := 7) hx hb hts hin3 hown hK.1 hP 0 rfl rfl 6 (by decide) (hts (.fieldLink RX3 32 "TestPicker$Tests" "size" "I") (by decide +kernel)) (fun _ h9 => h9) rfl dX3_has_6 ?_
    refine lv_icmp_ge (tgt := 16) hx hb dX3_has_9 (by decide) (fun c9 => ?_) (fun c9 => ?_)
    · -- 9 True
      refine lv_iconst (v := 0) hx hb dX3_has_16 (by decide) ?_
      exact ro_retz hx hb hr hlk (by decide) (by simp [inN, bI, c1, c9]) dX3_has_17
    · -- 9 False
      refine lv_iconst (v := 1) hx hb dX3_has_12 (by decide) ?_
      refine lv_goto (tgt := 17) hx hb dX3_has_13 (by decide) ?_
      exact ro_retz hx hb hr hlk (by decide) (by simp [inN, bI, c1, c9]) dX3_has_17

set_option maxHeartbeats 4000000 in
set_option maxRecDepth 100000 in
theorem c_X3_hasAll (l : Launch) (D : va_G) (q : Nat → Nat) (c : CT) (ts : TS) (x : Int32)  : ROi l yX3_hasAll wsX3_hasAll ({ frames := 0, cells := 0, slots := 0, locals := 0 } : Room) [.ref (q 2), .int x] D c (wT q c ts) (bI (hAll x (tT ts))) := by
  refine ro_starti (cc := cX3_hasAll) (maxL := 2) (ret := some .boolean) (by decide) rfl (Nat.le_of_ble_eq_true rfl) ?_
  intro p e s m args below meth c0 ls hx hb hr hml hown hts hlk hP hK hl
  have hown : s.vm.findClass RX3 = some m.cls := hown
  have hl : lv_has ls 2 [(0, .ref (q 2)), (1, .int x)] := hl
  have hin3 : ∀ w ∈ wsX30, w ∈ wsX3_hasAll := by decide +kernel
  refine lv_iload_n hx hb dX3_hasAll_0 rfl (lv_at hl 1 rfl) ?_
  refine lv_aload_n hx hb dX3_hasAll_1 rfl (lv_at hl 0 rfl) ?_
  refine va_get (D := D) (ci := 3) (v := .int (nI (tT ts))) (C := RX3) (T := TX3) (N := 7) hx hb hts hin3 hown hK.1 hP 0 rfl rfl 6 (by decide) (hts (.fieldLink RX3 32 "TestPicker$Tests" "size" "I") (by decide +kernel)) (fun _ h9 => h9) rfl dX3_hasAll_2 ?_
  refine lv_iushr (v := (x.toUInt32 >>> ((nI (tT ts)).toUInt32 &&& Int32.toUInt32 31)).toInt32) hx hb dX3_hasAll_5 rfl ?_
  refine lv_if_ne (tgt := 13) hx hb dX3_hasAll_6 (by decide) (fun c6 => ?_) (fun c6 => ?_)
  · -- 6 True
    refine lv_iconst (v := 0) hx hb dX3_hasAll_13 (by decide) ?_
    exact ro_retz hx hb hr hlk (by decide) (by simp [hAll, bI, c6]) dX3_hasAll_14
  · -- 6 False
    refine lv_iconst (v := 1) hx hb dX3_hasAll_9 (by decide) ?_
    refine lv_goto (tgt := 14) hx hb dX3_hasAll_10 (by decide) ?_
    exact ro_retz hx hb hr hlk (by decide) (by simp [hAll, bI, c6]) dX3_hasAll_14

set_option maxHeartbeats 4000000 in
set_option maxRecDepth 100000 in
theorem c_X3_countedTime (l : Launch) (D : va_G) (q : Nat → Nat) (c : CT) (ts : TS) (t : Nat) (ht : t < 20) : ROi l yX3_countedTime wsX3_countedTime ({ frames := 0, cells := 0, slots := 0, locals := 0 } : Room) [.ref (q 2), .int (nI t)] D c (wT q c ts) (cTm (tKd ts) (tOt ts) t) := by
  refine ro_starti (cc := cX3_countedTime) (maxL := 2) (ret := some .int) (by decide) rfl (Nat.le_of_ble_eq_true rfl) ?_
  intro p e s m args below meth c0 ls hx hb hr hml hown hts hlk hP hK hl
  have hown : s.vm.findClass RX3 = some m.cls := hown
  have hl : lv_has ls 2 [(0, .ref (q 2)), (1, .int (nI t))] := hl
  have hin3 : ∀ w ∈ wsX30, w ∈ wsX3_countedTime := by decide +kernel
  refine lv_aload_n hx hb dX3_countedTime_0 rfl (lv_at hl 0 rfl) ?_
  refine va_get (D := D) (ci := 3) (v := .ref (q 3)) (C := RX3) (T := TX3) (N := 7) hx hb hts hin3 hown hK.1 hP 0 rfl rfl 0 (by decide) (hts (.fieldLink RX3 9 "TestPicker$Tests" "kinds" "[I") (by decide +kernel)) (fun _ h9 => h9) rfl dX3_countedTime_1 ?_
  refine lv_iload_n hx hb dX3_countedTime_4 rfl (lv_at hl 1 rfl) ?_
  refine ld_i hx hb hK hP 1 (f := tKd ts) rfl (i := t) (by omega) (by decide) dX3_countedTime_5 ?_
  refine lv_iconst (v := 1) hx hb dX3_countedTime_6 (by decide) ?_
  refine lv_icmp_ne (tgt := 21) hx hb dX3_countedTime_7 (by decide) (fun c7 => ?_) (fun c7 => ?_)
  · -- 7 True
    refine lv_aload_n hx hb dX3_countedTime_21 rfl (lv_at hl 0 rfl) ?_
    refine va_get (D := D) (ci := 3) (v := .ref (q 4)) (C := RX3) (T := TX3) (N := 7) hx hb hts hin3 hown hK.1 hP 0 rfl rfl 1 (by decide) (hts (.fieldLink RX3 15 "TestPicker$Tests" "ownTimes" "[I") (by decide +kernel)) (fun _ h9 => h9) rfl dX3_countedTime_22 ?_
    refine lv_iload_n hx hb dX3_countedTime_25 rfl (lv_at hl 1 rfl) ?_
    refine ld_i hx hb hK hP 2 (f := tOt ts) rfl (i := t) (by omega) (by decide) dX3_countedTime_26 ?_
    exact ro_reti hx hb hr hlk (by simp [cTm, c7]) dX3_countedTime_27
  · -- 7 False
    refine lv_iconst (v := 3) hx hb dX3_countedTime_10 (by decide) ?_
    refine lv_aload_n hx hb dX3_countedTime_11 rfl (lv_at hl 0 rfl) ?_
    refine va_get (D := D) (ci := 3) (v := .ref (q 4)) (C := RX3) (T := TX3) (N := 7) hx hb hts hin3 hown hK.1 hP 0 rfl rfl 1 (by decide) (hts (.fieldLink RX3 15 "TestPicker$Tests" "ownTimes" "[I") (by decide +kernel)) (fun _ h9 => h9) rfl dX3_countedTime_12 ?_
    refine lv_iload_n hx hb dX3_countedTime_15 rfl (lv_at hl 1 rfl) ?_
    refine ld_i hx hb hK hP 2 (f := tOt ts) rfl (i := t) (by omega) (by decide) dX3_countedTime_16 ?_
    refine lv_imul hx hb dX3_countedTime_17 ?_
    refine lv_goto (tgt := 27) hx hb dX3_countedTime_18 (by decide) ?_
    exact ro_reti hx hb hr hlk (by simp [cTm, c7]) dX3_countedTime_27

set_option maxHeartbeats 4000000 in
set_option maxRecDepth 100000 in
theorem c_X3_reachByte (l : Launch) (D : va_G) (q : Nat → Nat) (c : CT) (ts : TS) (t i : Nat) (ht : t < 20) : ROi l yX3_reachByte wsX3_reachByte ({ frames := 0, cells := 0, slots := 0, locals := 0 } : Room) [.ref (q 2), .int (nI t), .int (nI i)] D c (wT q c ts) (byB (tPa ts t) i) := by
  refine ro_starti (cc := cX3_reachByte) (maxL := 3) (ret := some .int) (by decide) rfl (Nat.le_of_ble_eq_true rfl) ?_
  intro p e s m args below meth c0 ls hx hb hr hml hown hts hlk hP hK hl
  have hown : s.vm.findClass RX3 = some m.cls := hown
  have hl : lv_has ls 3 [(0, .ref (q 2)), (1, .int (nI t)), (2, .int (nI i))] := hl
  have hin3 : ∀ w ∈ wsX30, w ∈ wsX3_reachByte := by decide +kernel
  refine lv_aload_n hx hb dX3_reachByte_0 rfl (lv_at hl 0 rfl) ?_
  refine va_get (D := D) (ci := 3) (v := .ref (q 7)) (C := RX3) (T := TX3) (N := 7) hx hb hts hin3 hown hK.1 hP 0 rfl rfl 4 (by decide) (hts (.fieldLink RX3 24 "TestPicker$Tests" "parts" "[J") (by decide +kernel)) (fun _ h9 => h9) rfl dX3_reachByte_1 ?_
  refine lv_iload_n hx hb dX3_reachByte_4 rfl (lv_at hl 1 rfl) ?_
  refine ld_l hx hb hK hP 5 (f := tPa ts) rfl (i := t) (by omega) (by decide) dX3_reachByte_5 ?_
  refine lv_bipush (v := 8) hx hb dX3_reachByte_6 (by decide) ?_
  refine lv_iload_n hx hb dX3_reachByte_8 rfl (lv_at hl 2 rfl) ?_
  refine lv_imul hx hb dX3_reachByte_9 ?_
  refine tp_i (z := nI (8 * i)) (mul8 i) ?_
  refine lv_lushr (v := ((tPa ts t).toUInt64 >>> ((nI (8 * i)).toInt64.toUInt64 &&& Int64.toUInt64 63)).toInt64) hx hb dX3_reachByte_10 rfl ?_
  refine lv_ldc2 (own := RX3) (v := (255)) hx hb hown (hts (.constantLong RX3 36 (255)) (by decide +kernel)) dX3_reachByte_11 ?_
  refine lv_land hx hb dX3_reachByte_14 ?_
  refine lv_l2i (v := (((tPa ts t).toUInt64 >>> ((nI (8 * i)).toInt64.toUInt64 &&& Int64.toUInt64 63)).toInt64 &&& (255)).toInt32) hx hb dX3_reachByte_15 rfl ?_
  exact ro_reti hx hb hr hlk (rfl) dX3_reachByte_16

set_option maxHeartbeats 4000000 in
set_option maxRecDepth 100000 in
theorem c_X3_timeOf (l : Launch) (D : va_G) (q : Nat → Nat) (c : CT) (ts : TS) (x : Int32) (hT : tT ts ≤ 20) : ROi l yX3_timeOf wsX3_timeOf ({ frames := 1, cells := 0, slots := 0, locals := 21 } : Room) [.ref (q 2), .int x] D c (wT q c ts) (tmS (tKd ts) (tOt ts) x (tT ts)) := by
  refine ro_starti (cc := cX3_timeOf) (maxL := 4) (ret := some .int) (by decide) rfl (Nat.le_of_ble_eq_true rfl) ?_
  intro p e s m args below meth c0 ls hx hb hr hml hown hts hlk hP hK hl
  have hown : s.vm.findClass RX3 = some m.cls := hown
  have hl : lv_has ls 4 [(0, .ref (q 2)), (1, .int x)] := hl
  have hin3 : ∀ w ∈ wsX30, w ∈ wsX3_timeOf := by decide +kernel
  refine lv_iconst (v := 0) hx hb dX3_timeOf_0 (by decide) ?_
  refine lv_istore_n (lv' := [(2, .int 0), (0, .ref (q 2)), (1, .int x)]) hx hb dX3_timeOf_1 rfl hl (by decide) rfl (fun ls hl => ?_)
  refine lv_iconst (v := 0) hx hb dX3_timeOf_2 (by decide) ?_
  refine lv_istore_n (lv' := [(3, .int 0), (2, .int 0), (0, .ref (q 2)), (1, .int x)]) hx hb dX3_timeOf_3 rfl hl (by decide) rfl (fun ls hl => ?_)
  have L4 : ∀ (n : Nat) (i : Nat) (a : Int32), (i ≤ tT ts) → (tT ts < i + n) → (a = tmS (tKd ts) (tOt ts) x i) → ∀ ls : Array Slot, lv_has ls 4 [(3, .int (nI i)), (2, .int a), (0, .ref (q 2)), (1, .int x)] → W p l e ({ frames := 1, cells := 0, slots := 0, locals := 21 } : Room) s m args below meth c0 s.heap [] 0 0 (QRi below args s (tmS (tKd ts) (tOt ts) x (tT ts))) (F0 m 4 ls []) := by
    intro n
    induction n with
    | zero => intro i a hi hn ha ls hl; exact absurd hn (by omega)
    | succ n ih4 =>
      intro i a hi hn ha ls hl
      refine lv_iload_n hx hb dX3_timeOf_4 rfl (lv_at hl 0 rfl) ?_
      refine lv_aload_n hx hb dX3_timeOf_5 rfl (lv_at hl 2 rfl) ?_
      refine va_get (D := D) (ci := 3) (v := .int (nI (tT ts))) (C := RX3) (T := TX3) (N := 7) hx hb hts hin3 hown hK.1 hP 0 rfl rfl 6 (by decide) (hts (.fieldLink RX3 32 "TestPicker$Tests" "size" "I") (by decide +kernel)) (fun _ h9 => h9) rfl dX3_timeOf_6 ?_
      refine lv_icmp_ge (tgt := 38) hx hb dX3_timeOf_9 (by decide) (fun c9 => ?_) (fun c9 => ?_)
      · -- 9 True
        have c9 : (tT ts) ≤ i := (nI_leI (a := (tT ts)) (b := i) (by omega) (by omega)).mp c9
        refine lv_iload_n hx hb dX3_timeOf_38 rfl (lv_at hl 1 rfl) ?_
        exact ro_reti hx hb hr hlk (by rw [ha, show i = tT ts by omega]) dX3_timeOf_39
      · -- 9 False
        have c9 : i < (tT ts) := (Nat.not_le.mp (fun z => c9 ((nI_leI (a := (tT ts)) (b := i) (by omega) (by omega)).mpr z)))
        refine lv_iload_n hx hb dX3_timeOf_12 rfl (lv_at hl 1 rfl) ?_
        refine lv_iload_n hx hb dX3_timeOf_13 rfl (lv_at hl 0 rfl) ?_
        refine lv_iload_n hx hb dX3_timeOf_14 rfl (lv_at hl 3 rfl) ?_
        refine ro_SNi (As := [.int (nI i), .int x]) (rest := [.int a]) ⟨hx, hb, hml, hown, hts⟩ (c_X4_isIn l D c i x (by omega)) ⟨va_cnB 2 hts gX3_timeOf_X4_isIn_n40 rfl rfl rfl hK.2 (hts (.initialized RX4) (by decide +kernel)) (by decide +kernel) ⟨Nat.le_of_ble_eq_true rfl, Nat.le_of_ble_eq_true rfl⟩, hts (.static yX4_isIn) (by decide +kernel), trivial⟩ va_P0 hK rfl hl.1 rfl (Nat.le_of_ble_eq_true rfl) dX3_timeOf_15 ⟨Nat.le_of_ble_eq_true rfl, Nat.le_of_ble_eq_true rfl⟩ ?_
        refine lv_if_eq (tgt := 29) hx hb dX3_timeOf_18 (by decide) (fun c18 => ?_) (fun c18 => ?_)
        · -- 18 True
          have c18 := bI_z.mp c18
          refine lv_iconst (v := 0) hx hb dX3_timeOf_29 (by decide) ?_
          refine lv_iadd hx hb dX3_timeOf_30 ?_
          refine lv_istore_n (lv' := [(2, .int (a + 0)), (3, .int (nI i)), (0, .ref (q 2)), (1, .int x)]) hx hb dX3_timeOf_31 rfl hl (by decide) rfl (fun ls hl => ?_)
          refine lv_iinc (v := nI (i + 1)) (lv' := [(3, .int (nI (i + 1))), (2, .int (a + 0)), (0, .ref (q 2)), (1, .int x)]) hx hb dX3_timeOf_32 hl (k := 1) rfl (nI_inc _) (by decide) rfl (fun ls hl => ?_)
          refine lv_goto (tgt := 4) hx hb dX3_timeOf_35 (by decide) ?_
          exact ih4 (i + 1) (a + 0) (by omega) (by omega) (by rw [ha]; simp [tmS, c18]) ls (lv_sub hl [0, 1, 2, 3] rfl)
        · -- 18 False
          have c18 := bI_nz.mp c18
          refine lv_aload_n hx hb dX3_timeOf_21 rfl (lv_at hl 2 rfl) ?_
          refine lv_iload_n hx hb dX3_timeOf_22 rfl (lv_at hl 0 rfl) ?_
          refine ro_Vi (As := [.int (nI i)]) (rest := [.int a]) ⟨hx, hb, hml, hown, hts⟩ (c_X3_countedTime l D q c ts i (by omega)) (cwV 1 hts gX3_timeOf_X3_countedTime rfl rfl rfl (by decide +kernel) ⟨Nat.le_of_ble_eq_true rfl, Nat.le_of_ble_eq_true rfl⟩) hP hK (va_recv hK.1 hP (ci := 3) (q0 := 0) rfl rfl) rfl hl.1 rfl (Nat.le_of_ble_eq_true rfl) dX3_timeOf_23 ⟨Nat.le_of_ble_eq_true rfl, Nat.le_of_ble_eq_true rfl⟩ ?_
          refine lv_goto (tgt := 30) hx hb dX3_timeOf_26 (by decide) ?_
          refine lv_iadd hx hb dX3_timeOf_30 ?_
          refine lv_istore_n (lv' := [(2, .int (a + (cTm (tKd ts) (tOt ts) i))), (3, .int (nI i)), (0, .ref (q 2)), (1, .int x)]) hx hb dX3_timeOf_31 rfl hl (by decide) rfl (fun ls hl => ?_)
          refine lv_iinc (v := nI (i + 1)) (lv' := [(3, .int (nI (i + 1))), (2, .int (a + (cTm (tKd ts) (tOt ts) i))), (0, .ref (q 2)), (1, .int x)]) hx hb dX3_timeOf_32 hl (k := 1) rfl (nI_inc _) (by decide) rfl (fun ls hl => ?_)
          refine lv_goto (tgt := 4) hx hb dX3_timeOf_35 (by decide) ?_
          exact ih4 (i + 1) (a + (cTm (tKd ts) (tOt ts) i)) (by omega) (by omega) (by rw [ha]; simp [tmS, c18]) ls (lv_sub hl [0, 1, 2, 3] rfl)
  exact L4 (tT ts + 1) 0 0 (by omega) (by omega) (rfl) ls (lv_sub hl [0, 1, 2, 3] rfl)

set_option maxHeartbeats 4000000 in
set_option maxRecDepth 100000 in
theorem c_X3_partsOf (l : Launch) (D : va_G) (q : Nat → Nat) (c : CT) (ts : TS) (x : Int32) (hT : tT ts ≤ 20) : ROl l yX3_partsOf wsX3_partsOf ({ frames := 1, cells := 0, slots := 0, locals := 21 } : Room) [.ref (q 2), .int x] D c (wT q c ts) (paS (tPa ts) x (tT ts)) := by
  refine ro_startl (cc := cX3_partsOf) (maxL := 5) (ret := some .long) (by decide) rfl (Nat.le_of_ble_eq_true rfl) ?_
  intro p e s m args below meth c0 ls hx hb hr hml hown hts hlk hP hK hl
  have hown : s.vm.findClass RX3 = some m.cls := hown
  have hl : lv_has ls 5 [(0, .ref (q 2)), (1, .int x)] := hl
  have hin3 : ∀ w ∈ wsX30, w ∈ wsX3_partsOf := by decide +kernel
  refine lv_lconst (v := 0) hx hb dX3_partsOf_0 (by decide) ?_
  refine lv_lstore_n (lv' := [(2, .long 0), (0, .ref (q 2)), (1, .int x)]) hx hb dX3_partsOf_1 rfl hl (by decide) rfl (fun ls hl => ?_)
  refine lv_iconst (v := 0) hx hb dX3_partsOf_2 (by decide) ?_
  refine lv_istore (lv' := [(4, .int 0), (2, .long 0), (0, .ref (q 2)), (1, .int x)]) hx hb dX3_partsOf_3 hl (by decide) rfl (fun ls hl => ?_)
  have L5 : ∀ (n : Nat) (i : Nat) (a : Int64), (i ≤ tT ts) → (tT ts < i + n) → (a = paS (tPa ts) x i) → ∀ ls : Array Slot, lv_has ls 5 [(4, .int (nI i)), (2, .long a), (0, .ref (q 2)), (1, .int x)] → W p l e ({ frames := 1, cells := 0, slots := 0, locals := 21 } : Room) s m args below meth c0 s.heap [] 0 0 (QRl below args s (paS (tPa ts) x (tT ts))) (F0 m 5 ls []) := by
    intro n
    induction n with
    | zero => intro i a hi hn ha ls hl; exact absurd hn (by omega)
    | succ n ih5 =>
      intro i a hi hn ha ls hl
      refine lv_iload hx hb dX3_partsOf_5 (lv_at hl 0 rfl) ?_
      refine lv_aload_n hx hb dX3_partsOf_7 rfl (lv_at hl 2 rfl) ?_
      refine va_get (D := D) (ci := 3) (v := .int (nI (tT ts))) (C := RX3) (T := TX3) (N := 7) hx hb hts hin3 hown hK.1 hP 0 rfl rfl 6 (by decide) (hts (.fieldLink RX3 32 "TestPicker$Tests" "size" "I") (by decide +kernel)) (fun _ h9 => h9) rfl dX3_partsOf_8 ?_
      refine lv_icmp_ge (tgt := 43) hx hb dX3_partsOf_11 (by decide) (fun c11 => ?_) (fun c11 => ?_)
      · -- 11 True
        have c11 : (tT ts) ≤ i := (nI_leI (a := (tT ts)) (b := i) (by omega) (by omega)).mp c11
        refine lv_lload_n hx hb dX3_partsOf_43 rfl (lv_at hl 1 rfl) ?_
        exact ro_retl hx hb hr hlk (by rw [ha, show i = tT ts by omega]) dX3_partsOf_44
      · -- 11 False
        have c11 : i < (tT ts) := (Nat.not_le.mp (fun z => c11 ((nI_leI (a := (tT ts)) (b := i) (by omega) (by omega)).mpr z)))
        refine lv_lload_n hx hb dX3_partsOf_14 rfl (lv_at hl 1 rfl) ?_
        refine lv_iload hx hb dX3_partsOf_15 (lv_at hl 0 rfl) ?_
        refine lv_iload_n hx hb dX3_partsOf_17 rfl (lv_at hl 3 rfl) ?_
        refine ro_SNi (As := [.int (nI i), .int x]) (rest := [.long a]) ⟨hx, hb, hml, hown, hts⟩ (c_X4_isIn l D c i x (by omega)) ⟨va_cnB 2 hts gX3_partsOf_X4_isIn_n40 rfl rfl rfl hK.2 (hts (.initialized RX4) (by decide +kernel)) (by decide +kernel) ⟨Nat.le_of_ble_eq_true rfl, Nat.le_of_ble_eq_true rfl⟩, hts (.static yX4_isIn) (by decide +kernel), trivial⟩ va_P0 hK rfl hl.1 rfl (Nat.le_of_ble_eq_true rfl) dX3_partsOf_18 ⟨Nat.le_of_ble_eq_true rfl, Nat.le_of_ble_eq_true rfl⟩ ?_
        refine lv_if_eq (tgt := 34) hx hb dX3_partsOf_21 (by decide) (fun c21 => ?_) (fun c21 => ?_)
        · -- 21 True
          have c21 := bI_z.mp c21
          refine lv_lconst (v := 0) hx hb dX3_partsOf_34 (by decide) ?_
          refine lv_lor hx hb dX3_partsOf_35 ?_
          refine lv_lstore_n (lv' := [(2, .long (a ||| 0)), (4, .int (nI i)), (0, .ref (q 2)), (1, .int x)]) hx hb dX3_partsOf_36 rfl hl (by decide) rfl (fun ls hl => ?_)
          refine lv_iinc (v := nI (i + 1)) (lv' := [(4, .int (nI (i + 1))), (2, .long (a ||| 0)), (0, .ref (q 2)), (1, .int x)]) hx hb dX3_partsOf_37 hl (k := 1) rfl (nI_inc _) (by decide) rfl (fun ls hl => ?_)
          refine lv_goto (tgt := 5) hx hb dX3_partsOf_40 (by decide) ?_
          exact ih5 (i + 1) (a ||| 0) (by omega) (by omega) (by rw [ha]; simp [paS, *]) ls (lv_sub hl [0, 1, 2, 3] rfl)
        · -- 21 False
          have c21 := bI_nz.mp c21
          refine lv_aload_n hx hb dX3_partsOf_24 rfl (lv_at hl 2 rfl) ?_
          refine va_get (D := D) (ci := 3) (v := .ref (q 7)) (C := RX3) (T := TX3) (N := 7) hx hb hts hin3 hown hK.1 hP 0 rfl rfl 4 (by decide) (hts (.fieldLink RX3 24 "TestPicker$Tests" "parts" "[J") (by decide +kernel)) (fun _ h9 => h9) rfl dX3_partsOf_25 ?_
          refine lv_iload hx hb dX3_partsOf_28 (lv_at hl 0 rfl) ?_
          refine ld_l hx hb hK hP 5 (f := tPa ts) rfl (i := i) (by omega) (by decide) dX3_partsOf_30 ?_
          refine lv_goto (tgt := 35) hx hb dX3_partsOf_31 (by decide) ?_
          refine lv_lor hx hb dX3_partsOf_35 ?_
          refine lv_lstore_n (lv' := [(2, .long (a ||| (tPa ts i))), (4, .int (nI i)), (0, .ref (q 2)), (1, .int x)]) hx hb dX3_partsOf_36 rfl hl (by decide) rfl (fun ls hl => ?_)
          refine lv_iinc (v := nI (i + 1)) (lv' := [(4, .int (nI (i + 1))), (2, .long (a ||| (tPa ts i))), (0, .ref (q 2)), (1, .int x)]) hx hb dX3_partsOf_37 hl (k := 1) rfl (nI_inc _) (by decide) rfl (fun ls hl => ?_)
          refine lv_goto (tgt := 5) hx hb dX3_partsOf_40 (by decide) ?_
          exact ih5 (i + 1) (a ||| (tPa ts i)) (by omega) (by omega) (by rw [ha]; simp [paS, *]) ls (lv_sub hl [0, 1, 2, 3] rfl)
  exact L5 (tT ts + 1) 0 0 (by omega) (by omega) (rfl) ls (lv_sub hl [0, 1, 2, 3] rfl)

set_option maxHeartbeats 4000000 in
set_option maxRecDepth 100000 in
theorem c_X0_has (l : Launch) (D : va_G) (q : Nat → Nat) (c : CT) (hs : HS) (x : Int32)  : ROi l yX0_has wsX0_has ({ frames := 0, cells := 0, slots := 0, locals := 0 } : Room) [.ref (q 9), .int x] D c (wH q c hs) (bI (inN x (hB hs))) := by
  refine ro_starti (cc := cX0_has) (maxL := 2) (ret := some .boolean) (by decide) rfl (Nat.le_of_ble_eq_true rfl) ?_
  intro p e s m args below meth c0 ls hx hb hr hml hown hts hlk hP hK hl
  have hown : s.vm.findClass RX0 = some m.cls := hown
  have hl : lv_has ls 2 [(0, .ref (q 9)), (1, .int x)] := hl
  have hin0 : ∀ w ∈ wsX00, w ∈ wsX0_has := by decide +kernel
  refine lv_iload_n hx hb dX0_has_0 rfl (lv_at hl 1 rfl) ?_
  refine lv_if_lt (tgt := 16) hx hb dX0_has_1 (by decide) (fun c1 => ?_) (fun c1 => ?_)
  · -- 1 True
    refine lv_iconst (v := 0) hx hb dX0_has_16 (by decide) ?_
    exact ro_retz hx hb hr hlk (by decide) (by simp [inN, bI, c1]) dX0_has_17
  · -- 1 False
    refine lv_iload_n hx hb dX0_has_4 rfl (lv_at hl 1 rfl) ?_
    refine lv_aload_n hx hb dX0_has_5 rfl (lv_at hl 0 rfl) ?_
    refine va_get (D := D) (ci := 0) (v := .int (nI (hB hs))) (C := RX0) (T := TX0) (N := 4) hx hb hts hin0 hown hK.1 hP 0 rfl rfl 3 (by decide) (hts (.fieldLink RX0 21 "TestPicker$History" "size" "I") (by decide +kernel)) (fun _ h9 => h9) rfl dX0_has_6 ?_
    refine lv_icmp_ge (tgt := 16) hx hb dX0_has_9 (by decide) (fun c9 => ?_) (fun c9 => ?_)
    · -- 9 True
      refine lv_iconst (v := 0) hx hb dX0_has_16 (by decide) ?_
      exact ro_retz hx hb hr hlk (by decide) (by simp [inN, bI, c1, c9]) dX0_has_17
    · -- 9 False
      refine lv_iconst (v := 1) hx hb dX0_has_12 (by decide) ?_
      refine lv_goto (tgt := 17) hx hb dX0_has_13 (by decide) ?_
      exact ro_retz hx hb hr hlk (by decide) (by simp [inN, bI, c1, c9]) dX0_has_17

set_option maxHeartbeats 4000000 in
set_option maxRecDepth 100000 in
theorem c_X0_presentChange (l : Launch) (D : va_G) (q : Nat → Nat) (c : CT) (hs : HS) (hb60 : hB hs ≤ 60) : ROl l yX0_presentChange wsX0_presentChange ({ frames := 0, cells := 0, slots := 0, locals := 0 } : Room) [.ref (q 9)] D c (wH q c hs) (pcg (hCg hs) (hB hs)) := by
  refine ro_startl (cc := cX0_presentChange) (maxL := 1) (ret := some .long) (by decide) rfl (Nat.le_of_ble_eq_true rfl) ?_
  intro p e s m args below meth c0 ls hx hb hr hml hown hts hlk hP hK hl
  have hown : s.vm.findClass RX0 = some m.cls := hown
  have hl : lv_has ls 1 [(0, .ref (q 9))] := hl
  have hin0 : ∀ w ∈ wsX00, w ∈ wsX0_presentChange := by decide +kernel
  refine lv_aload_n hx hb dX0_presentChange_0 rfl (lv_at hl 0 rfl) ?_
  refine va_get (D := D) (ci := 0) (v := .int (nI (hB hs))) (C := RX0) (T := TX0) (N := 4) hx hb hts hin0 hown hK.1 hP 0 rfl rfl 3 (by decide) (hts (.fieldLink RX0 21 "TestPicker$History" "size" "I") (by decide +kernel)) (fun _ h9 => h9) rfl dX0_presentChange_1 ?_
  refine lv_if_le (tgt := 21) hx hb dX0_presentChange_4 (by decide) (fun c4 => ?_) (fun c4 => ?_)
  · -- 4 True
    have c4 : (hB hs) ≤ 0 := (nI_leI (a := (hB hs)) (b := 0) (by omega) (by omega)).mp c4
    refine lv_lconst (v := 0) hx hb dX0_presentChange_21 (by decide) ?_
    exact ro_retl hx hb hr hlk (by rw [pcg, if_pos (by omega)]) dX0_presentChange_22
  · -- 4 False
    have c4 : 0 < (hB hs) := Nat.not_le.mp (fun z => c4 ((nI_leI (b := 0) (by omega) (by omega)).mpr z))
    refine lv_aload_n hx hb dX0_presentChange_7 rfl (lv_at hl 0 rfl) ?_
    refine va_get (D := D) (ci := 0) (v := .ref (q 10)) (C := RX0) (T := TX0) (N := 4) hx hb hts hin0 hown hK.1 hP 0 rfl rfl 0 (by decide) (hts (.fieldLink RX0 9 "TestPicker$History" "changes" "[J") (by decide +kernel)) (fun _ h9 => h9) rfl dX0_presentChange_8 ?_
    refine lv_aload_n hx hb dX0_presentChange_11 rfl (lv_at hl 0 rfl) ?_
    refine va_get (D := D) (ci := 0) (v := .int (nI (hB hs))) (C := RX0) (T := TX0) (N := 4) hx hb hts hin0 hown hK.1 hP 0 rfl rfl 3 (by decide) (hts (.fieldLink RX0 21 "TestPicker$History" "size" "I") (by decide +kernel)) (fun _ h9 => h9) rfl dX0_presentChange_12 ?_
    refine lv_iconst (v := 1) hx hb dX0_presentChange_15 (by decide) ?_
    refine lv_isub hx hb dX0_presentChange_16 ?_
    refine tp_i (z := nI (hB hs - 1)) (pred1 (by omega)) ?_
    refine ld_l hx hb hK hP 1 (f := hCg hs) rfl (i := (hB hs - 1)) (by omega) (by decide) dX0_presentChange_17 ?_
    refine lv_goto (tgt := 22) hx hb dX0_presentChange_18 (by decide) ?_
    exact ro_retl hx hb hr hlk (by rw [pcg, if_neg (by omega)]) dX0_presentChange_22

set_option maxHeartbeats 4000000 in
set_option maxRecDepth 100000 in
theorem c_X0_verdictIn (l : Launch) (D : va_G) (q : Nat → Nat) (c : CT) (hs : HS) (t b : Nat) (ht : t < 20) (hb60 : b < 64) : ROi l yX0_verdictIn wsX0_verdictIn ({ frames := 0, cells := 0, slots := 0, locals := 0 } : Room) [.ref (q 9), .int (nI t), .int (nI b)] D c (wH q c hs) (vIn (hFe hs) (hPs hs) t b) := by
  refine ro_starti (cc := cX0_verdictIn) (maxL := 3) (ret := some .int) (by decide) rfl (Nat.le_of_ble_eq_true rfl) ?_
  intro p e s m args below meth c0 ls hx hb hr hml hown hts hlk hP hK hl
  have hown : s.vm.findClass RX0 = some m.cls := hown
  have hl : lv_has ls 3 [(0, .ref (q 9)), (1, .int (nI t)), (2, .int (nI b))] := hl
  have hin0 : ∀ w ∈ wsX00, w ∈ wsX0_verdictIn := by decide +kernel
  refine lv_aload_n hx hb dX0_verdictIn_0 rfl (lv_at hl 0 rfl) ?_
  refine va_get (D := D) (ci := 0) (v := .ref (q 11)) (C := RX0) (T := TX0) (N := 4) hx hb hts hin0 hown hK.1 hP 0 rfl rfl 1 (by decide) (hts (.fieldLink RX0 15 "TestPicker$History" "fellIn" "[J") (by decide +kernel)) (fun _ h9 => h9) rfl dX0_verdictIn_1 ?_
  refine lv_iload_n hx hb dX0_verdictIn_4 rfl (lv_at hl 1 rfl) ?_
  refine ld_l hx hb hK hP 2 (f := hFe hs) rfl (i := t) (by omega) (by decide) dX0_verdictIn_5 ?_
  refine lv_iload_n hx hb dX0_verdictIn_6 rfl (lv_at hl 2 rfl) ?_
  refine lv_lushr (v := ((hFe hs t).toUInt64 >>> ((nI b).toInt64.toUInt64 &&& Int64.toUInt64 63)).toInt64) hx hb dX0_verdictIn_7 rfl ?_
  refine lv_lconst (v := 1) hx hb dX0_verdictIn_8 (by decide) ?_
  refine lv_land hx hb dX0_verdictIn_9 ?_
  refine tp_l (z := bL (bl (hFe hs t) b)) (in_uL hb60 _) ?_
  refine lv_lconst (v := 1) hx hb dX0_verdictIn_10 (by decide) ?_
  refine W.lcmp hx hb dX0_verdictIn_11 ?_
  refine lv_if_ne (tgt := 17) hx hb dX0_verdictIn_12 (by decide) (fun c12 => ?_) (fun c12 => ?_)
  · -- 12 True
    have c12 := lg_ne.mp c12
    refine lv_aload_n hx hb dX0_verdictIn_17 rfl (lv_at hl 0 rfl) ?_
    refine va_get (D := D) (ci := 0) (v := .ref (q 12)) (C := RX0) (T := TX0) (N := 4) hx hb hts hin0 hown hK.1 hP 0 rfl rfl 2 (by decide) (hts (.fieldLink RX0 18 "TestPicker$History" "passedIn" "[J") (by decide +kernel)) (fun _ h9 => h9) rfl dX0_verdictIn_18 ?_
    refine lv_iload_n hx hb dX0_verdictIn_21 rfl (lv_at hl 1 rfl) ?_
    refine ld_l hx hb hK hP 3 (f := hPs hs) rfl (i := t) (by omega) (by decide) dX0_verdictIn_22 ?_
    refine lv_iload_n hx hb dX0_verdictIn_23 rfl (lv_at hl 2 rfl) ?_
    refine lv_lushr (v := ((hPs hs t).toUInt64 >>> ((nI b).toInt64.toUInt64 &&& Int64.toUInt64 63)).toInt64) hx hb dX0_verdictIn_24 rfl ?_
    refine lv_lconst (v := 1) hx hb dX0_verdictIn_25 (by decide) ?_
    refine lv_land hx hb dX0_verdictIn_26 ?_
    refine tp_l (z := bL (bl (hPs hs t) b)) (in_uL hb60 _) ?_
    refine lv_lconst (v := 1) hx hb dX0_verdictIn_27 (by decide) ?_
    refine W.lcmp hx hb dX0_verdictIn_28 ?_
    refine lv_if_ne (tgt := 36) hx hb dX0_verdictIn_29 (by decide) (fun c29 => ?_) (fun c29 => ?_)
    · -- 29 True
      have c29 := lg_ne.mp c29
      refine lv_bipush (v := (-9)) hx hb dX0_verdictIn_36 (by decide) ?_
      exact ro_reti hx hb hr hlk (by simp [vIn, bL_n1.mp c12, bL_n1.mp c29]) dX0_verdictIn_38
    · -- 29 False
      have c29 := (lg_cmp_eq _ _).mp c29
      refine lv_iconst (v := 0) hx hb dX0_verdictIn_32 (by decide) ?_
      refine lv_goto (tgt := 38) hx hb dX0_verdictIn_33 (by decide) ?_
      exact ro_reti hx hb hr hlk (by simp [vIn, bL_n1.mp c12, bL_1.mp c29]) dX0_verdictIn_38
  · -- 12 False
    have c12 := (lg_cmp_eq _ _).mp c12
    refine lv_iconst (v := 1) hx hb dX0_verdictIn_15 (by decide) ?_
    exact ro_reti hx hb hr hlk (by simp [vIn, bL_1.mp c12]) dX0_verdictIn_16

set_option maxHeartbeats 4000000 in
set_option maxRecDepth 100000 in
theorem c_X0_fellLast (l : Launch) (D : va_G) (q : Nat → Nat) (c : CT) (hs : HS) (t : Nat) (ht : t < 20) : ROi l yX0_fellLast wsX0_fellLast ({ frames := 0, cells := 0, slots := 0, locals := 0 } : Room) [.ref (q 9), .int (nI t)] D c (wH q c hs) (bI (decide (hPs hs t < hFe hs t))) := by
  refine ro_starti (cc := cX0_fellLast) (maxL := 2) (ret := some .boolean) (by decide) rfl (Nat.le_of_ble_eq_true rfl) ?_
  intro p e s m args below meth c0 ls hx hb hr hml hown hts hlk hP hK hl
  have hown : s.vm.findClass RX0 = some m.cls := hown
  have hl : lv_has ls 2 [(0, .ref (q 9)), (1, .int (nI t))] := hl
  have hin0 : ∀ w ∈ wsX00, w ∈ wsX0_fellLast := by decide +kernel
  refine lv_aload_n hx hb dX0_fellLast_0 rfl (lv_at hl 0 rfl) ?_
  refine va_get (D := D) (ci := 0) (v := .ref (q 11)) (C := RX0) (T := TX0) (N := 4) hx hb hts hin0 hown hK.1 hP 0 rfl rfl 1 (by decide) (hts (.fieldLink RX0 15 "TestPicker$History" "fellIn" "[J") (by decide +kernel)) (fun _ h9 => h9) rfl dX0_fellLast_1 ?_
  refine lv_iload_n hx hb dX0_fellLast_4 rfl (lv_at hl 1 rfl) ?_
  refine ld_l hx hb hK hP 2 (f := hFe hs) rfl (i := t) (by omega) (by decide) dX0_fellLast_5 ?_
  refine lv_aload_n hx hb dX0_fellLast_6 rfl (lv_at hl 0 rfl) ?_
  refine va_get (D := D) (ci := 0) (v := .ref (q 12)) (C := RX0) (T := TX0) (N := 4) hx hb hts hin0 hown hK.1 hP 0 rfl rfl 2 (by decide) (hts (.fieldLink RX0 18 "TestPicker$History" "passedIn" "[J") (by decide +kernel)) (fun _ h9 => h9) rfl dX0_fellLast_7 ?_
  refine lv_iload_n hx hb dX0_fellLast_10 rfl (lv_at hl 1 rfl) ?_
  refine ld_l hx hb hK hP 3 (f := hPs hs) rfl (i := t) (by omega) (by decide) dX0_fellLast_11 ?_
  refine W.lcmp hx hb dX0_fellLast_12 ?_
  refine lv_if_le (tgt := 20) hx hb dX0_fellLast_13 (by decide) (fun c13 => ?_) (fun c13 => ?_)
  · -- 13 True
    have c13 := (lg_cmp_le _ _).mp c13
    refine lv_iconst (v := 0) hx hb dX0_fellLast_20 (by decide) ?_
    exact ro_retz hx hb hr hlk (by decide) (by simp [bI, Int64.not_lt.mpr c13]) dX0_fellLast_21
  · -- 13 False
    have c13 := lg_nle.mp c13
    refine lv_iconst (v := 1) hx hb dX0_fellLast_16 (by decide) ?_
    refine lv_goto (tgt := 21) hx hb dX0_fellLast_17 (by decide) ?_
    exact ro_retz hx hb hr hlk (by decide) (by simp [bI, c13]) dX0_fellLast_21
end
section
/-! what the readers answer, further -/
/-- the numbers below n of which f holds, as bits -/
def orI (f : Nat → Bool) : Nat → Int32
  | 0 => 0
  | n + 1 => orI f n ||| (if f n then one n else 0)
def sumI (f : Nat → Int32) : Nat → Int32
  | 0 => 0
  | n + 1 => sumI f n + f n
/-- FLAKY, build by build: the last verdict, whether a part was touched since, whether it is flaky -/
def flS (cg : Nat → Int64) (v : Nat → Int32) (r : Int64) : Nat → Int32 × Bool × Bool
  | 0 => (-9, false, false)
  | b + 1 => if v b < 0 then ((flS cg v r b).1, (flS cg v r b).2.1 || !decide (cg b &&& r = 0), (flS cg v r b).2.2) else (v b, false, (flS cg v r b).2.2 || (!decide ((flS cg v r b).1 < 0) && !decide ((flS cg v r b).1 = v b) && !((flS cg v r b).2.1 || !decide (cg b &&& r = 0))))
def flk (cg : Nat → Int64) (v : Nat → Int32) (r : Int64) (B : Nat) : Bool := (flS cg v r B).2.2
theorem flS_mono {cg : Nat → Int64} {v : Nat → Int32} {r : Int64} {b : Nat} (h : (flS cg v r b).2.2 = true) : ∀ k, (flS cg v r (b + k)).2.2 = true
  | 0 => h
  | k + 1 => by
    have ih := flS_mono h k
    show (flS cg v r ((b + k) + 1)).2.2 = true
    by_cases hv : v (b + k) < 0
    · simp only [flS, hv, if_true]; exact ih
    · simp only [flS, hv, if_false, ih, Bool.true_or]
def lastV (v : Nat → Int32) : Nat → Int32
  | 0 => -9
  | b + 1 => if v b < 0 then lastV v b else v b
def htC (x : Int64) (B : Nat) : Int32 := if B < 2 then 0 else ((if B - 1 < 8 then x <<< ((nI (8 - (B - 1))).toInt64 &&& 63) else (x.toUInt64 >>> ((nI (B - 1 - 8)).toInt64.toUInt64 &&& Int64.toUInt64 63)).toInt64) &&& 255).toInt32
/-- the reference's heat: the first n of the 8 builds ahead -/
def htM (ve : Nat → Int32) (B t : Nat) : Nat → Int32
  | 0 => 0
  | k + 1 => htM ve B t k + (if B < k + 2 then (0 : Int32) else if ve (20 * (B - 1 - (k + 1)) + t) = 1 then one (8 - (k + 1)) else (0 : Int32))
def rbS (bs : Nat → Int32) (t : Nat) : Nat → Int64
  | 0 => 0
  | i + 1 => rbS bs t i ||| ((bs (5 * t + i)).toInt64 <<< ((nI (8 * i)).toInt64 &&& 63))
def raM (ms bs : Nat → Int32) (t : Nat) : Int64 := if ms t = 0 then rbS bs t 5 else 0
/-- what a test needs lies below it -/
def WN (nd : Nat → Int32) (T : Nat) : Prop := ∀ t, t < T → nd t < 0 ∨ ∃ u, u < t ∧ nd t = nI u
def chM (nd : Nat → Int32) : Nat → Int32 → Int32
  | 0, _ => 0
  | f + 1, y => if y < 0 then 0 else one y.toNatClampNeg ||| chM nd f (nd y.toNatClampNeg)
def mbM (kd ms nd : Nat → Int32) : Nat → Int32 → Bool
  | 0, _ => true
  | f + 1, y => if y < 0 then true else (!decide (kd y.toNatClampNeg = 3) && decide (ms y.toNatClampNeg = 0)) && mbM kd ms nd f (nd y.toNatClampNeg)
def soS (may : Nat → Int32) (x : Int32) : Nat → Int32
  | 0 => 0
  | k + 1 => soS may x k ||| (if bt x k then 1 <<< (may k &&& 31) else 0)
def arT (x : Int32) (T : Nat) : Bool := !decide (x < 0) && decide (x >>> (nI T &&& 31) = 0)
abbrev gV (gs : GS) (t : Nat) : Nat → Int32 := fun b => gVe gs (20 * b + t)
abbrev gRe (gs : GS) (t : Nat) : Int64 := raM (gMs gs) (gBy gs) t
abbrev gFk (gs : GS) (t : Nat) : Bool := flk (gCg gs) (gV gs t) (gRe gs t) (gB gs)
abbrev gCh (gs : GS) (t : Nat) : Int32 := chM (gNd gs) 21 (nI t)
abbrev gMb (gs : GS) (t : Nat) : Bool := mbM (gKd gs) (gMs gs) (gNd gs) 21 (nI t)
abbrev gTS (gs : GS) (x : Int32) : Int32 := tmS (gKd gs) (gTi gs) x (gT gs)
abbrev gRS (gs : GS) (x : Int32) : Int64 := paS (gRe gs) x (gT gs)
abbrev gFo (gs : GS) (b : Nat) (x : Int32) : Int32 := orI (fun t => bt x t && decide (gVe gs (20 * b + t) = 1)) (gT gs)
abbrev gCo (gs : GS) : Int32 := orI (fun t => !decide (gKd gs t = 3) && !gFk gs t) (gT gs)
def gTl (gs : GS) (t : Nat) (w : Int32) : Int32 :=
  if w = 0 then gKd gs t else if w = 1 then cTm (gKd gs) (gTi gs) t else if w = 2 then gNd gs t else if w = 3 then htM (gVe gs) (gB gs) t 8 else if w = 4 then bI (gFk gs t) else if w = 5 then bI (decide (lastV (gV gs t) (gB gs) = 1) && !gFk gs t) else bitsN (gCh gs t).toInt64 40
theorem ix20 (b t : Nat) : (20 : Int32) * nI b + nI t = nI (20 * b + t) := by rw [show (20 : Int32) * nI b = nI (20 * b) from pk_mul 20 b, nI_add]
theorem ix5 (t i : Nat) : (5 : Int32) * nI t + nI i = nI (5 * t + i) := by rw [show (5 : Int32) * nI t = nI (5 * t) from pk_mul 5 t, nI_add]
theorem pr_ge : ∀ B, B < 61 → ((1 : Int32) ≤ nI B - 1 ↔ 2 ≤ B) := by decide +kernel
theorem ag_lt : ∀ B, B < 61 → ∀ a, a < 10 → (nI B - 1 - nI a < 0 ↔ B < a + 1) := by decide +kernel
theorem ag_eq {B a : Nat} (h : a + 1 ≤ B) : nI B - 1 - nI a = nI (B - 1 - a) := by rw [pred1 (by omega), pk_sub (by omega)]
theorem rg_inN {x : Int32} {T : Nat} (hT : T < 2147483648) : rg x 0 (nI T - 1) = inN x T := by
  unfold rg inN
  by_cases h0 : x < 0
  · simp [h0]
  · obtain ⟨j, hj, rfl⟩ := nI_of h0
    rw [decide_eq_false h0, decide_eq_true h0]
    cases T with
    | zero =>
      have e : nI 0 - 1 = -1 := by decide
      have h1 : (-1 : Int32) < nI j := by rw [Int32.lt_iff_toInt_lt, nI_toInt hj]; show (-1 : Int) < _; omega
      have h2 : ¬ ¬ nI 0 ≤ nI j := fun z => z (nI_le (by omega) hj)
      rw [e, decide_eq_true h1, decide_eq_false h2]; rfl
    | succ T =>
      rw [nI_pred]
      by_cases h : j < T + 1
      · rw [decide_eq_false (nI_nlt (a := T) (b := j) (by omega) (by omega)), decide_eq_true (nI_ge h hT)]; rfl
      · rw [decide_eq_true (nI_lt (a := T) (b := j) (by omega) hj), decide_eq_false (fun z => z (nI_le (a := T + 1) (b := j) (by omega) hj))]; rfl
theorem sw6 {x : Int32} (h0 : ¬ x = 0) (h1 : ¬ x = 1) (h2 : ¬ x = 2) (h3 : ¬ x = 3) (h4 : ¬ x = 4) (h5 : ¬ x = 5) : x.toInt < 0 ∨ 5 < x.toInt := by
  have a0 := lv_neT h0 (a := 0) rfl
  have a1 := lv_neT h1 (a := 1) rfl
  have a2 := lv_neT h2 (a := 2) rfl
  have a3 := lv_neT h3 (a := 3) rfl
  have a4 := lv_neT h4 (a := 4) rfl
  have a5 := lv_neT h5 (a := 5) rfl
  omega
theorem or0 (x : Int32) : x ||| 0 = x := b_ext fun i _ => by rw [b_or, b_0, Bool.or_false]
theorem zor (x : Int32) : 0 ||| x = x := b_ext fun i _ => by rw [b_or, b_0, Bool.false_or]
theorem orA (x y z : Int32) : x ||| y ||| z = x ||| (y ||| z) := b_ext fun i _ => by rw [b_or, b_or, b_or, b_or, Bool.or_assoc]
theorem cl_nI' {u : Nat} (h : u < 20) : (nI u).toNatClampNeg = u := nI_clamp (by omega)
theorem chM_pos {nd : Nat → Int32} {f u : Nat} (h : u < 20) : chM nd (f + 1) (nI u) = one u ||| chM nd f (nd u) := by
  show (if nI u < 0 then 0 else one (nI u).toNatClampNeg ||| chM nd f (nd (nI u).toNatClampNeg)) = _
  rw [if_neg (nI_pos (by omega)), cl_nI' h]
theorem mbM_pos {kd ms nd : Nat → Int32} {f u : Nat} (h : u < 20) : mbM kd ms nd (f + 1) (nI u) = ((!decide (kd u = 3) && decide (ms u = 0)) && mbM kd ms nd f (nd u)) := by
  show (if nI u < 0 then true else _) = _
  rw [if_neg (nI_pos (by omega)), cl_nI' h]
theorem oneE (t : Nat) : (1 : Int32) <<< (nI t &&& 31) = one t := rfl
end
section
theorem ra_miss {gs : GS} {t i : Nat} {a : Int64} (ha : a = rbS (gBy gs) t i) (hm : i = 0 ∨ gMs gs t = 0) (c : ¬ gMs gs t = 0) : a = gRe gs t := by
  rcases hm with rfl | h
  · rw [ha, gRe, raM, if_neg c]; rfl
  · exact absurd h c
theorem ra_full {gs : GS} {t i : Nat} {a : Int64} (ha : a = rbS (gBy gs) t i) (h5 : i = 5) (hm : i = 0 ∨ gMs gs t = 0) : a = gRe gs t := by
  rcases hm with h | h
  · omega
  · rw [ha, gRe, raM, if_pos h, h5]
theorem ch_at {n T : Nat} {y : Int32} (h : 0 < n + 1 ∧ (y < 0 ∨ ∃ u, u + 1 < n + 1 ∧ u < T ∧ y = nI u)) (c : ¬ y < 0) : ∃ u, u < n ∧ u < T ∧ y = nI u := by
  rcases h.2 with h | ⟨u, h1, h2, h3⟩
  · exact absurd h c
  · exact ⟨u, by omega, h2, h3⟩
theorem ch_next {nd : Nat → Int32} {n T u : Nat} (hN : WN nd T) (h1 : u < n) (h2 : u < T) : 0 < n ∧ (nd u < 0 ∨ ∃ v, v + 1 < n ∧ v < T ∧ nd u = nI v) := by
  refine ⟨by omega, ?_⟩
  rcases hN u h2 with h | ⟨v, h3, h4⟩
  · exact Or.inl h
  · exact Or.inr ⟨v, by omega, by omega, h4⟩
theorem ht_stop {ve : Nat → Int32} {B t : Nat} : ∀ {k : Nat}, B < k + 2 → k ≤ 8 → htM ve B t k = htM ve B t 8 := by
  intro k h hk
  have e : ∀ j, htM ve B t (k + j) = htM ve B t k := by
    intro j
    induction j with
    | zero => rfl
    | succ j ih =>
      have h2 : B < k + j + 2 := by omega
      show htM ve B t (k + j) + (if B < k + j + 2 then (0 : Int32) else _) = _
      rw [if_pos h2, ih]; simp
  have h8 := e (8 - k)
  rw [show k + (8 - k) = 8 by omega] at h8
  exact h8.symm
set_option maxHeartbeats 4000000 in
set_option maxRecDepth 100000 in
theorem c_X5_isTest (l : Launch) (D : va_G) (z : Nat → Nat) (c : CT) (gs : GS) (x : Int32) (hT : gT gs ≤ 20) : ROi l yX5_isTest wsX5_isTest ({ frames := 1, cells := 0, slots := 0, locals := 22 } : Room) [.ref (z 0), .int x] D c (wG z c gs) (bI (inN x (gT gs))) := by
  refine ro_starti (cc := cX5_isTest) (maxL := 2) (ret := some .boolean) (by decide) rfl (Nat.le_of_ble_eq_true rfl) ?_
  intro p e s m args below meth c0 ls hx hb hr hml hown hts hlk hP hK hl
  have hown : s.vm.findClass RX5 = some m.cls := hown
  have hl : lv_has ls 2 [(0, .ref (z 0)), (1, .int x)] := hl
  have hin5 : ∀ w ∈ wsX50, w ∈ wsX5_isTest := by decide +kernel
  refine lv_iload_n hx hb dX5_isTest_0 rfl (lv_at hl 1 rfl) ?_
  refine lv_iconst (v := 0) hx hb dX5_isTest_1 (by decide) ?_
  refine lv_aload_n hx hb dX5_isTest_2 rfl (lv_at hl 0 rfl) ?_
  refine va_get (D := D) (ci := 5) (v := .int (nI (gT gs))) (C := RX5) (T := TX5) (N := 19) hx hb hts hin5 hown hK.1 hP 0 rfl rfl 2 (by decide) (hts (.fieldLink RX5 52 "TestPickerModel" "tests" "I") (by decide +kernel)) (fun _ h9 => h9) rfl dX5_isTest_3 ?_
  refine lv_iconst (v := 1) hx hb dX5_isTest_6 (by decide) ?_
  refine lv_isub hx hb dX5_isTest_7 ?_
  refine ro_Si (As := [.int x, .int 0, .int (nI (gT gs) - 1)]) (rest := []) ⟨hx, hb, hml, hown, hts⟩ (c_X5_in l D c x 0 (nI (gT gs) - 1)) (va_cwS 3 hts gX5_isTest_X5_in rfl rfl rfl (by decide +kernel) ⟨Nat.le_of_ble_eq_true rfl, Nat.le_of_ble_eq_true rfl⟩) va_P0 hK rfl hl.1 rfl (Nat.le_of_ble_eq_true rfl) dX5_isTest_8 ⟨Nat.le_of_ble_eq_true rfl, Nat.le_of_ble_eq_true rfl⟩ ?_
  exact ro_retz hx hb hr hlk (bI_or _) (by rw [rg_inN (by omega)]) dX5_isTest_11

set_option maxHeartbeats 4000000 in
set_option maxRecDepth 100000 in
theorem c_X5_isBuild (l : Launch) (D : va_G) (z : Nat → Nat) (c : CT) (gs : GS) (x : Int32) (hB60 : gB gs ≤ 60) : ROi l yX5_isBuild wsX5_isBuild ({ frames := 1, cells := 0, slots := 0, locals := 22 } : Room) [.ref (z 0), .int x] D c (wG z c gs) (bI (inN x (gB gs))) := by
  refine ro_starti (cc := cX5_isBuild) (maxL := 2) (ret := some .boolean) (by decide) rfl (Nat.le_of_ble_eq_true rfl) ?_
  intro p e s m args below meth c0 ls hx hb hr hml hown hts hlk hP hK hl
  have hown : s.vm.findClass RX5 = some m.cls := hown
  have hl : lv_has ls 2 [(0, .ref (z 0)), (1, .int x)] := hl
  have hin5 : ∀ w ∈ wsX50, w ∈ wsX5_isBuild := by decide +kernel
  refine lv_iload_n hx hb dX5_isBuild_0 rfl (lv_at hl 1 rfl) ?_
  refine lv_iconst (v := 0) hx hb dX5_isBuild_1 (by decide) ?_
  refine lv_aload_n hx hb dX5_isBuild_2 rfl (lv_at hl 0 rfl) ?_
  refine va_get (D := D) (ci := 5) (v := .int (nI (gB gs))) (C := RX5) (T := TX5) (N := 19) hx hb hts hin5 hown hK.1 hP 0 rfl rfl 8 (by decide) (hts (.fieldLink RX5 59 "TestPickerModel" "builds" "I") (by decide +kernel)) (fun _ h9 => h9) rfl dX5_isBuild_3 ?_
  refine lv_iconst (v := 1) hx hb dX5_isBuild_6 (by decide) ?_
  refine lv_isub hx hb dX5_isBuild_7 ?_
  refine ro_Si (As := [.int x, .int 0, .int (nI (gB gs) - 1)]) (rest := []) ⟨hx, hb, hml, hown, hts⟩ (c_X5_in l D c x 0 (nI (gB gs) - 1)) (va_cwS 3 hts gX5_isBuild_X5_in rfl rfl rfl (by decide +kernel) ⟨Nat.le_of_ble_eq_true rfl, Nat.le_of_ble_eq_true rfl⟩) va_P0 hK rfl hl.1 rfl (Nat.le_of_ble_eq_true rfl) dX5_isBuild_8 ⟨Nat.le_of_ble_eq_true rfl, Nat.le_of_ble_eq_true rfl⟩ ?_
  exact ro_retz hx hb hr hlk (bI_or _) (by rw [rg_inN (by omega)]) dX5_isBuild_11

set_option maxHeartbeats 4000000 in
set_option maxRecDepth 100000 in
theorem c_X5_reachOf (l : Launch) (D : va_G) (z : Nat → Nat) (c : CT) (gs : GS) (t : Nat) (ht : t < 20) : ROl l yX5_reachOf wsX5_reachOf ({ frames := 0, cells := 0, slots := 0, locals := 0 } : Room) [.ref (z 0), .int (nI t)] D c (wG z c gs) (gRe gs t) := by
  refine ro_startl (cc := cX5_reachOf) (maxL := 5) (ret := some .long) (by decide) rfl (Nat.le_of_ble_eq_true rfl) ?_
  intro p e s m args below meth c0 ls hx hb hr hml hown hts hlk hP hK hl
  have hown : s.vm.findClass RX5 = some m.cls := hown
  have hl : lv_has ls 5 [(0, .ref (z 0)), (1, .int (nI t))] := hl
  have hin5 : ∀ w ∈ wsX50, w ∈ wsX5_reachOf := by decide +kernel
  refine lv_lconst (v := 0) hx hb dX5_reachOf_0 (by decide) ?_
  refine lv_lstore_n (lv' := [(2, .long 0), (0, .ref (z 0)), (1, .int (nI t))]) hx hb dX5_reachOf_1 rfl hl (by decide) rfl (fun ls hl => ?_)
  refine lv_iconst (v := 0) hx hb dX5_reachOf_2 (by decide) ?_
  refine lv_istore (lv' := [(4, .int 0), (2, .long 0), (0, .ref (z 0)), (1, .int (nI t))]) hx hb dX5_reachOf_3 hl (by decide) rfl (fun ls hl => ?_)
  have L5 : ∀ (n : Nat) (i : Nat) (a : Int64), (i ≤ 5) → (5 < i + n) → (a = rbS (gBy gs) t i) → (i = 0 ∨ gMs gs t = 0) → ∀ ls : Array Slot, lv_has ls 5 [(4, .int (nI i)), (2, .long a), (0, .ref (z 0)), (1, .int (nI t))] → W p l e ({ frames := 0, cells := 0, slots := 0, locals := 0 } : Room) s m args below meth c0 s.heap [] 0 0 (QRl below args s (gRe gs t)) (F0 m 5 ls []) := by
    intro n
    induction n with
    | zero => intro i a hi hn ha hm ls hl; exact absurd hn (by omega)
    | succ n ih5 =>
      intro i a hi hn ha hm ls hl
      refine lv_iload hx hb dX5_reachOf_5 (lv_at hl 0 rfl) ?_
      refine lv_iconst (v := 5) hx hb dX5_reachOf_7 (by decide) ?_
      refine lv_icmp_ge (tgt := 47) hx hb dX5_reachOf_8 (by decide) (fun c8 => ?_) (fun c8 => ?_)
      · -- 8 True
        have c8 : 5 ≤ i := (nI_leI (a := 5) (b := i) (by omega) (by omega)).mp c8
        refine lv_lload_n hx hb dX5_reachOf_47 rfl (lv_at hl 1 rfl) ?_
        exact ro_retl hx hb hr hlk (ra_full ha (by omega) hm) dX5_reachOf_48
      · -- 8 False
        have c8 : i < 5 := (Nat.not_le.mp (fun z => c8 ((nI_leI (a := 5) (b := i) (by omega) (by omega)).mpr z)))
        refine lv_aload_n hx hb dX5_reachOf_11 rfl (lv_at hl 2 rfl) ?_
        refine va_get (D := D) (ci := 5) (v := .ref (z 5)) (C := RX5) (T := TX5) (N := 19) hx hb hts hin5 hown hK.1 hP 0 rfl rfl 6 (by decide) (hts (.fieldLink RX5 22 "TestPickerModel" "missing" "[Z") (by decide +kernel)) (fun _ h9 => h9) rfl dX5_reachOf_12 ?_
        refine lv_iload_n hx hb dX5_reachOf_15 rfl (lv_at hl 3 rfl) ?_
        refine ld_z hx hb hK hP 5 (f := gMs gs) rfl (i := t) (by omega) (by decide) dX5_reachOf_16 ?_
        refine lv_if_ne (tgt := 47) hx hb dX5_reachOf_17 (by decide) (fun c17 => ?_) (fun c17 => ?_)
        · -- 17 True
          refine lv_lload_n hx hb dX5_reachOf_47 rfl (lv_at hl 1 rfl) ?_
          exact ro_retl hx hb hr hlk (ra_miss ha hm c17) dX5_reachOf_48
        · -- 17 False
          refine lv_lload_n hx hb dX5_reachOf_20 rfl (lv_at hl 1 rfl) ?_
          refine lv_aload_n hx hb dX5_reachOf_21 rfl (lv_at hl 2 rfl) ?_
          refine va_get (D := D) (ci := 5) (v := .ref (z 6)) (C := RX5) (T := TX5) (N := 19) hx hb hts hin5 hown hK.1 hP 0 rfl rfl 7 (by decide) (hts (.fieldLink RX5 26 "TestPickerModel" "bytes" "[I") (by decide +kernel)) (fun _ h9 => h9) rfl dX5_reachOf_22 ?_
          refine lv_iconst (v := 5) hx hb dX5_reachOf_25 (by decide) ?_
          refine lv_iload_n hx hb dX5_reachOf_26 rfl (lv_at hl 3 rfl) ?_
          refine lv_imul hx hb dX5_reachOf_27 ?_
          refine lv_iload hx hb dX5_reachOf_28 (lv_at hl 0 rfl) ?_
          refine lv_iadd hx hb dX5_reachOf_30 ?_
          refine tp_i (z := nI (5 * t + i)) (ix5 t i) ?_
          refine ld_i hx hb hK hP 6 (f := gBy gs) rfl (i := (5 * t + i)) (by omega) (by decide) dX5_reachOf_31 ?_
          refine lv_i2l (v := (gBy gs (5 * t + i)).toInt64) hx hb dX5_reachOf_32 rfl ?_
          refine lv_bipush (v := 8) hx hb dX5_reachOf_33 (by decide) ?_
          refine lv_iload hx hb dX5_reachOf_35 (lv_at hl 0 rfl) ?_
          refine lv_imul hx hb dX5_reachOf_37 ?_
          refine tp_i (z := nI (8 * i)) (mul8 i) ?_
          refine lv_lshl (v := ((gBy gs (5 * t + i)).toInt64 <<< ((nI (8 * i)).toInt64 &&& 63))) hx hb dX5_reachOf_38 rfl ?_
          refine lv_lor hx hb dX5_reachOf_39 ?_
          refine lv_lstore_n (lv' := [(2, .long (a ||| ((gBy gs (5 * t + i)).toInt64 <<< ((nI (8 * i)).toInt64 &&& 63)))), (4, .int (nI i)), (0, .ref (z 0)), (1, .int (nI t))]) hx hb dX5_reachOf_40 rfl hl (by decide) rfl (fun ls hl => ?_)
          refine lv_iinc (v := nI (i + 1)) (lv' := [(4, .int (nI (i + 1))), (2, .long (a ||| ((gBy gs (5 * t + i)).toInt64 <<< ((nI (8 * i)).toInt64 &&& 63)))), (0, .ref (z 0)), (1, .int (nI t))]) hx hb dX5_reachOf_41 hl (k := 1) rfl (nI_inc _) (by decide) rfl (fun ls hl => ?_)
          refine lv_goto (tgt := 5) hx hb dX5_reachOf_44 (by decide) ?_
          exact ih5 (i + 1) (a ||| ((gBy gs (5 * t + i)).toInt64 <<< ((nI (8 * i)).toInt64 &&& 63))) (by omega) (by omega) (by rw [ha]; rfl) (Or.inr c17) ls (lv_sub hl [0, 1, 2, 3] rfl)
  exact L5 (6) 0 0 (by omega) (by omega) (rfl) (Or.inl rfl) ls (lv_sub hl [0, 1, 2, 3] rfl)

set_option maxHeartbeats 4000000 in
set_option maxRecDepth 100000 in
theorem c_X5_timeOf (l : Launch) (D : va_G) (z : Nat → Nat) (c : CT) (gs : GS) (t : Nat) (ht : t < 20) : ROi l yX5_timeOf wsX5_timeOf ({ frames := 0, cells := 0, slots := 0, locals := 0 } : Room) [.ref (z 0), .int (nI t)] D c (wG z c gs) (cTm (gKd gs) (gTi gs) t) := by
  refine ro_starti (cc := cX5_timeOf) (maxL := 2) (ret := some .int) (by decide) rfl (Nat.le_of_ble_eq_true rfl) ?_
  intro p e s m args below meth c0 ls hx hb hr hml hown hts hlk hP hK hl
  have hown : s.vm.findClass RX5 = some m.cls := hown
  have hl : lv_has ls 2 [(0, .ref (z 0)), (1, .int (nI t))] := hl
  have hin5 : ∀ w ∈ wsX50, w ∈ wsX5_timeOf := by decide +kernel
  refine lv_aload_n hx hb dX5_timeOf_0 rfl (lv_at hl 0 rfl) ?_
  refine va_get (D := D) (ci := 5) (v := .ref (z 2)) (C := RX5) (T := TX5) (N := 19) hx hb hts hin5 hown hK.1 hP 0 rfl rfl 3 (by decide) (hts (.fieldLink RX5 13 "TestPickerModel" "kinds" "[I") (by decide +kernel)) (fun _ h9 => h9) rfl dX5_timeOf_1 ?_
  refine lv_iload_n hx hb dX5_timeOf_4 rfl (lv_at hl 1 rfl) ?_
  refine ld_i hx hb hK hP 2 (f := gKd gs) rfl (i := t) (by omega) (by decide) dX5_timeOf_5 ?_
  refine lv_iconst (v := 1) hx hb dX5_timeOf_6 (by decide) ?_
  refine lv_icmp_ne (tgt := 21) hx hb dX5_timeOf_7 (by decide) (fun c7 => ?_) (fun c7 => ?_)
  · -- 7 True
    refine lv_aload_n hx hb dX5_timeOf_21 rfl (lv_at hl 0 rfl) ?_
    refine va_get (D := D) (ci := 5) (v := .ref (z 3)) (C := RX5) (T := TX5) (N := 19) hx hb hts hin5 hown hK.1 hP 0 rfl rfl 4 (by decide) (hts (.fieldLink RX5 16 "TestPickerModel" "times" "[I") (by decide +kernel)) (fun _ h9 => h9) rfl dX5_timeOf_22 ?_
    refine lv_iload_n hx hb dX5_timeOf_25 rfl (lv_at hl 1 rfl) ?_
    refine ld_i hx hb hK hP 3 (f := gTi gs) rfl (i := t) (by omega) (by decide) dX5_timeOf_26 ?_
    exact ro_reti hx hb hr hlk (by simp [cTm, c7]) dX5_timeOf_27
  · -- 7 False
    refine lv_iconst (v := 3) hx hb dX5_timeOf_10 (by decide) ?_
    refine lv_aload_n hx hb dX5_timeOf_11 rfl (lv_at hl 0 rfl) ?_
    refine va_get (D := D) (ci := 5) (v := .ref (z 3)) (C := RX5) (T := TX5) (N := 19) hx hb hts hin5 hown hK.1 hP 0 rfl rfl 4 (by decide) (hts (.fieldLink RX5 16 "TestPickerModel" "times" "[I") (by decide +kernel)) (fun _ h9 => h9) rfl dX5_timeOf_12 ?_
    refine lv_iload_n hx hb dX5_timeOf_15 rfl (lv_at hl 1 rfl) ?_
    refine ld_i hx hb hK hP 3 (f := gTi gs) rfl (i := t) (by omega) (by decide) dX5_timeOf_16 ?_
    refine lv_imul hx hb dX5_timeOf_17 ?_
    refine lv_goto (tgt := 27) hx hb dX5_timeOf_18 (by decide) ?_
    exact ro_reti hx hb hr hlk (by simp [cTm, c7]) dX5_timeOf_27

set_option maxHeartbeats 4000000 in
set_option maxRecDepth 100000 in
theorem c_X5_chainOf (l : Launch) (D : va_G) (z : Nat → Nat) (c : CT) (gs : GS) (t : Nat) (ht : t < gT gs) (hT : gT gs ≤ 20) (hN : WN (gNd gs) (gT gs)) : ROi l yX5_chainOf wsX5_chainOf ({ frames := 0, cells := 0, slots := 0, locals := 0 } : Room) [.ref (z 0), .int (nI t)] D c (wG z c gs) (gCh gs t) := by
  refine ro_starti (cc := cX5_chainOf) (maxL := 4) (ret := some .int) (by decide) rfl (Nat.le_of_ble_eq_true rfl) ?_
  intro p e s m args below meth c0 ls hx hb hr hml hown hts hlk hP hK hl
  have hown : s.vm.findClass RX5 = some m.cls := hown
  have hl : lv_has ls 4 [(0, .ref (z 0)), (1, .int (nI t))] := hl
  have hin5 : ∀ w ∈ wsX50, w ∈ wsX5_chainOf := by decide +kernel
  refine lv_iconst (v := 0) hx hb dX5_chainOf_0 (by decide) ?_
  refine lv_istore_n (lv' := [(2, .int 0), (0, .ref (z 0)), (1, .int (nI t))]) hx hb dX5_chainOf_1 rfl hl (by decide) rfl (fun ls hl => ?_)
  refine lv_iload_n hx hb dX5_chainOf_2 rfl (lv_at hl 2 rfl) ?_
  refine lv_istore_n (lv' := [(3, .int (nI t)), (2, .int 0), (0, .ref (z 0)), (1, .int (nI t))]) hx hb dX5_chainOf_3 rfl hl (by decide) rfl (fun ls hl => ?_)
  have L4 : ∀ (n : Nat) (y : Int32) (a : Int32), (0 < n ∧ (y < 0 ∨ ∃ u, u + 1 < n ∧ u < gT gs ∧ y = nI u)) → (a ||| chM (gNd gs) n y = gCh gs t) → ∀ ls : Array Slot, lv_has ls 4 [(3, .int y), (2, .int a), (0, .ref (z 0)), (1, .int (nI t))] → W p l e ({ frames := 0, cells := 0, slots := 0, locals := 0 } : Room) s m args below meth c0 s.heap [] 0 0 (QRi below args s (gCh gs t)) (F0 m 4 ls []) := by
    intro n
    induction n with
    | zero => intro y a hn ha ls hl; exact absurd hn.1 (by omega)
    | succ n ih4 =>
      intro y a hn ha ls hl
      refine lv_iload_n hx hb dX5_chainOf_4 rfl (lv_at hl 0 rfl) ?_
      refine lv_if_lt (tgt := 24) hx hb dX5_chainOf_5 (by decide) (fun c5 => ?_) (fun c5 => ?_)
      · -- 5 True
        refine lv_iload_n hx hb dX5_chainOf_24 rfl (lv_at hl 1 rfl) ?_
        exact ro_reti hx hb hr hlk (by rw [← ha, show chM (gNd gs) (n + 1) y = 0 from if_pos c5, or0]) dX5_chainOf_25
      · -- 5 False
        obtain ⟨u, hu1, hu2, rfl⟩ := ch_at hn c5
        refine lv_iload_n hx hb dX5_chainOf_8 rfl (lv_at hl 1 rfl) ?_
        refine lv_iconst (v := 1) hx hb dX5_chainOf_9 (by decide) ?_
        refine lv_iload_n hx hb dX5_chainOf_10 rfl (lv_at hl 0 rfl) ?_
        refine lv_ishl hx hb dX5_chainOf_11 ?_
        refine lv_ior hx hb dX5_chainOf_12 ?_
        refine lv_istore_n (lv' := [(2, .int (a ||| (1 <<< ((nI u) &&& 31)))), (3, .int (nI u)), (0, .ref (z 0)), (1, .int (nI t))]) hx hb dX5_chainOf_13 rfl hl (by decide) rfl (fun ls hl => ?_)
        refine lv_aload_n hx hb dX5_chainOf_14 rfl (lv_at hl 2 rfl) ?_
        refine va_get (D := D) (ci := 5) (v := .ref (z 4)) (C := RX5) (T := TX5) (N := 19) hx hb hts hin5 hown hK.1 hP 0 rfl rfl 5 (by decide) (hts (.fieldLink RX5 19 "TestPickerModel" "needs" "[I") (by decide +kernel)) (fun _ h9 => h9) rfl dX5_chainOf_15 ?_
        refine lv_iload_n hx hb dX5_chainOf_18 rfl (lv_at hl 1 rfl) ?_
        refine ld_i hx hb hK hP 4 (f := gNd gs) rfl (i := u) (by omega) (by decide) dX5_chainOf_19 ?_
        refine lv_istore_n (lv' := [(3, .int (gNd gs u)), (2, .int (a ||| (1 <<< ((nI u) &&& 31)))), (0, .ref (z 0)), (1, .int (nI t))]) hx hb dX5_chainOf_20 rfl hl (by decide) rfl (fun ls hl => ?_)
        refine lv_goto (tgt := 4) hx hb dX5_chainOf_21 (by decide) ?_
        exact ih4 (gNd gs u) (a ||| (1 <<< ((nI u) &&& 31))) (ch_next hN hu1 hu2) (by rw [← ha, chM_pos (by omega), orA]; rfl) ls (lv_sub hl [0, 1, 2, 3] rfl)
  exact L4 (21) (nI t) 0 (⟨by omega, Or.inr ⟨t, by omega, ht, rfl⟩⟩) (zor _) ls (lv_sub hl [0, 1, 2, 3] rfl)

set_option maxHeartbeats 4000000 in
set_option maxRecDepth 100000 in
theorem c_X5_heatOf (l : Launch) (D : va_G) (z : Nat → Nat) (c : CT) (gs : GS) (t : Nat) (ht : t < 20) (hB60 : gB gs ≤ 60) : ROi l yX5_heatOf wsX5_heatOf ({ frames := 0, cells := 0, slots := 0, locals := 0 } : Room) [.ref (z 0), .int (nI t)] D c (wG z c gs) (htM (gVe gs) (gB gs) t 8) := by
  refine ro_starti (cc := cX5_heatOf) (maxL := 4) (ret := some .int) (by decide) rfl (Nat.le_of_ble_eq_true rfl) ?_
  intro p e s m args below meth c0 ls hx hb hr hml hown hts hlk hP hK hl
  have hown : s.vm.findClass RX5 = some m.cls := hown
  have hl : lv_has ls 4 [(0, .ref (z 0)), (1, .int (nI t))] := hl
  have hin5 : ∀ w ∈ wsX50, w ∈ wsX5_heatOf := by decide +kernel
  refine lv_iconst (v := 0) hx hb dX5_heatOf_0 (by decide) ?_
  refine lv_istore_n (lv' := [(2, .int 0), (0, .ref (z 0)), (1, .int (nI t))]) hx hb dX5_heatOf_1 rfl hl (by decide) rfl (fun ls hl => ?_)
  refine lv_iconst (v := 1) hx hb dX5_heatOf_2 (by decide) ?_
  refine lv_istore_n (lv' := [(3, .int 1), (2, .int 0), (0, .ref (z 0)), (1, .int (nI t))]) hx hb dX5_heatOf_3 rfl hl (by decide) rfl (fun ls hl => ?_)
  have L4 : ∀ (n : Nat) (k : Nat) (a : Int32), (k ≤ 8) → (8 < k + n) → (a = htM (gVe gs) (gB gs) t k) → ∀ ls : Array Slot, lv_has ls 4 [(3, .int (nI (k + 1))), (2, .int a), (0, .ref (z 0)), (1, .int (nI t))] → W p l e ({ frames := 0, cells := 0, slots := 0, locals := 0 } : Room) s m args below meth c0 s.heap [] 0 0 (QRi below args s (htM (gVe gs) (gB gs) t 8)) (F0 m 4 ls []) := by
    intro n
    induction n with
    | zero => intro k a hk hn ha ls hl; exact absurd hn (by omega)
    | succ n ih4 =>
      intro k a hk hn ha ls hl
      refine lv_iload_n hx hb dX5_heatOf_4 rfl (lv_at hl 0 rfl) ?_
      refine lv_bipush (v := 8) hx hb dX5_heatOf_5 (by decide) ?_
      refine lv_icmp_gt (tgt := 62) hx hb dX5_heatOf_7 (by decide) (fun c7 => ?_) (fun c7 => ?_)
      · -- 7 True
        have c7 : 8 < (k + 1) := (nI_ltI (a := 8) (b := (k + 1)) (by omega) (by omega)).mp c7
        refine lv_iload_n hx hb dX5_heatOf_62 rfl (lv_at hl 1 rfl) ?_
        exact ro_reti hx hb hr hlk (by rw [ha, show k = 8 by omega]) dX5_heatOf_63
      · -- 7 False
        have c7 : (k + 1) ≤ 8 := (Nat.not_lt.mp (fun z => c7 ((nI_ltI (a := 8) (b := (k + 1)) (by omega) (by omega)).mpr z)))
        refine lv_aload_n hx hb dX5_heatOf_10 rfl (lv_at hl 2 rfl) ?_
        refine va_get (D := D) (ci := 5) (v := .int (nI (gB gs))) (C := RX5) (T := TX5) (N := 19) hx hb hts hin5 hown hK.1 hP 0 rfl rfl 8 (by decide) (hts (.fieldLink RX5 59 "TestPickerModel" "builds" "I") (by decide +kernel)) (fun _ h9 => h9) rfl dX5_heatOf_11 ?_
        refine lv_iconst (v := 1) hx hb dX5_heatOf_14 (by decide) ?_
        refine lv_isub hx hb dX5_heatOf_15 ?_
        refine lv_iload_n hx hb dX5_heatOf_16 rfl (lv_at hl 0 rfl) ?_
        refine lv_isub hx hb dX5_heatOf_17 ?_
        refine lv_if_lt (tgt := 62) hx hb dX5_heatOf_18 (by decide) (fun c18 => ?_) (fun c18 => ?_)
        · -- 18 True
          have c18 : gB gs < k + 2 := (ag_lt _ (by omega) _ (by omega)).mp c18
          refine lv_iload_n hx hb dX5_heatOf_62 rfl (lv_at hl 1 rfl) ?_
          exact ro_reti hx hb hr hlk (by rw [ha]; exact ht_stop c18 (by omega)) dX5_heatOf_63
        · -- 18 False
          have c18 : ¬ gB gs < k + 2 := fun z => c18 ((ag_lt _ (by omega) _ (by omega)).mpr z)
          refine lv_iload_n hx hb dX5_heatOf_21 rfl (lv_at hl 1 rfl) ?_
          refine lv_aload_n hx hb dX5_heatOf_22 rfl (lv_at hl 2 rfl) ?_
          refine va_get (D := D) (ci := 5) (v := .ref (z 8)) (C := RX5) (T := TX5) (N := 19) hx hb hts hin5 hown hK.1 hP 0 rfl rfl 10 (by decide) (hts (.fieldLink RX5 33 "TestPickerModel" "verdicts" "[I") (by decide +kernel)) (fun _ h9 => h9) rfl dX5_heatOf_23 ?_
          refine lv_bipush (v := 20) hx hb dX5_heatOf_26 (by decide) ?_
          refine lv_aload_n hx hb dX5_heatOf_28 rfl (lv_at hl 2 rfl) ?_
          refine va_get (D := D) (ci := 5) (v := .int (nI (gB gs))) (C := RX5) (T := TX5) (N := 19) hx hb hts hin5 hown hK.1 hP 0 rfl rfl 8 (by decide) (hts (.fieldLink RX5 59 "TestPickerModel" "builds" "I") (by decide +kernel)) (fun _ h9 => h9) rfl dX5_heatOf_29 ?_
          refine lv_iconst (v := 1) hx hb dX5_heatOf_32 (by decide) ?_
          refine lv_isub hx hb dX5_heatOf_33 ?_
          refine lv_iload_n hx hb dX5_heatOf_34 rfl (lv_at hl 0 rfl) ?_
          refine lv_isub hx hb dX5_heatOf_35 ?_
          refine tp_i (z := nI (gB gs - 1 - (k + 1))) (ag_eq (by omega)) ?_
          refine lv_imul hx hb dX5_heatOf_36 ?_
          refine lv_iload_n hx hb dX5_heatOf_37 rfl (lv_at hl 3 rfl) ?_
          refine lv_iadd hx hb dX5_heatOf_38 ?_
          refine tp_i (z := nI (20 * (gB gs - 1 - (k + 1)) + t)) (ix20 _ _) ?_
          refine ld_i hx hb hK hP 8 (f := gVe gs) rfl (i := (20 * (gB gs - 1 - (k + 1)) + t)) (by omega) (by decide) dX5_heatOf_39 ?_
          refine lv_iconst (v := 1) hx hb dX5_heatOf_40 (by decide) ?_
          refine lv_icmp_ne (tgt := 53) hx hb dX5_heatOf_41 (by decide) (fun c41 => ?_) (fun c41 => ?_)
          · -- 41 True
            refine lv_iconst (v := 0) hx hb dX5_heatOf_53 (by decide) ?_
            refine lv_iadd hx hb dX5_heatOf_54 ?_
            refine lv_istore_n (lv' := [(2, .int (a + 0)), (3, .int (nI (k + 1))), (0, .ref (z 0)), (1, .int (nI t))]) hx hb dX5_heatOf_55 rfl hl (by decide) rfl (fun ls hl => ?_)
            refine lv_iinc (v := nI ((k + 1) + 1)) (lv' := [(3, .int (nI ((k + 1) + 1))), (2, .int (a + 0)), (0, .ref (z 0)), (1, .int (nI t))]) hx hb dX5_heatOf_56 hl (k := 1) rfl (nI_inc _) (by decide) rfl (fun ls hl => ?_)
            refine lv_goto (tgt := 4) hx hb dX5_heatOf_59 (by decide) ?_
            exact ih4 (k + 1) (a + 0) (by omega) (by omega) (by rw [ha]; simp [htM, oneE, show ¬ gB gs < k + 2 by omega, c41]) ls (lv_sub hl [0, 1, 2, 3] rfl)
          · -- 41 False
            refine lv_iconst (v := 1) hx hb dX5_heatOf_44 (by decide) ?_
            refine lv_bipush (v := 8) hx hb dX5_heatOf_45 (by decide) ?_
            refine lv_iload_n hx hb dX5_heatOf_47 rfl (lv_at hl 0 rfl) ?_
            refine lv_isub hx hb dX5_heatOf_48 ?_
            refine tp_i (z := nI (8 - (k + 1))) (pk_sub (by omega)) ?_
            refine lv_ishl hx hb dX5_heatOf_49 ?_
            refine lv_goto (tgt := 54) hx hb dX5_heatOf_50 (by decide) ?_
            refine lv_iadd hx hb dX5_heatOf_54 ?_
            refine lv_istore_n (lv' := [(2, .int (a + (1 <<< (nI (8 - (k + 1)) &&& 31)))), (3, .int (nI (k + 1))), (0, .ref (z 0)), (1, .int (nI t))]) hx hb dX5_heatOf_55 rfl hl (by decide) rfl (fun ls hl => ?_)
            refine lv_iinc (v := nI ((k + 1) + 1)) (lv' := [(3, .int (nI ((k + 1) + 1))), (2, .int (a + (1 <<< (nI (8 - (k + 1)) &&& 31)))), (0, .ref (z 0)), (1, .int (nI t))]) hx hb dX5_heatOf_56 hl (k := 1) rfl (nI_inc _) (by decide) rfl (fun ls hl => ?_)
            refine lv_goto (tgt := 4) hx hb dX5_heatOf_59 (by decide) ?_
            exact ih4 (k + 1) (a + (1 <<< (nI (8 - (k + 1)) &&& 31))) (by omega) (by omega) (by rw [ha]; simp [htM, oneE, show ¬ gB gs < k + 2 by omega, c41]) ls (lv_sub hl [0, 1, 2, 3] rfl)
  exact L4 (9) 0 0 (by omega) (by omega) (rfl) ls (lv_sub hl [0, 1, 2, 3] rfl)

set_option maxHeartbeats 4000000 in
set_option maxRecDepth 100000 in
theorem c_X5_isFlaky (l : Launch) (D : va_G) (z : Nat → Nat) (c : CT) (gs : GS) (t : Nat) (ht : t < 20) (hB60 : gB gs ≤ 60) : ROi l yX5_isFlaky wsX5_isFlaky ({ frames := 1, cells := 0, slots := 0, locals := 24 } : Room) [.ref (z 0), .int (nI t)] D c (wG z c gs) (bI (gFk gs t)) := by
  refine ro_starti (cc := cX5_isFlaky) (maxL := 9) (ret := some .boolean) (by decide) rfl (Nat.le_of_ble_eq_true rfl) ?_
  intro p e s m args below meth c0 ls hx hb hr hml hown hts hlk hP hK hl
  have hown : s.vm.findClass RX5 = some m.cls := hown
  have hl : lv_has ls 9 [(0, .ref (z 0)), (1, .int (nI t))] := hl
  have hin5 : ∀ w ∈ wsX50, w ∈ wsX5_isFlaky := by decide +kernel
  refine lv_aload_n hx hb dX5_isFlaky_0 rfl (lv_at hl 0 rfl) ?_
  refine lv_iload_n hx hb dX5_isFlaky_1 rfl (lv_at hl 1 rfl) ?_
  refine ro_Vl (As := [.int (nI t)]) (rest := []) ⟨hx, hb, hml, hown, hts⟩ (c_X5_reachOf l D z c gs t (by omega)) (cwV 1 hts gX5_isFlaky_X5_reachOf rfl rfl rfl (by decide +kernel) ⟨Nat.le_of_ble_eq_true rfl, Nat.le_of_ble_eq_true rfl⟩) hP hK (va_recv hK.1 hP (ci := 5) (q0 := 0) rfl rfl) rfl hl.1 rfl (Nat.le_of_ble_eq_true rfl) dX5_isFlaky_2 ⟨Nat.le_of_ble_eq_true rfl, Nat.le_of_ble_eq_true rfl⟩ ?_
  refine lv_lstore_n (lv' := [(2, .long (gRe gs t)), (0, .ref (z 0)), (1, .int (nI t))]) hx hb dX5_isFlaky_5 rfl hl (by decide) rfl (fun ls hl => ?_)
  refine lv_bipush (v := (-9)) hx hb dX5_isFlaky_6 (by decide) ?_
  refine lv_istore (lv' := [(4, .int (-9)), (2, .long (gRe gs t)), (0, .ref (z 0)), (1, .int (nI t))]) hx hb dX5_isFlaky_8 hl (by decide) rfl (fun ls hl => ?_)
  refine lv_iconst (v := 0) hx hb dX5_isFlaky_10 (by decide) ?_
  refine lv_istore (lv' := [(5, .int 0), (4, .int (-9)), (2, .long (gRe gs t)), (0, .ref (z 0)), (1, .int (nI t))]) hx hb dX5_isFlaky_11 hl (by decide) rfl (fun ls hl => ?_)
  refine lv_iconst (v := 0) hx hb dX5_isFlaky_13 (by decide) ?_
  refine lv_istore (lv' := [(6, .int 0), (5, .int 0), (4, .int (-9)), (2, .long (gRe gs t)), (0, .ref (z 0)), (1, .int (nI t))]) hx hb dX5_isFlaky_14 hl (by decide) rfl (fun ls hl => ?_)
  refine lv_iconst (v := 0) hx hb dX5_isFlaky_16 (by decide) ?_
  refine lv_istore (lv' := [(7, .int 0), (6, .int 0), (5, .int 0), (4, .int (-9)), (2, .long (gRe gs t)), (0, .ref (z 0)), (1, .int (nI t))]) hx hb dX5_isFlaky_17 hl (by decide) rfl (fun ls hl => ?_)
  have L19 : ∀ (n : Nat) (b : Nat) (la : Int32) (tc : Bool) (fk : Bool), (b ≤ gB gs) → (gB gs < b + n) → (flS (gCg gs) (gV gs t) (gRe gs t) b = (la, tc, fk)) → ∀ ls : Array Slot, lv_has ls 9 [(7, .int (nI b)), (6, .int (bI fk)), (5, .int (bI tc)), (4, .int la), (2, .long (gRe gs t)), (0, .ref (z 0)), (1, .int (nI t))] → W p l e ({ frames := 1, cells := 0, slots := 0, locals := 24 } : Room) s m args below meth c0 s.heap [] 0 0 (QRi below args s (bI (gFk gs t))) (F0 m 19 ls []) := by
    intro n
    induction n with
    | zero => intro b la tc fk hbB hn hf ls hl; exact absurd hn (by omega)
    | succ n ih19 =>
      intro b la tc fk hbB hn hf ls hl
      refine lv_iload hx hb dX5_isFlaky_19 (lv_at hl 0 rfl) ?_
      refine lv_aload_n hx hb dX5_isFlaky_21 rfl (lv_at hl 5 rfl) ?_
      refine va_get (D := D) (ci := 5) (v := .int (nI (gB gs))) (C := RX5) (T := TX5) (N := 19) hx hb hts hin5 hown hK.1 hP 0 rfl rfl 8 (by decide) (hts (.fieldLink RX5 59 "TestPickerModel" "builds" "I") (by decide +kernel)) (fun _ h9 => h9) rfl dX5_isFlaky_22 ?_
      refine lv_icmp_ge (tgt := 115) hx hb dX5_isFlaky_25 (by decide) (fun c25 => ?_) (fun c25 => ?_)
      · -- 25 True
        have c25 : (gB gs) ≤ b := (nI_leI (a := (gB gs)) (b := b) (by omega) (by omega)).mp c25
        refine lv_iload hx hb dX5_isFlaky_115 (lv_at hl 1 rfl) ?_
        exact ro_retz hx hb hr hlk (bI_or _) (by rw [gFk, flk, show gB gs = b by omega, hf]) dX5_isFlaky_117
      · -- 25 False
        have c25 : b < (gB gs) := (Nat.not_le.mp (fun z => c25 ((nI_leI (a := (gB gs)) (b := b) (by omega) (by omega)).mpr z)))
        have J52 : ∀ (x5 : Int32), x5 = bI (tc || !decide (gCg gs b &&& gRe gs t = 0)) → W p l e ({ frames := 1, cells := 0, slots := 0, locals := 24 } : Room) s m args below meth c0 s.heap [] 0 0 (QRi below args s (bI (gFk gs t))) (F0 m 52 ls [.int x5]) := by
          intro x5 hx5
          subst hx5
          refine lv_istore (lv' := [(5, .int (bI (tc || !decide (gCg gs b &&& gRe gs t = 0)))), (7, .int (nI b)), (6, .int (bI fk)), (4, .int la), (2, .long (gRe gs t)), (0, .ref (z 0)), (1, .int (nI t))]) hx hb dX5_isFlaky_52 hl (by decide) rfl (fun ls hl => ?_)
          refine lv_aload_n hx hb dX5_isFlaky_54 rfl (lv_at hl 5 rfl) ?_
          refine va_get (D := D) (ci := 5) (v := .ref (z 8)) (C := RX5) (T := TX5) (N := 19) hx hb hts hin5 hown hK.1 hP 0 rfl rfl 10 (by decide) (hts (.fieldLink RX5 33 "TestPickerModel" "verdicts" "[I") (by decide +kernel)) (fun _ h9 => h9) rfl dX5_isFlaky_55 ?_
          refine lv_bipush (v := 20) hx hb dX5_isFlaky_58 (by decide) ?_
          refine lv_iload hx hb dX5_isFlaky_60 (lv_at hl 1 rfl) ?_
          refine lv_imul hx hb dX5_isFlaky_62 ?_
          refine lv_iload_n hx hb dX5_isFlaky_63 rfl (lv_at hl 6 rfl) ?_
          refine lv_iadd hx hb dX5_isFlaky_64 ?_
          refine tp_i (z := nI (20 * b + t)) (ix20 _ _) ?_
          refine ld_i hx hb hK hP 8 (f := gVe gs) rfl (i := (20 * b + t)) (by omega) (by decide) dX5_isFlaky_65 ?_
          refine lv_istore (lv' := [(8, .int (gVe gs (20 * b + t))), (5, .int (bI (tc || !decide (gCg gs b &&& gRe gs t = 0)))), (7, .int (nI b)), (6, .int (bI fk)), (4, .int la), (2, .long (gRe gs t)), (0, .ref (z 0)), (1, .int (nI t))]) hx hb dX5_isFlaky_66 hl (by decide) rfl (fun ls hl => ?_)
          refine lv_iload hx hb dX5_isFlaky_68 (lv_at hl 0 rfl) ?_
          refine lv_if_lt (tgt := 109) hx hb dX5_isFlaky_70 (by decide) (fun c70 => ?_) (fun c70 => ?_)
          · -- 70 True
            refine lv_iinc (v := nI (b + 1)) (lv' := [(7, .int (nI (b + 1))), (8, .int (gVe gs (20 * b + t))), (5, .int (bI (tc || !decide (gCg gs b &&& gRe gs t = 0)))), (6, .int (bI fk)), (4, .int la), (2, .long (gRe gs t)), (0, .ref (z 0)), (1, .int (nI t))]) hx hb dX5_isFlaky_109 hl (k := 2) rfl (nI_inc _) (by decide) rfl (fun ls hl => ?_)
            refine lv_goto (tgt := 19) hx hb dX5_isFlaky_112 (by decide) ?_
            exact ih19 (b + 1) la (tc || !decide (gCg gs b &&& gRe gs t = 0)) fk (by omega) (by omega) (by simp [flS, hf, c70]) ls (lv_sub hl [0, 3, 2, 4, 5, 6, 7] rfl)
          · -- 70 False
            have J100 : ∀ (x6 : Int32), x6 = bI (fk || (!decide (la < 0) && !decide (la = gVe gs (20 * b + t)) && !(tc || !decide (gCg gs b &&& gRe gs t = 0)))) → W p l e ({ frames := 1, cells := 0, slots := 0, locals := 24 } : Room) s m args below meth c0 s.heap [] 0 0 (QRi below args s (bI (gFk gs t))) (F0 m 100 ls [.int x6]) := by
              intro x6 hx6
              subst hx6
              refine lv_istore (lv' := [(6, .int (bI (fk || (!decide (la < 0) && !decide (la = gVe gs (20 * b + t)) && !(tc || !decide (gCg gs b &&& gRe gs t = 0)))))), (8, .int (gVe gs (20 * b + t))), (5, .int (bI (tc || !decide (gCg gs b &&& gRe gs t = 0)))), (7, .int (nI b)), (4, .int la), (2, .long (gRe gs t)), (0, .ref (z 0)), (1, .int (nI t))]) hx hb dX5_isFlaky_100 hl (by decide) rfl (fun ls hl => ?_)
              refine lv_iload hx hb dX5_isFlaky_102 (lv_at hl 1 rfl) ?_
              refine lv_istore (lv' := [(4, .int (gVe gs (20 * b + t))), (6, .int (bI (fk || (!decide (la < 0) && !decide (la = gVe gs (20 * b + t)) && !(tc || !decide (gCg gs b &&& gRe gs t = 0)))))), (8, .int (gVe gs (20 * b + t))), (5, .int (bI (tc || !decide (gCg gs b &&& gRe gs t = 0)))), (7, .int (nI b)), (2, .long (gRe gs t)), (0, .ref (z 0)), (1, .int (nI t))]) hx hb dX5_isFlaky_104 hl (by decide) rfl (fun ls hl => ?_)
              refine lv_iconst (v := 0) hx hb dX5_isFlaky_106 (by decide) ?_
              refine lv_istore (lv' := [(5, .int 0), (4, .int (gVe gs (20 * b + t))), (6, .int (bI (fk || (!decide (la < 0) && !decide (la = gVe gs (20 * b + t)) && !(tc || !decide (gCg gs b &&& gRe gs t = 0)))))), (8, .int (gVe gs (20 * b + t))), (7, .int (nI b)), (2, .long (gRe gs t)), (0, .ref (z 0)), (1, .int (nI t))]) hx hb dX5_isFlaky_107 hl (by decide) rfl (fun ls hl => ?_)
              refine lv_iinc (v := nI (b + 1)) (lv' := [(7, .int (nI (b + 1))), (5, .int 0), (4, .int (gVe gs (20 * b + t))), (6, .int (bI (fk || (!decide (la < 0) && !decide (la = gVe gs (20 * b + t)) && !(tc || !decide (gCg gs b &&& gRe gs t = 0)))))), (8, .int (gVe gs (20 * b + t))), (2, .long (gRe gs t)), (0, .ref (z 0)), (1, .int (nI t))]) hx hb dX5_isFlaky_109 hl (k := 4) rfl (nI_inc _) (by decide) rfl (fun ls hl => ?_)
              refine lv_goto (tgt := 19) hx hb dX5_isFlaky_112 (by decide) ?_
              exact ih19 (b + 1) (gVe gs (20 * b + t)) false (fk || (!decide (la < 0) && !decide (la = gVe gs (20 * b + t)) && !(tc || !decide (gCg gs b &&& gRe gs t = 0)))) (by omega) (by omega) (by simp [flS, hf, c70]) ls (lv_sub hl [0, 3, 1, 2, 5, 6, 7] rfl)
            refine lv_iload hx hb dX5_isFlaky_73 (lv_at hl 3 rfl) ?_
            refine lv_if_ne (tgt := 95) hx hb dX5_isFlaky_75 (by decide) (fun c75 => ?_) (fun c75 => ?_)
            · -- 75 True
              have c75 := bI_nz.mp c75
              refine lv_iconst (v := 1) hx hb dX5_isFlaky_95 (by decide) ?_
              refine lv_goto (tgt := 100) hx hb dX5_isFlaky_96 (by decide) ?_
              exact J100 1 (by simp only [bI, c75, decide_true, decide_false, Bool.not_true, Bool.not_false, Bool.true_or, Bool.false_or, Bool.or_true, Bool.or_false, Bool.true_and, Bool.false_and, Bool.and_true, Bool.and_false, if_true, if_false, Bool.false_eq_true])
            · -- 75 False
              have c75 := bI_z.mp c75
              refine lv_iload hx hb dX5_isFlaky_78 (lv_at hl 4 rfl) ?_
              refine lv_if_lt (tgt := 99) hx hb dX5_isFlaky_80 (by decide) (fun c80 => ?_) (fun c80 => ?_)
              · -- 80 True
                refine lv_iconst (v := 0) hx hb dX5_isFlaky_99 (by decide) ?_
                exact J100 0 (by simp only [bI, c75, c80, decide_true, decide_false, Bool.not_true, Bool.not_false, Bool.true_or, Bool.false_or, Bool.or_true, Bool.or_false, Bool.true_and, Bool.false_and, Bool.and_true, Bool.and_false, if_true, if_false, Bool.false_eq_true])
              · -- 80 False
                refine lv_iload hx hb dX5_isFlaky_83 (lv_at hl 4 rfl) ?_
                refine lv_iload hx hb dX5_isFlaky_85 (lv_at hl 0 rfl) ?_
                refine lv_icmp_eq (tgt := 99) hx hb dX5_isFlaky_87 (by decide) (fun c87 => ?_) (fun c87 => ?_)
                · -- 87 True
                  refine lv_iconst (v := 0) hx hb dX5_isFlaky_99 (by decide) ?_
                  exact J100 0 (by simp only [bI, c75, c80, c87, decide_true, decide_false, Bool.not_true, Bool.not_false, Bool.true_or, Bool.false_or, Bool.or_true, Bool.or_false, Bool.true_and, Bool.false_and, Bool.and_true, Bool.and_false, if_true, if_false, Bool.false_eq_true])
                · -- 87 False
                  refine lv_iload hx hb dX5_isFlaky_90 (lv_at hl 1 rfl) ?_
                  refine lv_if_ne (tgt := 99) hx hb dX5_isFlaky_92 (by decide) (fun c92 => ?_) (fun c92 => ?_)
                  · -- 92 True
                    have c92 := bI_nz.mp c92
                    refine lv_iconst (v := 0) hx hb dX5_isFlaky_99 (by decide) ?_
                    exact J100 0 (by simp only [bI, c75, c80, c87, c92, decide_true, decide_false, Bool.not_true, Bool.not_false, Bool.true_or, Bool.false_or, Bool.or_true, Bool.or_false, Bool.true_and, Bool.false_and, Bool.and_true, Bool.and_false, if_true, if_false, Bool.false_eq_true])
                  · -- 92 False
                    have c92 := bI_z.mp c92
                    refine lv_iconst (v := 1) hx hb dX5_isFlaky_95 (by decide) ?_
                    refine lv_goto (tgt := 100) hx hb dX5_isFlaky_96 (by decide) ?_
                    exact J100 1 (by simp only [bI, c75, c80, c87, c92, decide_true, decide_false, Bool.not_true, Bool.not_false, Bool.true_or, Bool.false_or, Bool.or_true, Bool.or_false, Bool.true_and, Bool.false_and, Bool.and_true, Bool.and_false, if_true, if_false, Bool.false_eq_true])
        refine lv_iload hx hb dX5_isFlaky_28 (lv_at hl 2 rfl) ?_
        refine lv_if_ne (tgt := 47) hx hb dX5_isFlaky_30 (by decide) (fun c30 => ?_) (fun c30 => ?_)
        · -- 30 True
          have c30 := bI_nz.mp c30
          refine lv_iconst (v := 1) hx hb dX5_isFlaky_47 (by decide) ?_
          refine lv_goto (tgt := 52) hx hb dX5_isFlaky_48 (by decide) ?_
          exact J52 1 (by simp [bI, c30])
        · -- 30 False
          have c30 := bI_z.mp c30
          refine lv_aload_n hx hb dX5_isFlaky_33 rfl (lv_at hl 5 rfl) ?_
          refine va_get (D := D) (ci := 5) (v := .ref (z 7)) (C := RX5) (T := TX5) (N := 19) hx hb hts hin5 hown hK.1 hP 0 rfl rfl 9 (by decide) (hts (.fieldLink RX5 29 "TestPickerModel" "changes" "[J") (by decide +kernel)) (fun _ h9 => h9) rfl dX5_isFlaky_34 ?_
          refine lv_iload hx hb dX5_isFlaky_37 (lv_at hl 0 rfl) ?_
          refine ld_l hx hb hK hP 7 (f := gCg gs) rfl (i := b) (by omega) (by decide) dX5_isFlaky_39 ?_
          refine lv_lload_n hx hb dX5_isFlaky_40 rfl (lv_at hl 4 rfl) ?_
          refine lv_land hx hb dX5_isFlaky_41 ?_
          refine lv_lconst (v := 0) hx hb dX5_isFlaky_42 (by decide) ?_
          refine W.lcmp hx hb dX5_isFlaky_43 ?_
          refine lv_if_eq (tgt := 51) hx hb dX5_isFlaky_44 (by decide) (fun c44 => ?_) (fun c44 => ?_)
          · -- 44 True
            have c44 := (lg_cmp_eq _ _).mp c44
            refine lv_iconst (v := 0) hx hb dX5_isFlaky_51 (by decide) ?_
            exact J52 0 (by simp [bI, c30, c44])
          · -- 44 False
            have c44 := lg_ne.mp c44
            refine lv_iconst (v := 1) hx hb dX5_isFlaky_47 (by decide) ?_
            refine lv_goto (tgt := 52) hx hb dX5_isFlaky_48 (by decide) ?_
            exact J52 1 (by simp [bI, c30, c44])
  exact L19 (gB gs + 1) 0 (-9) false false (by omega) (by omega) (rfl) ls (lv_sub hl [0, 1, 2, 3, 4, 5, 6] rfl)

set_option maxHeartbeats 4000000 in
set_option maxRecDepth 100000 in
theorem c_X5_isBroken (l : Launch) (D : va_G) (z : Nat → Nat) (c : CT) (gs : GS) (t : Nat) (ht : t < 20) (hB60 : gB gs ≤ 60) : ROi l yX5_isBroken wsX5_isBroken ({ frames := 2, cells := 0, slots := 0, locals := 52 } : Room) [.ref (z 0), .int (nI t)] D c (wG z c gs) (bI (decide (lastV (gV gs t) (gB gs) = 1) && !gFk gs t)) := by
  refine ro_starti (cc := cX5_isBroken) (maxL := 4) (ret := some .boolean) (by decide) rfl (Nat.le_of_ble_eq_true rfl) ?_
  intro p e s m args below meth c0 ls hx hb hr hml hown hts hlk hP hK hl
  have hown : s.vm.findClass RX5 = some m.cls := hown
  have hl : lv_has ls 4 [(0, .ref (z 0)), (1, .int (nI t))] := hl
  have hin5 : ∀ w ∈ wsX50, w ∈ wsX5_isBroken := by decide +kernel
  refine lv_bipush (v := (-9)) hx hb dX5_isBroken_0 (by decide) ?_
  refine lv_istore_n (lv' := [(2, .int (-9)), (0, .ref (z 0)), (1, .int (nI t))]) hx hb dX5_isBroken_2 rfl hl (by decide) rfl (fun ls hl => ?_)
  refine lv_iconst (v := 0) hx hb dX5_isBroken_3 (by decide) ?_
  refine lv_istore_n (lv' := [(3, .int 0), (2, .int (-9)), (0, .ref (z 0)), (1, .int (nI t))]) hx hb dX5_isBroken_4 rfl hl (by decide) rfl (fun ls hl => ?_)
  have L5 : ∀ (n : Nat) (b : Nat) (la : Int32), (b ≤ gB gs) → (gB gs < b + n) → (la = lastV (gV gs t) b) → ∀ ls : Array Slot, lv_has ls 4 [(3, .int (nI b)), (2, .int la), (0, .ref (z 0)), (1, .int (nI t))] → W p l e ({ frames := 2, cells := 0, slots := 0, locals := 52 } : Room) s m args below meth c0 s.heap [] 0 0 (QRi below args s (bI (decide (lastV (gV gs t) (gB gs) = 1) && !gFk gs t))) (F0 m 5 ls []) := by
    intro n
    induction n with
    | zero => intro b la hbB hn hf ls hl; exact absurd hn (by omega)
    | succ n ih5 =>
      intro b la hbB hn hf ls hl
      refine lv_iload_n hx hb dX5_isBroken_5 rfl (lv_at hl 0 rfl) ?_
      refine lv_aload_n hx hb dX5_isBroken_6 rfl (lv_at hl 2 rfl) ?_
      refine va_get (D := D) (ci := 5) (v := .int (nI (gB gs))) (C := RX5) (T := TX5) (N := 19) hx hb hts hin5 hown hK.1 hP 0 rfl rfl 8 (by decide) (hts (.fieldLink RX5 59 "TestPickerModel" "builds" "I") (by decide +kernel)) (fun _ h9 => h9) rfl dX5_isBroken_7 ?_
      refine lv_icmp_ge (tgt := 49) hx hb dX5_isBroken_10 (by decide) (fun c10 => ?_) (fun c10 => ?_)
      · -- 10 True
        have c10 : (gB gs) ≤ b := (nI_leI (a := (gB gs)) (b := b) (by omega) (by omega)).mp c10
        have hbe : b = gB gs := by omega
        subst hbe
        refine lv_iload_n hx hb dX5_isBroken_49 rfl (lv_at hl 1 rfl) ?_
        refine lv_iconst (v := 1) hx hb dX5_isBroken_50 (by decide) ?_
        refine lv_icmp_ne (tgt := 66) hx hb dX5_isBroken_51 (by decide) (fun c51 => ?_) (fun c51 => ?_)
        · -- 51 True
          refine lv_iconst (v := 0) hx hb dX5_isBroken_66 (by decide) ?_
          exact ro_retz hx hb hr hlk (by decide) (by simp [bI, ← hf, c51]) dX5_isBroken_67
        · -- 51 False
          refine lv_aload_n hx hb dX5_isBroken_54 rfl (lv_at hl 2 rfl) ?_
          refine lv_iload_n hx hb dX5_isBroken_55 rfl (lv_at hl 3 rfl) ?_
          refine ro_Vi (As := [.int (nI t)]) (rest := []) ⟨hx, hb, hml, hown, hts⟩ (c_X5_isFlaky l D z c gs t (by omega) (by omega)) (cwV 1 hts gX5_isBroken_X5_isFlaky rfl rfl rfl (by decide +kernel) ⟨Nat.le_of_ble_eq_true rfl, Nat.le_of_ble_eq_true rfl⟩) hP hK (va_recv hK.1 hP (ci := 5) (q0 := 0) rfl rfl) rfl hl.1 rfl (Nat.le_of_ble_eq_true rfl) dX5_isBroken_56 ⟨Nat.le_of_ble_eq_true rfl, Nat.le_of_ble_eq_true rfl⟩ ?_
          refine lv_if_ne (tgt := 66) hx hb dX5_isBroken_59 (by decide) (fun c59 => ?_) (fun c59 => ?_)
          · -- 59 True
            have c59 := bI_nz.mp c59
            refine lv_iconst (v := 0) hx hb dX5_isBroken_66 (by decide) ?_
            exact ro_retz hx hb hr hlk (by decide) (by simp [bI, ← hf, c51, c59]) dX5_isBroken_67
          · -- 59 False
            have c59 := bI_z.mp c59
            refine lv_iconst (v := 1) hx hb dX5_isBroken_62 (by decide) ?_
            refine lv_goto (tgt := 67) hx hb dX5_isBroken_63 (by decide) ?_
            exact ro_retz hx hb hr hlk (by decide) (by simp [bI, ← hf, c51, c59]) dX5_isBroken_67
      · -- 10 False
        have c10 : b < (gB gs) := (Nat.not_le.mp (fun z => c10 ((nI_leI (a := (gB gs)) (b := b) (by omega) (by omega)).mpr z)))
        refine lv_aload_n hx hb dX5_isBroken_13 rfl (lv_at hl 2 rfl) ?_
        refine va_get (D := D) (ci := 5) (v := .ref (z 8)) (C := RX5) (T := TX5) (N := 19) hx hb hts hin5 hown hK.1 hP 0 rfl rfl 10 (by decide) (hts (.fieldLink RX5 33 "TestPickerModel" "verdicts" "[I") (by decide +kernel)) (fun _ h9 => h9) rfl dX5_isBroken_14 ?_
        refine lv_bipush (v := 20) hx hb dX5_isBroken_17 (by decide) ?_
        refine lv_iload_n hx hb dX5_isBroken_19 rfl (lv_at hl 0 rfl) ?_
        refine lv_imul hx hb dX5_isBroken_20 ?_
        refine lv_iload_n hx hb dX5_isBroken_21 rfl (lv_at hl 3 rfl) ?_
        refine lv_iadd hx hb dX5_isBroken_22 ?_
        refine tp_i (z := nI (20 * b + t)) (ix20 _ _) ?_
        refine ld_i hx hb hK hP 8 (f := gVe gs) rfl (i := (20 * b + t)) (by omega) (by decide) dX5_isBroken_23 ?_
        refine lv_if_lt (tgt := 41) hx hb dX5_isBroken_24 (by decide) (fun c24 => ?_) (fun c24 => ?_)
        · -- 24 True
          refine lv_iload_n hx hb dX5_isBroken_41 rfl (lv_at hl 1 rfl) ?_
          refine lv_istore_n (lv' := [(2, .int la), (3, .int (nI b)), (0, .ref (z 0)), (1, .int (nI t))]) hx hb dX5_isBroken_42 rfl hl (by decide) rfl (fun ls hl => ?_)
          refine lv_iinc (v := nI (b + 1)) (lv' := [(3, .int (nI (b + 1))), (2, .int la), (0, .ref (z 0)), (1, .int (nI t))]) hx hb dX5_isBroken_43 hl (k := 1) rfl (nI_inc _) (by decide) rfl (fun ls hl => ?_)
          refine lv_goto (tgt := 5) hx hb dX5_isBroken_46 (by decide) ?_
          exact ih5 (b + 1) la (by omega) (by omega) (by simp [lastV, hf, c24]) ls (lv_sub hl [0, 1, 2, 3] rfl)
        · -- 24 False
          refine lv_aload_n hx hb dX5_isBroken_27 rfl (lv_at hl 2 rfl) ?_
          refine va_get (D := D) (ci := 5) (v := .ref (z 8)) (C := RX5) (T := TX5) (N := 19) hx hb hts hin5 hown hK.1 hP 0 rfl rfl 10 (by decide) (hts (.fieldLink RX5 33 "TestPickerModel" "verdicts" "[I") (by decide +kernel)) (fun _ h9 => h9) rfl dX5_isBroken_28 ?_
          refine lv_bipush (v := 20) hx hb dX5_isBroken_31 (by decide) ?_
          refine lv_iload_n hx hb dX5_isBroken_33 rfl (lv_at hl 0 rfl) ?_
          refine lv_imul hx hb dX5_isBroken_34 ?_
          refine lv_iload_n hx hb dX5_isBroken_35 rfl (lv_at hl 3 rfl) ?_
          refine lv_iadd hx hb dX5_isBroken_36 ?_
          refine tp_i (z := nI (20 * b + t)) (ix20 _ _) ?_
          refine ld_i hx hb hK hP 8 (f := gVe gs) rfl (i := (20 * b + t)) (by omega) (by decide) dX5_isBroken_37 ?_
          refine lv_goto (tgt := 42) hx hb dX5_isBroken_38 (by decide) ?_
          refine lv_istore_n (lv' := [(2, .int (gVe gs (20 * b + t))), (3, .int (nI b)), (0, .ref (z 0)), (1, .int (nI t))]) hx hb dX5_isBroken_42 rfl hl (by decide) rfl (fun ls hl => ?_)
          refine lv_iinc (v := nI (b + 1)) (lv' := [(3, .int (nI (b + 1))), (2, .int (gVe gs (20 * b + t))), (0, .ref (z 0)), (1, .int (nI t))]) hx hb dX5_isBroken_43 hl (k := 1) rfl (nI_inc _) (by decide) rfl (fun ls hl => ?_)
          refine lv_goto (tgt := 5) hx hb dX5_isBroken_46 (by decide) ?_
          exact ih5 (b + 1) (gVe gs (20 * b + t)) (by omega) (by omega) (by simp [lastV, hf, c24]) ls (lv_sub hl [0, 1, 2, 3] rfl)
  exact L5 (gB gs + 1) 0 (-9) (by omega) (by omega) (rfl) ls (lv_sub hl [0, 1, 2, 3] rfl)

set_option maxHeartbeats 4000000 in
set_option maxRecDepth 100000 in
theorem c_X5_tells (l : Launch) (D : va_G) (z : Nat → Nat) (c : CT) (gs : GS) (t : Nat) (x : Int32) (ht : t < gT gs) (hT : gT gs ≤ 20) (hB60 : gB gs ≤ 60) (hN : WN (gNd gs) (gT gs)) : ROi l yX5_tells wsX5_tells ({ frames := 3, cells := 0, slots := 0, locals := 75 } : Room) [.ref (z 0), .int (nI t), .int x] D c (wG z c gs) (gTl gs t x) := by
  refine ro_starti (cc := cX5_tells) (maxL := 3) (ret := some .int) (by decide) rfl (Nat.le_of_ble_eq_true rfl) ?_
  intro p e s m args below meth c0 ls hx hb hr hml hown hts hlk hP hK hl
  have hown : s.vm.findClass RX5 = some m.cls := hown
  have hl : lv_has ls 3 [(0, .ref (z 0)), (1, .int (nI t)), (2, .int x)] := hl
  have hin5 : ∀ w ∈ wsX50, w ∈ wsX5_tells := by decide +kernel
  refine lv_iload_n hx hb dX5_tells_0 rfl (lv_at hl 2 rfl) ?_
  by_cases c1_0 : x = 0
  · -- case 0
    refine lv_tableIn (tgt := 40) (off := 39) hx hb dX5_tells_1 (by rw [c1_0]; decide) (by rw [c1_0]; decide) (by rw [c1_0]; decide) (by decide) ?_
    refine lv_aload_n hx hb dX5_tells_40 rfl (lv_at hl 0 rfl) ?_
    refine va_get (D := D) (ci := 5) (v := .ref (z 2)) (C := RX5) (T := TX5) (N := 19) hx hb hts hin5 hown hK.1 hP 0 rfl rfl 3 (by decide) (hts (.fieldLink RX5 13 "TestPickerModel" "kinds" "[I") (by decide +kernel)) (fun _ h9 => h9) rfl dX5_tells_41 ?_
    refine lv_iload_n hx hb dX5_tells_44 rfl (lv_at hl 1 rfl) ?_
    refine ld_i hx hb hK hP 2 (f := gKd gs) rfl (i := t) (by omega) (by decide) dX5_tells_45 ?_
    exact ro_reti hx hb hr hlk (by simp [gTl, c1_0]) dX5_tells_46
  by_cases c1_1 : x = 1
  · -- case 1
    refine lv_tableIn (tgt := 47) (off := 46) hx hb dX5_tells_1 (by rw [c1_1]; decide) (by rw [c1_1]; decide) (by rw [c1_1]; decide) (by decide) ?_
    refine lv_aload_n hx hb dX5_tells_47 rfl (lv_at hl 0 rfl) ?_
    refine lv_iload_n hx hb dX5_tells_48 rfl (lv_at hl 1 rfl) ?_
    refine ro_Vi (As := [.int (nI t)]) (rest := []) ⟨hx, hb, hml, hown, hts⟩ (c_X5_timeOf l D z c gs t (by omega)) (cwV 1 hts gX5_tells_X5_timeOf rfl rfl rfl (by decide +kernel) ⟨Nat.le_of_ble_eq_true rfl, Nat.le_of_ble_eq_true rfl⟩) hP hK (va_recv hK.1 hP (ci := 5) (q0 := 0) rfl rfl) rfl hl.1 rfl (Nat.le_of_ble_eq_true rfl) dX5_tells_49 ⟨Nat.le_of_ble_eq_true rfl, Nat.le_of_ble_eq_true rfl⟩ ?_
    exact ro_reti hx hb hr hlk (by simp [gTl, c1_1]) dX5_tells_52
  by_cases c1_2 : x = 2
  · -- case 2
    refine lv_tableIn (tgt := 53) (off := 52) hx hb dX5_tells_1 (by rw [c1_2]; decide) (by rw [c1_2]; decide) (by rw [c1_2]; decide) (by decide) ?_
    refine lv_aload_n hx hb dX5_tells_53 rfl (lv_at hl 0 rfl) ?_
    refine va_get (D := D) (ci := 5) (v := .ref (z 4)) (C := RX5) (T := TX5) (N := 19) hx hb hts hin5 hown hK.1 hP 0 rfl rfl 5 (by decide) (hts (.fieldLink RX5 19 "TestPickerModel" "needs" "[I") (by decide +kernel)) (fun _ h9 => h9) rfl dX5_tells_54 ?_
    refine lv_iload_n hx hb dX5_tells_57 rfl (lv_at hl 1 rfl) ?_
    refine ld_i hx hb hK hP 4 (f := gNd gs) rfl (i := t) (by omega) (by decide) dX5_tells_58 ?_
    exact ro_reti hx hb hr hlk (by simp [gTl, c1_2]) dX5_tells_59
  by_cases c1_3 : x = 3
  · -- case 3
    refine lv_tableIn (tgt := 60) (off := 59) hx hb dX5_tells_1 (by rw [c1_3]; decide) (by rw [c1_3]; decide) (by rw [c1_3]; decide) (by decide) ?_
    refine lv_aload_n hx hb dX5_tells_60 rfl (lv_at hl 0 rfl) ?_
    refine lv_iload_n hx hb dX5_tells_61 rfl (lv_at hl 1 rfl) ?_
    refine ro_Vi (As := [.int (nI t)]) (rest := []) ⟨hx, hb, hml, hown, hts⟩ (c_X5_heatOf l D z c gs t (by omega) (by omega)) (cwV 1 hts gX5_tells_X5_heatOf rfl rfl rfl (by decide +kernel) ⟨Nat.le_of_ble_eq_true rfl, Nat.le_of_ble_eq_true rfl⟩) hP hK (va_recv hK.1 hP (ci := 5) (q0 := 0) rfl rfl) rfl hl.1 rfl (Nat.le_of_ble_eq_true rfl) dX5_tells_62 ⟨Nat.le_of_ble_eq_true rfl, Nat.le_of_ble_eq_true rfl⟩ ?_
    exact ro_reti hx hb hr hlk (by simp [gTl, c1_3]) dX5_tells_65
  by_cases c1_4 : x = 4
  · -- case 4
    refine lv_tableIn (tgt := 66) (off := 65) hx hb dX5_tells_1 (by rw [c1_4]; decide) (by rw [c1_4]; decide) (by rw [c1_4]; decide) (by decide) ?_
    refine lv_aload_n hx hb dX5_tells_66 rfl (lv_at hl 0 rfl) ?_
    refine lv_iload_n hx hb dX5_tells_67 rfl (lv_at hl 1 rfl) ?_
    refine ro_Vi (As := [.int (nI t)]) (rest := []) ⟨hx, hb, hml, hown, hts⟩ (c_X5_isFlaky l D z c gs t (by omega) (by omega)) (cwV 1 hts gX5_tells_X5_isFlaky rfl rfl rfl (by decide +kernel) ⟨Nat.le_of_ble_eq_true rfl, Nat.le_of_ble_eq_true rfl⟩) hP hK (va_recv hK.1 hP (ci := 5) (q0 := 0) rfl rfl) rfl hl.1 rfl (Nat.le_of_ble_eq_true rfl) dX5_tells_68 ⟨Nat.le_of_ble_eq_true rfl, Nat.le_of_ble_eq_true rfl⟩ ?_
    refine lv_if_eq (tgt := 78) hx hb dX5_tells_71 (by decide) (fun c71 => ?_) (fun c71 => ?_)
    · -- 71 True
      have c71 := bI_z.mp c71
      refine lv_iconst (v := 0) hx hb dX5_tells_78 (by decide) ?_
      exact ro_reti hx hb hr hlk (by simp [gTl, c1_4, c71, bI]) dX5_tells_79
    · -- 71 False
      have c71 := bI_nz.mp c71
      refine lv_iconst (v := 1) hx hb dX5_tells_74 (by decide) ?_
      refine lv_goto (tgt := 79) hx hb dX5_tells_75 (by decide) ?_
      exact ro_reti hx hb hr hlk (by simp [gTl, c1_4, c71, bI]) dX5_tells_79
  by_cases c1_5 : x = 5
  · -- case 5
    refine lv_tableIn (tgt := 80) (off := 79) hx hb dX5_tells_1 (by rw [c1_5]; decide) (by rw [c1_5]; decide) (by rw [c1_5]; decide) (by decide) ?_
    refine lv_aload_n hx hb dX5_tells_80 rfl (lv_at hl 0 rfl) ?_
    refine lv_iload_n hx hb dX5_tells_81 rfl (lv_at hl 1 rfl) ?_
    refine ro_Vi (As := [.int (nI t)]) (rest := []) ⟨hx, hb, hml, hown, hts⟩ (c_X5_isBroken l D z c gs t (by omega) (by omega)) (cwV 1 hts gX5_tells_X5_isBroken rfl rfl rfl (by decide +kernel) ⟨Nat.le_of_ble_eq_true rfl, Nat.le_of_ble_eq_true rfl⟩) hP hK (va_recv hK.1 hP (ci := 5) (q0 := 0) rfl rfl) rfl hl.1 rfl (Nat.le_of_ble_eq_true rfl) dX5_tells_82 ⟨Nat.le_of_ble_eq_true rfl, Nat.le_of_ble_eq_true rfl⟩ ?_
    refine lv_if_eq (tgt := 92) hx hb dX5_tells_85 (by decide) (fun c85 => ?_) (fun c85 => ?_)
    · -- 85 True
      have c85 := bI_z.mp c85
      refine lv_iconst (v := 0) hx hb dX5_tells_92 (by decide) ?_
      exact ro_reti hx hb hr hlk (by simp [gTl, c1_5, c85, bI]) dX5_tells_93
    · -- 85 False
      have c85 := bI_nz.mp c85
      refine lv_iconst (v := 1) hx hb dX5_tells_88 (by decide) ?_
      refine lv_goto (tgt := 93) hx hb dX5_tells_89 (by decide) ?_
      exact ro_reti hx hb hr hlk (by simp [gTl, c1_5, c85, bI]) dX5_tells_93
  refine lv_tableOut (tgt := 94) hx hb dX5_tells_1 (sw6 c1_0 c1_1 c1_2 c1_3 c1_4 c1_5) (by decide) ?_
  refine lv_aload_n hx hb dX5_tells_94 rfl (lv_at hl 0 rfl) ?_
  refine lv_iload_n hx hb dX5_tells_95 rfl (lv_at hl 1 rfl) ?_
  refine ro_Vi (As := [.int (nI t)]) (rest := []) ⟨hx, hb, hml, hown, hts⟩ (c_X5_chainOf l D z c gs t (by omega) (by omega) hN) (cwV 1 hts gX5_tells_X5_chainOf rfl rfl rfl (by decide +kernel) ⟨Nat.le_of_ble_eq_true rfl, Nat.le_of_ble_eq_true rfl⟩) hP hK (va_recv hK.1 hP (ci := 5) (q0 := 0) rfl rfl) rfl hl.1 rfl (Nat.le_of_ble_eq_true rfl) dX5_tells_96 ⟨Nat.le_of_ble_eq_true rfl, Nat.le_of_ble_eq_true rfl⟩ ?_
  refine lv_i2l (v := (gCh gs t).toInt64) hx hb dX5_tells_99 rfl ?_
  refine ro_Si (As := [.long ((gCh gs t).toInt64)]) (rest := []) ⟨hx, hb, hml, hown, hts⟩ (c_X5_bits l D c ((gCh gs t).toInt64)) (va_cwS 1 hts gX5_tells_X5_bits rfl rfl rfl (by decide +kernel) ⟨Nat.le_of_ble_eq_true rfl, Nat.le_of_ble_eq_true rfl⟩) va_P0 hK rfl hl.1 rfl (Nat.le_of_ble_eq_true rfl) dX5_tells_100 ⟨Nat.le_of_ble_eq_true rfl, Nat.le_of_ble_eq_true rfl⟩ ?_
  exact ro_reti hx hb hr hlk (by simp [gTl, c1_0, c1_1, c1_2, c1_3, c1_4, c1_5]) dX5_tells_103

set_option maxHeartbeats 4000000 in
set_option maxRecDepth 100000 in
theorem c_X5_mayBe (l : Launch) (D : va_G) (z : Nat → Nat) (c : CT) (gs : GS) (t : Nat) (ht : t < gT gs) (hT : gT gs ≤ 20) (hN : WN (gNd gs) (gT gs)) : ROi l yX5_mayBe wsX5_mayBe ({ frames := 0, cells := 0, slots := 0, locals := 0 } : Room) [.ref (z 0), .int (nI t)] D c (wG z c gs) (bI (gMb gs t)) := by
  refine ro_starti (cc := cX5_mayBe) (maxL := 4) (ret := some .boolean) (by decide) rfl (Nat.le_of_ble_eq_true rfl) ?_
  intro p e s m args below meth c0 ls hx hb hr hml hown hts hlk hP hK hl
  have hown : s.vm.findClass RX5 = some m.cls := hown
  have hl : lv_has ls 4 [(0, .ref (z 0)), (1, .int (nI t))] := hl
  have hin5 : ∀ w ∈ wsX50, w ∈ wsX5_mayBe := by decide +kernel
  refine lv_iconst (v := 1) hx hb dX5_mayBe_0 (by decide) ?_
  refine lv_istore_n (lv' := [(2, .int 1), (0, .ref (z 0)), (1, .int (nI t))]) hx hb dX5_mayBe_1 rfl hl (by decide) rfl (fun ls hl => ?_)
  refine lv_iload_n hx hb dX5_mayBe_2 rfl (lv_at hl 2 rfl) ?_
  refine lv_istore_n (lv' := [(3, .int (nI t)), (2, .int 1), (0, .ref (z 0)), (1, .int (nI t))]) hx hb dX5_mayBe_3 rfl hl (by decide) rfl (fun ls hl => ?_)
  have L4 : ∀ (n : Nat) (y : Int32) (a : Bool), (0 < n ∧ (y < 0 ∨ ∃ u, u + 1 < n ∧ u < gT gs ∧ y = nI u)) → ((a && mbM (gKd gs) (gMs gs) (gNd gs) n y) = gMb gs t) → ∀ ls : Array Slot, lv_has ls 4 [(3, .int y), (2, .int (bI a)), (0, .ref (z 0)), (1, .int (nI t))] → W p l e ({ frames := 0, cells := 0, slots := 0, locals := 0 } : Room) s m args below meth c0 s.heap [] 0 0 (QRi below args s (bI (gMb gs t))) (F0 m 4 ls []) := by
    intro n
    induction n with
    | zero => intro y a hn ha ls hl; exact absurd hn.1 (by omega)
    | succ n ih4 =>
      intro y a hn ha ls hl
      refine lv_iload_n hx hb dX5_mayBe_4 rfl (lv_at hl 0 rfl) ?_
      refine lv_if_lt (tgt := 47) hx hb dX5_mayBe_5 (by decide) (fun c5 => ?_) (fun c5 => ?_)
      · -- 5 True
        refine lv_iload_n hx hb dX5_mayBe_47 rfl (lv_at hl 1 rfl) ?_
        exact ro_retz hx hb hr hlk (bI_or _) (by rw [← ha, show mbM (gKd gs) (gMs gs) (gNd gs) (n + 1) y = true from if_pos c5, Bool.and_true]) dX5_mayBe_48
      · -- 5 False
        obtain ⟨u, hu1, hu2, rfl⟩ := ch_at hn c5
        refine lv_iload_n hx hb dX5_mayBe_8 rfl (lv_at hl 1 rfl) ?_
        refine lv_if_eq (tgt := 35) hx hb dX5_mayBe_9 (by decide) (fun c9 => ?_) (fun c9 => ?_)
        · -- 9 True
          have c9 := bI_z.mp c9
          refine lv_iconst (v := 0) hx hb dX5_mayBe_35 (by decide) ?_
          refine lv_istore_n (lv' := [(2, .int 0), (3, .int (nI u)), (0, .ref (z 0)), (1, .int (nI t))]) hx hb dX5_mayBe_36 rfl hl (by decide) rfl (fun ls hl => ?_)
          refine lv_aload_n hx hb dX5_mayBe_37 rfl (lv_at hl 2 rfl) ?_
          refine va_get (D := D) (ci := 5) (v := .ref (z 4)) (C := RX5) (T := TX5) (N := 19) hx hb hts hin5 hown hK.1 hP 0 rfl rfl 5 (by decide) (hts (.fieldLink RX5 19 "TestPickerModel" "needs" "[I") (by decide +kernel)) (fun _ h9 => h9) rfl dX5_mayBe_38 ?_
          refine lv_iload_n hx hb dX5_mayBe_41 rfl (lv_at hl 1 rfl) ?_
          refine ld_i hx hb hK hP 4 (f := gNd gs) rfl (i := u) (by omega) (by decide) dX5_mayBe_42 ?_
          refine lv_istore_n (lv' := [(3, .int (gNd gs u)), (2, .int 0), (0, .ref (z 0)), (1, .int (nI t))]) hx hb dX5_mayBe_43 rfl hl (by decide) rfl (fun ls hl => ?_)
          refine lv_goto (tgt := 4) hx hb dX5_mayBe_44 (by decide) ?_
          exact ih4 (gNd gs u) false (ch_next hN hu1 hu2) (by rw [← ha, mbM_pos (by omega)]; simp [c9]) ls (lv_sub hl [0, 1, 2, 3] rfl)
        · -- 9 False
          have c9 := bI_nz.mp c9
          refine lv_aload_n hx hb dX5_mayBe_12 rfl (lv_at hl 2 rfl) ?_
          refine va_get (D := D) (ci := 5) (v := .ref (z 2)) (C := RX5) (T := TX5) (N := 19) hx hb hts hin5 hown hK.1 hP 0 rfl rfl 3 (by decide) (hts (.fieldLink RX5 13 "TestPickerModel" "kinds" "[I") (by decide +kernel)) (fun _ h9 => h9) rfl dX5_mayBe_13 ?_
          refine lv_iload_n hx hb dX5_mayBe_16 rfl (lv_at hl 0 rfl) ?_
          refine ld_i hx hb hK hP 2 (f := gKd gs) rfl (i := u) (by omega) (by decide) dX5_mayBe_17 ?_
          refine lv_iconst (v := 3) hx hb dX5_mayBe_18 (by decide) ?_
          refine lv_icmp_eq (tgt := 35) hx hb dX5_mayBe_19 (by decide) (fun c19 => ?_) (fun c19 => ?_)
          · -- 19 True
            refine lv_iconst (v := 0) hx hb dX5_mayBe_35 (by decide) ?_
            refine lv_istore_n (lv' := [(2, .int 0), (3, .int (nI u)), (0, .ref (z 0)), (1, .int (nI t))]) hx hb dX5_mayBe_36 rfl hl (by decide) rfl (fun ls hl => ?_)
            refine lv_aload_n hx hb dX5_mayBe_37 rfl (lv_at hl 2 rfl) ?_
            refine va_get (D := D) (ci := 5) (v := .ref (z 4)) (C := RX5) (T := TX5) (N := 19) hx hb hts hin5 hown hK.1 hP 0 rfl rfl 5 (by decide) (hts (.fieldLink RX5 19 "TestPickerModel" "needs" "[I") (by decide +kernel)) (fun _ h9 => h9) rfl dX5_mayBe_38 ?_
            refine lv_iload_n hx hb dX5_mayBe_41 rfl (lv_at hl 1 rfl) ?_
            refine ld_i hx hb hK hP 4 (f := gNd gs) rfl (i := u) (by omega) (by decide) dX5_mayBe_42 ?_
            refine lv_istore_n (lv' := [(3, .int (gNd gs u)), (2, .int 0), (0, .ref (z 0)), (1, .int (nI t))]) hx hb dX5_mayBe_43 rfl hl (by decide) rfl (fun ls hl => ?_)
            refine lv_goto (tgt := 4) hx hb dX5_mayBe_44 (by decide) ?_
            exact ih4 (gNd gs u) false (ch_next hN hu1 hu2) (by rw [← ha, mbM_pos (by omega)]; simp [c9, c19]) ls (lv_sub hl [0, 1, 2, 3] rfl)
          · -- 19 False
            refine lv_aload_n hx hb dX5_mayBe_22 rfl (lv_at hl 2 rfl) ?_
            refine va_get (D := D) (ci := 5) (v := .ref (z 5)) (C := RX5) (T := TX5) (N := 19) hx hb hts hin5 hown hK.1 hP 0 rfl rfl 6 (by decide) (hts (.fieldLink RX5 22 "TestPickerModel" "missing" "[Z") (by decide +kernel)) (fun _ h9 => h9) rfl dX5_mayBe_23 ?_
            refine lv_iload_n hx hb dX5_mayBe_26 rfl (lv_at hl 0 rfl) ?_
            refine ld_z hx hb hK hP 5 (f := gMs gs) rfl (i := u) (by omega) (by decide) dX5_mayBe_27 ?_
            refine lv_if_ne (tgt := 35) hx hb dX5_mayBe_28 (by decide) (fun c28 => ?_) (fun c28 => ?_)
            · -- 28 True
              refine lv_iconst (v := 0) hx hb dX5_mayBe_35 (by decide) ?_
              refine lv_istore_n (lv' := [(2, .int 0), (3, .int (nI u)), (0, .ref (z 0)), (1, .int (nI t))]) hx hb dX5_mayBe_36 rfl hl (by decide) rfl (fun ls hl => ?_)
              refine lv_aload_n hx hb dX5_mayBe_37 rfl (lv_at hl 2 rfl) ?_
              refine va_get (D := D) (ci := 5) (v := .ref (z 4)) (C := RX5) (T := TX5) (N := 19) hx hb hts hin5 hown hK.1 hP 0 rfl rfl 5 (by decide) (hts (.fieldLink RX5 19 "TestPickerModel" "needs" "[I") (by decide +kernel)) (fun _ h9 => h9) rfl dX5_mayBe_38 ?_
              refine lv_iload_n hx hb dX5_mayBe_41 rfl (lv_at hl 1 rfl) ?_
              refine ld_i hx hb hK hP 4 (f := gNd gs) rfl (i := u) (by omega) (by decide) dX5_mayBe_42 ?_
              refine lv_istore_n (lv' := [(3, .int (gNd gs u)), (2, .int 0), (0, .ref (z 0)), (1, .int (nI t))]) hx hb dX5_mayBe_43 rfl hl (by decide) rfl (fun ls hl => ?_)
              refine lv_goto (tgt := 4) hx hb dX5_mayBe_44 (by decide) ?_
              exact ih4 (gNd gs u) false (ch_next hN hu1 hu2) (by rw [← ha, mbM_pos (by omega)]; simp [c9, c19, c28]) ls (lv_sub hl [0, 1, 2, 3] rfl)
            · -- 28 False
              refine lv_iconst (v := 1) hx hb dX5_mayBe_31 (by decide) ?_
              refine lv_goto (tgt := 36) hx hb dX5_mayBe_32 (by decide) ?_
              refine lv_istore_n (lv' := [(2, .int 1), (3, .int (nI u)), (0, .ref (z 0)), (1, .int (nI t))]) hx hb dX5_mayBe_36 rfl hl (by decide) rfl (fun ls hl => ?_)
              refine lv_aload_n hx hb dX5_mayBe_37 rfl (lv_at hl 2 rfl) ?_
              refine va_get (D := D) (ci := 5) (v := .ref (z 4)) (C := RX5) (T := TX5) (N := 19) hx hb hts hin5 hown hK.1 hP 0 rfl rfl 5 (by decide) (hts (.fieldLink RX5 19 "TestPickerModel" "needs" "[I") (by decide +kernel)) (fun _ h9 => h9) rfl dX5_mayBe_38 ?_
              refine lv_iload_n hx hb dX5_mayBe_41 rfl (lv_at hl 1 rfl) ?_
              refine ld_i hx hb hK hP 4 (f := gNd gs) rfl (i := u) (by omega) (by decide) dX5_mayBe_42 ?_
              refine lv_istore_n (lv' := [(3, .int (gNd gs u)), (2, .int 1), (0, .ref (z 0)), (1, .int (nI t))]) hx hb dX5_mayBe_43 rfl hl (by decide) rfl (fun ls hl => ?_)
              refine lv_goto (tgt := 4) hx hb dX5_mayBe_44 (by decide) ?_
              exact ih4 (gNd gs u) true (ch_next hN hu1 hu2) (by rw [← ha, mbM_pos (by omega)]; simp [c9, c19, c28]) ls (lv_sub hl [0, 1, 2, 3] rfl)
  exact L4 (21) (nI t) true (⟨by omega, Or.inr ⟨t, by omega, ht, rfl⟩⟩) (Bool.true_and _) ls (lv_sub hl [0, 1, 2, 3] rfl)

set_option maxHeartbeats 4000000 in
set_option maxRecDepth 100000 in
theorem c_X5_reachOfSet (l : Launch) (D : va_G) (z : Nat → Nat) (c : CT) (gs : GS) (x : Int32) (hT : gT gs ≤ 20) : ROl l yX5_reachOfSet wsX5_reachOfSet ({ frames := 1, cells := 0, slots := 0, locals := 24 } : Room) [.ref (z 0), .int x] D c (wG z c gs) (gRS gs x) := by
  refine ro_startl (cc := cX5_reachOfSet) (maxL := 5) (ret := some .long) (by decide) rfl (Nat.le_of_ble_eq_true rfl) ?_
  intro p e s m args below meth c0 ls hx hb hr hml hown hts hlk hP hK hl
  have hown : s.vm.findClass RX5 = some m.cls := hown
  have hl : lv_has ls 5 [(0, .ref (z 0)), (1, .int x)] := hl
  have hin5 : ∀ w ∈ wsX50, w ∈ wsX5_reachOfSet := by decide +kernel
  refine lv_lconst (v := 0) hx hb dX5_reachOfSet_0 (by decide) ?_
  refine lv_lstore_n (lv' := [(2, .long 0), (0, .ref (z 0)), (1, .int x)]) hx hb dX5_reachOfSet_1 rfl hl (by decide) rfl (fun ls hl => ?_)
  refine lv_iconst (v := 0) hx hb dX5_reachOfSet_2 (by decide) ?_
  refine lv_istore (lv' := [(4, .int 0), (2, .long 0), (0, .ref (z 0)), (1, .int x)]) hx hb dX5_reachOfSet_3 hl (by decide) rfl (fun ls hl => ?_)
  have L5 : ∀ (n : Nat) (i : Nat) (a : Int64), (i ≤ gT gs) → (gT gs < i + n) → (a = paS (gRe gs) x i) → ∀ ls : Array Slot, lv_has ls 5 [(4, .int (nI i)), (2, .long a), (0, .ref (z 0)), (1, .int x)] → W p l e ({ frames := 1, cells := 0, slots := 0, locals := 24 } : Room) s m args below meth c0 s.heap [] 0 0 (QRl below args s (gRS gs x)) (F0 m 5 ls []) := by
    intro n
    induction n with
    | zero => intro i a hi hn ha ls hl; exact absurd hn (by omega)
    | succ n ih5 =>
      intro i a hi hn ha ls hl
      refine lv_iload hx hb dX5_reachOfSet_5 (lv_at hl 0 rfl) ?_
      refine lv_aload_n hx hb dX5_reachOfSet_7 rfl (lv_at hl 2 rfl) ?_
      refine va_get (D := D) (ci := 5) (v := .int (nI (gT gs))) (C := RX5) (T := TX5) (N := 19) hx hb hts hin5 hown hK.1 hP 0 rfl rfl 2 (by decide) (hts (.fieldLink RX5 52 "TestPickerModel" "tests" "I") (by decide +kernel)) (fun _ h9 => h9) rfl dX5_reachOfSet_8 ?_
      refine lv_icmp_ge (tgt := 42) hx hb dX5_reachOfSet_11 (by decide) (fun c11 => ?_) (fun c11 => ?_)
      · -- 11 True
        have c11 : (gT gs) ≤ i := (nI_leI (a := (gT gs)) (b := i) (by omega) (by omega)).mp c11
        refine lv_lload_n hx hb dX5_reachOfSet_42 rfl (lv_at hl 1 rfl) ?_
        exact ro_retl hx hb hr hlk (by rw [ha, show i = gT gs by omega]) dX5_reachOfSet_43
      · -- 11 False
        have c11 : i < (gT gs) := (Nat.not_le.mp (fun z => c11 ((nI_leI (a := (gT gs)) (b := i) (by omega) (by omega)).mpr z)))
        refine lv_lload_n hx hb dX5_reachOfSet_14 rfl (lv_at hl 1 rfl) ?_
        refine lv_iload_n hx hb dX5_reachOfSet_15 rfl (lv_at hl 3 rfl) ?_
        refine lv_iload hx hb dX5_reachOfSet_16 (lv_at hl 0 rfl) ?_
        refine ro_Si (As := [.int x, .int (nI i)]) (rest := [.long a]) ⟨hx, hb, hml, hown, hts⟩ (c_X5_has l D c x i (by omega)) (va_cwS 2 hts gX5_reachOfSet_X5_has rfl rfl rfl (by decide +kernel) ⟨Nat.le_of_ble_eq_true rfl, Nat.le_of_ble_eq_true rfl⟩) va_P0 hK rfl hl.1 rfl (Nat.le_of_ble_eq_true rfl) dX5_reachOfSet_18 ⟨Nat.le_of_ble_eq_true rfl, Nat.le_of_ble_eq_true rfl⟩ ?_
        refine lv_if_eq (tgt := 33) hx hb dX5_reachOfSet_21 (by decide) (fun c21 => ?_) (fun c21 => ?_)
        · -- 21 True
          have c21 := bI_z.mp c21
          refine lv_lconst (v := 0) hx hb dX5_reachOfSet_33 (by decide) ?_
          refine lv_lor hx hb dX5_reachOfSet_34 ?_
          refine lv_lstore_n (lv' := [(2, .long (a ||| 0)), (4, .int (nI i)), (0, .ref (z 0)), (1, .int x)]) hx hb dX5_reachOfSet_35 rfl hl (by decide) rfl (fun ls hl => ?_)
          refine lv_iinc (v := nI (i + 1)) (lv' := [(4, .int (nI (i + 1))), (2, .long (a ||| 0)), (0, .ref (z 0)), (1, .int x)]) hx hb dX5_reachOfSet_36 hl (k := 1) rfl (nI_inc _) (by decide) rfl (fun ls hl => ?_)
          refine lv_goto (tgt := 5) hx hb dX5_reachOfSet_39 (by decide) ?_
          exact ih5 (i + 1) (a ||| 0) (by omega) (by omega) (by rw [ha]; simp [paS, c21]) ls (lv_sub hl [0, 1, 2, 3] rfl)
        · -- 21 False
          have c21 := bI_nz.mp c21
          refine lv_aload_n hx hb dX5_reachOfSet_24 rfl (lv_at hl 2 rfl) ?_
          refine lv_iload hx hb dX5_reachOfSet_25 (lv_at hl 0 rfl) ?_
          refine ro_Vl (As := [.int (nI i)]) (rest := [.long a]) ⟨hx, hb, hml, hown, hts⟩ (c_X5_reachOf l D z c gs i (by omega)) (cwV 1 hts gX5_reachOfSet_X5_reachOf rfl rfl rfl (by decide +kernel) ⟨Nat.le_of_ble_eq_true rfl, Nat.le_of_ble_eq_true rfl⟩) hP hK (va_recv hK.1 hP (ci := 5) (q0 := 0) rfl rfl) rfl hl.1 rfl (Nat.le_of_ble_eq_true rfl) dX5_reachOfSet_27 ⟨Nat.le_of_ble_eq_true rfl, Nat.le_of_ble_eq_true rfl⟩ ?_
          refine lv_goto (tgt := 34) hx hb dX5_reachOfSet_30 (by decide) ?_
          refine lv_lor hx hb dX5_reachOfSet_34 ?_
          refine lv_lstore_n (lv' := [(2, .long (a ||| (gRe gs i))), (4, .int (nI i)), (0, .ref (z 0)), (1, .int x)]) hx hb dX5_reachOfSet_35 rfl hl (by decide) rfl (fun ls hl => ?_)
          refine lv_iinc (v := nI (i + 1)) (lv' := [(4, .int (nI (i + 1))), (2, .long (a ||| (gRe gs i))), (0, .ref (z 0)), (1, .int x)]) hx hb dX5_reachOfSet_36 hl (k := 1) rfl (nI_inc _) (by decide) rfl (fun ls hl => ?_)
          refine lv_goto (tgt := 5) hx hb dX5_reachOfSet_39 (by decide) ?_
          exact ih5 (i + 1) (a ||| (gRe gs i)) (by omega) (by omega) (by rw [ha]; simp [paS, c21]) ls (lv_sub hl [0, 1, 2, 3] rfl)
  exact L5 (gT gs + 1) 0 0 (by omega) (by omega) (rfl) ls (lv_sub hl [0, 1, 2, 3] rfl)

set_option maxHeartbeats 4000000 in
set_option maxRecDepth 100000 in
theorem c_X5_timeOfSet (l : Launch) (D : va_G) (z : Nat → Nat) (c : CT) (gs : GS) (x : Int32) (hT : gT gs ≤ 20) : ROi l yX5_timeOfSet wsX5_timeOfSet ({ frames := 1, cells := 0, slots := 0, locals := 21 } : Room) [.ref (z 0), .int x] D c (wG z c gs) (gTS gs x) := by
  refine ro_starti (cc := cX5_timeOfSet) (maxL := 4) (ret := some .int) (by decide) rfl (Nat.le_of_ble_eq_true rfl) ?_
  intro p e s m args below meth c0 ls hx hb hr hml hown hts hlk hP hK hl
  have hown : s.vm.findClass RX5 = some m.cls := hown
  have hl : lv_has ls 4 [(0, .ref (z 0)), (1, .int x)] := hl
  have hin5 : ∀ w ∈ wsX50, w ∈ wsX5_timeOfSet := by decide +kernel
  refine lv_iconst (v := 0) hx hb dX5_timeOfSet_0 (by decide) ?_
  refine lv_istore_n (lv' := [(2, .int 0), (0, .ref (z 0)), (1, .int x)]) hx hb dX5_timeOfSet_1 rfl hl (by decide) rfl (fun ls hl => ?_)
  refine lv_iconst (v := 0) hx hb dX5_timeOfSet_2 (by decide) ?_
  refine lv_istore_n (lv' := [(3, .int 0), (2, .int 0), (0, .ref (z 0)), (1, .int x)]) hx hb dX5_timeOfSet_3 rfl hl (by decide) rfl (fun ls hl => ?_)
  have L4 : ∀ (n : Nat) (i : Nat) (a : Int32), (i ≤ gT gs) → (gT gs < i + n) → (a = tmS (gKd gs) (gTi gs) x i) → ∀ ls : Array Slot, lv_has ls 4 [(3, .int (nI i)), (2, .int a), (0, .ref (z 0)), (1, .int x)] → W p l e ({ frames := 1, cells := 0, slots := 0, locals := 21 } : Room) s m args below meth c0 s.heap [] 0 0 (QRi below args s (gTS gs x)) (F0 m 4 ls []) := by
    intro n
    induction n with
    | zero => intro i a hi hn ha ls hl; exact absurd hn (by omega)
    | succ n ih4 =>
      intro i a hi hn ha ls hl
      refine lv_iload_n hx hb dX5_timeOfSet_4 rfl (lv_at hl 0 rfl) ?_
      refine lv_aload_n hx hb dX5_timeOfSet_5 rfl (lv_at hl 2 rfl) ?_
      refine va_get (D := D) (ci := 5) (v := .int (nI (gT gs))) (C := RX5) (T := TX5) (N := 19) hx hb hts hin5 hown hK.1 hP 0 rfl rfl 2 (by decide) (hts (.fieldLink RX5 52 "TestPickerModel" "tests" "I") (by decide +kernel)) (fun _ h9 => h9) rfl dX5_timeOfSet_6 ?_
      refine lv_icmp_ge (tgt := 38) hx hb dX5_timeOfSet_9 (by decide) (fun c9 => ?_) (fun c9 => ?_)
      · -- 9 True
        have c9 : (gT gs) ≤ i := (nI_leI (a := (gT gs)) (b := i) (by omega) (by omega)).mp c9
        refine lv_iload_n hx hb dX5_timeOfSet_38 rfl (lv_at hl 1 rfl) ?_
        exact ro_reti hx hb hr hlk (by rw [ha, show i = gT gs by omega]) dX5_timeOfSet_39
      · -- 9 False
        have c9 : i < (gT gs) := (Nat.not_le.mp (fun z => c9 ((nI_leI (a := (gT gs)) (b := i) (by omega) (by omega)).mpr z)))
        refine lv_iload_n hx hb dX5_timeOfSet_12 rfl (lv_at hl 1 rfl) ?_
        refine lv_iload_n hx hb dX5_timeOfSet_13 rfl (lv_at hl 3 rfl) ?_
        refine lv_iload_n hx hb dX5_timeOfSet_14 rfl (lv_at hl 0 rfl) ?_
        refine ro_Si (As := [.int x, .int (nI i)]) (rest := [.int a]) ⟨hx, hb, hml, hown, hts⟩ (c_X5_has l D c x i (by omega)) (va_cwS 2 hts gX5_timeOfSet_X5_has rfl rfl rfl (by decide +kernel) ⟨Nat.le_of_ble_eq_true rfl, Nat.le_of_ble_eq_true rfl⟩) va_P0 hK rfl hl.1 rfl (Nat.le_of_ble_eq_true rfl) dX5_timeOfSet_15 ⟨Nat.le_of_ble_eq_true rfl, Nat.le_of_ble_eq_true rfl⟩ ?_
        refine lv_if_eq (tgt := 29) hx hb dX5_timeOfSet_18 (by decide) (fun c18 => ?_) (fun c18 => ?_)
        · -- 18 True
          have c18 := bI_z.mp c18
          refine lv_iconst (v := 0) hx hb dX5_timeOfSet_29 (by decide) ?_
          refine lv_iadd hx hb dX5_timeOfSet_30 ?_
          refine lv_istore_n (lv' := [(2, .int (a + 0)), (3, .int (nI i)), (0, .ref (z 0)), (1, .int x)]) hx hb dX5_timeOfSet_31 rfl hl (by decide) rfl (fun ls hl => ?_)
          refine lv_iinc (v := nI (i + 1)) (lv' := [(3, .int (nI (i + 1))), (2, .int (a + 0)), (0, .ref (z 0)), (1, .int x)]) hx hb dX5_timeOfSet_32 hl (k := 1) rfl (nI_inc _) (by decide) rfl (fun ls hl => ?_)
          refine lv_goto (tgt := 4) hx hb dX5_timeOfSet_35 (by decide) ?_
          exact ih4 (i + 1) (a + 0) (by omega) (by omega) (by rw [ha]; simp [tmS, c18]) ls (lv_sub hl [0, 1, 2, 3] rfl)
        · -- 18 False
          have c18 := bI_nz.mp c18
          refine lv_aload_n hx hb dX5_timeOfSet_21 rfl (lv_at hl 2 rfl) ?_
          refine lv_iload_n hx hb dX5_timeOfSet_22 rfl (lv_at hl 0 rfl) ?_
          refine ro_Vi (As := [.int (nI i)]) (rest := [.int a]) ⟨hx, hb, hml, hown, hts⟩ (c_X5_timeOf l D z c gs i (by omega)) (cwV 1 hts gX5_timeOfSet_X5_timeOf rfl rfl rfl (by decide +kernel) ⟨Nat.le_of_ble_eq_true rfl, Nat.le_of_ble_eq_true rfl⟩) hP hK (va_recv hK.1 hP (ci := 5) (q0 := 0) rfl rfl) rfl hl.1 rfl (Nat.le_of_ble_eq_true rfl) dX5_timeOfSet_23 ⟨Nat.le_of_ble_eq_true rfl, Nat.le_of_ble_eq_true rfl⟩ ?_
          refine lv_goto (tgt := 30) hx hb dX5_timeOfSet_26 (by decide) ?_
          refine lv_iadd hx hb dX5_timeOfSet_30 ?_
          refine lv_istore_n (lv' := [(2, .int (a + (cTm (gKd gs) (gTi gs) i))), (3, .int (nI i)), (0, .ref (z 0)), (1, .int x)]) hx hb dX5_timeOfSet_31 rfl hl (by decide) rfl (fun ls hl => ?_)
          refine lv_iinc (v := nI (i + 1)) (lv' := [(3, .int (nI (i + 1))), (2, .int (a + (cTm (gKd gs) (gTi gs) i))), (0, .ref (z 0)), (1, .int x)]) hx hb dX5_timeOfSet_32 hl (k := 1) rfl (nI_inc _) (by decide) rfl (fun ls hl => ?_)
          refine lv_goto (tgt := 4) hx hb dX5_timeOfSet_35 (by decide) ?_
          exact ih4 (i + 1) (a + (cTm (gKd gs) (gTi gs) i)) (by omega) (by omega) (by rw [ha]; simp [tmS, c18]) ls (lv_sub hl [0, 1, 2, 3] rfl)
  exact L4 (gT gs + 1) 0 0 (by omega) (by omega) (rfl) ls (lv_sub hl [0, 1, 2, 3] rfl)

set_option maxHeartbeats 4000000 in
set_option maxRecDepth 100000 in
theorem c_X5_setOf (l : Launch) (D : va_G) (z : Nat → Nat) (c : CT) (gs : GS) (x : Int32) (k : Nat) (hk : k ≤ 20) : ROi l yX5_setOf wsX5_setOf ({ frames := 1, cells := 0, slots := 0, locals := 21 } : Room) [.ref (z 0), .int x, .int (nI k)] D c (wG z c gs) (soS (gMay gs) x k) := by
  refine ro_starti (cc := cX5_setOf) (maxL := 5) (ret := some .int) (by decide) rfl (Nat.le_of_ble_eq_true rfl) ?_
  intro p e s m args below meth c0 ls hx hb hr hml hown hts hlk hP hK hl
  have hown : s.vm.findClass RX5 = some m.cls := hown
  have hl : lv_has ls 5 [(0, .ref (z 0)), (1, .int x), (2, .int (nI k))] := hl
  have hin5 : ∀ w ∈ wsX50, w ∈ wsX5_setOf := by decide +kernel
  refine lv_iconst (v := 0) hx hb dX5_setOf_0 (by decide) ?_
  refine lv_istore_n (lv' := [(3, .int 0), (0, .ref (z 0)), (1, .int x), (2, .int (nI k))]) hx hb dX5_setOf_1 rfl hl (by decide) rfl (fun ls hl => ?_)
  refine lv_iconst (v := 0) hx hb dX5_setOf_2 (by decide) ?_
  refine lv_istore (lv' := [(4, .int 0), (3, .int 0), (0, .ref (z 0)), (1, .int x), (2, .int (nI k))]) hx hb dX5_setOf_3 hl (by decide) rfl (fun ls hl => ?_)
  have L5 : ∀ (n : Nat) (i : Nat) (a : Int32), (i ≤ k) → (k < i + n) → (a = soS (gMay gs) x i) → ∀ ls : Array Slot, lv_has ls 5 [(4, .int (nI i)), (3, .int a), (0, .ref (z 0)), (1, .int x), (2, .int (nI k))] → W p l e ({ frames := 1, cells := 0, slots := 0, locals := 21 } : Room) s m args below meth c0 s.heap [] 0 0 (QRi below args s (soS (gMay gs) x k)) (F0 m 5 ls []) := by
    intro n
    induction n with
    | zero => intro i a hi hn ha ls hl; exact absurd hn (by omega)
    | succ n ih5 =>
      intro i a hi hn ha ls hl
      refine lv_iload hx hb dX5_setOf_5 (lv_at hl 0 rfl) ?_
      refine lv_iload_n hx hb dX5_setOf_7 rfl (lv_at hl 4 rfl) ?_
      refine lv_icmp_ge (tgt := 42) hx hb dX5_setOf_8 (by decide) (fun c8 => ?_) (fun c8 => ?_)
      · -- 8 True
        have c8 : k ≤ i := (nI_leI (a := k) (b := i) (by omega) (by omega)).mp c8
        refine lv_iload_n hx hb dX5_setOf_42 rfl (lv_at hl 1 rfl) ?_
        exact ro_reti hx hb hr hlk (by rw [ha, show i = k by omega]) dX5_setOf_43
      · -- 8 False
        have c8 : i < k := (Nat.not_le.mp (fun z => c8 ((nI_leI (a := k) (b := i) (by omega) (by omega)).mpr z)))
        refine lv_iload_n hx hb dX5_setOf_11 rfl (lv_at hl 1 rfl) ?_
        refine lv_iload_n hx hb dX5_setOf_12 rfl (lv_at hl 3 rfl) ?_
        refine lv_iload hx hb dX5_setOf_13 (lv_at hl 0 rfl) ?_
        refine ro_Si (As := [.int x, .int (nI i)]) (rest := [.int a]) ⟨hx, hb, hml, hown, hts⟩ (c_X5_has l D c x i (by omega)) (va_cwS 2 hts gX5_setOf_X5_has rfl rfl rfl (by decide +kernel) ⟨Nat.le_of_ble_eq_true rfl, Nat.le_of_ble_eq_true rfl⟩) va_P0 hK rfl hl.1 rfl (Nat.le_of_ble_eq_true rfl) dX5_setOf_15 ⟨Nat.le_of_ble_eq_true rfl, Nat.le_of_ble_eq_true rfl⟩ ?_
        refine lv_if_eq (tgt := 33) hx hb dX5_setOf_18 (by decide) (fun c18 => ?_) (fun c18 => ?_)
        · -- 18 True
          have c18 := bI_z.mp c18
          refine lv_iconst (v := 0) hx hb dX5_setOf_33 (by decide) ?_
          refine lv_ior hx hb dX5_setOf_34 ?_
          refine lv_istore_n (lv' := [(3, .int (a ||| 0)), (4, .int (nI i)), (0, .ref (z 0)), (1, .int x), (2, .int (nI k))]) hx hb dX5_setOf_35 rfl hl (by decide) rfl (fun ls hl => ?_)
          refine lv_iinc (v := nI (i + 1)) (lv' := [(4, .int (nI (i + 1))), (3, .int (a ||| 0)), (0, .ref (z 0)), (1, .int x), (2, .int (nI k))]) hx hb dX5_setOf_36 hl (k := 1) rfl (nI_inc _) (by decide) rfl (fun ls hl => ?_)
          refine lv_goto (tgt := 5) hx hb dX5_setOf_39 (by decide) ?_
          exact ih5 (i + 1) (a ||| 0) (by omega) (by omega) (by rw [ha]; simp [soS, c18]) ls (lv_sub hl [0, 1, 2, 3, 4] rfl)
        · -- 18 False
          have c18 := bI_nz.mp c18
          refine lv_iconst (v := 1) hx hb dX5_setOf_21 (by decide) ?_
          refine lv_aload_n hx hb dX5_setOf_22 rfl (lv_at hl 2 rfl) ?_
          refine va_get (D := D) (ci := 5) (v := .ref (z 11)) (C := RX5) (T := TX5) (N := 19) hx hb hts hin5 hown hK.1 hP 0 rfl rfl 18 (by decide) (hts (.fieldLink RX5 46 "TestPickerModel" "may" "[I") (by decide +kernel)) (fun _ h9 => h9) rfl dX5_setOf_23 ?_
          refine lv_iload hx hb dX5_setOf_26 (lv_at hl 0 rfl) ?_
          refine ld_i hx hb hK hP 11 (f := gMay gs) rfl (i := i) (by omega) (by decide) dX5_setOf_28 ?_
          refine lv_ishl hx hb dX5_setOf_29 ?_
          refine lv_goto (tgt := 34) hx hb dX5_setOf_30 (by decide) ?_
          refine lv_ior hx hb dX5_setOf_34 ?_
          refine lv_istore_n (lv' := [(3, .int (a ||| (1 <<< ((gMay gs i) &&& 31)))), (4, .int (nI i)), (0, .ref (z 0)), (1, .int x), (2, .int (nI k))]) hx hb dX5_setOf_35 rfl hl (by decide) rfl (fun ls hl => ?_)
          refine lv_iinc (v := nI (i + 1)) (lv' := [(4, .int (nI (i + 1))), (3, .int (a ||| (1 <<< ((gMay gs i) &&& 31)))), (0, .ref (z 0)), (1, .int x), (2, .int (nI k))]) hx hb dX5_setOf_36 hl (k := 1) rfl (nI_inc _) (by decide) rfl (fun ls hl => ?_)
          refine lv_goto (tgt := 5) hx hb dX5_setOf_39 (by decide) ?_
          exact ih5 (i + 1) (a ||| (1 <<< ((gMay gs i) &&& 31))) (by omega) (by omega) (by rw [ha]; simp [soS, c18]) ls (lv_sub hl [0, 1, 2, 3, 4] rfl)
  exact L5 (k + 1) 0 0 (by omega) (by omega) (rfl) ls (lv_sub hl [0, 1, 2, 3, 4] rfl)

set_option maxHeartbeats 4000000 in
set_option maxRecDepth 100000 in
theorem c_X5_areTests (l : Launch) (D : va_G) (z : Nat → Nat) (c : CT) (gs : GS) (x : Int32)  : ROi l yX5_areTests wsX5_areTests ({ frames := 0, cells := 0, slots := 0, locals := 0 } : Room) [.ref (z 0), .int x] D c (wG z c gs) (bI (arT x (gT gs))) := by
  refine ro_starti (cc := cX5_areTests) (maxL := 2) (ret := some .boolean) (by decide) rfl (Nat.le_of_ble_eq_true rfl) ?_
  intro p e s m args below meth c0 ls hx hb hr hml hown hts hlk hP hK hl
  have hown : s.vm.findClass RX5 = some m.cls := hown
  have hl : lv_has ls 2 [(0, .ref (z 0)), (1, .int x)] := hl
  have hin5 : ∀ w ∈ wsX50, w ∈ wsX5_areTests := by decide +kernel
  refine lv_iload_n hx hb dX5_areTests_0 rfl (lv_at hl 1 rfl) ?_
  refine lv_if_lt (tgt := 17) hx hb dX5_areTests_1 (by decide) (fun c1 => ?_) (fun c1 => ?_)
  · -- 1 True
    refine lv_iconst (v := 0) hx hb dX5_areTests_17 (by decide) ?_
    exact ro_retz hx hb hr hlk (by decide) (by simp [arT, bI, c1]) dX5_areTests_18
  · -- 1 False
    refine lv_iload_n hx hb dX5_areTests_4 rfl (lv_at hl 1 rfl) ?_
    refine lv_aload_n hx hb dX5_areTests_5 rfl (lv_at hl 0 rfl) ?_
    refine va_get (D := D) (ci := 5) (v := .int (nI (gT gs))) (C := RX5) (T := TX5) (N := 19) hx hb hts hin5 hown hK.1 hP 0 rfl rfl 2 (by decide) (hts (.fieldLink RX5 52 "TestPickerModel" "tests" "I") (by decide +kernel)) (fun _ h9 => h9) rfl dX5_areTests_6 ?_
    refine lv_ishr hx hb dX5_areTests_9 ?_
    refine lv_if_ne (tgt := 17) hx hb dX5_areTests_10 (by decide) (fun c10 => ?_) (fun c10 => ?_)
    · -- 10 True
      refine lv_iconst (v := 0) hx hb dX5_areTests_17 (by decide) ?_
      exact ro_retz hx hb hr hlk (by decide) (by simp [arT, bI, c1, c10]) dX5_areTests_18
    · -- 10 False
      refine lv_iconst (v := 1) hx hb dX5_areTests_13 (by decide) ?_
      refine lv_goto (tgt := 18) hx hb dX5_areTests_14 (by decide) ?_
      exact ro_retz hx hb hr hlk (by decide) (by simp [arT, bI, c1, c10]) dX5_areTests_18

set_option maxHeartbeats 4000000 in
set_option maxRecDepth 100000 in
theorem c_X5_fellOf (l : Launch) (D : va_G) (z : Nat → Nat) (c : CT) (gs : GS) (b : Nat) (x : Int32) (hb60 : b < 60) (hT : gT gs ≤ 20) : ROi l yX5_fellOf wsX5_fellOf ({ frames := 1, cells := 0, slots := 0, locals := 21 } : Room) [.ref (z 0), .int (nI b), .int x] D c (wG z c gs) (gFo gs b x) := by
  refine ro_starti (cc := cX5_fellOf) (maxL := 5) (ret := some .int) (by decide) rfl (Nat.le_of_ble_eq_true rfl) ?_
  intro p e s m args below meth c0 ls hx hb hr hml hown hts hlk hP hK hl
  have hown : s.vm.findClass RX5 = some m.cls := hown
  have hl : lv_has ls 5 [(0, .ref (z 0)), (1, .int (nI b)), (2, .int x)] := hl
  have hin5 : ∀ w ∈ wsX50, w ∈ wsX5_fellOf := by decide +kernel
  refine lv_iconst (v := 0) hx hb dX5_fellOf_0 (by decide) ?_
  refine lv_istore_n (lv' := [(3, .int 0), (0, .ref (z 0)), (1, .int (nI b)), (2, .int x)]) hx hb dX5_fellOf_1 rfl hl (by decide) rfl (fun ls hl => ?_)
  refine lv_iconst (v := 0) hx hb dX5_fellOf_2 (by decide) ?_
  refine lv_istore (lv' := [(4, .int 0), (3, .int 0), (0, .ref (z 0)), (1, .int (nI b)), (2, .int x)]) hx hb dX5_fellOf_3 hl (by decide) rfl (fun ls hl => ?_)
  have L5 : ∀ (n : Nat) (i : Nat) (a : Int32), (i ≤ gT gs) → (gT gs < i + n) → (a = orI (fun t => bt x t && decide (gVe gs (20 * b + t) = 1)) i) → ∀ ls : Array Slot, lv_has ls 5 [(4, .int (nI i)), (3, .int a), (0, .ref (z 0)), (1, .int (nI b)), (2, .int x)] → W p l e ({ frames := 1, cells := 0, slots := 0, locals := 21 } : Room) s m args below meth c0 s.heap [] 0 0 (QRi below args s (gFo gs b x)) (F0 m 5 ls []) := by
    intro n
    induction n with
    | zero => intro i a hi hn ha ls hl; exact absurd hn (by omega)
    | succ n ih5 =>
      intro i a hi hn ha ls hl
      refine lv_iload hx hb dX5_fellOf_5 (lv_at hl 0 rfl) ?_
      refine lv_aload_n hx hb dX5_fellOf_7 rfl (lv_at hl 2 rfl) ?_
      refine va_get (D := D) (ci := 5) (v := .int (nI (gT gs))) (C := RX5) (T := TX5) (N := 19) hx hb hts hin5 hown hK.1 hP 0 rfl rfl 2 (by decide) (hts (.fieldLink RX5 52 "TestPickerModel" "tests" "I") (by decide +kernel)) (fun _ h9 => h9) rfl dX5_fellOf_8 ?_
      refine lv_icmp_ge (tgt := 56) hx hb dX5_fellOf_11 (by decide) (fun c11 => ?_) (fun c11 => ?_)
      · -- 11 True
        have c11 : (gT gs) ≤ i := (nI_leI (a := (gT gs)) (b := i) (by omega) (by omega)).mp c11
        refine lv_iload_n hx hb dX5_fellOf_56 rfl (lv_at hl 1 rfl) ?_
        exact ro_reti hx hb hr hlk (by rw [ha, show i = gT gs by omega]) dX5_fellOf_57
      · -- 11 False
        have c11 : i < (gT gs) := (Nat.not_le.mp (fun z => c11 ((nI_leI (a := (gT gs)) (b := i) (by omega) (by omega)).mpr z)))
        refine lv_iload_n hx hb dX5_fellOf_14 rfl (lv_at hl 1 rfl) ?_
        refine lv_iload_n hx hb dX5_fellOf_15 rfl (lv_at hl 4 rfl) ?_
        refine lv_iload hx hb dX5_fellOf_16 (lv_at hl 0 rfl) ?_
        refine ro_Si (As := [.int x, .int (nI i)]) (rest := [.int a]) ⟨hx, hb, hml, hown, hts⟩ (c_X5_has l D c x i (by omega)) (va_cwS 2 hts gX5_fellOf_X5_has rfl rfl rfl (by decide +kernel) ⟨Nat.le_of_ble_eq_true rfl, Nat.le_of_ble_eq_true rfl⟩) va_P0 hK rfl hl.1 rfl (Nat.le_of_ble_eq_true rfl) dX5_fellOf_18 ⟨Nat.le_of_ble_eq_true rfl, Nat.le_of_ble_eq_true rfl⟩ ?_
        refine lv_if_eq (tgt := 47) hx hb dX5_fellOf_21 (by decide) (fun c21 => ?_) (fun c21 => ?_)
        · -- 21 True
          have c21 := bI_z.mp c21
          refine lv_iconst (v := 0) hx hb dX5_fellOf_47 (by decide) ?_
          refine lv_ior hx hb dX5_fellOf_48 ?_
          refine lv_istore_n (lv' := [(3, .int (a ||| 0)), (4, .int (nI i)), (0, .ref (z 0)), (1, .int (nI b)), (2, .int x)]) hx hb dX5_fellOf_49 rfl hl (by decide) rfl (fun ls hl => ?_)
          refine lv_iinc (v := nI (i + 1)) (lv' := [(4, .int (nI (i + 1))), (3, .int (a ||| 0)), (0, .ref (z 0)), (1, .int (nI b)), (2, .int x)]) hx hb dX5_fellOf_50 hl (k := 1) rfl (nI_inc _) (by decide) rfl (fun ls hl => ?_)
          refine lv_goto (tgt := 5) hx hb dX5_fellOf_53 (by decide) ?_
          exact ih5 (i + 1) (a ||| 0) (by omega) (by omega) (by rw [ha]; simp [orI, oneE, c21]) ls (lv_sub hl [0, 1, 2, 3, 4] rfl)
        · -- 21 False
          have c21 := bI_nz.mp c21
          refine lv_aload_n hx hb dX5_fellOf_24 rfl (lv_at hl 2 rfl) ?_
          refine va_get (D := D) (ci := 5) (v := .ref (z 8)) (C := RX5) (T := TX5) (N := 19) hx hb hts hin5 hown hK.1 hP 0 rfl rfl 10 (by decide) (hts (.fieldLink RX5 33 "TestPickerModel" "verdicts" "[I") (by decide +kernel)) (fun _ h9 => h9) rfl dX5_fellOf_25 ?_
          refine lv_bipush (v := 20) hx hb dX5_fellOf_28 (by decide) ?_
          refine lv_iload_n hx hb dX5_fellOf_30 rfl (lv_at hl 3 rfl) ?_
          refine lv_imul hx hb dX5_fellOf_31 ?_
          refine lv_iload hx hb dX5_fellOf_32 (lv_at hl 0 rfl) ?_
          refine lv_iadd hx hb dX5_fellOf_34 ?_
          refine tp_i (z := nI (20 * b + i)) (ix20 _ _) ?_
          refine ld_i hx hb hK hP 8 (f := gVe gs) rfl (i := (20 * b + i)) (by omega) (by decide) dX5_fellOf_35 ?_
          refine lv_iconst (v := 1) hx hb dX5_fellOf_36 (by decide) ?_
          refine lv_icmp_ne (tgt := 47) hx hb dX5_fellOf_37 (by decide) (fun c37 => ?_) (fun c37 => ?_)
          · -- 37 True
            refine lv_iconst (v := 0) hx hb dX5_fellOf_47 (by decide) ?_
            refine lv_ior hx hb dX5_fellOf_48 ?_
            refine lv_istore_n (lv' := [(3, .int (a ||| 0)), (4, .int (nI i)), (0, .ref (z 0)), (1, .int (nI b)), (2, .int x)]) hx hb dX5_fellOf_49 rfl hl (by decide) rfl (fun ls hl => ?_)
            refine lv_iinc (v := nI (i + 1)) (lv' := [(4, .int (nI (i + 1))), (3, .int (a ||| 0)), (0, .ref (z 0)), (1, .int (nI b)), (2, .int x)]) hx hb dX5_fellOf_50 hl (k := 1) rfl (nI_inc _) (by decide) rfl (fun ls hl => ?_)
            refine lv_goto (tgt := 5) hx hb dX5_fellOf_53 (by decide) ?_
            exact ih5 (i + 1) (a ||| 0) (by omega) (by omega) (by rw [ha]; simp [orI, oneE, c21, c37]) ls (lv_sub hl [0, 1, 2, 3, 4] rfl)
          · -- 37 False
            refine lv_iconst (v := 1) hx hb dX5_fellOf_40 (by decide) ?_
            refine lv_iload hx hb dX5_fellOf_41 (lv_at hl 0 rfl) ?_
            refine lv_ishl hx hb dX5_fellOf_43 ?_
            refine lv_goto (tgt := 48) hx hb dX5_fellOf_44 (by decide) ?_
            refine lv_ior hx hb dX5_fellOf_48 ?_
            refine lv_istore_n (lv' := [(3, .int (a ||| (1 <<< (nI i &&& 31)))), (4, .int (nI i)), (0, .ref (z 0)), (1, .int (nI b)), (2, .int x)]) hx hb dX5_fellOf_49 rfl hl (by decide) rfl (fun ls hl => ?_)
            refine lv_iinc (v := nI (i + 1)) (lv' := [(4, .int (nI (i + 1))), (3, .int (a ||| (1 <<< (nI i &&& 31)))), (0, .ref (z 0)), (1, .int (nI b)), (2, .int x)]) hx hb dX5_fellOf_50 hl (k := 1) rfl (nI_inc _) (by decide) rfl (fun ls hl => ?_)
            refine lv_goto (tgt := 5) hx hb dX5_fellOf_53 (by decide) ?_
            exact ih5 (i + 1) (a ||| (1 <<< (nI i &&& 31))) (by omega) (by omega) (by rw [ha]; simp [orI, oneE, c21, c37]) ls (lv_sub hl [0, 1, 2, 3, 4] rfl)
  exact L5 (gT gs + 1) 0 0 (by omega) (by omega) (rfl) ls (lv_sub hl [0, 1, 2, 3, 4] rfl)

set_option maxHeartbeats 4000000 in
set_option maxRecDepth 100000 in
theorem c_X5_counting (l : Launch) (D : va_G) (z : Nat → Nat) (c : CT) (gs : GS) (hT : gT gs ≤ 20) (hB60 : gB gs ≤ 60) : ROi l yX5_counting wsX5_counting ({ frames := 2, cells := 0, slots := 0, locals := 52 } : Room) [.ref (z 0)] D c (wG z c gs) (gCo gs) := by
  refine ro_starti (cc := cX5_counting) (maxL := 3) (ret := some .int) (by decide) rfl (Nat.le_of_ble_eq_true rfl) ?_
  intro p e s m args below meth c0 ls hx hb hr hml hown hts hlk hP hK hl
  have hown : s.vm.findClass RX5 = some m.cls := hown
  have hl : lv_has ls 3 [(0, .ref (z 0))] := hl
  have hin5 : ∀ w ∈ wsX50, w ∈ wsX5_counting := by decide +kernel
  refine lv_iconst (v := 0) hx hb dX5_counting_0 (by decide) ?_
  refine lv_istore_n (lv' := [(1, .int 0), (0, .ref (z 0))]) hx hb dX5_counting_1 rfl hl (by decide) rfl (fun ls hl => ?_)
  refine lv_iconst (v := 0) hx hb dX5_counting_2 (by decide) ?_
  refine lv_istore_n (lv' := [(2, .int 0), (1, .int 0), (0, .ref (z 0))]) hx hb dX5_counting_3 rfl hl (by decide) rfl (fun ls hl => ?_)
  have L4 : ∀ (n : Nat) (i : Nat) (a : Int32), (i ≤ gT gs) → (gT gs < i + n) → (a = orI (fun t => !decide (gKd gs t = 3) && !gFk gs t) i) → ∀ ls : Array Slot, lv_has ls 3 [(2, .int (nI i)), (1, .int a), (0, .ref (z 0))] → W p l e ({ frames := 2, cells := 0, slots := 0, locals := 52 } : Room) s m args below meth c0 s.heap [] 0 0 (QRi below args s (gCo gs)) (F0 m 4 ls []) := by
    intro n
    induction n with
    | zero => intro i a hi hn ha ls hl; exact absurd hn (by omega)
    | succ n ih4 =>
      intro i a hi hn ha ls hl
      refine lv_iload_n hx hb dX5_counting_4 rfl (lv_at hl 0 rfl) ?_
      refine lv_aload_n hx hb dX5_counting_5 rfl (lv_at hl 2 rfl) ?_
      refine va_get (D := D) (ci := 5) (v := .int (nI (gT gs))) (C := RX5) (T := TX5) (N := 19) hx hb hts hin5 hown hK.1 hP 0 rfl rfl 2 (by decide) (hts (.fieldLink RX5 52 "TestPickerModel" "tests" "I") (by decide +kernel)) (fun _ h9 => h9) rfl dX5_counting_6 ?_
      refine lv_icmp_ge (tgt := 46) hx hb dX5_counting_9 (by decide) (fun c9 => ?_) (fun c9 => ?_)
      · -- 9 True
        have c9 : (gT gs) ≤ i := (nI_leI (a := (gT gs)) (b := i) (by omega) (by omega)).mp c9
        refine lv_iload_n hx hb dX5_counting_46 rfl (lv_at hl 1 rfl) ?_
        exact ro_reti hx hb hr hlk (by rw [ha, show i = gT gs by omega]) dX5_counting_47
      · -- 9 False
        have c9 : i < (gT gs) := (Nat.not_le.mp (fun z => c9 ((nI_leI (a := (gT gs)) (b := i) (by omega) (by omega)).mpr z)))
        refine lv_iload_n hx hb dX5_counting_12 rfl (lv_at hl 1 rfl) ?_
        refine lv_aload_n hx hb dX5_counting_13 rfl (lv_at hl 2 rfl) ?_
        refine va_get (D := D) (ci := 5) (v := .ref (z 2)) (C := RX5) (T := TX5) (N := 19) hx hb hts hin5 hown hK.1 hP 0 rfl rfl 3 (by decide) (hts (.fieldLink RX5 13 "TestPickerModel" "kinds" "[I") (by decide +kernel)) (fun _ h9 => h9) rfl dX5_counting_14 ?_
        refine lv_iload_n hx hb dX5_counting_17 rfl (lv_at hl 0 rfl) ?_
        refine ld_i hx hb hK hP 2 (f := gKd gs) rfl (i := i) (by omega) (by decide) dX5_counting_18 ?_
        refine lv_iconst (v := 3) hx hb dX5_counting_19 (by decide) ?_
        refine lv_icmp_eq (tgt := 37) hx hb dX5_counting_20 (by decide) (fun c20 => ?_) (fun c20 => ?_)
        · -- 20 True
          refine lv_iconst (v := 0) hx hb dX5_counting_37 (by decide) ?_
          refine lv_ior hx hb dX5_counting_38 ?_
          refine lv_istore_n (lv' := [(1, .int (a ||| 0)), (2, .int (nI i)), (0, .ref (z 0))]) hx hb dX5_counting_39 rfl hl (by decide) rfl (fun ls hl => ?_)
          refine lv_iinc (v := nI (i + 1)) (lv' := [(2, .int (nI (i + 1))), (1, .int (a ||| 0)), (0, .ref (z 0))]) hx hb dX5_counting_40 hl (k := 1) rfl (nI_inc _) (by decide) rfl (fun ls hl => ?_)
          refine lv_goto (tgt := 4) hx hb dX5_counting_43 (by decide) ?_
          exact ih4 (i + 1) (a ||| 0) (by omega) (by omega) (by rw [ha]; simp [orI, oneE, c20]) ls (lv_sub hl [0, 1, 2] rfl)
        · -- 20 False
          refine lv_aload_n hx hb dX5_counting_23 rfl (lv_at hl 2 rfl) ?_
          refine lv_iload_n hx hb dX5_counting_24 rfl (lv_at hl 0 rfl) ?_
          refine ro_Vi (As := [.int (nI i)]) (rest := [.int a]) ⟨hx, hb, hml, hown, hts⟩ (c_X5_isFlaky l D z c gs i (by omega) (by omega)) (cwV 1 hts gX5_counting_X5_isFlaky rfl rfl rfl (by decide +kernel) ⟨Nat.le_of_ble_eq_true rfl, Nat.le_of_ble_eq_true rfl⟩) hP hK (va_recv hK.1 hP (ci := 5) (q0 := 0) rfl rfl) rfl hl.1 rfl (Nat.le_of_ble_eq_true rfl) dX5_counting_25 ⟨Nat.le_of_ble_eq_true rfl, Nat.le_of_ble_eq_true rfl⟩ ?_
          refine lv_if_ne (tgt := 37) hx hb dX5_counting_28 (by decide) (fun c28 => ?_) (fun c28 => ?_)
          · -- 28 True
            have c28 := bI_nz.mp c28
            refine lv_iconst (v := 0) hx hb dX5_counting_37 (by decide) ?_
            refine lv_ior hx hb dX5_counting_38 ?_
            refine lv_istore_n (lv' := [(1, .int (a ||| 0)), (2, .int (nI i)), (0, .ref (z 0))]) hx hb dX5_counting_39 rfl hl (by decide) rfl (fun ls hl => ?_)
            refine lv_iinc (v := nI (i + 1)) (lv' := [(2, .int (nI (i + 1))), (1, .int (a ||| 0)), (0, .ref (z 0))]) hx hb dX5_counting_40 hl (k := 1) rfl (nI_inc _) (by decide) rfl (fun ls hl => ?_)
            refine lv_goto (tgt := 4) hx hb dX5_counting_43 (by decide) ?_
            exact ih4 (i + 1) (a ||| 0) (by omega) (by omega) (by rw [ha]; simp [orI, oneE, c20, c28]) ls (lv_sub hl [0, 1, 2] rfl)
          · -- 28 False
            have c28 := bI_z.mp c28
            refine lv_iconst (v := 1) hx hb dX5_counting_31 (by decide) ?_
            refine lv_iload_n hx hb dX5_counting_32 rfl (lv_at hl 0 rfl) ?_
            refine lv_ishl hx hb dX5_counting_33 ?_
            refine lv_goto (tgt := 38) hx hb dX5_counting_34 (by decide) ?_
            refine lv_ior hx hb dX5_counting_38 ?_
            refine lv_istore_n (lv' := [(1, .int (a ||| (1 <<< (nI i &&& 31)))), (2, .int (nI i)), (0, .ref (z 0))]) hx hb dX5_counting_39 rfl hl (by decide) rfl (fun ls hl => ?_)
            refine lv_iinc (v := nI (i + 1)) (lv' := [(2, .int (nI (i + 1))), (1, .int (a ||| (1 <<< (nI i &&& 31)))), (0, .ref (z 0))]) hx hb dX5_counting_40 hl (k := 1) rfl (nI_inc _) (by decide) rfl (fun ls hl => ?_)
            refine lv_goto (tgt := 4) hx hb dX5_counting_43 (by decide) ?_
            exact ih4 (i + 1) (a ||| (1 <<< (nI i &&& 31))) (by omega) (by omega) (by rw [ha]; simp [orI, oneE, c20, c28]) ls (lv_sub hl [0, 1, 2] rfl)
  exact L4 (gT gs + 1) 0 0 (by omega) (by omega) (rfl) ls (lv_sub hl [0, 1, 2] rfl)
end
section
/-! the class's readers -/
abbrev cV (hs : HS) (t : Nat) : Nat → Int32 := fun b => vIn (hFe hs) (hPs hs) t b
abbrev cFk (ts : TS) (hs : HS) (t : Nat) : Bool := flk (hCg hs) (cV hs t) (tPa ts t) (hB hs)
abbrev cBar (ts : TS) : Int32 := orI (fun t => decide (tKd ts t = 3) || !decide (tTn ts t = 0)) (tT ts)
abbrev cPk (ts : TS) : Int32 := orI (fun t => decide (tCh ts t &&& cBar ts = 0)) (tT ts)
abbrev cWit (ts : TS) (hs : HS) : Int32 := orI (fun t => !decide (tKd ts t = 3) && !decide (hFe hs t = 0) && !cFk ts hs t) (tT ts)
def vAll (hs : HS) : Nat → Int32
  | 0 => 0
  | t + 1 => vAll hs t + (popL (hFe hs t) + popL (hPs hs t))
def wdr (ss : SS) (p : Nat) : Bool := decide (0 < popL (sVf ss p) - popL (sFc ss)) || (decide (popL (sVf ss p) - popL (sFc ss) = 0) && decide (sTf ss p < sFt ss))
def cTl (ts : TS) (hs : HS) (t : Nat) (w : Int32) : Int32 :=
  if w = 0 then tKd ts t else if w = 1 then cTm (tKd ts) (tOt ts) t else if w = 2 then tNd ts t else if w = 3 then htC (hFe hs t) (hB hs) else if w = 4 then bI (cFk ts hs t) else if w = 5 then bI (decide (hPs hs t < hFe hs t) && !cFk ts hs t) else popI (tCh ts t)
def dgF (f : Nat → Int32) (h : Int64) : Nat → Int64
  | 0 => h
  | n + 1 => 31 * dgF f h n + (f n).toInt64
def dgT (ts : TS) (hs : HS) (h : Int64) (t : Nat) : Int64 :=
  if tTn ts t = 0 then dgF (fun i => byB (tPa ts t) i) (dgF (fun w => cTl ts hs t (nI w)) h 7) 5 else 31 * dgF (fun w => cTl ts hs t (nI w)) h 7 - 1
/-- the worthiest so far: number, gain, cost -/
def wrS (ts : TS) (hs : HS) (ps : PS) (x lf : Int32) : Nat → Int32 × Int64 × Int64
  | 0 => (-9, 0, 1)
  | t + 1 => if bt x t then (if lf.toInt64 < (tmS (tKd ts) (tOt ts) (tCh ts t &&& (pBits ps ^^^ (-1))) (tT ts)).toInt64 then wrS ts hs ps x lf t else
      if ((popL (paS (tPa ts) (tCh ts t &&& (pBits ps ^^^ (-1))) (tT ts) &&& pChg ps &&& (pSeen ps ^^^ (-1)))).toInt64 * (16 + htC (hFe hs t) (hB hs)).toInt64) * (wrS ts hs ps x lf t).2.2 ≤ (wrS ts hs ps x lf t).2.1 * (tmS (tKd ts) (tOt ts) (tCh ts t &&& (pBits ps ^^^ (-1))) (tT ts)).toInt64 then wrS ts hs ps x lf t else
      (nI t, (popL (paS (tPa ts) (tCh ts t &&& (pBits ps ^^^ (-1))) (tT ts) &&& pChg ps &&& (pSeen ps ^^^ (-1)))).toInt64 * (16 + htC (hFe hs t) (hB hs)).toInt64, (tmS (tKd ts) (tOt ts) (tCh ts t &&& (pBits ps ^^^ (-1))) (tT ts)).toInt64)) else wrS ts hs ps x lf t
theorem vIn_neg (fe ps : Nat → Int64) (t b : Nat) : vIn fe ps t b < 0 ↔ vIn fe ps t b = -9 := by
  unfold vIn
  cases bl (fe t) b <;> cases bl (ps t) b <;> decide
theorem zand_or (a b r : Int64) : ((a ||| b) &&& r = 0) ↔ (a &&& r = 0 ∧ b &&& r = 0) := by
  constructor
  · intro h
    have hb : ∀ i, bl ((a ||| b) &&& r) i = false := fun i => by rw [h, l_0]
    constructor <;> apply l_ext <;> intro i hi <;> have := hb i <;> rw [l_and, l_or] at this <;> rw [l_and, l_0] <;> revert this <;> cases bl a i <;> cases bl b i <;> cases bl r i <;> simp
  · intro h
    apply l_ext
    intro i hi
    have h1 : bl (a &&& r) i = false := by rw [h.1, l_0]
    have h2 : bl (b &&& r) i = false := by rw [h.2, l_0]
    rw [l_and] at h1 h2
    rw [l_and, l_or, l_0]
    revert h1 h2
    cases bl a i <;> cases bl b i <;> cases bl r i <;> simp
theorem touch (a b r : Int64) : (!decide ((a ||| b) &&& r = 0)) = ((!decide (a &&& r = 0)) || !decide (b &&& r = 0)) := by
  have h := zand_or a b r
  by_cases h1 : a &&& r = 0 <;> by_cases h2 : b &&& r = 0 <;> simp [h, h1, h2]
theorem lOr0 (x : Int64) : x ||| 0 = x := l_ext fun i _ => by rw [l_or, l_0, Bool.or_false]
theorem lAnd0 (x : Int64) : 0 &&& x = 0 := l_ext fun i _ => by rw [l_and, l_0, Bool.false_and]
end
section
section WV
variable {cg : Nat → Int64} {fe ps : Nat → Int64} {t b B : Nat} {r chg : Int64} {la : Int32}
theorem wv_none (hf : flS cg (fun b => vIn fe ps t b) r b = (la, !decide (chg &&& r = 0), false)) (h : vIn fe ps t b = -9) : flS cg (fun b => vIn fe ps t b) r (b + 1) = (la, !decide ((chg ||| cg b) &&& r = 0), false) := by
  have h2 : vIn fe ps t b < 0 := (vIn_neg fe ps t b).mpr h
  rw [flS, if_pos h2, hf, touch]
theorem wv_seen (hf : flS cg (fun b => vIn fe ps t b) r b = (la, !decide (chg &&& r = 0), false)) (h : ¬ vIn fe ps t b = -9) (h3 : la < 0 ∨ la = vIn fe ps t b ∨ ¬ (chg ||| cg b) &&& r = 0) : flS cg (fun b => vIn fe ps t b) r (b + 1) = (vIn fe ps t b, !decide ((0 : Int64) &&& r = 0), false) := by
  have h2 : ¬ vIn fe ps t b < 0 := fun z => h ((vIn_neg fe ps t b).mp z)
  rw [flS, if_neg h2, hf]
  have ht := touch chg (cg b) r
  simp only [Prod.mk.injEq, true_and]
  refine ⟨by simp [lAnd0], ?_⟩
  rw [← ht]
  rcases h3 with h3 | h3 | h3 <;> simp [h3]
theorem wv_true (hf : flS cg (fun b => vIn fe ps t b) r b = (la, !decide (chg &&& r = 0), false)) (hb : b < B) (h : ¬ vIn fe ps t b = -9) (h1 : ¬ la < 0) (h3 : ¬ la = vIn fe ps t b) (h4 : (chg ||| cg b) &&& r = 0) : flk cg (fun b => vIn fe ps t b) r B = true := by
  have h2 : ¬ vIn fe ps t b < 0 := fun z => h ((vIn_neg fe ps t b).mp z)
  have e : (flS cg (fun b => vIn fe ps t b) r (b + 1)).2.2 = true := by
    rw [flS, if_neg h2, hf]
    show (false || (!decide (la < 0) && !decide (la = vIn fe ps t b) && !((!decide (chg &&& r = 0)) || !decide (cg b &&& r = 0)))) = true
    rw [← touch, h4]
    simp [h1, h3]
  have := flS_mono e (B - (b + 1))
  rw [show b + 1 + (B - (b + 1)) = B by omega] at this
  exact this
end WV
set_option maxHeartbeats 4000000 in
set_option maxRecDepth 100000 in
theorem c_J13_bitCount_95d88 (l : Launch) (D : va_G) (c : CT) (x : Int64)  : ROi l yJ13_bitCount_95d88 wsJ13_bitCount_95d88 ({ frames := 0, cells := 0, slots := 0, locals := 0 } : Room) [.long x] D c ([]) (popL x) := by
  refine ro_starti (cc := cJ13_bitCount_95d88) (maxL := 2) (ret := some .int) (by decide) rfl (Nat.le_of_ble_eq_true rfl) ?_
  intro p e s m args below meth c0 ls hx hb hr hml hown hts hlk hP hK hl
  have hown : s.vm.findClass RJ13 = some m.cls := hown
  have hl : lv_has ls 2 [(0, .long x)] := hl
  refine lv_lload_n hx hb dJ13_bitCount_95d88_0 rfl (lv_at hl 0 rfl) ?_
  refine lv_lload_n hx hb dJ13_bitCount_95d88_1 rfl (lv_at hl 0 rfl) ?_
  refine lv_iconst (v := 1) hx hb dJ13_bitCount_95d88_2 (by decide) ?_
  refine lv_lushr (v := (x.toUInt64 >>> ((1 : Int32).toInt64.toUInt64 &&& Int64.toUInt64 63)).toInt64) hx hb dJ13_bitCount_95d88_3 rfl ?_
  refine lv_ldc2 (own := RJ13) (v := (6148914691236517205)) hx hb hown (hts (.constantLong RJ13 314 (6148914691236517205)) (by decide +kernel)) dJ13_bitCount_95d88_4 ?_
  refine lv_land hx hb dJ13_bitCount_95d88_7 ?_
  refine lv_lsub hx hb dJ13_bitCount_95d88_8 ?_
  refine lv_topl (fun va eva => ?_)
  refine lv_lstore_n (lv' := [(0, .long va)]) hx hb dJ13_bitCount_95d88_9 rfl hl (by decide) rfl (fun ls hl => ?_)
  refine lv_lload_n hx hb dJ13_bitCount_95d88_10 rfl (lv_at hl 0 rfl) ?_
  refine lv_ldc2 (own := RJ13) (v := (3689348814741910323)) hx hb hown (hts (.constantLong RJ13 316 (3689348814741910323)) (by decide +kernel)) dJ13_bitCount_95d88_11 ?_
  refine lv_land hx hb dJ13_bitCount_95d88_14 ?_
  refine lv_lload_n hx hb dJ13_bitCount_95d88_15 rfl (lv_at hl 0 rfl) ?_
  refine lv_iconst (v := 2) hx hb dJ13_bitCount_95d88_16 (by decide) ?_
  refine lv_lushr (v := (va.toUInt64 >>> ((2 : Int32).toInt64.toUInt64 &&& Int64.toUInt64 63)).toInt64) hx hb dJ13_bitCount_95d88_17 rfl ?_
  refine lv_ldc2 (own := RJ13) (v := (3689348814741910323)) hx hb hown (hts (.constantLong RJ13 316 (3689348814741910323)) (by decide +kernel)) dJ13_bitCount_95d88_18 ?_
  refine lv_land hx hb dJ13_bitCount_95d88_21 ?_
  refine lv_ladd hx hb dJ13_bitCount_95d88_22 ?_
  refine lv_topl (fun vb evb => ?_)
  refine lv_lstore_n (lv' := [(0, .long vb)]) hx hb dJ13_bitCount_95d88_23 rfl hl (by decide) rfl (fun ls hl => ?_)
  refine lv_lload_n hx hb dJ13_bitCount_95d88_24 rfl (lv_at hl 0 rfl) ?_
  refine lv_lload_n hx hb dJ13_bitCount_95d88_25 rfl (lv_at hl 0 rfl) ?_
  refine lv_iconst (v := 4) hx hb dJ13_bitCount_95d88_26 (by decide) ?_
  refine lv_lushr (v := (vb.toUInt64 >>> ((4 : Int32).toInt64.toUInt64 &&& Int64.toUInt64 63)).toInt64) hx hb dJ13_bitCount_95d88_27 rfl ?_
  refine lv_ladd hx hb dJ13_bitCount_95d88_28 ?_
  refine lv_ldc2 (own := RJ13) (v := (1085102592571150095)) hx hb hown (hts (.constantLong RJ13 318 (1085102592571150095)) (by decide +kernel)) dJ13_bitCount_95d88_29 ?_
  refine lv_land hx hb dJ13_bitCount_95d88_32 ?_
  refine lv_topl (fun vc evc => ?_)
  refine lv_lstore_n (lv' := [(0, .long vc)]) hx hb dJ13_bitCount_95d88_33 rfl hl (by decide) rfl (fun ls hl => ?_)
  refine lv_lload_n hx hb dJ13_bitCount_95d88_34 rfl (lv_at hl 0 rfl) ?_
  refine lv_lload_n hx hb dJ13_bitCount_95d88_35 rfl (lv_at hl 0 rfl) ?_
  refine lv_bipush (v := 8) hx hb dJ13_bitCount_95d88_36 (by decide) ?_
  refine lv_lushr (v := (vc.toUInt64 >>> ((8 : Int32).toInt64.toUInt64 &&& Int64.toUInt64 63)).toInt64) hx hb dJ13_bitCount_95d88_38 rfl ?_
  refine lv_ladd hx hb dJ13_bitCount_95d88_39 ?_
  refine lv_topl (fun vd evd => ?_)
  refine lv_lstore_n (lv' := [(0, .long vd)]) hx hb dJ13_bitCount_95d88_40 rfl hl (by decide) rfl (fun ls hl => ?_)
  refine lv_lload_n hx hb dJ13_bitCount_95d88_41 rfl (lv_at hl 0 rfl) ?_
  refine lv_lload_n hx hb dJ13_bitCount_95d88_42 rfl (lv_at hl 0 rfl) ?_
  refine lv_bipush (v := 16) hx hb dJ13_bitCount_95d88_43 (by decide) ?_
  refine lv_lushr (v := (vd.toUInt64 >>> ((16 : Int32).toInt64.toUInt64 &&& Int64.toUInt64 63)).toInt64) hx hb dJ13_bitCount_95d88_45 rfl ?_
  refine lv_ladd hx hb dJ13_bitCount_95d88_46 ?_
  refine lv_topl (fun ve eve => ?_)
  refine lv_lstore_n (lv' := [(0, .long ve)]) hx hb dJ13_bitCount_95d88_47 rfl hl (by decide) rfl (fun ls hl => ?_)
  refine lv_lload_n hx hb dJ13_bitCount_95d88_48 rfl (lv_at hl 0 rfl) ?_
  refine lv_lload_n hx hb dJ13_bitCount_95d88_49 rfl (lv_at hl 0 rfl) ?_
  refine lv_bipush (v := 32) hx hb dJ13_bitCount_95d88_50 (by decide) ?_
  refine lv_lushr (v := (ve.toUInt64 >>> ((32 : Int32).toInt64.toUInt64 &&& Int64.toUInt64 63)).toInt64) hx hb dJ13_bitCount_95d88_52 rfl ?_
  refine lv_ladd hx hb dJ13_bitCount_95d88_53 ?_
  refine lv_topl (fun vf evf => ?_)
  refine lv_lstore_n (lv' := [(0, .long vf)]) hx hb dJ13_bitCount_95d88_54 rfl hl (by decide) rfl (fun ls hl => ?_)
  refine lv_lload_n hx hb dJ13_bitCount_95d88_55 rfl (lv_at hl 0 rfl) ?_
  refine lv_l2i (v := vf.toInt32) hx hb dJ13_bitCount_95d88_56 rfl ?_
  refine lv_bipush (v := 127) hx hb dJ13_bitCount_95d88_57 (by decide) ?_
  refine lv_iand hx hb dJ13_bitCount_95d88_59 ?_
  exact ro_reti hx hb hr hlk (by rw [← swL_pop, evf, eve, evd, evc, evb, eva]; rfl) dJ13_bitCount_95d88_60

set_option maxHeartbeats 4000000 in
set_option maxRecDepth 100000 in
theorem c_J6_bitCount_0f7a4 (l : Launch) (D : va_G) (c : CT) (x : Int32)  : ROi l yJ6_bitCount_0f7a4 wsJ6_bitCount_0f7a4 ({ frames := 0, cells := 0, slots := 0, locals := 0 } : Room) [.int x] D c ([]) (popI x) := by
  refine ro_starti (cc := cJ6_bitCount_0f7a4) (maxL := 1) (ret := some .int) (by decide) rfl (Nat.le_of_ble_eq_true rfl) ?_
  intro p e s m args below meth c0 ls hx hb hr hml hown hts hlk hP hK hl
  have hown : s.vm.findClass RJ6 = some m.cls := hown
  have hl : lv_has ls 1 [(0, .int x)] := hl
  refine lv_iload_n hx hb dJ6_bitCount_0f7a4_0 rfl (lv_at hl 0 rfl) ?_
  refine lv_iload_n hx hb dJ6_bitCount_0f7a4_1 rfl (lv_at hl 0 rfl) ?_
  refine lv_iconst (v := 1) hx hb dJ6_bitCount_0f7a4_2 (by decide) ?_
  refine lv_iushr (v := (x.toUInt32 >>> ((1 : Int32).toUInt32 &&& Int32.toUInt32 31)).toInt32) hx hb dJ6_bitCount_0f7a4_3 rfl ?_
  refine lv_ldcw (own := RJ6) (v := (1431655765)) hx hb hown (hts (.constant RJ6 265 (1431655765)) (by decide +kernel)) dJ6_bitCount_0f7a4_4 ?_
  refine lv_iand hx hb dJ6_bitCount_0f7a4_7 ?_
  refine lv_isub hx hb dJ6_bitCount_0f7a4_8 ?_
  refine lv_topi (fun va eva => ?_)
  refine lv_istore_n (lv' := [(0, .int va)]) hx hb dJ6_bitCount_0f7a4_9 rfl hl (by decide) rfl (fun ls hl => ?_)
  refine lv_iload_n hx hb dJ6_bitCount_0f7a4_10 rfl (lv_at hl 0 rfl) ?_
  refine lv_ldcw (own := RJ6) (v := (858993459)) hx hb hown (hts (.constant RJ6 266 (858993459)) (by decide +kernel)) dJ6_bitCount_0f7a4_11 ?_
  refine lv_iand hx hb dJ6_bitCount_0f7a4_14 ?_
  refine lv_iload_n hx hb dJ6_bitCount_0f7a4_15 rfl (lv_at hl 0 rfl) ?_
  refine lv_iconst (v := 2) hx hb dJ6_bitCount_0f7a4_16 (by decide) ?_
  refine lv_iushr (v := (va.toUInt32 >>> ((2 : Int32).toUInt32 &&& Int32.toUInt32 31)).toInt32) hx hb dJ6_bitCount_0f7a4_17 rfl ?_
  refine lv_ldcw (own := RJ6) (v := (858993459)) hx hb hown (hts (.constant RJ6 266 (858993459)) (by decide +kernel)) dJ6_bitCount_0f7a4_18 ?_
  refine lv_iand hx hb dJ6_bitCount_0f7a4_21 ?_
  refine lv_iadd hx hb dJ6_bitCount_0f7a4_22 ?_
  refine lv_topi (fun vb evb => ?_)
  refine lv_istore_n (lv' := [(0, .int vb)]) hx hb dJ6_bitCount_0f7a4_23 rfl hl (by decide) rfl (fun ls hl => ?_)
  refine lv_iload_n hx hb dJ6_bitCount_0f7a4_24 rfl (lv_at hl 0 rfl) ?_
  refine lv_iload_n hx hb dJ6_bitCount_0f7a4_25 rfl (lv_at hl 0 rfl) ?_
  refine lv_iconst (v := 4) hx hb dJ6_bitCount_0f7a4_26 (by decide) ?_
  refine lv_iushr (v := (vb.toUInt32 >>> ((4 : Int32).toUInt32 &&& Int32.toUInt32 31)).toInt32) hx hb dJ6_bitCount_0f7a4_27 rfl ?_
  refine lv_iadd hx hb dJ6_bitCount_0f7a4_28 ?_
  refine lv_ldcw (own := RJ6) (v := (252645135)) hx hb hown (hts (.constant RJ6 267 (252645135)) (by decide +kernel)) dJ6_bitCount_0f7a4_29 ?_
  refine lv_iand hx hb dJ6_bitCount_0f7a4_32 ?_
  refine lv_topi (fun vc evc => ?_)
  refine lv_istore_n (lv' := [(0, .int vc)]) hx hb dJ6_bitCount_0f7a4_33 rfl hl (by decide) rfl (fun ls hl => ?_)
  refine lv_iload_n hx hb dJ6_bitCount_0f7a4_34 rfl (lv_at hl 0 rfl) ?_
  refine lv_iload_n hx hb dJ6_bitCount_0f7a4_35 rfl (lv_at hl 0 rfl) ?_
  refine lv_bipush (v := 8) hx hb dJ6_bitCount_0f7a4_36 (by decide) ?_
  refine lv_iushr (v := (vc.toUInt32 >>> ((8 : Int32).toUInt32 &&& Int32.toUInt32 31)).toInt32) hx hb dJ6_bitCount_0f7a4_38 rfl ?_
  refine lv_iadd hx hb dJ6_bitCount_0f7a4_39 ?_
  refine lv_topi (fun vd evd => ?_)
  refine lv_istore_n (lv' := [(0, .int vd)]) hx hb dJ6_bitCount_0f7a4_40 rfl hl (by decide) rfl (fun ls hl => ?_)
  refine lv_iload_n hx hb dJ6_bitCount_0f7a4_41 rfl (lv_at hl 0 rfl) ?_
  refine lv_iload_n hx hb dJ6_bitCount_0f7a4_42 rfl (lv_at hl 0 rfl) ?_
  refine lv_bipush (v := 16) hx hb dJ6_bitCount_0f7a4_43 (by decide) ?_
  refine lv_iushr (v := (vd.toUInt32 >>> ((16 : Int32).toUInt32 &&& Int32.toUInt32 31)).toInt32) hx hb dJ6_bitCount_0f7a4_45 rfl ?_
  refine lv_iadd hx hb dJ6_bitCount_0f7a4_46 ?_
  refine lv_topi (fun ve eve => ?_)
  refine lv_istore_n (lv' := [(0, .int ve)]) hx hb dJ6_bitCount_0f7a4_47 rfl hl (by decide) rfl (fun ls hl => ?_)
  refine lv_iload_n hx hb dJ6_bitCount_0f7a4_48 rfl (lv_at hl 0 rfl) ?_
  refine lv_bipush (v := 63) hx hb dJ6_bitCount_0f7a4_49 (by decide) ?_
  refine lv_iand hx hb dJ6_bitCount_0f7a4_51 ?_
  exact ro_reti hx hb hr hlk (by rw [← swI_pop, eve, evd, evc, evb, eva]; rfl) dJ6_bitCount_0f7a4_52

set_option maxHeartbeats 4000000 in
set_option maxRecDepth 100000 in
theorem c_J6_numberOfTrailingZeros_0f7a4 (l : Launch) (D : va_G) (c : CT) (x : Int32)  : ROi l yJ6_numberOfTrailingZeros_0f7a4 wsJ6_numberOfTrailingZeros_0f7a4 ({ frames := 0, cells := 0, slots := 0, locals := 0 } : Room) [.int x] D c ([]) (tzI x) := by
  refine ro_starti (cc := cJ6_numberOfTrailingZeros_0f7a4) (maxL := 2) (ret := some .int) (by decide) rfl (Nat.le_of_ble_eq_true rfl) ?_
  intro p e s m args below meth c0 ls hx hb hr hml hown hts hlk hP hK hl
  have hown : s.vm.findClass RJ6 = some m.cls := hown
  have hl : lv_has ls 2 [(0, .int x)] := hl
  refine lv_iload_n hx hb dJ6_numberOfTrailingZeros_0f7a4_0 rfl (lv_at hl 0 rfl) ?_
  refine lv_iconst (v := (-1)) hx hb dJ6_numberOfTrailingZeros_0f7a4_1 (by decide) ?_
  refine lv_ixor hx hb dJ6_numberOfTrailingZeros_0f7a4_2 ?_
  refine lv_iload_n hx hb dJ6_numberOfTrailingZeros_0f7a4_3 rfl (lv_at hl 0 rfl) ?_
  refine lv_iconst (v := 1) hx hb dJ6_numberOfTrailingZeros_0f7a4_4 (by decide) ?_
  refine lv_isub hx hb dJ6_numberOfTrailingZeros_0f7a4_5 ?_
  refine lv_iand hx hb dJ6_numberOfTrailingZeros_0f7a4_6 ?_
  refine lv_topi (fun vm evm => ?_)
  refine lv_istore_n (lv' := [(0, .int vm)]) hx hb dJ6_numberOfTrailingZeros_0f7a4_7 rfl hl (by decide) rfl (fun ls hl => ?_)
  refine lv_iload_n hx hb dJ6_numberOfTrailingZeros_0f7a4_8 rfl (lv_at hl 0 rfl) ?_
  refine lv_if_gt (tgt := 17) hx hb dJ6_numberOfTrailingZeros_0f7a4_9 (by decide) (fun c9 => ?_) (fun c9 => ?_)
  · -- 9 True
    refine lv_iconst (v := 1) hx hb dJ6_numberOfTrailingZeros_0f7a4_17 (by decide) ?_
    refine lv_istore_n (lv' := [(1, .int 1), (0, .int vm)]) hx hb dJ6_numberOfTrailingZeros_0f7a4_18 rfl hl (by decide) rfl (fun ls hl => ?_)
    refine lv_iload_n hx hb dJ6_numberOfTrailingZeros_0f7a4_19 rfl (lv_at hl 1 rfl) ?_
    refine lv_ldcw (own := RJ6) (v := (65536)) hx hb hown (hts (.constant RJ6 264 (65536)) (by decide +kernel)) dJ6_numberOfTrailingZeros_0f7a4_20 ?_
    refine lv_icmp_le (tgt := 34) hx hb dJ6_numberOfTrailingZeros_0f7a4_23 (by decide) (fun c23 => ?_) (fun c23 => ?_)
    · -- 23 True
      refine lv_iload_n hx hb dJ6_numberOfTrailingZeros_0f7a4_34 rfl (lv_at hl 1 rfl) ?_
      refine lv_sipush (v := 256) hx hb dJ6_numberOfTrailingZeros_0f7a4_35 (by decide) ?_
      refine lv_icmp_le (tgt := 49) hx hb dJ6_numberOfTrailingZeros_0f7a4_38 (by decide) (fun c38 => ?_) (fun c38 => ?_)
      · -- 38 True
        refine lv_iload_n hx hb dJ6_numberOfTrailingZeros_0f7a4_49 rfl (lv_at hl 1 rfl) ?_
        refine lv_bipush (v := 16) hx hb dJ6_numberOfTrailingZeros_0f7a4_50 (by decide) ?_
        refine lv_icmp_le (tgt := 62) hx hb dJ6_numberOfTrailingZeros_0f7a4_52 (by decide) (fun c52 => ?_) (fun c52 => ?_)
        · -- 52 True
          refine lv_iload_n hx hb dJ6_numberOfTrailingZeros_0f7a4_62 rfl (lv_at hl 1 rfl) ?_
          refine lv_iconst (v := 4) hx hb dJ6_numberOfTrailingZeros_0f7a4_63 (by decide) ?_
          refine lv_icmp_le (tgt := 74) hx hb dJ6_numberOfTrailingZeros_0f7a4_64 (by decide) (fun c64 => ?_) (fun c64 => ?_)
          · -- 64 True
            refine lv_iload_n hx hb dJ6_numberOfTrailingZeros_0f7a4_74 rfl (lv_at hl 0 rfl) ?_
            refine lv_iload_n hx hb dJ6_numberOfTrailingZeros_0f7a4_75 rfl (lv_at hl 1 rfl) ?_
            refine lv_iconst (v := 1) hx hb dJ6_numberOfTrailingZeros_0f7a4_76 (by decide) ?_
            refine lv_iushr (v := (vm.toUInt32 >>> ((1 : Int32).toUInt32 &&& Int32.toUInt32 31)).toInt32) hx hb dJ6_numberOfTrailingZeros_0f7a4_77 rfl ?_
            refine lv_iadd hx hb dJ6_numberOfTrailingZeros_0f7a4_78 ?_
            exact ro_reti hx hb hr hlk (by rw [tzI, ← evm, if_pos c9]; have t0 : tz1 vm 65536 16 = vm := if_pos c23; have t1 : tz1 vm 256 8 = vm := if_pos c38; have t2 : tz1 vm 16 4 = vm := if_pos c52; have t3 : tz1 vm 4 2 = vm := if_pos c64; simp only [t0, t1, t2, t3, c23, c38, c52, c64, if_true, if_false, Int32.add_zero]) dJ6_numberOfTrailingZeros_0f7a4_79
          · -- 64 False
            refine lv_iinc (v := (1 + 2)) (lv' := [(1, .int (1 + 2)), (0, .int vm)]) hx hb dJ6_numberOfTrailingZeros_0f7a4_67 hl (k := 0) rfl (rfl) (by decide) rfl (fun ls hl => ?_)
            refine lv_iload_n hx hb dJ6_numberOfTrailingZeros_0f7a4_70 rfl (lv_at hl 1 rfl) ?_
            refine lv_iconst (v := 2) hx hb dJ6_numberOfTrailingZeros_0f7a4_71 (by decide) ?_
            refine lv_iushr (v := (vm.toUInt32 >>> ((2 : Int32).toUInt32 &&& Int32.toUInt32 31)).toInt32) hx hb dJ6_numberOfTrailingZeros_0f7a4_72 rfl ?_
            refine lv_topi (fun w3 ew3 => ?_)
            refine lv_istore_n (lv' := [(0, .int w3), (1, .int (1 + 2))]) hx hb dJ6_numberOfTrailingZeros_0f7a4_73 rfl hl (by decide) rfl (fun ls hl => ?_)
            refine lv_iload_n hx hb dJ6_numberOfTrailingZeros_0f7a4_74 rfl (lv_at hl 1 rfl) ?_
            refine lv_iload_n hx hb dJ6_numberOfTrailingZeros_0f7a4_75 rfl (lv_at hl 0 rfl) ?_
            refine lv_iconst (v := 1) hx hb dJ6_numberOfTrailingZeros_0f7a4_76 (by decide) ?_
            refine lv_iushr (v := (w3.toUInt32 >>> ((1 : Int32).toUInt32 &&& Int32.toUInt32 31)).toInt32) hx hb dJ6_numberOfTrailingZeros_0f7a4_77 rfl ?_
            refine lv_iadd hx hb dJ6_numberOfTrailingZeros_0f7a4_78 ?_
            exact ro_reti hx hb hr hlk (by rw [tzI, ← evm, if_pos c9]; have t0 : tz1 vm 65536 16 = vm := if_pos c23; have t1 : tz1 vm 256 8 = vm := if_pos c38; have t2 : tz1 vm 16 4 = vm := if_pos c52; have t3 : tz1 vm 4 2 = w3 := (if_neg c64).trans ew3.symm; simp only [t0, t1, t2, t3, c23, c38, c52, c64, if_true, if_false, Int32.add_zero]) dJ6_numberOfTrailingZeros_0f7a4_79
        · -- 52 False
          refine lv_iinc (v := (1 + 4)) (lv' := [(1, .int (1 + 4)), (0, .int vm)]) hx hb dJ6_numberOfTrailingZeros_0f7a4_55 hl (k := 0) rfl (rfl) (by decide) rfl (fun ls hl => ?_)
          refine lv_iload_n hx hb dJ6_numberOfTrailingZeros_0f7a4_58 rfl (lv_at hl 1 rfl) ?_
          refine lv_iconst (v := 4) hx hb dJ6_numberOfTrailingZeros_0f7a4_59 (by decide) ?_
          refine lv_iushr (v := (vm.toUInt32 >>> ((4 : Int32).toUInt32 &&& Int32.toUInt32 31)).toInt32) hx hb dJ6_numberOfTrailingZeros_0f7a4_60 rfl ?_
          refine lv_topi (fun w2 ew2 => ?_)
          refine lv_istore_n (lv' := [(0, .int w2), (1, .int (1 + 4))]) hx hb dJ6_numberOfTrailingZeros_0f7a4_61 rfl hl (by decide) rfl (fun ls hl => ?_)
          refine lv_iload_n hx hb dJ6_numberOfTrailingZeros_0f7a4_62 rfl (lv_at hl 0 rfl) ?_
          refine lv_iconst (v := 4) hx hb dJ6_numberOfTrailingZeros_0f7a4_63 (by decide) ?_
          refine lv_icmp_le (tgt := 74) hx hb dJ6_numberOfTrailingZeros_0f7a4_64 (by decide) (fun c64 => ?_) (fun c64 => ?_)
          · -- 64 True
            refine lv_iload_n hx hb dJ6_numberOfTrailingZeros_0f7a4_74 rfl (lv_at hl 1 rfl) ?_
            refine lv_iload_n hx hb dJ6_numberOfTrailingZeros_0f7a4_75 rfl (lv_at hl 0 rfl) ?_
            refine lv_iconst (v := 1) hx hb dJ6_numberOfTrailingZeros_0f7a4_76 (by decide) ?_
            refine lv_iushr (v := (w2.toUInt32 >>> ((1 : Int32).toUInt32 &&& Int32.toUInt32 31)).toInt32) hx hb dJ6_numberOfTrailingZeros_0f7a4_77 rfl ?_
            refine lv_iadd hx hb dJ6_numberOfTrailingZeros_0f7a4_78 ?_
            exact ro_reti hx hb hr hlk (by rw [tzI, ← evm, if_pos c9]; have t0 : tz1 vm 65536 16 = vm := if_pos c23; have t1 : tz1 vm 256 8 = vm := if_pos c38; have t2 : tz1 vm 16 4 = w2 := (if_neg c52).trans ew2.symm; have t3 : tz1 w2 4 2 = w2 := if_pos c64; simp only [t0, t1, t2, t3, c23, c38, c52, c64, if_true, if_false, Int32.add_zero]) dJ6_numberOfTrailingZeros_0f7a4_79
          · -- 64 False
            refine lv_iinc (v := ((1 + 4) + 2)) (lv' := [(1, .int ((1 + 4) + 2)), (0, .int w2)]) hx hb dJ6_numberOfTrailingZeros_0f7a4_67 hl (k := 1) rfl (rfl) (by decide) rfl (fun ls hl => ?_)
            refine lv_iload_n hx hb dJ6_numberOfTrailingZeros_0f7a4_70 rfl (lv_at hl 1 rfl) ?_
            refine lv_iconst (v := 2) hx hb dJ6_numberOfTrailingZeros_0f7a4_71 (by decide) ?_
            refine lv_iushr (v := (w2.toUInt32 >>> ((2 : Int32).toUInt32 &&& Int32.toUInt32 31)).toInt32) hx hb dJ6_numberOfTrailingZeros_0f7a4_72 rfl ?_
            refine lv_topi (fun w3 ew3 => ?_)
            refine lv_istore_n (lv' := [(0, .int w3), (1, .int ((1 + 4) + 2))]) hx hb dJ6_numberOfTrailingZeros_0f7a4_73 rfl hl (by decide) rfl (fun ls hl => ?_)
            refine lv_iload_n hx hb dJ6_numberOfTrailingZeros_0f7a4_74 rfl (lv_at hl 1 rfl) ?_
            refine lv_iload_n hx hb dJ6_numberOfTrailingZeros_0f7a4_75 rfl (lv_at hl 0 rfl) ?_
            refine lv_iconst (v := 1) hx hb dJ6_numberOfTrailingZeros_0f7a4_76 (by decide) ?_
            refine lv_iushr (v := (w3.toUInt32 >>> ((1 : Int32).toUInt32 &&& Int32.toUInt32 31)).toInt32) hx hb dJ6_numberOfTrailingZeros_0f7a4_77 rfl ?_
            refine lv_iadd hx hb dJ6_numberOfTrailingZeros_0f7a4_78 ?_
            exact ro_reti hx hb hr hlk (by rw [tzI, ← evm, if_pos c9]; have t0 : tz1 vm 65536 16 = vm := if_pos c23; have t1 : tz1 vm 256 8 = vm := if_pos c38; have t2 : tz1 vm 16 4 = w2 := (if_neg c52).trans ew2.symm; have t3 : tz1 w2 4 2 = w3 := (if_neg c64).trans ew3.symm; simp only [t0, t1, t2, t3, c23, c38, c52, c64, if_true, if_false, Int32.add_zero]) dJ6_numberOfTrailingZeros_0f7a4_79
      · -- 38 False
        refine lv_iinc (v := (1 + 8)) (lv' := [(1, .int (1 + 8)), (0, .int vm)]) hx hb dJ6_numberOfTrailingZeros_0f7a4_41 hl (k := 0) rfl (rfl) (by decide) rfl (fun ls hl => ?_)
        refine lv_iload_n hx hb dJ6_numberOfTrailingZeros_0f7a4_44 rfl (lv_at hl 1 rfl) ?_
        refine lv_bipush (v := 8) hx hb dJ6_numberOfTrailingZeros_0f7a4_45 (by decide) ?_
        refine lv_iushr (v := (vm.toUInt32 >>> ((8 : Int32).toUInt32 &&& Int32.toUInt32 31)).toInt32) hx hb dJ6_numberOfTrailingZeros_0f7a4_47 rfl ?_
        refine lv_topi (fun w1 ew1 => ?_)
        refine lv_istore_n (lv' := [(0, .int w1), (1, .int (1 + 8))]) hx hb dJ6_numberOfTrailingZeros_0f7a4_48 rfl hl (by decide) rfl (fun ls hl => ?_)
        refine lv_iload_n hx hb dJ6_numberOfTrailingZeros_0f7a4_49 rfl (lv_at hl 0 rfl) ?_
        refine lv_bipush (v := 16) hx hb dJ6_numberOfTrailingZeros_0f7a4_50 (by decide) ?_
        refine lv_icmp_le (tgt := 62) hx hb dJ6_numberOfTrailingZeros_0f7a4_52 (by decide) (fun c52 => ?_) (fun c52 => ?_)
        · -- 52 True
          refine lv_iload_n hx hb dJ6_numberOfTrailingZeros_0f7a4_62 rfl (lv_at hl 0 rfl) ?_
          refine lv_iconst (v := 4) hx hb dJ6_numberOfTrailingZeros_0f7a4_63 (by decide) ?_
          refine lv_icmp_le (tgt := 74) hx hb dJ6_numberOfTrailingZeros_0f7a4_64 (by decide) (fun c64 => ?_) (fun c64 => ?_)
          · -- 64 True
            refine lv_iload_n hx hb dJ6_numberOfTrailingZeros_0f7a4_74 rfl (lv_at hl 1 rfl) ?_
            refine lv_iload_n hx hb dJ6_numberOfTrailingZeros_0f7a4_75 rfl (lv_at hl 0 rfl) ?_
            refine lv_iconst (v := 1) hx hb dJ6_numberOfTrailingZeros_0f7a4_76 (by decide) ?_
            refine lv_iushr (v := (w1.toUInt32 >>> ((1 : Int32).toUInt32 &&& Int32.toUInt32 31)).toInt32) hx hb dJ6_numberOfTrailingZeros_0f7a4_77 rfl ?_
            refine lv_iadd hx hb dJ6_numberOfTrailingZeros_0f7a4_78 ?_
            exact ro_reti hx hb hr hlk (by rw [tzI, ← evm, if_pos c9]; have t0 : tz1 vm 65536 16 = vm := if_pos c23; have t1 : tz1 vm 256 8 = w1 := (if_neg c38).trans ew1.symm; have t2 : tz1 w1 16 4 = w1 := if_pos c52; have t3 : tz1 w1 4 2 = w1 := if_pos c64; simp only [t0, t1, t2, t3, c23, c38, c52, c64, if_true, if_false, Int32.add_zero]) dJ6_numberOfTrailingZeros_0f7a4_79
          · -- 64 False
            refine lv_iinc (v := ((1 + 8) + 2)) (lv' := [(1, .int ((1 + 8) + 2)), (0, .int w1)]) hx hb dJ6_numberOfTrailingZeros_0f7a4_67 hl (k := 1) rfl (rfl) (by decide) rfl (fun ls hl => ?_)
            refine lv_iload_n hx hb dJ6_numberOfTrailingZeros_0f7a4_70 rfl (lv_at hl 1 rfl) ?_
            refine lv_iconst (v := 2) hx hb dJ6_numberOfTrailingZeros_0f7a4_71 (by decide) ?_
            refine lv_iushr (v := (w1.toUInt32 >>> ((2 : Int32).toUInt32 &&& Int32.toUInt32 31)).toInt32) hx hb dJ6_numberOfTrailingZeros_0f7a4_72 rfl ?_
            refine lv_topi (fun w3 ew3 => ?_)
            refine lv_istore_n (lv' := [(0, .int w3), (1, .int ((1 + 8) + 2))]) hx hb dJ6_numberOfTrailingZeros_0f7a4_73 rfl hl (by decide) rfl (fun ls hl => ?_)
            refine lv_iload_n hx hb dJ6_numberOfTrailingZeros_0f7a4_74 rfl (lv_at hl 1 rfl) ?_
            refine lv_iload_n hx hb dJ6_numberOfTrailingZeros_0f7a4_75 rfl (lv_at hl 0 rfl) ?_
            refine lv_iconst (v := 1) hx hb dJ6_numberOfTrailingZeros_0f7a4_76 (by decide) ?_
            refine lv_iushr (v := (w3.toUInt32 >>> ((1 : Int32).toUInt32 &&& Int32.toUInt32 31)).toInt32) hx hb dJ6_numberOfTrailingZeros_0f7a4_77 rfl ?_
            refine lv_iadd hx hb dJ6_numberOfTrailingZeros_0f7a4_78 ?_
            exact ro_reti hx hb hr hlk (by rw [tzI, ← evm, if_pos c9]; have t0 : tz1 vm 65536 16 = vm := if_pos c23; have t1 : tz1 vm 256 8 = w1 := (if_neg c38).trans ew1.symm; have t2 : tz1 w1 16 4 = w1 := if_pos c52; have t3 : tz1 w1 4 2 = w3 := (if_neg c64).trans ew3.symm; simp only [t0, t1, t2, t3, c23, c38, c52, c64, if_true, if_false, Int32.add_zero]) dJ6_numberOfTrailingZeros_0f7a4_79
        · -- 52 False
          refine lv_iinc (v := ((1 + 8) + 4)) (lv' := [(1, .int ((1 + 8) + 4)), (0, .int w1)]) hx hb dJ6_numberOfTrailingZeros_0f7a4_55 hl (k := 1) rfl (rfl) (by decide) rfl (fun ls hl => ?_)
          refine lv_iload_n hx hb dJ6_numberOfTrailingZeros_0f7a4_58 rfl (lv_at hl 1 rfl) ?_
          refine lv_iconst (v := 4) hx hb dJ6_numberOfTrailingZeros_0f7a4_59 (by decide) ?_
          refine lv_iushr (v := (w1.toUInt32 >>> ((4 : Int32).toUInt32 &&& Int32.toUInt32 31)).toInt32) hx hb dJ6_numberOfTrailingZeros_0f7a4_60 rfl ?_
          refine lv_topi (fun w2 ew2 => ?_)
          refine lv_istore_n (lv' := [(0, .int w2), (1, .int ((1 + 8) + 4))]) hx hb dJ6_numberOfTrailingZeros_0f7a4_61 rfl hl (by decide) rfl (fun ls hl => ?_)
          refine lv_iload_n hx hb dJ6_numberOfTrailingZeros_0f7a4_62 rfl (lv_at hl 0 rfl) ?_
          refine lv_iconst (v := 4) hx hb dJ6_numberOfTrailingZeros_0f7a4_63 (by decide) ?_
          refine lv_icmp_le (tgt := 74) hx hb dJ6_numberOfTrailingZeros_0f7a4_64 (by decide) (fun c64 => ?_) (fun c64 => ?_)
          · -- 64 True
            refine lv_iload_n hx hb dJ6_numberOfTrailingZeros_0f7a4_74 rfl (lv_at hl 1 rfl) ?_
            refine lv_iload_n hx hb dJ6_numberOfTrailingZeros_0f7a4_75 rfl (lv_at hl 0 rfl) ?_
            refine lv_iconst (v := 1) hx hb dJ6_numberOfTrailingZeros_0f7a4_76 (by decide) ?_
            refine lv_iushr (v := (w2.toUInt32 >>> ((1 : Int32).toUInt32 &&& Int32.toUInt32 31)).toInt32) hx hb dJ6_numberOfTrailingZeros_0f7a4_77 rfl ?_
            refine lv_iadd hx hb dJ6_numberOfTrailingZeros_0f7a4_78 ?_
            exact ro_reti hx hb hr hlk (by rw [tzI, ← evm, if_pos c9]; have t0 : tz1 vm 65536 16 = vm := if_pos c23; have t1 : tz1 vm 256 8 = w1 := (if_neg c38).trans ew1.symm; have t2 : tz1 w1 16 4 = w2 := (if_neg c52).trans ew2.symm; have t3 : tz1 w2 4 2 = w2 := if_pos c64; simp only [t0, t1, t2, t3, c23, c38, c52, c64, if_true, if_false, Int32.add_zero]) dJ6_numberOfTrailingZeros_0f7a4_79
          · -- 64 False
            refine lv_iinc (v := (((1 + 8) + 4) + 2)) (lv' := [(1, .int (((1 + 8) + 4) + 2)), (0, .int w2)]) hx hb dJ6_numberOfTrailingZeros_0f7a4_67 hl (k := 1) rfl (rfl) (by decide) rfl (fun ls hl => ?_)
            refine lv_iload_n hx hb dJ6_numberOfTrailingZeros_0f7a4_70 rfl (lv_at hl 1 rfl) ?_
            refine lv_iconst (v := 2) hx hb dJ6_numberOfTrailingZeros_0f7a4_71 (by decide) ?_
            refine lv_iushr (v := (w2.toUInt32 >>> ((2 : Int32).toUInt32 &&& Int32.toUInt32 31)).toInt32) hx hb dJ6_numberOfTrailingZeros_0f7a4_72 rfl ?_
            refine lv_topi (fun w3 ew3 => ?_)
            refine lv_istore_n (lv' := [(0, .int w3), (1, .int (((1 + 8) + 4) + 2))]) hx hb dJ6_numberOfTrailingZeros_0f7a4_73 rfl hl (by decide) rfl (fun ls hl => ?_)
            refine lv_iload_n hx hb dJ6_numberOfTrailingZeros_0f7a4_74 rfl (lv_at hl 1 rfl) ?_
            refine lv_iload_n hx hb dJ6_numberOfTrailingZeros_0f7a4_75 rfl (lv_at hl 0 rfl) ?_
            refine lv_iconst (v := 1) hx hb dJ6_numberOfTrailingZeros_0f7a4_76 (by decide) ?_
            refine lv_iushr (v := (w3.toUInt32 >>> ((1 : Int32).toUInt32 &&& Int32.toUInt32 31)).toInt32) hx hb dJ6_numberOfTrailingZeros_0f7a4_77 rfl ?_
            refine lv_iadd hx hb dJ6_numberOfTrailingZeros_0f7a4_78 ?_
            exact ro_reti hx hb hr hlk (by rw [tzI, ← evm, if_pos c9]; have t0 : tz1 vm 65536 16 = vm := if_pos c23; have t1 : tz1 vm 256 8 = w1 := (if_neg c38).trans ew1.symm; have t2 : tz1 w1 16 4 = w2 := (if_neg c52).trans ew2.symm; have t3 : tz1 w2 4 2 = w3 := (if_neg c64).trans ew3.symm; simp only [t0, t1, t2, t3, c23, c38, c52, c64, if_true, if_false, Int32.add_zero]) dJ6_numberOfTrailingZeros_0f7a4_79
    · -- 23 False
      refine lv_iinc (v := (1 + 16)) (lv' := [(1, .int (1 + 16)), (0, .int vm)]) hx hb dJ6_numberOfTrailingZeros_0f7a4_26 hl (k := 0) rfl (rfl) (by decide) rfl (fun ls hl => ?_)
      refine lv_iload_n hx hb dJ6_numberOfTrailingZeros_0f7a4_29 rfl (lv_at hl 1 rfl) ?_
      refine lv_bipush (v := 16) hx hb dJ6_numberOfTrailingZeros_0f7a4_30 (by decide) ?_
      refine lv_iushr (v := (vm.toUInt32 >>> ((16 : Int32).toUInt32 &&& Int32.toUInt32 31)).toInt32) hx hb dJ6_numberOfTrailingZeros_0f7a4_32 rfl ?_
      refine lv_topi (fun w0 ew0 => ?_)
      refine lv_istore_n (lv' := [(0, .int w0), (1, .int (1 + 16))]) hx hb dJ6_numberOfTrailingZeros_0f7a4_33 rfl hl (by decide) rfl (fun ls hl => ?_)
      refine lv_iload_n hx hb dJ6_numberOfTrailingZeros_0f7a4_34 rfl (lv_at hl 0 rfl) ?_
      refine lv_sipush (v := 256) hx hb dJ6_numberOfTrailingZeros_0f7a4_35 (by decide) ?_
      refine lv_icmp_le (tgt := 49) hx hb dJ6_numberOfTrailingZeros_0f7a4_38 (by decide) (fun c38 => ?_) (fun c38 => ?_)
      · -- 38 True
        refine lv_iload_n hx hb dJ6_numberOfTrailingZeros_0f7a4_49 rfl (lv_at hl 0 rfl) ?_
        refine lv_bipush (v := 16) hx hb dJ6_numberOfTrailingZeros_0f7a4_50 (by decide) ?_
        refine lv_icmp_le (tgt := 62) hx hb dJ6_numberOfTrailingZeros_0f7a4_52 (by decide) (fun c52 => ?_) (fun c52 => ?_)
        · -- 52 True
          refine lv_iload_n hx hb dJ6_numberOfTrailingZeros_0f7a4_62 rfl (lv_at hl 0 rfl) ?_
          refine lv_iconst (v := 4) hx hb dJ6_numberOfTrailingZeros_0f7a4_63 (by decide) ?_
          refine lv_icmp_le (tgt := 74) hx hb dJ6_numberOfTrailingZeros_0f7a4_64 (by decide) (fun c64 => ?_) (fun c64 => ?_)
          · -- 64 True
            refine lv_iload_n hx hb dJ6_numberOfTrailingZeros_0f7a4_74 rfl (lv_at hl 1 rfl) ?_
            refine lv_iload_n hx hb dJ6_numberOfTrailingZeros_0f7a4_75 rfl (lv_at hl 0 rfl) ?_
            refine lv_iconst (v := 1) hx hb dJ6_numberOfTrailingZeros_0f7a4_76 (by decide) ?_
            refine lv_iushr (v := (w0.toUInt32 >>> ((1 : Int32).toUInt32 &&& Int32.toUInt32 31)).toInt32) hx hb dJ6_numberOfTrailingZeros_0f7a4_77 rfl ?_
            refine lv_iadd hx hb dJ6_numberOfTrailingZeros_0f7a4_78 ?_
            exact ro_reti hx hb hr hlk (by rw [tzI, ← evm, if_pos c9]; have t0 : tz1 vm 65536 16 = w0 := (if_neg c23).trans ew0.symm; have t1 : tz1 w0 256 8 = w0 := if_pos c38; have t2 : tz1 w0 16 4 = w0 := if_pos c52; have t3 : tz1 w0 4 2 = w0 := if_pos c64; simp only [t0, t1, t2, t3, c23, c38, c52, c64, if_true, if_false, Int32.add_zero]) dJ6_numberOfTrailingZeros_0f7a4_79
          · -- 64 False
            refine lv_iinc (v := ((1 + 16) + 2)) (lv' := [(1, .int ((1 + 16) + 2)), (0, .int w0)]) hx hb dJ6_numberOfTrailingZeros_0f7a4_67 hl (k := 1) rfl (rfl) (by decide) rfl (fun ls hl => ?_)
            refine lv_iload_n hx hb dJ6_numberOfTrailingZeros_0f7a4_70 rfl (lv_at hl 1 rfl) ?_
            refine lv_iconst (v := 2) hx hb dJ6_numberOfTrailingZeros_0f7a4_71 (by decide) ?_
            refine lv_iushr (v := (w0.toUInt32 >>> ((2 : Int32).toUInt32 &&& Int32.toUInt32 31)).toInt32) hx hb dJ6_numberOfTrailingZeros_0f7a4_72 rfl ?_
            refine lv_topi (fun w3 ew3 => ?_)
            refine lv_istore_n (lv' := [(0, .int w3), (1, .int ((1 + 16) + 2))]) hx hb dJ6_numberOfTrailingZeros_0f7a4_73 rfl hl (by decide) rfl (fun ls hl => ?_)
            refine lv_iload_n hx hb dJ6_numberOfTrailingZeros_0f7a4_74 rfl (lv_at hl 1 rfl) ?_
            refine lv_iload_n hx hb dJ6_numberOfTrailingZeros_0f7a4_75 rfl (lv_at hl 0 rfl) ?_
            refine lv_iconst (v := 1) hx hb dJ6_numberOfTrailingZeros_0f7a4_76 (by decide) ?_
            refine lv_iushr (v := (w3.toUInt32 >>> ((1 : Int32).toUInt32 &&& Int32.toUInt32 31)).toInt32) hx hb dJ6_numberOfTrailingZeros_0f7a4_77 rfl ?_
            refine lv_iadd hx hb dJ6_numberOfTrailingZeros_0f7a4_78 ?_
            exact ro_reti hx hb hr hlk (by rw [tzI, ← evm, if_pos c9]; have t0 : tz1 vm 65536 16 = w0 := (if_neg c23).trans ew0.symm; have t1 : tz1 w0 256 8 = w0 := if_pos c38; have t2 : tz1 w0 16 4 = w0 := if_pos c52; have t3 : tz1 w0 4 2 = w3 := (if_neg c64).trans ew3.symm; simp only [t0, t1, t2, t3, c23, c38, c52, c64, if_true, if_false, Int32.add_zero]) dJ6_numberOfTrailingZeros_0f7a4_79
        · -- 52 False
          refine lv_iinc (v := ((1 + 16) + 4)) (lv' := [(1, .int ((1 + 16) + 4)), (0, .int w0)]) hx hb dJ6_numberOfTrailingZeros_0f7a4_55 hl (k := 1) rfl (rfl) (by decide) rfl (fun ls hl => ?_)
          refine lv_iload_n hx hb dJ6_numberOfTrailingZeros_0f7a4_58 rfl (lv_at hl 1 rfl) ?_
          refine lv_iconst (v := 4) hx hb dJ6_numberOfTrailingZeros_0f7a4_59 (by decide) ?_
          refine lv_iushr (v := (w0.toUInt32 >>> ((4 : Int32).toUInt32 &&& Int32.toUInt32 31)).toInt32) hx hb dJ6_numberOfTrailingZeros_0f7a4_60 rfl ?_
          refine lv_topi (fun w2 ew2 => ?_)
          refine lv_istore_n (lv' := [(0, .int w2), (1, .int ((1 + 16) + 4))]) hx hb dJ6_numberOfTrailingZeros_0f7a4_61 rfl hl (by decide) rfl (fun ls hl => ?_)
          refine lv_iload_n hx hb dJ6_numberOfTrailingZeros_0f7a4_62 rfl (lv_at hl 0 rfl) ?_
          refine lv_iconst (v := 4) hx hb dJ6_numberOfTrailingZeros_0f7a4_63 (by decide) ?_
          refine lv_icmp_le (tgt := 74) hx hb dJ6_numberOfTrailingZeros_0f7a4_64 (by decide) (fun c64 => ?_) (fun c64 => ?_)
          · -- 64 True
            refine lv_iload_n hx hb dJ6_numberOfTrailingZeros_0f7a4_74 rfl (lv_at hl 1 rfl) ?_
            refine lv_iload_n hx hb dJ6_numberOfTrailingZeros_0f7a4_75 rfl (lv_at hl 0 rfl) ?_
            refine lv_iconst (v := 1) hx hb dJ6_numberOfTrailingZeros_0f7a4_76 (by decide) ?_
            refine lv_iushr (v := (w2.toUInt32 >>> ((1 : Int32).toUInt32 &&& Int32.toUInt32 31)).toInt32) hx hb dJ6_numberOfTrailingZeros_0f7a4_77 rfl ?_
            refine lv_iadd hx hb dJ6_numberOfTrailingZeros_0f7a4_78 ?_
            exact ro_reti hx hb hr hlk (by rw [tzI, ← evm, if_pos c9]; have t0 : tz1 vm 65536 16 = w0 := (if_neg c23).trans ew0.symm; have t1 : tz1 w0 256 8 = w0 := if_pos c38; have t2 : tz1 w0 16 4 = w2 := (if_neg c52).trans ew2.symm; have t3 : tz1 w2 4 2 = w2 := if_pos c64; simp only [t0, t1, t2, t3, c23, c38, c52, c64, if_true, if_false, Int32.add_zero]) dJ6_numberOfTrailingZeros_0f7a4_79
          · -- 64 False
            refine lv_iinc (v := (((1 + 16) + 4) + 2)) (lv' := [(1, .int (((1 + 16) + 4) + 2)), (0, .int w2)]) hx hb dJ6_numberOfTrailingZeros_0f7a4_67 hl (k := 1) rfl (rfl) (by decide) rfl (fun ls hl => ?_)
            refine lv_iload_n hx hb dJ6_numberOfTrailingZeros_0f7a4_70 rfl (lv_at hl 1 rfl) ?_
            refine lv_iconst (v := 2) hx hb dJ6_numberOfTrailingZeros_0f7a4_71 (by decide) ?_
            refine lv_iushr (v := (w2.toUInt32 >>> ((2 : Int32).toUInt32 &&& Int32.toUInt32 31)).toInt32) hx hb dJ6_numberOfTrailingZeros_0f7a4_72 rfl ?_
            refine lv_topi (fun w3 ew3 => ?_)
            refine lv_istore_n (lv' := [(0, .int w3), (1, .int (((1 + 16) + 4) + 2))]) hx hb dJ6_numberOfTrailingZeros_0f7a4_73 rfl hl (by decide) rfl (fun ls hl => ?_)
            refine lv_iload_n hx hb dJ6_numberOfTrailingZeros_0f7a4_74 rfl (lv_at hl 1 rfl) ?_
            refine lv_iload_n hx hb dJ6_numberOfTrailingZeros_0f7a4_75 rfl (lv_at hl 0 rfl) ?_
            refine lv_iconst (v := 1) hx hb dJ6_numberOfTrailingZeros_0f7a4_76 (by decide) ?_
            refine lv_iushr (v := (w3.toUInt32 >>> ((1 : Int32).toUInt32 &&& Int32.toUInt32 31)).toInt32) hx hb dJ6_numberOfTrailingZeros_0f7a4_77 rfl ?_
            refine lv_iadd hx hb dJ6_numberOfTrailingZeros_0f7a4_78 ?_
            exact ro_reti hx hb hr hlk (by rw [tzI, ← evm, if_pos c9]; have t0 : tz1 vm 65536 16 = w0 := (if_neg c23).trans ew0.symm; have t1 : tz1 w0 256 8 = w0 := if_pos c38; have t2 : tz1 w0 16 4 = w2 := (if_neg c52).trans ew2.symm; have t3 : tz1 w2 4 2 = w3 := (if_neg c64).trans ew3.symm; simp only [t0, t1, t2, t3, c23, c38, c52, c64, if_true, if_false, Int32.add_zero]) dJ6_numberOfTrailingZeros_0f7a4_79
      · -- 38 False
        refine lv_iinc (v := ((1 + 16) + 8)) (lv' := [(1, .int ((1 + 16) + 8)), (0, .int w0)]) hx hb dJ6_numberOfTrailingZeros_0f7a4_41 hl (k := 1) rfl (rfl) (by decide) rfl (fun ls hl => ?_)
        refine lv_iload_n hx hb dJ6_numberOfTrailingZeros_0f7a4_44 rfl (lv_at hl 1 rfl) ?_
        refine lv_bipush (v := 8) hx hb dJ6_numberOfTrailingZeros_0f7a4_45 (by decide) ?_
        refine lv_iushr (v := (w0.toUInt32 >>> ((8 : Int32).toUInt32 &&& Int32.toUInt32 31)).toInt32) hx hb dJ6_numberOfTrailingZeros_0f7a4_47 rfl ?_
        refine lv_topi (fun w1 ew1 => ?_)
        refine lv_istore_n (lv' := [(0, .int w1), (1, .int ((1 + 16) + 8))]) hx hb dJ6_numberOfTrailingZeros_0f7a4_48 rfl hl (by decide) rfl (fun ls hl => ?_)
        refine lv_iload_n hx hb dJ6_numberOfTrailingZeros_0f7a4_49 rfl (lv_at hl 0 rfl) ?_
        refine lv_bipush (v := 16) hx hb dJ6_numberOfTrailingZeros_0f7a4_50 (by decide) ?_
        refine lv_icmp_le (tgt := 62) hx hb dJ6_numberOfTrailingZeros_0f7a4_52 (by decide) (fun c52 => ?_) (fun c52 => ?_)
        · -- 52 True
          refine lv_iload_n hx hb dJ6_numberOfTrailingZeros_0f7a4_62 rfl (lv_at hl 0 rfl) ?_
          refine lv_iconst (v := 4) hx hb dJ6_numberOfTrailingZeros_0f7a4_63 (by decide) ?_
          refine lv_icmp_le (tgt := 74) hx hb dJ6_numberOfTrailingZeros_0f7a4_64 (by decide) (fun c64 => ?_) (fun c64 => ?_)
          · -- 64 True
            refine lv_iload_n hx hb dJ6_numberOfTrailingZeros_0f7a4_74 rfl (lv_at hl 1 rfl) ?_
            refine lv_iload_n hx hb dJ6_numberOfTrailingZeros_0f7a4_75 rfl (lv_at hl 0 rfl) ?_
            refine lv_iconst (v := 1) hx hb dJ6_numberOfTrailingZeros_0f7a4_76 (by decide) ?_
            refine lv_iushr (v := (w1.toUInt32 >>> ((1 : Int32).toUInt32 &&& Int32.toUInt32 31)).toInt32) hx hb dJ6_numberOfTrailingZeros_0f7a4_77 rfl ?_
            refine lv_iadd hx hb dJ6_numberOfTrailingZeros_0f7a4_78 ?_
            exact ro_reti hx hb hr hlk (by rw [tzI, ← evm, if_pos c9]; have t0 : tz1 vm 65536 16 = w0 := (if_neg c23).trans ew0.symm; have t1 : tz1 w0 256 8 = w1 := (if_neg c38).trans ew1.symm; have t2 : tz1 w1 16 4 = w1 := if_pos c52; have t3 : tz1 w1 4 2 = w1 := if_pos c64; simp only [t0, t1, t2, t3, c23, c38, c52, c64, if_true, if_false, Int32.add_zero]) dJ6_numberOfTrailingZeros_0f7a4_79
          · -- 64 False
            refine lv_iinc (v := (((1 + 16) + 8) + 2)) (lv' := [(1, .int (((1 + 16) + 8) + 2)), (0, .int w1)]) hx hb dJ6_numberOfTrailingZeros_0f7a4_67 hl (k := 1) rfl (rfl) (by decide) rfl (fun ls hl => ?_)
            refine lv_iload_n hx hb dJ6_numberOfTrailingZeros_0f7a4_70 rfl (lv_at hl 1 rfl) ?_
            refine lv_iconst (v := 2) hx hb dJ6_numberOfTrailingZeros_0f7a4_71 (by decide) ?_
            refine lv_iushr (v := (w1.toUInt32 >>> ((2 : Int32).toUInt32 &&& Int32.toUInt32 31)).toInt32) hx hb dJ6_numberOfTrailingZeros_0f7a4_72 rfl ?_
            refine lv_topi (fun w3 ew3 => ?_)
            refine lv_istore_n (lv' := [(0, .int w3), (1, .int (((1 + 16) + 8) + 2))]) hx hb dJ6_numberOfTrailingZeros_0f7a4_73 rfl hl (by decide) rfl (fun ls hl => ?_)
            refine lv_iload_n hx hb dJ6_numberOfTrailingZeros_0f7a4_74 rfl (lv_at hl 1 rfl) ?_
            refine lv_iload_n hx hb dJ6_numberOfTrailingZeros_0f7a4_75 rfl (lv_at hl 0 rfl) ?_
            refine lv_iconst (v := 1) hx hb dJ6_numberOfTrailingZeros_0f7a4_76 (by decide) ?_
            refine lv_iushr (v := (w3.toUInt32 >>> ((1 : Int32).toUInt32 &&& Int32.toUInt32 31)).toInt32) hx hb dJ6_numberOfTrailingZeros_0f7a4_77 rfl ?_
            refine lv_iadd hx hb dJ6_numberOfTrailingZeros_0f7a4_78 ?_
            exact ro_reti hx hb hr hlk (by rw [tzI, ← evm, if_pos c9]; have t0 : tz1 vm 65536 16 = w0 := (if_neg c23).trans ew0.symm; have t1 : tz1 w0 256 8 = w1 := (if_neg c38).trans ew1.symm; have t2 : tz1 w1 16 4 = w1 := if_pos c52; have t3 : tz1 w1 4 2 = w3 := (if_neg c64).trans ew3.symm; simp only [t0, t1, t2, t3, c23, c38, c52, c64, if_true, if_false, Int32.add_zero]) dJ6_numberOfTrailingZeros_0f7a4_79
        · -- 52 False
          refine lv_iinc (v := (((1 + 16) + 8) + 4)) (lv' := [(1, .int (((1 + 16) + 8) + 4)), (0, .int w1)]) hx hb dJ6_numberOfTrailingZeros_0f7a4_55 hl (k := 1) rfl (rfl) (by decide) rfl (fun ls hl => ?_)
          refine lv_iload_n hx hb dJ6_numberOfTrailingZeros_0f7a4_58 rfl (lv_at hl 1 rfl) ?_
          refine lv_iconst (v := 4) hx hb dJ6_numberOfTrailingZeros_0f7a4_59 (by decide) ?_
          refine lv_iushr (v := (w1.toUInt32 >>> ((4 : Int32).toUInt32 &&& Int32.toUInt32 31)).toInt32) hx hb dJ6_numberOfTrailingZeros_0f7a4_60 rfl ?_
          refine lv_topi (fun w2 ew2 => ?_)
          refine lv_istore_n (lv' := [(0, .int w2), (1, .int (((1 + 16) + 8) + 4))]) hx hb dJ6_numberOfTrailingZeros_0f7a4_61 rfl hl (by decide) rfl (fun ls hl => ?_)
          refine lv_iload_n hx hb dJ6_numberOfTrailingZeros_0f7a4_62 rfl (lv_at hl 0 rfl) ?_
          refine lv_iconst (v := 4) hx hb dJ6_numberOfTrailingZeros_0f7a4_63 (by decide) ?_
          refine lv_icmp_le (tgt := 74) hx hb dJ6_numberOfTrailingZeros_0f7a4_64 (by decide) (fun c64 => ?_) (fun c64 => ?_)
          · -- 64 True
            refine lv_iload_n hx hb dJ6_numberOfTrailingZeros_0f7a4_74 rfl (lv_at hl 1 rfl) ?_
            refine lv_iload_n hx hb dJ6_numberOfTrailingZeros_0f7a4_75 rfl (lv_at hl 0 rfl) ?_
            refine lv_iconst (v := 1) hx hb dJ6_numberOfTrailingZeros_0f7a4_76 (by decide) ?_
            refine lv_iushr (v := (w2.toUInt32 >>> ((1 : Int32).toUInt32 &&& Int32.toUInt32 31)).toInt32) hx hb dJ6_numberOfTrailingZeros_0f7a4_77 rfl ?_
            refine lv_iadd hx hb dJ6_numberOfTrailingZeros_0f7a4_78 ?_
            exact ro_reti hx hb hr hlk (by rw [tzI, ← evm, if_pos c9]; have t0 : tz1 vm 65536 16 = w0 := (if_neg c23).trans ew0.symm; have t1 : tz1 w0 256 8 = w1 := (if_neg c38).trans ew1.symm; have t2 : tz1 w1 16 4 = w2 := (if_neg c52).trans ew2.symm; have t3 : tz1 w2 4 2 = w2 := if_pos c64; simp only [t0, t1, t2, t3, c23, c38, c52, c64, if_true, if_false, Int32.add_zero]) dJ6_numberOfTrailingZeros_0f7a4_79
          · -- 64 False
            refine lv_iinc (v := ((((1 + 16) + 8) + 4) + 2)) (lv' := [(1, .int ((((1 + 16) + 8) + 4) + 2)), (0, .int w2)]) hx hb dJ6_numberOfTrailingZeros_0f7a4_67 hl (k := 1) rfl (rfl) (by decide) rfl (fun ls hl => ?_)
            refine lv_iload_n hx hb dJ6_numberOfTrailingZeros_0f7a4_70 rfl (lv_at hl 1 rfl) ?_
            refine lv_iconst (v := 2) hx hb dJ6_numberOfTrailingZeros_0f7a4_71 (by decide) ?_
            refine lv_iushr (v := (w2.toUInt32 >>> ((2 : Int32).toUInt32 &&& Int32.toUInt32 31)).toInt32) hx hb dJ6_numberOfTrailingZeros_0f7a4_72 rfl ?_
            refine lv_topi (fun w3 ew3 => ?_)
            refine lv_istore_n (lv' := [(0, .int w3), (1, .int ((((1 + 16) + 8) + 4) + 2))]) hx hb dJ6_numberOfTrailingZeros_0f7a4_73 rfl hl (by decide) rfl (fun ls hl => ?_)
            refine lv_iload_n hx hb dJ6_numberOfTrailingZeros_0f7a4_74 rfl (lv_at hl 1 rfl) ?_
            refine lv_iload_n hx hb dJ6_numberOfTrailingZeros_0f7a4_75 rfl (lv_at hl 0 rfl) ?_
            refine lv_iconst (v := 1) hx hb dJ6_numberOfTrailingZeros_0f7a4_76 (by decide) ?_
            refine lv_iushr (v := (w3.toUInt32 >>> ((1 : Int32).toUInt32 &&& Int32.toUInt32 31)).toInt32) hx hb dJ6_numberOfTrailingZeros_0f7a4_77 rfl ?_
            refine lv_iadd hx hb dJ6_numberOfTrailingZeros_0f7a4_78 ?_
            exact ro_reti hx hb hr hlk (by rw [tzI, ← evm, if_pos c9]; have t0 : tz1 vm 65536 16 = w0 := (if_neg c23).trans ew0.symm; have t1 : tz1 w0 256 8 = w1 := (if_neg c38).trans ew1.symm; have t2 : tz1 w1 16 4 = w2 := (if_neg c52).trans ew2.symm; have t3 : tz1 w2 4 2 = w3 := (if_neg c64).trans ew3.symm; simp only [t0, t1, t2, t3, c23, c38, c52, c64, if_true, if_false, Int32.add_zero]) dJ6_numberOfTrailingZeros_0f7a4_79
  · -- 9 False
    refine lv_iload_n hx hb dJ6_numberOfTrailingZeros_0f7a4_12 rfl (lv_at hl 0 rfl) ?_
    refine lv_bipush (v := 32) hx hb dJ6_numberOfTrailingZeros_0f7a4_13 (by decide) ?_
    refine lv_iand hx hb dJ6_numberOfTrailingZeros_0f7a4_15 ?_
    exact ro_reti hx hb hr hlk (by rw [tzI, ← evm, if_neg c9]) dJ6_numberOfTrailingZeros_0f7a4_16

set_option maxHeartbeats 4000000 in
set_option maxRecDepth 100000 in
theorem c_J13_numberOfTrailingZeros_95d88 (l : Launch) (D : va_G) (c : CT) (x : Int64)  : ROi l yJ13_numberOfTrailingZeros_95d88 wsJ13_numberOfTrailingZeros_95d88 ({ frames := 1, cells := 0, slots := 0, locals := 21 } : Room) [.long x] D c ([]) (tzL x) := by
  refine ro_starti (cc := cJ13_numberOfTrailingZeros_95d88) (maxL := 3) (ret := some .int) (by decide) rfl (Nat.le_of_ble_eq_true rfl) ?_
  intro p e s m args below meth c0 ls hx hb hr hml hown hts hlk hP hK hl
  have hown : s.vm.findClass RJ13 = some m.cls := hown
  have hl : lv_has ls 3 [(0, .long x)] := hl
  refine lv_lload_n hx hb dJ13_numberOfTrailingZeros_95d88_0 rfl (lv_at hl 0 rfl) ?_
  refine lv_l2i (v := x.toInt32) hx hb dJ13_numberOfTrailingZeros_95d88_1 rfl ?_
  refine lv_istore_n (lv' := [(2, .int x.toInt32), (0, .long x)]) hx hb dJ13_numberOfTrailingZeros_95d88_2 rfl hl (by decide) rfl (fun ls hl => ?_)
  refine lv_iload_n hx hb dJ13_numberOfTrailingZeros_95d88_3 rfl (lv_at hl 0 rfl) ?_
  refine lv_if_ne (tgt := 21) hx hb dJ13_numberOfTrailingZeros_95d88_4 (by decide) (fun c4 => ?_) (fun c4 => ?_)
  · -- 4 True
    refine lv_iload_n hx hb dJ13_numberOfTrailingZeros_95d88_21 rfl (lv_at hl 0 rfl) ?_
    refine ro_Si (As := [.int x.toInt32]) (rest := []) ⟨hx, hb, hml, hown, hts⟩ (c_J6_numberOfTrailingZeros_0f7a4 l D c x.toInt32) (va_cwS 1 hts gJ13_numberOfTrailingZeros_95d88_J6_numberOfTrailingZeros_0f7a4 rfl rfl rfl (by decide +kernel) ⟨Nat.le_of_ble_eq_true rfl, Nat.le_of_ble_eq_true rfl⟩) va_P0 hK rfl hl.1 rfl (Nat.le_of_ble_eq_true rfl) dJ13_numberOfTrailingZeros_95d88_22 ⟨Nat.le_of_ble_eq_true rfl, Nat.le_of_ble_eq_true rfl⟩ ?_
    exact ro_reti hx hb hr hlk (by simp [tzL, c4]) dJ13_numberOfTrailingZeros_95d88_25
  · -- 4 False
    refine lv_bipush (v := 32) hx hb dJ13_numberOfTrailingZeros_95d88_7 (by decide) ?_
    refine lv_lload_n hx hb dJ13_numberOfTrailingZeros_95d88_9 rfl (lv_at hl 1 rfl) ?_
    refine lv_bipush (v := 32) hx hb dJ13_numberOfTrailingZeros_95d88_10 (by decide) ?_
    refine lv_lushr (v := (x.toUInt64 >>> ((32 : Int32).toInt64.toUInt64 &&& Int64.toUInt64 63)).toInt64) hx hb dJ13_numberOfTrailingZeros_95d88_12 rfl ?_
    refine lv_l2i (v := ((x.toUInt64 >>> ((32 : Int32).toInt64.toUInt64 &&& Int64.toUInt64 63)).toInt64).toInt32) hx hb dJ13_numberOfTrailingZeros_95d88_13 rfl ?_
    refine ro_Si (As := [.int (((x.toUInt64 >>> ((32 : Int32).toInt64.toUInt64 &&& Int64.toUInt64 63)).toInt64).toInt32)]) (rest := [.int 32]) ⟨hx, hb, hml, hown, hts⟩ (c_J6_numberOfTrailingZeros_0f7a4 l D c (((x.toUInt64 >>> ((32 : Int32).toInt64.toUInt64 &&& Int64.toUInt64 63)).toInt64).toInt32)) (va_cwS 1 hts gJ13_numberOfTrailingZeros_95d88_J6_numberOfTrailingZeros_0f7a4 rfl rfl rfl (by decide +kernel) ⟨Nat.le_of_ble_eq_true rfl, Nat.le_of_ble_eq_true rfl⟩) va_P0 hK rfl hl.1 rfl (Nat.le_of_ble_eq_true rfl) dJ13_numberOfTrailingZeros_95d88_14 ⟨Nat.le_of_ble_eq_true rfl, Nat.le_of_ble_eq_true rfl⟩ ?_
    refine lv_iadd hx hb dJ13_numberOfTrailingZeros_95d88_17 ?_
    refine lv_goto (tgt := 25) hx hb dJ13_numberOfTrailingZeros_95d88_18 (by decide) ?_
    exact ro_reti hx hb hr hlk (by simp [tzL, c4]) dJ13_numberOfTrailingZeros_95d88_25

set_option maxHeartbeats 4000000 in
set_option maxRecDepth 100000 in
theorem c_X3_pickable (l : Launch) (D : va_G) (q : Nat → Nat) (c : CT) (ts : TS) (hT : tT ts ≤ 20) : ROi l yX3_pickable wsX3_pickable ({ frames := 0, cells := 0, slots := 0, locals := 0 } : Room) [.ref (q 2)] D c (wT q c ts) (cPk ts) := by
  refine ro_starti (cc := cX3_pickable) (maxL := 4) (ret := some .int) (by decide) rfl (Nat.le_of_ble_eq_true rfl) ?_
  intro p e s m args below meth c0 ls hx hb hr hml hown hts hlk hP hK hl
  have hown : s.vm.findClass RX3 = some m.cls := hown
  have hl : lv_has ls 4 [(0, .ref (q 2))] := hl
  have hin3 : ∀ w ∈ wsX30, w ∈ wsX3_pickable := by decide +kernel
  refine lv_iconst (v := 0) hx hb dX3_pickable_0 (by decide) ?_
  refine lv_istore_n (lv' := [(1, .int 0), (0, .ref (q 2))]) hx hb dX3_pickable_1 rfl hl (by decide) rfl (fun ls hl => ?_)
  refine lv_iconst (v := 0) hx hb dX3_pickable_2 (by decide) ?_
  refine lv_istore_n (lv' := [(2, .int 0), (1, .int 0), (0, .ref (q 2))]) hx hb dX3_pickable_3 rfl hl (by decide) rfl (fun ls hl => ?_)
  have L4 : ∀ (n : Nat) (i : Nat) (a : Int32), (i ≤ tT ts) → (tT ts < i + n) → (a = orI (fun t => decide (tKd ts t = 3) || !decide (tTn ts t = 0)) i) → ∀ ls : Array Slot, lv_has ls 4 [(2, .int (nI i)), (1, .int a), (0, .ref (q 2))] → W p l e ({ frames := 0, cells := 0, slots := 0, locals := 0 } : Room) s m args below meth c0 s.heap [] 0 0 (QRi below args s (cPk ts)) (F0 m 4 ls []) := by
    intro n
    induction n with
    | zero => intro i a hi hn ha ls hl; exact absurd hn (by omega)
    | succ n ih4 =>
      intro i a hi hn ha ls hl
      refine lv_iload_n hx hb dX3_pickable_4 rfl (lv_at hl 0 rfl) ?_
      refine lv_aload_n hx hb dX3_pickable_5 rfl (lv_at hl 2 rfl) ?_
      refine va_get (D := D) (ci := 3) (v := .int (nI (tT ts))) (C := RX3) (T := TX3) (N := 7) hx hb hts hin3 hown hK.1 hP 0 rfl rfl 6 (by decide) (hts (.fieldLink RX3 32 "TestPicker$Tests" "size" "I") (by decide +kernel)) (fun _ h9 => h9) rfl dX3_pickable_6 ?_
      refine lv_icmp_ge (tgt := 47) hx hb dX3_pickable_9 (by decide) (fun c9 => ?_) (fun c9 => ?_)
      · -- 9 True
        have c9 : (tT ts) ≤ i := (nI_leI (a := (tT ts)) (b := i) (by omega) (by omega)).mp c9
        have hbar : a = cBar ts := by rw [ha, show i = tT ts by omega]
        subst hbar
        refine lv_iconst (v := 0) hx hb dX3_pickable_47 (by decide) ?_
        refine lv_istore_n (lv' := [(2, .int 0), (1, .int (cBar ts)), (0, .ref (q 2))]) hx hb dX3_pickable_48 rfl hl (by decide) rfl (fun ls hl => ?_)
        refine lv_iconst (v := 0) hx hb dX3_pickable_49 (by decide) ?_
        refine lv_istore_n (lv' := [(3, .int 0), (2, .int 0), (1, .int (cBar ts)), (0, .ref (q 2))]) hx hb dX3_pickable_50 rfl hl (by decide) rfl (fun ls hl => ?_)
        have L51 : ∀ (n : Nat) (j : Nat) (a2 : Int32), (j ≤ tT ts) → (tT ts < j + n) → (a2 = orI (fun t => decide (tCh ts t &&& cBar ts = 0)) j) → ∀ ls : Array Slot, lv_has ls 4 [(3, .int (nI j)), (2, .int a2), (1, .int (cBar ts)), (0, .ref (q 2))] → W p l e ({ frames := 0, cells := 0, slots := 0, locals := 0 } : Room) s m args below meth c0 s.heap [] 0 0 (QRi below args s (cPk ts)) (F0 m 51 ls []) := by
          intro n
          induction n with
          | zero => intro j a2 hj hn2 ha2 ls hl; exact absurd hn2 (by omega)
          | succ n ih51 =>
            intro j a2 hj hn2 ha2 ls hl
            refine lv_iload_n hx hb dX3_pickable_51 rfl (lv_at hl 0 rfl) ?_
            refine lv_aload_n hx hb dX3_pickable_52 rfl (lv_at hl 3 rfl) ?_
            refine va_get (D := D) (ci := 3) (v := .int (nI (tT ts))) (C := RX3) (T := TX3) (N := 7) hx hb hts hin3 hown hK.1 hP 0 rfl rfl 6 (by decide) (hts (.fieldLink RX3 32 "TestPicker$Tests" "size" "I") (by decide +kernel)) (fun _ h9 => h9) rfl dX3_pickable_53 ?_
            refine lv_icmp_ge (tgt := 86) hx hb dX3_pickable_56 (by decide) (fun c56 => ?_) (fun c56 => ?_)
            · -- 56 True
              have c56 : (tT ts) ≤ j := (nI_leI (a := (tT ts)) (b := j) (by omega) (by omega)).mp c56
              refine lv_iload_n hx hb dX3_pickable_86 rfl (lv_at hl 1 rfl) ?_
              exact ro_reti hx hb hr hlk (by rw [ha2, show j = tT ts by omega]) dX3_pickable_87
            · -- 56 False
              have c56 : j < (tT ts) := (Nat.not_le.mp (fun z => c56 ((nI_leI (a := (tT ts)) (b := j) (by omega) (by omega)).mpr z)))
              refine lv_iload_n hx hb dX3_pickable_59 rfl (lv_at hl 1 rfl) ?_
              refine lv_aload_n hx hb dX3_pickable_60 rfl (lv_at hl 3 rfl) ?_
              refine va_get (D := D) (ci := 3) (v := .ref (q 6)) (C := RX3) (T := TX3) (N := 7) hx hb hts hin3 hown hK.1 hP 0 rfl rfl 3 (by decide) (hts (.fieldLink RX3 21 "TestPicker$Tests" "chains" "[I") (by decide +kernel)) (fun _ h9 => h9) rfl dX3_pickable_61 ?_
              refine lv_iload_n hx hb dX3_pickable_64 rfl (lv_at hl 0 rfl) ?_
              refine ld_i hx hb hK hP 4 (f := tCh ts) rfl (i := j) (by omega) (by decide) dX3_pickable_65 ?_
              refine lv_iload_n hx hb dX3_pickable_66 rfl (lv_at hl 2 rfl) ?_
              refine lv_iand hx hb dX3_pickable_67 ?_
              refine lv_if_ne (tgt := 77) hx hb dX3_pickable_68 (by decide) (fun c68 => ?_) (fun c68 => ?_)
              · -- 68 True
                refine lv_iconst (v := 0) hx hb dX3_pickable_77 (by decide) ?_
                refine lv_ior hx hb dX3_pickable_78 ?_
                refine lv_istore_n (lv' := [(2, .int (a2 ||| 0)), (3, .int (nI j)), (1, .int (cBar ts)), (0, .ref (q 2))]) hx hb dX3_pickable_79 rfl hl (by decide) rfl (fun ls hl => ?_)
                refine lv_iinc (v := nI (j + 1)) (lv' := [(3, .int (nI (j + 1))), (2, .int (a2 ||| 0)), (1, .int (cBar ts)), (0, .ref (q 2))]) hx hb dX3_pickable_80 hl (k := 1) rfl (nI_inc _) (by decide) rfl (fun ls hl => ?_)
                refine lv_goto (tgt := 51) hx hb dX3_pickable_83 (by decide) ?_
                exact ih51 (j + 1) (a2 ||| 0) (by omega) (by omega) (by rw [ha2]; simp [orI, oneE, c68]) ls (lv_sub hl [0, 1, 2, 3] rfl)
              · -- 68 False
                refine lv_iconst (v := 1) hx hb dX3_pickable_71 (by decide) ?_
                refine lv_iload_n hx hb dX3_pickable_72 rfl (lv_at hl 0 rfl) ?_
                refine lv_ishl hx hb dX3_pickable_73 ?_
                refine lv_goto (tgt := 78) hx hb dX3_pickable_74 (by decide) ?_
                refine lv_ior hx hb dX3_pickable_78 ?_
                refine lv_istore_n (lv' := [(2, .int (a2 ||| (1 <<< (nI j &&& 31)))), (3, .int (nI j)), (1, .int (cBar ts)), (0, .ref (q 2))]) hx hb dX3_pickable_79 rfl hl (by decide) rfl (fun ls hl => ?_)
                refine lv_iinc (v := nI (j + 1)) (lv' := [(3, .int (nI (j + 1))), (2, .int (a2 ||| (1 <<< (nI j &&& 31)))), (1, .int (cBar ts)), (0, .ref (q 2))]) hx hb dX3_pickable_80 hl (k := 1) rfl (nI_inc _) (by decide) rfl (fun ls hl => ?_)
                refine lv_goto (tgt := 51) hx hb dX3_pickable_83 (by decide) ?_
                exact ih51 (j + 1) (a2 ||| (1 <<< (nI j &&& 31))) (by omega) (by omega) (by rw [ha2]; simp [orI, oneE, c68]) ls (lv_sub hl [0, 1, 2, 3] rfl)
        exact L51 (tT ts + 1) 0 0 (by omega) (by omega) (rfl) ls (lv_sub hl [0, 1, 2, 3] rfl)
      · -- 9 False
        have c9 : i < (tT ts) := (Nat.not_le.mp (fun z => c9 ((nI_leI (a := (tT ts)) (b := i) (by omega) (by omega)).mpr z)))
        refine lv_iload_n hx hb dX3_pickable_12 rfl (lv_at hl 1 rfl) ?_
        refine lv_aload_n hx hb dX3_pickable_13 rfl (lv_at hl 2 rfl) ?_
        refine va_get (D := D) (ci := 3) (v := .ref (q 3)) (C := RX3) (T := TX3) (N := 7) hx hb hts hin3 hown hK.1 hP 0 rfl rfl 0 (by decide) (hts (.fieldLink RX3 9 "TestPicker$Tests" "kinds" "[I") (by decide +kernel)) (fun _ h9 => h9) rfl dX3_pickable_14 ?_
        refine lv_iload_n hx hb dX3_pickable_17 rfl (lv_at hl 0 rfl) ?_
        refine ld_i hx hb hK hP 1 (f := tKd ts) rfl (i := i) (by omega) (by decide) dX3_pickable_18 ?_
        refine lv_iconst (v := 3) hx hb dX3_pickable_19 (by decide) ?_
        refine lv_icmp_eq (tgt := 32) hx hb dX3_pickable_20 (by decide) (fun c20 => ?_) (fun c20 => ?_)
        · -- 20 True
          refine lv_iconst (v := 1) hx hb dX3_pickable_32 (by decide) ?_
          refine lv_iload_n hx hb dX3_pickable_33 rfl (lv_at hl 0 rfl) ?_
          refine lv_ishl hx hb dX3_pickable_34 ?_
          refine lv_goto (tgt := 39) hx hb dX3_pickable_35 (by decide) ?_
          refine lv_ior hx hb dX3_pickable_39 ?_
          refine lv_istore_n (lv' := [(1, .int (a ||| (1 <<< (nI i &&& 31)))), (2, .int (nI i)), (0, .ref (q 2))]) hx hb dX3_pickable_40 rfl hl (by decide) rfl (fun ls hl => ?_)
          refine lv_iinc (v := nI (i + 1)) (lv' := [(2, .int (nI (i + 1))), (1, .int (a ||| (1 <<< (nI i &&& 31)))), (0, .ref (q 2))]) hx hb dX3_pickable_41 hl (k := 1) rfl (nI_inc _) (by decide) rfl (fun ls hl => ?_)
          refine lv_goto (tgt := 4) hx hb dX3_pickable_44 (by decide) ?_
          exact ih4 (i + 1) (a ||| (1 <<< (nI i &&& 31))) (by omega) (by omega) (by rw [ha]; simp [orI, oneE, c20]) ls (lv_sub hl [0, 1, 2] rfl)
        · -- 20 False
          refine lv_aload_n hx hb dX3_pickable_23 rfl (lv_at hl 2 rfl) ?_
          refine va_get (D := D) (ci := 3) (v := .ref (q 8)) (C := RX3) (T := TX3) (N := 7) hx hb hts hin3 hown hK.1 hP 0 rfl rfl 5 (by decide) (hts (.fieldLink RX3 28 "TestPicker$Tests" "torn" "[Z") (by decide +kernel)) (fun _ h9 => h9) rfl dX3_pickable_24 ?_
          refine lv_iload_n hx hb dX3_pickable_27 rfl (lv_at hl 0 rfl) ?_
          refine ld_z hx hb hK hP 6 (f := tTn ts) rfl (i := i) (by omega) (by decide) dX3_pickable_28 ?_
          refine lv_if_eq (tgt := 38) hx hb dX3_pickable_29 (by decide) (fun c29 => ?_) (fun c29 => ?_)
          · -- 29 True
            refine lv_iconst (v := 0) hx hb dX3_pickable_38 (by decide) ?_
            refine lv_ior hx hb dX3_pickable_39 ?_
            refine lv_istore_n (lv' := [(1, .int (a ||| 0)), (2, .int (nI i)), (0, .ref (q 2))]) hx hb dX3_pickable_40 rfl hl (by decide) rfl (fun ls hl => ?_)
            refine lv_iinc (v := nI (i + 1)) (lv' := [(2, .int (nI (i + 1))), (1, .int (a ||| 0)), (0, .ref (q 2))]) hx hb dX3_pickable_41 hl (k := 1) rfl (nI_inc _) (by decide) rfl (fun ls hl => ?_)
            refine lv_goto (tgt := 4) hx hb dX3_pickable_44 (by decide) ?_
            exact ih4 (i + 1) (a ||| 0) (by omega) (by omega) (by rw [ha]; simp [orI, oneE, c20, c29]) ls (lv_sub hl [0, 1, 2] rfl)
          · -- 29 False
            refine lv_iconst (v := 1) hx hb dX3_pickable_32 (by decide) ?_
            refine lv_iload_n hx hb dX3_pickable_33 rfl (lv_at hl 0 rfl) ?_
            refine lv_ishl hx hb dX3_pickable_34 ?_
            refine lv_goto (tgt := 39) hx hb dX3_pickable_35 (by decide) ?_
            refine lv_ior hx hb dX3_pickable_39 ?_
            refine lv_istore_n (lv' := [(1, .int (a ||| (1 <<< (nI i &&& 31)))), (2, .int (nI i)), (0, .ref (q 2))]) hx hb dX3_pickable_40 rfl hl (by decide) rfl (fun ls hl => ?_)
            refine lv_iinc (v := nI (i + 1)) (lv' := [(2, .int (nI (i + 1))), (1, .int (a ||| (1 <<< (nI i &&& 31)))), (0, .ref (q 2))]) hx hb dX3_pickable_41 hl (k := 1) rfl (nI_inc _) (by decide) rfl (fun ls hl => ?_)
            refine lv_goto (tgt := 4) hx hb dX3_pickable_44 (by decide) ?_
            exact ih4 (i + 1) (a ||| (1 <<< (nI i &&& 31))) (by omega) (by omega) (by rw [ha]; simp [orI, oneE, c20, c29]) ls (lv_sub hl [0, 1, 2] rfl)
  exact L4 (tT ts + 1) 0 0 (by omega) (by omega) (rfl) ls (lv_sub hl [0, 1, 2] rfl)

set_option maxHeartbeats 4000000 in
set_option maxRecDepth 100000 in
theorem c_X0_heat (l : Launch) (D : va_G) (q : Nat → Nat) (c : CT) (hs : HS) (t : Nat) (ht : t < 20) (hb60 : hB hs ≤ 60) : ROi l yX0_heat wsX0_heat ({ frames := 0, cells := 0, slots := 0, locals := 0 } : Room) [.ref (q 9), .int (nI t)] D c (wH q c hs) (htC (hFe hs t) (hB hs)) := by
  refine ro_starti (cc := cX0_heat) (maxL := 5) (ret := some .int) (by decide) rfl (Nat.le_of_ble_eq_true rfl) ?_
  intro p e s m args below meth c0 ls hx hb hr hml hown hts hlk hP hK hl
  have hown : s.vm.findClass RX0 = some m.cls := hown
  have hl : lv_has ls 5 [(0, .ref (q 9)), (1, .int (nI t))] := hl
  have hin0 : ∀ w ∈ wsX00, w ∈ wsX0_heat := by decide +kernel
  refine lv_aload_n hx hb dX0_heat_0 rfl (lv_at hl 0 rfl) ?_
  refine va_get (D := D) (ci := 0) (v := .int (nI (hB hs))) (C := RX0) (T := TX0) (N := 4) hx hb hts hin0 hown hK.1 hP 0 rfl rfl 3 (by decide) (hts (.fieldLink RX0 21 "TestPicker$History" "size" "I") (by decide +kernel)) (fun _ h9 => h9) rfl dX0_heat_1 ?_
  refine lv_iconst (v := 1) hx hb dX0_heat_4 (by decide) ?_
  refine lv_isub hx hb dX0_heat_5 ?_
  refine lv_istore_n (lv' := [(2, .int (nI (hB hs) - 1)), (0, .ref (q 9)), (1, .int (nI t))]) hx hb dX0_heat_6 rfl hl (by decide) rfl (fun ls hl => ?_)
  refine lv_iload_n hx hb dX0_heat_7 rfl (lv_at hl 0 rfl) ?_
  refine lv_iconst (v := 1) hx hb dX0_heat_8 (by decide) ?_
  refine lv_icmp_ge (tgt := 14) hx hb dX0_heat_9 (by decide) (fun c9 => ?_) (fun c9 => ?_)
  · -- 9 True
    have c9 : 2 ≤ hB hs := (pr_ge _ (by omega)).mp c9
    rw [pred1 (by omega)] at hl
    refine lv_iload_n hx hb dX0_heat_14 rfl (lv_at hl 0 rfl) ?_
    refine lv_bipush (v := 8) hx hb dX0_heat_15 (by decide) ?_
    refine lv_icmp_lt (tgt := 34) hx hb dX0_heat_17 (by decide) (fun c17 => ?_) (fun c17 => ?_)
    · -- 17 True
      have c17 : (hB hs - 1) < 8 := (nI_ltI (a := (hB hs - 1)) (b := 8) (by omega) (by omega)).mp c17
      refine lv_aload_n hx hb dX0_heat_34 rfl (lv_at hl 1 rfl) ?_
      refine va_get (D := D) (ci := 0) (v := .ref (q 11)) (C := RX0) (T := TX0) (N := 4) hx hb hts hin0 hown hK.1 hP 0 rfl rfl 1 (by decide) (hts (.fieldLink RX0 15 "TestPicker$History" "fellIn" "[J") (by decide +kernel)) (fun _ h9 => h9) rfl dX0_heat_35 ?_
      refine lv_iload_n hx hb dX0_heat_38 rfl (lv_at hl 2 rfl) ?_
      refine ld_l hx hb hK hP 2 (f := hFe hs) rfl (i := t) (by omega) (by decide) dX0_heat_39 ?_
      refine lv_bipush (v := 8) hx hb dX0_heat_40 (by decide) ?_
      refine lv_iload_n hx hb dX0_heat_42 rfl (lv_at hl 0 rfl) ?_
      refine lv_isub hx hb dX0_heat_43 ?_
      refine tp_i (z := nI (8 - (hB hs - 1))) (pk_sub (a := 8) (by omega)) ?_
      refine lv_lshl (v := ((hFe hs t) <<< ((nI (8 - (hB hs - 1))).toInt64 &&& 63))) hx hb dX0_heat_44 rfl ?_
      refine lv_lstore_n (lv' := [(3, .long ((hFe hs t) <<< ((nI (8 - (hB hs - 1))).toInt64 &&& 63))), (2, .int (nI (hB hs - 1))), (0, .ref (q 9)), (1, .int (nI t))]) hx hb dX0_heat_45 rfl hl (by decide) rfl (fun ls hl => ?_)
      refine lv_lload_n hx hb dX0_heat_46 rfl (lv_at hl 0 rfl) ?_
      refine lv_ldc2 (own := RX0) (v := (255)) hx hb hown (hts (.constantLong RX0 27 (255)) (by decide +kernel)) dX0_heat_47 ?_
      refine lv_land hx hb dX0_heat_50 ?_
      refine lv_l2i (v := (((hFe hs t) <<< ((nI (8 - (hB hs - 1))).toInt64 &&& 63)) &&& (255)).toInt32) hx hb dX0_heat_51 rfl ?_
      exact ro_reti hx hb hr hlk (by rw [htC, if_neg (by omega), if_pos (by omega)]) dX0_heat_52
    · -- 17 False
      have c17 : 8 ≤ (hB hs - 1) := (Nat.not_lt.mp (fun z => c17 ((nI_ltI (a := (hB hs - 1)) (b := 8) (by omega) (by omega)).mpr z)))
      refine lv_aload_n hx hb dX0_heat_20 rfl (lv_at hl 1 rfl) ?_
      refine va_get (D := D) (ci := 0) (v := .ref (q 11)) (C := RX0) (T := TX0) (N := 4) hx hb hts hin0 hown hK.1 hP 0 rfl rfl 1 (by decide) (hts (.fieldLink RX0 15 "TestPicker$History" "fellIn" "[J") (by decide +kernel)) (fun _ h9 => h9) rfl dX0_heat_21 ?_
      refine lv_iload_n hx hb dX0_heat_24 rfl (lv_at hl 2 rfl) ?_
      refine ld_l hx hb hK hP 2 (f := hFe hs) rfl (i := t) (by omega) (by decide) dX0_heat_25 ?_
      refine lv_iload_n hx hb dX0_heat_26 rfl (lv_at hl 0 rfl) ?_
      refine lv_bipush (v := 8) hx hb dX0_heat_27 (by decide) ?_
      refine lv_isub hx hb dX0_heat_29 ?_
      refine tp_i (z := nI (hB hs - 1 - 8)) (pk_sub (b := 8) (by omega)) ?_
      refine lv_lushr (v := ((hFe hs t).toUInt64 >>> ((nI (hB hs - 1 - 8)).toInt64.toUInt64 &&& Int64.toUInt64 63)).toInt64) hx hb dX0_heat_30 rfl ?_
      refine lv_goto (tgt := 45) hx hb dX0_heat_31 (by decide) ?_
      refine lv_lstore_n (lv' := [(3, .long (((hFe hs t).toUInt64 >>> ((nI (hB hs - 1 - 8)).toInt64.toUInt64 &&& Int64.toUInt64 63)).toInt64)), (2, .int (nI (hB hs - 1))), (0, .ref (q 9)), (1, .int (nI t))]) hx hb dX0_heat_45 rfl hl (by decide) rfl (fun ls hl => ?_)
      refine lv_lload_n hx hb dX0_heat_46 rfl (lv_at hl 0 rfl) ?_
      refine lv_ldc2 (own := RX0) (v := (255)) hx hb hown (hts (.constantLong RX0 27 (255)) (by decide +kernel)) dX0_heat_47 ?_
      refine lv_land hx hb dX0_heat_50 ?_
      refine lv_l2i (v := (((hFe hs t).toUInt64 >>> ((nI (hB hs - 1 - 8)).toInt64.toUInt64 &&& Int64.toUInt64 63)).toInt64 &&& (255)).toInt32) hx hb dX0_heat_51 rfl ?_
      exact ro_reti hx hb hr hlk (by rw [htC, if_neg (by omega), if_neg (by omega)]) dX0_heat_52
  · -- 9 False
    have c9 : ¬ 2 ≤ hB hs := fun z => c9 ((pr_ge _ (by omega)).mpr z)
    refine lv_iconst (v := 0) hx hb dX0_heat_12 (by decide) ?_
    exact ro_reti hx hb hr hlk (by rw [htC, if_pos (by omega)]) dX0_heat_13

set_option maxHeartbeats 4000000 in
set_option maxRecDepth 100000 in
theorem c_X0_wavers (l : Launch) (D : va_G) (q : Nat → Nat) (c : CT) (hs : HS) (t : Nat) (r : Int64) (ht : t < 20) (hb60 : hB hs ≤ 60) : ROi l yX0_wavers wsX0_wavers ({ frames := 1, cells := 0, slots := 0, locals := 22 } : Room) [.ref (q 9), .int (nI t), .long r] D c (wH q c hs) (bI (flk (hCg hs) (cV hs t) r (hB hs))) := by
  refine ro_starti (cc := cX0_wavers) (maxL := 9) (ret := some .boolean) (by decide) rfl (Nat.le_of_ble_eq_true rfl) ?_
  intro p e s m args below meth c0 ls hx hb hr hml hown hts hlk hP hK hl
  have hown : s.vm.findClass RX0 = some m.cls := hown
  have hl : lv_has ls 9 [(0, .ref (q 9)), (1, .int (nI t)), (2, .long r)] := hl
  have hin0 : ∀ w ∈ wsX00, w ∈ wsX0_wavers := by decide +kernel
  refine lv_bipush (v := (-9)) hx hb dX0_wavers_0 (by decide) ?_
  refine lv_istore (lv' := [(4, .int (-9)), (0, .ref (q 9)), (1, .int (nI t)), (2, .long r)]) hx hb dX0_wavers_2 hl (by decide) rfl (fun ls hl => ?_)
  refine lv_lconst (v := 0) hx hb dX0_wavers_4 (by decide) ?_
  refine lv_lstore (lv' := [(5, .long 0), (4, .int (-9)), (0, .ref (q 9)), (1, .int (nI t)), (2, .long r)]) hx hb dX0_wavers_5 hl (by decide) rfl (fun ls hl => ?_)
  refine lv_iconst (v := 0) hx hb dX0_wavers_7 (by decide) ?_
  refine lv_istore (lv' := [(7, .int 0), (5, .long 0), (4, .int (-9)), (0, .ref (q 9)), (1, .int (nI t)), (2, .long r)]) hx hb dX0_wavers_8 hl (by decide) rfl (fun ls hl => ?_)
  have L10 : ∀ (n : Nat) (b : Nat) (la : Int32) (cg : Int64), (b ≤ hB hs) → (hB hs < b + n) → (la < 0 ↔ la = -9) → (flS (hCg hs) (cV hs t) r b = (la, !decide (cg &&& r = 0), false)) → ∀ ls : Array Slot, lv_has ls 9 [(7, .int (nI b)), (5, .long cg), (4, .int la), (0, .ref (q 9)), (1, .int (nI t)), (2, .long r)] → W p l e ({ frames := 1, cells := 0, slots := 0, locals := 22 } : Room) s m args below meth c0 s.heap [] 0 0 (QRi below args s (bI (flk (hCg hs) (cV hs t) r (hB hs)))) (F0 m 10 ls []) := by
    intro n
    induction n with
    | zero => intro b la cg hbB hn h9 hf ls hl; exact absurd hn (by omega)
    | succ n ih10 =>
      intro b la cg hbB hn h9 hf ls hl
      refine lv_iload hx hb dX0_wavers_10 (lv_at hl 0 rfl) ?_
      refine lv_aload_n hx hb dX0_wavers_12 rfl (lv_at hl 3 rfl) ?_
      refine va_get (D := D) (ci := 0) (v := .int (nI (hB hs))) (C := RX0) (T := TX0) (N := 4) hx hb hts hin0 hown hK.1 hP 0 rfl rfl 3 (by decide) (hts (.fieldLink RX0 21 "TestPicker$History" "size" "I") (by decide +kernel)) (fun _ h9 => h9) rfl dX0_wavers_13 ?_
      refine lv_icmp_ge (tgt := 85) hx hb dX0_wavers_16 (by decide) (fun c16 => ?_) (fun c16 => ?_)
      · -- 16 True
        have c16 : (hB hs) ≤ b := (nI_leI (a := (hB hs)) (b := b) (by omega) (by omega)).mp c16
        refine lv_iconst (v := 0) hx hb dX0_wavers_85 (by decide) ?_
        exact ro_retz hx hb hr hlk (by decide) ((bI_f (by rw [flk, show hB hs = b by omega, hf])).symm) dX0_wavers_86
      · -- 16 False
        have c16 : b < (hB hs) := (Nat.not_le.mp (fun z => c16 ((nI_leI (a := (hB hs)) (b := b) (by omega) (by omega)).mpr z)))
        refine lv_lload hx hb dX0_wavers_19 (lv_at hl 1 rfl) ?_
        refine lv_aload_n hx hb dX0_wavers_21 rfl (lv_at hl 3 rfl) ?_
        refine va_get (D := D) (ci := 0) (v := .ref (q 10)) (C := RX0) (T := TX0) (N := 4) hx hb hts hin0 hown hK.1 hP 0 rfl rfl 0 (by decide) (hts (.fieldLink RX0 9 "TestPicker$History" "changes" "[J") (by decide +kernel)) (fun _ h9 => h9) rfl dX0_wavers_22 ?_
        refine lv_iload hx hb dX0_wavers_25 (lv_at hl 0 rfl) ?_
        refine ld_l hx hb hK hP 1 (f := hCg hs) rfl (i := b) (by omega) (by decide) dX0_wavers_27 ?_
        refine lv_lor hx hb dX0_wavers_28 ?_
        refine lv_lstore (lv' := [(5, .long (cg ||| (hCg hs b))), (7, .int (nI b)), (4, .int la), (0, .ref (q 9)), (1, .int (nI t)), (2, .long r)]) hx hb dX0_wavers_29 hl (by decide) rfl (fun ls hl => ?_)
        refine lv_aload_n hx hb dX0_wavers_31 rfl (lv_at hl 3 rfl) ?_
        refine lv_iload_n hx hb dX0_wavers_32 rfl (lv_at hl 4 rfl) ?_
        refine lv_iload hx hb dX0_wavers_33 (lv_at hl 1 rfl) ?_
        refine ro_Vi (As := [.int (nI t), .int (nI b)]) (rest := []) ⟨hx, hb, hml, hown, hts⟩ (c_X0_verdictIn l D q c hs t b (by omega) (by omega)) (cwV 2 hts gX0_wavers_X0_verdictIn rfl rfl rfl (by decide +kernel) ⟨Nat.le_of_ble_eq_true rfl, Nat.le_of_ble_eq_true rfl⟩) hP hK (va_recv hK.1 hP (ci := 0) (q0 := 0) rfl rfl) rfl hl.1 rfl (Nat.le_of_ble_eq_true rfl) dX0_wavers_35 ⟨Nat.le_of_ble_eq_true rfl, Nat.le_of_ble_eq_true rfl⟩ ?_
        refine lv_istore (lv' := [(8, .int (vIn (hFe hs) (hPs hs) t b)), (5, .long (cg ||| (hCg hs b))), (7, .int (nI b)), (4, .int la), (0, .ref (q 9)), (1, .int (nI t)), (2, .long r)]) hx hb dX0_wavers_38 hl (by decide) rfl (fun ls hl => ?_)
        refine lv_iload hx hb dX0_wavers_40 (lv_at hl 0 rfl) ?_
        refine lv_bipush (v := (-9)) hx hb dX0_wavers_42 (by decide) ?_
        refine lv_icmp_eq (tgt := 79) hx hb dX0_wavers_44 (by decide) (fun c44 => ?_) (fun c44 => ?_)
        · -- 44 True
          refine lv_iinc (v := nI (b + 1)) (lv' := [(7, .int (nI (b + 1))), (8, .int (vIn (hFe hs) (hPs hs) t b)), (5, .long (cg ||| (hCg hs b))), (4, .int la), (0, .ref (q 9)), (1, .int (nI t)), (2, .long r)]) hx hb dX0_wavers_79 hl (k := 2) rfl (nI_inc _) (by decide) rfl (fun ls hl => ?_)
          refine lv_goto (tgt := 10) hx hb dX0_wavers_82 (by decide) ?_
          exact ih10 (b + 1) la (cg ||| (hCg hs b)) (by omega) (by omega) (h9) (wv_none hf c44) ls (lv_sub hl [0, 2, 3, 4, 5, 6] rfl)
        · -- 44 False
          refine lv_iload hx hb dX0_wavers_47 (lv_at hl 3 rfl) ?_
          refine lv_bipush (v := (-9)) hx hb dX0_wavers_49 (by decide) ?_
          refine lv_icmp_eq (tgt := 72) hx hb dX0_wavers_51 (by decide) (fun c51 => ?_) (fun c51 => ?_)
          · -- 51 True
            refine lv_iload hx hb dX0_wavers_72 (lv_at hl 0 rfl) ?_
            refine lv_istore (lv' := [(4, .int (vIn (hFe hs) (hPs hs) t b)), (8, .int (vIn (hFe hs) (hPs hs) t b)), (5, .long (cg ||| (hCg hs b))), (7, .int (nI b)), (0, .ref (q 9)), (1, .int (nI t)), (2, .long r)]) hx hb dX0_wavers_74 hl (by decide) rfl (fun ls hl => ?_)
            refine lv_lconst (v := 0) hx hb dX0_wavers_76 (by decide) ?_
            refine lv_lstore (lv' := [(5, .long 0), (4, .int (vIn (hFe hs) (hPs hs) t b)), (8, .int (vIn (hFe hs) (hPs hs) t b)), (7, .int (nI b)), (0, .ref (q 9)), (1, .int (nI t)), (2, .long r)]) hx hb dX0_wavers_77 hl (by decide) rfl (fun ls hl => ?_)
            refine lv_iinc (v := nI (b + 1)) (lv' := [(7, .int (nI (b + 1))), (5, .long 0), (4, .int (vIn (hFe hs) (hPs hs) t b)), (8, .int (vIn (hFe hs) (hPs hs) t b)), (0, .ref (q 9)), (1, .int (nI t)), (2, .long r)]) hx hb dX0_wavers_79 hl (k := 3) rfl (nI_inc _) (by decide) rfl (fun ls hl => ?_)
            refine lv_goto (tgt := 10) hx hb dX0_wavers_82 (by decide) ?_
            exact ih10 (b + 1) (vIn (hFe hs) (hPs hs) t b) 0 (by omega) (by omega) (vIn_neg _ _ _ _) (wv_seen hf c44 (Or.inl (h9.mpr c51))) ls (lv_sub hl [0, 1, 2, 4, 5, 6] rfl)
          · -- 51 False
            refine lv_iload hx hb dX0_wavers_54 (lv_at hl 3 rfl) ?_
            refine lv_iload hx hb dX0_wavers_56 (lv_at hl 0 rfl) ?_
            refine lv_icmp_eq (tgt := 72) hx hb dX0_wavers_58 (by decide) (fun c58 => ?_) (fun c58 => ?_)
            · -- 58 True
              refine lv_iload hx hb dX0_wavers_72 (lv_at hl 0 rfl) ?_
              refine lv_istore (lv' := [(4, .int (vIn (hFe hs) (hPs hs) t b)), (8, .int (vIn (hFe hs) (hPs hs) t b)), (5, .long (cg ||| (hCg hs b))), (7, .int (nI b)), (0, .ref (q 9)), (1, .int (nI t)), (2, .long r)]) hx hb dX0_wavers_74 hl (by decide) rfl (fun ls hl => ?_)
              refine lv_lconst (v := 0) hx hb dX0_wavers_76 (by decide) ?_
              refine lv_lstore (lv' := [(5, .long 0), (4, .int (vIn (hFe hs) (hPs hs) t b)), (8, .int (vIn (hFe hs) (hPs hs) t b)), (7, .int (nI b)), (0, .ref (q 9)), (1, .int (nI t)), (2, .long r)]) hx hb dX0_wavers_77 hl (by decide) rfl (fun ls hl => ?_)
              refine lv_iinc (v := nI (b + 1)) (lv' := [(7, .int (nI (b + 1))), (5, .long 0), (4, .int (vIn (hFe hs) (hPs hs) t b)), (8, .int (vIn (hFe hs) (hPs hs) t b)), (0, .ref (q 9)), (1, .int (nI t)), (2, .long r)]) hx hb dX0_wavers_79 hl (k := 3) rfl (nI_inc _) (by decide) rfl (fun ls hl => ?_)
              refine lv_goto (tgt := 10) hx hb dX0_wavers_82 (by decide) ?_
              exact ih10 (b + 1) (vIn (hFe hs) (hPs hs) t b) 0 (by omega) (by omega) (vIn_neg _ _ _ _) (wv_seen hf c44 (Or.inr (Or.inl c58))) ls (lv_sub hl [0, 1, 2, 4, 5, 6] rfl)
            · -- 58 False
              refine lv_lload hx hb dX0_wavers_61 (lv_at hl 1 rfl) ?_
              refine lv_lload_n hx hb dX0_wavers_63 rfl (lv_at hl 6 rfl) ?_
              refine lv_land hx hb dX0_wavers_64 ?_
              refine lv_lconst (v := 0) hx hb dX0_wavers_65 (by decide) ?_
              refine W.lcmp hx hb dX0_wavers_66 ?_
              refine lv_if_ne (tgt := 72) hx hb dX0_wavers_67 (by decide) (fun c67 => ?_) (fun c67 => ?_)
              · -- 67 True
                have c67 := lg_ne.mp c67
                refine lv_iload hx hb dX0_wavers_72 (lv_at hl 0 rfl) ?_
                refine lv_istore (lv' := [(4, .int (vIn (hFe hs) (hPs hs) t b)), (8, .int (vIn (hFe hs) (hPs hs) t b)), (5, .long (cg ||| (hCg hs b))), (7, .int (nI b)), (0, .ref (q 9)), (1, .int (nI t)), (2, .long r)]) hx hb dX0_wavers_74 hl (by decide) rfl (fun ls hl => ?_)
                refine lv_lconst (v := 0) hx hb dX0_wavers_76 (by decide) ?_
                refine lv_lstore (lv' := [(5, .long 0), (4, .int (vIn (hFe hs) (hPs hs) t b)), (8, .int (vIn (hFe hs) (hPs hs) t b)), (7, .int (nI b)), (0, .ref (q 9)), (1, .int (nI t)), (2, .long r)]) hx hb dX0_wavers_77 hl (by decide) rfl (fun ls hl => ?_)
                refine lv_iinc (v := nI (b + 1)) (lv' := [(7, .int (nI (b + 1))), (5, .long 0), (4, .int (vIn (hFe hs) (hPs hs) t b)), (8, .int (vIn (hFe hs) (hPs hs) t b)), (0, .ref (q 9)), (1, .int (nI t)), (2, .long r)]) hx hb dX0_wavers_79 hl (k := 3) rfl (nI_inc _) (by decide) rfl (fun ls hl => ?_)
                refine lv_goto (tgt := 10) hx hb dX0_wavers_82 (by decide) ?_
                exact ih10 (b + 1) (vIn (hFe hs) (hPs hs) t b) 0 (by omega) (by omega) (vIn_neg _ _ _ _) (wv_seen hf c44 (Or.inr (Or.inr c67))) ls (lv_sub hl [0, 1, 2, 4, 5, 6] rfl)
              · -- 67 False
                have c67 := (lg_cmp_eq _ _).mp c67
                refine lv_iconst (v := 1) hx hb dX0_wavers_70 (by decide) ?_
                exact ro_retz hx hb hr hlk (by decide) ((bI_t (wv_true hf (by omega) c44 (fun z => c51 (h9.mp z)) c58 c67)).symm) dX0_wavers_71
  exact L10 (hB hs + 1) 0 (-9) 0 (by omega) (by omega) (by decide) (by simp [flS, lAnd0]) ls (lv_sub hl [0, 1, 2, 3, 4, 5] rfl)

set_option maxHeartbeats 4000000 in
set_option maxRecDepth 100000 in
theorem c_X0_verdictsInAll (l : Launch) (D : va_G) (q : Nat → Nat) (c : CT) (hs : HS)  : ROi l yX0_verdictsInAll wsX0_verdictsInAll ({ frames := 1, cells := 0, slots := 0, locals := 21 } : Room) [.ref (q 9)] D c (wH q c hs) (vAll hs 20) := by
  refine ro_starti (cc := cX0_verdictsInAll) (maxL := 3) (ret := some .int) (by decide) rfl (Nat.le_of_ble_eq_true rfl) ?_
  intro p e s m args below meth c0 ls hx hb hr hml hown hts hlk hP hK hl
  have hown : s.vm.findClass RX0 = some m.cls := hown
  have hl : lv_has ls 3 [(0, .ref (q 9))] := hl
  have hin0 : ∀ w ∈ wsX00, w ∈ wsX0_verdictsInAll := by decide +kernel
  refine lv_iconst (v := 0) hx hb dX0_verdictsInAll_0 (by decide) ?_
  refine lv_istore_n (lv' := [(1, .int 0), (0, .ref (q 9))]) hx hb dX0_verdictsInAll_1 rfl hl (by decide) rfl (fun ls hl => ?_)
  refine lv_iconst (v := 0) hx hb dX0_verdictsInAll_2 (by decide) ?_
  refine lv_istore_n (lv' := [(2, .int 0), (1, .int 0), (0, .ref (q 9))]) hx hb dX0_verdictsInAll_3 rfl hl (by decide) rfl (fun ls hl => ?_)
  have L4 : ∀ (n : Nat) (i : Nat) (a : Int32), (i ≤ 20) → (20 < i + n) → (a = vAll hs i) → ∀ ls : Array Slot, lv_has ls 3 [(2, .int (nI i)), (1, .int a), (0, .ref (q 9))] → W p l e ({ frames := 1, cells := 0, slots := 0, locals := 21 } : Room) s m args below meth c0 s.heap [] 0 0 (QRi below args s (vAll hs 20)) (F0 m 4 ls []) := by
    intro n
    induction n with
    | zero => intro i a hi hn ha ls hl; exact absurd hn (by omega)
    | succ n ih4 =>
      intro i a hi hn ha ls hl
      refine lv_iload_n hx hb dX0_verdictsInAll_4 rfl (lv_at hl 0 rfl) ?_
      refine lv_bipush (v := 20) hx hb dX0_verdictsInAll_5 (by decide) ?_
      refine lv_icmp_ge (tgt := 38) hx hb dX0_verdictsInAll_7 (by decide) (fun c7 => ?_) (fun c7 => ?_)
      · -- 7 True
        have c7 : 20 ≤ i := (nI_leI (a := 20) (b := i) (by omega) (by omega)).mp c7
        refine lv_iload_n hx hb dX0_verdictsInAll_38 rfl (lv_at hl 1 rfl) ?_
        exact ro_reti hx hb hr hlk (by rw [ha, show i = 20 by omega]) dX0_verdictsInAll_39
      · -- 7 False
        have c7 : i < 20 := (Nat.not_le.mp (fun z => c7 ((nI_leI (a := 20) (b := i) (by omega) (by omega)).mpr z)))
        refine lv_iload_n hx hb dX0_verdictsInAll_10 rfl (lv_at hl 1 rfl) ?_
        refine lv_aload_n hx hb dX0_verdictsInAll_11 rfl (lv_at hl 2 rfl) ?_
        refine va_get (D := D) (ci := 0) (v := .ref (q 11)) (C := RX0) (T := TX0) (N := 4) hx hb hts hin0 hown hK.1 hP 0 rfl rfl 1 (by decide) (hts (.fieldLink RX0 15 "TestPicker$History" "fellIn" "[J") (by decide +kernel)) (fun _ h9 => h9) rfl dX0_verdictsInAll_12 ?_
        refine lv_iload_n hx hb dX0_verdictsInAll_15 rfl (lv_at hl 0 rfl) ?_
        refine ld_l hx hb hK hP 2 (f := hFe hs) rfl (i := i) (by omega) (by decide) dX0_verdictsInAll_16 ?_
        refine ro_Si (As := [.long (hFe hs i)]) (rest := [.int a]) ⟨hx, hb, hml, hown, hts⟩ (c_J13_bitCount_95d88 l D c (hFe hs i)) (va_cwS 1 hts gX0_verdictsInAll_J13_bitCount_95d88 rfl rfl rfl (by decide +kernel) ⟨Nat.le_of_ble_eq_true rfl, Nat.le_of_ble_eq_true rfl⟩) va_P0 hK rfl hl.1 rfl (Nat.le_of_ble_eq_true rfl) dX0_verdictsInAll_17 ⟨Nat.le_of_ble_eq_true rfl, Nat.le_of_ble_eq_true rfl⟩ ?_
        refine lv_aload_n hx hb dX0_verdictsInAll_20 rfl (lv_at hl 2 rfl) ?_
        refine va_get (D := D) (ci := 0) (v := .ref (q 12)) (C := RX0) (T := TX0) (N := 4) hx hb hts hin0 hown hK.1 hP 0 rfl rfl 2 (by decide) (hts (.fieldLink RX0 18 "TestPicker$History" "passedIn" "[J") (by decide +kernel)) (fun _ h9 => h9) rfl dX0_verdictsInAll_21 ?_
        refine lv_iload_n hx hb dX0_verdictsInAll_24 rfl (lv_at hl 0 rfl) ?_
        refine ld_l hx hb hK hP 3 (f := hPs hs) rfl (i := i) (by omega) (by decide) dX0_verdictsInAll_25 ?_
        refine ro_Si (As := [.long (hPs hs i)]) (rest := [.int (popL (hFe hs i)), .int a]) ⟨hx, hb, hml, hown, hts⟩ (c_J13_bitCount_95d88 l D c (hPs hs i)) (va_cwS 1 hts gX0_verdictsInAll_J13_bitCount_95d88 rfl rfl rfl (by decide +kernel) ⟨Nat.le_of_ble_eq_true rfl, Nat.le_of_ble_eq_true rfl⟩) va_P0 hK rfl hl.1 rfl (Nat.le_of_ble_eq_true rfl) dX0_verdictsInAll_26 ⟨Nat.le_of_ble_eq_true rfl, Nat.le_of_ble_eq_true rfl⟩ ?_
        refine lv_iadd hx hb dX0_verdictsInAll_29 ?_
        refine lv_iadd hx hb dX0_verdictsInAll_30 ?_
        refine lv_istore_n (lv' := [(1, .int (a + (popL (hFe hs i) + popL (hPs hs i)))), (2, .int (nI i)), (0, .ref (q 9))]) hx hb dX0_verdictsInAll_31 rfl hl (by decide) rfl (fun ls hl => ?_)
        refine lv_iinc (v := nI (i + 1)) (lv' := [(2, .int (nI (i + 1))), (1, .int (a + (popL (hFe hs i) + popL (hPs hs i)))), (0, .ref (q 9))]) hx hb dX0_verdictsInAll_32 hl (k := 1) rfl (nI_inc _) (by decide) rfl (fun ls hl => ?_)
        refine lv_goto (tgt := 4) hx hb dX0_verdictsInAll_35 (by decide) ?_
        exact ih4 (i + 1) (a + (popL (hFe hs i) + popL (hPs hs i))) (by omega) (by omega) (by rw [ha]; rfl) ls (lv_sub hl [0, 1, 2] rfl)
  exact L4 (21) 0 0 (by omega) (by omega) (rfl) ls (lv_sub hl [0, 1, 2] rfl)

set_option maxHeartbeats 4000000 in
set_option maxRecDepth 100000 in
theorem c_X1_partsSeen (l : Launch) (D : va_G) (q : Nat → Nat) (c : CT) (ps : PS)  : ROi l yX1_partsSeen wsX1_partsSeen ({ frames := 1, cells := 0, slots := 0, locals := 21 } : Room) [.ref (q 13)] D c (wP q c ps) (popL (pSeen ps &&& pChg ps)) := by
  refine ro_starti (cc := cX1_partsSeen) (maxL := 1) (ret := some .int) (by decide) rfl (Nat.le_of_ble_eq_true rfl) ?_
  intro p e s m args below meth c0 ls hx hb hr hml hown hts hlk hP hK hl
  have hown : s.vm.findClass RX1 = some m.cls := hown
  have hl : lv_has ls 1 [(0, .ref (q 13))] := hl
  have hin1 : ∀ w ∈ wsX10, w ∈ wsX1_partsSeen := by decide +kernel
  refine lv_aload_n hx hb dX1_partsSeen_0 rfl (lv_at hl 0 rfl) ?_
  refine va_get (D := D) (ci := 1) (v := .long (pSeen ps)) (C := RX1) (T := TX1) (N := 7) hx hb hts hin1 hown hK.1 hP 0 rfl rfl 4 (by decide) (hts (.fieldLink RX1 25 "TestPicker$Plan" "seen" "J") (by decide +kernel)) (fun _ h9 => h9) rfl dX1_partsSeen_1 ?_
  refine lv_aload_n hx hb dX1_partsSeen_4 rfl (lv_at hl 0 rfl) ?_
  refine va_get (D := D) (ci := 1) (v := .long (pChg ps)) (C := RX1) (T := TX1) (N := 7) hx hb hts hin1 hown hK.1 hP 0 rfl rfl 5 (by decide) (hts (.fieldLink RX1 29 "TestPicker$Plan" "change" "J") (by decide +kernel)) (fun _ h9 => h9) rfl dX1_partsSeen_5 ?_
  refine lv_land hx hb dX1_partsSeen_8 ?_
  refine ro_Si (As := [.long (pSeen ps &&& pChg ps)]) (rest := []) ⟨hx, hb, hml, hown, hts⟩ (c_J13_bitCount_95d88 l D c (pSeen ps &&& pChg ps)) (va_cwS 1 hts gX1_partsSeen_J13_bitCount_95d88 rfl rfl rfl (by decide +kernel) ⟨Nat.le_of_ble_eq_true rfl, Nat.le_of_ble_eq_true rfl⟩) va_P0 hK rfl hl.1 rfl (Nat.le_of_ble_eq_true rfl) dX1_partsSeen_9 ⟨Nat.le_of_ble_eq_true rfl, Nat.le_of_ble_eq_true rfl⟩ ?_
  exact ro_reti hx hb hr hlk (rfl) dX1_partsSeen_12

set_option maxHeartbeats 4000000 in
set_option maxRecDepth 100000 in
theorem c_X2_isWider (l : Launch) (D : va_G) (q : Nat → Nat) (c : CT) (ss : SS) (k : Nat) (hp : k < 13) : ROi l yX2_isWider wsX2_isWider ({ frames := 1, cells := 0, slots := 0, locals := 21 } : Room) [.ref (q 15), .int (nI k)] D c (wS q c ss) (bI (wdr ss k)) := by
  refine ro_starti (cc := cX2_isWider) (maxL := 3) (ret := some .boolean) (by decide) rfl (Nat.le_of_ble_eq_true rfl) ?_
  intro p e s m args below meth c0 ls hx hb hr hml hown hts hlk hP hK hl
  have hown : s.vm.findClass RX2 = some m.cls := hown
  have hl : lv_has ls 3 [(0, .ref (q 15)), (1, .int (nI k))] := hl
  have hin2 : ∀ w ∈ wsX20, w ∈ wsX2_isWider := by decide +kernel
  refine lv_aload_n hx hb dX2_isWider_0 rfl (lv_at hl 0 rfl) ?_
  refine va_get (D := D) (ci := 2) (v := .ref (q 23)) (C := RX2) (T := TX2) (N := 12) hx hb hts hin2 hown hK.1 hP 0 rfl rfl 8 (by decide) (hts (.fieldLink RX2 38 "TestPicker$Sets" "coverFrom" "[J") (by decide +kernel)) (fun _ h9 => h9) rfl dX2_isWider_1 ?_
  refine lv_iload_n hx hb dX2_isWider_4 rfl (lv_at hl 1 rfl) ?_
  refine ld_l hx hb hK hP 8 (f := sVf ss) rfl (i := k) (by omega) (by decide) dX2_isWider_5 ?_
  refine ro_Si (As := [.long (sVf ss k)]) (rest := []) ⟨hx, hb, hml, hown, hts⟩ (c_J13_bitCount_95d88 l D c (sVf ss k)) (va_cwS 1 hts gX2_isWider_J13_bitCount_95d88 rfl rfl rfl (by decide +kernel) ⟨Nat.le_of_ble_eq_true rfl, Nat.le_of_ble_eq_true rfl⟩) va_P0 hK rfl hl.1 rfl (Nat.le_of_ble_eq_true rfl) dX2_isWider_6 ⟨Nat.le_of_ble_eq_true rfl, Nat.le_of_ble_eq_true rfl⟩ ?_
  refine lv_aload_n hx hb dX2_isWider_9 rfl (lv_at hl 0 rfl) ?_
  refine va_get (D := D) (ci := 2) (v := .long (sFc ss)) (C := RX2) (T := TX2) (N := 12) hx hb hts hin2 hown hK.1 hP 0 rfl rfl 11 (by decide) (hts (.fieldLink RX2 47 "TestPicker$Sets" "foundCover" "J") (by decide +kernel)) (fun _ h9 => h9) rfl dX2_isWider_10 ?_
  refine ro_Si (As := [.long (sFc ss)]) (rest := [.int (popL (sVf ss k))]) ⟨hx, hb, hml, hown, hts⟩ (c_J13_bitCount_95d88 l D c (sFc ss)) (va_cwS 1 hts gX2_isWider_J13_bitCount_95d88 rfl rfl rfl (by decide +kernel) ⟨Nat.le_of_ble_eq_true rfl, Nat.le_of_ble_eq_true rfl⟩) va_P0 hK rfl hl.1 rfl (Nat.le_of_ble_eq_true rfl) dX2_isWider_13 ⟨Nat.le_of_ble_eq_true rfl, Nat.le_of_ble_eq_true rfl⟩ ?_
  refine lv_isub hx hb dX2_isWider_16 ?_
  refine lv_istore_n (lv' := [(2, .int (popL (sVf ss k) - popL (sFc ss))), (0, .ref (q 15)), (1, .int (nI k))]) hx hb dX2_isWider_17 rfl hl (by decide) rfl (fun ls hl => ?_)
  refine lv_iload_n hx hb dX2_isWider_18 rfl (lv_at hl 0 rfl) ?_
  refine lv_if_gt (tgt := 39) hx hb dX2_isWider_19 (by decide) (fun c19 => ?_) (fun c19 => ?_)
  · -- 19 True
    refine lv_iconst (v := 1) hx hb dX2_isWider_39 (by decide) ?_
    refine lv_goto (tgt := 44) hx hb dX2_isWider_40 (by decide) ?_
    exact ro_retz hx hb hr hlk (by decide) (by simp [wdr, bI, c19]) dX2_isWider_44
  · -- 19 False
    refine lv_iload_n hx hb dX2_isWider_22 rfl (lv_at hl 0 rfl) ?_
    refine lv_if_ne (tgt := 43) hx hb dX2_isWider_23 (by decide) (fun c23 => ?_) (fun c23 => ?_)
    · -- 23 True
      refine lv_iconst (v := 0) hx hb dX2_isWider_43 (by decide) ?_
      exact ro_retz hx hb hr hlk (by decide) (by simp [wdr, bI, c19, c23]) dX2_isWider_44
    · -- 23 False
      refine lv_aload_n hx hb dX2_isWider_26 rfl (lv_at hl 1 rfl) ?_
      refine va_get (D := D) (ci := 2) (v := .ref (q 22)) (C := RX2) (T := TX2) (N := 12) hx hb hts hin2 hown hK.1 hP 0 rfl rfl 7 (by decide) (hts (.fieldLink RX2 35 "TestPicker$Sets" "timeFrom" "[I") (by decide +kernel)) (fun _ h9 => h9) rfl dX2_isWider_27 ?_
      refine lv_iload_n hx hb dX2_isWider_30 rfl (lv_at hl 2 rfl) ?_
      refine ld_i hx hb hK hP 7 (f := sTf ss) rfl (i := k) (by omega) (by decide) dX2_isWider_31 ?_
      refine lv_aload_n hx hb dX2_isWider_32 rfl (lv_at hl 1 rfl) ?_
      refine va_get (D := D) (ci := 2) (v := .int (sFt ss)) (C := RX2) (T := TX2) (N := 12) hx hb hts hin2 hown hK.1 hP 0 rfl rfl 10 (by decide) (hts (.fieldLink RX2 44 "TestPicker$Sets" "foundTime" "I") (by decide +kernel)) (fun _ h9 => h9) rfl dX2_isWider_33 ?_
      refine lv_icmp_ge (tgt := 43) hx hb dX2_isWider_36 (by decide) (fun c36 => ?_) (fun c36 => ?_)
      · -- 36 True
        refine lv_iconst (v := 0) hx hb dX2_isWider_43 (by decide) ?_
        exact ro_retz hx hb hr hlk (by decide) (by simp [wdr, bI, c19, c23, c36]) dX2_isWider_44
      · -- 36 False
        refine lv_iconst (v := 1) hx hb dX2_isWider_39 (by decide) ?_
        refine lv_goto (tgt := 44) hx hb dX2_isWider_40 (by decide) ?_
        exact ro_retz hx hb hr hlk (by decide) (by simp [wdr, bI, c19, c23, c36]) dX2_isWider_44

set_option maxHeartbeats 4000000 in
set_option maxRecDepth 100000 in
theorem c_X4_isFlaky (l : Launch) (D : va_G) (q : Nat → Nat) (c : CT) (ms : MS) (ts : TS) (hs : HS) (ps : PS) (ss : SS) (t : Nat) (ht : t < 20) (hb60 : hB hs ≤ 60) : ROi l yX4_isFlaky wsX4_isFlaky ({ frames := 2, cells := 0, slots := 0, locals := 50 } : Room) [.ref (q 0), .int (nI t)] D c (wC q c (ms, ts, hs, ps, ss)) (bI (cFk ts hs t)) := by
  refine ro_starti (cc := cX4_isFlaky) (maxL := 2) (ret := some .boolean) (by decide) rfl (Nat.le_of_ble_eq_true rfl) ?_
  intro p e s m args below meth c0 ls hx hb hr hml hown hts hlk hP hK hl
  have hown : s.vm.findClass RX4 = some m.cls := hown
  have hl : lv_has ls 2 [(0, .ref (q 0)), (1, .int (nI t))] := hl
  have hin3 : ∀ w ∈ wsX30, w ∈ wsX4_isFlaky := by decide +kernel
  have hin4 : ∀ w ∈ wsX40, w ∈ wsX4_isFlaky := by decide +kernel
  refine lv_aload_n hx hb dX4_isFlaky_0 rfl (lv_at hl 0 rfl) ?_
  refine va_get (D := D) (ci := 4) (v := .ref (q 9)) (C := RX4) (T := TX4) (N := 7) hx hb hts hin4 hown hK.1 hP 0 rfl rfl 1 (by decide) (hts (.fieldLink RX4 19 "TestPicker" "history" "LTestPicker$History;") (by decide +kernel)) (fun _ h9 => h9) rfl dX4_isFlaky_1 ?_
  refine lv_iload_n hx hb dX4_isFlaky_4 rfl (lv_at hl 1 rfl) ?_
  refine lv_aload_n hx hb dX4_isFlaky_5 rfl (lv_at hl 0 rfl) ?_
  refine va_get (D := D) (ci := 4) (v := .ref (q 2)) (C := RX4) (T := TX4) (N := 7) hx hb hts hin4 hown hK.1 hP 0 rfl rfl 0 (by decide) (hts (.fieldLink RX4 10 "TestPicker" "tests" "LTestPicker$Tests;") (by decide +kernel)) (fun _ h9 => h9) rfl dX4_isFlaky_6 ?_
  refine va_get (D := D) (ci := 3) (v := .ref (q 7)) (C := RX3) (T := TX3) (N := 7) hx hb hts hin3 hown hK.1 hP 2 rfl rfl 4 (by decide) (hts (.fieldLink RX4 85 "TestPicker$Tests" "parts" "[J") (by decide +kernel)) (fun _ h9 => h9) rfl dX4_isFlaky_9 ?_
  refine lv_iload_n hx hb dX4_isFlaky_12 rfl (lv_at hl 1 rfl) ?_
  refine ld_l hx hb hK hP 7 (f := tPa ts) rfl (i := t) (by omega) (by decide) dX4_isFlaky_13 ?_
  refine ro_Vi (As := [.int (nI t), .long (tPa ts t)]) (rest := []) ⟨hx, hb, hml, hown, hts⟩ (c_X0_wavers l D q c hs t (tPa ts t) (by omega) (by omega)) (cwV 2 hts gX4_isFlaky_X0_wavers rfl rfl rfl (by decide +kernel) ⟨Nat.le_of_ble_eq_true rfl, Nat.le_of_ble_eq_true rfl⟩) (hP.sub (ws' := wH q c hs) [9, 10, 11, 12] rfl) hK (va_recv hK.1 hP (ci := 0) (q0 := 9) rfl rfl) rfl hl.1 rfl (Nat.le_of_ble_eq_true rfl) dX4_isFlaky_14 ⟨Nat.le_of_ble_eq_true rfl, Nat.le_of_ble_eq_true rfl⟩ ?_
  exact ro_retz hx hb hr hlk (bI_or _) (rfl) dX4_isFlaky_17

set_option maxHeartbeats 4000000 in
set_option maxRecDepth 100000 in
theorem c_X4_factOf (l : Launch) (D : va_G) (q : Nat → Nat) (c : CT) (ms : MS) (ts : TS) (hs : HS) (ps : PS) (ss : SS) (t : Nat) (x : Int32) (ht : t < 20) (hb60 : hB hs ≤ 60) : ROi l yX4_factOf wsX4_factOf ({ frames := 3, cells := 0, slots := 0, locals := 71 } : Room) [.ref (q 0), .int (nI t), .int x] D c (wC q c (ms, ts, hs, ps, ss)) (cTl ts hs t x) := by
  refine ro_starti (cc := cX4_factOf) (maxL := 3) (ret := some .int) (by decide) rfl (Nat.le_of_ble_eq_true rfl) ?_
  intro p e s m args below meth c0 ls hx hb hr hml hown hts hlk hP hK hl
  have hown : s.vm.findClass RX4 = some m.cls := hown
  have hl : lv_has ls 3 [(0, .ref (q 0)), (1, .int (nI t)), (2, .int x)] := hl
  have hin3 : ∀ w ∈ wsX30, w ∈ wsX4_factOf := by decide +kernel
  have hin4 : ∀ w ∈ wsX40, w ∈ wsX4_factOf := by decide +kernel
  refine lv_iload_n hx hb dX4_factOf_0 rfl (lv_at hl 2 rfl) ?_
  by_cases c1_0 : x = 0
  · -- case 0
    refine lv_tableIn (tgt := 40) (off := 39) hx hb dX4_factOf_1 (by rw [c1_0]; decide) (by rw [c1_0]; decide) (by rw [c1_0]; decide) (by decide) ?_
    refine lv_aload_n hx hb dX4_factOf_40 rfl (lv_at hl 0 rfl) ?_
    refine va_get (D := D) (ci := 4) (v := .ref (q 2)) (C := RX4) (T := TX4) (N := 7) hx hb hts hin4 hown hK.1 hP 0 rfl rfl 0 (by decide) (hts (.fieldLink RX4 10 "TestPicker" "tests" "LTestPicker$Tests;") (by decide +kernel)) (fun _ h9 => h9) rfl dX4_factOf_41 ?_
    refine va_get (D := D) (ci := 3) (v := .ref (q 3)) (C := RX3) (T := TX3) (N := 7) hx hb hts hin3 hown hK.1 hP 2 rfl rfl 0 (by decide) (hts (.fieldLink RX4 63 "TestPicker$Tests" "kinds" "[I") (by decide +kernel)) (fun _ h9 => h9) rfl dX4_factOf_44 ?_
    refine lv_iload_n hx hb dX4_factOf_47 rfl (lv_at hl 1 rfl) ?_
    refine ld_i hx hb hK hP 3 (f := tKd ts) rfl (i := t) (by omega) (by decide) dX4_factOf_48 ?_
    exact ro_reti hx hb hr hlk (by simp [cTl, c1_0]) dX4_factOf_49
  by_cases c1_1 : x = 1
  · -- case 1
    refine lv_tableIn (tgt := 50) (off := 49) hx hb dX4_factOf_1 (by rw [c1_1]; decide) (by rw [c1_1]; decide) (by rw [c1_1]; decide) (by decide) ?_
    refine lv_aload_n hx hb dX4_factOf_50 rfl (lv_at hl 0 rfl) ?_
    refine va_get (D := D) (ci := 4) (v := .ref (q 2)) (C := RX4) (T := TX4) (N := 7) hx hb hts hin4 hown hK.1 hP 0 rfl rfl 0 (by decide) (hts (.fieldLink RX4 10 "TestPicker" "tests" "LTestPicker$Tests;") (by decide +kernel)) (fun _ h9 => h9) rfl dX4_factOf_51 ?_
    refine lv_iload_n hx hb dX4_factOf_54 rfl (lv_at hl 1 rfl) ?_
    refine ro_Vi (As := [.int (nI t)]) (rest := []) ⟨hx, hb, hml, hown, hts⟩ (c_X3_countedTime l D q c ts t (by omega)) (cwV 1 hts gX4_factOf_X3_countedTime rfl rfl rfl (by decide +kernel) ⟨Nat.le_of_ble_eq_true rfl, Nat.le_of_ble_eq_true rfl⟩) (hP.sub (ws' := wT q c ts) [2, 3, 4, 5, 6, 7, 8] rfl) hK (va_recv hK.1 hP (ci := 3) (q0 := 2) rfl rfl) rfl hl.1 rfl (Nat.le_of_ble_eq_true rfl) dX4_factOf_55 ⟨Nat.le_of_ble_eq_true rfl, Nat.le_of_ble_eq_true rfl⟩ ?_
    exact ro_reti hx hb hr hlk (by simp [cTl, c1_1]) dX4_factOf_58
  by_cases c1_2 : x = 2
  · -- case 2
    refine lv_tableIn (tgt := 59) (off := 58) hx hb dX4_factOf_1 (by rw [c1_2]; decide) (by rw [c1_2]; decide) (by rw [c1_2]; decide) (by decide) ?_
    refine lv_aload_n hx hb dX4_factOf_59 rfl (lv_at hl 0 rfl) ?_
    refine va_get (D := D) (ci := 4) (v := .ref (q 2)) (C := RX4) (T := TX4) (N := 7) hx hb hts hin4 hown hK.1 hP 0 rfl rfl 0 (by decide) (hts (.fieldLink RX4 10 "TestPicker" "tests" "LTestPicker$Tests;") (by decide +kernel)) (fun _ h9 => h9) rfl dX4_factOf_60 ?_
    refine va_get (D := D) (ci := 3) (v := .ref (q 5)) (C := RX3) (T := TX3) (N := 7) hx hb hts hin3 hown hK.1 hP 2 rfl rfl 2 (by decide) (hts (.fieldLink RX4 234 "TestPicker$Tests" "needs" "[I") (by decide +kernel)) (fun _ h9 => h9) rfl dX4_factOf_63 ?_
    refine lv_iload_n hx hb dX4_factOf_66 rfl (lv_at hl 1 rfl) ?_
    refine ld_i hx hb hK hP 5 (f := tNd ts) rfl (i := t) (by omega) (by decide) dX4_factOf_67 ?_
    exact ro_reti hx hb hr hlk (by simp [cTl, c1_2]) dX4_factOf_68
  by_cases c1_3 : x = 3
  · -- case 3
    refine lv_tableIn (tgt := 69) (off := 68) hx hb dX4_factOf_1 (by rw [c1_3]; decide) (by rw [c1_3]; decide) (by rw [c1_3]; decide) (by decide) ?_
    refine lv_aload_n hx hb dX4_factOf_69 rfl (lv_at hl 0 rfl) ?_
    refine va_get (D := D) (ci := 4) (v := .ref (q 9)) (C := RX4) (T := TX4) (N := 7) hx hb hts hin4 hown hK.1 hP 0 rfl rfl 1 (by decide) (hts (.fieldLink RX4 19 "TestPicker" "history" "LTestPicker$History;") (by decide +kernel)) (fun _ h9 => h9) rfl dX4_factOf_70 ?_
    refine lv_iload_n hx hb dX4_factOf_73 rfl (lv_at hl 1 rfl) ?_
    refine ro_Vi (As := [.int (nI t)]) (rest := []) ⟨hx, hb, hml, hown, hts⟩ (c_X0_heat l D q c hs t (by omega) (by omega)) (cwV 1 hts gX4_factOf_X0_heat rfl rfl rfl (by decide +kernel) ⟨Nat.le_of_ble_eq_true rfl, Nat.le_of_ble_eq_true rfl⟩) (hP.sub (ws' := wH q c hs) [9, 10, 11, 12] rfl) hK (va_recv hK.1 hP (ci := 0) (q0 := 9) rfl rfl) rfl hl.1 rfl (Nat.le_of_ble_eq_true rfl) dX4_factOf_74 ⟨Nat.le_of_ble_eq_true rfl, Nat.le_of_ble_eq_true rfl⟩ ?_
    exact ro_reti hx hb hr hlk (by simp [cTl, c1_3]) dX4_factOf_77
  by_cases c1_4 : x = 4
  · -- case 4
    refine lv_tableIn (tgt := 78) (off := 77) hx hb dX4_factOf_1 (by rw [c1_4]; decide) (by rw [c1_4]; decide) (by rw [c1_4]; decide) (by decide) ?_
    refine lv_aload_n hx hb dX4_factOf_78 rfl (lv_at hl 0 rfl) ?_
    refine lv_iload_n hx hb dX4_factOf_79 rfl (lv_at hl 1 rfl) ?_
    refine ro_Vi (As := [.int (nI t)]) (rest := []) ⟨hx, hb, hml, hown, hts⟩ (c_X4_isFlaky l D q c ms ts hs ps ss t (by omega) (by omega)) (cwV 1 hts gX4_factOf_X4_isFlaky rfl rfl rfl (by decide +kernel) ⟨Nat.le_of_ble_eq_true rfl, Nat.le_of_ble_eq_true rfl⟩) hP hK (va_recv hK.1 hP (ci := 4) (q0 := 0) rfl rfl) rfl hl.1 rfl (Nat.le_of_ble_eq_true rfl) dX4_factOf_80 ⟨Nat.le_of_ble_eq_true rfl, Nat.le_of_ble_eq_true rfl⟩ ?_
    refine lv_if_eq (tgt := 90) hx hb dX4_factOf_83 (by decide) (fun c83 => ?_) (fun c83 => ?_)
    · -- 83 True
      have c83 := bI_z.mp c83
      refine lv_iconst (v := 0) hx hb dX4_factOf_90 (by decide) ?_
      exact ro_reti hx hb hr hlk (by simp [cTl, c1_4, c83, bI]) dX4_factOf_91
    · -- 83 False
      have c83 := bI_nz.mp c83
      refine lv_iconst (v := 1) hx hb dX4_factOf_86 (by decide) ?_
      refine lv_goto (tgt := 91) hx hb dX4_factOf_87 (by decide) ?_
      exact ro_reti hx hb hr hlk (by simp [cTl, c1_4, c83, bI]) dX4_factOf_91
  by_cases c1_5 : x = 5
  · -- case 5
    refine lv_tableIn (tgt := 92) (off := 91) hx hb dX4_factOf_1 (by rw [c1_5]; decide) (by rw [c1_5]; decide) (by rw [c1_5]; decide) (by decide) ?_
    refine lv_aload_n hx hb dX4_factOf_92 rfl (lv_at hl 0 rfl) ?_
    refine va_get (D := D) (ci := 4) (v := .ref (q 9)) (C := RX4) (T := TX4) (N := 7) hx hb hts hin4 hown hK.1 hP 0 rfl rfl 1 (by decide) (hts (.fieldLink RX4 19 "TestPicker" "history" "LTestPicker$History;") (by decide +kernel)) (fun _ h9 => h9) rfl dX4_factOf_93 ?_
    refine lv_iload_n hx hb dX4_factOf_96 rfl (lv_at hl 1 rfl) ?_
    refine ro_Vi (As := [.int (nI t)]) (rest := []) ⟨hx, hb, hml, hown, hts⟩ (c_X0_fellLast l D q c hs t (by omega)) (cwV 1 hts gX4_factOf_X0_fellLast rfl rfl rfl (by decide +kernel) ⟨Nat.le_of_ble_eq_true rfl, Nat.le_of_ble_eq_true rfl⟩) (hP.sub (ws' := wH q c hs) [9, 10, 11, 12] rfl) hK (va_recv hK.1 hP (ci := 0) (q0 := 9) rfl rfl) rfl hl.1 rfl (Nat.le_of_ble_eq_true rfl) dX4_factOf_97 ⟨Nat.le_of_ble_eq_true rfl, Nat.le_of_ble_eq_true rfl⟩ ?_
    refine lv_if_eq (tgt := 115) hx hb dX4_factOf_100 (by decide) (fun c100 => ?_) (fun c100 => ?_)
    · -- 100 True
      have c100 := bI_z.mp c100
      refine lv_iconst (v := 0) hx hb dX4_factOf_115 (by decide) ?_
      exact ro_reti hx hb hr hlk (by simp [cTl, c1_5, c100, bI]) dX4_factOf_116
    · -- 100 False
      have c100 := bI_nz.mp c100
      refine lv_aload_n hx hb dX4_factOf_103 rfl (lv_at hl 0 rfl) ?_
      refine lv_iload_n hx hb dX4_factOf_104 rfl (lv_at hl 1 rfl) ?_
      refine ro_Vi (As := [.int (nI t)]) (rest := []) ⟨hx, hb, hml, hown, hts⟩ (c_X4_isFlaky l D q c ms ts hs ps ss t (by omega) (by omega)) (cwV 1 hts gX4_factOf_X4_isFlaky rfl rfl rfl (by decide +kernel) ⟨Nat.le_of_ble_eq_true rfl, Nat.le_of_ble_eq_true rfl⟩) hP hK (va_recv hK.1 hP (ci := 4) (q0 := 0) rfl rfl) rfl hl.1 rfl (Nat.le_of_ble_eq_true rfl) dX4_factOf_105 ⟨Nat.le_of_ble_eq_true rfl, Nat.le_of_ble_eq_true rfl⟩ ?_
      refine lv_if_ne (tgt := 115) hx hb dX4_factOf_108 (by decide) (fun c108 => ?_) (fun c108 => ?_)
      · -- 108 True
        have c108 := bI_nz.mp c108
        refine lv_iconst (v := 0) hx hb dX4_factOf_115 (by decide) ?_
        exact ro_reti hx hb hr hlk (by simp [cTl, c1_5, c100, c108, bI]) dX4_factOf_116
      · -- 108 False
        have c108 := bI_z.mp c108
        refine lv_iconst (v := 1) hx hb dX4_factOf_111 (by decide) ?_
        refine lv_goto (tgt := 116) hx hb dX4_factOf_112 (by decide) ?_
        exact ro_reti hx hb hr hlk (by simp [cTl, c1_5, c100, c108, bI]) dX4_factOf_116
  refine lv_tableOut (tgt := 117) hx hb dX4_factOf_1 (sw6 c1_0 c1_1 c1_2 c1_3 c1_4 c1_5) (by decide) ?_
  refine lv_aload_n hx hb dX4_factOf_117 rfl (lv_at hl 0 rfl) ?_
  refine va_get (D := D) (ci := 4) (v := .ref (q 2)) (C := RX4) (T := TX4) (N := 7) hx hb hts hin4 hown hK.1 hP 0 rfl rfl 0 (by decide) (hts (.fieldLink RX4 10 "TestPicker" "tests" "LTestPicker$Tests;") (by decide +kernel)) (fun _ h9 => h9) rfl dX4_factOf_118 ?_
  refine va_get (D := D) (ci := 3) (v := .ref (q 6)) (C := RX3) (T := TX3) (N := 7) hx hb hts hin3 hown hK.1 hP 2 rfl rfl 3 (by decide) (hts (.fieldLink RX4 180 "TestPicker$Tests" "chains" "[I") (by decide +kernel)) (fun _ h9 => h9) rfl dX4_factOf_121 ?_
  refine lv_iload_n hx hb dX4_factOf_124 rfl (lv_at hl 1 rfl) ?_
  refine ld_i hx hb hK hP 6 (f := tCh ts) rfl (i := t) (by omega) (by decide) dX4_factOf_125 ?_
  refine ro_Si (As := [.int (tCh ts t)]) (rest := []) ⟨hx, hb, hml, hown, hts⟩ (c_J6_bitCount_0f7a4 l D c (tCh ts t)) (va_cwS 1 hts gX4_factOf_J6_bitCount_0f7a4 rfl rfl rfl (by decide +kernel) ⟨Nat.le_of_ble_eq_true rfl, Nat.le_of_ble_eq_true rfl⟩) va_P0 hK rfl hl.1 rfl (Nat.le_of_ble_eq_true rfl) dX4_factOf_126 ⟨Nat.le_of_ble_eq_true rfl, Nat.le_of_ble_eq_true rfl⟩ ?_
  exact ro_reti hx hb hr hlk (by simp [cTl, c1_0, c1_1, c1_2, c1_3, c1_4, c1_5]) dX4_factOf_129

set_option maxHeartbeats 4000000 in
set_option maxRecDepth 100000 in
theorem c_X4_digestOfTest (l : Launch) (D : va_G) (q : Nat → Nat) (c : CT) (ms : MS) (ts : TS) (hs : HS) (ps : PS) (ss : SS) (h : Int64) (t : Nat) (ht : t < 20) (hb60 : hB hs ≤ 60) : ROl l yX4_digestOfTest wsX4_digestOfTest ({ frames := 4, cells := 0, slots := 0, locals := 93 } : Room) [.ref (q 0), .long h, .int (nI t)] D c (wC q c (ms, ts, hs, ps, ss)) (dgT ts hs h t) := by
  refine ro_startl (cc := cX4_digestOfTest) (maxL := 7) (ret := some .long) (by decide) rfl (Nat.le_of_ble_eq_true rfl) ?_
  intro p e s m args below meth c0 ls hx hb hr hml hown hts hlk hP hK hl
  have hown : s.vm.findClass RX4 = some m.cls := hown
  have hl : lv_has ls 7 [(0, .ref (q 0)), (1, .long h), (3, .int (nI t))] := hl
  have hin3 : ∀ w ∈ wsX30, w ∈ wsX4_digestOfTest := by decide +kernel
  have hin4 : ∀ w ∈ wsX40, w ∈ wsX4_digestOfTest := by decide +kernel
  refine lv_lload_n hx hb dX4_digestOfTest_0 rfl (lv_at hl 1 rfl) ?_
  refine lv_lstore (lv' := [(4, .long h), (0, .ref (q 0)), (1, .long h), (3, .int (nI t))]) hx hb dX4_digestOfTest_1 hl (by decide) rfl (fun ls hl => ?_)
  refine lv_iconst (v := 0) hx hb dX4_digestOfTest_3 (by decide) ?_
  refine lv_istore (lv' := [(6, .int 0), (4, .long h), (0, .ref (q 0)), (1, .long h), (3, .int (nI t))]) hx hb dX4_digestOfTest_4 hl (by decide) rfl (fun ls hl => ?_)
  have L6 : ∀ (n : Nat) (i : Nat) (a : Int64), (i ≤ 7) → (7 < i + n) → (a = dgF (fun w => cTl ts hs t (nI w)) h i) → ∀ ls : Array Slot, lv_has ls 7 [(6, .int (nI i)), (4, .long a), (0, .ref (q 0)), (1, .long h), (3, .int (nI t))] → W p l e ({ frames := 4, cells := 0, slots := 0, locals := 93 } : Room) s m args below meth c0 s.heap [] 0 0 (QRl below args s (dgT ts hs h t)) (F0 m 6 ls []) := by
    intro n
    induction n with
    | zero => intro i a hi hn ha ls hl; exact absurd hn (by omega)
    | succ n ih6 =>
      intro i a hi hn ha ls hl
      refine lv_iload hx hb dX4_digestOfTest_6 (lv_at hl 0 rfl) ?_
      refine lv_bipush (v := 6) hx hb dX4_digestOfTest_8 (by decide) ?_
      refine lv_icmp_gt (tgt := 36) hx hb dX4_digestOfTest_10 (by decide) (fun c10 => ?_) (fun c10 => ?_)
      · -- 10 True
        have c10 : 6 < i := (nI_ltI (a := 6) (b := i) (by omega) (by omega)).mp c10
        have hi7 : i = 7 := by omega
        subst hi7
        refine lv_aload_n hx hb dX4_digestOfTest_36 rfl (lv_at hl 2 rfl) ?_
        refine va_get (D := D) (ci := 4) (v := .ref (q 2)) (C := RX4) (T := TX4) (N := 7) hx hb hts hin4 hown hK.1 hP 0 rfl rfl 0 (by decide) (hts (.fieldLink RX4 10 "TestPicker" "tests" "LTestPicker$Tests;") (by decide +kernel)) (fun _ h9 => h9) rfl dX4_digestOfTest_37 ?_
        refine va_get (D := D) (ci := 3) (v := .ref (q 8)) (C := RX3) (T := TX3) (N := 7) hx hb hts hin3 hown hK.1 hP 2 rfl rfl 5 (by decide) (hts (.fieldLink RX4 70 "TestPicker$Tests" "torn" "[Z") (by decide +kernel)) (fun _ h9 => h9) rfl dX4_digestOfTest_40 ?_
        refine lv_iload_n hx hb dX4_digestOfTest_43 rfl (lv_at hl 4 rfl) ?_
        refine ld_z hx hb hK hP 8 (f := tTn ts) rfl (i := t) (by omega) (by decide) dX4_digestOfTest_44 ?_
        refine lv_if_eq (tgt := 57) hx hb dX4_digestOfTest_45 (by decide) (fun c45 => ?_) (fun c45 => ?_)
        · -- 45 True
          refine lv_iconst (v := 0) hx hb dX4_digestOfTest_57 (by decide) ?_
          refine lv_istore (lv' := [(6, .int 0), (4, .long a), (0, .ref (q 0)), (1, .long h), (3, .int (nI t))]) hx hb dX4_digestOfTest_58 hl (by decide) rfl (fun ls hl => ?_)
          have L60 : ∀ (n : Nat) (j : Nat) (a2 : Int64), (j ≤ 5) → (5 < j + n) → (a2 = dgF (fun i => byB (tPa ts t) i) a j) → ∀ ls : Array Slot, lv_has ls 7 [(6, .int (nI j)), (4, .long a2), (0, .ref (q 0)), (1, .long h), (3, .int (nI t))] → W p l e ({ frames := 4, cells := 0, slots := 0, locals := 93 } : Room) s m args below meth c0 s.heap [] 0 0 (QRl below args s (dgT ts hs h t)) (F0 m 60 ls []) := by
            intro n
            induction n with
            | zero => intro j a2 hj hn2 ha2 ls hl; exact absurd hn2 (by omega)
            | succ n ih60 =>
              intro j a2 hj hn2 ha2 ls hl
              refine lv_iload hx hb dX4_digestOfTest_60 (lv_at hl 0 rfl) ?_
              refine lv_iconst (v := 5) hx hb dX4_digestOfTest_62 (by decide) ?_
              refine lv_icmp_ge (tgt := 92) hx hb dX4_digestOfTest_63 (by decide) (fun c63 => ?_) (fun c63 => ?_)
              · -- 63 True
                have c63 : 5 ≤ j := (nI_leI (a := 5) (b := j) (by omega) (by omega)).mp c63
                refine lv_lload hx hb dX4_digestOfTest_92 (lv_at hl 1 rfl) ?_
                exact ro_retl hx hb hr hlk (by rw [dgT, if_pos c45, ha2, show j = 5 by omega, ha]) dX4_digestOfTest_94
              · -- 63 False
                have c63 : j < 5 := (Nat.not_le.mp (fun z => c63 ((nI_leI (a := 5) (b := j) (by omega) (by omega)).mpr z)))
                refine lv_ldc2 (own := RX4) (v := (31)) hx hb hown (hts (.constantLong RX4 228 (31)) (by decide +kernel)) dX4_digestOfTest_66 ?_
                refine lv_lload hx hb dX4_digestOfTest_69 (lv_at hl 1 rfl) ?_
                refine lv_lmul hx hb dX4_digestOfTest_71 ?_
                refine lv_aload_n hx hb dX4_digestOfTest_72 rfl (lv_at hl 2 rfl) ?_
                refine va_get (D := D) (ci := 4) (v := .ref (q 2)) (C := RX4) (T := TX4) (N := 7) hx hb hts hin4 hown hK.1 hP 0 rfl rfl 0 (by decide) (hts (.fieldLink RX4 10 "TestPicker" "tests" "LTestPicker$Tests;") (by decide +kernel)) (fun _ h9 => h9) rfl dX4_digestOfTest_73 ?_
                refine lv_iload_n hx hb dX4_digestOfTest_76 rfl (lv_at hl 4 rfl) ?_
                refine lv_iload hx hb dX4_digestOfTest_77 (lv_at hl 0 rfl) ?_
                refine ro_Vi (As := [.int (nI t), .int (nI j)]) (rest := [.long ((31) * a2)]) ⟨hx, hb, hml, hown, hts⟩ (c_X3_reachByte l D q c ts t j (by omega)) (cwV 2 hts gX4_digestOfTest_X3_reachByte rfl rfl rfl (by decide +kernel) ⟨Nat.le_of_ble_eq_true rfl, Nat.le_of_ble_eq_true rfl⟩) (hP.sub (ws' := wT q c ts) [2, 3, 4, 5, 6, 7, 8] rfl) hK (va_recv hK.1 hP (ci := 3) (q0 := 2) rfl rfl) rfl hl.1 rfl (Nat.le_of_ble_eq_true rfl) dX4_digestOfTest_79 ⟨Nat.le_of_ble_eq_true rfl, Nat.le_of_ble_eq_true rfl⟩ ?_
                refine lv_i2l (v := (byB (tPa ts t) j).toInt64) hx hb dX4_digestOfTest_82 rfl ?_
                refine lv_ladd hx hb dX4_digestOfTest_83 ?_
                refine lv_lstore (lv' := [(4, .long (((31) * a2) + (byB (tPa ts t) j).toInt64)), (6, .int (nI j)), (0, .ref (q 0)), (1, .long h), (3, .int (nI t))]) hx hb dX4_digestOfTest_84 hl (by decide) rfl (fun ls hl => ?_)
                refine lv_iinc (v := nI (j + 1)) (lv' := [(6, .int (nI (j + 1))), (4, .long (((31) * a2) + (byB (tPa ts t) j).toInt64)), (0, .ref (q 0)), (1, .long h), (3, .int (nI t))]) hx hb dX4_digestOfTest_86 hl (k := 1) rfl (nI_inc _) (by decide) rfl (fun ls hl => ?_)
                refine lv_goto (tgt := 60) hx hb dX4_digestOfTest_89 (by decide) ?_
                exact ih60 (j + 1) (((31) * a2) + (byB (tPa ts t) j).toInt64) (by omega) (by omega) (by rw [ha2]; rfl) ls (lv_sub hl [0, 1, 2, 3, 4] rfl)
          exact L60 (6) 0 a (by omega) (by omega) (rfl) ls (lv_sub hl [0, 1, 2, 3, 4] rfl)
        · -- 45 False
          refine lv_ldc2 (own := RX4) (v := (31)) hx hb hown (hts (.constantLong RX4 228 (31)) (by decide +kernel)) dX4_digestOfTest_48 ?_
          refine lv_lload hx hb dX4_digestOfTest_51 (lv_at hl 1 rfl) ?_
          refine lv_lmul hx hb dX4_digestOfTest_53 ?_
          refine lv_lconst (v := 1) hx hb dX4_digestOfTest_54 (by decide) ?_
          refine lv_lsub hx hb dX4_digestOfTest_55 ?_
          exact ro_retl hx hb hr hlk (by rw [dgT, if_neg c45, ha]) dX4_digestOfTest_56
      · -- 10 False
        have c10 : i ≤ 6 := (Nat.not_lt.mp (fun z => c10 ((nI_ltI (a := 6) (b := i) (by omega) (by omega)).mpr z)))
        refine lv_ldc2 (own := RX4) (v := (31)) hx hb hown (hts (.constantLong RX4 228 (31)) (by decide +kernel)) dX4_digestOfTest_13 ?_
        refine lv_lload hx hb dX4_digestOfTest_16 (lv_at hl 1 rfl) ?_
        refine lv_lmul hx hb dX4_digestOfTest_18 ?_
        refine lv_aload_n hx hb dX4_digestOfTest_19 rfl (lv_at hl 2 rfl) ?_
        refine lv_iload_n hx hb dX4_digestOfTest_20 rfl (lv_at hl 4 rfl) ?_
        refine lv_iload hx hb dX4_digestOfTest_21 (lv_at hl 0 rfl) ?_
        refine ro_Vi (As := [.int (nI t), .int (nI i)]) (rest := [.long ((31) * a)]) ⟨hx, hb, hml, hown, hts⟩ (c_X4_factOf l D q c ms ts hs ps ss t (nI i) (by omega) (by omega)) (cwV 2 hts gX4_digestOfTest_X4_factOf rfl rfl rfl (by decide +kernel) ⟨Nat.le_of_ble_eq_true rfl, Nat.le_of_ble_eq_true rfl⟩) hP hK (va_recv hK.1 hP (ci := 4) (q0 := 0) rfl rfl) rfl hl.1 rfl (Nat.le_of_ble_eq_true rfl) dX4_digestOfTest_23 ⟨Nat.le_of_ble_eq_true rfl, Nat.le_of_ble_eq_true rfl⟩ ?_
        refine lv_i2l (v := (cTl ts hs t (nI i)).toInt64) hx hb dX4_digestOfTest_26 rfl ?_
        refine lv_ladd hx hb dX4_digestOfTest_27 ?_
        refine lv_lstore (lv' := [(4, .long (((31) * a) + (cTl ts hs t (nI i)).toInt64)), (6, .int (nI i)), (0, .ref (q 0)), (1, .long h), (3, .int (nI t))]) hx hb dX4_digestOfTest_28 hl (by decide) rfl (fun ls hl => ?_)
        refine lv_iinc (v := nI (i + 1)) (lv' := [(6, .int (nI (i + 1))), (4, .long (((31) * a) + (cTl ts hs t (nI i)).toInt64)), (0, .ref (q 0)), (1, .long h), (3, .int (nI t))]) hx hb dX4_digestOfTest_30 hl (k := 1) rfl (nI_inc _) (by decide) rfl (fun ls hl => ?_)
        refine lv_goto (tgt := 6) hx hb dX4_digestOfTest_33 (by decide) ?_
        exact ih6 (i + 1) (((31) * a) + (cTl ts hs t (nI i)).toInt64) (by omega) (by omega) (by rw [ha]; rfl) ls (lv_sub hl [0, 1, 2, 3, 4] rfl)
  exact L6 (8) 0 h (by omega) (by omega) (rfl) ls (lv_sub hl [0, 1, 2, 3, 4] rfl)

set_option maxHeartbeats 4000000 in
set_option maxRecDepth 100000 in
theorem c_X4_worthiest (l : Launch) (D : va_G) (q : Nat → Nat) (c : CT) (ms : MS) (ts : TS) (hs : HS) (ps : PS) (ss : SS) (x lf : Int32) (hT : tT ts ≤ 20) (hb60 : hB hs ≤ 60) : ROi l yX4_worthiest wsX4_worthiest ({ frames := 2, cells := 0, slots := 0, locals := 45 } : Room) [.ref (q 0), .int x, .int lf] D c (wC q c (ms, ts, hs, ps, ss)) ((wrS ts hs ps x lf (tT ts)).1) := by
  refine ro_starti (cc := cX4_worthiest) (maxL := 16) (ret := some .int) (by decide) rfl (Nat.le_of_ble_eq_true rfl) ?_
  intro p e s m args below meth c0 ls hx hb hr hml hown hts hlk hP hK hl
  have hown : s.vm.findClass RX4 = some m.cls := hown
  have hl : lv_has ls 16 [(0, .ref (q 0)), (1, .int x), (2, .int lf)] := hl
  have hin1 : ∀ w ∈ wsX10, w ∈ wsX4_worthiest := by decide +kernel
  have hin3 : ∀ w ∈ wsX30, w ∈ wsX4_worthiest := by decide +kernel
  have hin4 : ∀ w ∈ wsX40, w ∈ wsX4_worthiest := by decide +kernel
  refine lv_bipush (v := (-9)) hx hb dX4_worthiest_0 (by decide) ?_
  refine lv_istore_n (lv' := [(3, .int (-9)), (0, .ref (q 0)), (1, .int x), (2, .int lf)]) hx hb dX4_worthiest_2 rfl hl (by decide) rfl (fun ls hl => ?_)
  refine lv_lconst (v := 0) hx hb dX4_worthiest_3 (by decide) ?_
  refine lv_lstore (lv' := [(4, .long 0), (3, .int (-9)), (0, .ref (q 0)), (1, .int x), (2, .int lf)]) hx hb dX4_worthiest_4 hl (by decide) rfl (fun ls hl => ?_)
  refine lv_lconst (v := 1) hx hb dX4_worthiest_6 (by decide) ?_
  refine lv_lstore (lv' := [(6, .long 1), (4, .long 0), (3, .int (-9)), (0, .ref (q 0)), (1, .int x), (2, .int lf)]) hx hb dX4_worthiest_7 hl (by decide) rfl (fun ls hl => ?_)
  refine lv_iconst (v := 0) hx hb dX4_worthiest_9 (by decide) ?_
  refine lv_istore (lv' := [(8, .int 0), (6, .long 1), (4, .long 0), (3, .int (-9)), (0, .ref (q 0)), (1, .int x), (2, .int lf)]) hx hb dX4_worthiest_10 hl (by decide) rfl (fun ls hl => ?_)
  have L12 : ∀ (n : Nat) (i : Nat) (ch : Int32) (gn : Int64) (co : Int64), (i ≤ tT ts) → (tT ts < i + n) → (wrS ts hs ps x lf i = (ch, gn, co)) → ∀ ls : Array Slot, lv_has ls 16 [(8, .int (nI i)), (6, .long co), (4, .long gn), (3, .int ch), (0, .ref (q 0)), (1, .int x), (2, .int lf)] → W p l e ({ frames := 2, cells := 0, slots := 0, locals := 45 } : Room) s m args below meth c0 s.heap [] 0 0 (QRi below args s ((wrS ts hs ps x lf (tT ts)).1)) (F0 m 12 ls []) := by
    intro n
    induction n with
    | zero => intro i ch gn co hi hn hf ls hl; exact absurd hn (by omega)
    | succ n ih12 =>
      intro i ch gn co hi hn hf ls hl
      refine lv_iload hx hb dX4_worthiest_12 (lv_at hl 0 rfl) ?_
      refine lv_aload_n hx hb dX4_worthiest_14 rfl (lv_at hl 4 rfl) ?_
      refine va_get (D := D) (ci := 4) (v := .ref (q 2)) (C := RX4) (T := TX4) (N := 7) hx hb hts hin4 hown hK.1 hP 0 rfl rfl 0 (by decide) (hts (.fieldLink RX4 10 "TestPicker" "tests" "LTestPicker$Tests;") (by decide +kernel)) (fun _ h9 => h9) rfl dX4_worthiest_15 ?_
      refine va_get (D := D) (ci := 3) (v := .int (nI (tT ts))) (C := RX3) (T := TX3) (N := 7) hx hb hts hin3 hown hK.1 hP 2 rfl rfl 6 (by decide) (hts (.fieldLink RX4 56 "TestPicker$Tests" "size" "I") (by decide +kernel)) (fun _ h9 => h9) rfl dX4_worthiest_18 ?_
      refine lv_icmp_ge (tgt := 159) hx hb dX4_worthiest_21 (by decide) (fun c21 => ?_) (fun c21 => ?_)
      · -- 21 True
        have c21 : (tT ts) ≤ i := (nI_leI (a := (tT ts)) (b := i) (by omega) (by omega)).mp c21
        refine lv_iload_n hx hb dX4_worthiest_159 rfl (lv_at hl 3 rfl) ?_
        exact ro_reti hx hb hr hlk (by rw [show tT ts = i by omega, hf]) dX4_worthiest_160
      · -- 21 False
        have c21 : i < (tT ts) := (Nat.not_le.mp (fun z => c21 ((nI_leI (a := (tT ts)) (b := i) (by omega) (by omega)).mpr z)))
        refine lv_iload hx hb dX4_worthiest_24 (lv_at hl 0 rfl) ?_
        refine lv_iload_n hx hb dX4_worthiest_26 rfl (lv_at hl 5 rfl) ?_
        refine ro_Si (As := [.int (nI i), .int x]) (rest := []) ⟨hx, hb, hml, hown, hts⟩ (c_X4_isIn l D c i x (by omega)) (va_cwS 2 hts gX4_worthiest_X4_isIn rfl rfl rfl (by decide +kernel) ⟨Nat.le_of_ble_eq_true rfl, Nat.le_of_ble_eq_true rfl⟩) va_P0 hK rfl hl.1 rfl (Nat.le_of_ble_eq_true rfl) dX4_worthiest_27 ⟨Nat.le_of_ble_eq_true rfl, Nat.le_of_ble_eq_true rfl⟩ ?_
        refine lv_if_eq (tgt := 153) hx hb dX4_worthiest_30 (by decide) (fun c30 => ?_) (fun c30 => ?_)
        · -- 30 True
          have c30 := bI_z.mp c30
          refine lv_iinc (v := nI (i + 1)) (lv' := [(8, .int (nI (i + 1))), (6, .long co), (4, .long gn), (3, .int ch), (0, .ref (q 0)), (1, .int x), (2, .int lf)]) hx hb dX4_worthiest_153 hl (k := 0) rfl (nI_inc _) (by decide) rfl (fun ls hl => ?_)
          refine lv_goto (tgt := 12) hx hb dX4_worthiest_156 (by decide) ?_
          exact ih12 (i + 1) ch gn co (by omega) (by omega) (by rw [wrS, if_neg (by simp [c30])]; exact hf) ls (lv_sub hl [0, 1, 2, 3, 4, 5, 6] rfl)
        · -- 30 False
          have c30 := bI_nz.mp c30
          refine lv_aload_n hx hb dX4_worthiest_33 rfl (lv_at hl 4 rfl) ?_
          refine va_get (D := D) (ci := 4) (v := .ref (q 2)) (C := RX4) (T := TX4) (N := 7) hx hb hts hin4 hown hK.1 hP 0 rfl rfl 0 (by decide) (hts (.fieldLink RX4 10 "TestPicker" "tests" "LTestPicker$Tests;") (by decide +kernel)) (fun _ h9 => h9) rfl dX4_worthiest_34 ?_
          refine va_get (D := D) (ci := 3) (v := .ref (q 6)) (C := RX3) (T := TX3) (N := 7) hx hb hts hin3 hown hK.1 hP 2 rfl rfl 3 (by decide) (hts (.fieldLink RX4 180 "TestPicker$Tests" "chains" "[I") (by decide +kernel)) (fun _ h9 => h9) rfl dX4_worthiest_37 ?_
          refine lv_iload hx hb dX4_worthiest_40 (lv_at hl 0 rfl) ?_
          refine ld_i hx hb hK hP 6 (f := tCh ts) rfl (i := i) (by omega) (by decide) dX4_worthiest_42 ?_
          refine lv_aload_n hx hb dX4_worthiest_43 rfl (lv_at hl 4 rfl) ?_
          refine va_get (D := D) (ci := 4) (v := .ref (q 13)) (C := RX4) (T := TX4) (N := 7) hx hb hts hin4 hown hK.1 hP 0 rfl rfl 2 (by decide) (hts (.fieldLink RX4 26 "TestPicker" "plan" "LTestPicker$Plan;") (by decide +kernel)) (fun _ h9 => h9) rfl dX4_worthiest_44 ?_
          refine va_get (D := D) (ci := 1) (v := .int (pBits ps)) (C := RX1) (T := TX1) (N := 7) hx hb hts hin1 hown hK.1 hP 13 rfl rfl 2 (by decide) (hts (.fieldLink RX4 147 "TestPicker$Plan" "bits" "I") (by decide +kernel)) (fun _ h9 => h9) rfl dX4_worthiest_47 ?_
          refine lv_iconst (v := (-1)) hx hb dX4_worthiest_50 (by decide) ?_
          refine lv_ixor hx hb dX4_worthiest_51 ?_
          refine lv_iand hx hb dX4_worthiest_52 ?_
          refine lv_istore (lv' := [(9, .int ((tCh ts i) &&& (pBits ps ^^^ (-1)))), (8, .int (nI i)), (6, .long co), (4, .long gn), (3, .int ch), (0, .ref (q 0)), (1, .int x), (2, .int lf)]) hx hb dX4_worthiest_53 hl (by decide) rfl (fun ls hl => ?_)
          refine lv_aload_n hx hb dX4_worthiest_55 rfl (lv_at hl 5 rfl) ?_
          refine va_get (D := D) (ci := 4) (v := .ref (q 2)) (C := RX4) (T := TX4) (N := 7) hx hb hts hin4 hown hK.1 hP 0 rfl rfl 0 (by decide) (hts (.fieldLink RX4 10 "TestPicker" "tests" "LTestPicker$Tests;") (by decide +kernel)) (fun _ h9 => h9) rfl dX4_worthiest_56 ?_
          refine lv_iload hx hb dX4_worthiest_59 (lv_at hl 0 rfl) ?_
          refine ro_Vi (As := [.int ((tCh ts i) &&& (pBits ps ^^^ (-1)))]) (rest := []) ⟨hx, hb, hml, hown, hts⟩ (c_X3_timeOf l D q c ts ((tCh ts i) &&& (pBits ps ^^^ (-1))) (by omega)) (cwV 1 hts gX4_worthiest_X3_timeOf rfl rfl rfl (by decide +kernel) ⟨Nat.le_of_ble_eq_true rfl, Nat.le_of_ble_eq_true rfl⟩) (hP.sub (ws' := wT q c ts) [2, 3, 4, 5, 6, 7, 8] rfl) hK (va_recv hK.1 hP (ci := 3) (q0 := 2) rfl rfl) rfl hl.1 rfl (Nat.le_of_ble_eq_true rfl) dX4_worthiest_61 ⟨Nat.le_of_ble_eq_true rfl, Nat.le_of_ble_eq_true rfl⟩ ?_
          refine lv_i2l (v := (tmS (tKd ts) (tOt ts) ((tCh ts i) &&& (pBits ps ^^^ (-1))) (tT ts)).toInt64) hx hb dX4_worthiest_64 rfl ?_
          refine lv_lstore (lv' := [(10, .long ((tmS (tKd ts) (tOt ts) ((tCh ts i) &&& (pBits ps ^^^ (-1))) (tT ts)).toInt64)), (9, .int ((tCh ts i) &&& (pBits ps ^^^ (-1)))), (8, .int (nI i)), (6, .long co), (4, .long gn), (3, .int ch), (0, .ref (q 0)), (1, .int x), (2, .int lf)]) hx hb dX4_worthiest_65 hl (by decide) rfl (fun ls hl => ?_)
          refine lv_aload_n hx hb dX4_worthiest_67 rfl (lv_at hl 6 rfl) ?_
          refine va_get (D := D) (ci := 4) (v := .ref (q 2)) (C := RX4) (T := TX4) (N := 7) hx hb hts hin4 hown hK.1 hP 0 rfl rfl 0 (by decide) (hts (.fieldLink RX4 10 "TestPicker" "tests" "LTestPicker$Tests;") (by decide +kernel)) (fun _ h9 => h9) rfl dX4_worthiest_68 ?_
          refine lv_iload hx hb dX4_worthiest_71 (lv_at hl 1 rfl) ?_
          refine ro_Vl (As := [.int ((tCh ts i) &&& (pBits ps ^^^ (-1)))]) (rest := []) ⟨hx, hb, hml, hown, hts⟩ (c_X3_partsOf l D q c ts ((tCh ts i) &&& (pBits ps ^^^ (-1))) (by omega)) (cwV 1 hts gX4_worthiest_X3_partsOf rfl rfl rfl (by decide +kernel) ⟨Nat.le_of_ble_eq_true rfl, Nat.le_of_ble_eq_true rfl⟩) (hP.sub (ws' := wT q c ts) [2, 3, 4, 5, 6, 7, 8] rfl) hK (va_recv hK.1 hP (ci := 3) (q0 := 2) rfl rfl) rfl hl.1 rfl (Nat.le_of_ble_eq_true rfl) dX4_worthiest_73 ⟨Nat.le_of_ble_eq_true rfl, Nat.le_of_ble_eq_true rfl⟩ ?_
          refine lv_aload_n hx hb dX4_worthiest_76 rfl (lv_at hl 6 rfl) ?_
          refine va_get (D := D) (ci := 4) (v := .ref (q 13)) (C := RX4) (T := TX4) (N := 7) hx hb hts hin4 hown hK.1 hP 0 rfl rfl 2 (by decide) (hts (.fieldLink RX4 26 "TestPicker" "plan" "LTestPicker$Plan;") (by decide +kernel)) (fun _ h9 => h9) rfl dX4_worthiest_77 ?_
          refine va_get (D := D) (ci := 1) (v := .long (pChg ps)) (C := RX1) (T := TX1) (N := 7) hx hb hts hin1 hown hK.1 hP 13 rfl rfl 5 (by decide) (hts (.fieldLink RX4 249 "TestPicker$Plan" "change" "J") (by decide +kernel)) (fun _ h9 => h9) rfl dX4_worthiest_80 ?_
          refine lv_land hx hb dX4_worthiest_83 ?_
          refine lv_aload_n hx hb dX4_worthiest_84 rfl (lv_at hl 6 rfl) ?_
          refine va_get (D := D) (ci := 4) (v := .ref (q 13)) (C := RX4) (T := TX4) (N := 7) hx hb hts hin4 hown hK.1 hP 0 rfl rfl 2 (by decide) (hts (.fieldLink RX4 26 "TestPicker" "plan" "LTestPicker$Plan;") (by decide +kernel)) (fun _ h9 => h9) rfl dX4_worthiest_85 ?_
          refine va_get (D := D) (ci := 1) (v := .long (pSeen ps)) (C := RX1) (T := TX1) (N := 7) hx hb hts hin1 hown hK.1 hP 13 rfl rfl 4 (by decide) (hts (.fieldLink RX4 252 "TestPicker$Plan" "seen" "J") (by decide +kernel)) (fun _ h9 => h9) rfl dX4_worthiest_88 ?_
          refine lv_ldc2 (own := RX4) (v := (-1)) hx hb hown (hts (.constantLong RX4 204 (-1)) (by decide +kernel)) dX4_worthiest_91 ?_
          refine lv_lxor hx hb dX4_worthiest_94 ?_
          refine lv_land hx hb dX4_worthiest_95 ?_
          refine lv_lstore (lv' := [(12, .long (((paS (tPa ts) ((tCh ts i) &&& (pBits ps ^^^ (-1))) (tT ts)) &&& pChg ps) &&& (pSeen ps ^^^ (-1)))), (10, .long ((tmS (tKd ts) (tOt ts) ((tCh ts i) &&& (pBits ps ^^^ (-1))) (tT ts)).toInt64)), (9, .int ((tCh ts i) &&& (pBits ps ^^^ (-1)))), (8, .int (nI i)), (6, .long co), (4, .long gn), (3, .int ch), (0, .ref (q 0)), (1, .int x), (2, .int lf)]) hx hb dX4_worthiest_96 hl (by decide) rfl (fun ls hl => ?_)
          refine lv_lload hx hb dX4_worthiest_98 (lv_at hl 0 rfl) ?_
          refine ro_Si (As := [.long (((paS (tPa ts) ((tCh ts i) &&& (pBits ps ^^^ (-1))) (tT ts)) &&& pChg ps) &&& (pSeen ps ^^^ (-1)))]) (rest := []) ⟨hx, hb, hml, hown, hts⟩ (c_J13_bitCount_95d88 l D c (((paS (tPa ts) ((tCh ts i) &&& (pBits ps ^^^ (-1))) (tT ts)) &&& pChg ps) &&& (pSeen ps ^^^ (-1)))) (va_cwS 1 hts gX4_worthiest_J13_bitCount_95d88 rfl rfl rfl (by decide +kernel) ⟨Nat.le_of_ble_eq_true rfl, Nat.le_of_ble_eq_true rfl⟩) va_P0 hK rfl hl.1 rfl (Nat.le_of_ble_eq_true rfl) dX4_worthiest_100 ⟨Nat.le_of_ble_eq_true rfl, Nat.le_of_ble_eq_true rfl⟩ ?_
          refine lv_i2l (v := (popL (((paS (tPa ts) ((tCh ts i) &&& (pBits ps ^^^ (-1))) (tT ts)) &&& pChg ps) &&& (pSeen ps ^^^ (-1)))).toInt64) hx hb dX4_worthiest_103 rfl ?_
          refine lv_bipush (v := 16) hx hb dX4_worthiest_104 (by decide) ?_
          refine lv_aload_n hx hb dX4_worthiest_106 rfl (lv_at hl 7 rfl) ?_
          refine va_get (D := D) (ci := 4) (v := .ref (q 9)) (C := RX4) (T := TX4) (N := 7) hx hb hts hin4 hown hK.1 hP 0 rfl rfl 1 (by decide) (hts (.fieldLink RX4 19 "TestPicker" "history" "LTestPicker$History;") (by decide +kernel)) (fun _ h9 => h9) rfl dX4_worthiest_107 ?_
          refine lv_iload hx hb dX4_worthiest_110 (lv_at hl 3 rfl) ?_
          refine ro_Vi (As := [.int (nI i)]) (rest := [.int 16, .long ((popL (((paS (tPa ts) ((tCh ts i) &&& (pBits ps ^^^ (-1))) (tT ts)) &&& pChg ps) &&& (pSeen ps ^^^ (-1)))).toInt64)]) ⟨hx, hb, hml, hown, hts⟩ (c_X0_heat l D q c hs i (by omega) (by omega)) (cwV 1 hts gX4_worthiest_X0_heat rfl rfl rfl (by decide +kernel) ⟨Nat.le_of_ble_eq_true rfl, Nat.le_of_ble_eq_true rfl⟩) (hP.sub (ws' := wH q c hs) [9, 10, 11, 12] rfl) hK (va_recv hK.1 hP (ci := 0) (q0 := 9) rfl rfl) rfl hl.1 rfl (Nat.le_of_ble_eq_true rfl) dX4_worthiest_112 ⟨Nat.le_of_ble_eq_true rfl, Nat.le_of_ble_eq_true rfl⟩ ?_
          refine lv_iadd hx hb dX4_worthiest_115 ?_
          refine lv_i2l (v := (16 + (htC (hFe hs i) (hB hs))).toInt64) hx hb dX4_worthiest_116 rfl ?_
          refine lv_lmul hx hb dX4_worthiest_117 ?_
          refine lv_lstore (lv' := [(14, .long ((popL (((paS (tPa ts) ((tCh ts i) &&& (pBits ps ^^^ (-1))) (tT ts)) &&& pChg ps) &&& (pSeen ps ^^^ (-1)))).toInt64 * (16 + (htC (hFe hs i) (hB hs))).toInt64)), (12, .long (((paS (tPa ts) ((tCh ts i) &&& (pBits ps ^^^ (-1))) (tT ts)) &&& pChg ps) &&& (pSeen ps ^^^ (-1)))), (10, .long ((tmS (tKd ts) (tOt ts) ((tCh ts i) &&& (pBits ps ^^^ (-1))) (tT ts)).toInt64)), (9, .int ((tCh ts i) &&& (pBits ps ^^^ (-1)))), (8, .int (nI i)), (6, .long co), (4, .long gn), (3, .int ch), (0, .ref (q 0)), (1, .int x), (2, .int lf)]) hx hb dX4_worthiest_118 hl (by decide) rfl (fun ls hl => ?_)
          refine lv_lload hx hb dX4_worthiest_120 (lv_at hl 2 rfl) ?_
          refine lv_iload_n hx hb dX4_worthiest_122 rfl (lv_at hl 10 rfl) ?_
          refine lv_i2l (v := lf.toInt64) hx hb dX4_worthiest_123 rfl ?_
          refine W.lcmp hx hb dX4_worthiest_124 ?_
          refine lv_if_gt (tgt := 153) hx hb dX4_worthiest_125 (by decide) (fun c125 => ?_) (fun c125 => ?_)
          · -- 125 True
            have c125 := (lg_cmp_gt _ _).mp c125
            refine lv_iinc (v := nI (i + 1)) (lv' := [(8, .int (nI (i + 1))), (14, .long ((popL (((paS (tPa ts) ((tCh ts i) &&& (pBits ps ^^^ (-1))) (tT ts)) &&& pChg ps) &&& (pSeen ps ^^^ (-1)))).toInt64 * (16 + (htC (hFe hs i) (hB hs))).toInt64)), (12, .long (((paS (tPa ts) ((tCh ts i) &&& (pBits ps ^^^ (-1))) (tT ts)) &&& pChg ps) &&& (pSeen ps ^^^ (-1)))), (10, .long ((tmS (tKd ts) (tOt ts) ((tCh ts i) &&& (pBits ps ^^^ (-1))) (tT ts)).toInt64)), (9, .int ((tCh ts i) &&& (pBits ps ^^^ (-1)))), (6, .long co), (4, .long gn), (3, .int ch), (0, .ref (q 0)), (1, .int x), (2, .int lf)]) hx hb dX4_worthiest_153 hl (k := 4) rfl (nI_inc _) (by decide) rfl (fun ls hl => ?_)
            refine lv_goto (tgt := 12) hx hb dX4_worthiest_156 (by decide) ?_
            exact ih12 (i + 1) ch gn co (by omega) (by omega) (by rw [wrS, if_pos c30, if_pos c125]; exact hf) ls (lv_sub hl [0, 5, 6, 7, 8, 9, 10] rfl)
          · -- 125 False
            have c125 := lg_ngt.mp c125
            refine lv_lload hx hb dX4_worthiest_128 (lv_at hl 0 rfl) ?_
            refine lv_lload hx hb dX4_worthiest_130 (lv_at hl 5 rfl) ?_
            refine lv_lmul hx hb dX4_worthiest_132 ?_
            refine lv_lload hx hb dX4_worthiest_133 (lv_at hl 6 rfl) ?_
            refine lv_lload hx hb dX4_worthiest_135 (lv_at hl 2 rfl) ?_
            refine lv_lmul hx hb dX4_worthiest_137 ?_
            refine W.lcmp hx hb dX4_worthiest_138 ?_
            refine lv_if_le (tgt := 153) hx hb dX4_worthiest_139 (by decide) (fun c139 => ?_) (fun c139 => ?_)
            · -- 139 True
              have c139 := (lg_cmp_le _ _).mp c139
              refine lv_iinc (v := nI (i + 1)) (lv' := [(8, .int (nI (i + 1))), (14, .long ((popL (((paS (tPa ts) ((tCh ts i) &&& (pBits ps ^^^ (-1))) (tT ts)) &&& pChg ps) &&& (pSeen ps ^^^ (-1)))).toInt64 * (16 + (htC (hFe hs i) (hB hs))).toInt64)), (12, .long (((paS (tPa ts) ((tCh ts i) &&& (pBits ps ^^^ (-1))) (tT ts)) &&& pChg ps) &&& (pSeen ps ^^^ (-1)))), (10, .long ((tmS (tKd ts) (tOt ts) ((tCh ts i) &&& (pBits ps ^^^ (-1))) (tT ts)).toInt64)), (9, .int ((tCh ts i) &&& (pBits ps ^^^ (-1)))), (6, .long co), (4, .long gn), (3, .int ch), (0, .ref (q 0)), (1, .int x), (2, .int lf)]) hx hb dX4_worthiest_153 hl (k := 4) rfl (nI_inc _) (by decide) rfl (fun ls hl => ?_)
              refine lv_goto (tgt := 12) hx hb dX4_worthiest_156 (by decide) ?_
              exact ih12 (i + 1) ch gn co (by omega) (by omega) (by rw [wrS, if_pos c30, if_neg (Int64.not_lt.mpr c125), hf, if_pos c139]) ls (lv_sub hl [0, 5, 6, 7, 8, 9, 10] rfl)
            · -- 139 False
              have c139 := lg_nle.mp c139
              refine lv_iload hx hb dX4_worthiest_142 (lv_at hl 4 rfl) ?_
              refine lv_istore_n (lv' := [(3, .int (nI i)), (14, .long ((popL (((paS (tPa ts) ((tCh ts i) &&& (pBits ps ^^^ (-1))) (tT ts)) &&& pChg ps) &&& (pSeen ps ^^^ (-1)))).toInt64 * (16 + (htC (hFe hs i) (hB hs))).toInt64)), (12, .long (((paS (tPa ts) ((tCh ts i) &&& (pBits ps ^^^ (-1))) (tT ts)) &&& pChg ps) &&& (pSeen ps ^^^ (-1)))), (10, .long ((tmS (tKd ts) (tOt ts) ((tCh ts i) &&& (pBits ps ^^^ (-1))) (tT ts)).toInt64)), (9, .int ((tCh ts i) &&& (pBits ps ^^^ (-1)))), (8, .int (nI i)), (6, .long co), (4, .long gn), (0, .ref (q 0)), (1, .int x), (2, .int lf)]) hx hb dX4_worthiest_144 rfl hl (by decide) rfl (fun ls hl => ?_)
              refine lv_lload hx hb dX4_worthiest_145 (lv_at hl 1 rfl) ?_
              refine lv_lstore (lv' := [(4, .long ((popL (((paS (tPa ts) ((tCh ts i) &&& (pBits ps ^^^ (-1))) (tT ts)) &&& pChg ps) &&& (pSeen ps ^^^ (-1)))).toInt64 * (16 + (htC (hFe hs i) (hB hs))).toInt64)), (3, .int (nI i)), (14, .long ((popL (((paS (tPa ts) ((tCh ts i) &&& (pBits ps ^^^ (-1))) (tT ts)) &&& pChg ps) &&& (pSeen ps ^^^ (-1)))).toInt64 * (16 + (htC (hFe hs i) (hB hs))).toInt64)), (12, .long (((paS (tPa ts) ((tCh ts i) &&& (pBits ps ^^^ (-1))) (tT ts)) &&& pChg ps) &&& (pSeen ps ^^^ (-1)))), (10, .long ((tmS (tKd ts) (tOt ts) ((tCh ts i) &&& (pBits ps ^^^ (-1))) (tT ts)).toInt64)), (9, .int ((tCh ts i) &&& (pBits ps ^^^ (-1)))), (8, .int (nI i)), (6, .long co), (0, .ref (q 0)), (1, .int x), (2, .int lf)]) hx hb dX4_worthiest_147 hl (by decide) rfl (fun ls hl => ?_)
              refine lv_lload hx hb dX4_worthiest_149 (lv_at hl 4 rfl) ?_
              refine lv_lstore (lv' := [(6, .long ((tmS (tKd ts) (tOt ts) ((tCh ts i) &&& (pBits ps ^^^ (-1))) (tT ts)).toInt64)), (4, .long ((popL (((paS (tPa ts) ((tCh ts i) &&& (pBits ps ^^^ (-1))) (tT ts)) &&& pChg ps) &&& (pSeen ps ^^^ (-1)))).toInt64 * (16 + (htC (hFe hs i) (hB hs))).toInt64)), (3, .int (nI i)), (14, .long ((popL (((paS (tPa ts) ((tCh ts i) &&& (pBits ps ^^^ (-1))) (tT ts)) &&& pChg ps) &&& (pSeen ps ^^^ (-1)))).toInt64 * (16 + (htC (hFe hs i) (hB hs))).toInt64)), (12, .long (((paS (tPa ts) ((tCh ts i) &&& (pBits ps ^^^ (-1))) (tT ts)) &&& pChg ps) &&& (pSeen ps ^^^ (-1)))), (10, .long ((tmS (tKd ts) (tOt ts) ((tCh ts i) &&& (pBits ps ^^^ (-1))) (tT ts)).toInt64)), (9, .int ((tCh ts i) &&& (pBits ps ^^^ (-1)))), (8, .int (nI i)), (0, .ref (q 0)), (1, .int x), (2, .int lf)]) hx hb dX4_worthiest_151 hl (by decide) rfl (fun ls hl => ?_)
              refine lv_iinc (v := nI (i + 1)) (lv' := [(8, .int (nI (i + 1))), (6, .long ((tmS (tKd ts) (tOt ts) ((tCh ts i) &&& (pBits ps ^^^ (-1))) (tT ts)).toInt64)), (4, .long ((popL (((paS (tPa ts) ((tCh ts i) &&& (pBits ps ^^^ (-1))) (tT ts)) &&& pChg ps) &&& (pSeen ps ^^^ (-1)))).toInt64 * (16 + (htC (hFe hs i) (hB hs))).toInt64)), (3, .int (nI i)), (14, .long ((popL (((paS (tPa ts) ((tCh ts i) &&& (pBits ps ^^^ (-1))) (tT ts)) &&& pChg ps) &&& (pSeen ps ^^^ (-1)))).toInt64 * (16 + (htC (hFe hs i) (hB hs))).toInt64)), (12, .long (((paS (tPa ts) ((tCh ts i) &&& (pBits ps ^^^ (-1))) (tT ts)) &&& pChg ps) &&& (pSeen ps ^^^ (-1)))), (10, .long ((tmS (tKd ts) (tOt ts) ((tCh ts i) &&& (pBits ps ^^^ (-1))) (tT ts)).toInt64)), (9, .int ((tCh ts i) &&& (pBits ps ^^^ (-1)))), (0, .ref (q 0)), (1, .int x), (2, .int lf)]) hx hb dX4_worthiest_153 hl (k := 7) rfl (nI_inc _) (by decide) rfl (fun ls hl => ?_)
              refine lv_goto (tgt := 12) hx hb dX4_worthiest_156 (by decide) ?_
              exact ih12 (i + 1) (nI i) ((popL (((paS (tPa ts) ((tCh ts i) &&& (pBits ps ^^^ (-1))) (tT ts)) &&& pChg ps) &&& (pSeen ps ^^^ (-1)))).toInt64 * (16 + (htC (hFe hs i) (hB hs))).toInt64) ((tmS (tKd ts) (tOt ts) ((tCh ts i) &&& (pBits ps ^^^ (-1))) (tT ts)).toInt64) (by omega) (by omega) (by rw [wrS, if_pos c30, if_neg (Int64.not_lt.mpr c125), hf, if_neg (Int64.not_le.mpr c139)]) ls (lv_sub hl [0, 1, 2, 3, 8, 9, 10] rfl)
  exact L12 (tT ts + 1) 0 (-9) 0 1 (by omega) (by omega) (rfl) ls (lv_sub hl [0, 1, 2, 3, 4, 5, 6] rfl)

set_option maxHeartbeats 4000000 in
set_option maxRecDepth 100000 in
theorem c_X4_witnesses (l : Launch) (D : va_G) (q : Nat → Nat) (c : CT) (ms : MS) (ts : TS) (hs : HS) (ps : PS) (ss : SS) (hT : tT ts ≤ 20) (hb60 : hB hs ≤ 60) : ROi l yX4_witnesses wsX4_witnesses ({ frames := 3, cells := 0, slots := 0, locals := 71 } : Room) [.ref (q 0)] D c (wC q c (ms, ts, hs, ps, ss)) (cWit ts hs) := by
  refine ro_starti (cc := cX4_witnesses) (maxL := 3) (ret := some .int) (by decide) rfl (Nat.le_of_ble_eq_true rfl) ?_
  intro p e s m args below meth c0 ls hx hb hr hml hown hts hlk hP hK hl
  have hown : s.vm.findClass RX4 = some m.cls := hown
  have hl : lv_has ls 3 [(0, .ref (q 0))] := hl
  have hin0 : ∀ w ∈ wsX00, w ∈ wsX4_witnesses := by decide +kernel
  have hin3 : ∀ w ∈ wsX30, w ∈ wsX4_witnesses := by decide +kernel
  have hin4 : ∀ w ∈ wsX40, w ∈ wsX4_witnesses := by decide +kernel
  refine lv_iconst (v := 0) hx hb dX4_witnesses_0 (by decide) ?_
  refine lv_istore_n (lv' := [(1, .int 0), (0, .ref (q 0))]) hx hb dX4_witnesses_1 rfl hl (by decide) rfl (fun ls hl => ?_)
  refine lv_iconst (v := 0) hx hb dX4_witnesses_2 (by decide) ?_
  refine lv_istore_n (lv' := [(2, .int 0), (1, .int 0), (0, .ref (q 0))]) hx hb dX4_witnesses_3 rfl hl (by decide) rfl (fun ls hl => ?_)
  have L4 : ∀ (n : Nat) (i : Nat) (a : Int32), (i ≤ tT ts) → (tT ts < i + n) → (a = orI (fun t => !decide (tKd ts t = 3) && !decide (hFe hs t = 0) && !cFk ts hs t) i) → ∀ ls : Array Slot, lv_has ls 3 [(2, .int (nI i)), (1, .int a), (0, .ref (q 0))] → W p l e ({ frames := 3, cells := 0, slots := 0, locals := 71 } : Room) s m args below meth c0 s.heap [] 0 0 (QRi below args s (cWit ts hs)) (F0 m 4 ls []) := by
    intro n
    induction n with
    | zero => intro i a hi hn ha ls hl; exact absurd hn (by omega)
    | succ n ih4 =>
      intro i a hi hn ha ls hl
      refine lv_iload_n hx hb dX4_witnesses_4 rfl (lv_at hl 0 rfl) ?_
      refine lv_aload_n hx hb dX4_witnesses_5 rfl (lv_at hl 2 rfl) ?_
      refine va_get (D := D) (ci := 4) (v := .ref (q 2)) (C := RX4) (T := TX4) (N := 7) hx hb hts hin4 hown hK.1 hP 0 rfl rfl 0 (by decide) (hts (.fieldLink RX4 10 "TestPicker" "tests" "LTestPicker$Tests;") (by decide +kernel)) (fun _ h9 => h9) rfl dX4_witnesses_6 ?_
      refine va_get (D := D) (ci := 3) (v := .int (nI (tT ts))) (C := RX3) (T := TX3) (N := 7) hx hb hts hin3 hown hK.1 hP 2 rfl rfl 6 (by decide) (hts (.fieldLink RX4 56 "TestPicker$Tests" "size" "I") (by decide +kernel)) (fun _ h9 => h9) rfl dX4_witnesses_9 ?_
      refine lv_icmp_ge (tgt := 62) hx hb dX4_witnesses_12 (by decide) (fun c12 => ?_) (fun c12 => ?_)
      · -- 12 True
        have c12 : (tT ts) ≤ i := (nI_leI (a := (tT ts)) (b := i) (by omega) (by omega)).mp c12
        refine lv_iload_n hx hb dX4_witnesses_62 rfl (lv_at hl 1 rfl) ?_
        exact ro_reti hx hb hr hlk (by rw [ha, show i = tT ts by omega]) dX4_witnesses_63
      · -- 12 False
        have c12 : i < (tT ts) := (Nat.not_le.mp (fun z => c12 ((nI_leI (a := (tT ts)) (b := i) (by omega) (by omega)).mpr z)))
        refine lv_aload_n hx hb dX4_witnesses_15 rfl (lv_at hl 2 rfl) ?_
        refine va_get (D := D) (ci := 4) (v := .ref (q 2)) (C := RX4) (T := TX4) (N := 7) hx hb hts hin4 hown hK.1 hP 0 rfl rfl 0 (by decide) (hts (.fieldLink RX4 10 "TestPicker" "tests" "LTestPicker$Tests;") (by decide +kernel)) (fun _ h9 => h9) rfl dX4_witnesses_16 ?_
        refine va_get (D := D) (ci := 3) (v := .ref (q 3)) (C := RX3) (T := TX3) (N := 7) hx hb hts hin3 hown hK.1 hP 2 rfl rfl 0 (by decide) (hts (.fieldLink RX4 63 "TestPicker$Tests" "kinds" "[I") (by decide +kernel)) (fun _ h9 => h9) rfl dX4_witnesses_19 ?_
        refine lv_iload_n hx hb dX4_witnesses_22 rfl (lv_at hl 0 rfl) ?_
        refine ld_i hx hb hK hP 3 (f := tKd ts) rfl (i := i) (by omega) (by decide) dX4_witnesses_23 ?_
        refine lv_iconst (v := 3) hx hb dX4_witnesses_24 (by decide) ?_
        refine lv_icmp_eq (tgt := 56) hx hb dX4_witnesses_25 (by decide) (fun c25 => ?_) (fun c25 => ?_)
        · -- 25 True
          refine lv_iinc (v := nI (i + 1)) (lv' := [(2, .int (nI (i + 1))), (1, .int a), (0, .ref (q 0))]) hx hb dX4_witnesses_56 hl (k := 0) rfl (nI_inc _) (by decide) rfl (fun ls hl => ?_)
          refine lv_goto (tgt := 4) hx hb dX4_witnesses_59 (by decide) ?_
          exact ih4 (i + 1) a (by omega) (by omega) (by rw [ha]; simp [orI, oneE, or0, c25]) ls (lv_sub hl [0, 1, 2] rfl)
        · -- 25 False
          refine lv_aload_n hx hb dX4_witnesses_28 rfl (lv_at hl 2 rfl) ?_
          refine va_get (D := D) (ci := 4) (v := .ref (q 9)) (C := RX4) (T := TX4) (N := 7) hx hb hts hin4 hown hK.1 hP 0 rfl rfl 1 (by decide) (hts (.fieldLink RX4 19 "TestPicker" "history" "LTestPicker$History;") (by decide +kernel)) (fun _ h9 => h9) rfl dX4_witnesses_29 ?_
          refine va_get (D := D) (ci := 0) (v := .ref (q 11)) (C := RX0) (T := TX0) (N := 4) hx hb hts hin0 hown hK.1 hP 9 rfl rfl 1 (by decide) (hts (.fieldLink RX4 121 "TestPicker$History" "fellIn" "[J") (by decide +kernel)) (fun _ h9 => h9) rfl dX4_witnesses_32 ?_
          refine lv_iload_n hx hb dX4_witnesses_35 rfl (lv_at hl 0 rfl) ?_
          refine ld_l hx hb hK hP 11 (f := hFe hs) rfl (i := i) (by omega) (by decide) dX4_witnesses_36 ?_
          refine lv_lconst (v := 0) hx hb dX4_witnesses_37 (by decide) ?_
          refine W.lcmp hx hb dX4_witnesses_38 ?_
          refine lv_if_eq (tgt := 56) hx hb dX4_witnesses_39 (by decide) (fun c39 => ?_) (fun c39 => ?_)
          · -- 39 True
            have c39 := (lg_cmp_eq _ _).mp c39
            refine lv_iinc (v := nI (i + 1)) (lv' := [(2, .int (nI (i + 1))), (1, .int a), (0, .ref (q 0))]) hx hb dX4_witnesses_56 hl (k := 0) rfl (nI_inc _) (by decide) rfl (fun ls hl => ?_)
            refine lv_goto (tgt := 4) hx hb dX4_witnesses_59 (by decide) ?_
            exact ih4 (i + 1) a (by omega) (by omega) (by rw [ha]; simp [orI, oneE, or0, c25, c39]) ls (lv_sub hl [0, 1, 2] rfl)
          · -- 39 False
            have c39 := lg_ne.mp c39
            refine lv_aload_n hx hb dX4_witnesses_42 rfl (lv_at hl 2 rfl) ?_
            refine lv_iload_n hx hb dX4_witnesses_43 rfl (lv_at hl 0 rfl) ?_
            refine ro_Vi (As := [.int (nI i)]) (rest := []) ⟨hx, hb, hml, hown, hts⟩ (c_X4_isFlaky l D q c ms ts hs ps ss i (by omega) (by omega)) (cwV 1 hts gX4_witnesses_X4_isFlaky rfl rfl rfl (by decide +kernel) ⟨Nat.le_of_ble_eq_true rfl, Nat.le_of_ble_eq_true rfl⟩) hP hK (va_recv hK.1 hP (ci := 4) (q0 := 0) rfl rfl) rfl hl.1 rfl (Nat.le_of_ble_eq_true rfl) dX4_witnesses_44 ⟨Nat.le_of_ble_eq_true rfl, Nat.le_of_ble_eq_true rfl⟩ ?_
            refine lv_if_ne (tgt := 56) hx hb dX4_witnesses_47 (by decide) (fun c47 => ?_) (fun c47 => ?_)
            · -- 47 True
              have c47 := bI_nz.mp c47
              refine lv_iinc (v := nI (i + 1)) (lv' := [(2, .int (nI (i + 1))), (1, .int a), (0, .ref (q 0))]) hx hb dX4_witnesses_56 hl (k := 0) rfl (nI_inc _) (by decide) rfl (fun ls hl => ?_)
              refine lv_goto (tgt := 4) hx hb dX4_witnesses_59 (by decide) ?_
              exact ih4 (i + 1) a (by omega) (by omega) (by rw [ha]; simp [orI, oneE, or0, c25, c39, c47]) ls (lv_sub hl [0, 1, 2] rfl)
            · -- 47 False
              have c47 := bI_z.mp c47
              refine lv_iload_n hx hb dX4_witnesses_50 rfl (lv_at hl 1 rfl) ?_
              refine lv_iconst (v := 1) hx hb dX4_witnesses_51 (by decide) ?_
              refine lv_iload_n hx hb dX4_witnesses_52 rfl (lv_at hl 0 rfl) ?_
              refine lv_ishl hx hb dX4_witnesses_53 ?_
              refine lv_ior hx hb dX4_witnesses_54 ?_
              refine lv_istore_n (lv' := [(1, .int (a ||| (1 <<< (nI i &&& 31)))), (2, .int (nI i)), (0, .ref (q 0))]) hx hb dX4_witnesses_55 rfl hl (by decide) rfl (fun ls hl => ?_)
              refine lv_iinc (v := nI (i + 1)) (lv' := [(2, .int (nI (i + 1))), (1, .int (a ||| (1 <<< (nI i &&& 31)))), (0, .ref (q 0))]) hx hb dX4_witnesses_56 hl (k := 1) rfl (nI_inc _) (by decide) rfl (fun ls hl => ?_)
              refine lv_goto (tgt := 4) hx hb dX4_witnesses_59 (by decide) ?_
              exact ih4 (i + 1) (a ||| (1 <<< (nI i &&& 31))) (by omega) (by omega) (by rw [ha]; simp [orI, oneE, or0, c25, c39, c47]) ls (lv_sub hl [0, 1, 2] rfl)
  exact L4 (tT ts + 1) 0 0 (by omega) (by omega) (rfl) ls (lv_sub hl [0, 1, 2] rfl)

set_option maxHeartbeats 4000000 in
set_option maxRecDepth 100000 in
theorem c_X4_buildsShown (l : Launch) (D : va_G) (q : Nat → Nat) (c : CT) (ms : MS) (ts : TS) (hs : HS) (ps : PS) (ss : SS) (x : Int32) (hT : tT ts ≤ 20) : ROl l yX4_buildsShown wsX4_buildsShown ({ frames := 1, cells := 0, slots := 0, locals := 21 } : Room) [.ref (q 0), .int x] D c (wC q c (ms, ts, hs, ps, ss)) (paS (hFe hs) x (tT ts)) := by
  refine ro_startl (cc := cX4_buildsShown) (maxL := 5) (ret := some .long) (by decide) rfl (Nat.le_of_ble_eq_true rfl) ?_
  intro p e s m args below meth c0 ls hx hb hr hml hown hts hlk hP hK hl
  have hown : s.vm.findClass RX4 = some m.cls := hown
  have hl : lv_has ls 5 [(0, .ref (q 0)), (1, .int x)] := hl
  have hin0 : ∀ w ∈ wsX00, w ∈ wsX4_buildsShown := by decide +kernel
  have hin3 : ∀ w ∈ wsX30, w ∈ wsX4_buildsShown := by decide +kernel
  have hin4 : ∀ w ∈ wsX40, w ∈ wsX4_buildsShown := by decide +kernel
  refine lv_lconst (v := 0) hx hb dX4_buildsShown_0 (by decide) ?_
  refine lv_lstore_n (lv' := [(2, .long 0), (0, .ref (q 0)), (1, .int x)]) hx hb dX4_buildsShown_1 rfl hl (by decide) rfl (fun ls hl => ?_)
  refine lv_iconst (v := 0) hx hb dX4_buildsShown_2 (by decide) ?_
  refine lv_istore (lv' := [(4, .int 0), (2, .long 0), (0, .ref (q 0)), (1, .int x)]) hx hb dX4_buildsShown_3 hl (by decide) rfl (fun ls hl => ?_)
  have L5 : ∀ (n : Nat) (i : Nat) (a : Int64), (i ≤ tT ts) → (tT ts < i + n) → (a = paS (hFe hs) x i) → ∀ ls : Array Slot, lv_has ls 5 [(4, .int (nI i)), (2, .long a), (0, .ref (q 0)), (1, .int x)] → W p l e ({ frames := 1, cells := 0, slots := 0, locals := 21 } : Room) s m args below meth c0 s.heap [] 0 0 (QRl below args s (paS (hFe hs) x (tT ts))) (F0 m 5 ls []) := by
    intro n
    induction n with
    | zero => intro i a hi hn ha ls hl; exact absurd hn (by omega)
    | succ n ih5 =>
      intro i a hi hn ha ls hl
      refine lv_iload hx hb dX4_buildsShown_5 (lv_at hl 0 rfl) ?_
      refine lv_aload_n hx hb dX4_buildsShown_7 rfl (lv_at hl 2 rfl) ?_
      refine va_get (D := D) (ci := 4) (v := .ref (q 2)) (C := RX4) (T := TX4) (N := 7) hx hb hts hin4 hown hK.1 hP 0 rfl rfl 0 (by decide) (hts (.fieldLink RX4 10 "TestPicker" "tests" "LTestPicker$Tests;") (by decide +kernel)) (fun _ h9 => h9) rfl dX4_buildsShown_8 ?_
      refine va_get (D := D) (ci := 3) (v := .int (nI (tT ts))) (C := RX3) (T := TX3) (N := 7) hx hb hts hin3 hown hK.1 hP 2 rfl rfl 6 (by decide) (hts (.fieldLink RX4 56 "TestPicker$Tests" "size" "I") (by decide +kernel)) (fun _ h9 => h9) rfl dX4_buildsShown_11 ?_
      refine lv_icmp_ge (tgt := 45) hx hb dX4_buildsShown_14 (by decide) (fun c14 => ?_) (fun c14 => ?_)
      · -- 14 True
        have c14 : (tT ts) ≤ i := (nI_leI (a := (tT ts)) (b := i) (by omega) (by omega)).mp c14
        refine lv_lload_n hx hb dX4_buildsShown_45 rfl (lv_at hl 1 rfl) ?_
        exact ro_retl hx hb hr hlk (by rw [ha, show i = tT ts by omega]) dX4_buildsShown_46
      · -- 14 False
        have c14 : i < (tT ts) := (Nat.not_le.mp (fun z => c14 ((nI_leI (a := (tT ts)) (b := i) (by omega) (by omega)).mpr z)))
        refine lv_iload hx hb dX4_buildsShown_17 (lv_at hl 0 rfl) ?_
        refine lv_iload_n hx hb dX4_buildsShown_19 rfl (lv_at hl 3 rfl) ?_
        refine ro_Si (As := [.int (nI i), .int x]) (rest := []) ⟨hx, hb, hml, hown, hts⟩ (c_X4_isIn l D c i x (by omega)) (va_cwS 2 hts gX4_buildsShown_X4_isIn rfl rfl rfl (by decide +kernel) ⟨Nat.le_of_ble_eq_true rfl, Nat.le_of_ble_eq_true rfl⟩) va_P0 hK rfl hl.1 rfl (Nat.le_of_ble_eq_true rfl) dX4_buildsShown_20 ⟨Nat.le_of_ble_eq_true rfl, Nat.le_of_ble_eq_true rfl⟩ ?_
        refine lv_if_eq (tgt := 39) hx hb dX4_buildsShown_23 (by decide) (fun c23 => ?_) (fun c23 => ?_)
        · -- 23 True
          have c23 := bI_z.mp c23
          refine lv_iinc (v := nI (i + 1)) (lv' := [(4, .int (nI (i + 1))), (2, .long a), (0, .ref (q 0)), (1, .int x)]) hx hb dX4_buildsShown_39 hl (k := 0) rfl (nI_inc _) (by decide) rfl (fun ls hl => ?_)
          refine lv_goto (tgt := 5) hx hb dX4_buildsShown_42 (by decide) ?_
          exact ih5 (i + 1) a (by omega) (by omega) (by rw [ha]; simp [paS, lOr0, c23]) ls (lv_sub hl [0, 1, 2, 3] rfl)
        · -- 23 False
          have c23 := bI_nz.mp c23
          refine lv_lload_n hx hb dX4_buildsShown_26 rfl (lv_at hl 1 rfl) ?_
          refine lv_aload_n hx hb dX4_buildsShown_27 rfl (lv_at hl 2 rfl) ?_
          refine va_get (D := D) (ci := 4) (v := .ref (q 9)) (C := RX4) (T := TX4) (N := 7) hx hb hts hin4 hown hK.1 hP 0 rfl rfl 1 (by decide) (hts (.fieldLink RX4 19 "TestPicker" "history" "LTestPicker$History;") (by decide +kernel)) (fun _ h9 => h9) rfl dX4_buildsShown_28 ?_
          refine va_get (D := D) (ci := 0) (v := .ref (q 11)) (C := RX0) (T := TX0) (N := 4) hx hb hts hin0 hown hK.1 hP 9 rfl rfl 1 (by decide) (hts (.fieldLink RX4 121 "TestPicker$History" "fellIn" "[J") (by decide +kernel)) (fun _ h9 => h9) rfl dX4_buildsShown_31 ?_
          refine lv_iload hx hb dX4_buildsShown_34 (lv_at hl 0 rfl) ?_
          refine ld_l hx hb hK hP 11 (f := hFe hs) rfl (i := i) (by omega) (by decide) dX4_buildsShown_36 ?_
          refine lv_lor hx hb dX4_buildsShown_37 ?_
          refine lv_lstore_n (lv' := [(2, .long (a ||| (hFe hs i))), (4, .int (nI i)), (0, .ref (q 0)), (1, .int x)]) hx hb dX4_buildsShown_38 rfl hl (by decide) rfl (fun ls hl => ?_)
          refine lv_iinc (v := nI (i + 1)) (lv' := [(4, .int (nI (i + 1))), (2, .long (a ||| (hFe hs i))), (0, .ref (q 0)), (1, .int x)]) hx hb dX4_buildsShown_39 hl (k := 1) rfl (nI_inc _) (by decide) rfl (fun ls hl => ?_)
          refine lv_goto (tgt := 5) hx hb dX4_buildsShown_42 (by decide) ?_
          exact ih5 (i + 1) (a ||| (hFe hs i)) (by omega) (by omega) (by rw [ha]; simp [paS, lOr0, c23]) ls (lv_sub hl [0, 1, 2, 3] rfl)
  exact L5 (tT ts + 1) 0 0 (by omega) (by omega) (rfl) ls (lv_sub hl [0, 1, 2, 3] rfl)
end
