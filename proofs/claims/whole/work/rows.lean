section
/-- a private method of a class that the tables say can be made, by its rows of tables_1 -/
def lw_okq (q : MethodName × Nat) : Prop := (q.1.cls ≠ "java/lang/invoke/MethodHandle" ∧ q.1.cls ≠ "java/lang/invoke/VarHandle") ∧ Cond.instantiable q.1.cls q.2 ∈ tables_1 ∧ Cond.privateMethod q.1 ∈ tables_1 ∧ Cond.instanceMethod q.1 ∈ tables_1
theorem lw_p0 : lw_okq (⟨"NetLoft", "keep", "(LNetLoft$Panel;)I"⟩, 10) := ⟨⟨by decide +kernel, by decide +kernel⟩, List.mem_of_getElem? (i := 14) (by decide +kernel), List.mem_of_getElem? (i := 264) (by decide +kernel), List.mem_of_getElem? (i := 265) (by decide +kernel)⟩
theorem lw_p1 : lw_okq (⟨"NetLoft", "panelAt", "(I)LNetLoft$Panel;"⟩, 10) := ⟨⟨by decide +kernel, by decide +kernel⟩, List.mem_of_getElem? (i := 14) (by decide +kernel), List.mem_of_getElem? (i := 272) (by decide +kernel), List.mem_of_getElem? (i := 273) (by decide +kernel)⟩
theorem lw_p2 : lw_okq (⟨"NetLoft$Row", "shareOf", "(II)I"⟩, 7) := ⟨⟨by decide +kernel, by decide +kernel⟩, List.mem_of_getElem? (i := 215) (by decide +kernel), List.mem_of_getElem? (i := 403) (by decide +kernel), List.mem_of_getElem? (i := 404) (by decide +kernel)⟩
theorem lw_p3 : lw_okq (⟨"NetLoft$Hole", "clear", "()V"⟩, 9) := ⟨⟨by decide +kernel, by decide +kernel⟩, List.mem_of_getElem? (i := 24) (by decide +kernel), List.mem_of_getElem? (i := 458) (by decide +kernel), List.mem_of_getElem? (i := 459) (by decide +kernel)⟩
theorem lw_p4 : lw_okq (⟨"NetLoft$Hole", "reach", "(II)V"⟩, 9) := ⟨⟨by decide +kernel, by decide +kernel⟩, List.mem_of_getElem? (i := 24) (by decide +kernel), List.mem_of_getElem? (i := 463) (by decide +kernel), List.mem_of_getElem? (i := 464) (by decide +kernel)⟩
theorem lw_p5 : lw_okq (⟨"NetLoft$Hole", "reachFrom", "(LNetLoft$Panel;II)V"⟩, 9) := ⟨⟨by decide +kernel, by decide +kernel⟩, List.mem_of_getElem? (i := 24) (by decide +kernel), List.mem_of_getElem? (i := 468) (by decide +kernel), List.mem_of_getElem? (i := 469) (by decide +kernel)⟩
theorem lw_p6 : lw_okq (⟨"NetLoft$Hole", "listReached", "(LNetLoft$Panel;)V"⟩, 9) := ⟨⟨by decide +kernel, by decide +kernel⟩, List.mem_of_getElem? (i := 24) (by decide +kernel), List.mem_of_getElem? (i := 474) (by decide +kernel), List.mem_of_getElem? (i := 475) (by decide +kernel)⟩
theorem lw_p7 : lw_okq (⟨"NetLoft$Way", "goTo", "(I)V"⟩, 4) := ⟨⟨by decide +kernel, by decide +kernel⟩, List.mem_of_getElem? (i := 62) (by decide +kernel), List.mem_of_getElem? (i := 508) (by decide +kernel), List.mem_of_getElem? (i := 509) (by decide +kernel)⟩
theorem lw_p8 : lw_okq (⟨"NetLoft$Way", "goBackFrom", "(I)V"⟩, 4) := ⟨⟨by decide +kernel, by decide +kernel⟩, List.mem_of_getElem? (i := 62) (by decide +kernel), List.mem_of_getElem? (i := 528) (by decide +kernel), List.mem_of_getElem? (i := 529) (by decide +kernel)⟩
theorem lw_p9 : lw_okq (⟨"NetLoft$Seam", "spread", "(II)V"⟩, 2) := ⟨⟨by decide +kernel, by decide +kernel⟩, List.mem_of_getElem? (i := 98) (by decide +kernel), List.mem_of_getElem? (i := 587) (by decide +kernel), List.mem_of_getElem? (i := 588) (by decide +kernel)⟩
theorem lw_p10 : lw_okq (⟨"NetLoft$Seam", "giveOneEach", "(LNetLoft$Row;)V"⟩, 2) := ⟨⟨by decide +kernel, by decide +kernel⟩, List.mem_of_getElem? (i := 98) (by decide +kernel), List.mem_of_getElem? (i := 593) (by decide +kernel), List.mem_of_getElem? (i := 594) (by decide +kernel)⟩
theorem lw_p11 : lw_okq (⟨"NetLoft", "openingOf", "(LNetLoft$Panel;)I"⟩, 10) := ⟨⟨by decide +kernel, by decide +kernel⟩, List.mem_of_getElem? (i := 14) (by decide +kernel), List.mem_of_getElem? (i := 619) (by decide +kernel), List.mem_of_getElem? (i := 620) (by decide +kernel)⟩
theorem lw_p12 : lw_okq (⟨"NetLoft$Loads", "countWholeSides", "(LNetLoft$Row;)V"⟩, 4) := ⟨⟨by decide +kernel, by decide +kernel⟩, List.mem_of_getElem? (i := 113) (by decide +kernel), List.mem_of_getElem? (i := 641) (by decide +kernel), List.mem_of_getElem? (i := 642) (by decide +kernel)⟩
theorem lw_p13 : lw_okq (⟨"NetLoft$Loads", "lose", "(ILNetLoft$Row;)V"⟩, 4) := ⟨⟨by decide +kernel, by decide +kernel⟩, List.mem_of_getElem? (i := 113) (by decide +kernel), List.mem_of_getElem? (i := 646) (by decide +kernel), List.mem_of_getElem? (i := 647) (by decide +kernel)⟩
theorem lw_p14 : lw_okq (⟨"NetLoft$Loads", "handOn", "(ILNetLoft$Row;)V"⟩, 4) := ⟨⟨by decide +kernel, by decide +kernel⟩, List.mem_of_getElem? (i := 113) (by decide +kernel), List.mem_of_getElem? (i := 650) (by decide +kernel), List.mem_of_getElem? (i := 651) (by decide +kernel)⟩
theorem lw_p15 : lw_okq (⟨"NetLoft$Loads", "inAll", "(ILNetLoft$Row;)J"⟩, 4) := ⟨⟨by decide +kernel, by decide +kernel⟩, List.mem_of_getElem? (i := 113) (by decide +kernel), List.mem_of_getElem? (i := 654) (by decide +kernel), List.mem_of_getElem? (i := 655) (by decide +kernel)⟩
def lw_privs_1 : List (MethodName × Nat) := [(⟨"NetLoft", "keep", "(LNetLoft$Panel;)I"⟩, 10), (⟨"NetLoft", "panelAt", "(I)LNetLoft$Panel;"⟩, 10), (⟨"NetLoft$Row", "shareOf", "(II)I"⟩, 7), (⟨"NetLoft$Hole", "clear", "()V"⟩, 9), (⟨"NetLoft$Hole", "reach", "(II)V"⟩, 9), (⟨"NetLoft$Hole", "reachFrom", "(LNetLoft$Panel;II)V"⟩, 9), (⟨"NetLoft$Hole", "listReached", "(LNetLoft$Panel;)V"⟩, 9), (⟨"NetLoft$Way", "goTo", "(I)V"⟩, 4), (⟨"NetLoft$Way", "goBackFrom", "(I)V"⟩, 4), (⟨"NetLoft$Seam", "spread", "(II)V"⟩, 2), (⟨"NetLoft$Seam", "giveOneEach", "(LNetLoft$Row;)V"⟩, 2), (⟨"NetLoft", "openingOf", "(LNetLoft$Panel;)I"⟩, 10), (⟨"NetLoft$Loads", "countWholeSides", "(LNetLoft$Row;)V"⟩, 4), (⟨"NetLoft$Loads", "lose", "(ILNetLoft$Row;)V"⟩, 4), (⟨"NetLoft$Loads", "handOn", "(ILNetLoft$Row;)V"⟩, 4), (⟨"NetLoft$Loads", "inAll", "(ILNetLoft$Row;)J"⟩, 4)]
theorem lw_r1 : ∀ q ∈ lw_privs_1, lw_okq q := List.forall_mem_cons.mpr ⟨lw_p0, List.forall_mem_cons.mpr ⟨lw_p1, List.forall_mem_cons.mpr ⟨lw_p2, List.forall_mem_cons.mpr ⟨lw_p3, List.forall_mem_cons.mpr ⟨lw_p4, List.forall_mem_cons.mpr ⟨lw_p5, List.forall_mem_cons.mpr ⟨lw_p6, List.forall_mem_cons.mpr ⟨lw_p7, List.forall_mem_cons.mpr ⟨lw_p8, List.forall_mem_cons.mpr ⟨lw_p9, List.forall_mem_cons.mpr ⟨lw_p10, List.forall_mem_cons.mpr ⟨lw_p11, List.forall_mem_cons.mpr ⟨lw_p12, List.forall_mem_cons.mpr ⟨lw_p13, List.forall_mem_cons.mpr ⟨lw_p14, List.forall_mem_cons.mpr ⟨lw_p15, fun _ h => absurd h List.not_mem_nil⟩⟩⟩⟩⟩⟩⟩⟩⟩⟩⟩⟩⟩⟩⟩⟩
theorem lw_p16 : lw_okq (⟨"NetLoftModel", "newPanel", "(II)I"⟩, 39) := ⟨⟨by decide +kernel, by decide +kernel⟩, List.mem_of_getElem? (i := 681) (by decide +kernel), List.mem_of_getElem? (i := 810) (by decide +kernel), List.mem_of_getElem? (i := 811) (by decide +kernel)⟩
theorem lw_p17 : lw_okq (⟨"NetLoftModel", "clears", "(II)V"⟩, 39) := ⟨⟨by decide +kernel, by decide +kernel⟩, List.mem_of_getElem? (i := 681) (by decide +kernel), List.mem_of_getElem? (i := 814) (by decide +kernel), List.mem_of_getElem? (i := 815) (by decide +kernel)⟩
theorem lw_p18 : lw_okq (⟨"NetLoftModel", "isPanel", "(I)Z"⟩, 39) := ⟨⟨by decide +kernel, by decide +kernel⟩, List.mem_of_getElem? (i := 681) (by decide +kernel), List.mem_of_getElem? (i := 825) (by decide +kernel), List.mem_of_getElem? (i := 826) (by decide +kernel)⟩
theorem lw_p19 : lw_okq (⟨"NetLoftModel", "given", "(II)I"⟩, 39) := ⟨⟨by decide +kernel, by decide +kernel⟩, List.mem_of_getElem? (i := 681) (by decide +kernel), List.mem_of_getElem? (i := 829) (by decide +kernel), List.mem_of_getElem? (i := 830) (by decide +kernel)⟩
theorem lw_p20 : lw_okq (⟨"NetLoftModel", "hangs", "(II)V"⟩, 39) := ⟨⟨by decide +kernel, by decide +kernel⟩, List.mem_of_getElem? (i := 681) (by decide +kernel), List.mem_of_getElem? (i := 833) (by decide +kernel), List.mem_of_getElem? (i := 834) (by decide +kernel)⟩
theorem lw_p21 : lw_okq (⟨"NetLoftModel", "isKnot", "(III)Z"⟩, 39) := ⟨⟨by decide +kernel, by decide +kernel⟩, List.mem_of_getElem? (i := 681) (by decide +kernel), List.mem_of_getElem? (i := 841) (by decide +kernel), List.mem_of_getElem? (i := 842) (by decide +kernel)⟩
theorem lw_p22 : lw_okq (⟨"NetLoftModel", "isRow", "(II)Z"⟩, 39) := ⟨⟨by decide +kernel, by decide +kernel⟩, List.mem_of_getElem? (i := 681) (by decide +kernel), List.mem_of_getElem? (i := 845) (by decide +kernel), List.mem_of_getElem? (i := 846) (by decide +kernel)⟩
theorem lw_p23 : lw_okq (⟨"NetLoftModel", "becomes", "(II)V"⟩, 39) := ⟨⟨by decide +kernel, by decide +kernel⟩, List.mem_of_getElem? (i := 681) (by decide +kernel), List.mem_of_getElem? (i := 849) (by decide +kernel), List.mem_of_getElem? (i := 850) (by decide +kernel)⟩
theorem lw_p24 : lw_okq (⟨"NetLoftModel", "goneAt", "(III)I"⟩, 39) := ⟨⟨by decide +kernel, by decide +kernel⟩, List.mem_of_getElem? (i := 681) (by decide +kernel), List.mem_of_getElem? (i := 879) (by decide +kernel), List.mem_of_getElem? (i := 880) (by decide +kernel)⟩
theorem lw_p25 : lw_okq (⟨"NetLoftModel", "below", "(IIII)I"⟩, 39) := ⟨⟨by decide +kernel, by decide +kernel⟩, List.mem_of_getElem? (i := 681) (by decide +kernel), List.mem_of_getElem? (i := 883) (by decide +kernel), List.mem_of_getElem? (i := 884) (by decide +kernel)⟩
theorem lw_p26 : lw_okq (⟨"NetLoftModel", "hangsIn", "(III)Z"⟩, 39) := ⟨⟨by decide +kernel, by decide +kernel⟩, List.mem_of_getElem? (i := 681) (by decide +kernel), List.mem_of_getElem? (i := 887) (by decide +kernel), List.mem_of_getElem? (i := 888) (by decide +kernel)⟩
theorem lw_p27 : lw_okq (⟨"NetLoftModel", "spreads", "(III)V"⟩, 39) := ⟨⟨by decide +kernel, by decide +kernel⟩, List.mem_of_getElem? (i := 681) (by decide +kernel), List.mem_of_getElem? (i := 911) (by decide +kernel), List.mem_of_getElem? (i := 912) (by decide +kernel)⟩
theorem lw_p28 : lw_okq (⟨"NetLoftModel", "oddOnes", "(I)I"⟩, 39) := ⟨⟨by decide +kernel, by decide +kernel⟩, List.mem_of_getElem? (i := 681) (by decide +kernel), List.mem_of_getElem? (i := 915) (by decide +kernel), List.mem_of_getElem? (i := 916) (by decide +kernel)⟩
theorem lw_p29 : lw_okq (⟨"NetLoftModel", "goesOn", "(III)I"⟩, 39) := ⟨⟨by decide +kernel, by decide +kernel⟩, List.mem_of_getElem? (i := 681) (by decide +kernel), List.mem_of_getElem? (i := 930) (by decide +kernel), List.mem_of_getElem? (i := 931) (by decide +kernel)⟩
theorem lw_p30 : lw_okq (⟨"NetLoftModel", "isGone", "(III)Z"⟩, 39) := ⟨⟨by decide +kernel, by decide +kernel⟩, List.mem_of_getElem? (i := 681) (by decide +kernel), List.mem_of_getElem? (i := 934) (by decide +kernel), List.mem_of_getElem? (i := 935) (by decide +kernel)⟩
theorem lw_p31 : lw_okq (⟨"NetLoftModel", "ties", "(IIIZ)V"⟩, 39) := ⟨⟨by decide +kernel, by decide +kernel⟩, List.mem_of_getElem? (i := 681) (by decide +kernel), List.mem_of_getElem? (i := 938) (by decide +kernel), List.mem_of_getElem? (i := 939) (by decide +kernel)⟩
def lw_privs_2 : List (MethodName × Nat) := [(⟨"NetLoftModel", "newPanel", "(II)I"⟩, 39), (⟨"NetLoftModel", "clears", "(II)V"⟩, 39), (⟨"NetLoftModel", "isPanel", "(I)Z"⟩, 39), (⟨"NetLoftModel", "given", "(II)I"⟩, 39), (⟨"NetLoftModel", "hangs", "(II)V"⟩, 39), (⟨"NetLoftModel", "isKnot", "(III)Z"⟩, 39), (⟨"NetLoftModel", "isRow", "(II)Z"⟩, 39), (⟨"NetLoftModel", "becomes", "(II)V"⟩, 39), (⟨"NetLoftModel", "goneAt", "(III)I"⟩, 39), (⟨"NetLoftModel", "below", "(IIII)I"⟩, 39), (⟨"NetLoftModel", "hangsIn", "(III)Z"⟩, 39), (⟨"NetLoftModel", "spreads", "(III)V"⟩, 39), (⟨"NetLoftModel", "oddOnes", "(I)I"⟩, 39), (⟨"NetLoftModel", "goesOn", "(III)I"⟩, 39), (⟨"NetLoftModel", "isGone", "(III)Z"⟩, 39), (⟨"NetLoftModel", "ties", "(IIIZ)V"⟩, 39)]
theorem lw_r2 : ∀ q ∈ lw_privs_2, lw_okq q := List.forall_mem_cons.mpr ⟨lw_p16, List.forall_mem_cons.mpr ⟨lw_p17, List.forall_mem_cons.mpr ⟨lw_p18, List.forall_mem_cons.mpr ⟨lw_p19, List.forall_mem_cons.mpr ⟨lw_p20, List.forall_mem_cons.mpr ⟨lw_p21, List.forall_mem_cons.mpr ⟨lw_p22, List.forall_mem_cons.mpr ⟨lw_p23, List.forall_mem_cons.mpr ⟨lw_p24, List.forall_mem_cons.mpr ⟨lw_p25, List.forall_mem_cons.mpr ⟨lw_p26, List.forall_mem_cons.mpr ⟨lw_p27, List.forall_mem_cons.mpr ⟨lw_p28, List.forall_mem_cons.mpr ⟨lw_p29, List.forall_mem_cons.mpr ⟨lw_p30, List.forall_mem_cons.mpr ⟨lw_p31, fun _ h => absurd h List.not_mem_nil⟩⟩⟩⟩⟩⟩⟩⟩⟩⟩⟩⟩⟩⟩⟩⟩
theorem lw_p32 : lw_okq (⟨"NetLoftModel", "reaches", "(III)Z"⟩, 39) := ⟨⟨by decide +kernel, by decide +kernel⟩, List.mem_of_getElem? (i := 681) (by decide +kernel), List.mem_of_getElem? (i := 942) (by decide +kernel), List.mem_of_getElem? (i := 943) (by decide +kernel)⟩
theorem lw_p33 : lw_okq (⟨"NetLoftModel", "copies", "(IIII)V"⟩, 39) := ⟨⟨by decide +kernel, by decide +kernel⟩, List.mem_of_getElem? (i := 681) (by decide +kernel), List.mem_of_getElem? (i := 962) (by decide +kernel), List.mem_of_getElem? (i := 963) (by decide +kernel)⟩
theorem lw_p34 : lw_okq (⟨"NetLoftModel", "leads", "(I)V"⟩, 39) := ⟨⟨by decide +kernel, by decide +kernel⟩, List.mem_of_getElem? (i := 681) (by decide +kernel), List.mem_of_getElem? (i := 999) (by decide +kernel), List.mem_of_getElem? (i := 1000) (by decide +kernel)⟩
def lw_privs_3 : List (MethodName × Nat) := [(⟨"NetLoftModel", "reaches", "(III)Z"⟩, 39), (⟨"NetLoftModel", "copies", "(IIII)V"⟩, 39), (⟨"NetLoftModel", "leads", "(I)V"⟩, 39)]
theorem lw_r3 : ∀ q ∈ lw_privs_3, lw_okq q := List.forall_mem_cons.mpr ⟨lw_p32, List.forall_mem_cons.mpr ⟨lw_p33, List.forall_mem_cons.mpr ⟨lw_p34, fun _ h => absurd h List.not_mem_nil⟩⟩⟩
def lw_privs : List (MethodName × Nat) := lw_privs_1 ++ (lw_privs_2 ++ (lw_privs_3))
def lw_tbl : List Cond := k2_sels lw_privs ++ tables_1
theorem lw_privs_ok : ∀ q ∈ lw_privs, lw_okq q := by
  show ∀ q ∈ lw_privs_1 ++ (lw_privs_2 ++ (lw_privs_3)), lw_okq q
  exact List.forall_mem_append.mpr ⟨lw_r1, List.forall_mem_append.mpr ⟨lw_r2, lw_r3⟩⟩

def RX0 : String := "NetLoft$Hole"
def TX0 : u_T := fun k => match k with
  | 0 => ("NetLoft$Hole", "traced", "Z", false)
  | 1 => ("NetLoft$Hole", "size", "I", false)
  | 2 => ("NetLoft$Hole", "goneSides", "I", false)
  | 3 => ("NetLoft$Hole", "oddOnes", "I", false)
  | 4 => ("NetLoft$Hole", "knots", "[I", true)
  | 5 => ("NetLoft$Hole", "odd", "[I", true)
  | 6 => ("NetLoft$Hole", "reached", "[[I", true)
  | 7 => ("NetLoft$Hole", "queue", "[I", true)
  | _ => ("NetLoft$Hole", "queued", "I", false)
def tyX0 : Nat → FieldType := fun k => match k with
  | 0 => .boolean
  | 1 => .int
  | 2 => .int
  | 3 => .int
  | 4 => .array .int
  | 5 => .array .int
  | 6 => .array (.array .int)
  | 7 => .array .int
  | _ => .int
theorem nmX0 : ∀ a, a < 9 → ∀ b, b < 9 → a ≠ b → (TX0 a).2.1 ≠ (TX0 b).2.1 := by decide +kernel
theorem tyX0_ok : ∀ k, k < 9 → parseFieldDescriptor (TX0 k).2.2.1 = some (tyX0 k) := by decide +kernel
abbrev cX0_init : ByteArray := prog_2_method_1_code
def yX0_init : MethodName := ⟨RX0, "<init>", "()V"⟩
abbrev cX0_trace : ByteArray := prog_2_method_2_code
def yX0_trace : MethodName := ⟨RX0, "trace", "(LNetLoft$Panel;II)V"⟩
abbrev cX0_clear : ByteArray := prog_2_method_3_code
def yX0_clear : MethodName := ⟨RX0, "clear", "()V"⟩
abbrev cX0_reach : ByteArray := prog_2_method_4_code
def yX0_reach : MethodName := ⟨RX0, "reach", "(II)V"⟩
abbrev cX0_reachFrom : ByteArray := prog_2_method_5_code
def yX0_reachFrom : MethodName := ⟨RX0, "reachFrom", "(LNetLoft$Panel;II)V"⟩
abbrev cX0_listReached : ByteArray := prog_2_method_6_code
def yX0_listReached : MethodName := ⟨RX0, "listReached", "(LNetLoft$Panel;)V"⟩
abbrev cX0_twines : ByteArray := prog_2_method_7_code
def yX0_twines : MethodName := ⟨RX0, "twines", "()I"⟩
abbrev cX0_tell : ByteArray := prog_2_method_8_code
def yX0_tell : MethodName := ⟨RX0, "tell", "(II)I"⟩
abbrev cX0_hasNeedle : ByteArray := prog_2_method_9_code
def yX0_hasNeedle : MethodName := ⟨RX0, "hasNeedle", "(LNetLoft$Panel;)Z"⟩
abbrev cX0_beginning : ByteArray := prog_2_method_10_code
def yX0_beginning : MethodName := ⟨RX0, "beginning", "()I"⟩
def RX1 : String := "NetLoft$Loads"
def TX1 : u_T := fun k => match k with
  | 0 => ("NetLoft$Loads", "lost", "J", false)
  | 1 => ("NetLoft$Loads", "foot", "J", false)
  | 2 => ("NetLoft$Loads", "upper", "[[J", true)
  | _ => ("NetLoft$Loads", "wholeSides", "[I", true)
def tyX1 : Nat → FieldType := fun k => match k with
  | 0 => .long
  | 1 => .long
  | 2 => .array (.array .long)
  | _ => .array .int
theorem nmX1 : ∀ a, a < 4 → ∀ b, b < 4 → a ≠ b → (TX1 a).2.1 ≠ (TX1 b).2.1 := by decide +kernel
theorem tyX1_ok : ∀ k, k < 4 → parseFieldDescriptor (TX1 k).2.2.1 = some (tyX1 k) := by decide +kernel
abbrev cX1_init : ByteArray := prog_3_method_1_code
def yX1_init : MethodName := ⟨RX1, "<init>", "()V"⟩
abbrev cX1_leadDown : ByteArray := prog_3_method_2_code
def yX1_leadDown : MethodName := ⟨RX1, "leadDown", "(LNetLoft$Panel;)V"⟩
abbrev cX1_countWholeSides : ByteArray := prog_3_method_3_code
def yX1_countWholeSides : MethodName := ⟨RX1, "countWholeSides", "(LNetLoft$Row;)V"⟩
abbrev cX1_lose : ByteArray := prog_3_method_4_code
def yX1_lose : MethodName := ⟨RX1, "lose", "(ILNetLoft$Row;)V"⟩
abbrev cX1_handOn : ByteArray := prog_3_method_5_code
def yX1_handOn : MethodName := ⟨RX1, "handOn", "(ILNetLoft$Row;)V"⟩
abbrev cX1_inAll : ByteArray := prog_3_method_6_code
def yX1_inAll : MethodName := ⟨RX1, "inAll", "(ILNetLoft$Row;)J"⟩
abbrev cX1_firstAbove : ByteArray := prog_3_method_7_code
def yX1_firstAbove : MethodName := ⟨RX1, "firstAbove", "(LNetLoft$Panel;)I"⟩
abbrev cX1_isAbove : ByteArray := prog_3_method_8_code
def yX1_isAbove : MethodName := ⟨RX1, "isAbove", "(JI)Z"⟩
abbrev cX1_term : ByteArray := prog_3_method_9_code
def yX1_term : MethodName := ⟨RX1, "term", "(JI)J"⟩
abbrev cX1_commonDivisor : ByteArray := prog_3_method_10_code
def yX1_commonDivisor : MethodName := ⟨RX1, "commonDivisor", "(JJ)J"⟩
def RX2 : String := "NetLoft$Panel"
def TX2 : u_T := fun k => match k with
  | 0 => ("NetLoft$Panel", "bar", "I", true)
  | 1 => ("NetLoft$Panel", "strength", "I", true)
  | 2 => ("NetLoft$Panel", "rope", "I", false)
  | 3 => ("NetLoft$Panel", "net", "I", false)
  | 4 => ("NetLoft$Panel", "rows", "[LNetLoft$Row;", true)
  | 5 => ("NetLoft$Panel", "rowCount", "I", false)
  | _ => ("NetLoft$Panel", "pulls", "[I", true)
def tyX2 : Nat → FieldType := fun k => match k with
  | 0 => .int
  | 1 => .int
  | 2 => .int
  | 3 => .int
  | 4 => .array (.object "NetLoft$Row")
  | 5 => .int
  | _ => .array .int
theorem nmX2 : ∀ a, a < 7 → ∀ b, b < 7 → a ≠ b → (TX2 a).2.1 ≠ (TX2 b).2.1 := by decide +kernel
theorem tyX2_ok : ∀ k, k < 7 → parseFieldDescriptor (TX2 k).2.2.1 = some (tyX2 k) := by decide +kernel
abbrev cX2_init : ByteArray := prog_4_method_1_code
def yX2_init : MethodName := ⟨RX2, "<init>", "(II)V"⟩
abbrev cX2_rowAt : ByteArray := prog_4_method_2_code
def yX2_rowAt : MethodName := ⟨RX2, "rowAt", "(I)LNetLoft$Row;"⟩
abbrev cX2_lastRow : ByteArray := prog_4_method_3_code
def yX2_lastRow : MethodName := ⟨RX2, "lastRow", "()LNetLoft$Row;"⟩
abbrev cX2_rowWith : ByteArray := prog_4_method_4_code
def yX2_rowWith : MethodName := ⟨RX2, "rowWith", "(II)LNetLoft$Row;"⟩
abbrev cX2_append : ByteArray := prog_4_method_5_code
def yX2_append : MethodName := ⟨RX2, "append", "(LNetLoft$Row;)V"⟩
abbrev cX2_appendCopies : ByteArray := prog_4_method_6_code
def yX2_appendCopies : MethodName := ⟨RX2, "appendCopies", "(LNetLoft$Panel;)V"⟩
abbrev cX2_hangRow : ByteArray := prog_4_method_7_code
def yX2_hangRow : MethodName := ⟨RX2, "hangRow", "()I"⟩
abbrev cX2_bearsShaping : ByteArray := prog_4_method_8_code
def yX2_bearsShaping : MethodName := ⟨RX2, "bearsShaping", "(III)Z"⟩
abbrev cX2_shapeRows : ByteArray := prog_4_method_9_code
def yX2_shapeRows : MethodName := ⟨RX2, "shapeRows", "(III)I"⟩
abbrev cX2_goneSidesAt : ByteArray := prog_4_method_10_code
def yX2_goneSidesAt : MethodName := ⟨RX2, "goneSidesAt", "(II)I"⟩
abbrev cX2_cutSidesAt : ByteArray := prog_4_method_11_code
def yX2_cutSidesAt : MethodName := ⟨RX2, "cutSidesAt", "(II)I"⟩
abbrev cX2_goneAbove : ByteArray := prog_4_method_12_code
def yX2_goneAbove : MethodName := ⟨RX2, "goneAbove", "(II)I"⟩
abbrev cX2_goneBelow : ByteArray := prog_4_method_13_code
def yX2_goneBelow : MethodName := ⟨RX2, "goneBelow", "(II)I"⟩
abbrev cX2_totalOf : ByteArray := prog_4_method_14_code
def yX2_totalOf : MethodName := ⟨RX2, "totalOf", "(I)I"⟩
def RX3 : String := "NetLoft$Row"
def TX3 : u_T := fun k => match k with
  | 0 => ("NetLoft$Row", "places", "I", false)
  | 1 => ("NetLoft$Row", "kinds", "[I", true)
  | 2 => ("NetLoft$Row", "gives", "[I", true)
  | 3 => ("NetLoft$Row", "needles", "[I", true)
  | 4 => ("NetLoft$Row", "firsts", "[I", true)
  | 5 => ("NetLoft$Row", "sides", "[I", true)
  | _ => ("NetLoft$Row", "gone", "[I", true)
def tyX3 : Nat → FieldType := fun k => match k with
  | 0 => .int
  | 1 => .array .int
  | 2 => .array .int
  | 3 => .array .int
  | 4 => .array .int
  | 5 => .array .int
  | _ => .array .int
theorem nmX3 : ∀ a, a < 7 → ∀ b, b < 7 → a ≠ b → (TX3 a).2.1 ≠ (TX3 b).2.1 := by decide +kernel
theorem tyX3_ok : ∀ k, k < 7 → parseFieldDescriptor (TX3 k).2.2.1 = some (tyX3 k) := by decide +kernel
abbrev cX3_init : ByteArray := prog_5_method_1_code
def yX3_init : MethodName := ⟨RX3, "<init>", "(I)V"⟩
abbrev cX3_copied : ByteArray := prog_5_method_2_code
def yX3_copied : MethodName := ⟨RX3, "copied", "()LNetLoft$Row;"⟩
abbrev cX3_has : ByteArray := prog_5_method_3_code
def yX3_has : MethodName := ⟨RX3, "has", "(I)Z"⟩
abbrev cX3_turn : ByteArray := prog_5_method_4_code
def yX3_turn : MethodName := ⟨RX3, "turn", "(II)V"⟩
abbrev cX3_turnEvery : ByteArray := prog_5_method_5_code
def yX3_turnEvery : MethodName := ⟨RX3, "turnEvery", "(II)V"⟩
abbrev cX3_givenInAll : ByteArray := prog_5_method_6_code
def yX3_givenInAll : MethodName := ⟨RX3, "givenInAll", "()I"⟩
abbrev cX3_giverBehind : ByteArray := prog_5_method_7_code
def yX3_giverBehind : MethodName := ⟨RX3, "giverBehind", "(I)I"⟩
abbrev cX3_hangIn : ByteArray := prog_5_method_8_code
def yX3_hangIn : MethodName := ⟨RX3, "hangIn", "(LNetLoft$Row;)V"⟩
abbrev cX3_hangInNothing : ByteArray := prog_5_method_9_code
def yX3_hangInNothing : MethodName := ⟨RX3, "hangInNothing", "()V"⟩
abbrev cX3_placeOfSide : ByteArray := prog_5_method_10_code
def yX3_placeOfSide : MethodName := ⟨RX3, "placeOfSide", "(II)I"⟩
abbrev cX3_hangsBy : ByteArray := prog_5_method_11_code
def yX3_hangsBy : MethodName := ⟨RX3, "hangsBy", "(II)Z"⟩
abbrev cX3_isGone : ByteArray := prog_5_method_12_code
def yX3_isGone : MethodName := ⟨RX3, "isGone", "(II)Z"⟩
abbrev cX3_sideIsGone : ByteArray := prog_5_method_13_code
def yX3_sideIsGone : MethodName := ⟨RX3, "sideIsGone", "(II)Z"⟩
abbrev cX3_isWhole : ByteArray := prog_5_method_14_code
def yX3_isWhole : MethodName := ⟨RX3, "isWhole", "(II)Z"⟩
abbrev cX3_setSide : ByteArray := prog_5_method_15_code
def yX3_setSide : MethodName := ⟨RX3, "setSide", "(IIZ)V"⟩
abbrev cX3_setSideTo : ByteArray := prog_5_method_16_code
def yX3_setSideTo : MethodName := ⟨RX3, "setSideTo", "(IIZ)V"⟩
abbrev cX3_countOver : ByteArray := prog_5_method_17_code
def yX3_countOver : MethodName := ⟨RX3, "countOver", "(I)I"⟩
abbrev cX3_shareOf : ByteArray := prog_5_method_18_code
def yX3_shareOf : MethodName := ⟨RX3, "shareOf", "(II)I"⟩
def RX4 : String := "NetLoft$Seam"
def TX4 : u_T := fun k => match k with
  | 0 => ("NetLoft$Seam", "size", "I", false)
  | _ => ("NetLoft$Seam", "takes", "[I", true)
def tyX4 : Nat → FieldType := fun k => match k with
  | 0 => .int
  | _ => .array .int
theorem nmX4 : ∀ a, a < 2 → ∀ b, b < 2 → a ≠ b → (TX4 a).2.1 ≠ (TX4 b).2.1 := by decide +kernel
theorem tyX4_ok : ∀ k, k < 2 → parseFieldDescriptor (TX4 k).2.2.1 = some (tyX4 k) := by decide +kernel
abbrev cX4_init : ByteArray := prog_6_method_1_code
def yX4_init : MethodName := ⟨RX4, "<init>", "()V"⟩
abbrev cX4_join : ByteArray := prog_6_method_2_code
def yX4_join : MethodName := ⟨RX4, "join", "(LNetLoft$Row;LNetLoft$Row;)V"⟩
abbrev cX4_spread : ByteArray := prog_6_method_3_code
def yX4_spread : MethodName := ⟨RX4, "spread", "(II)V"⟩
abbrev cX4_giveOneEach : ByteArray := prog_6_method_4_code
def yX4_giveOneEach : MethodName := ⟨RX4, "giveOneEach", "(LNetLoft$Row;)V"⟩
def RX5 : String := "NetLoft$Taper"
def TX5 : u_T := fun k => match k with
  | 0 => ("NetLoft$Taper", "length", "I", false)
  | 1 => ("NetLoft$Taper", "rows", "I", false)
  | _ => ("NetLoft$Taper", "takes", "I", false)
def tyX5 : Nat → FieldType := fun k => match k with
  | 0 => .int
  | 1 => .int
  | _ => .int
theorem nmX5 : ∀ a, a < 3 → ∀ b, b < 3 → a ≠ b → (TX5 a).2.1 ≠ (TX5 b).2.1 := by decide +kernel
theorem tyX5_ok : ∀ k, k < 3 → parseFieldDescriptor (TX5 k).2.2.1 = some (tyX5 k) := by decide +kernel
abbrev cX5_init : ByteArray := prog_7_method_1_code
def yX5_init : MethodName := ⟨RX5, "<init>", "()V"⟩
abbrev cX5_find : ByteArray := prog_7_method_2_code
def yX5_find : MethodName := ⟨RX5, "find", "(II)I"⟩
abbrev cX5_tell : ByteArray := prog_7_method_3_code
def yX5_tell : MethodName := ⟨RX5, "tell", "(I)I"⟩
def RX6 : String := "NetLoft$Way"
def TX6 : u_T := fun k => match k with
  | 0 => ("NetLoft$Way", "size", "I", false)
  | 1 => ("NetLoft$Way", "backwards", "[I", true)
  | 2 => ("NetLoft$Way", "trail", "[I", true)
  | _ => ("NetLoft$Way", "onTrail", "I", false)
def tyX6 : Nat → FieldType := fun k => match k with
  | 0 => .int
  | 1 => .array .int
  | 2 => .array .int
  | _ => .int
theorem nmX6 : ∀ a, a < 4 → ∀ b, b < 4 → a ≠ b → (TX6 a).2.1 ≠ (TX6 b).2.1 := by decide +kernel
theorem tyX6_ok : ∀ k, k < 4 → parseFieldDescriptor (TX6 k).2.2.1 = some (tyX6 k) := by decide +kernel
abbrev cX6_init : ByteArray := prog_8_method_1_code
def yX6_init : MethodName := ⟨RX6, "<init>", "()V"⟩
abbrev cX6_knotAt : ByteArray := prog_8_method_2_code
def yX6_knotAt : MethodName := ⟨RX6, "knotAt", "(I)I"⟩
abbrev cX6_walk : ByteArray := prog_8_method_3_code
def yX6_walk : MethodName := ⟨RX6, "walk", "(LNetLoft$Panel;I)V"⟩
abbrev cX6_goTo : ByteArray := prog_8_method_4_code
def yX6_goTo : MethodName := ⟨RX6, "goTo", "(I)V"⟩
abbrev cX6_goBackFrom : ByteArray := prog_8_method_5_code
def yX6_goBackFrom : MethodName := ⟨RX6, "goBackFrom", "(I)V"⟩
abbrev cX6_mendOneFrom : ByteArray := prog_8_method_6_code
def yX6_mendOneFrom : MethodName := ⟨RX6, "mendOneFrom", "(LNetLoft$Panel;II)I"⟩
abbrev cX6_makeWhole : ByteArray := prog_8_method_7_code
def yX6_makeWhole : MethodName := ⟨RX6, "makeWhole", "(LNetLoft$Row;II)V"⟩
def RX7 : String := "NetLoft"
def TX7 : u_T := fun k => match k with
  | 0 => ("NetLoft", "panels", "[LNetLoft$Panel;", true)
  | 1 => ("NetLoft", "panelCount", "I", false)
  | 2 => ("NetLoft", "partValues", "[I", true)
  | 3 => ("NetLoft", "partCount", "I", false)
  | 4 => ("NetLoft", "holeAtHand", "LNetLoft$Hole;", true)
  | 5 => ("NetLoft", "holeToMend", "LNetLoft$Hole;", true)
  | 6 => ("NetLoft", "wayAtHand", "LNetLoft$Way;", true)
  | 7 => ("NetLoft", "latestTaper", "LNetLoft$Taper;", true)
  | 8 => ("NetLoft", "latestSeam", "LNetLoft$Seam;", true)
  | _ => ("NetLoft", "loads", "LNetLoft$Loads;", true)
def tyX7 : Nat → FieldType := fun k => match k with
  | 0 => .array (.object "NetLoft$Panel")
  | 1 => .int
  | 2 => .array .int
  | 3 => .int
  | 4 => .object "NetLoft$Hole"
  | 5 => .object "NetLoft$Hole"
  | 6 => .object "NetLoft$Way"
  | 7 => .object "NetLoft$Taper"
  | 8 => .object "NetLoft$Seam"
  | _ => .object "NetLoft$Loads"
theorem nmX7 : ∀ a, a < 10 → ∀ b, b < 10 → a ≠ b → (TX7 a).2.1 ≠ (TX7 b).2.1 := by decide +kernel
theorem tyX7_ok : ∀ k, k < 10 → parseFieldDescriptor (TX7 k).2.2.1 = some (tyX7 k) := by decide +kernel
abbrev cX7_init : ByteArray := prog_1_method_1_code
def yX7_init : MethodName := ⟨RX7, "<init>", "()V"⟩
abbrev cX7_panel : ByteArray := prog_1_method_2_code
def yX7_panel : MethodName := ⟨RX7, "panel", "(III)I"⟩
abbrev cX7_row : ByteArray := prog_1_method_3_code
def yX7_row : MethodName := ⟨RX7, "row", "(I)I"⟩
abbrev cX7_kind : ByteArray := prog_1_method_4_code
def yX7_kind : MethodName := ⟨RX7, "kind", "(III)Z"⟩
abbrev cX7_shape : ByteArray := prog_1_method_5_code
def yX7_shape : MethodName := ⟨RX7, "shape", "(IIII)I"⟩
abbrev cX7_ahead : ByteArray := prog_1_method_6_code
def yX7_ahead : MethodName := ⟨RX7, "ahead", "(IIII)J"⟩
abbrev cX7_meshes : ByteArray := prog_1_method_7_code
def yX7_meshes : MethodName := ⟨RX7, "meshes", "(II)I"⟩
abbrev cX7_of : ByteArray := prog_1_method_8_code
def yX7_of : MethodName := ⟨RX7, "of", "(IIII)I"⟩
abbrev cX7_panelOf : ByteArray := prog_1_method_9_code
def yX7_panelOf : MethodName := ⟨RX7, "panelOf", "(II)I"⟩
abbrev cX7_count : ByteArray := prog_1_method_10_code
def yX7_count : MethodName := ⟨RX7, "count", "(I)I"⟩
abbrev cX7_side : ByteArray := prog_1_method_11_code
def yX7_side : MethodName := ⟨RX7, "side", "(IIIIZ)Z"⟩
abbrev cX7_cut : ByteArray := prog_1_method_12_code
def yX7_cut : MethodName := ⟨RX7, "cut", "(III)I"⟩
abbrev cX7_tear : ByteArray := prog_1_method_13_code
def yX7_tear : MethodName := ⟨RX7, "tear", "(II)Z"⟩
abbrev cX7_needle : ByteArray := prog_1_method_14_code
def yX7_needle : MethodName := ⟨RX7, "needle", "(IIIZ)Z"⟩
abbrev cX7_hole : ByteArray := prog_1_method_15_code
def yX7_hole : MethodName := ⟨RX7, "hole", "(III)I"⟩
abbrev cX7_edge : ByteArray := prog_1_method_16_code
def yX7_edge : MethodName := ⟨RX7, "edge", "(II)I"⟩
abbrev cX7_mend : ByteArray := prog_1_method_17_code
def yX7_mend : MethodName := ⟨RX7, "mend", "(III)I"⟩
abbrev cX7_way : ByteArray := prog_1_method_18_code
def yX7_way : MethodName := ⟨RX7, "way", "(I)I"⟩
abbrev cX7_taper : ByteArray := prog_1_method_19_code
def yX7_taper : MethodName := ⟨RX7, "taper", "(III)I"⟩
abbrev cX7_cycle : ByteArray := prog_1_method_20_code
def yX7_cycle : MethodName := ⟨RX7, "cycle", "(I)I"⟩
abbrev cX7_sew : ByteArray := prog_1_method_21_code
def yX7_sew : MethodName := ⟨RX7, "sew", "(II)I"⟩
abbrev cX7_match : ByteArray := prog_1_method_22_code
def yX7_match : MethodName := ⟨RX7, "match", "(I)I"⟩
abbrev cX7_hang : ByteArray := prog_1_method_23_code
def yX7_hang : MethodName := ⟨RX7, "hang", "(III)Z"⟩
abbrev cX7_parts : ByteArray := prog_1_method_24_code
def yX7_parts : MethodName := ⟨RX7, "parts", "(I)Z"⟩
abbrev cX7_part : ByteArray := prog_1_method_25_code
def yX7_part : MethodName := ⟨RX7, "part", "(II)Z"⟩
abbrev cX7_open : ByteArray := prog_1_method_26_code
def yX7_open : MethodName := ⟨RX7, "open", "(I)I"⟩
abbrev cX7_slips : ByteArray := prog_1_method_27_code
def yX7_slips : MethodName := ⟨RX7, "slips", "(II)I"⟩
abbrev cX7_pull : ByteArray := prog_1_method_28_code
def yX7_pull : MethodName := ⟨RX7, "pull", "(III)Z"⟩
abbrev cX7_load : ByteArray := prog_1_method_29_code
def yX7_load : MethodName := ⟨RX7, "load", "(IIII)J"⟩
abbrev cX7_sum : ByteArray := prog_1_method_30_code
def yX7_sum : MethodName := ⟨RX7, "sum", "(III)J"⟩
abbrev cX7_weak : ByteArray := prog_1_method_31_code
def yX7_weak : MethodName := ⟨RX7, "weak", "(I)I"⟩
abbrev cX7_within : ByteArray := prog_1_method_32_code
def yX7_within : MethodName := ⟨RX7, "within", "(III)Z"⟩
abbrev cX7_isRule : ByteArray := prog_1_method_33_code
def yX7_isRule : MethodName := ⟨RX7, "isRule", "(II)Z"⟩
abbrev cX7_shapedPlaces : ByteArray := prog_1_method_34_code
def yX7_shapedPlaces : MethodName := ⟨RX7, "shapedPlaces", "(JII)J"⟩
abbrev cX7_fitTogether : ByteArray := prog_1_method_35_code
def yX7_fitTogether : MethodName := ⟨RX7, "fitTogether", "(LNetLoft$Row;LNetLoft$Row;)Z"⟩
abbrev cX7_panelAt : ByteArray := prog_1_method_36_code
def yX7_panelAt : MethodName := ⟨RX7, "panelAt", "(I)LNetLoft$Panel;"⟩
abbrev cX7_keep : ByteArray := prog_1_method_37_code
def yX7_keep : MethodName := ⟨RX7, "keep", "(LNetLoft$Panel;)I"⟩
abbrev cX7_openingOf : ByteArray := prog_1_method_38_code
def yX7_openingOf : MethodName := ⟨RX7, "openingOf", "(LNetLoft$Panel;)I"⟩
def RX8 : String := "NetLoftModel"
def TX8 : u_T := fun k => match k with
  | 0 => ("NetLoftModel", "thrown", "I", false)
  | 1 => ("NetLoftModel", "panels", "I", false)
  | 2 => ("NetLoftModel", "rows", "[I", true)
  | 3 => ("NetLoftModel", "bar", "[I", true)
  | 4 => ("NetLoftModel", "strength", "[I", true)
  | 5 => ("NetLoftModel", "hangA", "[I", true)
  | 6 => ("NetLoftModel", "hangB", "[I", true)
  | 7 => ("NetLoftModel", "pulls", "[I", true)
  | 8 => ("NetLoftModel", "many", "[I", true)
  | 9 => ("NetLoftModel", "torn", "[Z", true)
  | 10 => ("NetLoftModel", "kind", "[I", true)
  | 11 => ("NetLoftModel", "gives", "[I", true)
  | 12 => ("NetLoftModel", "first", "[I", true)
  | 13 => ("NetLoftModel", "sides", "[I", true)
  | 14 => ("NetLoftModel", "gone", "[I", true)
  | 15 => ("NetLoftModel", "needle", "[Z", true)
  | 16 => ("NetLoftModel", "partMany", "I", false)
  | 17 => ("NetLoftModel", "parts", "[I", true)
  | 18 => ("NetLoftModel", "isIn", "[Z", true)
  | 19 => ("NetLoftModel", "waits", "[I", true)
  | 20 => ("NetLoftModel", "knots", "I", false)
  | 21 => ("NetLoftModel", "lost", "I", false)
  | 22 => ("NetLoftModel", "hasHole", "Z", false)
  | 23 => ("NetLoftModel", "holeKnots", "I", false)
  | 24 => ("NetLoftModel", "holeSides", "I", false)
  | 25 => ("NetLoftModel", "holeOdd", "I", false)
  | 26 => ("NetLoftModel", "holeKnot", "[I", true)
  | 27 => ("NetLoftModel", "holeIsOdd", "[Z", true)
  | 28 => ("NetLoftModel", "wayMany", "I", false)
  | 29 => ("NetLoftModel", "way", "[I", true)
  | 30 => ("NetLoftModel", "met", "[Z", true)
  | 31 => ("NetLoftModel", "taperRows", "I", false)
  | 32 => ("NetLoftModel", "taperTakes", "I", false)
  | 33 => ("NetLoftModel", "taperAll", "I", false)
  | 34 => ("NetLoftModel", "matches", "I", false)
  | 35 => ("NetLoftModel", "match", "[I", true)
  | 36 => ("NetLoftModel", "loads", "[J", true)
  | 37 => ("NetLoftModel", "atFoot", "J", false)
  | _ => ("NetLoftModel", "atLoss", "J", false)
def tyX8 : Nat → FieldType := fun k => match k with
  | 0 => .int
  | 1 => .int
  | 2 => .array .int
  | 3 => .array .int
  | 4 => .array .int
  | 5 => .array .int
  | 6 => .array .int
  | 7 => .array .int
  | 8 => .array .int
  | 9 => .array .boolean
  | 10 => .array .int
  | 11 => .array .int
  | 12 => .array .int
  | 13 => .array .int
  | 14 => .array .int
  | 15 => .array .boolean
  | 16 => .int
  | 17 => .array .int
  | 18 => .array .boolean
  | 19 => .array .int
  | 20 => .int
  | 21 => .int
  | 22 => .boolean
  | 23 => .int
  | 24 => .int
  | 25 => .int
  | 26 => .array .int
  | 27 => .array .boolean
  | 28 => .int
  | 29 => .array .int
  | 30 => .array .boolean
  | 31 => .int
  | 32 => .int
  | 33 => .int
  | 34 => .int
  | 35 => .array .int
  | 36 => .array .long
  | 37 => .long
  | _ => .long
theorem nmX8 : ∀ a, a < 39 → ∀ b, b < 39 → a ≠ b → (TX8 a).2.1 ≠ (TX8 b).2.1 := by decide +kernel
theorem tyX8_ok : ∀ k, k < 39 → parseFieldDescriptor (TX8 k).2.2.1 = some (tyX8 k) := by decide +kernel
abbrev cX8_init : ByteArray := prog_10_method_2_code
def yX8_init : MethodName := ⟨RX8, "<init>", "()V"⟩
abbrev cX8_isPanel : ByteArray := prog_10_method_3_code
def yX8_isPanel : MethodName := ⟨RX8, "isPanel", "(I)Z"⟩
abbrev cX8_isRow : ByteArray := prog_10_method_4_code
def yX8_isRow : MethodName := ⟨RX8, "isRow", "(II)Z"⟩
abbrev cX8_isKnot : ByteArray := prog_10_method_5_code
def yX8_isKnot : MethodName := ⟨RX8, "isKnot", "(III)Z"⟩
abbrev cX8_at : ByteArray := prog_10_method_6_code
def yX8_at : MethodName := ⟨RX8, "at", "(III)I"⟩
abbrev cX8_clears : ByteArray := prog_10_method_7_code
def yX8_clears : MethodName := ⟨RX8, "clears", "(II)V"⟩
abbrev cX8_newPanel : ByteArray := prog_10_method_8_code
def yX8_newPanel : MethodName := ⟨RX8, "newPanel", "(II)I"⟩
abbrev cX8_panel : ByteArray := prog_10_method_9_code
def yX8_panel : MethodName := ⟨RX8, "panel", "(III)I"⟩
abbrev cX8_given : ByteArray := prog_10_method_10_code
def yX8_given : MethodName := ⟨RX8, "given", "(II)I"⟩
abbrev cX8_hangs : ByteArray := prog_10_method_11_code
def yX8_hangs : MethodName := ⟨RX8, "hangs", "(II)V"⟩
abbrev cX8_row : ByteArray := prog_10_method_12_code
def yX8_row : MethodName := ⟨RX8, "row", "(I)I"⟩
abbrev cX8_becomes : ByteArray := prog_10_method_13_code
def yX8_becomes : MethodName := ⟨RX8, "becomes", "(II)V"⟩
abbrev cX8_kind : ByteArray := prog_10_method_14_code
def yX8_kind : MethodName := ⟨RX8, "kind", "(III)Z"⟩
abbrev cX8_shaped : ByteArray := prog_10_method_15_code
def yX8_shaped : MethodName := ⟨RX8, "shaped", "(JII)J"⟩
abbrev cX8_shape : ByteArray := prog_10_method_16_code
def yX8_shape : MethodName := ⟨RX8, "shape", "(IIII)I"⟩
abbrev cX8_ahead : ByteArray := prog_10_method_17_code
def yX8_ahead : MethodName := ⟨RX8, "ahead", "(IIII)J"⟩
abbrev cX8_meshes : ByteArray := prog_10_method_18_code
def yX8_meshes : MethodName := ⟨RX8, "meshes", "(II)I"⟩
abbrev cX8_hangsIn : ByteArray := prog_10_method_19_code
def yX8_hangsIn : MethodName := ⟨RX8, "hangsIn", "(III)Z"⟩
abbrev cX8_bits : ByteArray := prog_10_method_20_code
def yX8_bits : MethodName := ⟨RX8, "bits", "(I)I"⟩
abbrev cX8_below : ByteArray := prog_10_method_21_code
def yX8_below : MethodName := ⟨RX8, "below", "(IIII)I"⟩
abbrev cX8_goneAt : ByteArray := prog_10_method_22_code
def yX8_goneAt : MethodName := ⟨RX8, "goneAt", "(III)I"⟩
abbrev cX8_of : ByteArray := prog_10_method_23_code
def yX8_of : MethodName := ⟨RX8, "of", "(IIII)I"⟩
abbrev cX8_side : ByteArray := prog_10_method_24_code
def yX8_side : MethodName := ⟨RX8, "side", "(IIIIZ)Z"⟩
abbrev cX8_cut : ByteArray := prog_10_method_25_code
def yX8_cut : MethodName := ⟨RX8, "cut", "(III)I"⟩
abbrev cX8_tear : ByteArray := prog_10_method_26_code
def yX8_tear : MethodName := ⟨RX8, "tear", "(II)Z"⟩
abbrev cX8_needle : ByteArray := prog_10_method_27_code
def yX8_needle : MethodName := ⟨RX8, "needle", "(IIIZ)Z"⟩
abbrev cX8_spreads : ByteArray := prog_10_method_28_code
def yX8_spreads : MethodName := ⟨RX8, "spreads", "(III)V"⟩
abbrev cX8_oddOnes : ByteArray := prog_10_method_29_code
def yX8_oddOnes : MethodName := ⟨RX8, "oddOnes", "(I)I"⟩
abbrev cX8_hole : ByteArray := prog_10_method_30_code
def yX8_hole : MethodName := ⟨RX8, "hole", "(III)I"⟩
abbrev cX8_twines : ByteArray := prog_10_method_31_code
def yX8_twines : MethodName := ⟨RX8, "twines", "(II)I"⟩
abbrev cX8_edge : ByteArray := prog_10_method_32_code
def yX8_edge : MethodName := ⟨RX8, "edge", "(II)I"⟩
abbrev cX8_mend : ByteArray := prog_10_method_33_code
def yX8_mend : MethodName := ⟨RX8, "mend", "(III)I"⟩
abbrev cX8_ties : ByteArray := prog_10_method_34_code
def yX8_ties : MethodName := ⟨RX8, "ties", "(IIIZ)V"⟩
abbrev cX8_isGone : ByteArray := prog_10_method_35_code
def yX8_isGone : MethodName := ⟨RX8, "isGone", "(III)Z"⟩
abbrev cX8_goesOn : ByteArray := prog_10_method_36_code
def yX8_goesOn : MethodName := ⟨RX8, "goesOn", "(III)I"⟩
abbrev cX8_reaches : ByteArray := prog_10_method_37_code
def yX8_reaches : MethodName := ⟨RX8, "reaches", "(III)Z"⟩
abbrev cX8_way : ByteArray := prog_10_method_38_code
def yX8_way : MethodName := ⟨RX8, "way", "(I)I"⟩
abbrev cX8_taper : ByteArray := prog_10_method_39_code
def yX8_taper : MethodName := ⟨RX8, "taper", "(III)I"⟩
abbrev cX8_cycle : ByteArray := prog_10_method_40_code
def yX8_cycle : MethodName := ⟨RX8, "cycle", "(I)I"⟩
abbrev cX8_copies : ByteArray := prog_10_method_41_code
def yX8_copies : MethodName := ⟨RX8, "copies", "(IIII)V"⟩
abbrev cX8_sew : ByteArray := prog_10_method_42_code
def yX8_sew : MethodName := ⟨RX8, "sew", "(II)I"⟩
abbrev cX8_match : ByteArray := prog_10_method_43_code
def yX8_match : MethodName := ⟨RX8, "match", "(I)I"⟩
abbrev cX8_hang : ByteArray := prog_10_method_44_code
def yX8_hang : MethodName := ⟨RX8, "hang", "(III)Z"⟩
abbrev cX8_parts : ByteArray := prog_10_method_45_code
def yX8_parts : MethodName := ⟨RX8, "parts", "(I)Z"⟩
abbrev cX8_part : ByteArray := prog_10_method_46_code
def yX8_part : MethodName := ⟨RX8, "part", "(II)Z"⟩
abbrev cX8_open : ByteArray := prog_10_method_47_code
def yX8_open : MethodName := ⟨RX8, "open", "(I)I"⟩
abbrev cX8_slips : ByteArray := prog_10_method_48_code
def yX8_slips : MethodName := ⟨RX8, "slips", "(II)I"⟩
abbrev cX8_sixth : ByteArray := prog_10_method_49_code
def yX8_sixth : MethodName := ⟨RX8, "sixth", "(I)J"⟩
abbrev cX8_leads : ByteArray := prog_10_method_50_code
def yX8_leads : MethodName := ⟨RX8, "leads", "(I)V"⟩
abbrev cX8_lowest : ByteArray := prog_10_method_51_code
def yX8_lowest : MethodName := ⟨RX8, "lowest", "(JJI)J"⟩
abbrev cX8_pull : ByteArray := prog_10_method_52_code
def yX8_pull : MethodName := ⟨RX8, "pull", "(III)Z"⟩
abbrev cX8_load : ByteArray := prog_10_method_53_code
def yX8_load : MethodName := ⟨RX8, "load", "(IIII)J"⟩
abbrev cX8_sum : ByteArray := prog_10_method_54_code
def yX8_sum : MethodName := ⟨RX8, "sum", "(III)J"⟩
abbrev cX8_weak : ByteArray := prog_10_method_55_code
def yX8_weak : MethodName := ⟨RX8, "weak", "(I)I"⟩
abbrev cX8_count : ByteArray := prog_10_method_56_code
def yX8_count : MethodName := ⟨RX8, "count", "(I)I"⟩
abbrev cX8_panelOf : ByteArray := prog_10_method_57_code
def yX8_panelOf : MethodName := ⟨RX8, "panelOf", "(II)I"⟩
def RJ6 : String := "java/lang/Integer"
def TJ6 : u_T := fun k => match k with
  | _ => ("", "", "", false)
def tyJ6 : Nat → FieldType := fun k => match k with
  | _ => .int
theorem nmJ6 : ∀ a, a < 0 → ∀ b, b < 0 → a ≠ b → (TJ6 a).2.1 ≠ (TJ6 b).2.1 := by decide +kernel
theorem tyJ6_ok : ∀ k, k < 0 → parseFieldDescriptor (TJ6 k).2.2.1 = some (tyJ6 k) := by decide +kernel
abbrev cJ6_bitCount_0f7a4 : ByteArray := prog_11_method_49_code
def yJ6_bitCount_0f7a4 : MethodName := ⟨RJ6, "bitCount", "(I)I"⟩
def RJ9 : String := "java/lang/Math"
def TJ9 : u_T := fun k => match k with
  | _ => ("", "", "", false)
def tyJ9 : Nat → FieldType := fun k => match k with
  | _ => .int
theorem nmJ9 : ∀ a, a < 0 → ∀ b, b < 0 → a ≠ b → (TJ9 a).2.1 ≠ (TJ9 b).2.1 := by decide +kernel
theorem tyJ9_ok : ∀ k, k < 0 → parseFieldDescriptor (TJ9 k).2.2.1 = some (tyJ9 k) := by decide +kernel
abbrev cJ9_max_7cf53 : ByteArray := prog_12_method_65_code
def yJ9_max_7cf53 : MethodName := ⟨RJ9, "max", "(II)I"⟩
abbrev cJ9_min_7cf53 : ByteArray := prog_12_method_69_code
def yJ9_min_7cf53 : MethodName := ⟨RJ9, "min", "(II)I"⟩
def RJ10 : String := "java/lang/System"
def TJ10 : u_T := fun k => match k with
  | _ => ("", "", "", false)
def tyJ10 : Nat → FieldType := fun k => match k with
  | _ => .int
theorem nmJ10 : ∀ a, a < 0 → ∀ b, b < 0 → a ≠ b → (TJ10 a).2.1 ≠ (TJ10 b).2.1 := by decide +kernel
theorem tyJ10_ok : ∀ k, k < 0 → parseFieldDescriptor (TJ10 k).2.2.1 = some (tyJ10 k) := by decide +kernel
def RL : String := "NetLoftLaw"
abbrev cL_law : ByteArray := code
def yL_law : MethodName := ⟨RL, "law", "([I)Z"⟩
abbrev vwCl : List vw_C := [(RX0, TX0, 9), (RX1, TX1, 4), (RX2, TX2, 7), (RX3, TX3, 7), (RX4, TX4, 2), (RX5, TX5, 3), (RX6, TX6, 4), (RX7, TX7, 10), (RX8, TX8, 39)]
/-- a method: its name, bytes, number of locals, answer, own class, and the room that it is given: frames, cells, slots, words -/
abbrev nM : Type := MethodName × ByteArray × Nat × Option FieldType × Nat × Nat × Nat × Nat × Nat
def cNm (c : Nat) : String := match c with
  | 0 => RX0
  | 1 => RX1
  | 2 => RX2
  | 3 => RX3
  | 4 => RX4
  | 5 => RX5
  | 6 => RX6
  | 7 => RX7
  | 8 => RX8
  | 9 => RL
  | 10 => RJ6
  | _ => RJ9
def YX0_init : nM := (yX0_init, cX0_init, 1, none, 0, 1, 24, 1940, 20)
def YX0_trace : nM := (yX0_trace, cX0_trace, 5, none, 0, 5, 0, 0, 117)
def YX0_clear : nM := (yX0_clear, cX0_clear, 3, none, 0, 0, 0, 0, 0)
def YX0_reach : nM := (yX0_reach, cX0_reach, 3, none, 0, 1, 0, 0, 22)
def YX0_reachFrom : nM := (yX0_reachFrom, cX0_reachFrom, 7, none, 0, 3, 0, 0, 66)
def YX0_listReached : nM := (yX0_listReached, cX0_listReached, 6, none, 0, 4, 0, 0, 92)
def YX0_twines : nM := (yX0_twines, cX0_twines, 1, (some .int), 0, 0, 0, 0, 0)
def YX0_tell : nM := (yX0_tell, cX0_tell, 3, (some .int), 0, 1, 0, 0, 22)
def YX0_hasNeedle : nM := (yX0_hasNeedle, cX0_hasNeedle, 5, (some .boolean), 0, 3, 0, 0, 66)
def YX0_beginning : nM := (yX0_beginning, cX0_beginning, 2, (some .int), 0, 0, 0, 0, 0)
def YX1_init : nM := (yX1_init, cX1_init, 1, none, 1, 1, 22, 524, 20)
def YX1_leadDown : nM := (yX1_leadDown, cX1_leadDown, 5, none, 1, 2, 0, 0, 47)
def YX1_countWholeSides : nM := (yX1_countWholeSides, cX1_countWholeSides, 5, none, 1, 1, 0, 0, 22)
def YX1_lose : nM := (yX1_lose, cX1_lose, 4, none, 1, 0, 0, 0, 0)
def YX1_handOn : nM := (yX1_handOn, cX1_handOn, 6, none, 1, 1, 0, 0, 22)
def YX1_inAll : nM := (yX1_inAll, cX1_inAll, 6, (some .long), 1, 0, 0, 0, 0)
def YX1_firstAbove : nM := (yX1_firstAbove, cX1_firstAbove, 5, (some .int), 1, 2, 0, 0, 43)
def YX1_isAbove : nM := (yX1_isAbove, cX1_isAbove, 5, (some .boolean), 1, 0, 0, 0, 0)
def YX1_term : nM := (yX1_term, cX1_term, 5, (some .long), 1, 1, 0, 0, 30)
def YX1_commonDivisor : nM := (yX1_commonDivisor, cX1_commonDivisor, 11, (some .long), 1, 0, 0, 0, 0)
def YX2_init : nM := (yX2_init, cX2_init, 3, none, 2, 1, 2, 44, 20)
def YX2_rowAt : nM := (yX2_rowAt, cX2_rowAt, 2, (some (.object "NetLoft$Row")), 2, 1, 0, 0, 22)
def YX2_lastRow : nM := (yX2_lastRow, cX2_lastRow, 1, (some (.object "NetLoft$Row")), 2, 2, 0, 0, 43)
def YX2_rowWith : nM := (yX2_rowWith, cX2_rowWith, 4, (some (.object "NetLoft$Row")), 2, 2, 0, 0, 43)
def YX2_append : nM := (yX2_append, cX2_append, 2, none, 2, 0, 0, 0, 0)
def YX2_appendCopies : nM := (yX2_appendCopies, cX2_appendCopies, 4, none, 2, 3, 140, 3020, 81)
def YX2_hangRow : nM := (yX2_hangRow, cX2_hangRow, 4, (some .int), 2, 3, 7, 151, 63)
def YX2_bearsShaping : nM := (yX2_bearsShaping, cX2_bearsShaping, 8, (some .boolean), 2, 3, 0, 0, 63)
def YX2_shapeRows : nM := (yX2_shapeRows, cX2_shapeRows, 7, (some .int), 2, 4, 133, 2869, 86)
def YX2_goneSidesAt : nM := (yX2_goneSidesAt, cX2_goneSidesAt, 7, (some .int), 2, 3, 0, 0, 66)
def YX2_cutSidesAt : nM := (yX2_cutSidesAt, cX2_cutSidesAt, 7, (some .int), 2, 4, 0, 0, 88)
def YX2_goneAbove : nM := (yX2_goneAbove, cX2_goneAbove, 5, (some .int), 2, 3, 0, 0, 66)
def YX2_goneBelow : nM := (yX2_goneBelow, cX2_goneBelow, 5, (some .int), 2, 3, 0, 0, 66)
def YX2_totalOf : nM := (yX2_totalOf, cX2_totalOf, 5, (some .int), 2, 3, 0, 0, 65)
def YX3_init : nM := (yX3_init, cX3_init, 3, none, 3, 1, 6, 144, 20)
def YX3_copied : nM := (yX3_copied, cX3_copied, 2, (some (.object "NetLoft$Row")), 3, 2, 7, 151, 60)
def YX3_has : nM := (yX3_has, cX3_has, 2, (some .boolean), 3, 1, 0, 0, 22)
def YX3_turn : nM := (yX3_turn, cX3_turn, 3, none, 3, 0, 0, 0, 0)
def YX3_turnEvery : nM := (yX3_turnEvery, cX3_turnEvery, 5, none, 3, 1, 0, 0, 22)
def YX3_givenInAll : nM := (yX3_givenInAll, cX3_givenInAll, 3, (some .int), 3, 0, 0, 0, 0)
def YX3_giverBehind : nM := (yX3_giverBehind, cX3_giverBehind, 3, (some .int), 3, 0, 0, 0, 0)
def YX3_hangIn : nM := (yX3_hangIn, cX3_hangIn, 7, none, 3, 1, 0, 0, 22)
def YX3_hangInNothing : nM := (yX3_hangInNothing, cX3_hangInNothing, 2, none, 3, 0, 0, 0, 0)
def YX3_placeOfSide : nM := (yX3_placeOfSide, cX3_placeOfSide, 3, (some .int), 3, 1, 0, 0, 22)
def YX3_hangsBy : nM := (yX3_hangsBy, cX3_hangsBy, 3, (some .boolean), 3, 1, 0, 0, 22)
def YX3_isGone : nM := (yX3_isGone, cX3_isGone, 3, (some .boolean), 3, 2, 0, 0, 44)
def YX3_sideIsGone : nM := (yX3_sideIsGone, cX3_sideIsGone, 3, (some .boolean), 3, 0, 0, 0, 0)
def YX3_isWhole : nM := (yX3_isWhole, cX3_isWhole, 3, (some .boolean), 3, 3, 0, 0, 66)
def YX3_setSide : nM := (yX3_setSide, cX3_setSide, 4, none, 3, 0, 0, 0, 0)
def YX3_setSideTo : nM := (yX3_setSideTo, cX3_setSideTo, 4, none, 3, 2, 0, 0, 44)
def YX3_countOver : nM := (yX3_countOver, cX3_countOver, 4, (some .int), 3, 2, 0, 0, 42)
def YX3_shareOf : nM := (yX3_shareOf, cX3_shareOf, 3, (some .int), 3, 1, 0, 0, 20)
def YX4_init : nM := (yX4_init, cX4_init, 1, none, 4, 1, 1, 24, 20)
def YX4_join : nM := (yX4_join, cX4_join, 4, none, 4, 3, 0, 0, 66)
def YX4_spread : nM := (yX4_spread, cX4_spread, 4, none, 4, 1, 0, 0, 22)
def YX4_giveOneEach : nM := (yX4_giveOneEach, cX4_giveOneEach, 4, none, 4, 2, 0, 0, 43)
def YX5_init : nM := (yX5_init, cX5_init, 1, none, 5, 1, 0, 0, 20)
def YX5_find : nM := (yX5_find, cX5_find, 5, (some .int), 5, 0, 0, 0, 0)
def YX5_tell : nM := (yX5_tell, cX5_tell, 2, (some .int), 5, 0, 0, 0, 0)
def YX6_init : nM := (yX6_init, cX6_init, 1, none, 6, 1, 2, 2882, 20)
def YX6_knotAt : nM := (yX6_knotAt, cX6_knotAt, 2, (some .int), 6, 1, 0, 0, 22)
def YX6_walk : nM := (yX6_walk, cX6_walk, 6, none, 6, 5, 0, 0, 114)
def YX6_goTo : nM := (yX6_goTo, cX6_goTo, 2, none, 6, 0, 0, 0, 0)
def YX6_goBackFrom : nM := (yX6_goBackFrom, cX6_goBackFrom, 2, none, 6, 0, 0, 0, 0)
def YX6_mendOneFrom : nM := (yX6_mendOneFrom, cX6_mendOneFrom, 5, (some .int), 6, 4, 0, 0, 90)
def YX6_makeWhole : nM := (yX6_makeWhole, cX6_makeWhole, 3, none, 6, 3, 0, 0, 67)
def YX7_init : nM := (yX7_init, cX7_init, 1, none, 7, 2, 81, 7454, 40)
def YX7_panel : nM := (yX7_panel, cX7_panel, 5, (some .int), 7, 2, 10, 202, 42)
def YX7_row : nM := (yX7_row, cX7_row, 3, (some .int), 7, 4, 7, 151, 86)
def YX7_kind : nM := (yX7_kind, cX7_kind, 6, (some .boolean), 7, 3, 0, 0, 63)
def YX7_shape : nM := (yX7_shape, cX7_shape, 6, (some .int), 7, 5, 133, 2869, 112)
def YX7_ahead : nM := (yX7_ahead, cX7_ahead, 8, (some .long), 7, 2, 0, 0, 43)
def YX7_meshes : nM := (yX7_meshes, cX7_meshes, 5, (some .int), 7, 2, 0, 0, 43)
def YX7_of : nM := (yX7_of, cX7_of, 7, (some .int), 7, 4, 0, 0, 92)
def YX7_panelOf : nM := (yX7_panelOf, cX7_panelOf, 4, (some .int), 7, 4, 0, 0, 89)
def YX7_count : nM := (yX7_count, cX7_count, 2, (some .int), 7, 0, 0, 0, 0)
def YX7_side : nM := (yX7_side, cX7_side, 8, (some .boolean), 7, 3, 0, 0, 66)
def YX7_cut : nM := (yX7_cut, cX7_cut, 5, (some .int), 7, 5, 0, 0, 114)
def YX7_tear : nM := (yX7_tear, cX7_tear, 6, (some .boolean), 7, 2, 0, 0, 43)
def YX7_needle : nM := (yX7_needle, cX7_needle, 7, (some .boolean), 7, 3, 0, 0, 66)
def YX7_hole : nM := (yX7_hole, cX7_hole, 5, (some .int), 7, 6, 0, 0, 141)
def YX7_edge : nM := (yX7_edge, cX7_edge, 3, (some .int), 7, 2, 0, 0, 44)
def YX7_mend : nM := (yX7_mend, cX7_mend, 6, (some .int), 7, 6, 0, 0, 141)
def YX7_way : nM := (yX7_way, cX7_way, 2, (some .int), 7, 2, 0, 0, 43)
def YX7_taper : nM := (yX7_taper, cX7_taper, 4, (some .int), 7, 1, 0, 0, 24)
def YX7_cycle : nM := (yX7_cycle, cX7_cycle, 2, (some .int), 7, 1, 0, 0, 21)
def YX7_sew : nM := (yX7_sew, cX7_sew, 6, (some .int), 7, 4, 283, 6091, 104)
def YX7_match : nM := (yX7_match, cX7_match, 2, (some .int), 7, 1, 0, 0, 22)
def YX7_hang : nM := (yX7_hang, cX7_hang, 5, (some .boolean), 7, 2, 0, 0, 43)
def YX7_parts : nM := (yX7_parts, cX7_parts, 3, (some .boolean), 7, 1, 0, 0, 22)
def YX7_part : nM := (yX7_part, cX7_part, 3, (some .boolean), 7, 1, 0, 0, 22)
def YX7_open : nM := (yX7_open, cX7_open, 3, (some .int), 7, 2, 0, 0, 44)
def YX7_slips : nM := (yX7_slips, cX7_slips, 5, (some .int), 7, 2, 0, 0, 44)
def YX7_pull : nM := (yX7_pull, cX7_pull, 5, (some .boolean), 7, 3, 0, 0, 66)
def YX7_load : nM := (yX7_load, cX7_load, 6, (some .long), 7, 3, 0, 0, 71)
def YX7_sum : nM := (yX7_sum, cX7_sum, 5, (some .long), 7, 3, 0, 0, 71)
def YX7_weak : nM := (yX7_weak, cX7_weak, 3, (some .int), 7, 3, 0, 0, 71)
def YX7_within : nM := (yX7_within, cX7_within, 3, (some .boolean), 7, 0, 0, 0, 0)
def YX7_isRule : nM := (yX7_isRule, cX7_isRule, 2, (some .boolean), 7, 1, 0, 0, 22)
def YX7_shapedPlaces : nM := (yX7_shapedPlaces, cX7_shapedPlaces, 6, (some .long), 7, 0, 0, 0, 0)
def YX7_fitTogether : nM := (yX7_fitTogether, cX7_fitTogether, 2, (some .boolean), 7, 0, 0, 0, 0)
def YX7_panelAt : nM := (yX7_panelAt, cX7_panelAt, 2, (some (.object "NetLoft$Panel")), 7, 1, 0, 0, 22)
def YX7_keep : nM := (yX7_keep, cX7_keep, 2, (some .int), 7, 0, 0, 0, 0)
def YX7_openingOf : nM := (yX7_openingOf, cX7_openingOf, 3, (some .int), 7, 1, 0, 0, 22)
def YX8_init : nM := (yX8_init, cX8_init, 1, none, 8, 1, 23, 39593, 20)
def YX8_isPanel : nM := (yX8_isPanel, cX8_isPanel, 2, (some .boolean), 8, 0, 0, 0, 0)
def YX8_isRow : nM := (yX8_isRow, cX8_isRow, 3, (some .boolean), 8, 1, 0, 0, 21)
def YX8_isKnot : nM := (yX8_isKnot, cX8_isKnot, 4, (some .boolean), 8, 2, 0, 0, 43)
def YX8_at : nM := (yX8_at, cX8_at, 3, (some .int), 8, 0, 0, 0, 0)
def YX8_clears : nM := (yX8_clears, cX8_clears, 5, none, 8, 1, 0, 0, 22)
def YX8_newPanel : nM := (yX8_newPanel, cX8_newPanel, 5, (some .int), 8, 0, 0, 0, 0)
def YX8_panel : nM := (yX8_panel, cX8_panel, 5, (some .int), 8, 2, 0, 0, 46)
def YX8_given : nM := (yX8_given, cX8_given, 5, (some .int), 8, 1, 0, 0, 22)
def YX8_hangs : nM := (yX8_hangs, cX8_hangs, 10, none, 8, 1, 0, 0, 22)
def YX8_row : nM := (yX8_row, cX8_row, 5, (some .int), 8, 2, 0, 0, 51)
def YX8_becomes : nM := (yX8_becomes, cX8_becomes, 3, none, 8, 0, 0, 0, 0)
def YX8_kind : nM := (yX8_kind, cX8_kind, 4, (some .boolean), 8, 3, 0, 0, 66)
def YX8_shaped : nM := (yX8_shaped, cX8_shaped, 4, (some .long), 8, 0, 0, 0, 0)
def YX8_shape : nM := (yX8_shape, cX8_shape, 10, (some .int), 8, 3, 0, 0, 75)
def YX8_ahead : nM := (yX8_ahead, cX8_ahead, 8, (some .long), 8, 1, 0, 0, 23)
def YX8_meshes : nM := (yX8_meshes, cX8_meshes, 3, (some .int), 8, 2, 0, 0, 43)
def YX8_hangsIn : nM := (yX8_hangsIn, cX8_hangsIn, 4, (some .boolean), 8, 0, 0, 0, 0)
def YX8_bits : nM := (yX8_bits, cX8_bits, 3, (some .int), 8, 0, 0, 0, 0)
def YX8_below : nM := (yX8_below, cX8_below, 7, (some .int), 8, 1, 0, 0, 23)
def YX8_goneAt : nM := (yX8_goneAt, cX8_goneAt, 4, (some .int), 8, 2, 0, 0, 49)
def YX8_of : nM := (yX8_of, cX8_of, 6, (some .int), 8, 3, 0, 0, 72)
def YX8_side : nM := (yX8_side, cX8_side, 7, (some .boolean), 8, 3, 0, 0, 66)
def YX8_cut : nM := (yX8_cut, cX8_cut, 8, (some .int), 8, 3, 0, 0, 66)
def YX8_tear : nM := (yX8_tear, cX8_tear, 5, (some .boolean), 8, 2, 0, 0, 46)
def YX8_needle : nM := (yX8_needle, cX8_needle, 5, (some .boolean), 8, 3, 0, 0, 66)
def YX8_spreads : nM := (yX8_spreads, cX8_spreads, 11, none, 8, 3, 0, 0, 72)
def YX8_oddOnes : nM := (yX8_oddOnes, cX8_oddOnes, 4, (some .int), 8, 3, 0, 0, 72)
def YX8_hole : nM := (yX8_hole, cX8_hole, 5, (some .int), 8, 4, 0, 0, 102)
def YX8_twines : nM := (yX8_twines, cX8_twines, 2, (some .int), 8, 0, 0, 0, 0)
def YX8_edge : nM := (yX8_edge, cX8_edge, 3, (some .int), 8, 1, 0, 0, 21)
def YX8_mend : nM := (yX8_mend, cX8_mend, 8, (some .int), 8, 6, 0, 0, 153)
def YX8_ties : nM := (yX8_ties, cX8_ties, 9, none, 8, 1, 0, 0, 22)
def YX8_isGone : nM := (yX8_isGone, cX8_isGone, 6, (some .boolean), 8, 1, 0, 0, 23)
def YX8_goesOn : nM := (yX8_goesOn, cX8_goesOn, 9, (some .int), 8, 5, 0, 0, 125)
def YX8_reaches : nM := (yX8_reaches, cX8_reaches, 4, (some .boolean), 8, 4, 0, 0, 102)
def YX8_way : nM := (yX8_way, cX8_way, 2, (some .int), 8, 0, 0, 0, 0)
def YX8_taper : nM := (yX8_taper, cX8_taper, 6, (some .int), 8, 0, 0, 0, 0)
def YX8_cycle : nM := (yX8_cycle, cX8_cycle, 2, (some .int), 8, 0, 0, 0, 0)
def YX8_copies : nM := (yX8_copies, cX8_copies, 8, none, 8, 1, 0, 0, 22)
def YX8_sew : nM := (yX8_sew, cX8_sew, 13, (some .int), 8, 2, 0, 0, 51)
def YX8_match : nM := (yX8_match, cX8_match, 2, (some .int), 8, 0, 0, 0, 0)
def YX8_hang : nM := (yX8_hang, cX8_hang, 4, (some .boolean), 8, 1, 0, 0, 21)
def YX8_parts : nM := (yX8_parts, cX8_parts, 3, (some .boolean), 8, 0, 0, 0, 0)
def YX8_part : nM := (yX8_part, cX8_part, 3, (some .boolean), 8, 0, 0, 0, 0)
def YX8_open : nM := (yX8_open, cX8_open, 3, (some .int), 8, 1, 0, 0, 21)
def YX8_slips : nM := (yX8_slips, cX8_slips, 4, (some .int), 8, 2, 0, 0, 43)
def YX8_sixth : nM := (yX8_sixth, cX8_sixth, 4, (some .long), 8, 0, 0, 0, 0)
def YX8_leads : nM := (yX8_leads, cX8_leads, 10, none, 8, 2, 0, 0, 49)
def YX8_lowest : nM := (yX8_lowest, cX8_lowest, 11, (some .long), 8, 0, 0, 0, 0)
def YX8_pull : nM := (yX8_pull, cX8_pull, 4, (some .boolean), 8, 3, 0, 0, 66)
def YX8_load : nM := (yX8_load, cX8_load, 5, (some .long), 8, 3, 0, 0, 78)
def YX8_sum : nM := (yX8_sum, cX8_sum, 4, (some .long), 8, 3, 0, 0, 78)
def YX8_weak : nM := (yX8_weak, cX8_weak, 4, (some .int), 8, 3, 0, 0, 78)
def YX8_count : nM := (yX8_count, cX8_count, 2, (some .int), 8, 0, 0, 0, 0)
def YX8_panelOf : nM := (yX8_panelOf, cX8_panelOf, 10, (some .int), 8, 1, 0, 0, 22)
def YJ6_bitCount_0f7a4 : nM := (yJ6_bitCount_0f7a4, cJ6_bitCount_0f7a4, 1, (some .int), 10, 0, 0, 0, 0)
def YJ9_max_7cf53 : nM := (yJ9_max_7cf53, cJ9_max_7cf53, 2, (some .int), 11, 0, 0, 0, 0)
def YJ9_min_7cf53 : nM := (yJ9_min_7cf53, cJ9_min_7cf53, 2, (some .int), 11, 0, 0, 0, 0)
def YL_law : nM := (yL_law, cL_law, 4, (some .boolean), 9, 9, 600000, 7302250, 362)
end
section
/-! THE PLAIN WORLD: cells by their address; a walk's judgement over it; a row an instruction. -/
abbrev nPC : Type := (FieldType × vp_A) ⊕ ((Nat × List Value) ⊕ (Nat × (Nat → Int32)))
/-- class slots, first address of its own, next address, cells -/
abbrev nPH : Type := va_G × Nat × Nat × (Nat → Option nPC)
abbrev nAt (h : nPH) (a : Nat) : Option nPC := h.2.2.2 a
def nSt (h : nPH) (a : Nat) (e : nPC) : nPH := (h.1, h.2.1, h.2.2.1, fun q => if q = a then some e else h.2.2.2 q)
def nNw (h : nPH) (e : nPC) : nPH := (h.1, h.2.1, h.2.2.1 + 1, fun q => if q = h.2.2.1 then some e else h.2.2.2 q)
abbrev nOb (c : Nat) (fs : List Value) : nPC := .inr (.inl (c, fs))
abbrev nAi (n : Nat) (f : Nat → Int32) : nPC := .inl (.int, n, .inl f)
abbrev nAz (n : Nat) (f : Nat → Int32) : nPC := .inl (.boolean, n, .inl f)
abbrev nAl (n : Nat) (f : Nat → Int64) : nPC := .inl (.long, n, .inr (.inl f))
abbrev nAr (ty : FieldType) (n : Nat) (f : Nat → Option Nat) : nPC := .inl (ty, n, .inr (.inr (.inr (.inr f))))
def nRC (D : va_G) (U : State) (H : Heap) (a : Nat) : nPC → Prop
  | .inl x => ∃ cA : ClassId, H[a]? = some (vp_cell cA x.2) ∧ ArrOfT U cA x.1 ∧ va_RA U cA x.1
  | .inr (.inl o) => va_at D vwCl (a, .inr o) H
  | .inr (.inr x) => va_X a x.1 x.2 U H
def nRep (h : nPH) (U : State) (H : Heap) : Prop := H.size = h.2.2.1 ∧ ∀ (a : Nat) (e : nPC), h.2.2.2 a = some e → nRC h.1 U H a e
def nWs : List Cond := lw_tbl.filter goodWord
def nNL : List (String × Nat × MethodName × String) := [("NetLoft", 25, yX0_init, "NetLoft"), ("NetLoft", 35, yX6_init, "NetLoft"), ("NetLoft", 42, yX5_init, "NetLoft"), ("NetLoft", 49, yX4_init, "NetLoft"), ("NetLoft", 56, yX1_init, "NetLoft"), ("NetLoft$Panel", 37, yX7_within, "NetLoft"), ("NetLoft$Row", 43, yX7_within, "NetLoft"), ("NetLoft$Panel", 73, yX7_shapedPlaces, "NetLoft"), ("NetLoft$Hole", 64, yX7_within, "NetLoft"), ("NetLoft$Way", 22, yX7_within, "NetLoft"), ("NetLoft$Seam", 56, yX7_within, "NetLoft"), ("NetLoft$Loads", 83, yX7_within, "NetLoft")]
def nAOA (ty : FieldType) (U : State) : Prop := (Cond.arrayOver (.array ty)).before #[] U = true
def nK (D : va_G) (U : State) : Prop := va_K D vwCl [] U ∧ (∀ q ∈ nNL, va_Nw (.methodLinkNest q.1 q.2.1 q.2.2.1 q.2.2.2) U) ∧ va_AO "NetLoft$Panel" U ∧ va_AO "NetLoft$Row" U ∧ nAOA .int U ∧ nAOA .long U
/-- a method at its instruction i of n bytes, the next one at p2, in class o -/
def nD (y : nM) (pc : Nat) (i : Instr) (n p2 o : Nat) : Prop := decode y.2.1 pc = .ok (i, n) ∧ pc + n = p2 ∧ y.2.2.2.2.1 = o
abbrev nKp : Type := Room × (List Frame → Array Value → State → State → Prop)
def nCx (y : nM) (D : va_G) (p : Program) (s : State) (m : MethodId) (args : Array Value) (meth : Method) (c : Code) : Prop :=
  p.tables.exec = Jvm.exec ∧ c.code = y.2.1 ∧ c.maxLocals = y.2.2.1 ∧ s.vm.findClass (cNm y.2.2.2.2.1) = some m.cls ∧ (∀ w ∈ nWs, w.before args s = true) ∧ meth.sig.returnType = y.2.2.2.1 ∧ meth.locks = false ∧ meth.name = y.1.name ∧ nK D s
def nLs (lsA : Array Slot) (n : Nat) (ls : List (Option Value)) : Prop := lsA.size = n ∧ lv_wf lsA ∧ ∀ (i : Nat) (v : Value), ls[i]? = some (some v) → lsA[i]? = some (.val v)
def nG (y : nM) (κ : nKp) (cu su pc : Nat) (ls : List (Option Value)) (st : List Value) (h : nPH) : Prop :=
  ∀ (p : Program) (l : Launch) (e : Env) (s : State) (m : MethodId) (args : Array Value) (below : List Frame) (meth : Method) (c : Code) (H : Heap) (locs : List Loc) (lsA : Array Slot),
    nCx y h.1 p s m args meth c → nRep h s H → nLs lsA y.2.2.1 ls → (∀ q ∈ locs, h.2.1 ≤ q.base) → W p l e κ.1 s m args below meth c H locs cu su (κ.2 below args s) (F0 m pc lsA st)
def nRm (y : nM) : Room := { frames := y.2.2.2.2.2.1, cells := y.2.2.2.2.2.2.1, slots := y.2.2.2.2.2.2.2.1, locals := y.2.2.2.2.2.2.2.2 }
def nPc (h : nPH) (av : List Value) : Array Value → State → Prop := fun v U => v = av.toArray ∧ nRep h U U.heap ∧ nK h.1 U
def nQc (D : va_G) (B : Nat) (Post : Option Value → nPH → Prop) : Array Value → State → Outcome → State → Prop := fun _ _ o t => ∃ (v : Option Value) (h2 : nPH), o = .returned v ∧ Post v h2 ∧ h2.1 = D ∧ h2.2.1 = B ∧ nRep h2 t t.heap
def nWy (y : nM) : List Cond := Cond.code y.1 y.2.1 y.2.2.1 y.2.2.2.1 :: nWs
def nSp (y : nM) (av : List Value) (h : nPH) (Post : Option Value → nPH → Prop) : Prop :=
  ∀ l : Launch, Met l y.1 (nWy y) (nRm y) (nPc h av) (nQc h.1 h.2.1 Post) y.2.2.2.2.2.2.1 y.2.2.2.2.2.2.2.1 (fun q => h.2.1 ≤ q)
def nKy (y : nM) (D : va_G) (B : Nat) (Post : Option Value → nPH → Prop) : nKp := (nRm y, fun below a s => MQ below (nQc D B Post) a s y.2.2.2.2.2.2.1 y.2.2.2.2.2.2.2.1 (fun q => B ≤ q))
/-- read only, with an answer -/
def nRd (y : nM) (av : List Value) (h : nPH) (r : Value) : Prop := nSp y av h (fun v h2 => v = some r ∧ h2 = h)
def nKil (ls : List (Option Value)) (i : Nat) : List (Option Value) := match i with
  | 0 => ls
  | k + 1 => match ls[k]? with
    | some (some (.long _)) => ls.set k none
    | some (some (.double _)) => ls.set k none
    | _ => ls
def nPut (ls : List (Option Value)) (i : Nat) (v : Value) : List (Option Value) := (nKil ls i).set i (some v)
def nPu2 (ls : List (Option Value)) (i : Nat) (v : Value) : List (Option Value) := ((nKil ls i).set i (some v)).set (i + 1) none
def nAs (ls : List (Option Value)) : List (Nat × Value) := ls.zipIdx.filterMap (fun q => q.1.map (fun v => (q.2, v)))
theorem nAs_mem {ls : List (Option Value)} {i : Nat} {v : Value} : (i, v) ∈ nAs ls ↔ ls[i]? = some (some v) := by
  unfold nAs
  rw [List.mem_filterMap]
  constructor
  · rintro ⟨⟨o, j⟩, hm, he⟩
    rw [List.mem_zipIdx_iff_getElem?] at hm
    cases o with
    | none => simp at he
    | some x =>
      simp at he
      obtain ⟨rfl, rfl⟩ := he
      simpa using hm
  · intro h
    exact ⟨(some v, i), by rw [List.mem_zipIdx_iff_getElem?]; simpa using h, rfl⟩
theorem nLs_has {lsA : Array Slot} {n : Nat} {ls : List (Option Value)} (h : nLs lsA n ls) : lv_has lsA n (nAs ls) := ⟨h.1, h.2.1, fun q hq => h.2.2 q.1 q.2 (nAs_mem.mp hq)⟩
theorem nKil_at {ls : List (Option Value)} {i j : Nat} {v : Value} (h : (nKil ls i)[j]? = some (some v)) : ls[j]? = some (some v) ∧ ¬ (j + 1 = i ∧ v.category = 2) := by
  unfold nKil at h
  cases i with
  | zero => exact ⟨h, fun q => by omega⟩
  | succ k =>
    simp only at h
    have key : ∀ (x : Value), ls[k]? = some (some x) → (x.category = 2 → False) → (ls[j]? = some (some v)) → ¬ (j + 1 = k + 1 ∧ v.category = 2) := by
      intro x hx hc hj q
      have : j = k := by omega
      subst this
      rw [hx] at hj
      cases hj
      exact hc q.2
    split at h
    · rename_i x hx
      by_cases hjk : j = k
      · subst hjk
        rw [List.getElem?_set] at h
        simp at h
      · rw [List.getElem?_set_ne (fun e => hjk e.symm)] at h
        exact ⟨h, fun q => hjk (by omega)⟩
    · rename_i x hx
      by_cases hjk : j = k
      · subst hjk
        rw [List.getElem?_set] at h
        simp at h
      · rw [List.getElem?_set_ne (fun e => hjk e.symm)] at h
        exact ⟨h, fun q => hjk (by omega)⟩
    · rename_i h1 h2
      refine ⟨h, fun q => ?_⟩
      have : j = k := by omega
      subst this
      cases v with
      | long x => exact h1 x h
      | double x => exact h2 x h
      | _ => simp [Value.category] at q
theorem nPut_at {ls : List (Option Value)} {i j : Nat} {v w : Value} (h : (nPut ls i v)[j]? = some (some w)) : (j = i ∧ w = v) ∨ (j ≠ i ∧ ls[j]? = some (some w) ∧ ¬ (j + 1 = i ∧ w.category = 2)) := by
  unfold nPut at h
  by_cases hj : j = i
  · subst hj
    rw [List.getElem?_set] at h
    simp only [if_true] at h
    split at h
    · cases h; exact Or.inl ⟨rfl, rfl⟩
    · cases h
  · rw [List.getElem?_set_ne (fun e => hj e.symm)] at h
    exact Or.inr ⟨hj, nKil_at h⟩
theorem nPu2_at {ls : List (Option Value)} {i j : Nat} {v w : Value} (h : (nPu2 ls i v)[j]? = some (some w)) : (j = i ∧ w = v) ∨ (j ≠ i ∧ j ≠ i + 1 ∧ ls[j]? = some (some w) ∧ ¬ (j + 1 = i ∧ w.category = 2)) := by
  unfold nPu2 at h
  by_cases hj : j = i + 1
  · subst hj
    rw [List.getElem?_set] at h
    simp at h
  · rw [List.getElem?_set_ne (fun e => hj e.symm)] at h
    rcases nPut_at (show (nPut ls i v)[j]? = some (some w) from h) with h1 | h1
    · exact Or.inl h1
    · exact Or.inr ⟨h1.1, hj, h1.2⟩
theorem nLs_put {lsA : Array Slot} {n i : Nat} {v : Value} {ls : List (Option Value)} (h : lv_has lsA n ((i, v) :: (nAs ls).filter (fun q => !(q.1 == i) && !(q.1 + 1 == i && q.2.category == 2)))) : nLs lsA n (nPut ls i v) := by
  refine ⟨h.1, h.2.1, fun j w hj => ?_⟩
  rcases nPut_at hj with ⟨rfl, rfl⟩ | ⟨h1, h2, h3⟩
  · exact h.2.2 (_, _) List.mem_cons_self
  · refine h.2.2 (j, w) (List.mem_cons_of_mem _ (List.mem_filter.mpr ⟨nAs_mem.mpr h2, ?_⟩))
    have h4 : (j == i) = false := by simpa using h1
    by_cases q : j + 1 = i
    · have : ¬ w.category = 2 := fun e => h3 ⟨q, e⟩
      simp [h1, this]
    · simp [h1, q]
theorem nLs_pu2 {lsA : Array Slot} {n i : Nat} {v : Value} {ls : List (Option Value)} (h : lv_has lsA n ((i, v) :: (nAs ls).filter (fun q => !(q.1 == i) && (!(q.1 == i + 1) && !(q.1 + 1 == i && q.2.category == 2))))) : nLs lsA n (nPu2 ls i v) := by
  refine ⟨h.1, h.2.1, fun j w hj => ?_⟩
  rcases nPu2_at hj with ⟨rfl, rfl⟩ | ⟨h1, h0, h2, h3⟩
  · exact h.2.2 (_, _) List.mem_cons_self
  · refine h.2.2 (j, w) (List.mem_cons_of_mem _ (List.mem_filter.mpr ⟨nAs_mem.mpr h2, ?_⟩))
    by_cases q : j + 1 = i
    · have : ¬ w.category = 2 := fun e => h3 ⟨q, e⟩
      simp [h1, h0, this]
    · simp [h1, h0, q]
def nSub : List (Option Value) → List (Option Value) → Prop
  | [], _ => True
  | none :: t, u => nSub t u.tail
  | some v :: t, u => u.head? = some (some v) ∧ nSub t u.tail
theorem nSub_at : ∀ {t u : List (Option Value)}, nSub t u → ∀ (i : Nat) (v : Value), t[i]? = some (some v) → u[i]? = some (some v)
  | [], _, _, i, v, h => by simp at h
  | none :: t, u, hs, 0, v, h => by simp at h
  | none :: t, u, hs, i + 1, v, h => by
    have := nSub_at (t := t) (u := u.tail) hs i v (by simpa using h)
    cases u with
    | nil => simp at this
    | cons a u => simpa using this
  | some x :: t, u, hs, 0, v, h => by
    simp at h
    subst h
    cases u with
    | nil => simp [nSub] at hs
    | cons a u => simpa using hs.1
  | some x :: t, u, hs, i + 1, v, h => by
    have := nSub_at (t := t) (u := u.tail) hs.2 i v (by simpa using h)
    cases u with
    | nil => simp at this
    | cons a u => simpa using this
section NG
variable {y : nM} {κ : nKp} {cu su pc p2 o : Nat} {ls : List (Option Value)} {st : List Value} {h : nPH}
theorem nG.sub {ls2 : List (Option Value)} (hs : nSub ls2 ls) (k : nG y κ cu su pc ls2 st h) : nG y κ cu su pc ls st h :=
  fun p l e s m args below meth c H locs lsA C R L F => k p l e s m args below meth c H locs lsA C R ⟨L.1, L.2.1, fun i v hi => L.2.2 i v (nSub_at hs i v hi)⟩ F
theorem nG.eq {ls2 : List (Option Value)} {st2 : List Value} {h2 : nPH} {cu2 su2 : Nat} (e1 : ls = ls2) (e2 : st = st2) (e3 : h = h2) (e4 : cu = cu2) (e5 : su = su2) (k : nG y κ cu2 su2 pc ls2 st2 h2) : nG y κ cu su pc ls st h := by subst e1; subst e2; subst e3; subst e4; subst e5; exact k
theorem nG.wide {cu2 su2 : Nat} (e4 : cu ≤ cu2) (e5 : su ≤ su2) (k : nG y κ cu2 su2 pc ls st h) : nG y κ cu su pc ls st h :=
  fun p l e s m args below meth c H locs lsA C R L F => W.widen e4 e5 (k p l e s m args below meth c H locs lsA C R L F)
theorem x_iconst {n : Int} {v : Int32} (hv : Int32.ofInt n = v) (hd : nD y pc (.iconst n) 1 p2 o) (k : nG y κ cu su p2 ls (.int v :: st) h) : nG y κ cu su pc ls (st) h := by
  intro p l e s m args below meth c H locs lsA C R L F
  obtain ⟨hdg, rfl, -⟩ := hd
  exact lv_iconst C.1 C.2.1 hdg hv (k p l e s m args below meth c H locs lsA C R L F)
theorem x_bipush {n : Int} {v : Int32} (hv : (Int8.ofInt n).toInt32 = v) (hd : nD y pc (.bipush n) 2 p2 o) (k : nG y κ cu su p2 ls (.int v :: st) h) : nG y κ cu su pc ls (st) h := by
  intro p l e s m args below meth c H locs lsA C R L F
  obtain ⟨hdg, rfl, -⟩ := hd
  exact lv_bipush C.1 C.2.1 hdg hv (k p l e s m args below meth c H locs lsA C R L F)
theorem x_sipush {n : Int} {v : Int32} (hv : (Int16.ofInt n).toInt32 = v) (hd : nD y pc (.sipush n) 3 p2 o) (k : nG y κ cu su p2 ls (.int v :: st) h) : nG y κ cu su pc ls (st) h := by
  intro p l e s m args below meth c H locs lsA C R L F
  obtain ⟨hdg, rfl, -⟩ := hd
  exact lv_sipush C.1 C.2.1 hdg hv (k p l e s m args below meth c H locs lsA C R L F)
theorem x_lconst {n : Fin 2} {v : Int64} (hv : Int64.ofNat (n : Nat) = v) (hd : nD y pc (.lconst n) 1 p2 o) (k : nG y κ cu su p2 ls (.long v :: st) h) : nG y κ cu su pc ls (st) h := by
  intro p l e s m args below meth c H locs lsA C R L F
  obtain ⟨hdg, rfl, -⟩ := hd
  exact lv_lconst C.1 C.2.1 hdg hv (k p l e s m args below meth c H locs lsA C R L F)
theorem x_null (hd : nD y pc .aconst_null 1 p2 o) (k : nG y κ cu su p2 ls (.null :: st) h) : nG y κ cu su pc ls (st) h := by
  intro p l e s m args below meth c H locs lsA C R L F
  obtain ⟨hdg, rfl, -⟩ := hd
  exact lv_null C.1 C.2.1 hdg (k p l e s m args below meth c H locs lsA C R L F)
theorem x_iload_n {x : Int32} {i : Fin 4} (hl : ls[i.val]? = some (some (.int x))) (hd : nD y pc (.iload_n i) 1 p2 o) (k : nG y κ cu su p2 ls (.int x :: st) h) : nG y κ cu su pc ls (st) h := by
  intro p l e s m args below meth c H locs lsA C R L F
  obtain ⟨hdg, rfl, -⟩ := hd
  exact lv_iload_n C.1 C.2.1 hdg rfl (L.2.2 _ _ hl) (k p l e s m args below meth c H locs lsA C R L F)
theorem x_iload {x : Int32} {i : Nat} (hl : ls[i]? = some (some (.int x))) (hd : nD y pc (.iload i) 2 p2 o) (k : nG y κ cu su p2 ls (.int x :: st) h) : nG y κ cu su pc ls (st) h := by
  intro p l e s m args below meth c H locs lsA C R L F
  obtain ⟨hdg, rfl, -⟩ := hd
  exact lv_iload C.1 C.2.1 hdg (L.2.2 _ _ hl) (k p l e s m args below meth c H locs lsA C R L F)
theorem x_lload_n {x : Int64} {i : Fin 4} (hl : ls[i.val]? = some (some (.long x))) (hd : nD y pc (.lload_n i) 1 p2 o) (k : nG y κ cu su p2 ls (.long x :: st) h) : nG y κ cu su pc ls (st) h := by
  intro p l e s m args below meth c H locs lsA C R L F
  obtain ⟨hdg, rfl, -⟩ := hd
  exact lv_lload_n C.1 C.2.1 hdg rfl (L.2.2 _ _ hl) (k p l e s m args below meth c H locs lsA C R L F)
theorem x_lload {x : Int64} {i : Nat} (hl : ls[i]? = some (some (.long x))) (hd : nD y pc (.lload i) 2 p2 o) (k : nG y κ cu su p2 ls (.long x :: st) h) : nG y κ cu su pc ls (st) h := by
  intro p l e s m args below meth c H locs lsA C R L F
  obtain ⟨hdg, rfl, -⟩ := hd
  exact lv_lload C.1 C.2.1 hdg (L.2.2 _ _ hl) (k p l e s m args below meth c H locs lsA C R L F)
theorem x_aload_n {x : Nat} {i : Fin 4} (hl : ls[i.val]? = some (some (.ref x))) (hd : nD y pc (.aload_n i) 1 p2 o) (k : nG y κ cu su p2 ls (.ref x :: st) h) : nG y κ cu su pc ls (st) h := by
  intro p l e s m args below meth c H locs lsA C R L F
  obtain ⟨hdg, rfl, -⟩ := hd
  exact lv_aload_n C.1 C.2.1 hdg rfl (L.2.2 _ _ hl) (k p l e s m args below meth c H locs lsA C R L F)
theorem x_aload {x : Nat} {i : Nat} (hl : ls[i]? = some (some (.ref x))) (hd : nD y pc (.aload i) 2 p2 o) (k : nG y κ cu su p2 ls (.ref x :: st) h) : nG y κ cu su pc ls (st) h := by
  intro p l e s m args below meth c H locs lsA C R L F
  obtain ⟨hdg, rfl, -⟩ := hd
  exact lv_aload C.1 C.2.1 hdg (L.2.2 _ _ hl) (k p l e s m args below meth c H locs lsA C R L F)
theorem x_aload_nN {i : Fin 4} (hl : ls[i.val]? = some (some (.null))) (hd : nD y pc (.aload_n i) 1 p2 o) (k : nG y κ cu su p2 ls (.null :: st) h) : nG y κ cu su pc ls (st) h := by
  intro p l e s m args below meth c H locs lsA C R L F
  obtain ⟨hdg, rfl, -⟩ := hd
  exact lv_aload_nN C.1 C.2.1 hdg rfl (L.2.2 _ _ hl) (k p l e s m args below meth c H locs lsA C R L F)
theorem x_aloadN {i : Nat} (hl : ls[i]? = some (some (.null))) (hd : nD y pc (.aload i) 2 p2 o) (k : nG y κ cu su p2 ls (.null :: st) h) : nG y κ cu su pc ls (st) h := by
  intro p l e s m args below meth c H locs lsA C R L F
  obtain ⟨hdg, rfl, -⟩ := hd
  exact lv_aloadN C.1 C.2.1 hdg (L.2.2 _ _ hl) (k p l e s m args below meth c H locs lsA C R L F)
theorem x_iadd {a b : Int32} (hd : nD y pc .iadd 1 p2 o) (k : nG y κ cu su p2 ls (.int (a + b) :: st) h) : nG y κ cu su pc ls (.int b :: .int a :: st) h := by
  intro p l e s m args below meth c H locs lsA C R L F
  obtain ⟨hdg, rfl, -⟩ := hd
  exact lv_iadd C.1 C.2.1 hdg (k p l e s m args below meth c H locs lsA C R L F)
theorem x_isub {a b : Int32} (hd : nD y pc .isub 1 p2 o) (k : nG y κ cu su p2 ls (.int (a - b) :: st) h) : nG y κ cu su pc ls (.int b :: .int a :: st) h := by
  intro p l e s m args below meth c H locs lsA C R L F
  obtain ⟨hdg, rfl, -⟩ := hd
  exact lv_isub C.1 C.2.1 hdg (k p l e s m args below meth c H locs lsA C R L F)
theorem x_imul {a b : Int32} (hd : nD y pc .imul 1 p2 o) (k : nG y κ cu su p2 ls (.int (a * b) :: st) h) : nG y κ cu su pc ls (.int b :: .int a :: st) h := by
  intro p l e s m args below meth c H locs lsA C R L F
  obtain ⟨hdg, rfl, -⟩ := hd
  exact lv_imul C.1 C.2.1 hdg (k p l e s m args below meth c H locs lsA C R L F)
theorem x_iand {a b : Int32} (hd : nD y pc .iand 1 p2 o) (k : nG y κ cu su p2 ls (.int (a &&& b) :: st) h) : nG y κ cu su pc ls (.int b :: .int a :: st) h := by
  intro p l e s m args below meth c H locs lsA C R L F
  obtain ⟨hdg, rfl, -⟩ := hd
  exact lv_iand C.1 C.2.1 hdg (k p l e s m args below meth c H locs lsA C R L F)
theorem x_ior {a b : Int32} (hd : nD y pc .ior 1 p2 o) (k : nG y κ cu su p2 ls (.int (a ||| b) :: st) h) : nG y κ cu su pc ls (.int b :: .int a :: st) h := by
  intro p l e s m args below meth c H locs lsA C R L F
  obtain ⟨hdg, rfl, -⟩ := hd
  exact lv_ior C.1 C.2.1 hdg (k p l e s m args below meth c H locs lsA C R L F)
theorem x_ixor {a b : Int32} (hd : nD y pc .ixor 1 p2 o) (k : nG y κ cu su p2 ls (.int (a ^^^ b) :: st) h) : nG y κ cu su pc ls (.int b :: .int a :: st) h := by
  intro p l e s m args below meth c H locs lsA C R L F
  obtain ⟨hdg, rfl, -⟩ := hd
  exact lv_ixor C.1 C.2.1 hdg (k p l e s m args below meth c H locs lsA C R L F)
theorem x_ishl {a b : Int32} (hd : nD y pc .ishl 1 p2 o) (k : nG y κ cu su p2 ls (.int (a <<< (b &&& 31)) :: st) h) : nG y κ cu su pc ls (.int b :: .int a :: st) h := by
  intro p l e s m args below meth c H locs lsA C R L F
  obtain ⟨hdg, rfl, -⟩ := hd
  exact lv_ishl C.1 C.2.1 hdg (k p l e s m args below meth c H locs lsA C R L F)
theorem x_ishr {a b : Int32} (hd : nD y pc .ishr 1 p2 o) (k : nG y κ cu su p2 ls (.int (a >>> (b &&& 31)) :: st) h) : nG y κ cu su pc ls (.int b :: .int a :: st) h := by
  intro p l e s m args below meth c H locs lsA C R L F
  obtain ⟨hdg, rfl, -⟩ := hd
  exact lv_ishr C.1 C.2.1 hdg (k p l e s m args below meth c H locs lsA C R L F)
theorem x_iushr {a b : Int32} (hd : nD y pc .iushr 1 p2 o) (k : nG y κ cu su p2 ls (.int ((a.toUInt32 >>> (b.toUInt32 &&& Int32.toUInt32 31)).toInt32) :: st) h) : nG y κ cu su pc ls (.int b :: .int a :: st) h := by
  intro p l e s m args below meth c H locs lsA C R L F
  obtain ⟨hdg, rfl, -⟩ := hd
  exact lv_iushr C.1 C.2.1 hdg rfl (k p l e s m args below meth c H locs lsA C R L F)
theorem x_idiv {a b : Int32} (hne : ¬ b = 0) (hd : nD y pc .idiv 1 p2 o) (k : nG y κ cu su p2 ls (.int (a / b) :: st) h) : nG y κ cu su pc ls (.int b :: .int a :: st) h := by
  intro p l e s m args below meth c H locs lsA C R L F
  obtain ⟨hdg, rfl, -⟩ := hd
  exact lv_idiv C.1 C.2.1 hdg hne (k p l e s m args below meth c H locs lsA C R L F)
theorem x_irem {a b : Int32} (hne : ¬ b = 0) (hd : nD y pc .irem 1 p2 o) (k : nG y κ cu su p2 ls (.int (a - a / b * b) :: st) h) : nG y κ cu su pc ls (.int b :: .int a :: st) h := by
  intro p l e s m args below meth c H locs lsA C R L F
  obtain ⟨hdg, rfl, -⟩ := hd
  exact lv_irem C.1 C.2.1 hdg hne (k p l e s m args below meth c H locs lsA C R L F)
theorem x_ladd {a b : Int64} (hd : nD y pc .ladd 1 p2 o) (k : nG y κ cu su p2 ls (.long (a + b) :: st) h) : nG y κ cu su pc ls (.long b :: .long a :: st) h := by
  intro p l e s m args below meth c H locs lsA C R L F
  obtain ⟨hdg, rfl, -⟩ := hd
  exact lv_ladd C.1 C.2.1 hdg (k p l e s m args below meth c H locs lsA C R L F)
theorem x_lsub {a b : Int64} (hd : nD y pc .lsub 1 p2 o) (k : nG y κ cu su p2 ls (.long (a - b) :: st) h) : nG y κ cu su pc ls (.long b :: .long a :: st) h := by
  intro p l e s m args below meth c H locs lsA C R L F
  obtain ⟨hdg, rfl, -⟩ := hd
  exact lv_lsub C.1 C.2.1 hdg (k p l e s m args below meth c H locs lsA C R L F)
theorem x_lmul {a b : Int64} (hd : nD y pc .lmul 1 p2 o) (k : nG y κ cu su p2 ls (.long (a * b) :: st) h) : nG y κ cu su pc ls (.long b :: .long a :: st) h := by
  intro p l e s m args below meth c H locs lsA C R L F
  obtain ⟨hdg, rfl, -⟩ := hd
  exact lv_lmul C.1 C.2.1 hdg (k p l e s m args below meth c H locs lsA C R L F)
theorem x_ldiv {a b : Int64} (hne : ¬ b = 0) (hd : nD y pc .ldiv 1 p2 o) (k : nG y κ cu su p2 ls (.long (a / b) :: st) h) : nG y κ cu su pc ls (.long b :: .long a :: st) h := by
  intro p l e s m args below meth c H locs lsA C R L F
  obtain ⟨hdg, rfl, -⟩ := hd
  exact lv_ldiv C.1 C.2.1 hdg hne (k p l e s m args below meth c H locs lsA C R L F)
theorem x_lrem {a b : Int64} (hne : ¬ b = 0) (hd : nD y pc .lrem 1 p2 o) (k : nG y κ cu su p2 ls (.long (a - a / b * b) :: st) h) : nG y κ cu su pc ls (.long b :: .long a :: st) h := by
  intro p l e s m args below meth c H locs lsA C R L F
  obtain ⟨hdg, rfl, -⟩ := hd
  exact lv_lrem C.1 C.2.1 hdg hne (k p l e s m args below meth c H locs lsA C R L F)
theorem x_lneg {a : Int64} (hd : nD y pc .lneg 1 p2 o) (k : nG y κ cu su p2 ls (.long (-a) :: st) h) : nG y κ cu su pc ls (.long a :: st) h := by
  intro p l e s m args below meth c H locs lsA C R L F
  obtain ⟨hdg, rfl, -⟩ := hd
  exact lv_lneg C.1 C.2.1 hdg (k p l e s m args below meth c H locs lsA C R L F)
theorem x_i2l {a : Int32} (hd : nD y pc .i2l 1 p2 o) (k : nG y κ cu su p2 ls (.long a.toInt64 :: st) h) : nG y κ cu su pc ls (.int a :: st) h := by
  intro p l e s m args below meth c H locs lsA C R L F
  obtain ⟨hdg, rfl, -⟩ := hd
  exact lv_i2l C.1 C.2.1 hdg rfl (k p l e s m args below meth c H locs lsA C R L F)
theorem x_lcmp {a b : Int64} (hd : nD y pc .lcmp 1 p2 o) (k : nG y κ cu su p2 ls (.int (lg_cmp a b) :: st) h) : nG y κ cu su pc ls (.long b :: .long a :: st) h := by
  intro p l e s m args below meth c H locs lsA C R L F
  obtain ⟨hdg, rfl, -⟩ := hd
  exact W.lcmp C.1 C.2.1 hdg (k p l e s m args below meth c H locs lsA C R L F)
theorem x_dup {v : Value} (hv : v.category = 1) (hd : nD y pc .dup 1 p2 o) (k : nG y κ cu su p2 ls (v :: v :: st) h) : nG y κ cu su pc ls (v :: st) h := by
  intro p l e s m args below meth c H locs lsA C R L F
  obtain ⟨hdg, rfl, -⟩ := hd
  exact lv_dup C.1 C.2.1 hdg hv (k p l e s m args below meth c H locs lsA C R L F)
theorem x_dup2 {v v2 : Value} (hv : v.category = 1) (hv2 : v2.category = 1) (hd : nD y pc .dup2 1 p2 o) (k : nG y κ cu su p2 ls (v :: v2 :: v :: v2 :: st) h) : nG y κ cu su pc ls (v :: v2 :: st) h := by
  intro p l e s m args below meth c H locs lsA C R L F
  obtain ⟨hdg, rfl, -⟩ := hd
  exact lv_dup2_11 C.1 C.2.1 hdg hv hv2 (k p l e s m args below meth c H locs lsA C R L F)
theorem x_goto {off : Int} {tgt : Nat} (hd : nD y pc (.goto off) 3 p2 o) (ht : (pc : Int) + off = (tgt : Int)) (k : nG y κ cu su tgt ls st h) : nG y κ cu su pc ls st h := by
  intro p l e s m args below meth c H locs lsA C R L F
  exact lv_goto C.1 C.2.1 hd.1 ht (k p l e s m args below meth c H locs lsA C R L F)
theorem x_icmp_eqT {a b : Int32} {off : Int} {tgt : Nat} (hd : nD y pc (.if_icmp .eq off) 3 p2 o) (ht : (pc : Int) + off = (tgt : Int)) (hc : a = b) (k : nG y κ cu su tgt ls st h) : nG y κ cu su pc ls (.int b :: .int a :: st) h := by
  intro p l e s m args below meth c H locs lsA C R L F
  obtain ⟨hdg, rfl, -⟩ := hd
  exact lv_icmp_eq C.1 C.2.1 hdg ht (fun q => k p l e s m args below meth c H locs lsA C R L F) (fun q => absurd hc q)
theorem x_icmp_eqF {a b : Int32} {off : Int} {tgt : Nat} (hd : nD y pc (.if_icmp .eq off) 3 p2 o) (ht : (pc : Int) + off = (tgt : Int)) (hc : ¬ a = b) (k : nG y κ cu su p2 ls st h) : nG y κ cu su pc ls (.int b :: .int a :: st) h := by
  intro p l e s m args below meth c H locs lsA C R L F
  obtain ⟨hdg, rfl, -⟩ := hd
  exact lv_icmp_eq C.1 C.2.1 hdg ht (fun q => absurd q hc) (fun q => k p l e s m args below meth c H locs lsA C R L F)
theorem x_icmp_eq {a b : Int32} {off : Int} {tgt : Nat} (hd : nD y pc (.if_icmp .eq off) 3 p2 o) (ht : (pc : Int) + off = (tgt : Int)) (k1 : a = b → nG y κ cu su tgt ls st h) (k2 : ¬ a = b → nG y κ cu su p2 ls st h) : nG y κ cu su pc ls (.int b :: .int a :: st) h := by
  by_cases hc : a = b
  · exact x_icmp_eqT hd ht hc (k1 hc)
  · exact x_icmp_eqF hd ht hc (k2 hc)
theorem x_if_eqT {a : Int32} {off : Int} {tgt : Nat} (hd : nD y pc (.ifCond .eq off) 3 p2 o) (ht : (pc : Int) + off = (tgt : Int)) (hc : a = 0) (k : nG y κ cu su tgt ls st h) : nG y κ cu su pc ls (.int a :: st) h := by
  intro p l e s m args below meth c H locs lsA C R L F
  obtain ⟨hdg, rfl, -⟩ := hd
  exact lv_if_eq C.1 C.2.1 hdg ht (fun q => k p l e s m args below meth c H locs lsA C R L F) (fun q => absurd hc q)
theorem x_if_eqF {a : Int32} {off : Int} {tgt : Nat} (hd : nD y pc (.ifCond .eq off) 3 p2 o) (ht : (pc : Int) + off = (tgt : Int)) (hc : ¬ a = 0) (k : nG y κ cu su p2 ls st h) : nG y κ cu su pc ls (.int a :: st) h := by
  intro p l e s m args below meth c H locs lsA C R L F
  obtain ⟨hdg, rfl, -⟩ := hd
  exact lv_if_eq C.1 C.2.1 hdg ht (fun q => absurd q hc) (fun q => k p l e s m args below meth c H locs lsA C R L F)
theorem x_if_eq {a : Int32} {off : Int} {tgt : Nat} (hd : nD y pc (.ifCond .eq off) 3 p2 o) (ht : (pc : Int) + off = (tgt : Int)) (k1 : a = 0 → nG y κ cu su tgt ls st h) (k2 : ¬ a = 0 → nG y κ cu su p2 ls st h) : nG y κ cu su pc ls (.int a :: st) h := by
  by_cases hc : a = 0
  · exact x_if_eqT hd ht hc (k1 hc)
  · exact x_if_eqF hd ht hc (k2 hc)
theorem x_icmp_neT {a b : Int32} {off : Int} {tgt : Nat} (hd : nD y pc (.if_icmp .ne off) 3 p2 o) (ht : (pc : Int) + off = (tgt : Int)) (hc : ¬ a = b) (k : nG y κ cu su tgt ls st h) : nG y κ cu su pc ls (.int b :: .int a :: st) h := by
  intro p l e s m args below meth c H locs lsA C R L F
  obtain ⟨hdg, rfl, -⟩ := hd
  exact lv_icmp_ne C.1 C.2.1 hdg ht (fun q => k p l e s m args below meth c H locs lsA C R L F) (fun q => absurd q hc)
theorem x_icmp_neF {a b : Int32} {off : Int} {tgt : Nat} (hd : nD y pc (.if_icmp .ne off) 3 p2 o) (ht : (pc : Int) + off = (tgt : Int)) (hc : a = b) (k : nG y κ cu su p2 ls st h) : nG y κ cu su pc ls (.int b :: .int a :: st) h := by
  intro p l e s m args below meth c H locs lsA C R L F
  obtain ⟨hdg, rfl, -⟩ := hd
  exact lv_icmp_ne C.1 C.2.1 hdg ht (fun q => absurd hc q) (fun q => k p l e s m args below meth c H locs lsA C R L F)
theorem x_icmp_ne {a b : Int32} {off : Int} {tgt : Nat} (hd : nD y pc (.if_icmp .ne off) 3 p2 o) (ht : (pc : Int) + off = (tgt : Int)) (k1 : ¬ a = b → nG y κ cu su tgt ls st h) (k2 : a = b → nG y κ cu su p2 ls st h) : nG y κ cu su pc ls (.int b :: .int a :: st) h := by
  by_cases hc : ¬ a = b
  · exact x_icmp_neT hd ht hc (k1 hc)
  · exact x_icmp_neF hd ht (Decidable.not_not.mp hc) (k2 (Decidable.not_not.mp hc))
theorem x_if_neT {a : Int32} {off : Int} {tgt : Nat} (hd : nD y pc (.ifCond .ne off) 3 p2 o) (ht : (pc : Int) + off = (tgt : Int)) (hc : ¬ a = 0) (k : nG y κ cu su tgt ls st h) : nG y κ cu su pc ls (.int a :: st) h := by
  intro p l e s m args below meth c H locs lsA C R L F
  obtain ⟨hdg, rfl, -⟩ := hd
  exact lv_if_ne C.1 C.2.1 hdg ht (fun q => k p l e s m args below meth c H locs lsA C R L F) (fun q => absurd q hc)
theorem x_if_neF {a : Int32} {off : Int} {tgt : Nat} (hd : nD y pc (.ifCond .ne off) 3 p2 o) (ht : (pc : Int) + off = (tgt : Int)) (hc : a = 0) (k : nG y κ cu su p2 ls st h) : nG y κ cu su pc ls (.int a :: st) h := by
  intro p l e s m args below meth c H locs lsA C R L F
  obtain ⟨hdg, rfl, -⟩ := hd
  exact lv_if_ne C.1 C.2.1 hdg ht (fun q => absurd hc q) (fun q => k p l e s m args below meth c H locs lsA C R L F)
theorem x_if_ne {a : Int32} {off : Int} {tgt : Nat} (hd : nD y pc (.ifCond .ne off) 3 p2 o) (ht : (pc : Int) + off = (tgt : Int)) (k1 : ¬ a = 0 → nG y κ cu su tgt ls st h) (k2 : a = 0 → nG y κ cu su p2 ls st h) : nG y κ cu su pc ls (.int a :: st) h := by
  by_cases hc : ¬ a = 0
  · exact x_if_neT hd ht hc (k1 hc)
  · exact x_if_neF hd ht (Decidable.not_not.mp hc) (k2 (Decidable.not_not.mp hc))
theorem x_icmp_ltT {a b : Int32} {off : Int} {tgt : Nat} (hd : nD y pc (.if_icmp .lt off) 3 p2 o) (ht : (pc : Int) + off = (tgt : Int)) (hc : a < b) (k : nG y κ cu su tgt ls st h) : nG y κ cu su pc ls (.int b :: .int a :: st) h := by
  intro p l e s m args below meth c H locs lsA C R L F
  obtain ⟨hdg, rfl, -⟩ := hd
  exact lv_icmp_lt C.1 C.2.1 hdg ht (fun q => k p l e s m args below meth c H locs lsA C R L F) (fun q => absurd hc q)
theorem x_icmp_ltF {a b : Int32} {off : Int} {tgt : Nat} (hd : nD y pc (.if_icmp .lt off) 3 p2 o) (ht : (pc : Int) + off = (tgt : Int)) (hc : ¬ a < b) (k : nG y κ cu su p2 ls st h) : nG y κ cu su pc ls (.int b :: .int a :: st) h := by
  intro p l e s m args below meth c H locs lsA C R L F
  obtain ⟨hdg, rfl, -⟩ := hd
  exact lv_icmp_lt C.1 C.2.1 hdg ht (fun q => absurd q hc) (fun q => k p l e s m args below meth c H locs lsA C R L F)
theorem x_icmp_lt {a b : Int32} {off : Int} {tgt : Nat} (hd : nD y pc (.if_icmp .lt off) 3 p2 o) (ht : (pc : Int) + off = (tgt : Int)) (k1 : a < b → nG y κ cu su tgt ls st h) (k2 : ¬ a < b → nG y κ cu su p2 ls st h) : nG y κ cu su pc ls (.int b :: .int a :: st) h := by
  by_cases hc : a < b
  · exact x_icmp_ltT hd ht hc (k1 hc)
  · exact x_icmp_ltF hd ht hc (k2 hc)
theorem x_if_ltT {a : Int32} {off : Int} {tgt : Nat} (hd : nD y pc (.ifCond .lt off) 3 p2 o) (ht : (pc : Int) + off = (tgt : Int)) (hc : a < 0) (k : nG y κ cu su tgt ls st h) : nG y κ cu su pc ls (.int a :: st) h := by
  intro p l e s m args below meth c H locs lsA C R L F
  obtain ⟨hdg, rfl, -⟩ := hd
  exact lv_if_lt C.1 C.2.1 hdg ht (fun q => k p l e s m args below meth c H locs lsA C R L F) (fun q => absurd hc q)
theorem x_if_ltF {a : Int32} {off : Int} {tgt : Nat} (hd : nD y pc (.ifCond .lt off) 3 p2 o) (ht : (pc : Int) + off = (tgt : Int)) (hc : ¬ a < 0) (k : nG y κ cu su p2 ls st h) : nG y κ cu su pc ls (.int a :: st) h := by
  intro p l e s m args below meth c H locs lsA C R L F
  obtain ⟨hdg, rfl, -⟩ := hd
  exact lv_if_lt C.1 C.2.1 hdg ht (fun q => absurd q hc) (fun q => k p l e s m args below meth c H locs lsA C R L F)
theorem x_if_lt {a : Int32} {off : Int} {tgt : Nat} (hd : nD y pc (.ifCond .lt off) 3 p2 o) (ht : (pc : Int) + off = (tgt : Int)) (k1 : a < 0 → nG y κ cu su tgt ls st h) (k2 : ¬ a < 0 → nG y κ cu su p2 ls st h) : nG y κ cu su pc ls (.int a :: st) h := by
  by_cases hc : a < 0
  · exact x_if_ltT hd ht hc (k1 hc)
  · exact x_if_ltF hd ht hc (k2 hc)
theorem x_icmp_geT {a b : Int32} {off : Int} {tgt : Nat} (hd : nD y pc (.if_icmp .ge off) 3 p2 o) (ht : (pc : Int) + off = (tgt : Int)) (hc : b ≤ a) (k : nG y κ cu su tgt ls st h) : nG y κ cu su pc ls (.int b :: .int a :: st) h := by
  intro p l e s m args below meth c H locs lsA C R L F
  obtain ⟨hdg, rfl, -⟩ := hd
  exact lv_icmp_ge C.1 C.2.1 hdg ht (fun q => k p l e s m args below meth c H locs lsA C R L F) (fun q => absurd hc q)
theorem x_icmp_geF {a b : Int32} {off : Int} {tgt : Nat} (hd : nD y pc (.if_icmp .ge off) 3 p2 o) (ht : (pc : Int) + off = (tgt : Int)) (hc : ¬ b ≤ a) (k : nG y κ cu su p2 ls st h) : nG y κ cu su pc ls (.int b :: .int a :: st) h := by
  intro p l e s m args below meth c H locs lsA C R L F
  obtain ⟨hdg, rfl, -⟩ := hd
  exact lv_icmp_ge C.1 C.2.1 hdg ht (fun q => absurd q hc) (fun q => k p l e s m args below meth c H locs lsA C R L F)
theorem x_icmp_ge {a b : Int32} {off : Int} {tgt : Nat} (hd : nD y pc (.if_icmp .ge off) 3 p2 o) (ht : (pc : Int) + off = (tgt : Int)) (k1 : b ≤ a → nG y κ cu su tgt ls st h) (k2 : ¬ b ≤ a → nG y κ cu su p2 ls st h) : nG y κ cu su pc ls (.int b :: .int a :: st) h := by
  by_cases hc : b ≤ a
  · exact x_icmp_geT hd ht hc (k1 hc)
  · exact x_icmp_geF hd ht hc (k2 hc)
theorem x_if_geT {a : Int32} {off : Int} {tgt : Nat} (hd : nD y pc (.ifCond .ge off) 3 p2 o) (ht : (pc : Int) + off = (tgt : Int)) (hc : 0 ≤ a) (k : nG y κ cu su tgt ls st h) : nG y κ cu su pc ls (.int a :: st) h := by
  intro p l e s m args below meth c H locs lsA C R L F
  obtain ⟨hdg, rfl, -⟩ := hd
  exact lv_if_ge C.1 C.2.1 hdg ht (fun q => k p l e s m args below meth c H locs lsA C R L F) (fun q => absurd hc q)
theorem x_if_geF {a : Int32} {off : Int} {tgt : Nat} (hd : nD y pc (.ifCond .ge off) 3 p2 o) (ht : (pc : Int) + off = (tgt : Int)) (hc : ¬ 0 ≤ a) (k : nG y κ cu su p2 ls st h) : nG y κ cu su pc ls (.int a :: st) h := by
  intro p l e s m args below meth c H locs lsA C R L F
  obtain ⟨hdg, rfl, -⟩ := hd
  exact lv_if_ge C.1 C.2.1 hdg ht (fun q => absurd q hc) (fun q => k p l e s m args below meth c H locs lsA C R L F)
theorem x_if_ge {a : Int32} {off : Int} {tgt : Nat} (hd : nD y pc (.ifCond .ge off) 3 p2 o) (ht : (pc : Int) + off = (tgt : Int)) (k1 : 0 ≤ a → nG y κ cu su tgt ls st h) (k2 : ¬ 0 ≤ a → nG y κ cu su p2 ls st h) : nG y κ cu su pc ls (.int a :: st) h := by
  by_cases hc : 0 ≤ a
  · exact x_if_geT hd ht hc (k1 hc)
  · exact x_if_geF hd ht hc (k2 hc)
theorem x_icmp_gtT {a b : Int32} {off : Int} {tgt : Nat} (hd : nD y pc (.if_icmp .gt off) 3 p2 o) (ht : (pc : Int) + off = (tgt : Int)) (hc : b < a) (k : nG y κ cu su tgt ls st h) : nG y κ cu su pc ls (.int b :: .int a :: st) h := by
  intro p l e s m args below meth c H locs lsA C R L F
  obtain ⟨hdg, rfl, -⟩ := hd
  exact lv_icmp_gt C.1 C.2.1 hdg ht (fun q => k p l e s m args below meth c H locs lsA C R L F) (fun q => absurd hc q)
theorem x_icmp_gtF {a b : Int32} {off : Int} {tgt : Nat} (hd : nD y pc (.if_icmp .gt off) 3 p2 o) (ht : (pc : Int) + off = (tgt : Int)) (hc : ¬ b < a) (k : nG y κ cu su p2 ls st h) : nG y κ cu su pc ls (.int b :: .int a :: st) h := by
  intro p l e s m args below meth c H locs lsA C R L F
  obtain ⟨hdg, rfl, -⟩ := hd
  exact lv_icmp_gt C.1 C.2.1 hdg ht (fun q => absurd q hc) (fun q => k p l e s m args below meth c H locs lsA C R L F)
theorem x_icmp_gt {a b : Int32} {off : Int} {tgt : Nat} (hd : nD y pc (.if_icmp .gt off) 3 p2 o) (ht : (pc : Int) + off = (tgt : Int)) (k1 : b < a → nG y κ cu su tgt ls st h) (k2 : ¬ b < a → nG y κ cu su p2 ls st h) : nG y κ cu su pc ls (.int b :: .int a :: st) h := by
  by_cases hc : b < a
  · exact x_icmp_gtT hd ht hc (k1 hc)
  · exact x_icmp_gtF hd ht hc (k2 hc)
theorem x_if_gtT {a : Int32} {off : Int} {tgt : Nat} (hd : nD y pc (.ifCond .gt off) 3 p2 o) (ht : (pc : Int) + off = (tgt : Int)) (hc : 0 < a) (k : nG y κ cu su tgt ls st h) : nG y κ cu su pc ls (.int a :: st) h := by
  intro p l e s m args below meth c H locs lsA C R L F
  obtain ⟨hdg, rfl, -⟩ := hd
  exact lv_if_gt C.1 C.2.1 hdg ht (fun q => k p l e s m args below meth c H locs lsA C R L F) (fun q => absurd hc q)
theorem x_if_gtF {a : Int32} {off : Int} {tgt : Nat} (hd : nD y pc (.ifCond .gt off) 3 p2 o) (ht : (pc : Int) + off = (tgt : Int)) (hc : ¬ 0 < a) (k : nG y κ cu su p2 ls st h) : nG y κ cu su pc ls (.int a :: st) h := by
  intro p l e s m args below meth c H locs lsA C R L F
  obtain ⟨hdg, rfl, -⟩ := hd
  exact lv_if_gt C.1 C.2.1 hdg ht (fun q => absurd q hc) (fun q => k p l e s m args below meth c H locs lsA C R L F)
theorem x_if_gt {a : Int32} {off : Int} {tgt : Nat} (hd : nD y pc (.ifCond .gt off) 3 p2 o) (ht : (pc : Int) + off = (tgt : Int)) (k1 : 0 < a → nG y κ cu su tgt ls st h) (k2 : ¬ 0 < a → nG y κ cu su p2 ls st h) : nG y κ cu su pc ls (.int a :: st) h := by
  by_cases hc : 0 < a
  · exact x_if_gtT hd ht hc (k1 hc)
  · exact x_if_gtF hd ht hc (k2 hc)
theorem x_icmp_leT {a b : Int32} {off : Int} {tgt : Nat} (hd : nD y pc (.if_icmp .le off) 3 p2 o) (ht : (pc : Int) + off = (tgt : Int)) (hc : a ≤ b) (k : nG y κ cu su tgt ls st h) : nG y κ cu su pc ls (.int b :: .int a :: st) h := by
  intro p l e s m args below meth c H locs lsA C R L F
  obtain ⟨hdg, rfl, -⟩ := hd
  exact lv_icmp_le C.1 C.2.1 hdg ht (fun q => k p l e s m args below meth c H locs lsA C R L F) (fun q => absurd hc q)
theorem x_icmp_leF {a b : Int32} {off : Int} {tgt : Nat} (hd : nD y pc (.if_icmp .le off) 3 p2 o) (ht : (pc : Int) + off = (tgt : Int)) (hc : ¬ a ≤ b) (k : nG y κ cu su p2 ls st h) : nG y κ cu su pc ls (.int b :: .int a :: st) h := by
  intro p l e s m args below meth c H locs lsA C R L F
  obtain ⟨hdg, rfl, -⟩ := hd
  exact lv_icmp_le C.1 C.2.1 hdg ht (fun q => absurd q hc) (fun q => k p l e s m args below meth c H locs lsA C R L F)
theorem x_icmp_le {a b : Int32} {off : Int} {tgt : Nat} (hd : nD y pc (.if_icmp .le off) 3 p2 o) (ht : (pc : Int) + off = (tgt : Int)) (k1 : a ≤ b → nG y κ cu su tgt ls st h) (k2 : ¬ a ≤ b → nG y κ cu su p2 ls st h) : nG y κ cu su pc ls (.int b :: .int a :: st) h := by
  by_cases hc : a ≤ b
  · exact x_icmp_leT hd ht hc (k1 hc)
  · exact x_icmp_leF hd ht hc (k2 hc)
theorem x_if_leT {a : Int32} {off : Int} {tgt : Nat} (hd : nD y pc (.ifCond .le off) 3 p2 o) (ht : (pc : Int) + off = (tgt : Int)) (hc : a ≤ 0) (k : nG y κ cu su tgt ls st h) : nG y κ cu su pc ls (.int a :: st) h := by
  intro p l e s m args below meth c H locs lsA C R L F
  obtain ⟨hdg, rfl, -⟩ := hd
  exact lv_if_le C.1 C.2.1 hdg ht (fun q => k p l e s m args below meth c H locs lsA C R L F) (fun q => absurd hc q)
theorem x_if_leF {a : Int32} {off : Int} {tgt : Nat} (hd : nD y pc (.ifCond .le off) 3 p2 o) (ht : (pc : Int) + off = (tgt : Int)) (hc : ¬ a ≤ 0) (k : nG y κ cu su p2 ls st h) : nG y κ cu su pc ls (.int a :: st) h := by
  intro p l e s m args below meth c H locs lsA C R L F
  obtain ⟨hdg, rfl, -⟩ := hd
  exact lv_if_le C.1 C.2.1 hdg ht (fun q => absurd q hc) (fun q => k p l e s m args below meth c H locs lsA C R L F)
theorem x_if_le {a : Int32} {off : Int} {tgt : Nat} (hd : nD y pc (.ifCond .le off) 3 p2 o) (ht : (pc : Int) + off = (tgt : Int)) (k1 : a ≤ 0 → nG y κ cu su tgt ls st h) (k2 : ¬ a ≤ 0 → nG y κ cu su p2 ls st h) : nG y κ cu su pc ls (.int a :: st) h := by
  by_cases hc : a ≤ 0
  · exact x_if_leT hd ht hc (k1 hc)
  · exact x_if_leF hd ht hc (k2 hc)
theorem x_ifnull {x : Nat} {off : Int} (hd : nD y pc (.ifnull off) 3 p2 o) (k : nG y κ cu su p2 ls st h) : nG y κ cu su pc ls (.ref x :: st) h := by
  intro p l e s m args below meth c H locs lsA C R L F
  obtain ⟨hdg, rfl, -⟩ := hd
  exact lv_ifnull C.1 C.2.1 hdg (k p l e s m args below meth c H locs lsA C R L F)
theorem x_ifnullN {off : Int} {tgt : Nat} (hd : nD y pc (.ifnull off) 3 p2 o) (ht : (pc : Int) + off = (tgt : Int)) (k : nG y κ cu su tgt ls st h) : nG y κ cu su pc ls (.null :: st) h := by
  intro p l e s m args below meth c H locs lsA C R L F
  exact lv_ifnullN C.1 C.2.1 hd.1 ht (k p l e s m args below meth c H locs lsA C R L F)
theorem x_ifnonnull {x : Nat} {off : Int} {tgt : Nat} (hd : nD y pc (.ifnonnull off) 3 p2 o) (ht : (pc : Int) + off = (tgt : Int)) (k : nG y κ cu su tgt ls st h) : nG y κ cu su pc ls (.ref x :: st) h := by
  intro p l e s m args below meth c H locs lsA C R L F
  exact lv_ifnonnull C.1 C.2.1 hd.1 ht (k p l e s m args below meth c H locs lsA C R L F)
theorem x_ifnonnullN {off : Int} (hd : nD y pc (.ifnonnull off) 3 p2 o) (k : nG y κ cu su p2 ls st h) : nG y κ cu su pc ls (.null :: st) h := by
  intro p l e s m args below meth c H locs lsA C R L F
  obtain ⟨hdg, rfl, -⟩ := hd
  exact lv_ifnonnullN C.1 C.2.1 hdg (k p l e s m args below meth c H locs lsA C R L F)
theorem x_tableOut {dflt lo hi : Int} {offs : Array Int} {len tgt : Nat} {x : Int32} (hd : nD y pc (.tableswitch dflt lo hi offs) len p2 o) (hc : x.toInt < lo ∨ hi < x.toInt) (ht : (pc : Int) + dflt = (tgt : Int)) (k : nG y κ cu su tgt ls st h) : nG y κ cu su pc ls (.int x :: st) h := by
  intro p l e s m args below meth c H locs lsA C R L F
  exact lv_tableOut C.1 C.2.1 hd.1 hc ht (k p l e s m args below meth c H locs lsA C R L F)
theorem x_tableIn {dflt lo hi off : Int} {offs : Array Int} {len tgt : Nat} {x : Int32} (hd : nD y pc (.tableswitch dflt lo hi offs) len p2 o) (h1 : ¬ x.toInt < lo) (h2 : ¬ hi < x.toInt) (ho : offs[(x.toInt - lo).toNat]? = some off) (ht : (pc : Int) + off = (tgt : Int)) (k : nG y κ cu su tgt ls st h) : nG y κ cu su pc ls (.int x :: st) h := by
  intro p l e s m args below meth c H locs lsA C R L F
  exact lv_tableIn C.1 C.2.1 hd.1 h1 h2 ho ht (k p l e s m args below meth c H locs lsA C R L F)
theorem x_istore_n {x : Int32} {i : Fin 4} (hd : nD y pc (.istore_n i) 1 p2 o) (hi : i.val < y.2.2.1) (k : nG y κ cu su p2 (nPut ls i.val (.int x)) st h) : nG y κ cu su pc ls (.int x :: st) h := by
  intro p l e s m args below meth c H locs lsA C R L F
  obtain ⟨hdg, rfl, -⟩ := hd
  exact lv_istore_n C.1 C.2.1 hdg rfl (nLs_has L) hi rfl (fun l2 h2 => k p l e s m args below meth c H locs l2 C R (nLs_put h2) F)
theorem x_istore {x : Int32} {i : Nat} (hd : nD y pc (.istore i) 2 p2 o) (hi : i < y.2.2.1) (k : nG y κ cu su p2 (nPut ls i (.int x)) st h) : nG y κ cu su pc ls (.int x :: st) h := by
  intro p l e s m args below meth c H locs lsA C R L F
  obtain ⟨hdg, rfl, -⟩ := hd
  exact lv_istore C.1 C.2.1 hdg (nLs_has L) hi rfl (fun l2 h2 => k p l e s m args below meth c H locs l2 C R (nLs_put h2) F)
theorem x_lstore_n {x : Int64} {i : Fin 4} (hd : nD y pc (.lstore_n i) 1 p2 o) (hi : i.val + 1 < y.2.2.1) (k : nG y κ cu su p2 (nPu2 ls i.val (.long x)) st h) : nG y κ cu su pc ls (.long x :: st) h := by
  intro p l e s m args below meth c H locs lsA C R L F
  obtain ⟨hdg, rfl, -⟩ := hd
  exact lv_lstore_n C.1 C.2.1 hdg rfl (nLs_has L) hi rfl (fun l2 h2 => k p l e s m args below meth c H locs l2 C R (nLs_pu2 h2) F)
theorem x_lstore {x : Int64} {i : Nat} (hd : nD y pc (.lstore i) 2 p2 o) (hi : i + 1 < y.2.2.1) (k : nG y κ cu su p2 (nPu2 ls i (.long x)) st h) : nG y κ cu su pc ls (.long x :: st) h := by
  intro p l e s m args below meth c H locs lsA C R L F
  obtain ⟨hdg, rfl, -⟩ := hd
  exact lv_lstore C.1 C.2.1 hdg (nLs_has L) hi rfl (fun l2 h2 => k p l e s m args below meth c H locs l2 C R (nLs_pu2 h2) F)
theorem x_astore_n {x : Nat} {i : Fin 4} (hd : nD y pc (.astore_n i) 1 p2 o) (hi : i.val < y.2.2.1) (k : nG y κ cu su p2 (nPut ls i.val (.ref x)) st h) : nG y κ cu su pc ls (.ref x :: st) h := by
  intro p l e s m args below meth c H locs lsA C R L F
  obtain ⟨hdg, rfl, -⟩ := hd
  exact lv_astore_n C.1 C.2.1 hdg rfl (nLs_has L) hi rfl (fun l2 h2 => k p l e s m args below meth c H locs l2 C R (nLs_put h2) F)
theorem x_astore {x : Nat} {i : Nat} (hd : nD y pc (.astore i) 2 p2 o) (hi : i < y.2.2.1) (k : nG y κ cu su p2 (nPut ls i (.ref x)) st h) : nG y κ cu su pc ls (.ref x :: st) h := by
  intro p l e s m args below meth c H locs lsA C R L F
  obtain ⟨hdg, rfl, -⟩ := hd
  exact lv_astore C.1 C.2.1 hdg (nLs_has L) hi rfl (fun l2 h2 => k p l e s m args below meth c H locs l2 C R (nLs_put h2) F)
theorem x_astore_nN {i : Fin 4} (hd : nD y pc (.astore_n i) 1 p2 o) (hi : i.val < y.2.2.1) (k : nG y κ cu su p2 (nPut ls i.val (.null)) st h) : nG y κ cu su pc ls (.null :: st) h := by
  intro p l e s m args below meth c H locs lsA C R L F
  obtain ⟨hdg, rfl, -⟩ := hd
  exact lv_astore_nN C.1 C.2.1 hdg rfl (nLs_has L) hi rfl (fun l2 h2 => k p l e s m args below meth c H locs l2 C R (nLs_put h2) F)
theorem x_astoreN {i : Nat} (hd : nD y pc (.astore i) 2 p2 o) (hi : i < y.2.2.1) (k : nG y κ cu su p2 (nPut ls i (.null)) st h) : nG y κ cu su pc ls (.null :: st) h := by
  intro p l e s m args below meth c H locs lsA C R L F
  obtain ⟨hdg, rfl, -⟩ := hd
  exact lv_astoreN C.1 C.2.1 hdg (nLs_has L) hi rfl (fun l2 h2 => k p l e s m args below meth c H locs l2 C R (nLs_put h2) F)
theorem x_iinc {i : Nat} {n : Int} {x : Int32} (hd : nD y pc (.iinc i n) 3 p2 o) (hl : ls[i]? = some (some (.int x))) (hi : i < y.2.2.1) (k : nG y κ cu su p2 (nPut ls i (.int (x + Int32.ofInt n))) st h) : nG y κ cu su pc ls st h := by
  intro p l e s m args below meth c H locs lsA C R L F
  obtain ⟨hdg, rfl, -⟩ := hd
  obtain ⟨j, hj⟩ := List.getElem?_of_mem (nAs_mem.mpr hl)
  exact lv_iinc C.1 C.2.1 hdg (nLs_has L) hj rfl hi rfl (fun l2 h2 => k p l e s m args below meth c H locs l2 C R (nLs_put h2) F)
end NG
end
section
/-! THE PLAIN WORLD: rows for cells, calls and ends. -/
def nUp {α : Type} (f : Nat → α) (j : Nat) (v : α) : Nat → α := fun q => if q = j then v else f q
def nIx (i : Int32) (n j : Nat) : Prop := vp_in i n ∧ i.toNatClampNeg = j
theorem nIx_nI {j n : Nat} (h : j < n) (hn : n < 2 ^ 31) : nIx (nI j) n j := ⟨vp_in_nI h (by omega), nI_clamp (by omega)⟩
theorem nRC.kept {D : va_G} {U : State} {H H2 : Heap} {a : Nat} {e : nPC} (h : nRC D U H a e) (hq : H2[a]? = H[a]?) : nRC D U H2 a e := by
  match e, h with
  | .inl x, h =>
    obtain ⟨cA, h1, h2⟩ := h
    exact ⟨cA, hq.trans h1, h2⟩
  | .inr (.inl o), h => exact va_at.kept (q := (a, .inr o)) h hq
  | .inr (.inr x), h => exact va_X.kept (b := a) h hq
theorem nRC.lt {D : va_G} {U : State} {H : Heap} {a : Nat} {e : nPC} (h : nRC D U H a e) : a < H.size := by
  match e, h with
  | .inl x, h =>
    obtain ⟨cA, h1, h2⟩ := h
    exact (Array.getElem?_eq_some_iff.mp h1).1
  | .inr (.inl o), h => exact va_at.lt (q := (a, .inr o)) h
  | .inr (.inr x), h =>
    obtain ⟨scr, h1, -⟩ := h
    exact (Array.getElem?_eq_some_iff.mp h1).1
theorem nRC.moved {D : va_G} {u U : State} {H : Heap} {a : Nat} {e : nPC} (hvm : u.vm.Alike U.vm) (h : nRC D u H a e) : nRC D U H a e := by
  match e, h with
  | .inl x, h =>
    obtain ⟨cA, h1, h2, h3⟩ := h
    exact ⟨cA, h1, arrOfT_moved hvm h2, h3.moved hvm⟩
  | .inr (.inl o), h => exact h
  | .inr (.inr x), h => exact va_X.moved hvm h
theorem nRep.moved {h : nPH} {u U : State} {H : Heap} (hvm : u.vm.Alike U.vm) (R : nRep h u H) : nRep h U H := ⟨R.1, fun a e he => (R.2 a e he).moved hvm⟩
theorem nRep_st {h : nPH} {U : State} {H H2 : Heap} {a : Nat} {e : nPC} (R : nRep h U H) (z : H2.size = H.size) (oq : ∀ q : Nat, q ≠ a → H2[q]? = H[q]?) (he : nRC h.1 U H2 a e) : nRep (nSt h a e) U H2 := by
  refine ⟨z.trans R.1, fun q e2 hq => ?_⟩
  by_cases hqa : q = a
  · subst hqa
    have : some e = some e2 := by simpa [nSt] using hq
    cases this
    exact he
  · have : h.2.2.2 q = some e2 := by simpa [nSt, hqa] using hq
    exact (R.2 q e2 this).kept (oq q hqa)
theorem nRep_nw {h : nPH} {U : State} {H H2 : Heap} {e : nPC} (R : nRep h U H) (z : H2.size = H.size + 1) (oq : ∀ q : Nat, q < H.size → H2[q]? = H[q]?) (he : nRC h.1 U H2 H.size e) : nRep (nNw h e) U H2 := by
  have hz : h.2.2.1 = H.size := R.1.symm
  refine ⟨by show _ = h.2.2.1 + 1; rw [z, hz], fun q e2 hq => ?_⟩
  by_cases hqa : q = h.2.2.1
  · subst hqa
    have : some e = some e2 := by simpa [nNw] using hq
    cases this
    rw [hz]
    exact he
  · have : h.2.2.2 q = some e2 := by simpa [nNw, hqa] using hq
    have h1 := R.2 q e2 this
    exact h1.kept (oq q h1.lt)
theorem nK.moved {D : va_G} {s U : State} (hW : s.WarmedH U.vm) (h : nK D s) : nK D U := by
  obtain ⟨h1, h2, h3, h4, h5, h6⟩ := h
  exact ⟨va_K.moved hW.alike h1, fun q hq => va_Nw.warmM hW (h2 q hq), va_AO.moved hW.alike h3, va_AO.moved hW.alike h4, over_moved hW.alike h5, over_moved hW.alike h6⟩
theorem nK.call {D : va_G} {U : State} (g : JFrame) (mk : MethodId) (a : Array Value) (h : nK D U) : nK D (U.calling g mk a) := by
  obtain ⟨h1, h2, h3, h4, h5, h6⟩ := h
  exact ⟨va_K.moved (u := U) (U := U.calling g mk a) (Vm.Alike.refl U.vm) h1, fun q hq => va_Nw.same rfl (show U.vm = (U.calling g mk a).vm from rfl) (h2 q hq), va_AO.moved (u := U) (U := U.calling g mk a) (Vm.Alike.refl U.vm) h3, va_AO.moved (u := U) (U := U.calling g mk a) (Vm.Alike.refl U.vm) h4, over_moved (u := U) (E := U.calling g mk a) (Vm.Alike.refl U.vm) h5, over_moved (u := U) (E := U.calling g mk a) (Vm.Alike.refl U.vm) h6⟩
theorem nPc_blind (h : nPH) (av : List Value) : FrameBlind (nPc h av) := fun a U g mk q =>
  ⟨q.1, nRep.moved (u := U) (U := U.calling g mk a) (Vm.Alike.refl U.vm) q.2.1, q.2.2.call g mk a⟩
/-- what a field's place says: class c, its field k -/
def nF (o idx c k : Nat) : Prop := ∃ q : vw_C, vwCl[c]? = some q ∧ k < q.2.2 ∧ Cond.fieldLink (cNm o) idx (q.2.1 k).1 (q.2.1 k).2.1 (q.2.1 k).2.2.1 ∈ nWs
def nCo (c : Nat) : Prop := ∀ q : vw_C, vwCl[c]? = some q → (∀ w ∈ u_ws q.1 q.2.1 q.2.2, w ∈ nWs) ∧ (∀ a, a < q.2.2 → ∀ b, b < q.2.2 → a ≠ b → (q.2.1 a).2.1 ≠ (q.2.1 b).2.1) ∧ ∃ ty : Nat → FieldType, ∀ k, k < q.2.2 → parseFieldDescriptor (q.2.1 k).2.2.1 = some (ty k)
/-- a field's type, and whether it is final -/
def nFt (c k : Nat) (ty : FieldType) (fin : Bool) : Prop := ∀ q : vw_C, vwCl[c]? = some q → parseFieldDescriptor (q.2.1 k).2.2.1 = some ty ∧ (q.2.1 k).2.2.2 = fin ∧ (q.2.1 k).1 = cNm c
section NH
variable {y : nM} {κ : nKp} {cu su pc p2 o : Nat} {ls : List (Option Value)} {st : List Value} {h : nPH}
theorem nOne {D : va_G} {H : Heap} {q : Nat × va_E} (hq : va_at D vwCl q H) : va_P D vwCl [q] H := fun k x hx => by
  have hk : k < 1 := (List.getElem?_eq_some_iff.mp hx).1
  rw [show k = 0 by omega] at hx
  cases hx
  exact hq
theorem x_getf (hco : ∀ c, nCo c) {idx c k a : Nat} {fs : List Value} {v : Value} (hd : nD y pc (.getfield idx) 3 p2 o) (hf : nF o idx c k) (hat : nAt h a = some (nOb c fs)) (hv : fs[k]? = some v) (kk : nG y κ cu su p2 ls (v :: st) h) : nG y κ cu su pc ls (.ref a :: st) h := by
  intro p l e s m args below meth cd H locs lsA C R L F
  obtain ⟨hdg, rfl, rfl⟩ := hd
  obtain ⟨q, hq, hk, hl⟩ := hf
  have K := kk p l e s m args below meth cd H locs lsA C R L F
  obtain ⟨hx, hb, hml, hown, hts, hr, hlk, hnm, hK⟩ := C
  exact va_get hx hb hts (hco c q hq).1 hown hK.1 (nOne (q := (a, .inr (c, fs))) (R.2 a _ hat)) 0 rfl hq k hk (hts _ hl) (fun x hx => hx) hv hdg K
theorem nPutAt {D : va_G} {H2 : Heap} {s : State} {c k a : Nat} {fs : List Value} {v : Value} {q : vw_C} {cell : Cell} (hq : vwCl[c]? = some q) (hap : ∀ x y, x < q.2.2 → y < q.2.2 → x ≠ y → (D.2 c) x ≠ (D.2 c) y) (hk : k < q.2.2) (hl : k < fs.length)
    (q2 : cell.cls = D.1 c) (q3 : cell.vm = .none) (q4 : ∀ k, k < q.2.2 → cell.slots[D.2 c k]? = some (vp_V fs k)) (e1 : H2[a]? = some (cell.setSlot (D.2 c k) v)) : nRC D s H2 a (nOb c (fs.set k v)) :=
  ⟨q, hq, t_OB.to (V := updV (vp_V fs) k v) ⟨_, e1, q2, q3, t_set q4 hap hk v⟩ (fun j _ => vp_updV_set hl v j)⟩
theorem x_putf (hco : ∀ c, nCo c) {idx c k a : Nat} {fs : List Value} {v : Value} {ty : FieldType} (hd : nD y pc (.putfield idx) 3 p2 o) (hf : nF o idx c k) (ht : nFt c k ty false) (hat : nAt h a = some (nOb c fs)) (hl : k < fs.length) (hn : narrow ty v = v) (hfit : fits ty v = true) (hB : h.2.1 ≤ a)
    (kk : nG y κ cu su p2 ls st (nSt h a (nOb c (fs.set k v)))) : nG y κ cu su pc ls (v :: .ref a :: st) h := by
  intro p l e s m args below meth cd H locs lsA C R L F
  obtain ⟨hdg, rfl, rfl⟩ := hd
  obtain ⟨q, hq, hk, hl2⟩ := hf
  obtain ⟨ht1, ht2, -⟩ := ht q hq
  have K := fun H2 => kk p l e s m args below meth cd H2 (locs ++ [⟨a, h.1.2 c k⟩]) lsA C
  obtain ⟨hx, hb, hml, hown, hts, hr, hlk, hnm, hK⟩ := C
  obtain ⟨hin, hnmd, ty0, hty⟩ := hco c q hq
  have hap := va_apart (own := q.1) hts hin ty0 hty hnmd hK.1 hq
  obtain ⟨r, h1, cell, q1, q2, q3, q4⟩ := R.2 a _ hat
  have hr0 : r = q := Option.some.inj (h1.symm.trans hq)
  subst hr0
  obtain ⟨hS, hfc, kC, hkC, hkind⟩ := hK.1.1 c _ hq
  obtain ⟨cf, kf, fi, f, hi, hsl⟩ := hS k hk
  have hlay := hts _ (hin _ (u_in_lay hk))
  unfold u_lay at hlay
  rw [if_neg (by rw [ht2]; decide)] at hlay
  have hst := (u_facts hfc hkC (u_lays hts hin hk) hi).1
  have h6 := u_store hfc hkC hkind hlay hi ht1 hn hfit
  refine W.putK hx hb (f := f) ⟨hown, hts _ hl2, ⟨_, _, _, hi⟩, hst⟩ (by rw [q2]; exact h6) q1 q3 (by rw [hsl]; exact k2_hasslot (q4 k hk)) rfl rfl hdg fun H2 e1 e2 e3 => ?_
  rw [hsl] at e1 ⊢
  refine K H2 (nRep_st R e2 e3 (nPutAt hq hap hk hl q2 q3 q4 e1)) L (fun z hz => ?_)
  rcases List.mem_append.mp hz with hz | hz
  · exact F z hz
  · rw [List.mem_singleton.mp hz]
    exact hB
theorem x_putF (hco : ∀ c, nCo c) {idx c k a : Nat} {fs : List Value} {v : Value} {ty : FieldType} (hd : nD y pc (.putfield idx) 3 p2 o) (hf : nF o idx c k) (ht : nFt c k ty true) (hoc : o = c) (hin2 : y.1.name = "<init>") (hat : nAt h a = some (nOb c fs)) (hl : k < fs.length) (hn : narrow ty v = v) (hfit : fits ty v = true) (hB : h.2.1 ≤ a)
    (kk : nG y κ cu su p2 ls st (nSt h a (nOb c (fs.set k v)))) : nG y κ cu su pc ls (v :: .ref a :: st) h := by
  intro p l e s m args below meth cd H locs lsA C R L F
  subst hoc
  obtain ⟨hdg, rfl, rfl⟩ := hd
  obtain ⟨q, hq, hk, hl2⟩ := hf
  obtain ⟨ht1, ht2, ht3⟩ := ht q hq
  have K := fun H2 => kk p l e s m args below meth cd H2 (locs ++ [⟨a, h.1.2 y.2.2.2.2.1 k⟩]) lsA C
  obtain ⟨hx, hb, hml, hown, hts, hr, hlk, hnm, hK⟩ := C
  obtain ⟨hin, hnmd, ty0, hty⟩ := hco _ q hq
  have hap := va_apart (own := q.1) hts hin ty0 hty hnmd hK.1 hq
  obtain ⟨r, h1, cell, q1, q2, q3, q4⟩ := R.2 a _ hat
  have hr0 : r = q := Option.some.inj (h1.symm.trans hq)
  subst hr0
  obtain ⟨hS, hfc, kC, hkC, hkind⟩ := hK.1.1 _ _ hq
  obtain ⟨cf, kf, fi, f, hi, hsl⟩ := hS k hk
  have hlay := hts _ (hin _ (u_in_lay hk))
  unfold u_lay at hlay
  rw [if_pos ht2] at hlay
  have hst := (u_facts hfc hkC (u_lays hts hin hk) hi).1
  have hcf : m.cls = cf := by
    obtain ⟨_, _, c', _, _, _, -, -, hf', -, -, -, hown2, -⟩ := Cond.laysFinal_spec hlay
    have e1 : c' = cf := by have := hi.symm.trans hf'; simp at this; exact this.1.symm
    rw [ht3] at hown2
    rw [← e1]; exact Option.some.inj (hown.symm.trans hown2)
  have h6 := u_fits hfc hkC hkind (Or.inr hlay) hi ht1 hn hfit
  refine W.putFinK hx hb hown (hts _ hl2) hi hst hcf (hnm.trans hin2) (by rw [q2]; exact h6) q1 q3 (by rw [hsl]; exact k2_hasslot (q4 k hk)) rfl rfl hdg fun H2 e1 e2 e3 => ?_
  rw [hsl] at e1 ⊢
  refine K H2 (nRep_st R e2 e3 (nPutAt hq hap hk hl q2 q3 q4 e1)) L (fun z hz => ?_)
  rcases List.mem_append.mp hz with hz | hz
  · exact F z hz
  · rw [List.mem_singleton.mp hz]
    exact hB
theorem x_iaload {a n j : Nat} {f : Nat → Int32} {i : Int32} (hd : nD y pc .iaload 1 p2 o) (hat : nAt h a = some (nAi n f)) (hi : nIx i n j) (kk : nG y κ cu su p2 ls (.int (f j) :: st) h) : nG y κ cu su pc ls (.int i :: .ref a :: st) h := by
  intro p l e s m args below meth cd H locs lsA C R L F
  obtain ⟨hdg, rfl, -⟩ := hd
  obtain ⟨hi, rfl⟩ := hi
  obtain ⟨cA, h1, h2, h3⟩ := R.2 a _ hat
  have hlt : i.toNatClampNeg < n := Nat.not_le.mp fun q => hi (Or.inr q)
  exact W.iald (v := .int (f i.toNatClampNeg)) C.1 C.2.1 h1 (h2 n (fun j => .int (f j))) (fun q => by cases q) (by show ¬ (i < 0 ∨ (arrV _ _ _).slots.size ≤ _); rw [arrV_size]; exact hi) (by show (arrV _ _ _).slots[_]? = _; rw [arrV_read _ _ hlt]) rfl rfl hdg (kk p l e s m args below meth cd H locs lsA C R L F)
theorem x_baload {a n j : Nat} {f : Nat → Int32} {i : Int32} (hd : nD y pc .baload 1 p2 o) (hat : nAt h a = some (nAz n f)) (hi : nIx i n j) (kk : nG y κ cu su p2 ls (.int (f j) :: st) h) : nG y κ cu su pc ls (.int i :: .ref a :: st) h := by
  intro p l e s m args below meth cd H locs lsA C R L F
  obtain ⟨hdg, rfl, -⟩ := hd
  obtain ⟨hi, rfl⟩ := hi
  obtain ⟨cA, h1, h2, h3⟩ := R.2 a _ hat
  have hlt : i.toNatClampNeg < n := Nat.not_le.mp fun q => hi (Or.inr q)
  exact W.zald (v := .int (f i.toNatClampNeg)) C.1 C.2.1 h1 (h2 n (fun j => .int (f j))) (fun q => by cases q) (by show ¬ (i < 0 ∨ (arrV _ _ _).slots.size ≤ _); rw [arrV_size]; exact hi) (by show (arrV _ _ _).slots[_]? = _; rw [arrV_read _ _ hlt]) rfl rfl hdg (kk p l e s m args below meth cd H locs lsA C R L F)
theorem x_laload {a n j : Nat} {f : Nat → Int64} {i : Int32} (hd : nD y pc .laload 1 p2 o) (hat : nAt h a = some (nAl n f)) (hi : nIx i n j) (kk : nG y κ cu su p2 ls (.long (f j) :: st) h) : nG y κ cu su pc ls (.int i :: .ref a :: st) h := by
  intro p l e s m args below meth cd H locs lsA C R L F
  obtain ⟨hdg, rfl, -⟩ := hd
  obtain ⟨hi, rfl⟩ := hi
  obtain ⟨cA, h1, h2, h3⟩ := R.2 a _ hat
  have hlt : i.toNatClampNeg < n := Nat.not_le.mp fun q => hi (Or.inr q)
  exact W.lald (v := .long (f i.toNatClampNeg)) C.1 C.2.1 h1 (h2 n (fun j => .long (f j))) (fun q => by cases q) (by show ¬ (i < 0 ∨ (arrV _ _ _).slots.size ≤ _); rw [arrV_size]; exact hi) (by show (arrV _ _ _).slots[_]? = _; rw [arrV_read _ _ hlt]) rfl rfl hdg (kk p l e s m args below meth cd H locs lsA C R L F)
theorem x_aaloadV {a n j : Nat} {ty : FieldType} {f : Nat → Option Nat} {i : Int32} (hd : nD y pc .aaload 1 p2 o) (hat : nAt h a = some (nAr ty n f)) (hty : ty.isReference = true) (hi : nIx i n j) (kk : nG y κ cu su p2 ls (va_rf (f j) :: st) h) : nG y κ cu su pc ls (.int i :: .ref a :: st) h := by
  intro p l e s m args below meth cd H locs lsA C R L F
  obtain ⟨hdg, rfl, -⟩ := hd
  obtain ⟨hi, rfl⟩ := hi
  obtain ⟨cA, h1, h2, h3⟩ := R.2 a _ hat
  have hlt : i.toNatClampNeg < n := Nat.not_le.mp fun q => hi (Or.inr q)
  exact W.aald (v := va_rf (f i.toNatClampNeg)) (ty := ty) C.1 C.2.1 h1 (h2 n (fun j => va_rf (f j))) hty (fun q => by cases q) (by show ¬ (i < 0 ∨ (arrV _ _ _).slots.size ≤ _); rw [arrV_size]; exact hi) (by show (arrV _ _ _).slots[_]? = _; rw [arrV_read _ _ hlt]) rfl rfl hdg (kk p l e s m args below meth cd H locs lsA C R L F)
theorem x_aaload {a n j b : Nat} {ty : FieldType} {f : Nat → Option Nat} {i : Int32} (hd : nD y pc .aaload 1 p2 o) (hat : nAt h a = some (nAr ty n f)) (hty : ty.isReference = true) (hi : nIx i n j) (hf : f j = some b) (kk : nG y κ cu su p2 ls (.ref b :: st) h) : nG y κ cu su pc ls (.int i :: .ref a :: st) h :=
  x_aaloadV hd hat hty hi (by rw [hf]; exact kk)
theorem nLoc {a i B : Nat} {locs : List Loc} (F : ∀ q ∈ locs, B ≤ q.base) (hB : B ≤ a) : ∀ q ∈ locs ++ [(⟨a, i⟩ : Loc)], B ≤ q.base := fun z hz => by
  rcases List.mem_append.mp hz with hz | hz
  · exact F z hz
  · rw [List.mem_singleton.mp hz]
    exact hB
theorem x_iastore {a n j : Nat} {f : Nat → Int32} {i x : Int32} (hd : nD y pc .iastore 1 p2 o) (hat : nAt h a = some (nAi n f)) (hi : nIx i n j) (hB : h.2.1 ≤ a) (kk : nG y κ cu su p2 ls st (nSt h a (nAi n (nUp f j x)))) : nG y κ cu su pc ls (.int x :: .int i :: .ref a :: st) h := by
  intro p l e s m args below meth cd H locs lsA C R L F
  obtain ⟨hdg, rfl, -⟩ := hd
  obtain ⟨hi, rfl⟩ := hi
  obtain ⟨cA, h1, h2, h3⟩ := R.2 a _ hat
  refine W.iast C.1 C.2.1 h1 (h2 n (fun j => .int (f j))) (fun q => by cases q) (by show ¬ (i < 0 ∨ (arrV _ _ _).slots.size ≤ _); rw [arrV_size]; exact hi) rfl rfl hdg fun H1 e1 z oq => ?_
  refine kk p l e s m args below meth cd H1 _ lsA C (nRep_st R z oq ⟨cA, ?_, h2, h3⟩) L (nLoc F hB)
  rw [e1, vp_cell_i, vp_cell_i, arrV_store]
  congr 2
  funext q
  by_cases hq : q = i.toNatClampNeg <;> simp [updV, nUp, hq]
theorem x_bastore {a n j : Nat} {f : Nat → Int32} {i x z : Int32} (hd : nD y pc .bastore 1 p2 o) (hat : nAt h a = some (nAz n f)) (hi : nIx i n j) (hz : narrow .boolean (.int x) = .int z) (hB : h.2.1 ≤ a) (kk : nG y κ cu su p2 ls st (nSt h a (nAz n (nUp f j z)))) : nG y κ cu su pc ls (.int x :: .int i :: .ref a :: st) h := by
  intro p l e s m args below meth cd H locs lsA C R L F
  obtain ⟨hdg, rfl, -⟩ := hd
  obtain ⟨hi, rfl⟩ := hi
  obtain ⟨cA, h1, h2, h3⟩ := R.2 a _ hat
  refine W.zast C.1 C.2.1 h1 (h2 n (fun j => .int (f j))) (fun q => by cases q) (by show ¬ (i < 0 ∨ (arrV _ _ _).slots.size ≤ _); rw [arrV_size]; exact hi) rfl rfl hdg fun H1 e1 zz oq => ?_
  refine kk p l e s m args below meth cd H1 _ lsA C (nRep_st R zz oq ⟨cA, ?_, h2, h3⟩) L (nLoc F hB)
  rw [e1, hz, vp_cell_i, vp_cell_i, arrV_store]
  congr 2
  funext q
  by_cases hq : q = i.toNatClampNeg <;> simp [updV, nUp, hq]
theorem x_lastore {a n j : Nat} {f : Nat → Int64} {i : Int32} {x : Int64} (hd : nD y pc .lastore 1 p2 o) (hat : nAt h a = some (nAl n f)) (hi : nIx i n j) (hB : h.2.1 ≤ a) (kk : nG y κ cu su p2 ls st (nSt h a (nAl n (nUp f j x)))) : nG y κ cu su pc ls (.long x :: .int i :: .ref a :: st) h := by
  intro p l e s m args below meth cd H locs lsA C R L F
  obtain ⟨hdg, rfl, -⟩ := hd
  obtain ⟨hi, rfl⟩ := hi
  obtain ⟨cA, h1, h2, h3⟩ := R.2 a _ hat
  refine W.last C.1 C.2.1 h1 (h2 n (fun j => .long (f j))) (fun q => by cases q) (by show ¬ (i < 0 ∨ (arrV _ _ _).slots.size ≤ _); rw [arrV_size]; exact hi) rfl rfl hdg fun H1 e1 z oq => ?_
  refine kk p l e s m args below meth cd H1 _ lsA C (nRep_st R z oq ⟨cA, ?_, h2, h3⟩) L (nLoc F hB)
  rw [e1, vp_cell_l, vp_cell_l, arrV_store]
  congr 2
  funext q
  by_cases hq : q = i.toNatClampNeg <;> simp [updV, nUp, hq]
theorem x_aastore {a n j v ci : Nat} {r : vw_C} {vs : List Value} {f : Nat → Option Nat} {i : Int32} (hd : nD y pc .aastore 1 p2 o) (hc : vwCl[ci]? = some r) (hat : nAt h a = some (nAr (.object r.1) n f)) (hv : nAt h v = some (nOb ci vs)) (hi : nIx i n j) (hB : h.2.1 ≤ a) (kk : nG y κ cu su p2 ls st (nSt h a (nAr (.object r.1) n (nUp f j (some v))))) : nG y κ cu su pc ls (.ref v :: .int i :: .ref a :: st) h := by
  intro p l e s m args below meth cd H locs lsA C R L F
  obtain ⟨hdg, rfl, -⟩ := hd
  obtain ⟨hi, rfl⟩ := hi
  obtain ⟨cA, h1, h2, h3⟩ := R.2 a _ hat
  have hlt : i.toNatClampNeg < n := Nat.not_le.mp fun q => hi (Or.inr q)
  have h0 : ¬ i < 0 := fun q => hi (Or.inl q)
  obtain ⟨r', hr', cellV, g1, g2, g3, -⟩ := R.2 v _ hv
  have hcls := (C.2.2.2.2.2.2.2.2.1.1 ci r hc).2
  obtain ⟨kA, comp, k1, k2, k3, -⟩ := id h3
  have hcomp : comp = h.1.1 ci := Option.some.inj (k3.symm.trans hcls.1)
  subst hcomp
  obtain ⟨kC, hkC, -⟩ := hcls.2
  refine W.aast C.1 C.2.1 h1 (fun q h => by cases h) (fun h => by cases h) k1 k2 rfl hkC ⟨h0, by show _ < (arrV _ _ _).slots.size; rw [arrV_size]; exact hlt⟩ g1 (fun q h => by rw [g3] at h; cases h) (by rw [g2]; exact hkC) (by rw [g2]; exact va_assign hcls) rfl rfl hdg fun H1 e1 z oq => ?_
  refine kk p l e s m args below meth cd H1 _ lsA C (nRep_st R z oq ⟨cA, ?_, h2, h3⟩) L (nLoc F hB)
  rw [e1, vp_cell_q, vp_cell_q, arrV_store]
  congr 2
  funext q
  by_cases hq : q = i.toNatClampNeg <;> simp [updV, nUp, hq, va_rf]
theorem x_sld {a n j : Nat} {f : Nat → Int32} {i : Int32} (hd : nD y pc .iaload 1 p2 o) (hat : nAt h a = some (.inr (.inr (n, f)))) (hi : nIx i n j) (kk : nG y κ cu su p2 ls (.int (f j) :: st) h) : nG y κ cu su pc ls (.int i :: .ref a :: st) h := by
  intro p l e s m args below meth cd H locs lsA C R L F
  obtain ⟨hdg, rfl, -⟩ := hd
  obtain ⟨hi, rfl⟩ := hi
  obtain ⟨scr, h1, h2, h3, h4, h5⟩ := R.2 a _ hat
  have hlt : i.toNatClampNeg < n := Nat.not_le.mp fun q => hi (Or.inr q)
  exact W.iald (v := .int (f i.toNatClampNeg)) C.1 C.2.1 h1 h2 h3 (by rw [h4]; exact hi) (h5 _ hlt) rfl rfl hdg (kk p l e s m args below meth cd H locs lsA C R L F)
theorem x_slen {a n : Nat} {f : Nat → Int32} (hd : nD y pc .arraylength 1 p2 o) (hat : nAt h a = some (.inr (.inr (n, f)))) (kk : nG y κ cu su p2 ls (.int (nI n) :: st) h) : nG y κ cu su pc ls (.ref a :: st) h := by
  intro p l e s m args below meth cd H locs lsA C R L F
  obtain ⟨hdg, rfl, -⟩ := hd
  obtain ⟨scr, h1, h2, h3, h4, h5⟩ := R.2 a _ hat
  exact W.alen (n := nI n) C.1 C.2.1 h1 h2 (by rw [h4]; rfl) rfl rfl hdg (kk p l e s m args below meth cd H locs lsA C R L F)
end NH
end
section
/-! THE PLAIN WORLD: what is made, calls, ends, and a method's contract out of its walk. -/
def nN (o idx c N : Nat) : Prop := ∃ q : vw_C, vwCl[c]? = some q ∧ q.2.2 = N ∧ Cond.classLink (cNm o) idx q.1 ∈ nWs ∧ Cond.instantiable q.1 N ∈ nWs ∧ Cond.initialized q.1 ∈ nWs
def nDf (c : Nat) (fs : List Value) : Prop := ∀ q : vw_C, vwCl[c]? = some q → ∃ ty : Nat → FieldType, (∀ k, k < q.2.2 → parseFieldDescriptor (q.2.1 k).2.2.1 = some (ty k)) ∧ ∀ j, j < q.2.2 → defaultValue (ty j) = vp_V fs j
def nMo (z : nM) (n : Nat) : Prop := Cond.code z.1 z.2.1 z.2.2.1 z.2.2.2.1 ∈ nWs ∧ Cond.initialized z.1.cls ∈ nWs ∧ (z.1.cls ≠ "java/lang/invoke/MethodHandle" ∧ z.1.cls ≠ "java/lang/invoke/VarHandle") ∧ (parseMethodDescriptor z.1.desc).map (fun d => d.parameters.length) = some n
def nLk (o idx : Nat) (z : nM) : Prop := Cond.methodLink (cNm o) idx z.1 ∈ nWs
def nLn (o idx : Nat) (z : nM) : Prop := (cNm o, idx, z.1, "NetLoft") ∈ nNL
def nVi (z : nM) : Prop := Cond.instanceMethod z.1 ∈ nWs ∧ Cond.selects z.1.cls z.1 z.1 ∈ nWs
def nSc (z : nM) : Prop := Cond.static z.1 ∈ nWs
def nIi (z : nM) : Prop := Cond.instanceMethod z.1 ∈ nWs ∧ z.1.name = "<init>"
abbrev nCe (z : nM) : Nat := z.2.2.2.2.2.2.1
abbrev nSl (z : nM) : Nat := z.2.2.2.2.2.2.2.1
/-- the room for a call: frames and words -/
def nRo (κ : nKp) (z : nM) : Prop := z.2.2.2.2.2.1 + 1 ≤ κ.1.frames ∧ 8 + (z.2.2.1 + 11) + z.2.2.2.2.2.2.2.2 ≤ κ.1.locals
theorem nWs_good {w : Cond} (h : w ∈ nWs) : (w.onTables && w.keeps) = true ∨ ∃ ty, w = .arrayClass ty := good_of_word (List.mem_filter.mp h).2
theorem nGood {z : nM} {n : Nat} (hm : nMo z n) : GoodIn nWs (nWy z) := fun w hw => by
  rcases List.mem_cons.mp hw with rfl | hw
  · exact ⟨hm.1, nWs_good hm.1⟩
  · exact ⟨hw, nWs_good hw⟩
section NX
variable {y : nM} {κ : nKp} {cu su pc p2 o : Nat} {ls : List (Option Value)} {st : List Value} {h : nPH}
theorem x_new (hco : ∀ c, nCo c) {idx c N : Nat} {fs : List Value} (hd : nD y pc (.new idx) 3 p2 o) (hn : nN o idx c N) (hdf : nDf c fs) (hc : cu + 1 ≤ κ.1.cells) (hs : su + N ≤ κ.1.slots) (kk : nG y κ (cu + 1) (su + N) p2 ls (.ref h.2.2.1 :: st) (nNw h (nOb c fs))) : nG y κ cu su pc ls st h := by
  intro p l e s m args below meth cd H locs lsA C R L F
  obtain ⟨hdg, rfl, rfl⟩ := hd
  obtain ⟨q, hq, rfl, w1, w2, w3⟩ := hn
  obtain ⟨ty, hty, hfs⟩ := hdf q hq
  have K := fun H2 => kk p l e s m args below meth cd H2 locs lsA C
  obtain ⟨hx, hb, hml, hown, hts, hr, hlk, hnm, hK⟩ := C
  have hKn := hK.1.1 c _ hq
  refine W.newcK hx hb hown (hts _ w1) (hts _ w2) (hts _ w3) rfl hdg hc hs hKn.2.1 rfl fun H1 kC hkC e1 z1 o1 => ?_
  have K2 := K H1 (nRep_nw R z1 o1 ⟨q, hq, (u_born ty hts (hco c q hq).1 hKn hkC e1 hty).to hfs⟩) L F
  rw [← R.1] at K2
  exact K2
theorem x_newa {idx N : Nat} {n : Int32} {at_ : ArrayType} {x : vp_A} (hd : nD y pc (.newarray at_) 2 p2 o) (hw : Cond.arrayClass (newarray.typeOf at_) ∈ nWs) (hn : ¬ n < 0) (hN : n.toNatClampNeg = N) (hb : N * componentBytes (newarray.typeOf at_) ≤ 536870912) (hx : ∀ cA : ClassId, vp_cell cA x = arrV cA N (fun _ => defaultValue (newarray.typeOf at_))) (hc : cu + 1 ≤ κ.1.cells) (hs : su + N ≤ κ.1.slots)
    (kk : nG y κ (cu + 1) (su + N) p2 ls (.ref h.2.2.1 :: st) (nNw h (.inl (newarray.typeOf at_, x)))) : nG y κ cu su pc ls (.int n :: st) h := by
  intro p l e s m args below meth cd H locs lsA C R L F
  obtain ⟨hdg, rfl, rfl⟩ := hd
  have K := fun H2 => kk p l e s m args below meth cd H2 locs lsA C
  refine va_newaK C.1 C.2.1 (C.2.2.2.2.1 _ hw) rfl hdg rfl hn hN hb hc hs rfl fun H1 cA e1 z1 o1 hAr hNm => ?_
  have K2 := K H1 (nRep_nw R z1 o1 ⟨cA, e1.trans (congrArg some (hx cA).symm), hAr, by cases at_ <;> exact hNm⟩) L F
  rw [← R.1] at K2
  exact K2
theorem x_newaI {N : Nat} {n : Int32} (hd : nD y pc (.newarray .int) 2 p2 o) (hw : Cond.arrayClass .int ∈ nWs) (hn : ¬ n < 0) (hN : n.toNatClampNeg = N) (hb : N * 4 ≤ 536870912) (hc : cu + 1 ≤ κ.1.cells) (hs : su + N ≤ κ.1.slots) (kk : nG y κ (cu + 1) (su + N) p2 ls (.ref h.2.2.1 :: st) (nNw h (nAi N (fun _ => 0)))) : nG y κ cu su pc ls (.int n :: st) h :=
  x_newa (idx := 0) (x := (N, .inl (fun _ => 0))) hd hw hn hN hb (fun _ => rfl) hc hs kk
theorem x_newaZ {N : Nat} {n : Int32} (hd : nD y pc (.newarray .boolean) 2 p2 o) (hw : Cond.arrayClass .boolean ∈ nWs) (hn : ¬ n < 0) (hN : n.toNatClampNeg = N) (hb : N * 1 ≤ 536870912) (hc : cu + 1 ≤ κ.1.cells) (hs : su + N ≤ κ.1.slots) (kk : nG y κ (cu + 1) (su + N) p2 ls (.ref h.2.2.1 :: st) (nNw h (nAz N (fun _ => 0)))) : nG y κ cu su pc ls (.int n :: st) h :=
  x_newa (idx := 0) (x := (N, .inl (fun _ => 0))) hd hw hn hN hb (fun _ => rfl) hc hs kk
theorem x_newaL {N : Nat} {n : Int32} (hd : nD y pc (.newarray .long) 2 p2 o) (hw : Cond.arrayClass .long ∈ nWs) (hn : ¬ n < 0) (hN : n.toNatClampNeg = N) (hb : N * 8 ≤ 536870912) (hc : cu + 1 ≤ κ.1.cells) (hs : su + N ≤ κ.1.slots) (kk : nG y κ (cu + 1) (su + N) p2 ls (.ref h.2.2.1 :: st) (nNw h (nAl N (fun _ => 0)))) : nG y κ cu su pc ls (.int n :: st) h :=
  x_newa (idx := 0) (x := (N, .inr (.inl (fun _ => 0)))) hd hw hn hN hb (fun _ => rfl) hc hs kk
theorem x_newq {idx N : Nat} {n : Int32} {Cn : String} (hd : nD y pc (.anewarray idx) 3 p2 o) (hw : Cond.classLink (cNm o) idx Cn ∈ nWs) (ho : Cn = "NetLoft$Panel" ∨ Cn = "NetLoft$Row") (hn : ¬ n < 0) (hN : n.toNatClampNeg = N) (hb : N * 4 ≤ 536870912) (hc : cu + 1 ≤ κ.1.cells) (hs : su + N ≤ κ.1.slots) (kk : nG y κ (cu + 1) (su + N) p2 ls (.ref h.2.2.1 :: st) (nNw h (nAr (.object Cn) N (fun _ => none)))) : nG y κ cu su pc ls (.int n :: st) h := by
  intro p l e s m args below meth cd H locs lsA C R L F
  obtain ⟨hdg, rfl, rfl⟩ := hd
  subst hN
  have K := fun H2 => kk p l e s m args below meth cd H2 locs lsA C
  have hov : va_AO Cn s := by
    rcases ho with rfl | rfl
    · exact C.2.2.2.2.2.2.2.2.2.2.1
    · exact C.2.2.2.2.2.2.2.2.2.2.2.1
  refine W.anew C.1 C.2.1 C.2.2.2.1 (C.2.2.2.2.1 _ hw) (va_AO.use hov) rfl hdg rfl hn hb hc hs fun cA kA comp f1 f2 f3 f4 => ?_
  generalize hH1 : H.push ({ cls := cA, slots := Array.replicate n.toNatClampNeg .null, vm := .none } : Cell) = H1
  have z1 : H1.size = H.size + 1 := by rw [← hH1, Array.size_push]
  have e1 : H1[H.size]? = some (arrV cA n.toNatClampNeg (fun _ => .null)) := by rw [← hH1, Array.getElem?_push_size, ← arrV_new]
  have o1 : ∀ q : Nat, q < H.size → H1[q]? = H[q]? := fun q hq => by rw [← hH1, Array.getElem?_push, if_neg (Nat.ne_of_lt hq)]
  have hAr : ArrOfT s cA (.object Cn) := fun N z => ⟨(fun k h => by cases h), kA, f2, comp, f3⟩
  have K2 := K H1 (nRep_nw R z1 o1 ⟨cA, e1, hAr, kA, comp, f2, f3, f4, f1⟩) L F
  rw [← R.1] at K2
  exact K2
theorem nAfter {mc ms : Nat} {st0 rest : List Value} {Post : Option Value → nPH → Prop} {p : Program} {l : Launch} {e : Env} {s : State} {m : MethodId} {args : Array Value} {below : List Frame} {meth : Method} {cd : Code} {H : Heap} {locs : List Loc} {lsA : Array Slot} {aa : Array Value}
    (C : nCx y h.1 p s m args meth cd) (L : nLs lsA y.2.2.1 ls) (F : ∀ q ∈ locs, h.2.1 ≤ q.base)
    (hr : va_Run p l e κ.1 s m args below meth cd H locs cu su mc ms (F0 m pc lsA st0) rest (nQc h.1 h.2.1 Post aa) (fun q => h.2.1 ≤ q))
    (kk : ∀ (v : Option Value) (h2 : nPH), Post v h2 → h2.1 = h.1 → h2.2.1 = h.2.1 → nG y κ (cu + mc) (su + ms) (pc + 3) ls (v.toList ++ rest) h2) : W p l e κ.1 s m args below meth cd H locs cu su (κ.2 below args s) (F0 m pc lsA st0) := by
  intro T hT X
  obtain ⟨v, st₀, t, T', L2, h0, X', hL, e1, e2, ⟨v', h2, hv, hpost, hd1, hb1, hrep⟩, stp⟩ := hr T hT X
  cases hv
  have hal : s.vm.Alike t.vm := by rw [← e2]; exact X'.warmed.alike
  obtain ⟨t2, a1, b1⟩ := kk v h2 hpost hd1 hb1 p l e s m args below meth cd T'.heap (locs ++ L2) lsA (by rw [hd1]; exact C) (by rw [e1]; exact hrep.moved hal.symm) L (fun q hq => by
    rw [hb1]
    rcases List.mem_append.mp hq with hq | hq
    · exact F q hq
    · exact hL q hq) T' rfl X'
  exact ⟨t2, stp t2 a1, b1⟩
theorem nCallB {z : nM} {n idx : Nat} {p : Program} {s : State} {m : MethodId} {args : Array Value} {meth : Method} {cd : Code} (hl : nLk y.2.2.2.2.1 idx z) (hm : nMo z n) (hro : nRo κ z) (C : nCx y h.1 p s m args meth cd) : CallB κ.1 s args (cNm y.2.2.2.2.1) idx z.1 z.2.1 z.2.2.1 z.2.2.2.1 (nWy z) (nRm z) (nCe z) (nSl z) n :=
  callB_of n C.2.2.2.2.1 (nGood hm) rfl rfl rfl (C.2.2.2.2.1 _ hm.2.1) (C.2.2.2.2.1 _ hl) ⟨hm.2.2.1.1, hm.2.2.1.2, hm.2.2.2⟩ hro
theorem nPreS {z : nM} {av : List Value} {Post : Option Value → nPH → Prop} {p : Program} {s : State} {m : MethodId} {args : Array Value} {meth : Method} {cd : Code} {H : Heap} (C : nCx y h.1 p s m args meth cd) (R : nRep h s H) : PreS s H (nPc h av) av :=
  ⟨nPc_blind h av, fun U hU hW => ⟨rfl, by rw [hU]; exact R.moved hW.alike, nK.moved hW C.2.2.2.2.2.2.2.2⟩⟩
theorem x_callV {z : nM} {idx n c b : Nat} {As rest st0 fs : List Value} {Post : Option Value → nPH → Prop} (hd : nD y pc (.invokevirtual idx) 3 p2 o) (hl : nLk o idx z) (hm : nMo z n) (hv : nVi z) (hz : nSp z (.ref b :: As) h Post) (hat : nAt h b = some (nOb c fs)) (hcn : ∃ q : vw_C, vwCl[c]? = some q ∧ q.1 = z.1.cls) (hn : As.length = n) (hro : nRo κ z) (hrc : cu + nCe z ≤ κ.1.cells) (hrs : su + nSl z ≤ κ.1.slots) (hw : (rest.map fun v => v.category).sum ≤ 8) (hst : As.reverse ++ .ref b :: rest = st0)
    (kk : ∀ (v : Option Value) (h2 : nPH), Post v h2 → h2.1 = h.1 → h2.2.1 = h.2.1 → nG y κ (cu + nCe z) (su + nSl z) p2 ls (v.toList ++ rest) h2) : nG y κ cu su pc ls st0 h := by
  intro p l e s m args below meth cd H locs lsA C R L F
  obtain ⟨hdg, rfl, rfl⟩ := hd
  obtain ⟨q, hq, hqc⟩ := hcn
  subst hst
  refine nAfter C L F (va_runV (As := As) (rest := rest) ⟨C.1, C.2.1, C.2.2.1, C.2.2.2.1, C.2.2.2.2.1⟩ (hz l) ⟨nCallB hl hm hro C, C.2.2.2.2.1 _ hv.1, C.2.2.2.2.1 _ hv.2⟩ ⟨nPc_blind h _, ?_, (nPreS (z := z) (Post := Post) C R).2⟩ rfl hn L.1 rfl (lv_room hw) hdg ⟨hrc, hrs⟩) kk
  obtain ⟨r, h1, cell, g1, g2, g3, -⟩ := R.2 b _ hat
  refine ⟨cell, g1, by rw [g3]; rfl, ?_⟩
  rw [g2, ← hqc]
  exact (C.2.2.2.2.2.2.2.2.1.1 c q hq).2.1
theorem x_callS {z : nM} {idx n : Nat} {As rest st0 : List Value} {Post : Option Value → nPH → Prop} (hd : nD y pc (.invokestatic idx) 3 p2 o) (hl : nLk o idx z) (hm : nMo z n) (hv : nSc z) (hz : nSp z As h Post) (hn : As.length = n) (hro : nRo κ z) (hrc : cu + nCe z ≤ κ.1.cells) (hrs : su + nSl z ≤ κ.1.slots) (hw : (rest.map fun v => v.category).sum ≤ 8) (hst : As.reverse ++ rest = st0)
    (kk : ∀ (v : Option Value) (h2 : nPH), Post v h2 → h2.1 = h.1 → h2.2.1 = h.2.1 → nG y κ (cu + nCe z) (su + nSl z) p2 ls (v.toList ++ rest) h2) : nG y κ cu su pc ls st0 h := by
  intro p l e s m args below meth cd H locs lsA C R L F
  obtain ⟨hdg, rfl, rfl⟩ := hd
  subst hst
  exact nAfter C L F (va_runS (As := As) (rest := rest) ⟨C.1, C.2.1, C.2.2.1, C.2.2.2.1, C.2.2.2.2.1⟩ (hz l) ⟨nCallB hl hm hro C, C.2.2.2.2.1 _ hv⟩ (nPreS (z := z) (Post := Post) C R) rfl hn L.1 rfl (lv_room hw) hdg ⟨hrc, hrs⟩) kk
theorem x_callI {z : nM} {idx n b : Nat} {As rest st0 : List Value} {Post : Option Value → nPH → Prop} (hd : nD y pc (.invokespecial idx) 3 p2 o) (hl : nLk o idx z) (hm : nMo z n) (hv : nIi z) (hret : z.2.2.2.1 = none) (hz : nSp z (.ref b :: As) h Post) (hn : As.length = n) (hro : nRo κ z) (hrc : cu + nCe z ≤ κ.1.cells) (hrs : su + nSl z ≤ κ.1.slots) (hw : (rest.map fun v => v.category).sum ≤ 8) (hst : As.reverse ++ .ref b :: rest = st0)
    (kk : ∀ (v : Option Value) (h2 : nPH), Post v h2 → h2.1 = h.1 → h2.2.1 = h.2.1 → nG y κ (cu + nCe z) (su + nSl z) p2 ls (v.toList ++ rest) h2) : nG y κ cu su pc ls st0 h := by
  intro p l e s m args below meth cd H locs lsA C R L F
  obtain ⟨hdg, rfl, rfl⟩ := hd
  subst hst
  have cb := nCallB hl hm hro C
  rw [hret] at cb
  exact nAfter C L F (va_runI (As := As) (rest := rest) ⟨C.1, C.2.1, C.2.2.1, C.2.2.2.1, C.2.2.2.2.1⟩ (hz l) ⟨cb, hv.2, C.2.2.2.2.1 _ hv.1⟩ (nPreS (z := z) (Post := Post) C R) rfl hn L.1 rfl (lv_room hw) hdg ⟨hrc, hrs⟩) kk
theorem x_callSN {z : nM} {idx n : Nat} {As rest st0 : List Value} {Post : Option Value → nPH → Prop} (hd : nD y pc (.invokestatic idx) 3 p2 o) (hl : nLn o idx z) (hm : nMo z n) (hv : nSc z) (hz : nSp z As h Post) (hn : As.length = n) (hro : nRo κ z) (hrc : cu + nCe z ≤ κ.1.cells) (hrs : su + nSl z ≤ κ.1.slots) (hw : (rest.map fun v => v.category).sum ≤ 8) (hst : As.reverse ++ rest = st0)
    (kk : ∀ (v : Option Value) (h2 : nPH), Post v h2 → h2.1 = h.1 → h2.2.1 = h.2.1 → nG y κ (cu + nCe z) (su + nSl z) p2 ls (v.toList ++ rest) h2) : nG y κ cu su pc ls st0 h := by
  intro p l e s m args below meth cd H locs lsA C R L F
  obtain ⟨hdg, rfl, rfl⟩ := hd
  subst hst
  have hN := C.2.2.2.2.2.2.2.2.2.1 _ hl
  exact nAfter C L F (va_runSN (As := As) (rest := rest) ⟨C.1, C.2.1, C.2.2.1, C.2.2.2.1, C.2.2.2.2.1⟩ (hz l) ⟨va_cnB n C.2.2.2.2.1 (nGood hm) rfl rfl rfl hN (C.2.2.2.2.1 _ hm.2.1) ⟨hm.2.2.1.1, hm.2.2.1.2, hm.2.2.2⟩ hro, C.2.2.2.2.1 _ hv, trivial⟩ (nPreS (z := z) (Post := Post) C R) rfl hn L.1 rfl (lv_room hw) hdg ⟨hrc, hrs⟩) kk
theorem x_callIN {z : nM} {idx n b : Nat} {As rest st0 : List Value} {Post : Option Value → nPH → Prop} (hd : nD y pc (.invokespecial idx) 3 p2 o) (hl : nLn o idx z) (hm : nMo z n) (hv : nIi z) (hret : z.2.2.2.1 = none) (hz : nSp z (.ref b :: As) h Post) (hn : As.length = n) (hro : nRo κ z) (hrc : cu + nCe z ≤ κ.1.cells) (hrs : su + nSl z ≤ κ.1.slots) (hw : (rest.map fun v => v.category).sum ≤ 8) (hst : As.reverse ++ .ref b :: rest = st0)
    (kk : ∀ (v : Option Value) (h2 : nPH), Post v h2 → h2.1 = h.1 → h2.2.1 = h.2.1 → nG y κ (cu + nCe z) (su + nSl z) p2 ls (v.toList ++ rest) h2) : nG y κ cu su pc ls st0 h := by
  intro p l e s m args below meth cd H locs lsA C R L F
  obtain ⟨hdg, rfl, rfl⟩ := hd
  subst hst
  have hN := C.2.2.2.2.2.2.2.2.2.1 _ hl
  have cb : va_CN κ.1 s args (cNm y.2.2.2.2.1) idx z.1 "NetLoft" z.2.1 z.2.2.1 z.2.2.2.1 (nWy z) (nRm z) (nCe z) (nSl z) n := va_cnB n C.2.2.2.2.1 (nGood hm) rfl rfl rfl hN (C.2.2.2.2.1 _ hm.2.1) ⟨hm.2.2.1.1, hm.2.2.1.2, hm.2.2.2⟩ hro
  rw [hret] at cb
  exact nAfter C L F (va_runIN (As := As) (rest := rest) ⟨C.1, C.2.1, C.2.2.1, C.2.2.2.1, C.2.2.2.2.1⟩ (hz l) ⟨cb, hv.2, C.2.2.2.2.1 _ hv.1⟩ (nPreS (z := z) (Post := Post) C R) rfl hn L.1 rfl (lv_room hw) hdg ⟨hrc, hrs⟩) kk
theorem x_objI {idx a : Nat} (hob : Cond.instanceMethod Lib.objectInit ∈ nWs ∧ Cond.code Lib.objectInit ⟨#[0xb1]⟩ 1 none ∈ nWs) (hd : nD y pc (.invokespecial idx) 3 p2 o) (hl : Cond.methodLink (cNm o) idx Lib.objectInit ∈ nWs) (hf : 1 ≤ κ.1.frames) (hlo : (st.map fun v => v.category).sum + 12 ≤ κ.1.locals) (kk : nG y κ cu su p2 ls st h) : nG y κ cu su pc ls (.ref a :: st) h := by
  intro p l e s m args below meth cd H locs lsA C R L F
  obtain ⟨hdg, rfl, rfl⟩ := hd
  exact W.objInit C.1 C.2.1 C.2.2.2.1 (C.2.2.2.2.1 _ hl) (C.2.2.2.2.1 _ hob.1) (C.2.2.2.2.1 _ hob.2) rfl (by rw [C.2.2.1]; exact L.1) rfl hdg hf (by show 2 * 0 + _ + 12 ≤ _; omega) (kk p l e s m args below meth cd H locs lsA C R L F)
theorem x_ldc {idx : Nat} {v : Int32} (hd : nD y pc (.ldc idx) 2 p2 o) (hc : Cond.constant (cNm o) idx v ∈ nWs) (kk : nG y κ cu su p2 ls (.int v :: st) h) : nG y κ cu su pc ls st h := by
  intro p l e s m args below meth cd H locs lsA C R L F
  obtain ⟨hdg, rfl, rfl⟩ := hd
  exact lv_ldc C.1 C.2.1 C.2.2.2.1 (C.2.2.2.2.1 _ hc) hdg (kk p l e s m args below meth cd H locs lsA C R L F)
theorem x_ldcw {idx : Nat} {v : Int32} (hd : nD y pc (.ldc_w idx) 3 p2 o) (hc : Cond.constant (cNm o) idx v ∈ nWs) (kk : nG y κ cu su p2 ls (.int v :: st) h) : nG y κ cu su pc ls st h := by
  intro p l e s m args below meth cd H locs lsA C R L F
  obtain ⟨hdg, rfl, rfl⟩ := hd
  exact lv_ldcw C.1 C.2.1 C.2.2.2.1 (C.2.2.2.2.1 _ hc) hdg (kk p l e s m args below meth cd H locs lsA C R L F)
theorem x_ldc2 {idx : Nat} {v : Int64} (hd : nD y pc (.ldc2_w idx) 3 p2 o) (hc : Cond.constantLong (cNm o) idx v ∈ nWs) (kk : nG y κ cu su p2 ls (.long v :: st) h) : nG y κ cu su pc ls st h := by
  intro p l e s m args below meth cd H locs lsA C R L F
  obtain ⟨hdg, rfl, rfl⟩ := hd
  exact lv_ldc2 C.1 C.2.1 C.2.2.2.1 (C.2.2.2.2.1 _ hc) hdg (kk p l e s m args below meth cd H locs lsA C R L F)
theorem x_ireturn {D : va_G} {B : Nat} {Post : Option Value → nPH → Prop} {v : Int32} {ty : FieldType} (hd : nD y pc .ireturn 1 p2 o) (hr : y.2.2.2.1 = some ty) (hn : narrow ty (.int v) = .int v) (hD : h.1 = D) (hB : h.2.1 = B) (hc : cu ≤ nCe y) (hs : su ≤ nSl y) (hp : Post (some (.int v)) h) : nG y (nKy y D B Post) cu su pc ls [.int v] h := by
  intro p l e s m args below meth cd H locs lsA C R L F
  subst hD; subst hB
  refine W.widen hc hs ?_
  have hlk := C.2.2.2.2.2.2.1
  exact W.zret C.1 C.2.1 (C.2.2.2.2.2.1.trans hr) hn (fun t ht hW => ⟨_, h, rfl, hp, rfl, rfl, by rw [ht]; exact R.moved hW.alike⟩) F hd.1 (hlocks := hlk)
theorem x_lreturn {D : va_G} {B : Nat} {Post : Option Value → nPH → Prop} {v : Int64} (hd : nD y pc .lreturn 1 p2 o) (hr : y.2.2.2.1 = some .long) (hD : h.1 = D) (hB : h.2.1 = B) (hc : cu ≤ nCe y) (hs : su ≤ nSl y) (hp : Post (some (.long v)) h) : nG y (nKy y D B Post) cu su pc ls [.long v] h := by
  intro p l e s m args below meth cd H locs lsA C R L F
  subst hD; subst hB
  refine W.widen hc hs ?_
  have hlk := C.2.2.2.2.2.2.1
  exact W.lret C.1 C.2.1 (C.2.2.2.2.2.1.trans hr) (fun t ht hW => ⟨_, h, rfl, hp, rfl, rfl, by rw [ht]; exact R.moved hW.alike⟩) F hd.1 (hlocks := hlk)
theorem x_areturn {D : va_G} {B : Nat} {Post : Option Value → nPH → Prop} {v : Value} {rt : FieldType} (hd : nD y pc .areturn 1 p2 o) (hr : y.2.2.2.1 = some rt) (hrt : (∃ n, rt = .object n) ∨ ∃ t, rt = .array t) (hv : v = .null ∨ ∃ a, v = .ref a) (hD : h.1 = D) (hB : h.2.1 = B) (hc : cu ≤ nCe y) (hs : su ≤ nSl y) (hp : Post (some v) h) : nG y (nKy y D B Post) cu su pc ls [v] h := by
  intro p l e s m args below meth cd H locs lsA C R L F
  subst hD; subst hB
  refine W.widen hc hs ?_
  have hlk := C.2.2.2.2.2.2.1
  exact W.aret C.1 C.2.1 (C.2.2.2.2.2.1.trans hr) hrt hv (fun t ht hW => ⟨_, h, rfl, hp, rfl, rfl, by rw [ht]; exact R.moved hW.alike⟩) F hd.1 (hlocks := hlk)
theorem x_return {D : va_G} {B : Nat} {Post : Option Value → nPH → Prop} (hd : nD y pc .return_ 1 p2 o) (hr : y.2.2.2.1 = none) (hD : h.1 = D) (hB : h.2.1 = B) (hc : cu ≤ nCe y) (hs : su ≤ nSl y) (hp : Post none h) : nG y (nKy y D B Post) cu su pc ls [] h := by
  intro p l e s m args below meth cd H locs lsA C R L F
  subst hD; subst hB
  refine W.widen hc hs ?_
  have hlk := C.2.2.2.2.2.2.1
  exact W.vret C.1 C.2.1 (C.2.2.2.2.2.1.trans hr) (fun t ht hW => ⟨_, h, rfl, hp, rfl, rfl, by rw [ht]; exact R.moved hW.alike⟩) F hd.1 (hlocks := hlk)
end NX
def nEv : List Value → List (Option Value)
  | [] => []
  | v :: vs => if v.category = 2 then some v :: none :: nEv vs else some v :: nEv vs
theorem nEv_at : ∀ (vs : List Value) (n i j : Nat) (v : Value), (nEv vs ++ List.replicate n none)[i]? = some (some v) → (j + i, v) ∈ lv_args j vs
  | [], n, i, j, v, h => by
    simp [nEv, List.getElem?_replicate] at h
  | x :: vs, n, i, j, v, h => by
    unfold nEv at h
    unfold lv_args
    by_cases hc : x.category = 2
    · rw [if_pos hc] at h ⊢
      match i, h with
      | 0, h =>
        simp at h
        subst h
        exact List.mem_cons_self
      | 1, h => simp at h
      | i + 2, h =>
        have := nEv_at vs n i (j + 2) v (by simpa using h)
        rw [show j + (i + 2) = j + 2 + i by omega]
        exact List.mem_cons_of_mem _ this
    · rw [if_neg hc] at h ⊢
      match i, h with
      | 0, h =>
        simp at h
        subst h
        exact List.mem_cons_self
      | i + 1, h =>
        have := nEv_at vs n i (j + 1) v (by simpa using h)
        rw [show j + (i + 1) = j + 1 + i by omega]
        exact List.mem_cons_of_mem _ this
theorem nSp_of {y : nM} {av : List Value} {h : nPH} {Post : Option Value → nPH → Prop} {ls : List (Option Value)} (hpl : plainName y.1.cls = true) (hcn : cNm y.2.2.2.2.1 = y.1.cls) (hlen : (lg_sl av).length ≤ y.2.2.1) (hls : nSub ls (nEv av ++ List.replicate y.2.2.1 none)) (k : nG y (nKy y h.1 h.2.1 Post) 0 0 0 ls [] h) : nSp y av h Post := by
  intro l
  refine Met.ofW (cc := y.2.1) (maxL := y.2.2.1) (ret := y.2.2.2.1) hpl rfl ?_
  intro p e s m args below meth c s₁ B hml hv
  obtain ⟨rfl, hR, hK⟩ := hv
  have hts := atoms_spec (ws := nWy y) B.pre
  have he := lv_entry av (n := y.2.2.1) hlen
  rw [lg_entry_eq]
  refine k p l e s m _ below meth c s.heap [] _ ⟨B.exec, B.bytes, hml, by rw [hcn]; exact findClass_of_methodNamed B.named, fun w hw => hts w (List.mem_cons_of_mem _ hw), B.returns, B.notSynchronized, (name_of_methodNamed B.named B.method).1, hK⟩ hR ⟨he.1, he.2.1, fun i v hi => ?_⟩ (fun q hq => by cases hq)
  have h1 := nEv_at av _ i 0 v (nSub_at hls i v hi)
  rw [Nat.zero_add] at h1
  exact he.2.2 (i, v) h1
theorem nSp.mono {y : nM} {av : List Value} {h : nPH} {P Q : Option Value → nPH → Prop} (hs : nSp y av h P) (hPQ : ∀ v h2, P v h2 → Q v h2) : nSp y av h Q := by
  intro l p e ha hc hk s m args below hf happ hpre hkk
  obtain ⟨k, o, h1, h2, h3, ⟨⟨v, h4, g1, g2, g3⟩, hL⟩⟩ := hs l p e ha hc hk s m args below hf happ hpre hkk
  exact ⟨k, o, h1, h2, h3, ⟨⟨v, h4, g1, hPQ v h4 g2, g3⟩, hL⟩⟩
end
section
/-! LINKS: which words the tables have -/
theorem nW (n : Nat) {w : Cond} (h : tables_1[n]? = some w) (hg : goodWord w = true) : w ∈ nWs := List.mem_filter.mpr ⟨List.mem_append_right _ (List.mem_of_getElem? h), hg⟩
theorem nW1 (n : Nat) {w : Cond} (h : tables_1_1[n]? = some w) (hg : goodWord w = true) : w ∈ nWs := List.mem_filter.mpr ⟨List.mem_append_right _ (List.mem_append_left _ (List.mem_of_getElem? h)), hg⟩
theorem nW2 (n : Nat) {w : Cond} (h : tables_1_2[n]? = some w) (hg : goodWord w = true) : w ∈ nWs := List.mem_filter.mpr ⟨List.mem_append_right _ (List.mem_append_right _ (List.mem_append_left _ (List.mem_of_getElem? h))), hg⟩
theorem nW3 (n : Nat) {w : Cond} (h : tables_1_3[n]? = some w) (hg : goodWord w = true) : w ∈ nWs := List.mem_filter.mpr ⟨List.mem_append_right _ (List.mem_append_right _ (List.mem_append_right _ (List.mem_append_left _ (List.mem_of_getElem? h)))), hg⟩
theorem nW4 (n : Nat) {w : Cond} (h : tables_1_4[n]? = some w) (hg : goodWord w = true) : w ∈ nWs := List.mem_filter.mpr ⟨List.mem_append_right _ (List.mem_append_right _ (List.mem_append_right _ (List.mem_append_right _ (List.mem_append_left _ (List.mem_of_getElem? h))))), hg⟩
theorem nW5 (n : Nat) {w : Cond} (h : tables_1_5[n]? = some w) (hg : goodWord w = true) : w ∈ nWs := List.mem_filter.mpr ⟨List.mem_append_right _ (List.mem_append_right _ (List.mem_append_right _ (List.mem_append_right _ (List.mem_append_right _ (List.mem_of_getElem? h))))), hg⟩
theorem nWp (n : Nat) {w : Cond} (h : (k2_sels lw_privs)[n]? = some w) (hg : goodWord w = true) : w ∈ nWs := List.mem_filter.mpr ⟨List.mem_append_left _ (List.mem_of_getElem? h), hg⟩
theorem fk_0_51 : nF 0 51 0 0 := ⟨_, rfl, by decide, (nW1 31 rfl rfl)⟩
theorem fk_0_55 : nF 0 55 0 1 := ⟨_, rfl, by decide, (nW1 32 rfl rfl)⟩
theorem fk_7_197 : nF 7 197 0 1 := ⟨_, rfl, by decide, (nW1 33 rfl rfl)⟩
theorem fk_0_58 : nF 0 58 0 2 := ⟨_, rfl, by decide, (nW1 34 rfl rfl)⟩
theorem fk_0_61 : nF 0 61 0 3 := ⟨_, rfl, by decide, (nW1 35 rfl rfl)⟩
theorem fk_0_9 : nF 0 9 0 4 := ⟨_, rfl, by decide, (nW1 36 rfl rfl)⟩
theorem fk_0_15 : nF 0 15 0 5 := ⟨_, rfl, by decide, (nW1 37 rfl rfl)⟩
theorem fk_0_20 : nF 0 20 0 6 := ⟨_, rfl, by decide, (nW1 38 rfl rfl)⟩
theorem fk_0_23 : nF 0 23 0 7 := ⟨_, rfl, by decide, (nW1 39 rfl rfl)⟩
theorem fk_0_39 : nF 0 39 0 8 := ⟨_, rfl, by decide, (nW1 40 rfl rfl)⟩
theorem fk_6_18 : nF 6 18 6 0 := ⟨_, rfl, by decide, (nW1 67 rfl rfl)⟩
theorem fk_7_180 : nF 7 180 6 0 := ⟨_, rfl, by decide, (nW1 68 rfl rfl)⟩
theorem fk_6_9 : nF 6 9 6 1 := ⟨_, rfl, by decide, (nW1 69 rfl rfl)⟩
theorem fk_6_15 : nF 6 15 6 2 := ⟨_, rfl, by decide, (nW1 70 rfl rfl)⟩
theorem fk_6_26 : nF 6 26 6 3 := ⟨_, rfl, by decide, (nW1 71 rfl rfl)⟩
theorem fk_5_9 : nF 5 9 5 0 := ⟨_, rfl, by decide, (nW1 87 rfl rfl)⟩
theorem fk_5_15 : nF 5 15 5 1 := ⟨_, rfl, by decide, (nW1 88 rfl rfl)⟩
theorem fk_5_18 : nF 5 18 5 2 := ⟨_, rfl, by decide, (nW1 89 rfl rfl)⟩
theorem fk_4_40 : nF 4 40 4 0 := ⟨_, rfl, by decide, (nW1 103 rfl rfl)⟩
theorem fk_7_235 : nF 7 235 4 0 := ⟨_, rfl, by decide, (nW1 104 rfl rfl)⟩
theorem fk_4_9 : nF 4 9 4 1 := ⟨_, rfl, by decide, (nW1 105 rfl rfl)⟩
theorem fk_7_236 : nF 7 236 4 1 := ⟨_, rfl, by decide, (nW1 106 rfl rfl)⟩
theorem fk_1_20 : nF 1 20 1 0 := ⟨_, rfl, by decide, (nW1 120 rfl rfl)⟩
theorem fk_7_256 : nF 7 256 1 0 := ⟨_, rfl, by decide, (nW1 121 rfl rfl)⟩
theorem fk_1_24 : nF 1 24 1 1 := ⟨_, rfl, by decide, (nW1 122 rfl rfl)⟩
theorem fk_7_260 : nF 7 260 1 1 := ⟨_, rfl, by decide, (nW1 123 rfl rfl)⟩
theorem fk_1_11 : nF 1 11 1 2 := ⟨_, rfl, by decide, (nW1 124 rfl rfl)⟩
theorem fk_7_248 : nF 7 248 1 2 := ⟨_, rfl, by decide, (nW1 125 rfl rfl)⟩
theorem fk_1_16 : nF 1 16 1 3 := ⟨_, rfl, by decide, (nW1 126 rfl rfl)⟩
theorem fk_7_11 : nF 7 11 7 0 := ⟨_, rfl, by decide, (nW1 137 rfl rfl)⟩
theorem fk_7_61 : nF 7 61 7 1 := ⟨_, rfl, by decide, (nW1 138 rfl rfl)⟩
theorem fk_7_15 : nF 7 15 7 2 := ⟨_, rfl, by decide, (nW1 139 rfl rfl)⟩
theorem fk_7_19 : nF 7 19 7 3 := ⟨_, rfl, by decide, (nW1 140 rfl rfl)⟩
theorem fk_7_26 : nF 7 26 7 4 := ⟨_, rfl, by decide, (nW1 141 rfl rfl)⟩
theorem fk_7_30 : nF 7 30 7 5 := ⟨_, rfl, by decide, (nW1 142 rfl rfl)⟩
theorem fk_7_36 : nF 7 36 7 6 := ⟨_, rfl, by decide, (nW1 143 rfl rfl)⟩
theorem fk_7_43 : nF 7 43 7 7 := ⟨_, rfl, by decide, (nW1 144 rfl rfl)⟩
theorem fk_7_50 : nF 7 50 7 8 := ⟨_, rfl, by decide, (nW1 145 rfl rfl)⟩
theorem fk_7_57 : nF 7 57 7 9 := ⟨_, rfl, by decide, (nW1 146 rfl rfl)⟩
theorem fk_2_28 : nF 2 28 2 0 := ⟨_, rfl, by decide, (nW1 183 rfl rfl)⟩
theorem fk_7_165 : nF 7 165 2 0 := ⟨_, rfl, by decide, (nW1 184 rfl rfl)⟩
theorem fk_2_31 : nF 2 31 2 1 := ⟨_, rfl, by decide, (nW1 185 rfl rfl)⟩
theorem fk_1_72 : nF 1 72 2 1 := ⟨_, rfl, by decide, (nW1 186 rfl rfl)⟩
theorem fk_7_168 : nF 7 168 2 1 := ⟨_, rfl, by decide, (nW1 187 rfl rfl)⟩
theorem fk_2_9 : nF 2 9 2 2 := ⟨_, rfl, by decide, (nW1 188 rfl rfl)⟩
theorem fk_7_171 : nF 7 171 2 2 := ⟨_, rfl, by decide, (nW1 189 rfl rfl)⟩
theorem fk_2_15 : nF 2 15 2 3 := ⟨_, rfl, by decide, (nW1 190 rfl rfl)⟩
theorem fk_7_174 : nF 7 174 2 3 := ⟨_, rfl, by decide, (nW1 191 rfl rfl)⟩
theorem fk_2_20 : nF 2 20 2 4 := ⟨_, rfl, by decide, (nW1 192 rfl rfl)⟩
theorem fk_2_34 : nF 2 34 2 5 := ⟨_, rfl, by decide, (nW1 193 rfl rfl)⟩
theorem fk_1_34 : nF 1 34 2 5 := ⟨_, rfl, by decide, (nW1 194 rfl rfl)⟩
theorem fk_7_162 : nF 7 162 2 5 := ⟨_, rfl, by decide, (nW1 195 rfl rfl)⟩
theorem fk_2_24 : nF 2 24 2 6 := ⟨_, rfl, by decide, (nW1 196 rfl rfl)⟩
theorem fk_1_27 : nF 1 27 2 6 := ⟨_, rfl, by decide, (nW1 197 rfl rfl)⟩
theorem fk_7_242 : nF 7 242 2 6 := ⟨_, rfl, by decide, (nW1 198 rfl rfl)⟩
theorem fk_3_30 : nF 3 30 3 0 := ⟨_, rfl, by decide, (nW1 220 rfl rfl)⟩
theorem fk_4_15 : nF 4 15 3 0 := ⟨_, rfl, by decide, (nW1 221 rfl rfl)⟩
theorem fk_1_57 : nF 1 57 3 0 := ⟨_, rfl, by decide, (nW1 222 rfl rfl)⟩
theorem fk_0_78 : nF 0 78 3 0 := ⟨_, rfl, by decide, (nW1 223 rfl rfl)⟩
theorem fk_7_127 : nF 7 127 3 0 := ⟨_, rfl, by decide, (nW1 224 rfl rfl)⟩
theorem fk_2_70 : nF 2 70 3 0 := ⟨_, rfl, by decide, (nW1 225 rfl rfl)⟩
theorem fk_3_9 : nF 3 9 3 1 := ⟨_, rfl, by decide, (nW1 226 rfl rfl)⟩
theorem fk_4_34 : nF 4 34 3 1 := ⟨_, rfl, by decide, (nW1 227 rfl rfl)⟩
theorem fk_7_134 : nF 7 134 3 1 := ⟨_, rfl, by decide, (nW1 228 rfl rfl)⟩
theorem fk_3_15 : nF 3 15 3 2 := ⟨_, rfl, by decide, (nW1 229 rfl rfl)⟩
theorem fk_4_37 : nF 4 37 3 2 := ⟨_, rfl, by decide, (nW1 230 rfl rfl)⟩
theorem fk_7_137 : nF 7 137 3 2 := ⟨_, rfl, by decide, (nW1 231 rfl rfl)⟩
theorem fk_3_18 : nF 3 18 3 3 := ⟨_, rfl, by decide, (nW1 232 rfl rfl)⟩
theorem fk_7_156 : nF 7 156 3 3 := ⟨_, rfl, by decide, (nW1 233 rfl rfl)⟩
theorem fk_0_89 : nF 0 89 3 3 := ⟨_, rfl, by decide, (nW1 234 rfl rfl)⟩
theorem fk_3_21 : nF 3 21 3 4 := ⟨_, rfl, by decide, (nW1 235 rfl rfl)⟩
theorem fk_1_65 : nF 1 65 3 4 := ⟨_, rfl, by decide, (nW1 236 rfl rfl)⟩
theorem fk_3_24 : nF 3 24 3 5 := ⟨_, rfl, by decide, (nW1 237 rfl rfl)⟩
theorem fk_1_62 : nF 1 62 3 5 := ⟨_, rfl, by decide, (nW1 238 rfl rfl)⟩
theorem fk_7_140 : nF 7 140 3 5 := ⟨_, rfl, by decide, (nW1 239 rfl rfl)⟩
theorem fk_2_103 : nF 2 103 3 5 := ⟨_, rfl, by decide, (nW2 0 rfl rfl)⟩
theorem fk_3_27 : nF 3 27 3 6 := ⟨_, rfl, by decide, (nW2 1 rfl rfl)⟩
theorem fk_7_143 : nF 7 143 3 6 := ⟨_, rfl, by decide, (nW2 2 rfl rfl)⟩
theorem fk_2_90 : nF 2 90 3 6 := ⟨_, rfl, by decide, (nW2 3 rfl rfl)⟩
theorem fk_8_88 : nF 8 88 8 1 := ⟨_, rfl, by decide, (nW3 206 rfl rfl)⟩
theorem fk_8_13 : nF 8 13 8 2 := ⟨_, rfl, by decide, (nW3 207 rfl rfl)⟩
theorem fk_8_17 : nF 8 17 8 3 := ⟨_, rfl, by decide, (nW3 208 rfl rfl)⟩
theorem fk_8_20 : nF 8 20 8 4 := ⟨_, rfl, by decide, (nW3 209 rfl rfl)⟩
theorem fk_8_23 : nF 8 23 8 5 := ⟨_, rfl, by decide, (nW3 210 rfl rfl)⟩
theorem fk_8_26 : nF 8 26 8 6 := ⟨_, rfl, by decide, (nW3 211 rfl rfl)⟩
theorem fk_8_29 : nF 8 29 8 7 := ⟨_, rfl, by decide, (nW3 212 rfl rfl)⟩
theorem fk_8_32 : nF 8 32 8 8 := ⟨_, rfl, by decide, (nW3 213 rfl rfl)⟩
theorem fk_8_35 : nF 8 35 8 9 := ⟨_, rfl, by decide, (nW3 214 rfl rfl)⟩
theorem fk_8_39 : nF 8 39 8 10 := ⟨_, rfl, by decide, (nW3 215 rfl rfl)⟩
theorem fk_8_42 : nF 8 42 8 11 := ⟨_, rfl, by decide, (nW3 216 rfl rfl)⟩
theorem fk_8_45 : nF 8 45 8 12 := ⟨_, rfl, by decide, (nW3 217 rfl rfl)⟩
theorem fk_8_48 : nF 8 48 8 13 := ⟨_, rfl, by decide, (nW3 218 rfl rfl)⟩
theorem fk_8_51 : nF 8 51 8 14 := ⟨_, rfl, by decide, (nW3 219 rfl rfl)⟩
theorem fk_8_54 : nF 8 54 8 15 := ⟨_, rfl, by decide, (nW3 220 rfl rfl)⟩
theorem fk_8_85 : nF 8 85 8 16 := ⟨_, rfl, by decide, (nW3 221 rfl rfl)⟩
theorem fk_8_57 : nF 8 57 8 17 := ⟨_, rfl, by decide, (nW3 222 rfl rfl)⟩
theorem fk_8_60 : nF 8 60 8 18 := ⟨_, rfl, by decide, (nW3 223 rfl rfl)⟩
theorem fk_8_63 : nF 8 63 8 19 := ⟨_, rfl, by decide, (nW3 224 rfl rfl)⟩
theorem fk_8_152 : nF 8 152 8 20 := ⟨_, rfl, by decide, (nW3 225 rfl rfl)⟩
theorem fk_8_155 : nF 8 155 8 21 := ⟨_, rfl, by decide, (nW3 226 rfl rfl)⟩
theorem fk_8_162 : nF 8 162 8 22 := ⟨_, rfl, by decide, (nW3 227 rfl rfl)⟩
theorem fk_8_166 : nF 8 166 8 23 := ⟨_, rfl, by decide, (nW3 228 rfl rfl)⟩
theorem fk_8_169 : nF 8 169 8 24 := ⟨_, rfl, by decide, (nW3 229 rfl rfl)⟩
theorem fk_8_175 : nF 8 175 8 25 := ⟨_, rfl, by decide, (nW3 230 rfl rfl)⟩
theorem fk_8_66 : nF 8 66 8 26 := ⟨_, rfl, by decide, (nW3 231 rfl rfl)⟩
theorem fk_8_69 : nF 8 69 8 27 := ⟨_, rfl, by decide, (nW3 232 rfl rfl)⟩
theorem fk_8_181 : nF 8 181 8 28 := ⟨_, rfl, by decide, (nW3 233 rfl rfl)⟩
theorem fk_8_72 : nF 8 72 8 29 := ⟨_, rfl, by decide, (nW3 234 rfl rfl)⟩
theorem fk_8_75 : nF 8 75 8 30 := ⟨_, rfl, by decide, (nW3 235 rfl rfl)⟩
theorem fk_8_197 : nF 8 197 8 31 := ⟨_, rfl, by decide, (nW3 236 rfl rfl)⟩
theorem fk_8_200 : nF 8 200 8 32 := ⟨_, rfl, by decide, (nW3 237 rfl rfl)⟩
theorem fk_8_203 : nF 8 203 8 33 := ⟨_, rfl, by decide, (nW3 238 rfl rfl)⟩
theorem fk_8_206 : nF 8 206 8 34 := ⟨_, rfl, by decide, (nW3 239 rfl rfl)⟩
theorem fk_8_78 : nF 8 78 8 35 := ⟨_, rfl, by decide, (nW4 0 rfl rfl)⟩
theorem fk_8_81 : nF 8 81 8 36 := ⟨_, rfl, by decide, (nW4 1 rfl rfl)⟩
theorem fk_8_218 : nF 8 218 8 37 := ⟨_, rfl, by decide, (nW4 2 rfl rfl)⟩
theorem fk_8_222 : nF 8 222 8 38 := ⟨_, rfl, by decide, (nW4 3 rfl rfl)⟩
theorem la_0_0 : u_lay RX0 TX0 0 ∈ nWs := (nW1 41 rfl rfl)
theorem ft_0_0 : nFt 0 0 .boolean false := fun q hq => by cases hq; exact ⟨by decide +kernel, rfl, rfl⟩
theorem la_0_1 : u_lay RX0 TX0 1 ∈ nWs := (nW1 43 rfl rfl)
theorem ft_0_1 : nFt 0 1 .int false := fun q hq => by cases hq; exact ⟨by decide +kernel, rfl, rfl⟩
theorem la_0_2 : u_lay RX0 TX0 2 ∈ nWs := (nW1 45 rfl rfl)
theorem ft_0_2 : nFt 0 2 .int false := fun q hq => by cases hq; exact ⟨by decide +kernel, rfl, rfl⟩
theorem la_0_3 : u_lay RX0 TX0 3 ∈ nWs := (nW1 47 rfl rfl)
theorem ft_0_3 : nFt 0 3 .int false := fun q hq => by cases hq; exact ⟨by decide +kernel, rfl, rfl⟩
theorem la_0_4 : u_lay RX0 TX0 4 ∈ nWs := (nW1 49 rfl rfl)
theorem ft_0_4 : nFt 0 4 (.array .int) true := fun q hq => by cases hq; exact ⟨by decide +kernel, rfl, rfl⟩
theorem la_0_5 : u_lay RX0 TX0 5 ∈ nWs := (nW1 51 rfl rfl)
theorem ft_0_5 : nFt 0 5 (.array .int) true := fun q hq => by cases hq; exact ⟨by decide +kernel, rfl, rfl⟩
theorem la_0_6 : u_lay RX0 TX0 6 ∈ nWs := (nW1 53 rfl rfl)
theorem ft_0_6 : nFt 0 6 (.array (.array .int)) true := fun q hq => by cases hq; exact ⟨by decide +kernel, rfl, rfl⟩
theorem la_0_7 : u_lay RX0 TX0 7 ∈ nWs := (nW1 55 rfl rfl)
theorem ft_0_7 : nFt 0 7 (.array .int) true := fun q hq => by cases hq; exact ⟨by decide +kernel, rfl, rfl⟩
theorem la_0_8 : u_lay RX0 TX0 8 ∈ nWs := (nW1 57 rfl rfl)
theorem ft_0_8 : nFt 0 8 .int false := fun q hq => by cases hq; exact ⟨by decide +kernel, rfl, rfl⟩
theorem cz_0 : nCo 0 := fun q hq => by
  cases hq
  refine ⟨fun w hw => ?_, nmX0, tyX0, tyX0_ok⟩
  obtain ⟨k, hk, rfl⟩ := List.mem_map.mp hw
  have hk := List.mem_range.mp hk
  match k, hk with
  | 0, _ => exact la_0_0
  | 1, _ => exact la_0_1
  | 2, _ => exact la_0_2
  | 3, _ => exact la_0_3
  | 4, _ => exact la_0_4
  | 5, _ => exact la_0_5
  | 6, _ => exact la_0_6
  | 7, _ => exact la_0_7
  | 8, _ => exact la_0_8
  | k + 9, hk => exact absurd (show k + 9 < 9 from hk) (by omega)
theorem la_1_0 : u_lay RX1 TX1 0 ∈ nWs := (nW1 127 rfl rfl)
theorem ft_1_0 : nFt 1 0 .long false := fun q hq => by cases hq; exact ⟨by decide +kernel, rfl, rfl⟩
theorem la_1_1 : u_lay RX1 TX1 1 ∈ nWs := (nW1 129 rfl rfl)
theorem ft_1_1 : nFt 1 1 .long false := fun q hq => by cases hq; exact ⟨by decide +kernel, rfl, rfl⟩
theorem la_1_2 : u_lay RX1 TX1 2 ∈ nWs := (nW1 131 rfl rfl)
theorem ft_1_2 : nFt 1 2 (.array (.array .long)) true := fun q hq => by cases hq; exact ⟨by decide +kernel, rfl, rfl⟩
theorem la_1_3 : u_lay RX1 TX1 3 ∈ nWs := (nW1 133 rfl rfl)
theorem ft_1_3 : nFt 1 3 (.array .int) true := fun q hq => by cases hq; exact ⟨by decide +kernel, rfl, rfl⟩
theorem cz_1 : nCo 1 := fun q hq => by
  cases hq
  refine ⟨fun w hw => ?_, nmX1, tyX1, tyX1_ok⟩
  obtain ⟨k, hk, rfl⟩ := List.mem_map.mp hw
  have hk := List.mem_range.mp hk
  match k, hk with
  | 0, _ => exact la_1_0
  | 1, _ => exact la_1_1
  | 2, _ => exact la_1_2
  | 3, _ => exact la_1_3
  | k + 4, hk => exact absurd (show k + 4 < 4 from hk) (by omega)
theorem la_2_0 : u_lay RX2 TX2 0 ∈ nWs := (nW1 199 rfl rfl)
theorem ft_2_0 : nFt 2 0 .int true := fun q hq => by cases hq; exact ⟨by decide +kernel, rfl, rfl⟩
theorem la_2_1 : u_lay RX2 TX2 1 ∈ nWs := (nW1 201 rfl rfl)
theorem ft_2_1 : nFt 2 1 .int true := fun q hq => by cases hq; exact ⟨by decide +kernel, rfl, rfl⟩
theorem la_2_2 : u_lay RX2 TX2 2 ∈ nWs := (nW1 203 rfl rfl)
theorem ft_2_2 : nFt 2 2 .int false := fun q hq => by cases hq; exact ⟨by decide +kernel, rfl, rfl⟩
theorem la_2_3 : u_lay RX2 TX2 3 ∈ nWs := (nW1 205 rfl rfl)
theorem ft_2_3 : nFt 2 3 .int false := fun q hq => by cases hq; exact ⟨by decide +kernel, rfl, rfl⟩
theorem la_2_4 : u_lay RX2 TX2 4 ∈ nWs := (nW1 207 rfl rfl)
theorem ft_2_4 : nFt 2 4 (.array (.object "NetLoft$Row")) true := fun q hq => by cases hq; exact ⟨by decide +kernel, rfl, rfl⟩
theorem la_2_5 : u_lay RX2 TX2 5 ∈ nWs := (nW1 209 rfl rfl)
theorem ft_2_5 : nFt 2 5 .int false := fun q hq => by cases hq; exact ⟨by decide +kernel, rfl, rfl⟩
theorem la_2_6 : u_lay RX2 TX2 6 ∈ nWs := (nW1 211 rfl rfl)
theorem ft_2_6 : nFt 2 6 (.array .int) true := fun q hq => by cases hq; exact ⟨by decide +kernel, rfl, rfl⟩
theorem cz_2 : nCo 2 := fun q hq => by
  cases hq
  refine ⟨fun w hw => ?_, nmX2, tyX2, tyX2_ok⟩
  obtain ⟨k, hk, rfl⟩ := List.mem_map.mp hw
  have hk := List.mem_range.mp hk
  match k, hk with
  | 0, _ => exact la_2_0
  | 1, _ => exact la_2_1
  | 2, _ => exact la_2_2
  | 3, _ => exact la_2_3
  | 4, _ => exact la_2_4
  | 5, _ => exact la_2_5
  | 6, _ => exact la_2_6
  | k + 7, hk => exact absurd (show k + 7 < 7 from hk) (by omega)
theorem la_3_0 : u_lay RX3 TX3 0 ∈ nWs := (nW2 4 rfl rfl)
theorem ft_3_0 : nFt 3 0 .int false := fun q hq => by cases hq; exact ⟨by decide +kernel, rfl, rfl⟩
theorem la_3_1 : u_lay RX3 TX3 1 ∈ nWs := (nW2 6 rfl rfl)
theorem ft_3_1 : nFt 3 1 (.array .int) true := fun q hq => by cases hq; exact ⟨by decide +kernel, rfl, rfl⟩
theorem la_3_2 : u_lay RX3 TX3 2 ∈ nWs := (nW2 8 rfl rfl)
theorem ft_3_2 : nFt 3 2 (.array .int) true := fun q hq => by cases hq; exact ⟨by decide +kernel, rfl, rfl⟩
theorem la_3_3 : u_lay RX3 TX3 3 ∈ nWs := (nW2 10 rfl rfl)
theorem ft_3_3 : nFt 3 3 (.array .int) true := fun q hq => by cases hq; exact ⟨by decide +kernel, rfl, rfl⟩
theorem la_3_4 : u_lay RX3 TX3 4 ∈ nWs := (nW2 12 rfl rfl)
theorem ft_3_4 : nFt 3 4 (.array .int) true := fun q hq => by cases hq; exact ⟨by decide +kernel, rfl, rfl⟩
theorem la_3_5 : u_lay RX3 TX3 5 ∈ nWs := (nW2 14 rfl rfl)
theorem ft_3_5 : nFt 3 5 (.array .int) true := fun q hq => by cases hq; exact ⟨by decide +kernel, rfl, rfl⟩
theorem la_3_6 : u_lay RX3 TX3 6 ∈ nWs := (nW2 16 rfl rfl)
theorem ft_3_6 : nFt 3 6 (.array .int) true := fun q hq => by cases hq; exact ⟨by decide +kernel, rfl, rfl⟩
theorem cz_3 : nCo 3 := fun q hq => by
  cases hq
  refine ⟨fun w hw => ?_, nmX3, tyX3, tyX3_ok⟩
  obtain ⟨k, hk, rfl⟩ := List.mem_map.mp hw
  have hk := List.mem_range.mp hk
  match k, hk with
  | 0, _ => exact la_3_0
  | 1, _ => exact la_3_1
  | 2, _ => exact la_3_2
  | 3, _ => exact la_3_3
  | 4, _ => exact la_3_4
  | 5, _ => exact la_3_5
  | 6, _ => exact la_3_6
  | k + 7, hk => exact absurd (show k + 7 < 7 from hk) (by omega)
theorem la_4_0 : u_lay RX4 TX4 0 ∈ nWs := (nW1 107 rfl rfl)
theorem ft_4_0 : nFt 4 0 .int false := fun q hq => by cases hq; exact ⟨by decide +kernel, rfl, rfl⟩
theorem la_4_1 : u_lay RX4 TX4 1 ∈ nWs := (nW1 109 rfl rfl)
theorem ft_4_1 : nFt 4 1 (.array .int) true := fun q hq => by cases hq; exact ⟨by decide +kernel, rfl, rfl⟩
theorem cz_4 : nCo 4 := fun q hq => by
  cases hq
  refine ⟨fun w hw => ?_, nmX4, tyX4, tyX4_ok⟩
  obtain ⟨k, hk, rfl⟩ := List.mem_map.mp hw
  have hk := List.mem_range.mp hk
  match k, hk with
  | 0, _ => exact la_4_0
  | 1, _ => exact la_4_1
  | k + 2, hk => exact absurd (show k + 2 < 2 from hk) (by omega)
theorem la_5_0 : u_lay RX5 TX5 0 ∈ nWs := (nW1 90 rfl rfl)
theorem ft_5_0 : nFt 5 0 .int false := fun q hq => by cases hq; exact ⟨by decide +kernel, rfl, rfl⟩
theorem la_5_1 : u_lay RX5 TX5 1 ∈ nWs := (nW1 92 rfl rfl)
theorem ft_5_1 : nFt 5 1 .int false := fun q hq => by cases hq; exact ⟨by decide +kernel, rfl, rfl⟩
theorem la_5_2 : u_lay RX5 TX5 2 ∈ nWs := (nW1 94 rfl rfl)
theorem ft_5_2 : nFt 5 2 .int false := fun q hq => by cases hq; exact ⟨by decide +kernel, rfl, rfl⟩
theorem cz_5 : nCo 5 := fun q hq => by
  cases hq
  refine ⟨fun w hw => ?_, nmX5, tyX5, tyX5_ok⟩
  obtain ⟨k, hk, rfl⟩ := List.mem_map.mp hw
  have hk := List.mem_range.mp hk
  match k, hk with
  | 0, _ => exact la_5_0
  | 1, _ => exact la_5_1
  | 2, _ => exact la_5_2
  | k + 3, hk => exact absurd (show k + 3 < 3 from hk) (by omega)
theorem la_6_0 : u_lay RX6 TX6 0 ∈ nWs := (nW1 72 rfl rfl)
theorem ft_6_0 : nFt 6 0 .int false := fun q hq => by cases hq; exact ⟨by decide +kernel, rfl, rfl⟩
theorem la_6_1 : u_lay RX6 TX6 1 ∈ nWs := (nW1 74 rfl rfl)
theorem ft_6_1 : nFt 6 1 (.array .int) true := fun q hq => by cases hq; exact ⟨by decide +kernel, rfl, rfl⟩
theorem la_6_2 : u_lay RX6 TX6 2 ∈ nWs := (nW1 76 rfl rfl)
theorem ft_6_2 : nFt 6 2 (.array .int) true := fun q hq => by cases hq; exact ⟨by decide +kernel, rfl, rfl⟩
theorem la_6_3 : u_lay RX6 TX6 3 ∈ nWs := (nW1 78 rfl rfl)
theorem ft_6_3 : nFt 6 3 .int false := fun q hq => by cases hq; exact ⟨by decide +kernel, rfl, rfl⟩
theorem cz_6 : nCo 6 := fun q hq => by
  cases hq
  refine ⟨fun w hw => ?_, nmX6, tyX6, tyX6_ok⟩
  obtain ⟨k, hk, rfl⟩ := List.mem_map.mp hw
  have hk := List.mem_range.mp hk
  match k, hk with
  | 0, _ => exact la_6_0
  | 1, _ => exact la_6_1
  | 2, _ => exact la_6_2
  | 3, _ => exact la_6_3
  | k + 4, hk => exact absurd (show k + 4 < 4 from hk) (by omega)
theorem la_7_0 : u_lay RX7 TX7 0 ∈ nWs := (nW1 147 rfl rfl)
theorem ft_7_0 : nFt 7 0 (.array (.object "NetLoft$Panel")) true := fun q hq => by cases hq; exact ⟨by decide +kernel, rfl, rfl⟩
theorem la_7_1 : u_lay RX7 TX7 1 ∈ nWs := (nW1 149 rfl rfl)
theorem ft_7_1 : nFt 7 1 .int false := fun q hq => by cases hq; exact ⟨by decide +kernel, rfl, rfl⟩
theorem la_7_2 : u_lay RX7 TX7 2 ∈ nWs := (nW1 151 rfl rfl)
theorem ft_7_2 : nFt 7 2 (.array .int) true := fun q hq => by cases hq; exact ⟨by decide +kernel, rfl, rfl⟩
theorem la_7_3 : u_lay RX7 TX7 3 ∈ nWs := (nW1 153 rfl rfl)
theorem ft_7_3 : nFt 7 3 .int false := fun q hq => by cases hq; exact ⟨by decide +kernel, rfl, rfl⟩
theorem la_7_4 : u_lay RX7 TX7 4 ∈ nWs := (nW1 155 rfl rfl)
theorem ft_7_4 : nFt 7 4 (.object "NetLoft$Hole") true := fun q hq => by cases hq; exact ⟨by decide +kernel, rfl, rfl⟩
theorem la_7_5 : u_lay RX7 TX7 5 ∈ nWs := (nW1 157 rfl rfl)
theorem ft_7_5 : nFt 7 5 (.object "NetLoft$Hole") true := fun q hq => by cases hq; exact ⟨by decide +kernel, rfl, rfl⟩
theorem la_7_6 : u_lay RX7 TX7 6 ∈ nWs := (nW1 159 rfl rfl)
theorem ft_7_6 : nFt 7 6 (.object "NetLoft$Way") true := fun q hq => by cases hq; exact ⟨by decide +kernel, rfl, rfl⟩
theorem la_7_7 : u_lay RX7 TX7 7 ∈ nWs := (nW1 161 rfl rfl)
theorem ft_7_7 : nFt 7 7 (.object "NetLoft$Taper") true := fun q hq => by cases hq; exact ⟨by decide +kernel, rfl, rfl⟩
theorem la_7_8 : u_lay RX7 TX7 8 ∈ nWs := (nW1 163 rfl rfl)
theorem ft_7_8 : nFt 7 8 (.object "NetLoft$Seam") true := fun q hq => by cases hq; exact ⟨by decide +kernel, rfl, rfl⟩
theorem la_7_9 : u_lay RX7 TX7 9 ∈ nWs := (nW1 165 rfl rfl)
theorem ft_7_9 : nFt 7 9 (.object "NetLoft$Loads") true := fun q hq => by cases hq; exact ⟨by decide +kernel, rfl, rfl⟩
theorem cz_7 : nCo 7 := fun q hq => by
  cases hq
  refine ⟨fun w hw => ?_, nmX7, tyX7, tyX7_ok⟩
  obtain ⟨k, hk, rfl⟩ := List.mem_map.mp hw
  have hk := List.mem_range.mp hk
  match k, hk with
  | 0, _ => exact la_7_0
  | 1, _ => exact la_7_1
  | 2, _ => exact la_7_2
  | 3, _ => exact la_7_3
  | 4, _ => exact la_7_4
  | 5, _ => exact la_7_5
  | 6, _ => exact la_7_6
  | 7, _ => exact la_7_7
  | 8, _ => exact la_7_8
  | 9, _ => exact la_7_9
  | k + 10, hk => exact absurd (show k + 10 < 10 from hk) (by omega)
theorem la_8_0 : u_lay RX8 TX8 0 ∈ nWs := (nW4 4 rfl rfl)
theorem ft_8_0 : nFt 8 0 .int false := fun q hq => by cases hq; exact ⟨by decide +kernel, rfl, rfl⟩
theorem la_8_1 : u_lay RX8 TX8 1 ∈ nWs := (nW4 6 rfl rfl)
theorem ft_8_1 : nFt 8 1 .int false := fun q hq => by cases hq; exact ⟨by decide +kernel, rfl, rfl⟩
theorem la_8_2 : u_lay RX8 TX8 2 ∈ nWs := (nW4 8 rfl rfl)
theorem ft_8_2 : nFt 8 2 (.array .int) true := fun q hq => by cases hq; exact ⟨by decide +kernel, rfl, rfl⟩
theorem la_8_3 : u_lay RX8 TX8 3 ∈ nWs := (nW4 10 rfl rfl)
theorem ft_8_3 : nFt 8 3 (.array .int) true := fun q hq => by cases hq; exact ⟨by decide +kernel, rfl, rfl⟩
theorem la_8_4 : u_lay RX8 TX8 4 ∈ nWs := (nW4 12 rfl rfl)
theorem ft_8_4 : nFt 8 4 (.array .int) true := fun q hq => by cases hq; exact ⟨by decide +kernel, rfl, rfl⟩
theorem la_8_5 : u_lay RX8 TX8 5 ∈ nWs := (nW4 14 rfl rfl)
theorem ft_8_5 : nFt 8 5 (.array .int) true := fun q hq => by cases hq; exact ⟨by decide +kernel, rfl, rfl⟩
theorem la_8_6 : u_lay RX8 TX8 6 ∈ nWs := (nW4 16 rfl rfl)
theorem ft_8_6 : nFt 8 6 (.array .int) true := fun q hq => by cases hq; exact ⟨by decide +kernel, rfl, rfl⟩
theorem la_8_7 : u_lay RX8 TX8 7 ∈ nWs := (nW4 18 rfl rfl)
theorem ft_8_7 : nFt 8 7 (.array .int) true := fun q hq => by cases hq; exact ⟨by decide +kernel, rfl, rfl⟩
theorem la_8_8 : u_lay RX8 TX8 8 ∈ nWs := (nW4 20 rfl rfl)
theorem ft_8_8 : nFt 8 8 (.array .int) true := fun q hq => by cases hq; exact ⟨by decide +kernel, rfl, rfl⟩
theorem la_8_9 : u_lay RX8 TX8 9 ∈ nWs := (nW4 22 rfl rfl)
theorem ft_8_9 : nFt 8 9 (.array .boolean) true := fun q hq => by cases hq; exact ⟨by decide +kernel, rfl, rfl⟩
theorem la_8_10 : u_lay RX8 TX8 10 ∈ nWs := (nW4 24 rfl rfl)
theorem ft_8_10 : nFt 8 10 (.array .int) true := fun q hq => by cases hq; exact ⟨by decide +kernel, rfl, rfl⟩
theorem la_8_11 : u_lay RX8 TX8 11 ∈ nWs := (nW4 26 rfl rfl)
theorem ft_8_11 : nFt 8 11 (.array .int) true := fun q hq => by cases hq; exact ⟨by decide +kernel, rfl, rfl⟩
theorem la_8_12 : u_lay RX8 TX8 12 ∈ nWs := (nW4 28 rfl rfl)
theorem ft_8_12 : nFt 8 12 (.array .int) true := fun q hq => by cases hq; exact ⟨by decide +kernel, rfl, rfl⟩
theorem la_8_13 : u_lay RX8 TX8 13 ∈ nWs := (nW4 30 rfl rfl)
theorem ft_8_13 : nFt 8 13 (.array .int) true := fun q hq => by cases hq; exact ⟨by decide +kernel, rfl, rfl⟩
theorem la_8_14 : u_lay RX8 TX8 14 ∈ nWs := (nW4 32 rfl rfl)
theorem ft_8_14 : nFt 8 14 (.array .int) true := fun q hq => by cases hq; exact ⟨by decide +kernel, rfl, rfl⟩
theorem la_8_15 : u_lay RX8 TX8 15 ∈ nWs := (nW4 34 rfl rfl)
theorem ft_8_15 : nFt 8 15 (.array .boolean) true := fun q hq => by cases hq; exact ⟨by decide +kernel, rfl, rfl⟩
theorem la_8_16 : u_lay RX8 TX8 16 ∈ nWs := (nW4 36 rfl rfl)
theorem ft_8_16 : nFt 8 16 .int false := fun q hq => by cases hq; exact ⟨by decide +kernel, rfl, rfl⟩
theorem la_8_17 : u_lay RX8 TX8 17 ∈ nWs := (nW4 38 rfl rfl)
theorem ft_8_17 : nFt 8 17 (.array .int) true := fun q hq => by cases hq; exact ⟨by decide +kernel, rfl, rfl⟩
theorem la_8_18 : u_lay RX8 TX8 18 ∈ nWs := (nW4 40 rfl rfl)
theorem ft_8_18 : nFt 8 18 (.array .boolean) true := fun q hq => by cases hq; exact ⟨by decide +kernel, rfl, rfl⟩
theorem la_8_19 : u_lay RX8 TX8 19 ∈ nWs := (nW4 42 rfl rfl)
theorem ft_8_19 : nFt 8 19 (.array .int) true := fun q hq => by cases hq; exact ⟨by decide +kernel, rfl, rfl⟩
theorem la_8_20 : u_lay RX8 TX8 20 ∈ nWs := (nW4 44 rfl rfl)
theorem ft_8_20 : nFt 8 20 .int false := fun q hq => by cases hq; exact ⟨by decide +kernel, rfl, rfl⟩
theorem la_8_21 : u_lay RX8 TX8 21 ∈ nWs := (nW4 46 rfl rfl)
theorem ft_8_21 : nFt 8 21 .int false := fun q hq => by cases hq; exact ⟨by decide +kernel, rfl, rfl⟩
theorem la_8_22 : u_lay RX8 TX8 22 ∈ nWs := (nW4 48 rfl rfl)
theorem ft_8_22 : nFt 8 22 .boolean false := fun q hq => by cases hq; exact ⟨by decide +kernel, rfl, rfl⟩
theorem la_8_23 : u_lay RX8 TX8 23 ∈ nWs := (nW4 50 rfl rfl)
theorem ft_8_23 : nFt 8 23 .int false := fun q hq => by cases hq; exact ⟨by decide +kernel, rfl, rfl⟩
theorem la_8_24 : u_lay RX8 TX8 24 ∈ nWs := (nW4 52 rfl rfl)
theorem ft_8_24 : nFt 8 24 .int false := fun q hq => by cases hq; exact ⟨by decide +kernel, rfl, rfl⟩
theorem la_8_25 : u_lay RX8 TX8 25 ∈ nWs := (nW4 54 rfl rfl)
theorem ft_8_25 : nFt 8 25 .int false := fun q hq => by cases hq; exact ⟨by decide +kernel, rfl, rfl⟩
theorem la_8_26 : u_lay RX8 TX8 26 ∈ nWs := (nW4 56 rfl rfl)
theorem ft_8_26 : nFt 8 26 (.array .int) true := fun q hq => by cases hq; exact ⟨by decide +kernel, rfl, rfl⟩
theorem la_8_27 : u_lay RX8 TX8 27 ∈ nWs := (nW4 58 rfl rfl)
theorem ft_8_27 : nFt 8 27 (.array .boolean) true := fun q hq => by cases hq; exact ⟨by decide +kernel, rfl, rfl⟩
theorem la_8_28 : u_lay RX8 TX8 28 ∈ nWs := (nW4 60 rfl rfl)
theorem ft_8_28 : nFt 8 28 .int false := fun q hq => by cases hq; exact ⟨by decide +kernel, rfl, rfl⟩
theorem la_8_29 : u_lay RX8 TX8 29 ∈ nWs := (nW4 62 rfl rfl)
theorem ft_8_29 : nFt 8 29 (.array .int) true := fun q hq => by cases hq; exact ⟨by decide +kernel, rfl, rfl⟩
theorem la_8_30 : u_lay RX8 TX8 30 ∈ nWs := (nW4 64 rfl rfl)
theorem ft_8_30 : nFt 8 30 (.array .boolean) true := fun q hq => by cases hq; exact ⟨by decide +kernel, rfl, rfl⟩
theorem la_8_31 : u_lay RX8 TX8 31 ∈ nWs := (nW4 66 rfl rfl)
theorem ft_8_31 : nFt 8 31 .int false := fun q hq => by cases hq; exact ⟨by decide +kernel, rfl, rfl⟩
theorem la_8_32 : u_lay RX8 TX8 32 ∈ nWs := (nW4 68 rfl rfl)
theorem ft_8_32 : nFt 8 32 .int false := fun q hq => by cases hq; exact ⟨by decide +kernel, rfl, rfl⟩
theorem la_8_33 : u_lay RX8 TX8 33 ∈ nWs := (nW4 70 rfl rfl)
theorem ft_8_33 : nFt 8 33 .int false := fun q hq => by cases hq; exact ⟨by decide +kernel, rfl, rfl⟩
theorem la_8_34 : u_lay RX8 TX8 34 ∈ nWs := (nW4 72 rfl rfl)
theorem ft_8_34 : nFt 8 34 .int false := fun q hq => by cases hq; exact ⟨by decide +kernel, rfl, rfl⟩
theorem la_8_35 : u_lay RX8 TX8 35 ∈ nWs := (nW4 74 rfl rfl)
theorem ft_8_35 : nFt 8 35 (.array .int) true := fun q hq => by cases hq; exact ⟨by decide +kernel, rfl, rfl⟩
theorem la_8_36 : u_lay RX8 TX8 36 ∈ nWs := (nW4 76 rfl rfl)
theorem ft_8_36 : nFt 8 36 (.array .long) true := fun q hq => by cases hq; exact ⟨by decide +kernel, rfl, rfl⟩
theorem la_8_37 : u_lay RX8 TX8 37 ∈ nWs := (nW4 78 rfl rfl)
theorem ft_8_37 : nFt 8 37 .long false := fun q hq => by cases hq; exact ⟨by decide +kernel, rfl, rfl⟩
theorem la_8_38 : u_lay RX8 TX8 38 ∈ nWs := (nW4 80 rfl rfl)
theorem ft_8_38 : nFt 8 38 .long false := fun q hq => by cases hq; exact ⟨by decide +kernel, rfl, rfl⟩
theorem cz_8 : nCo 8 := fun q hq => by
  cases hq
  refine ⟨fun w hw => ?_, nmX8, tyX8, tyX8_ok⟩
  obtain ⟨k, hk, rfl⟩ := List.mem_map.mp hw
  have hk := List.mem_range.mp hk
  match k, hk with
  | 0, _ => exact la_8_0
  | 1, _ => exact la_8_1
  | 2, _ => exact la_8_2
  | 3, _ => exact la_8_3
  | 4, _ => exact la_8_4
  | 5, _ => exact la_8_5
  | 6, _ => exact la_8_6
  | 7, _ => exact la_8_7
  | 8, _ => exact la_8_8
  | 9, _ => exact la_8_9
  | 10, _ => exact la_8_10
  | 11, _ => exact la_8_11
  | 12, _ => exact la_8_12
  | 13, _ => exact la_8_13
  | 14, _ => exact la_8_14
  | 15, _ => exact la_8_15
  | 16, _ => exact la_8_16
  | 17, _ => exact la_8_17
  | 18, _ => exact la_8_18
  | 19, _ => exact la_8_19
  | 20, _ => exact la_8_20
  | 21, _ => exact la_8_21
  | 22, _ => exact la_8_22
  | 23, _ => exact la_8_23
  | 24, _ => exact la_8_24
  | 25, _ => exact la_8_25
  | 26, _ => exact la_8_26
  | 27, _ => exact la_8_27
  | 28, _ => exact la_8_28
  | 29, _ => exact la_8_29
  | 30, _ => exact la_8_30
  | 31, _ => exact la_8_31
  | 32, _ => exact la_8_32
  | 33, _ => exact la_8_33
  | 34, _ => exact la_8_34
  | 35, _ => exact la_8_35
  | 36, _ => exact la_8_36
  | 37, _ => exact la_8_37
  | 38, _ => exact la_8_38
  | k + 39, hk => exact absurd (show k + 39 < 39 from hk) (by omega)
theorem co_all : ∀ c, nCo c
  | 0 => cz_0
  | 1 => cz_1
  | 2 => cz_2
  | 3 => cz_3
  | 4 => cz_4
  | 5 => cz_5
  | 6 => cz_6
  | 7 => cz_7
  | 8 => cz_8
  | c + 9 => fun q hq => by simp at hq
theorem mo_X0_init : nMo YX0_init 0 := ⟨(nW1 27 rfl rfl), (nW1 2 rfl rfl), ⟨by decide +kernel, by decide +kernel⟩, by decide +kernel⟩
theorem ii_X0_init : nIi YX0_init := ⟨(nW1 26 rfl rfl), rfl⟩
theorem mo_X0_trace : nMo YX0_trace 3 := ⟨(nW2 216 rfl rfl), (nW1 2 rfl rfl), ⟨by decide +kernel, by decide +kernel⟩, by decide +kernel⟩
theorem vi_X0_trace : nVi YX0_trace := ⟨(nW2 214 rfl rfl), (nW2 215 rfl rfl)⟩
theorem mo_X0_clear : nMo YX0_clear 0 := ⟨(nW2 220 rfl rfl), (nW1 2 rfl rfl), ⟨by decide +kernel, by decide +kernel⟩, by decide +kernel⟩
theorem vi_X0_clear : nVi YX0_clear := ⟨(nW2 219 rfl rfl), (nWp 3 (by decide +kernel) rfl)⟩
theorem mo_X0_reach : nMo YX0_reach 2 := ⟨(nW2 225 rfl rfl), (nW1 2 rfl rfl), ⟨by decide +kernel, by decide +kernel⟩, by decide +kernel⟩
theorem vi_X0_reach : nVi YX0_reach := ⟨(nW2 224 rfl rfl), (nWp 4 (by decide +kernel) rfl)⟩
theorem mo_X0_reachFrom : nMo YX0_reachFrom 3 := ⟨(nW2 230 rfl rfl), (nW1 2 rfl rfl), ⟨by decide +kernel, by decide +kernel⟩, by decide +kernel⟩
theorem vi_X0_reachFrom : nVi YX0_reachFrom := ⟨(nW2 229 rfl rfl), (nWp 5 (by decide +kernel) rfl)⟩
theorem mo_X0_listReached : nMo YX0_listReached 1 := ⟨(nW2 236 rfl rfl), (nW1 2 rfl rfl), ⟨by decide +kernel, by decide +kernel⟩, by decide +kernel⟩
theorem vi_X0_listReached : nVi YX0_listReached := ⟨(nW2 235 rfl rfl), (nWp 6 (by decide +kernel) rfl)⟩
theorem mo_X0_twines : nMo YX0_twines 0 := ⟨(nW3 8 rfl rfl), (nW1 2 rfl rfl), ⟨by decide +kernel, by decide +kernel⟩, by decide +kernel⟩
theorem vi_X0_twines : nVi YX0_twines := ⟨(nW3 6 rfl rfl), (nW3 7 rfl rfl)⟩
theorem mo_X0_tell : nMo YX0_tell 2 := ⟨(nW3 4 rfl rfl), (nW1 2 rfl rfl), ⟨by decide +kernel, by decide +kernel⟩, by decide +kernel⟩
theorem vi_X0_tell : nVi YX0_tell := ⟨(nW3 2 rfl rfl), (nW3 3 rfl rfl)⟩
theorem mo_X0_hasNeedle : nMo YX0_hasNeedle 1 := ⟨(nW3 17 rfl rfl), (nW1 2 rfl rfl), ⟨by decide +kernel, by decide +kernel⟩, by decide +kernel⟩
theorem vi_X0_hasNeedle : nVi YX0_hasNeedle := ⟨(nW3 15 rfl rfl), (nW3 16 rfl rfl)⟩
theorem mo_X0_beginning : nMo YX0_beginning 0 := ⟨(nW3 22 rfl rfl), (nW1 2 rfl rfl), ⟨by decide +kernel, by decide +kernel⟩, by decide +kernel⟩
theorem vi_X0_beginning : nVi YX0_beginning := ⟨(nW3 20 rfl rfl), (nW3 21 rfl rfl)⟩
theorem mo_X1_init : nMo YX1_init 0 := ⟨(nW1 116 rfl rfl), (nW1 6 rfl rfl), ⟨by decide +kernel, by decide +kernel⟩, by decide +kernel⟩
theorem ii_X1_init : nIi YX1_init := ⟨(nW1 115 rfl rfl), rfl⟩
theorem mo_X1_leadDown : nMo YX1_leadDown 1 := ⟨(nW3 157 rfl rfl), (nW1 6 rfl rfl), ⟨by decide +kernel, by decide +kernel⟩, by decide +kernel⟩
theorem vi_X1_leadDown : nVi YX1_leadDown := ⟨(nW3 155 rfl rfl), (nW3 156 rfl rfl)⟩
theorem mo_X1_countWholeSides : nMo YX1_countWholeSides 1 := ⟨(nW3 163 rfl rfl), (nW1 6 rfl rfl), ⟨by decide +kernel, by decide +kernel⟩, by decide +kernel⟩
theorem vi_X1_countWholeSides : nVi YX1_countWholeSides := ⟨(nW3 162 rfl rfl), (nWp 12 (by decide +kernel) rfl)⟩
theorem mo_X1_lose : nMo YX1_lose 2 := ⟨(nW3 168 rfl rfl), (nW1 6 rfl rfl), ⟨by decide +kernel, by decide +kernel⟩, by decide +kernel⟩
theorem vi_X1_lose : nVi YX1_lose := ⟨(nW3 167 rfl rfl), (nWp 13 (by decide +kernel) rfl)⟩
theorem mo_X1_handOn : nMo YX1_handOn 2 := ⟨(nW3 172 rfl rfl), (nW1 6 rfl rfl), ⟨by decide +kernel, by decide +kernel⟩, by decide +kernel⟩
theorem vi_X1_handOn : nVi YX1_handOn := ⟨(nW3 171 rfl rfl), (nWp 14 (by decide +kernel) rfl)⟩
theorem mo_X1_inAll : nMo YX1_inAll 2 := ⟨(nW3 176 rfl rfl), (nW1 6 rfl rfl), ⟨by decide +kernel, by decide +kernel⟩, by decide +kernel⟩
theorem vi_X1_inAll : nVi YX1_inAll := ⟨(nW3 175 rfl rfl), (nWp 15 (by decide +kernel) rfl)⟩
theorem mo_X1_firstAbove : nMo YX1_firstAbove 1 := ⟨(nW3 196 rfl rfl), (nW1 6 rfl rfl), ⟨by decide +kernel, by decide +kernel⟩, by decide +kernel⟩
theorem vi_X1_firstAbove : nVi YX1_firstAbove := ⟨(nW3 194 rfl rfl), (nW3 195 rfl rfl)⟩
theorem mo_X1_isAbove : nMo YX1_isAbove 2 := ⟨(nW3 199 rfl rfl), (nW1 6 rfl rfl), ⟨by decide +kernel, by decide +kernel⟩, by decide +kernel⟩
theorem sc_X1_isAbove : nSc YX1_isAbove := (nW3 198 rfl rfl)
theorem mo_X1_term : nMo YX1_term 2 := ⟨(nW3 179 rfl rfl), (nW1 6 rfl rfl), ⟨by decide +kernel, by decide +kernel⟩, by decide +kernel⟩
theorem sc_X1_term : nSc YX1_term := (nW3 178 rfl rfl)
theorem mo_X1_commonDivisor : nMo YX1_commonDivisor 2 := ⟨(nW3 182 rfl rfl), (nW1 6 rfl rfl), ⟨by decide +kernel, by decide +kernel⟩, by decide +kernel⟩
theorem sc_X1_commonDivisor : nSc YX1_commonDivisor := (nW3 181 rfl rfl)
theorem mo_X2_init : nMo YX2_init 2 := ⟨(nW1 179 rfl rfl), (nW1 8 rfl rfl), ⟨by decide +kernel, by decide +kernel⟩, by decide +kernel⟩
theorem ii_X2_init : nIi YX2_init := ⟨(nW1 178 rfl rfl), rfl⟩
theorem mo_X2_rowAt : nMo YX2_rowAt 1 := ⟨(nW2 46 rfl rfl), (nW1 8 rfl rfl), ⟨by decide +kernel, by decide +kernel⟩, by decide +kernel⟩
theorem vi_X2_rowAt : nVi YX2_rowAt := ⟨(nW2 44 rfl rfl), (nW2 45 rfl rfl)⟩
theorem mo_X2_lastRow : nMo YX2_lastRow 0 := ⟨(nW2 42 rfl rfl), (nW1 8 rfl rfl), ⟨by decide +kernel, by decide +kernel⟩, by decide +kernel⟩
theorem vi_X2_lastRow : nVi YX2_lastRow := ⟨(nW2 40 rfl rfl), (nW2 41 rfl rfl)⟩
theorem mo_X2_rowWith : nMo YX2_rowWith 2 := ⟨(nW2 120 rfl rfl), (nW1 8 rfl rfl), ⟨by decide +kernel, by decide +kernel⟩, by decide +kernel⟩
theorem vi_X2_rowWith : nVi YX2_rowWith := ⟨(nW2 118 rfl rfl), (nW2 119 rfl rfl)⟩
theorem mo_X2_append : nMo YX2_append 1 := ⟨(nW2 22 rfl rfl), (nW1 8 rfl rfl), ⟨by decide +kernel, by decide +kernel⟩, by decide +kernel⟩
theorem vi_X2_append : nVi YX2_append := ⟨(nW2 20 rfl rfl), (nW2 21 rfl rfl)⟩
theorem mo_X2_appendCopies : nMo YX2_appendCopies 1 := ⟨(nW3 86 rfl rfl), (nW1 8 rfl rfl), ⟨by decide +kernel, by decide +kernel⟩, by decide +kernel⟩
theorem vi_X2_appendCopies : nVi YX2_appendCopies := ⟨(nW3 84 rfl rfl), (nW3 85 rfl rfl)⟩
theorem mo_X2_hangRow : nMo YX2_hangRow 0 := ⟨(nW2 38 rfl rfl), (nW1 8 rfl rfl), ⟨by decide +kernel, by decide +kernel⟩, by decide +kernel⟩
theorem vi_X2_hangRow : nVi YX2_hangRow := ⟨(nW2 36 rfl rfl), (nW2 37 rfl rfl)⟩
theorem mo_X2_bearsShaping : nMo YX2_bearsShaping 3 := ⟨(nW2 86 rfl rfl), (nW1 8 rfl rfl), ⟨by decide +kernel, by decide +kernel⟩, by decide +kernel⟩
theorem vi_X2_bearsShaping : nVi YX2_bearsShaping := ⟨(nW2 84 rfl rfl), (nW2 85 rfl rfl)⟩
theorem mo_X2_shapeRows : nMo YX2_shapeRows 3 := ⟨(nW2 94 rfl rfl), (nW1 8 rfl rfl), ⟨by decide +kernel, by decide +kernel⟩, by decide +kernel⟩
theorem vi_X2_shapeRows : nVi YX2_shapeRows := ⟨(nW2 92 rfl rfl), (nW2 93 rfl rfl)⟩
theorem mo_X2_goneSidesAt : nMo YX2_goneSidesAt 2 := ⟨(nW2 135 rfl rfl), (nW1 8 rfl rfl), ⟨by decide +kernel, by decide +kernel⟩, by decide +kernel⟩
theorem vi_X2_goneSidesAt : nVi YX2_goneSidesAt := ⟨(nW2 133 rfl rfl), (nW2 134 rfl rfl)⟩
theorem mo_X2_cutSidesAt : nMo YX2_cutSidesAt 2 := ⟨(nW2 186 rfl rfl), (nW1 8 rfl rfl), ⟨by decide +kernel, by decide +kernel⟩, by decide +kernel⟩
theorem vi_X2_cutSidesAt : nVi YX2_cutSidesAt := ⟨(nW2 184 rfl rfl), (nW2 185 rfl rfl)⟩
theorem mo_X2_goneAbove : nMo YX2_goneAbove 2 := ⟨(nW3 37 rfl rfl), (nW1 8 rfl rfl), ⟨by decide +kernel, by decide +kernel⟩, by decide +kernel⟩
theorem vi_X2_goneAbove : nVi YX2_goneAbove := ⟨(nW3 35 rfl rfl), (nW3 36 rfl rfl)⟩
theorem mo_X2_goneBelow : nMo YX2_goneBelow 2 := ⟨(nW3 46 rfl rfl), (nW1 8 rfl rfl), ⟨by decide +kernel, by decide +kernel⟩, by decide +kernel⟩
theorem vi_X2_goneBelow : nVi YX2_goneBelow := ⟨(nW3 44 rfl rfl), (nW3 45 rfl rfl)⟩
theorem mo_X2_totalOf : nMo YX2_totalOf 1 := ⟨(nW2 157 rfl rfl), (nW1 8 rfl rfl), ⟨by decide +kernel, by decide +kernel⟩, by decide +kernel⟩
theorem vi_X2_totalOf : nVi YX2_totalOf := ⟨(nW2 155 rfl rfl), (nW2 156 rfl rfl)⟩
theorem mo_X3_init : nMo YX3_init 1 := ⟨(nW1 218 rfl rfl), (nW1 9 rfl rfl), ⟨by decide +kernel, by decide +kernel⟩, by decide +kernel⟩
theorem ii_X3_init : nIi YX3_init := ⟨(nW1 217 rfl rfl), rfl⟩
theorem mo_X3_copied : nMo YX3_copied 0 := ⟨(nW3 90 rfl rfl), (nW1 9 rfl rfl), ⟨by decide +kernel, by decide +kernel⟩, by decide +kernel⟩
theorem vi_X3_copied : nVi YX3_copied := ⟨(nW3 88 rfl rfl), (nW3 89 rfl rfl)⟩
theorem mo_X3_has : nMo YX3_has 1 := ⟨(nW2 70 rfl rfl), (nW1 9 rfl rfl), ⟨by decide +kernel, by decide +kernel⟩, by decide +kernel⟩
theorem vi_X3_has : nVi YX3_has := ⟨(nW2 68 rfl rfl), (nW2 69 rfl rfl)⟩
theorem mo_X3_turn : nMo YX3_turn 2 := ⟨(nW2 75 rfl rfl), (nW1 9 rfl rfl), ⟨by decide +kernel, by decide +kernel⟩, by decide +kernel⟩
theorem vi_X3_turn : nVi YX3_turn := ⟨(nW2 73 rfl rfl), (nW2 74 rfl rfl)⟩
theorem mo_X3_turnEvery : nMo YX3_turnEvery 2 := ⟨(nW2 98 rfl rfl), (nW1 9 rfl rfl), ⟨by decide +kernel, by decide +kernel⟩, by decide +kernel⟩
theorem vi_X3_turnEvery : nVi YX3_turnEvery := ⟨(nW2 96 rfl rfl), (nW2 97 rfl rfl)⟩
theorem mo_X3_givenInAll : nMo YX3_givenInAll 0 := ⟨(nW2 51 rfl rfl), (nW1 9 rfl rfl), ⟨by decide +kernel, by decide +kernel⟩, by decide +kernel⟩
theorem vi_X3_givenInAll : nVi YX3_givenInAll := ⟨(nW2 49 rfl rfl), (nW2 50 rfl rfl)⟩
theorem mo_X3_giverBehind : nMo YX3_giverBehind 1 := ⟨(nW2 60 rfl rfl), (nW1 9 rfl rfl), ⟨by decide +kernel, by decide +kernel⟩, by decide +kernel⟩
theorem vi_X3_giverBehind : nVi YX3_giverBehind := ⟨(nW2 58 rfl rfl), (nW2 59 rfl rfl)⟩
theorem mo_X3_hangIn : nMo YX3_hangIn 1 := ⟨(nW2 56 rfl rfl), (nW1 9 rfl rfl), ⟨by decide +kernel, by decide +kernel⟩, by decide +kernel⟩
theorem vi_X3_hangIn : nVi YX3_hangIn := ⟨(nW2 54 rfl rfl), (nW2 55 rfl rfl)⟩
theorem mo_X3_hangInNothing : nMo YX3_hangInNothing 0 := ⟨(nW2 204 rfl rfl), (nW1 9 rfl rfl), ⟨by decide +kernel, by decide +kernel⟩, by decide +kernel⟩
theorem vi_X3_hangInNothing : nVi YX3_hangInNothing := ⟨(nW2 202 rfl rfl), (nW2 203 rfl rfl)⟩
theorem mo_X3_placeOfSide : nMo YX3_placeOfSide 2 := ⟨(nW2 131 rfl rfl), (nW1 9 rfl rfl), ⟨by decide +kernel, by decide +kernel⟩, by decide +kernel⟩
theorem vi_X3_placeOfSide : nVi YX3_placeOfSide := ⟨(nW2 129 rfl rfl), (nW2 130 rfl rfl)⟩
theorem mo_X3_hangsBy : nMo YX3_hangsBy 2 := ⟨(nW2 145 rfl rfl), (nW1 9 rfl rfl), ⟨by decide +kernel, by decide +kernel⟩, by decide +kernel⟩
theorem vi_X3_hangsBy : nVi YX3_hangsBy := ⟨(nW2 143 rfl rfl), (nW2 144 rfl rfl)⟩
theorem mo_X3_isGone : nMo YX3_isGone 2 := ⟨(nW2 141 rfl rfl), (nW1 9 rfl rfl), ⟨by decide +kernel, by decide +kernel⟩, by decide +kernel⟩
theorem vi_X3_isGone : nVi YX3_isGone := ⟨(nW2 139 rfl rfl), (nW2 140 rfl rfl)⟩
theorem mo_X3_sideIsGone : nMo YX3_sideIsGone 2 := ⟨(nW2 149 rfl rfl), (nW1 9 rfl rfl), ⟨by decide +kernel, by decide +kernel⟩, by decide +kernel⟩
theorem vi_X3_sideIsGone : nVi YX3_sideIsGone := ⟨(nW2 147 rfl rfl), (nW2 148 rfl rfl)⟩
theorem mo_X3_isWhole : nMo YX3_isWhole 2 := ⟨(nW2 190 rfl rfl), (nW1 9 rfl rfl), ⟨by decide +kernel, by decide +kernel⟩, by decide +kernel⟩
theorem vi_X3_isWhole : nVi YX3_isWhole := ⟨(nW2 188 rfl rfl), (nW2 189 rfl rfl)⟩
theorem mo_X3_setSide : nMo YX3_setSide 3 := ⟨(nW2 178 rfl rfl), (nW1 9 rfl rfl), ⟨by decide +kernel, by decide +kernel⟩, by decide +kernel⟩
theorem vi_X3_setSide : nVi YX3_setSide := ⟨(nW2 176 rfl rfl), (nW2 177 rfl rfl)⟩
theorem mo_X3_setSideTo : nMo YX3_setSideTo 3 := ⟨(nW2 195 rfl rfl), (nW1 9 rfl rfl), ⟨by decide +kernel, by decide +kernel⟩, by decide +kernel⟩
theorem vi_X3_setSideTo : nVi YX3_setSideTo := ⟨(nW2 193 rfl rfl), (nW2 194 rfl rfl)⟩
theorem mo_X3_countOver : nMo YX3_countOver 1 := ⟨(nW2 161 rfl rfl), (nW1 9 rfl rfl), ⟨by decide +kernel, by decide +kernel⟩, by decide +kernel⟩
theorem vi_X3_countOver : nVi YX3_countOver := ⟨(nW2 159 rfl rfl), (nW2 160 rfl rfl)⟩
theorem mo_X3_shareOf : nMo YX3_shareOf 2 := ⟨(nW2 165 rfl rfl), (nW1 9 rfl rfl), ⟨by decide +kernel, by decide +kernel⟩, by decide +kernel⟩
theorem vi_X3_shareOf : nVi YX3_shareOf := ⟨(nW2 164 rfl rfl), (nWp 2 (by decide +kernel) rfl)⟩
theorem mo_X4_init : nMo YX4_init 0 := ⟨(nW1 101 rfl rfl), (nW1 5 rfl rfl), ⟨by decide +kernel, by decide +kernel⟩, by decide +kernel⟩
theorem ii_X4_init : nIi YX4_init := ⟨(nW1 100 rfl rfl), rfl⟩
theorem mo_X4_join : nMo YX4_join 2 := ⟨(nW3 99 rfl rfl), (nW1 5 rfl rfl), ⟨by decide +kernel, by decide +kernel⟩, by decide +kernel⟩
theorem vi_X4_join : nVi YX4_join := ⟨(nW3 97 rfl rfl), (nW3 98 rfl rfl)⟩
theorem mo_X4_spread : nMo YX4_spread 2 := ⟨(nW3 109 rfl rfl), (nW1 5 rfl rfl), ⟨by decide +kernel, by decide +kernel⟩, by decide +kernel⟩
theorem vi_X4_spread : nVi YX4_spread := ⟨(nW3 108 rfl rfl), (nWp 9 (by decide +kernel) rfl)⟩
theorem mo_X4_giveOneEach : nMo YX4_giveOneEach 1 := ⟨(nW3 115 rfl rfl), (nW1 5 rfl rfl), ⟨by decide +kernel, by decide +kernel⟩, by decide +kernel⟩
theorem vi_X4_giveOneEach : nVi YX4_giveOneEach := ⟨(nW3 114 rfl rfl), (nWp 10 (by decide +kernel) rfl)⟩
theorem mo_X5_init : nMo YX5_init 0 := ⟨(nW1 85 rfl rfl), (nW1 4 rfl rfl), ⟨by decide +kernel, by decide +kernel⟩, by decide +kernel⟩
theorem ii_X5_init : nIi YX5_init := ⟨(nW1 84 rfl rfl), rfl⟩
theorem mo_X5_find : nMo YX5_find 2 := ⟨(nW3 67 rfl rfl), (nW1 4 rfl rfl), ⟨by decide +kernel, by decide +kernel⟩, by decide +kernel⟩
theorem vi_X5_find : nVi YX5_find := ⟨(nW3 65 rfl rfl), (nW3 66 rfl rfl)⟩
theorem mo_X5_tell : nMo YX5_tell 1 := ⟨(nW3 75 rfl rfl), (nW1 4 rfl rfl), ⟨by decide +kernel, by decide +kernel⟩, by decide +kernel⟩
theorem vi_X5_tell : nVi YX5_tell := ⟨(nW3 73 rfl rfl), (nW3 74 rfl rfl)⟩
theorem mo_X6_init : nMo YX6_init 0 := ⟨(nW1 65 rfl rfl), (nW1 3 rfl rfl), ⟨by decide +kernel, by decide +kernel⟩, by decide +kernel⟩
theorem ii_X6_init : nIi YX6_init := ⟨(nW1 64 rfl rfl), rfl⟩
theorem mo_X6_knotAt : nMo YX6_knotAt 1 := ⟨(nW3 58 rfl rfl), (nW1 3 rfl rfl), ⟨by decide +kernel, by decide +kernel⟩, by decide +kernel⟩
theorem vi_X6_knotAt : nVi YX6_knotAt := ⟨(nW3 56 rfl rfl), (nW3 57 rfl rfl)⟩
theorem mo_X6_walk : nMo YX6_walk 2 := ⟨(nW3 26 rfl rfl), (nW1 3 rfl rfl), ⟨by decide +kernel, by decide +kernel⟩, by decide +kernel⟩
theorem vi_X6_walk : nVi YX6_walk := ⟨(nW3 24 rfl rfl), (nW3 25 rfl rfl)⟩
theorem mo_X6_goTo : nMo YX6_goTo 1 := ⟨(nW3 30 rfl rfl), (nW1 3 rfl rfl), ⟨by decide +kernel, by decide +kernel⟩, by decide +kernel⟩
theorem vi_X6_goTo : nVi YX6_goTo := ⟨(nW3 29 rfl rfl), (nWp 7 (by decide +kernel) rfl)⟩
theorem mo_X6_goBackFrom : nMo YX6_goBackFrom 1 := ⟨(nW3 50 rfl rfl), (nW1 3 rfl rfl), ⟨by decide +kernel, by decide +kernel⟩, by decide +kernel⟩
theorem vi_X6_goBackFrom : nVi YX6_goBackFrom := ⟨(nW3 49 rfl rfl), (nWp 8 (by decide +kernel) rfl)⟩
theorem mo_X6_mendOneFrom : nMo YX6_mendOneFrom 3 := ⟨(nW3 33 rfl rfl), (nW1 3 rfl rfl), ⟨by decide +kernel, by decide +kernel⟩, by decide +kernel⟩
theorem sc_X6_mendOneFrom : nSc YX6_mendOneFrom := (nW3 32 rfl rfl)
theorem mo_X6_makeWhole : nMo YX6_makeWhole 3 := ⟨(nW3 41 rfl rfl), (nW1 3 rfl rfl), ⟨by decide +kernel, by decide +kernel⟩, by decide +kernel⟩
theorem sc_X6_makeWhole : nSc YX6_makeWhole := (nW3 40 rfl rfl)
theorem mo_X7_init : nMo YX7_init 0 := ⟨(nW1 17 rfl rfl), (nW1 1 rfl rfl), ⟨by decide +kernel, by decide +kernel⟩, by decide +kernel⟩
theorem ii_X7_init : nIi YX7_init := ⟨(nW1 16 rfl rfl), rfl⟩
theorem mo_X7_panel : nMo YX7_panel 3 := ⟨(nW1 171 rfl rfl), (nW1 1 rfl rfl), ⟨by decide +kernel, by decide +kernel⟩, by decide +kernel⟩
theorem vi_X7_panel : nVi YX7_panel := ⟨(nW1 169 rfl rfl), (nW1 170 rfl rfl)⟩
theorem mo_X7_row : nMo YX7_row 1 := ⟨(nW2 30 rfl rfl), (nW1 1 rfl rfl), ⟨by decide +kernel, by decide +kernel⟩, by decide +kernel⟩
theorem vi_X7_row : nVi YX7_row := ⟨(nW2 28 rfl rfl), (nW2 29 rfl rfl)⟩
theorem mo_X7_kind : nMo YX7_kind 3 := ⟨(nW2 65 rfl rfl), (nW1 1 rfl rfl), ⟨by decide +kernel, by decide +kernel⟩, by decide +kernel⟩
theorem vi_X7_kind : nVi YX7_kind := ⟨(nW2 63 rfl rfl), (nW2 64 rfl rfl)⟩
theorem mo_X7_shape : nMo YX7_shape 4 := ⟨(nW2 79 rfl rfl), (nW1 1 rfl rfl), ⟨by decide +kernel, by decide +kernel⟩, by decide +kernel⟩
theorem vi_X7_shape : nVi YX7_shape := ⟨(nW2 77 rfl rfl), (nW2 78 rfl rfl)⟩
theorem mo_X7_ahead : nMo YX7_ahead 4 := ⟨(nW2 104 rfl rfl), (nW1 1 rfl rfl), ⟨by decide +kernel, by decide +kernel⟩, by decide +kernel⟩
theorem vi_X7_ahead : nVi YX7_ahead := ⟨(nW2 102 rfl rfl), (nW2 103 rfl rfl)⟩
theorem mo_X7_meshes : nMo YX7_meshes 2 := ⟨(nW2 111 rfl rfl), (nW1 1 rfl rfl), ⟨by decide +kernel, by decide +kernel⟩, by decide +kernel⟩
theorem vi_X7_meshes : nVi YX7_meshes := ⟨(nW2 109 rfl rfl), (nW2 110 rfl rfl)⟩
theorem mo_X7_of : nMo YX7_of 4 := ⟨(nW2 116 rfl rfl), (nW1 1 rfl rfl), ⟨by decide +kernel, by decide +kernel⟩, by decide +kernel⟩
theorem vi_X7_of : nVi YX7_of := ⟨(nW2 114 rfl rfl), (nW2 115 rfl rfl)⟩
theorem mo_X7_panelOf : nMo YX7_panelOf 2 := ⟨(nW2 153 rfl rfl), (nW1 1 rfl rfl), ⟨by decide +kernel, by decide +kernel⟩, by decide +kernel⟩
theorem vi_X7_panelOf : nVi YX7_panelOf := ⟨(nW2 151 rfl rfl), (nW2 152 rfl rfl)⟩
theorem mo_X7_count : nMo YX7_count 1 := ⟨(nW2 170 rfl rfl), (nW1 1 rfl rfl), ⟨by decide +kernel, by decide +kernel⟩, by decide +kernel⟩
theorem vi_X7_count : nVi YX7_count := ⟨(nW2 168 rfl rfl), (nW2 169 rfl rfl)⟩
theorem mo_X7_side : nMo YX7_side 5 := ⟨(nW2 174 rfl rfl), (nW1 1 rfl rfl), ⟨by decide +kernel, by decide +kernel⟩, by decide +kernel⟩
theorem vi_X7_side : nVi YX7_side := ⟨(nW2 172 rfl rfl), (nW2 173 rfl rfl)⟩
theorem mo_X7_cut : nMo YX7_cut 3 := ⟨(nW2 182 rfl rfl), (nW1 1 rfl rfl), ⟨by decide +kernel, by decide +kernel⟩, by decide +kernel⟩
theorem vi_X7_cut : nVi YX7_cut := ⟨(nW2 180 rfl rfl), (nW2 181 rfl rfl)⟩
theorem mo_X7_tear : nMo YX7_tear 2 := ⟨(nW2 200 rfl rfl), (nW1 1 rfl rfl), ⟨by decide +kernel, by decide +kernel⟩, by decide +kernel⟩
theorem vi_X7_tear : nVi YX7_tear := ⟨(nW2 198 rfl rfl), (nW2 199 rfl rfl)⟩
theorem mo_X7_needle : nMo YX7_needle 4 := ⟨(nW2 208 rfl rfl), (nW1 1 rfl rfl), ⟨by decide +kernel, by decide +kernel⟩, by decide +kernel⟩
theorem vi_X7_needle : nVi YX7_needle := ⟨(nW2 206 rfl rfl), (nW2 207 rfl rfl)⟩
theorem mo_X7_hole : nMo YX7_hole 3 := ⟨(nW2 212 rfl rfl), (nW1 1 rfl rfl), ⟨by decide +kernel, by decide +kernel⟩, by decide +kernel⟩
theorem vi_X7_hole : nVi YX7_hole := ⟨(nW2 210 rfl rfl), (nW2 211 rfl rfl)⟩
theorem mo_X7_edge : nMo YX7_edge 2 := ⟨(nW3 0 rfl rfl), (nW1 1 rfl rfl), ⟨by decide +kernel, by decide +kernel⟩, by decide +kernel⟩
theorem vi_X7_edge : nVi YX7_edge := ⟨(nW2 238 rfl rfl), (nW2 239 rfl rfl)⟩
theorem mo_X7_mend : nMo YX7_mend 3 := ⟨(nW3 12 rfl rfl), (nW1 1 rfl rfl), ⟨by decide +kernel, by decide +kernel⟩, by decide +kernel⟩
theorem vi_X7_mend : nVi YX7_mend := ⟨(nW3 10 rfl rfl), (nW3 11 rfl rfl)⟩
theorem mo_X7_way : nMo YX7_way 1 := ⟨(nW3 54 rfl rfl), (nW1 1 rfl rfl), ⟨by decide +kernel, by decide +kernel⟩, by decide +kernel⟩
theorem vi_X7_way : nVi YX7_way := ⟨(nW3 52 rfl rfl), (nW3 53 rfl rfl)⟩
theorem mo_X7_taper : nMo YX7_taper 3 := ⟨(nW3 63 rfl rfl), (nW1 1 rfl rfl), ⟨by decide +kernel, by decide +kernel⟩, by decide +kernel⟩
theorem vi_X7_taper : nVi YX7_taper := ⟨(nW3 61 rfl rfl), (nW3 62 rfl rfl)⟩
theorem mo_X7_cycle : nMo YX7_cycle 1 := ⟨(nW3 71 rfl rfl), (nW1 1 rfl rfl), ⟨by decide +kernel, by decide +kernel⟩, by decide +kernel⟩
theorem vi_X7_cycle : nVi YX7_cycle := ⟨(nW3 69 rfl rfl), (nW3 70 rfl rfl)⟩
theorem mo_X7_sew : nMo YX7_sew 2 := ⟨(nW3 79 rfl rfl), (nW1 1 rfl rfl), ⟨by decide +kernel, by decide +kernel⟩, by decide +kernel⟩
theorem vi_X7_sew : nVi YX7_sew := ⟨(nW3 77 rfl rfl), (nW3 78 rfl rfl)⟩
theorem mo_X7_match : nMo YX7_match 1 := ⟨(nW3 121 rfl rfl), (nW1 1 rfl rfl), ⟨by decide +kernel, by decide +kernel⟩, by decide +kernel⟩
theorem vi_X7_match : nVi YX7_match := ⟨(nW3 119 rfl rfl), (nW3 120 rfl rfl)⟩
theorem mo_X7_hang : nMo YX7_hang 3 := ⟨(nW3 125 rfl rfl), (nW1 1 rfl rfl), ⟨by decide +kernel, by decide +kernel⟩, by decide +kernel⟩
theorem vi_X7_hang : nVi YX7_hang := ⟨(nW3 123 rfl rfl), (nW3 124 rfl rfl)⟩
theorem mo_X7_parts : nMo YX7_parts 1 := ⟨(nW3 129 rfl rfl), (nW1 1 rfl rfl), ⟨by decide +kernel, by decide +kernel⟩, by decide +kernel⟩
theorem vi_X7_parts : nVi YX7_parts := ⟨(nW3 127 rfl rfl), (nW3 128 rfl rfl)⟩
theorem mo_X7_part : nMo YX7_part 2 := ⟨(nW3 133 rfl rfl), (nW1 1 rfl rfl), ⟨by decide +kernel, by decide +kernel⟩, by decide +kernel⟩
theorem vi_X7_part : nVi YX7_part := ⟨(nW3 131 rfl rfl), (nW3 132 rfl rfl)⟩
theorem mo_X7_open : nMo YX7_open 1 := ⟨(nW3 137 rfl rfl), (nW1 1 rfl rfl), ⟨by decide +kernel, by decide +kernel⟩, by decide +kernel⟩
theorem vi_X7_open : nVi YX7_open := ⟨(nW3 135 rfl rfl), (nW3 136 rfl rfl)⟩
theorem mo_X7_slips : nMo YX7_slips 2 := ⟨(nW3 145 rfl rfl), (nW1 1 rfl rfl), ⟨by decide +kernel, by decide +kernel⟩, by decide +kernel⟩
theorem vi_X7_slips : nVi YX7_slips := ⟨(nW3 143 rfl rfl), (nW3 144 rfl rfl)⟩
theorem mo_X7_pull : nMo YX7_pull 3 := ⟨(nW3 149 rfl rfl), (nW1 1 rfl rfl), ⟨by decide +kernel, by decide +kernel⟩, by decide +kernel⟩
theorem vi_X7_pull : nVi YX7_pull := ⟨(nW3 147 rfl rfl), (nW3 148 rfl rfl)⟩
theorem mo_X7_load : nMo YX7_load 4 := ⟨(nW3 153 rfl rfl), (nW1 1 rfl rfl), ⟨by decide +kernel, by decide +kernel⟩, by decide +kernel⟩
theorem vi_X7_load : nVi YX7_load := ⟨(nW3 151 rfl rfl), (nW3 152 rfl rfl)⟩
theorem mo_X7_sum : nMo YX7_sum 3 := ⟨(nW3 188 rfl rfl), (nW1 1 rfl rfl), ⟨by decide +kernel, by decide +kernel⟩, by decide +kernel⟩
theorem vi_X7_sum : nVi YX7_sum := ⟨(nW3 186 rfl rfl), (nW3 187 rfl rfl)⟩
theorem mo_X7_weak : nMo YX7_weak 1 := ⟨(nW3 192 rfl rfl), (nW1 1 rfl rfl), ⟨by decide +kernel, by decide +kernel⟩, by decide +kernel⟩
theorem vi_X7_weak : nVi YX7_weak := ⟨(nW3 190 rfl rfl), (nW3 191 rfl rfl)⟩
theorem mo_X7_within : nMo YX7_within 3 := ⟨(nW1 174 rfl rfl), (nW1 1 rfl rfl), ⟨by decide +kernel, by decide +kernel⟩, by decide +kernel⟩
theorem sc_X7_within : nSc YX7_within := (nW1 173 rfl rfl)
theorem mo_X7_isRule : nMo YX7_isRule 2 := ⟨(nW2 82 rfl rfl), (nW1 1 rfl rfl), ⟨by decide +kernel, by decide +kernel⟩, by decide +kernel⟩
theorem sc_X7_isRule : nSc YX7_isRule := (nW2 81 rfl rfl)
theorem mo_X7_shapedPlaces : nMo YX7_shapedPlaces 3 := ⟨(nW2 89 rfl rfl), (nW1 1 rfl rfl), ⟨by decide +kernel, by decide +kernel⟩, by decide +kernel⟩
theorem sc_X7_shapedPlaces : nSc YX7_shapedPlaces := (nW2 88 rfl rfl)
theorem mo_X7_fitTogether : nMo YX7_fitTogether 2 := ⟨(nW3 82 rfl rfl), (nW1 1 rfl rfl), ⟨by decide +kernel, by decide +kernel⟩, by decide +kernel⟩
theorem sc_X7_fitTogether : nSc YX7_fitTogether := (nW3 81 rfl rfl)
theorem mo_X7_panelAt : nMo YX7_panelAt 1 := ⟨(nW2 34 rfl rfl), (nW1 1 rfl rfl), ⟨by decide +kernel, by decide +kernel⟩, by decide +kernel⟩
theorem vi_X7_panelAt : nVi YX7_panelAt := ⟨(nW2 33 rfl rfl), (nWp 1 (by decide +kernel) rfl)⟩
theorem mo_X7_keep : nMo YX7_keep 1 := ⟨(nW2 26 rfl rfl), (nW1 1 rfl rfl), ⟨by decide +kernel, by decide +kernel⟩, by decide +kernel⟩
theorem vi_X7_keep : nVi YX7_keep := ⟨(nW2 25 rfl rfl), (nWp 0 (by decide +kernel) rfl)⟩
theorem mo_X7_openingOf : nMo YX7_openingOf 1 := ⟨(nW3 141 rfl rfl), (nW1 1 rfl rfl), ⟨by decide +kernel, by decide +kernel⟩, by decide +kernel⟩
theorem vi_X7_openingOf : nVi YX7_openingOf := ⟨(nW3 140 rfl rfl), (nWp 11 (by decide +kernel) rfl)⟩
theorem mo_X8_init : nMo YX8_init 0 := ⟨(nW3 204 rfl rfl), (nW1 7 rfl rfl), ⟨by decide +kernel, by decide +kernel⟩, by decide +kernel⟩
theorem ii_X8_init : nIi YX8_init := ⟨(nW3 203 rfl rfl), rfl⟩
theorem mo_X8_isPanel : nMo YX8_isPanel 1 := ⟨(nW4 107 rfl rfl), (nW1 7 rfl rfl), ⟨by decide +kernel, by decide +kernel⟩, by decide +kernel⟩
theorem vi_X8_isPanel : nVi YX8_isPanel := ⟨(nW4 106 rfl rfl), (nWp 18 (by decide +kernel) rfl)⟩
theorem mo_X8_isRow : nMo YX8_isRow 2 := ⟨(nW4 127 rfl rfl), (nW1 7 rfl rfl), ⟨by decide +kernel, by decide +kernel⟩, by decide +kernel⟩
theorem vi_X8_isRow : nVi YX8_isRow := ⟨(nW4 126 rfl rfl), (nWp 22 (by decide +kernel) rfl)⟩
theorem mo_X8_isKnot : nMo YX8_isKnot 3 := ⟨(nW4 123 rfl rfl), (nW1 7 rfl rfl), ⟨by decide +kernel, by decide +kernel⟩, by decide +kernel⟩
theorem vi_X8_isKnot : nVi YX8_isKnot := ⟨(nW4 122 rfl rfl), (nWp 21 (by decide +kernel) rfl)⟩
theorem mo_X8_at : nMo YX8_at 3 := ⟨(nW4 99 rfl rfl), (nW1 7 rfl rfl), ⟨by decide +kernel, by decide +kernel⟩, by decide +kernel⟩
theorem sc_X8_at : nSc YX8_at := (nW4 98 rfl rfl)
theorem mo_X8_clears : nMo YX8_clears 2 := ⟨(nW4 96 rfl rfl), (nW1 7 rfl rfl), ⟨by decide +kernel, by decide +kernel⟩, by decide +kernel⟩
theorem vi_X8_clears : nVi YX8_clears := ⟨(nW4 95 rfl rfl), (nWp 17 (by decide +kernel) rfl)⟩
theorem mo_X8_newPanel : nMo YX8_newPanel 2 := ⟨(nW4 92 rfl rfl), (nW1 7 rfl rfl), ⟨by decide +kernel, by decide +kernel⟩, by decide +kernel⟩
theorem vi_X8_newPanel : nVi YX8_newPanel := ⟨(nW4 91 rfl rfl), (nWp 16 (by decide +kernel) rfl)⟩
theorem mo_X8_panel : nMo YX8_panel 3 := ⟨(nW4 87 rfl rfl), (nW1 7 rfl rfl), ⟨by decide +kernel, by decide +kernel⟩, by decide +kernel⟩
theorem vi_X8_panel : nVi YX8_panel := ⟨(nW4 85 rfl rfl), (nW4 86 rfl rfl)⟩
theorem mo_X8_given : nMo YX8_given 2 := ⟨(nW4 111 rfl rfl), (nW1 7 rfl rfl), ⟨by decide +kernel, by decide +kernel⟩, by decide +kernel⟩
theorem vi_X8_given : nVi YX8_given := ⟨(nW4 110 rfl rfl), (nWp 19 (by decide +kernel) rfl)⟩
theorem mo_X8_hangs : nMo YX8_hangs 2 := ⟨(nW4 115 rfl rfl), (nW1 7 rfl rfl), ⟨by decide +kernel, by decide +kernel⟩, by decide +kernel⟩
theorem vi_X8_hangs : nVi YX8_hangs := ⟨(nW4 114 rfl rfl), (nWp 20 (by decide +kernel) rfl)⟩
theorem mo_X8_row : nMo YX8_row 1 := ⟨(nW4 103 rfl rfl), (nW1 7 rfl rfl), ⟨by decide +kernel, by decide +kernel⟩, by decide +kernel⟩
theorem vi_X8_row : nVi YX8_row := ⟨(nW4 101 rfl rfl), (nW4 102 rfl rfl)⟩
theorem mo_X8_becomes : nMo YX8_becomes 2 := ⟨(nW4 131 rfl rfl), (nW1 7 rfl rfl), ⟨by decide +kernel, by decide +kernel⟩, by decide +kernel⟩
theorem vi_X8_becomes : nVi YX8_becomes := ⟨(nW4 130 rfl rfl), (nWp 23 (by decide +kernel) rfl)⟩
theorem mo_X8_kind : nMo YX8_kind 3 := ⟨(nW4 119 rfl rfl), (nW1 7 rfl rfl), ⟨by decide +kernel, by decide +kernel⟩, by decide +kernel⟩
theorem vi_X8_kind : nVi YX8_kind := ⟨(nW4 117 rfl rfl), (nW4 118 rfl rfl)⟩
theorem mo_X8_shaped : nMo YX8_shaped 3 := ⟨(nW4 138 rfl rfl), (nW1 7 rfl rfl), ⟨by decide +kernel, by decide +kernel⟩, by decide +kernel⟩
theorem sc_X8_shaped : nSc YX8_shaped := (nW4 137 rfl rfl)
theorem mo_X8_shape : nMo YX8_shape 4 := ⟨(nW4 135 rfl rfl), (nW1 7 rfl rfl), ⟨by decide +kernel, by decide +kernel⟩, by decide +kernel⟩
theorem vi_X8_shape : nVi YX8_shape := ⟨(nW4 133 rfl rfl), (nW4 134 rfl rfl)⟩
theorem mo_X8_ahead : nMo YX8_ahead 4 := ⟨(nW4 144 rfl rfl), (nW1 7 rfl rfl), ⟨by decide +kernel, by decide +kernel⟩, by decide +kernel⟩
theorem vi_X8_ahead : nVi YX8_ahead := ⟨(nW4 142 rfl rfl), (nW4 143 rfl rfl)⟩
theorem mo_X8_meshes : nMo YX8_meshes 2 := ⟨(nW4 150 rfl rfl), (nW1 7 rfl rfl), ⟨by decide +kernel, by decide +kernel⟩, by decide +kernel⟩
theorem vi_X8_meshes : nVi YX8_meshes := ⟨(nW4 148 rfl rfl), (nW4 149 rfl rfl)⟩
theorem mo_X8_hangsIn : nMo YX8_hangsIn 3 := ⟨(nW4 169 rfl rfl), (nW1 7 rfl rfl), ⟨by decide +kernel, by decide +kernel⟩, by decide +kernel⟩
theorem vi_X8_hangsIn : nVi YX8_hangsIn := ⟨(nW4 168 rfl rfl), (nWp 26 (by decide +kernel) rfl)⟩
theorem mo_X8_bits : nMo YX8_bits 1 := ⟨(nW4 157 rfl rfl), (nW1 7 rfl rfl), ⟨by decide +kernel, by decide +kernel⟩, by decide +kernel⟩
theorem sc_X8_bits : nSc YX8_bits := (nW4 156 rfl rfl)
theorem mo_X8_below : nMo YX8_below 4 := ⟨(nW4 165 rfl rfl), (nW1 7 rfl rfl), ⟨by decide +kernel, by decide +kernel⟩, by decide +kernel⟩
theorem vi_X8_below : nVi YX8_below := ⟨(nW4 164 rfl rfl), (nWp 25 (by decide +kernel) rfl)⟩
theorem mo_X8_goneAt : nMo YX8_goneAt 3 := ⟨(nW4 161 rfl rfl), (nW1 7 rfl rfl), ⟨by decide +kernel, by decide +kernel⟩, by decide +kernel⟩
theorem vi_X8_goneAt : nVi YX8_goneAt := ⟨(nW4 160 rfl rfl), (nWp 24 (by decide +kernel) rfl)⟩
theorem mo_X8_of : nMo YX8_of 4 := ⟨(nW4 154 rfl rfl), (nW1 7 rfl rfl), ⟨by decide +kernel, by decide +kernel⟩, by decide +kernel⟩
theorem vi_X8_of : nVi YX8_of := ⟨(nW4 152 rfl rfl), (nW4 153 rfl rfl)⟩
theorem mo_X8_side : nMo YX8_side 5 := ⟨(nW4 173 rfl rfl), (nW1 7 rfl rfl), ⟨by decide +kernel, by decide +kernel⟩, by decide +kernel⟩
theorem vi_X8_side : nVi YX8_side := ⟨(nW4 171 rfl rfl), (nW4 172 rfl rfl)⟩
theorem mo_X8_cut : nMo YX8_cut 3 := ⟨(nW4 177 rfl rfl), (nW1 7 rfl rfl), ⟨by decide +kernel, by decide +kernel⟩, by decide +kernel⟩
theorem vi_X8_cut : nVi YX8_cut := ⟨(nW4 175 rfl rfl), (nW4 176 rfl rfl)⟩
theorem mo_X8_tear : nMo YX8_tear 2 := ⟨(nW4 181 rfl rfl), (nW1 7 rfl rfl), ⟨by decide +kernel, by decide +kernel⟩, by decide +kernel⟩
theorem vi_X8_tear : nVi YX8_tear := ⟨(nW4 179 rfl rfl), (nW4 180 rfl rfl)⟩
theorem mo_X8_needle : nMo YX8_needle 4 := ⟨(nW4 185 rfl rfl), (nW1 7 rfl rfl), ⟨by decide +kernel, by decide +kernel⟩, by decide +kernel⟩
theorem vi_X8_needle : nVi YX8_needle := ⟨(nW4 183 rfl rfl), (nW4 184 rfl rfl)⟩
theorem mo_X8_spreads : nMo YX8_spreads 3 := ⟨(nW4 193 rfl rfl), (nW1 7 rfl rfl), ⟨by decide +kernel, by decide +kernel⟩, by decide +kernel⟩
theorem vi_X8_spreads : nVi YX8_spreads := ⟨(nW4 192 rfl rfl), (nWp 27 (by decide +kernel) rfl)⟩
theorem mo_X8_oddOnes : nMo YX8_oddOnes 1 := ⟨(nW4 197 rfl rfl), (nW1 7 rfl rfl), ⟨by decide +kernel, by decide +kernel⟩, by decide +kernel⟩
theorem vi_X8_oddOnes : nVi YX8_oddOnes := ⟨(nW4 196 rfl rfl), (nWp 28 (by decide +kernel) rfl)⟩
theorem mo_X8_hole : nMo YX8_hole 3 := ⟨(nW4 189 rfl rfl), (nW1 7 rfl rfl), ⟨by decide +kernel, by decide +kernel⟩, by decide +kernel⟩
theorem vi_X8_hole : nVi YX8_hole := ⟨(nW4 187 rfl rfl), (nW4 188 rfl rfl)⟩
theorem mo_X8_twines : nMo YX8_twines 2 := ⟨(nW4 204 rfl rfl), (nW1 7 rfl rfl), ⟨by decide +kernel, by decide +kernel⟩, by decide +kernel⟩
theorem sc_X8_twines : nSc YX8_twines := (nW4 203 rfl rfl)
theorem mo_X8_edge : nMo YX8_edge 2 := ⟨(nW4 201 rfl rfl), (nW1 7 rfl rfl), ⟨by decide +kernel, by decide +kernel⟩, by decide +kernel⟩
theorem vi_X8_edge : nVi YX8_edge := ⟨(nW4 199 rfl rfl), (nW4 200 rfl rfl)⟩
theorem mo_X8_mend : nMo YX8_mend 3 := ⟨(nW4 208 rfl rfl), (nW1 7 rfl rfl), ⟨by decide +kernel, by decide +kernel⟩, by decide +kernel⟩
theorem vi_X8_mend : nVi YX8_mend := ⟨(nW4 206 rfl rfl), (nW4 207 rfl rfl)⟩
theorem mo_X8_ties : nMo YX8_ties 4 := ⟨(nW4 220 rfl rfl), (nW1 7 rfl rfl), ⟨by decide +kernel, by decide +kernel⟩, by decide +kernel⟩
theorem vi_X8_ties : nVi YX8_ties := ⟨(nW4 219 rfl rfl), (nWp 31 (by decide +kernel) rfl)⟩
theorem mo_X8_isGone : nMo YX8_isGone 3 := ⟨(nW4 216 rfl rfl), (nW1 7 rfl rfl), ⟨by decide +kernel, by decide +kernel⟩, by decide +kernel⟩
theorem vi_X8_isGone : nVi YX8_isGone := ⟨(nW4 215 rfl rfl), (nWp 30 (by decide +kernel) rfl)⟩
theorem mo_X8_goesOn : nMo YX8_goesOn 3 := ⟨(nW4 212 rfl rfl), (nW1 7 rfl rfl), ⟨by decide +kernel, by decide +kernel⟩, by decide +kernel⟩
theorem vi_X8_goesOn : nVi YX8_goesOn := ⟨(nW4 211 rfl rfl), (nWp 29 (by decide +kernel) rfl)⟩
theorem mo_X8_reaches : nMo YX8_reaches 3 := ⟨(nW4 224 rfl rfl), (nW1 7 rfl rfl), ⟨by decide +kernel, by decide +kernel⟩, by decide +kernel⟩
theorem vi_X8_reaches : nVi YX8_reaches := ⟨(nW4 223 rfl rfl), (nWp 32 (by decide +kernel) rfl)⟩
theorem mo_X8_way : nMo YX8_way 1 := ⟨(nW4 228 rfl rfl), (nW1 7 rfl rfl), ⟨by decide +kernel, by decide +kernel⟩, by decide +kernel⟩
theorem vi_X8_way : nVi YX8_way := ⟨(nW4 226 rfl rfl), (nW4 227 rfl rfl)⟩
theorem mo_X8_taper : nMo YX8_taper 3 := ⟨(nW4 232 rfl rfl), (nW1 7 rfl rfl), ⟨by decide +kernel, by decide +kernel⟩, by decide +kernel⟩
theorem vi_X8_taper : nVi YX8_taper := ⟨(nW4 230 rfl rfl), (nW4 231 rfl rfl)⟩
theorem mo_X8_cycle : nMo YX8_cycle 1 := ⟨(nW4 236 rfl rfl), (nW1 7 rfl rfl), ⟨by decide +kernel, by decide +kernel⟩, by decide +kernel⟩
theorem vi_X8_cycle : nVi YX8_cycle := ⟨(nW4 234 rfl rfl), (nW4 235 rfl rfl)⟩
theorem mo_X8_copies : nMo YX8_copies 4 := ⟨(nW5 4 rfl rfl), (nW1 7 rfl rfl), ⟨by decide +kernel, by decide +kernel⟩, by decide +kernel⟩
theorem vi_X8_copies : nVi YX8_copies := ⟨(nW5 3 rfl rfl), (nWp 33 (by decide +kernel) rfl)⟩
theorem mo_X8_sew : nMo YX8_sew 2 := ⟨(nW5 0 rfl rfl), (nW1 7 rfl rfl), ⟨by decide +kernel, by decide +kernel⟩, by decide +kernel⟩
theorem vi_X8_sew : nVi YX8_sew := ⟨(nW4 238 rfl rfl), (nW4 239 rfl rfl)⟩
theorem mo_X8_match : nMo YX8_match 1 := ⟨(nW5 8 rfl rfl), (nW1 7 rfl rfl), ⟨by decide +kernel, by decide +kernel⟩, by decide +kernel⟩
theorem vi_X8_match : nVi YX8_match := ⟨(nW5 6 rfl rfl), (nW5 7 rfl rfl)⟩
theorem mo_X8_hang : nMo YX8_hang 3 := ⟨(nW5 12 rfl rfl), (nW1 7 rfl rfl), ⟨by decide +kernel, by decide +kernel⟩, by decide +kernel⟩
theorem vi_X8_hang : nVi YX8_hang := ⟨(nW5 10 rfl rfl), (nW5 11 rfl rfl)⟩
theorem mo_X8_parts : nMo YX8_parts 1 := ⟨(nW5 16 rfl rfl), (nW1 7 rfl rfl), ⟨by decide +kernel, by decide +kernel⟩, by decide +kernel⟩
theorem vi_X8_parts : nVi YX8_parts := ⟨(nW5 14 rfl rfl), (nW5 15 rfl rfl)⟩
theorem mo_X8_part : nMo YX8_part 2 := ⟨(nW5 20 rfl rfl), (nW1 7 rfl rfl), ⟨by decide +kernel, by decide +kernel⟩, by decide +kernel⟩
theorem vi_X8_part : nVi YX8_part := ⟨(nW5 18 rfl rfl), (nW5 19 rfl rfl)⟩
theorem mo_X8_open : nMo YX8_open 1 := ⟨(nW5 24 rfl rfl), (nW1 7 rfl rfl), ⟨by decide +kernel, by decide +kernel⟩, by decide +kernel⟩
theorem vi_X8_open : nVi YX8_open := ⟨(nW5 22 rfl rfl), (nW5 23 rfl rfl)⟩
theorem mo_X8_slips : nMo YX8_slips 2 := ⟨(nW5 28 rfl rfl), (nW1 7 rfl rfl), ⟨by decide +kernel, by decide +kernel⟩, by decide +kernel⟩
theorem vi_X8_slips : nVi YX8_slips := ⟨(nW5 26 rfl rfl), (nW5 27 rfl rfl)⟩
theorem mo_X8_sixth : nMo YX8_sixth 1 := ⟨(nW5 44 rfl rfl), (nW1 7 rfl rfl), ⟨by decide +kernel, by decide +kernel⟩, by decide +kernel⟩
theorem sc_X8_sixth : nSc YX8_sixth := (nW5 43 rfl rfl)
theorem mo_X8_leads : nMo YX8_leads 1 := ⟨(nW5 41 rfl rfl), (nW1 7 rfl rfl), ⟨by decide +kernel, by decide +kernel⟩, by decide +kernel⟩
theorem vi_X8_leads : nVi YX8_leads := ⟨(nW5 40 rfl rfl), (nWp 34 (by decide +kernel) rfl)⟩
theorem mo_X8_lowest : nMo YX8_lowest 3 := ⟨(nW5 48 rfl rfl), (nW1 7 rfl rfl), ⟨by decide +kernel, by decide +kernel⟩, by decide +kernel⟩
theorem sc_X8_lowest : nSc YX8_lowest := (nW5 47 rfl rfl)
theorem mo_X8_pull : nMo YX8_pull 3 := ⟨(nW5 33 rfl rfl), (nW1 7 rfl rfl), ⟨by decide +kernel, by decide +kernel⟩, by decide +kernel⟩
theorem vi_X8_pull : nVi YX8_pull := ⟨(nW5 31 rfl rfl), (nW5 32 rfl rfl)⟩
theorem mo_X8_load : nMo YX8_load 4 := ⟨(nW5 37 rfl rfl), (nW1 7 rfl rfl), ⟨by decide +kernel, by decide +kernel⟩, by decide +kernel⟩
theorem vi_X8_load : nVi YX8_load := ⟨(nW5 35 rfl rfl), (nW5 36 rfl rfl)⟩
theorem mo_X8_sum : nMo YX8_sum 3 := ⟨(nW5 52 rfl rfl), (nW1 7 rfl rfl), ⟨by decide +kernel, by decide +kernel⟩, by decide +kernel⟩
theorem vi_X8_sum : nVi YX8_sum := ⟨(nW5 50 rfl rfl), (nW5 51 rfl rfl)⟩
theorem mo_X8_weak : nMo YX8_weak 1 := ⟨(nW5 56 rfl rfl), (nW1 7 rfl rfl), ⟨by decide +kernel, by decide +kernel⟩, by decide +kernel⟩
theorem vi_X8_weak : nVi YX8_weak := ⟨(nW5 54 rfl rfl), (nW5 55 rfl rfl)⟩
theorem mo_X8_count : nMo YX8_count 1 := ⟨(nW5 60 rfl rfl), (nW1 7 rfl rfl), ⟨by decide +kernel, by decide +kernel⟩, by decide +kernel⟩
theorem vi_X8_count : nVi YX8_count := ⟨(nW5 58 rfl rfl), (nW5 59 rfl rfl)⟩
theorem mo_X8_panelOf : nMo YX8_panelOf 2 := ⟨(nW5 64 rfl rfl), (nW1 7 rfl rfl), ⟨by decide +kernel, by decide +kernel⟩, by decide +kernel⟩
theorem vi_X8_panelOf : nVi YX8_panelOf := ⟨(nW5 62 rfl rfl), (nW5 63 rfl rfl)⟩
theorem mo_J6_bitCount_0f7a4 : nMo YJ6_bitCount_0f7a4 1 := ⟨(nW2 124 rfl rfl), (nW1 10 rfl rfl), ⟨by decide +kernel, by decide +kernel⟩, by decide +kernel⟩
theorem sc_J6_bitCount_0f7a4 : nSc YJ6_bitCount_0f7a4 := (nW2 123 rfl rfl)
theorem mo_J9_max_7cf53 : nMo YJ9_max_7cf53 2 := ⟨(nW3 105 rfl rfl), (nW1 12 rfl rfl), ⟨by decide +kernel, by decide +kernel⟩, by decide +kernel⟩
theorem sc_J9_max_7cf53 : nSc YJ9_max_7cf53 := (nW3 104 rfl rfl)
theorem mo_J9_min_7cf53 : nMo YJ9_min_7cf53 2 := ⟨(nW3 102 rfl rfl), (nW1 12 rfl rfl), ⟨by decide +kernel, by decide +kernel⟩, by decide +kernel⟩
theorem sc_J9_min_7cf53 : nSc YJ9_min_7cf53 := (nW3 101 rfl rfl)
theorem ob_init : Cond.instanceMethod Lib.objectInit ∈ nWs ∧ Cond.code Lib.objectInit ⟨#[0xb1]⟩ 1 none ∈ nWs := ⟨(nW1 19 rfl rfl), (nW1 20 rfl rfl)⟩
theorem lk_9_9 : nLk 9 9 YX7_init := (nW1 15 rfl rfl)
theorem lk_7_3 : Cond.methodLink (cNm 7) 3 Lib.objectInit ∈ nWs := (nW1 18 rfl rfl)
theorem lk_7_25 : nLn 7 25 YX0_init := List.mem_of_getElem? (i := 0) rfl
theorem lk_0_3 : Cond.methodLink (cNm 0) 3 Lib.objectInit ∈ nWs := (nW1 28 rfl rfl)
theorem lk_7_35 : nLn 7 35 YX6_init := List.mem_of_getElem? (i := 1) rfl
theorem lk_6_3 : Cond.methodLink (cNm 6) 3 Lib.objectInit ∈ nWs := (nW1 66 rfl rfl)
theorem lk_7_42 : nLn 7 42 YX5_init := List.mem_of_getElem? (i := 2) rfl
theorem lk_5_3 : Cond.methodLink (cNm 5) 3 Lib.objectInit ∈ nWs := (nW1 86 rfl rfl)
theorem lk_7_49 : nLn 7 49 YX4_init := List.mem_of_getElem? (i := 3) rfl
theorem lk_4_3 : Cond.methodLink (cNm 4) 3 Lib.objectInit ∈ nWs := (nW1 102 rfl rfl)
theorem lk_7_56 : nLn 7 56 YX1_init := List.mem_of_getElem? (i := 4) rfl
theorem lk_1_3 : Cond.methodLink (cNm 1) 3 Lib.objectInit ∈ nWs := (nW1 117 rfl rfl)
theorem lk_9_13 : nLk 9 13 YX7_panel := (nW1 168 rfl rfl)
theorem lk_7_64 : nLk 7 64 YX7_within := (nW1 172 rfl rfl)
theorem lk_7_69 : nLk 7 69 YX2_init := (nW1 177 rfl rfl)
theorem lk_2_3 : Cond.methodLink (cNm 2) 3 Lib.objectInit ∈ nWs := (nW1 180 rfl rfl)
theorem lk_7_74 : nLk 7 74 YX3_init := (nW1 216 rfl rfl)
theorem lk_3_3 : Cond.methodLink (cNm 3) 3 Lib.objectInit ∈ nWs := (nW1 219 rfl rfl)
theorem lk_7_77 : nLk 7 77 YX2_append := (nW2 19 rfl rfl)
theorem lk_7_81 : nLk 7 81 YX7_keep := (nW2 23 rfl rfl)
theorem lk_9_18 : nLk 9 18 YX7_row := (nW2 27 rfl rfl)
theorem lk_7_85 : nLk 7 85 YX7_panelAt := (nW2 31 rfl rfl)
theorem lk_7_89 : nLk 7 89 YX2_hangRow := (nW2 35 rfl rfl)
theorem lk_2_57 : nLk 2 57 YX2_lastRow := (nW2 39 rfl rfl)
theorem lk_2_41 : nLk 2 41 YX2_rowAt := (nW2 43 rfl rfl)
theorem lk_2_37 : nLn 2 37 YX7_within := List.mem_of_getElem? (i := 5) rfl
theorem lk_2_60 : nLk 2 60 YX3_givenInAll := (nW2 48 rfl rfl)
theorem lk_2_64 : nLk 2 64 YX3_init := (nW2 52 rfl rfl)
theorem lk_2_67 : nLk 2 67 YX3_hangIn := (nW2 53 rfl rfl)
theorem lk_3_51 : nLk 3 51 YX3_giverBehind := (nW2 57 rfl rfl)
theorem lk_2_53 : nLk 2 53 YX2_append := (nW2 61 rfl rfl)
theorem lk_9_23 : nLk 9 23 YX7_kind := (nW2 62 rfl rfl)
theorem lk_7_93 : nLk 7 93 YX2_lastRow := (nW2 66 rfl rfl)
theorem lk_7_97 : nLk 7 97 YX3_has := (nW2 67 rfl rfl)
theorem lk_3_43 : nLn 3 43 YX7_within := List.mem_of_getElem? (i := 6) rfl
theorem lk_7_101 : nLk 7 101 YX3_turn := (nW2 72 rfl rfl)
theorem lk_9_28 : nLk 9 28 YX7_shape := (nW2 76 rfl rfl)
theorem lk_7_104 : nLk 7 104 YX7_isRule := (nW2 80 rfl rfl)
theorem lk_7_108 : nLk 7 108 YX2_bearsShaping := (nW2 83 rfl rfl)
theorem lk_2_73 : nLn 2 73 YX7_shapedPlaces := List.mem_of_getElem? (i := 7) rfl
theorem lk_7_111 : nLk 7 111 YX2_shapeRows := (nW2 91 rfl rfl)
theorem lk_2_79 : nLk 2 79 YX3_turnEvery := (nW2 95 rfl rfl)
theorem lk_3_47 : nLk 3 47 YX3_turn := (nW2 99 rfl rfl)
theorem lk_2_83 : nLk 2 83 YX2_hangRow := (nW2 100 rfl rfl)
theorem lk_9_33 : nLk 9 33 YX7_ahead := (nW2 101 rfl rfl)
theorem lk_7_117 : nLk 7 117 YX7_shapedPlaces := (nW2 106 rfl rfl)
theorem lk_9_38 : nLk 9 38 YX7_meshes := (nW2 108 rfl rfl)
theorem lk_7_123 : nLk 7 123 YX2_rowAt := (nW2 112 rfl rfl)
theorem lk_9_43 : nLk 9 43 YX7_of := (nW2 113 rfl rfl)
theorem lk_7_130 : nLk 7 130 YX2_rowWith := (nW2 117 rfl rfl)
theorem lk_2_45 : nLk 2 45 YX3_has := (nW2 121 rfl rfl)
theorem lk_7_146 : nLk 7 146 YJ6_bitCount_0f7a4 := (nW2 122 rfl rfl)
theorem lk_7_152 : nLk 7 152 YX3_placeOfSide := (nW2 128 rfl rfl)
theorem lk_7_159 : nLk 7 159 YX2_goneSidesAt := (nW2 132 rfl rfl)
theorem lk_2_86 : nLk 2 86 YX2_rowWith := (nW2 136 rfl rfl)
theorem lk_2_93 : nLk 2 93 YJ6_bitCount_0f7a4 := (nW2 137 rfl rfl)
theorem lk_2_99 : nLk 2 99 YX3_isGone := (nW2 138 rfl rfl)
theorem lk_3_55 : nLk 3 55 YX3_hangsBy := (nW2 142 rfl rfl)
theorem lk_3_59 : nLk 3 59 YX3_sideIsGone := (nW2 146 rfl rfl)
theorem lk_9_140 : nLk 9 140 YX7_panelOf := (nW2 150 rfl rfl)
theorem lk_7_177 : nLk 7 177 YX2_totalOf := (nW2 154 rfl rfl)
theorem lk_2_113 : nLk 2 113 YX3_countOver := (nW2 158 rfl rfl)
theorem lk_3_69 : nLk 3 69 YX3_shareOf := (nW2 162 rfl rfl)
theorem lk_3_73 : nLk 3 73 YJ6_bitCount_0f7a4 := (nW2 166 rfl rfl)
theorem lk_9_136 : nLk 9 136 YX7_count := (nW2 167 rfl rfl)
theorem lk_9_47 : nLk 9 47 YX7_side := (nW2 171 rfl rfl)
theorem lk_7_183 : nLk 7 183 YX3_setSide := (nW2 175 rfl rfl)
theorem lk_9_52 : nLk 9 52 YX7_cut := (nW2 179 rfl rfl)
theorem lk_7_187 : nLk 7 187 YX2_cutSidesAt := (nW2 183 rfl rfl)
theorem lk_2_106 : nLk 2 106 YX3_isWhole := (nW2 187 rfl rfl)
theorem lk_3_62 : nLk 3 62 YX3_isGone := (nW2 191 rfl rfl)
theorem lk_2_109 : nLk 2 109 YX3_setSideTo := (nW2 192 rfl rfl)
theorem lk_3_65 : nLk 3 65 YX3_setSide := (nW2 196 rfl rfl)
theorem lk_9_56 : nLk 9 56 YX7_tear := (nW2 197 rfl rfl)
theorem lk_7_190 : nLk 7 190 YX3_hangInNothing := (nW2 201 rfl rfl)
theorem lk_9_61 : nLk 9 61 YX7_needle := (nW2 205 rfl rfl)
theorem lk_9_66 : nLk 9 66 YX7_hole := (nW2 209 rfl rfl)
theorem lk_7_193 : nLk 7 193 YX0_trace := (nW2 213 rfl rfl)
theorem lk_0_26 : nLk 0 26 YX0_clear := (nW2 217 rfl rfl)
theorem lk_0_29 : nLk 0 29 YX2_goneSidesAt := (nW2 221 rfl rfl)
theorem lk_0_35 : nLk 0 35 YX0_reach := (nW2 222 rfl rfl)
theorem lk_0_64 : nLn 0 64 YX7_within := List.mem_of_getElem? (i := 8) rfl
theorem lk_0_43 : nLk 0 43 YX0_reachFrom := (nW2 227 rfl rfl)
theorem lk_0_68 : nLk 0 68 YX2_rowAt := (nW2 231 rfl rfl)
theorem lk_0_72 : nLk 0 72 YX3_isGone := (nW2 232 rfl rfl)
theorem lk_0_47 : nLk 0 47 YX0_listReached := (nW2 233 rfl rfl)
theorem lk_9_70 : nLk 9 70 YX7_edge := (nW2 237 rfl rfl)
theorem lk_7_198 : nLk 7 198 YX0_tell := (nW3 1 rfl rfl)
theorem lk_0_81 : nLk 0 81 YX0_twines := (nW3 5 rfl rfl)
theorem lk_9_74 : nLk 9 74 YX7_mend := (nW3 9 rfl rfl)
theorem lk_7_201 : nLk 7 201 YX0_twines := (nW3 13 rfl rfl)
theorem lk_7_204 : nLk 7 204 YX0_hasNeedle := (nW3 14 rfl rfl)
theorem lk_0_85 : nLk 0 85 YX2_rowWith := (nW3 18 rfl rfl)
theorem lk_7_208 : nLk 7 208 YX0_beginning := (nW3 19 rfl rfl)
theorem lk_7_211 : nLk 7 211 YX6_walk := (nW3 23 rfl rfl)
theorem lk_6_29 : nLk 6 29 YX6_goTo := (nW3 27 rfl rfl)
theorem lk_6_33 : nLk 6 33 YX6_mendOneFrom := (nW3 31 rfl rfl)
theorem lk_6_40 : nLk 6 40 YX2_goneAbove := (nW3 34 rfl rfl)
theorem lk_6_46 : nLk 6 46 YX2_rowAt := (nW3 38 rfl rfl)
theorem lk_6_50 : nLk 6 50 YX6_makeWhole := (nW3 39 rfl rfl)
theorem lk_6_57 : nLk 6 57 YX3_setSideTo := (nW3 42 rfl rfl)
theorem lk_6_54 : nLk 6 54 YX2_goneBelow := (nW3 43 rfl rfl)
theorem lk_6_37 : nLk 6 37 YX6_goBackFrom := (nW3 47 rfl rfl)
theorem lk_9_78 : nLk 9 78 YX7_way := (nW3 51 rfl rfl)
theorem lk_7_215 : nLk 7 215 YX6_knotAt := (nW3 55 rfl rfl)
theorem lk_6_22 : nLn 6 22 YX7_within := List.mem_of_getElem? (i := 9) rfl
theorem lk_9_82 : nLk 9 82 YX7_taper := (nW3 60 rfl rfl)
theorem lk_7_218 : nLk 7 218 YX5_find := (nW3 64 rfl rfl)
theorem lk_9_86 : nLk 9 86 YX7_cycle := (nW3 68 rfl rfl)
theorem lk_7_221 : nLk 7 221 YX5_tell := (nW3 72 rfl rfl)
theorem lk_9_90 : nLk 9 90 YX7_sew := (nW3 76 rfl rfl)
theorem lk_7_223 : nLk 7 223 YX7_fitTogether := (nW3 80 rfl rfl)
theorem lk_7_227 : nLk 7 227 YX2_appendCopies := (nW3 83 rfl rfl)
theorem lk_2_49 : nLk 2 49 YX3_copied := (nW3 87 rfl rfl)
theorem lk_3_34 : nLk 3 34 YX3_init := (nW3 92 rfl rfl)
theorem lk_3_37 : Cond.methodLink (cNm 3) 37 arraycopyName ∈ nWs := (nW3 93 rfl rfl)
theorem lk_7_231 : nLk 7 231 YX4_join := (nW3 96 rfl rfl)
theorem lk_4_21 : nLk 4 21 YJ9_min_7cf53 := (nW3 100 rfl rfl)
theorem lk_4_27 : nLk 4 27 YJ9_max_7cf53 := (nW3 103 rfl rfl)
theorem lk_4_30 : nLk 4 30 YX4_spread := (nW3 106 rfl rfl)
theorem lk_4_56 : nLn 4 56 YX7_within := List.mem_of_getElem? (i := 10) rfl
theorem lk_4_43 : Cond.methodLink (cNm 4) 43 arraycopyName ∈ nWs := (nW3 111 rfl rfl)
theorem lk_4_49 : nLk 4 49 YX4_giveOneEach := (nW3 112 rfl rfl)
theorem lk_4_60 : nLk 4 60 YX3_has := (nW3 116 rfl rfl)
theorem lk_4_53 : nLk 4 53 YX3_hangIn := (nW3 117 rfl rfl)
theorem lk_9_94 : nLk 9 94 YX7_match := (nW3 118 rfl rfl)
theorem lk_9_98 : nLk 9 98 YX7_hang := (nW3 122 rfl rfl)
theorem lk_9_102 : nLk 9 102 YX7_parts := (nW3 126 rfl rfl)
theorem lk_9_107 : nLk 9 107 YX7_part := (nW3 130 rfl rfl)
theorem lk_9_111 : nLk 9 111 YX7_open := (nW3 134 rfl rfl)
theorem lk_7_239 : nLk 7 239 YX7_openingOf := (nW3 138 rfl rfl)
theorem lk_9_115 : nLk 9 115 YX7_slips := (nW3 142 rfl rfl)
theorem lk_9_119 : nLk 9 119 YX7_pull := (nW3 146 rfl rfl)
theorem lk_9_123 : nLk 9 123 YX7_load := (nW3 150 rfl rfl)
theorem lk_7_245 : nLk 7 245 YX1_leadDown := (nW3 154 rfl rfl)
theorem lk_1_38 : nLk 1 38 YX2_rowAt := (nW3 159 rfl rfl)
theorem lk_1_42 : nLk 1 42 YX1_countWholeSides := (nW3 160 rfl rfl)
theorem lk_1_68 : nLk 1 68 YX3_sideIsGone := (nW3 164 rfl rfl)
theorem lk_1_46 : nLk 1 46 YX1_lose := (nW3 165 rfl rfl)
theorem lk_1_50 : nLk 1 50 YX1_handOn := (nW3 169 rfl rfl)
theorem lk_1_53 : nLk 1 53 YX1_inAll := (nW3 173 rfl rfl)
theorem lk_7_252 : nLk 7 252 YX1_term := (nW3 177 rfl rfl)
theorem lk_1_79 : nLk 1 79 YX1_commonDivisor := (nW3 180 rfl rfl)
theorem lk_1_83 : nLn 1 83 YX7_within := List.mem_of_getElem? (i := 11) rfl
theorem lk_9_127 : nLk 9 127 YX7_sum := (nW3 185 rfl rfl)
theorem lk_9_132 : nLk 9 132 YX7_weak := (nW3 189 rfl rfl)
theorem lk_7_263 : nLk 7 263 YX1_firstAbove := (nW3 193 rfl rfl)
theorem lk_1_75 : nLk 1 75 YX1_isAbove := (nW3 197 rfl rfl)
theorem lk_9_12 : nLk 9 12 YX8_init := (nW3 202 rfl rfl)
theorem lk_8_7 : Cond.methodLink (cNm 8) 7 Lib.objectInit ∈ nWs := (nW3 205 rfl rfl)
theorem lk_9_17 : nLk 9 17 YX8_panel := (nW4 84 rfl rfl)
theorem lk_8_104 : nLk 8 104 YX8_newPanel := (nW4 89 rfl rfl)
theorem lk_8_108 : nLk 8 108 YX8_clears := (nW4 93 rfl rfl)
theorem lk_8_99 : nLk 8 99 YX8_at := (nW4 97 rfl rfl)
theorem lk_9_22 : nLk 9 22 YX8_row := (nW4 100 rfl rfl)
theorem lk_8_91 : nLk 8 91 YX8_isPanel := (nW4 104 rfl rfl)
theorem lk_8_112 : nLk 8 112 YX8_given := (nW4 108 rfl rfl)
theorem lk_8_115 : nLk 8 115 YX8_hangs := (nW4 112 rfl rfl)
theorem lk_9_27 : nLk 9 27 YX8_kind := (nW4 116 rfl rfl)
theorem lk_8_118 : nLk 8 118 YX8_isKnot := (nW4 120 rfl rfl)
theorem lk_8_95 : nLk 8 95 YX8_isRow := (nW4 124 rfl rfl)
theorem lk_8_122 : nLk 8 122 YX8_becomes := (nW4 128 rfl rfl)
theorem lk_9_32 : nLk 9 32 YX8_shape := (nW4 132 rfl rfl)
theorem lk_8_125 : nLk 8 125 YX8_shaped := (nW4 136 rfl rfl)
theorem lk_8_131 : nLk 8 131 YX8_row := (nW4 140 rfl rfl)
theorem lk_9_37 : nLk 9 37 YX8_ahead := (nW4 141 rfl rfl)
theorem lk_9_42 : nLk 9 42 YX8_meshes := (nW4 147 rfl rfl)
theorem lk_9_46 : nLk 9 46 YX8_of := (nW4 151 rfl rfl)
theorem lk_8_142 : nLk 8 142 YX8_bits := (nW4 155 rfl rfl)
theorem lk_8_149 : nLk 8 149 YX8_goneAt := (nW4 158 rfl rfl)
theorem lk_8_145 : nLk 8 145 YX8_below := (nW4 162 rfl rfl)
theorem lk_8_139 : nLk 8 139 YX8_hangsIn := (nW4 166 rfl rfl)
theorem lk_9_51 : nLk 9 51 YX8_side := (nW4 170 rfl rfl)
theorem lk_9_55 : nLk 9 55 YX8_cut := (nW4 174 rfl rfl)
theorem lk_9_60 : nLk 9 60 YX8_tear := (nW4 178 rfl rfl)
theorem lk_9_65 : nLk 9 65 YX8_needle := (nW4 182 rfl rfl)
theorem lk_9_69 : nLk 9 69 YX8_hole := (nW4 186 rfl rfl)
theorem lk_8_158 : nLk 8 158 YX8_spreads := (nW4 190 rfl rfl)
theorem lk_8_172 : nLk 8 172 YX8_oddOnes := (nW4 194 rfl rfl)
theorem lk_9_73 : nLk 9 73 YX8_edge := (nW4 198 rfl rfl)
theorem lk_8_178 : nLk 8 178 YX8_twines := (nW4 202 rfl rfl)
theorem lk_9_77 : nLk 9 77 YX8_mend := (nW4 205 rfl rfl)
theorem lk_8_184 : nLk 8 184 YX8_goesOn := (nW4 209 rfl rfl)
theorem lk_8_187 : nLk 8 187 YX8_isGone := (nW4 213 rfl rfl)
theorem lk_8_190 : nLk 8 190 YX8_ties := (nW4 217 rfl rfl)
theorem lk_8_194 : nLk 8 194 YX8_reaches := (nW4 221 rfl rfl)
theorem lk_9_81 : nLk 9 81 YX8_way := (nW4 225 rfl rfl)
theorem lk_9_85 : nLk 9 85 YX8_taper := (nW4 229 rfl rfl)
theorem lk_9_89 : nLk 9 89 YX8_cycle := (nW4 233 rfl rfl)
theorem lk_9_93 : nLk 9 93 YX8_sew := (nW4 237 rfl rfl)
theorem lk_8_209 : nLk 8 209 YX8_copies := (nW5 1 rfl rfl)
theorem lk_9_97 : nLk 9 97 YX8_match := (nW5 5 rfl rfl)
theorem lk_9_101 : nLk 9 101 YX8_hang := (nW5 9 rfl rfl)
theorem lk_9_106 : nLk 9 106 YX8_parts := (nW5 13 rfl rfl)
theorem lk_9_110 : nLk 9 110 YX8_part := (nW5 17 rfl rfl)
theorem lk_9_114 : nLk 9 114 YX8_open := (nW5 21 rfl rfl)
theorem lk_9_118 : nLk 9 118 YX8_slips := (nW5 25 rfl rfl)
theorem lk_8_213 : nLk 8 213 YX8_open := (nW5 29 rfl rfl)
theorem lk_9_122 : nLk 9 122 YX8_pull := (nW5 30 rfl rfl)
theorem lk_9_126 : nLk 9 126 YX8_load := (nW5 34 rfl rfl)
theorem lk_8_229 : nLk 8 229 YX8_leads := (nW5 38 rfl rfl)
theorem lk_8_225 : nLk 8 225 YX8_sixth := (nW5 42 rfl rfl)
theorem lk_8_233 : nLk 8 233 YX8_lowest := (nW5 46 rfl rfl)
theorem lk_9_131 : nLk 9 131 YX8_sum := (nW5 49 rfl rfl)
theorem lk_9_135 : nLk 9 135 YX8_weak := (nW5 53 rfl rfl)
theorem lk_9_139 : nLk 9 139 YX8_count := (nW5 57 rfl rfl)
theorem lk_9_143 : nLk 9 143 YX8_panelOf := (nW5 61 rfl rfl)
theorem kl_9_7 : Cond.classLink (cNm 9) 7 "NetLoft" ∈ nWs := (nW1 13 rfl rfl)
theorem nn_9_7 : nN 9 7 7 10 := ⟨_, rfl, rfl, kl_9_7, (nW1 14 rfl rfl), (nW1 1 rfl rfl)⟩
theorem kl_7_9 : Cond.classLink (cNm 7) 9 "NetLoft$Panel" ∈ nWs := (nW1 21 rfl rfl)
theorem nn_7_9 : nN 7 9 2 7 := ⟨_, rfl, rfl, kl_7_9, (nW1 176 rfl rfl), (nW1 8 rfl rfl)⟩
theorem kl_7_23 : Cond.classLink (cNm 7) 23 "NetLoft$Hole" ∈ nWs := (nW1 23 rfl rfl)
theorem nn_7_23 : nN 7 23 0 9 := ⟨_, rfl, rfl, kl_7_23, (nW1 24 rfl rfl), (nW1 2 rfl rfl)⟩
theorem kl_0_18 : Cond.classLink (cNm 0) 18 "[[I" ∈ nWs := (nW1 29 rfl rfl)
theorem kl_7_33 : Cond.classLink (cNm 7) 33 "NetLoft$Way" ∈ nWs := (nW1 61 rfl rfl)
theorem nn_7_33 : nN 7 33 6 4 := ⟨_, rfl, rfl, kl_7_33, (nW1 62 rfl rfl), (nW1 3 rfl rfl)⟩
theorem kl_7_40 : Cond.classLink (cNm 7) 40 "NetLoft$Taper" ∈ nWs := (nW1 81 rfl rfl)
theorem nn_7_40 : nN 7 40 5 3 := ⟨_, rfl, rfl, kl_7_40, (nW1 82 rfl rfl), (nW1 4 rfl rfl)⟩
theorem kl_7_47 : Cond.classLink (cNm 7) 47 "NetLoft$Seam" ∈ nWs := (nW1 97 rfl rfl)
theorem nn_7_47 : nN 7 47 4 2 := ⟨_, rfl, rfl, kl_7_47, (nW1 98 rfl rfl), (nW1 5 rfl rfl)⟩
theorem kl_7_54 : Cond.classLink (cNm 7) 54 "NetLoft$Loads" ∈ nWs := (nW1 112 rfl rfl)
theorem nn_7_54 : nN 7 54 1 4 := ⟨_, rfl, rfl, kl_7_54, (nW1 113 rfl rfl), (nW1 6 rfl rfl)⟩
theorem kl_1_9 : Cond.classLink (cNm 1) 9 "[[J" ∈ nWs := (nW1 118 rfl rfl)
theorem kl_2_18 : Cond.classLink (cNm 2) 18 "NetLoft$Row" ∈ nWs := (nW1 181 rfl rfl)
theorem nn_2_18 : nN 2 18 3 7 := ⟨_, rfl, rfl, kl_2_18, (nW1 215 rfl rfl), (nW1 9 rfl rfl)⟩
theorem kl_7_72 : Cond.classLink (cNm 7) 72 "NetLoft$Row" ∈ nWs := (nW1 214 rfl rfl)
theorem nn_7_72 : nN 7 72 3 7 := ⟨_, rfl, rfl, kl_7_72, (nW1 215 rfl rfl), (nW1 9 rfl rfl)⟩
theorem kl_3_10 : Cond.classLink (cNm 3) 10 "NetLoft$Row" ∈ nWs := (nW3 91 rfl rfl)
theorem nn_3_10 : nN 3 10 3 7 := ⟨_, rfl, rfl, kl_3_10, (nW1 215 rfl rfl), (nW1 9 rfl rfl)⟩
theorem kl_9_10 : Cond.classLink (cNm 9) 10 "NetLoftModel" ∈ nWs := (nW3 200 rfl rfl)
theorem nn_9_10 : nN 9 10 8 39 := ⟨_, rfl, rfl, kl_9_10, (nW3 201 rfl rfl), (nW1 7 rfl rfl)⟩
theorem ct_7_68 : Cond.constant (cNm 7) 68 (1000000) ∈ nWs := (nW1 175 rfl rfl)
theorem ct_10_265 : Cond.constant (cNm 10) 265 (1431655765) ∈ nWs := (nW2 125 rfl rfl)
theorem ct_10_266 : Cond.constant (cNm 10) 266 (858993459) ∈ nWs := (nW2 126 rfl rfl)
theorem ct_10_267 : Cond.constant (cNm 10) 267 (252645135) ∈ nWs := (nW2 127 rfl rfl)
theorem ct_8_103 : Cond.constant (cNm 8) 103 (1000000) ∈ nWs := (nW4 88 rfl rfl)
theorem ct_2_77 : Cond.constantLong (cNm 2) 77 (24) ∈ nWs := (nW2 90 rfl rfl)
theorem ct_7_115 : Cond.constantLong (cNm 7) 115 (-1) ∈ nWs := (nW2 105 rfl rfl)
theorem ct_7_121 : Cond.constantLong (cNm 7) 121 (1000000000000) ∈ nWs := (nW2 107 rfl rfl)
theorem ct_1_32 : Cond.constantLong (cNm 1) 32 (609359740010496) ∈ nWs := (nW3 158 rfl rfl)
theorem ct_1_87 : Cond.constantLong (cNm 1) 87 (-1) ∈ nWs := (nW3 184 rfl rfl)
theorem ct_8_129 : Cond.constantLong (cNm 8) 129 (24) ∈ nWs := (nW4 139 rfl rfl)
theorem ct_8_135 : Cond.constantLong (cNm 8) 135 (-1) ∈ nWs := (nW4 145 rfl rfl)
theorem ct_8_137 : Cond.constantLong (cNm 8) 137 (1000000000000) ∈ nWs := (nW4 146 rfl rfl)
theorem ct_8_216 : Cond.constantLong (cNm 8) 216 (6) ∈ nWs := (nW5 45 rfl rfl)
theorem aw_int : Cond.arrayClass .int ∈ nWs := (nW1 60 rfl rfl)
theorem aw_long : Cond.arrayClass .long ∈ nWs := (nW1 136 rfl rfl)
theorem aw_boolean : Cond.arrayClass .boolean ∈ nWs := (nW4 83 rfl rfl)
theorem df_0 : nDf 0 [.int 0, .int 0, .int 0, .int 0, .null, .null, .null, .null, .int 0] := fun q hq => by
  cases hq
  refine ⟨tyX0, tyX0_ok, fun j hj => ?_⟩
  match j, hj with
  | 0, _ => rfl
  | 1, _ => rfl
  | 2, _ => rfl
  | 3, _ => rfl
  | 4, _ => rfl
  | 5, _ => rfl
  | 6, _ => rfl
  | 7, _ => rfl
  | 8, _ => rfl
  | k + 9, hj => exact absurd (show k + 9 < 9 from hj) (by omega)
theorem df_1 : nDf 1 [.long 0, .long 0, .null, .null] := fun q hq => by
  cases hq
  refine ⟨tyX1, tyX1_ok, fun j hj => ?_⟩
  match j, hj with
  | 0, _ => rfl
  | 1, _ => rfl
  | 2, _ => rfl
  | 3, _ => rfl
  | k + 4, hj => exact absurd (show k + 4 < 4 from hj) (by omega)
theorem df_2 : nDf 2 [.int 0, .int 0, .int 0, .int 0, .null, .int 0, .null] := fun q hq => by
  cases hq
  refine ⟨tyX2, tyX2_ok, fun j hj => ?_⟩
  match j, hj with
  | 0, _ => rfl
  | 1, _ => rfl
  | 2, _ => rfl
  | 3, _ => rfl
  | 4, _ => rfl
  | 5, _ => rfl
  | 6, _ => rfl
  | k + 7, hj => exact absurd (show k + 7 < 7 from hj) (by omega)
theorem df_3 : nDf 3 [.int 0, .null, .null, .null, .null, .null, .null] := fun q hq => by
  cases hq
  refine ⟨tyX3, tyX3_ok, fun j hj => ?_⟩
  match j, hj with
  | 0, _ => rfl
  | 1, _ => rfl
  | 2, _ => rfl
  | 3, _ => rfl
  | 4, _ => rfl
  | 5, _ => rfl
  | 6, _ => rfl
  | k + 7, hj => exact absurd (show k + 7 < 7 from hj) (by omega)
theorem df_4 : nDf 4 [.int 0, .null] := fun q hq => by
  cases hq
  refine ⟨tyX4, tyX4_ok, fun j hj => ?_⟩
  match j, hj with
  | 0, _ => rfl
  | 1, _ => rfl
  | k + 2, hj => exact absurd (show k + 2 < 2 from hj) (by omega)
theorem df_5 : nDf 5 [.int 0, .int 0, .int 0] := fun q hq => by
  cases hq
  refine ⟨tyX5, tyX5_ok, fun j hj => ?_⟩
  match j, hj with
  | 0, _ => rfl
  | 1, _ => rfl
  | 2, _ => rfl
  | k + 3, hj => exact absurd (show k + 3 < 3 from hj) (by omega)
theorem df_6 : nDf 6 [.int 0, .null, .null, .int 0] := fun q hq => by
  cases hq
  refine ⟨tyX6, tyX6_ok, fun j hj => ?_⟩
  match j, hj with
  | 0, _ => rfl
  | 1, _ => rfl
  | 2, _ => rfl
  | 3, _ => rfl
  | k + 4, hj => exact absurd (show k + 4 < 4 from hj) (by omega)
theorem df_7 : nDf 7 [.null, .int 0, .null, .int 0, .null, .null, .null, .null, .null, .null] := fun q hq => by
  cases hq
  refine ⟨tyX7, tyX7_ok, fun j hj => ?_⟩
  match j, hj with
  | 0, _ => rfl
  | 1, _ => rfl
  | 2, _ => rfl
  | 3, _ => rfl
  | 4, _ => rfl
  | 5, _ => rfl
  | 6, _ => rfl
  | 7, _ => rfl
  | 8, _ => rfl
  | 9, _ => rfl
  | k + 10, hj => exact absurd (show k + 10 < 10 from hj) (by omega)
theorem df_8 : nDf 8 [.int 0, .int 0, .null, .null, .null, .null, .null, .null, .null, .null, .null, .null, .null, .null, .null, .null, .int 0, .null, .null, .null, .int 0, .int 0, .int 0, .int 0, .int 0, .int 0, .null, .null, .int 0, .null, .null, .int 0, .int 0, .int 0, .int 0, .null, .null, .long 0, .long 0] := fun q hq => by
  cases hq
  refine ⟨tyX8, tyX8_ok, fun j hj => ?_⟩
  match j, hj with
  | 0, _ => rfl
  | 1, _ => rfl
  | 2, _ => rfl
  | 3, _ => rfl
  | 4, _ => rfl
  | 5, _ => rfl
  | 6, _ => rfl
  | 7, _ => rfl
  | 8, _ => rfl
  | 9, _ => rfl
  | 10, _ => rfl
  | 11, _ => rfl
  | 12, _ => rfl
  | 13, _ => rfl
  | 14, _ => rfl
  | 15, _ => rfl
  | 16, _ => rfl
  | 17, _ => rfl
  | 18, _ => rfl
  | 19, _ => rfl
  | 20, _ => rfl
  | 21, _ => rfl
  | 22, _ => rfl
  | 23, _ => rfl
  | 24, _ => rfl
  | 25, _ => rfl
  | 26, _ => rfl
  | 27, _ => rfl
  | 28, _ => rfl
  | 29, _ => rfl
  | 30, _ => rfl
  | 31, _ => rfl
  | 32, _ => rfl
  | 33, _ => rfl
  | 34, _ => rfl
  | 35, _ => rfl
  | 36, _ => rfl
  | 37, _ => rfl
  | 38, _ => rfl
  | k + 39, hj => exact absurd (show k + 39 < 39 from hj) (by omega)
end
section
theorem d_X0_init_0 : nD YX0_init 0 (.aload_n 0) 1 1 0 := ⟨by decide +kernel, rfl, rfl⟩
theorem d_X0_init_1 : nD YX0_init 1 (.invokespecial 3) 3 4 0 := ⟨by decide +kernel, rfl, rfl⟩
theorem d_X0_init_4 : nD YX0_init 4 (.aload_n 0) 1 5 0 := ⟨by decide +kernel, rfl, rfl⟩
theorem d_X0_init_5 : nD YX0_init 5 (.sipush 480) 3 8 0 := ⟨by decide +kernel, rfl, rfl⟩
theorem d_X0_init_8 : nD YX0_init 8 (.newarray .int) 2 10 0 := ⟨by decide +kernel, rfl, rfl⟩
theorem d_X0_init_10 : nD YX0_init 10 (.putfield 9) 3 13 0 := ⟨by decide +kernel, rfl, rfl⟩
theorem d_X0_init_13 : nD YX0_init 13 (.aload_n 0) 1 14 0 := ⟨by decide +kernel, rfl, rfl⟩
theorem d_X0_init_14 : nD YX0_init 14 (.sipush 480) 3 17 0 := ⟨by decide +kernel, rfl, rfl⟩
theorem d_X0_init_17 : nD YX0_init 17 (.newarray .int) 2 19 0 := ⟨by decide +kernel, rfl, rfl⟩
theorem d_X0_init_19 : nD YX0_init 19 (.putfield 15) 3 22 0 := ⟨by decide +kernel, rfl, rfl⟩
theorem d_X0_init_22 : nD YX0_init 22 (.aload_n 0) 1 23 0 := ⟨by decide +kernel, rfl, rfl⟩
theorem d_X0_init_23 : nD YX0_init 23 (.bipush 20) 2 25 0 := ⟨by decide +kernel, rfl, rfl⟩
theorem d_X0_init_25 : nD YX0_init 25 (.bipush 24) 2 27 0 := ⟨by decide +kernel, rfl, rfl⟩
theorem d_X0_init_27 : nD YX0_init 27 (.multianewarray 18 2) 4 31 0 := ⟨by decide +kernel, rfl, rfl⟩
theorem d_X0_init_31 : nD YX0_init 31 (.putfield 20) 3 34 0 := ⟨by decide +kernel, rfl, rfl⟩
theorem d_X0_init_34 : nD YX0_init 34 (.aload_n 0) 1 35 0 := ⟨by decide +kernel, rfl, rfl⟩
theorem d_X0_init_35 : nD YX0_init 35 (.sipush 480) 3 38 0 := ⟨by decide +kernel, rfl, rfl⟩
theorem d_X0_init_38 : nD YX0_init 38 (.newarray .int) 2 40 0 := ⟨by decide +kernel, rfl, rfl⟩
theorem d_X0_init_40 : nD YX0_init 40 (.putfield 23) 3 43 0 := ⟨by decide +kernel, rfl, rfl⟩
theorem d_X0_init_43 : nD YX0_init 43 (.return_) 1 44 0 := ⟨by decide +kernel, rfl, rfl⟩
theorem d_X0_clear_0 : nD YX0_clear 0 (.aload_n 0) 1 1 0 := ⟨by decide +kernel, rfl, rfl⟩
theorem d_X0_clear_1 : nD YX0_clear 1 (.iconst 1) 1 2 0 := ⟨by decide +kernel, rfl, rfl⟩
theorem d_X0_clear_2 : nD YX0_clear 2 (.putfield 51) 3 5 0 := ⟨by decide +kernel, rfl, rfl⟩
theorem d_X0_clear_5 : nD YX0_clear 5 (.aload_n 0) 1 6 0 := ⟨by decide +kernel, rfl, rfl⟩
theorem d_X0_clear_6 : nD YX0_clear 6 (.iconst 0) 1 7 0 := ⟨by decide +kernel, rfl, rfl⟩
theorem d_X0_clear_7 : nD YX0_clear 7 (.putfield 55) 3 10 0 := ⟨by decide +kernel, rfl, rfl⟩
theorem d_X0_clear_10 : nD YX0_clear 10 (.aload_n 0) 1 11 0 := ⟨by decide +kernel, rfl, rfl⟩
theorem d_X0_clear_11 : nD YX0_clear 11 (.iconst 0) 1 12 0 := ⟨by decide +kernel, rfl, rfl⟩
theorem d_X0_clear_12 : nD YX0_clear 12 (.putfield 58) 3 15 0 := ⟨by decide +kernel, rfl, rfl⟩
theorem d_X0_clear_15 : nD YX0_clear 15 (.aload_n 0) 1 16 0 := ⟨by decide +kernel, rfl, rfl⟩
theorem d_X0_clear_16 : nD YX0_clear 16 (.iconst 0) 1 17 0 := ⟨by decide +kernel, rfl, rfl⟩
theorem d_X0_clear_17 : nD YX0_clear 17 (.putfield 61) 3 20 0 := ⟨by decide +kernel, rfl, rfl⟩
theorem d_X0_clear_20 : nD YX0_clear 20 (.aload_n 0) 1 21 0 := ⟨by decide +kernel, rfl, rfl⟩
theorem d_X0_clear_21 : nD YX0_clear 21 (.iconst 0) 1 22 0 := ⟨by decide +kernel, rfl, rfl⟩
theorem d_X0_clear_22 : nD YX0_clear 22 (.putfield 39) 3 25 0 := ⟨by decide +kernel, rfl, rfl⟩
theorem d_X0_clear_25 : nD YX0_clear 25 (.iconst 0) 1 26 0 := ⟨by decide +kernel, rfl, rfl⟩
theorem d_X0_clear_26 : nD YX0_clear 26 (.istore_n 1) 1 27 0 := ⟨by decide +kernel, rfl, rfl⟩
theorem d_X0_clear_27 : nD YX0_clear 27 (.iload_n 1) 1 28 0 := ⟨by decide +kernel, rfl, rfl⟩
theorem d_X0_clear_28 : nD YX0_clear 28 (.bipush 20) 2 30 0 := ⟨by decide +kernel, rfl, rfl⟩
theorem d_X0_clear_30 : nD YX0_clear 30 (.if_icmp .ge 32) 3 33 0 := ⟨by decide +kernel, rfl, rfl⟩
theorem d_X0_clear_33 : nD YX0_clear 33 (.iconst 0) 1 34 0 := ⟨by decide +kernel, rfl, rfl⟩
theorem d_X0_clear_34 : nD YX0_clear 34 (.istore_n 2) 1 35 0 := ⟨by decide +kernel, rfl, rfl⟩
theorem d_X0_clear_35 : nD YX0_clear 35 (.iload_n 2) 1 36 0 := ⟨by decide +kernel, rfl, rfl⟩
theorem d_X0_clear_36 : nD YX0_clear 36 (.bipush 24) 2 38 0 := ⟨by decide +kernel, rfl, rfl⟩
theorem d_X0_clear_38 : nD YX0_clear 38 (.if_icmp .ge 18) 3 41 0 := ⟨by decide +kernel, rfl, rfl⟩
theorem d_X0_clear_41 : nD YX0_clear 41 (.aload_n 0) 1 42 0 := ⟨by decide +kernel, rfl, rfl⟩
theorem d_X0_clear_42 : nD YX0_clear 42 (.getfield 20) 3 45 0 := ⟨by decide +kernel, rfl, rfl⟩
theorem d_X0_clear_45 : nD YX0_clear 45 (.iload_n 1) 1 46 0 := ⟨by decide +kernel, rfl, rfl⟩
theorem d_X0_clear_46 : nD YX0_clear 46 (.aaload) 1 47 0 := ⟨by decide +kernel, rfl, rfl⟩
theorem d_X0_clear_47 : nD YX0_clear 47 (.iload_n 2) 1 48 0 := ⟨by decide +kernel, rfl, rfl⟩
theorem d_X0_clear_48 : nD YX0_clear 48 (.iconst 0) 1 49 0 := ⟨by decide +kernel, rfl, rfl⟩
theorem d_X0_clear_49 : nD YX0_clear 49 (.iastore) 1 50 0 := ⟨by decide +kernel, rfl, rfl⟩
theorem d_X0_clear_50 : nD YX0_clear 50 (.iinc 2 1) 3 53 0 := ⟨by decide +kernel, rfl, rfl⟩
theorem d_X0_clear_53 : nD YX0_clear 53 (.goto (-18)) 3 56 0 := ⟨by decide +kernel, rfl, rfl⟩
theorem d_X0_clear_56 : nD YX0_clear 56 (.iinc 1 1) 3 59 0 := ⟨by decide +kernel, rfl, rfl⟩
theorem d_X0_clear_59 : nD YX0_clear 59 (.goto (-32)) 3 62 0 := ⟨by decide +kernel, rfl, rfl⟩
theorem d_X0_clear_62 : nD YX0_clear 62 (.return_) 1 63 0 := ⟨by decide +kernel, rfl, rfl⟩
theorem d_X7_within_0 : nD YX7_within 0 (.iload_n 0) 1 1 7 := ⟨by decide +kernel, rfl, rfl⟩
theorem d_X7_within_1 : nD YX7_within 1 (.iload_n 1) 1 2 7 := ⟨by decide +kernel, rfl, rfl⟩
theorem d_X7_within_2 : nD YX7_within 2 (.if_icmp .lt 12) 3 5 7 := ⟨by decide +kernel, rfl, rfl⟩
theorem d_X7_within_5 : nD YX7_within 5 (.iload_n 0) 1 6 7 := ⟨by decide +kernel, rfl, rfl⟩
theorem d_X7_within_6 : nD YX7_within 6 (.iload_n 2) 1 7 7 := ⟨by decide +kernel, rfl, rfl⟩
theorem d_X7_within_7 : nD YX7_within 7 (.if_icmp .gt 7) 3 10 7 := ⟨by decide +kernel, rfl, rfl⟩
theorem d_X7_within_10 : nD YX7_within 10 (.iconst 1) 1 11 7 := ⟨by decide +kernel, rfl, rfl⟩
theorem d_X7_within_11 : nD YX7_within 11 (.goto 4) 3 14 7 := ⟨by decide +kernel, rfl, rfl⟩
theorem d_X7_within_14 : nD YX7_within 14 (.iconst 0) 1 15 7 := ⟨by decide +kernel, rfl, rfl⟩
theorem d_X7_within_15 : nD YX7_within 15 (.ireturn) 1 16 7 := ⟨by decide +kernel, rfl, rfl⟩
theorem d_X2_rowAt_0 : nD YX2_rowAt 0 (.iload_n 1) 1 1 2 := ⟨by decide +kernel, rfl, rfl⟩
theorem d_X2_rowAt_1 : nD YX2_rowAt 1 (.iconst 0) 1 2 2 := ⟨by decide +kernel, rfl, rfl⟩
theorem d_X2_rowAt_2 : nD YX2_rowAt 2 (.aload_n 0) 1 3 2 := ⟨by decide +kernel, rfl, rfl⟩
theorem d_X2_rowAt_3 : nD YX2_rowAt 3 (.getfield 34) 3 6 2 := ⟨by decide +kernel, rfl, rfl⟩
theorem d_X2_rowAt_6 : nD YX2_rowAt 6 (.iconst 1) 1 7 2 := ⟨by decide +kernel, rfl, rfl⟩
theorem d_X2_rowAt_7 : nD YX2_rowAt 7 (.isub) 1 8 2 := ⟨by decide +kernel, rfl, rfl⟩
theorem d_X2_rowAt_8 : nD YX2_rowAt 8 (.invokestatic 37) 3 11 2 := ⟨by decide +kernel, rfl, rfl⟩
theorem d_X2_rowAt_11 : nD YX2_rowAt 11 (.ifCond .eq 12) 3 14 2 := ⟨by decide +kernel, rfl, rfl⟩
theorem d_X2_rowAt_14 : nD YX2_rowAt 14 (.aload_n 0) 1 15 2 := ⟨by decide +kernel, rfl, rfl⟩
theorem d_X2_rowAt_15 : nD YX2_rowAt 15 (.getfield 20) 3 18 2 := ⟨by decide +kernel, rfl, rfl⟩
theorem d_X2_rowAt_18 : nD YX2_rowAt 18 (.iload_n 1) 1 19 2 := ⟨by decide +kernel, rfl, rfl⟩
theorem d_X2_rowAt_19 : nD YX2_rowAt 19 (.aaload) 1 20 2 := ⟨by decide +kernel, rfl, rfl⟩
theorem d_X2_rowAt_20 : nD YX2_rowAt 20 (.goto 4) 3 23 2 := ⟨by decide +kernel, rfl, rfl⟩
theorem d_X2_rowAt_23 : nD YX2_rowAt 23 (.aconst_null) 1 24 2 := ⟨by decide +kernel, rfl, rfl⟩
theorem d_X2_rowAt_24 : nD YX2_rowAt 24 (.areturn) 1 25 2 := ⟨by decide +kernel, rfl, rfl⟩
theorem d_X3_has_0 : nD YX3_has 0 (.iload_n 1) 1 1 3 := ⟨by decide +kernel, rfl, rfl⟩
theorem d_X3_has_1 : nD YX3_has 1 (.iconst 0) 1 2 3 := ⟨by decide +kernel, rfl, rfl⟩
theorem d_X3_has_2 : nD YX3_has 2 (.aload_n 0) 1 3 3 := ⟨by decide +kernel, rfl, rfl⟩
theorem d_X3_has_3 : nD YX3_has 3 (.getfield 30) 3 6 3 := ⟨by decide +kernel, rfl, rfl⟩
theorem d_X3_has_6 : nD YX3_has 6 (.iconst 1) 1 7 3 := ⟨by decide +kernel, rfl, rfl⟩
theorem d_X3_has_7 : nD YX3_has 7 (.isub) 1 8 3 := ⟨by decide +kernel, rfl, rfl⟩
theorem d_X3_has_8 : nD YX3_has 8 (.invokestatic 43) 3 11 3 := ⟨by decide +kernel, rfl, rfl⟩
theorem d_X3_has_11 : nD YX3_has 11 (.ireturn) 1 12 3 := ⟨by decide +kernel, rfl, rfl⟩
theorem d_X2_rowWith_0 : nD YX2_rowWith 0 (.aload_n 0) 1 1 2 := ⟨by decide +kernel, rfl, rfl⟩
theorem d_X2_rowWith_1 : nD YX2_rowWith 1 (.iload_n 1) 1 2 2 := ⟨by decide +kernel, rfl, rfl⟩
theorem d_X2_rowWith_2 : nD YX2_rowWith 2 (.invokevirtual 41) 3 5 2 := ⟨by decide +kernel, rfl, rfl⟩
theorem d_X2_rowWith_5 : nD YX2_rowWith 5 (.astore_n 3) 1 6 2 := ⟨by decide +kernel, rfl, rfl⟩
theorem d_X2_rowWith_6 : nD YX2_rowWith 6 (.aload_n 3) 1 7 2 := ⟨by decide +kernel, rfl, rfl⟩
theorem d_X2_rowWith_7 : nD YX2_rowWith 7 (.ifnull 15) 3 10 2 := ⟨by decide +kernel, rfl, rfl⟩
theorem d_X2_rowWith_10 : nD YX2_rowWith 10 (.aload_n 3) 1 11 2 := ⟨by decide +kernel, rfl, rfl⟩
theorem d_X2_rowWith_11 : nD YX2_rowWith 11 (.iload_n 2) 1 12 2 := ⟨by decide +kernel, rfl, rfl⟩
theorem d_X2_rowWith_12 : nD YX2_rowWith 12 (.invokevirtual 45) 3 15 2 := ⟨by decide +kernel, rfl, rfl⟩
theorem d_X2_rowWith_15 : nD YX2_rowWith 15 (.ifCond .eq 7) 3 18 2 := ⟨by decide +kernel, rfl, rfl⟩
theorem d_X2_rowWith_18 : nD YX2_rowWith 18 (.aload_n 3) 1 19 2 := ⟨by decide +kernel, rfl, rfl⟩
theorem d_X2_rowWith_19 : nD YX2_rowWith 19 (.goto 4) 3 22 2 := ⟨by decide +kernel, rfl, rfl⟩
theorem d_X2_rowWith_22 : nD YX2_rowWith 22 (.aconst_null) 1 23 2 := ⟨by decide +kernel, rfl, rfl⟩
theorem d_X2_rowWith_23 : nD YX2_rowWith 23 (.areturn) 1 24 2 := ⟨by decide +kernel, rfl, rfl⟩
theorem d_J6_bitCount_0f7a4_0 : nD YJ6_bitCount_0f7a4 0 (.iload_n 0) 1 1 10 := ⟨by decide +kernel, rfl, rfl⟩
theorem d_J6_bitCount_0f7a4_1 : nD YJ6_bitCount_0f7a4 1 (.iload_n 0) 1 2 10 := ⟨by decide +kernel, rfl, rfl⟩
theorem d_J6_bitCount_0f7a4_2 : nD YJ6_bitCount_0f7a4 2 (.iconst 1) 1 3 10 := ⟨by decide +kernel, rfl, rfl⟩
theorem d_J6_bitCount_0f7a4_3 : nD YJ6_bitCount_0f7a4 3 (.iushr) 1 4 10 := ⟨by decide +kernel, rfl, rfl⟩
theorem d_J6_bitCount_0f7a4_4 : nD YJ6_bitCount_0f7a4 4 (.ldc_w 265) 3 7 10 := ⟨by decide +kernel, rfl, rfl⟩
theorem d_J6_bitCount_0f7a4_7 : nD YJ6_bitCount_0f7a4 7 (.iand) 1 8 10 := ⟨by decide +kernel, rfl, rfl⟩
theorem d_J6_bitCount_0f7a4_8 : nD YJ6_bitCount_0f7a4 8 (.isub) 1 9 10 := ⟨by decide +kernel, rfl, rfl⟩
theorem d_J6_bitCount_0f7a4_9 : nD YJ6_bitCount_0f7a4 9 (.istore_n 0) 1 10 10 := ⟨by decide +kernel, rfl, rfl⟩
theorem d_J6_bitCount_0f7a4_10 : nD YJ6_bitCount_0f7a4 10 (.iload_n 0) 1 11 10 := ⟨by decide +kernel, rfl, rfl⟩
theorem d_J6_bitCount_0f7a4_11 : nD YJ6_bitCount_0f7a4 11 (.ldc_w 266) 3 14 10 := ⟨by decide +kernel, rfl, rfl⟩
theorem d_J6_bitCount_0f7a4_14 : nD YJ6_bitCount_0f7a4 14 (.iand) 1 15 10 := ⟨by decide +kernel, rfl, rfl⟩
theorem d_J6_bitCount_0f7a4_15 : nD YJ6_bitCount_0f7a4 15 (.iload_n 0) 1 16 10 := ⟨by decide +kernel, rfl, rfl⟩
theorem d_J6_bitCount_0f7a4_16 : nD YJ6_bitCount_0f7a4 16 (.iconst 2) 1 17 10 := ⟨by decide +kernel, rfl, rfl⟩
theorem d_J6_bitCount_0f7a4_17 : nD YJ6_bitCount_0f7a4 17 (.iushr) 1 18 10 := ⟨by decide +kernel, rfl, rfl⟩
theorem d_J6_bitCount_0f7a4_18 : nD YJ6_bitCount_0f7a4 18 (.ldc_w 266) 3 21 10 := ⟨by decide +kernel, rfl, rfl⟩
theorem d_J6_bitCount_0f7a4_21 : nD YJ6_bitCount_0f7a4 21 (.iand) 1 22 10 := ⟨by decide +kernel, rfl, rfl⟩
theorem d_J6_bitCount_0f7a4_22 : nD YJ6_bitCount_0f7a4 22 (.iadd) 1 23 10 := ⟨by decide +kernel, rfl, rfl⟩
theorem d_J6_bitCount_0f7a4_23 : nD YJ6_bitCount_0f7a4 23 (.istore_n 0) 1 24 10 := ⟨by decide +kernel, rfl, rfl⟩
theorem d_J6_bitCount_0f7a4_24 : nD YJ6_bitCount_0f7a4 24 (.iload_n 0) 1 25 10 := ⟨by decide +kernel, rfl, rfl⟩
theorem d_J6_bitCount_0f7a4_25 : nD YJ6_bitCount_0f7a4 25 (.iload_n 0) 1 26 10 := ⟨by decide +kernel, rfl, rfl⟩
theorem d_J6_bitCount_0f7a4_26 : nD YJ6_bitCount_0f7a4 26 (.iconst 4) 1 27 10 := ⟨by decide +kernel, rfl, rfl⟩
theorem d_J6_bitCount_0f7a4_27 : nD YJ6_bitCount_0f7a4 27 (.iushr) 1 28 10 := ⟨by decide +kernel, rfl, rfl⟩
theorem d_J6_bitCount_0f7a4_28 : nD YJ6_bitCount_0f7a4 28 (.iadd) 1 29 10 := ⟨by decide +kernel, rfl, rfl⟩
theorem d_J6_bitCount_0f7a4_29 : nD YJ6_bitCount_0f7a4 29 (.ldc_w 267) 3 32 10 := ⟨by decide +kernel, rfl, rfl⟩
theorem d_J6_bitCount_0f7a4_32 : nD YJ6_bitCount_0f7a4 32 (.iand) 1 33 10 := ⟨by decide +kernel, rfl, rfl⟩
theorem d_J6_bitCount_0f7a4_33 : nD YJ6_bitCount_0f7a4 33 (.istore_n 0) 1 34 10 := ⟨by decide +kernel, rfl, rfl⟩
theorem d_J6_bitCount_0f7a4_34 : nD YJ6_bitCount_0f7a4 34 (.iload_n 0) 1 35 10 := ⟨by decide +kernel, rfl, rfl⟩
theorem d_J6_bitCount_0f7a4_35 : nD YJ6_bitCount_0f7a4 35 (.iload_n 0) 1 36 10 := ⟨by decide +kernel, rfl, rfl⟩
theorem d_J6_bitCount_0f7a4_36 : nD YJ6_bitCount_0f7a4 36 (.bipush 8) 2 38 10 := ⟨by decide +kernel, rfl, rfl⟩
theorem d_J6_bitCount_0f7a4_38 : nD YJ6_bitCount_0f7a4 38 (.iushr) 1 39 10 := ⟨by decide +kernel, rfl, rfl⟩
theorem d_J6_bitCount_0f7a4_39 : nD YJ6_bitCount_0f7a4 39 (.iadd) 1 40 10 := ⟨by decide +kernel, rfl, rfl⟩
theorem d_J6_bitCount_0f7a4_40 : nD YJ6_bitCount_0f7a4 40 (.istore_n 0) 1 41 10 := ⟨by decide +kernel, rfl, rfl⟩
theorem d_J6_bitCount_0f7a4_41 : nD YJ6_bitCount_0f7a4 41 (.iload_n 0) 1 42 10 := ⟨by decide +kernel, rfl, rfl⟩
theorem d_J6_bitCount_0f7a4_42 : nD YJ6_bitCount_0f7a4 42 (.iload_n 0) 1 43 10 := ⟨by decide +kernel, rfl, rfl⟩
theorem d_J6_bitCount_0f7a4_43 : nD YJ6_bitCount_0f7a4 43 (.bipush 16) 2 45 10 := ⟨by decide +kernel, rfl, rfl⟩
theorem d_J6_bitCount_0f7a4_45 : nD YJ6_bitCount_0f7a4 45 (.iushr) 1 46 10 := ⟨by decide +kernel, rfl, rfl⟩
theorem d_J6_bitCount_0f7a4_46 : nD YJ6_bitCount_0f7a4 46 (.iadd) 1 47 10 := ⟨by decide +kernel, rfl, rfl⟩
theorem d_J6_bitCount_0f7a4_47 : nD YJ6_bitCount_0f7a4 47 (.istore_n 0) 1 48 10 := ⟨by decide +kernel, rfl, rfl⟩
theorem d_J6_bitCount_0f7a4_48 : nD YJ6_bitCount_0f7a4 48 (.iload_n 0) 1 49 10 := ⟨by decide +kernel, rfl, rfl⟩
theorem d_J6_bitCount_0f7a4_49 : nD YJ6_bitCount_0f7a4 49 (.bipush 63) 2 51 10 := ⟨by decide +kernel, rfl, rfl⟩
theorem d_J6_bitCount_0f7a4_51 : nD YJ6_bitCount_0f7a4 51 (.iand) 1 52 10 := ⟨by decide +kernel, rfl, rfl⟩
theorem d_J6_bitCount_0f7a4_52 : nD YJ6_bitCount_0f7a4 52 (.ireturn) 1 53 10 := ⟨by decide +kernel, rfl, rfl⟩
theorem d_X3_hangsBy_0 : nD YX3_hangsBy 0 (.iload_n 2) 1 1 3 := ⟨by decide +kernel, rfl, rfl⟩
theorem d_X3_hangsBy_1 : nD YX3_hangsBy 1 (.aload_n 0) 1 2 3 := ⟨by decide +kernel, rfl, rfl⟩
theorem d_X3_hangsBy_2 : nD YX3_hangsBy 2 (.getfield 21) 3 5 3 := ⟨by decide +kernel, rfl, rfl⟩
theorem d_X3_hangsBy_5 : nD YX3_hangsBy 5 (.iload_n 1) 1 6 3 := ⟨by decide +kernel, rfl, rfl⟩
theorem d_X3_hangsBy_6 : nD YX3_hangsBy 6 (.iaload) 1 7 3 := ⟨by decide +kernel, rfl, rfl⟩
theorem d_X3_hangsBy_7 : nD YX3_hangsBy 7 (.isub) 1 8 3 := ⟨by decide +kernel, rfl, rfl⟩
theorem d_X3_hangsBy_8 : nD YX3_hangsBy 8 (.iconst 0) 1 9 3 := ⟨by decide +kernel, rfl, rfl⟩
theorem d_X3_hangsBy_9 : nD YX3_hangsBy 9 (.aload_n 0) 1 10 3 := ⟨by decide +kernel, rfl, rfl⟩
theorem d_X3_hangsBy_10 : nD YX3_hangsBy 10 (.getfield 24) 3 13 3 := ⟨by decide +kernel, rfl, rfl⟩
theorem d_X3_hangsBy_13 : nD YX3_hangsBy 13 (.iload_n 1) 1 14 3 := ⟨by decide +kernel, rfl, rfl⟩
theorem d_X3_hangsBy_14 : nD YX3_hangsBy 14 (.iaload) 1 15 3 := ⟨by decide +kernel, rfl, rfl⟩
theorem d_X3_hangsBy_15 : nD YX3_hangsBy 15 (.iconst 1) 1 16 3 := ⟨by decide +kernel, rfl, rfl⟩
theorem d_X3_hangsBy_16 : nD YX3_hangsBy 16 (.isub) 1 17 3 := ⟨by decide +kernel, rfl, rfl⟩
theorem d_X3_hangsBy_17 : nD YX3_hangsBy 17 (.invokestatic 43) 3 20 3 := ⟨by decide +kernel, rfl, rfl⟩
theorem d_X3_hangsBy_20 : nD YX3_hangsBy 20 (.ireturn) 1 21 3 := ⟨by decide +kernel, rfl, rfl⟩
theorem d_X3_sideIsGone_0 : nD YX3_sideIsGone 0 (.aload_n 0) 1 1 3 := ⟨by decide +kernel, rfl, rfl⟩
theorem d_X3_sideIsGone_1 : nD YX3_sideIsGone 1 (.getfield 27) 3 4 3 := ⟨by decide +kernel, rfl, rfl⟩
theorem d_X3_sideIsGone_4 : nD YX3_sideIsGone 4 (.iload_n 1) 1 5 3 := ⟨by decide +kernel, rfl, rfl⟩
theorem d_X3_sideIsGone_5 : nD YX3_sideIsGone 5 (.iaload) 1 6 3 := ⟨by decide +kernel, rfl, rfl⟩
theorem d_X3_sideIsGone_6 : nD YX3_sideIsGone 6 (.iload_n 2) 1 7 3 := ⟨by decide +kernel, rfl, rfl⟩
theorem d_X3_sideIsGone_7 : nD YX3_sideIsGone 7 (.ishr) 1 8 3 := ⟨by decide +kernel, rfl, rfl⟩
theorem d_X3_sideIsGone_8 : nD YX3_sideIsGone 8 (.iconst 1) 1 9 3 := ⟨by decide +kernel, rfl, rfl⟩
theorem d_X3_sideIsGone_9 : nD YX3_sideIsGone 9 (.iand) 1 10 3 := ⟨by decide +kernel, rfl, rfl⟩
theorem d_X3_sideIsGone_10 : nD YX3_sideIsGone 10 (.iconst 1) 1 11 3 := ⟨by decide +kernel, rfl, rfl⟩
theorem d_X3_sideIsGone_11 : nD YX3_sideIsGone 11 (.if_icmp .ne 7) 3 14 3 := ⟨by decide +kernel, rfl, rfl⟩
theorem d_X3_sideIsGone_14 : nD YX3_sideIsGone 14 (.iconst 1) 1 15 3 := ⟨by decide +kernel, rfl, rfl⟩
theorem d_X3_sideIsGone_15 : nD YX3_sideIsGone 15 (.goto 4) 3 18 3 := ⟨by decide +kernel, rfl, rfl⟩
theorem d_X3_sideIsGone_18 : nD YX3_sideIsGone 18 (.iconst 0) 1 19 3 := ⟨by decide +kernel, rfl, rfl⟩
theorem d_X3_sideIsGone_19 : nD YX3_sideIsGone 19 (.ireturn) 1 20 3 := ⟨by decide +kernel, rfl, rfl⟩
theorem d_X3_isGone_0 : nD YX3_isGone 0 (.aload_n 0) 1 1 3 := ⟨by decide +kernel, rfl, rfl⟩
theorem d_X3_isGone_1 : nD YX3_isGone 1 (.iload_n 1) 1 2 3 := ⟨by decide +kernel, rfl, rfl⟩
theorem d_X3_isGone_2 : nD YX3_isGone 2 (.iload_n 2) 1 3 3 := ⟨by decide +kernel, rfl, rfl⟩
theorem d_X3_isGone_3 : nD YX3_isGone 3 (.invokevirtual 55) 3 6 3 := ⟨by decide +kernel, rfl, rfl⟩
theorem d_X3_isGone_6 : nD YX3_isGone 6 (.ifCond .eq 23) 3 9 3 := ⟨by decide +kernel, rfl, rfl⟩
theorem d_X3_isGone_9 : nD YX3_isGone 9 (.aload_n 0) 1 10 3 := ⟨by decide +kernel, rfl, rfl⟩
theorem d_X3_isGone_10 : nD YX3_isGone 10 (.iload_n 1) 1 11 3 := ⟨by decide +kernel, rfl, rfl⟩
theorem d_X3_isGone_11 : nD YX3_isGone 11 (.iload_n 2) 1 12 3 := ⟨by decide +kernel, rfl, rfl⟩
theorem d_X3_isGone_12 : nD YX3_isGone 12 (.aload_n 0) 1 13 3 := ⟨by decide +kernel, rfl, rfl⟩
theorem d_X3_isGone_13 : nD YX3_isGone 13 (.getfield 21) 3 16 3 := ⟨by decide +kernel, rfl, rfl⟩
theorem d_X3_isGone_16 : nD YX3_isGone 16 (.iload_n 1) 1 17 3 := ⟨by decide +kernel, rfl, rfl⟩
theorem d_X3_isGone_17 : nD YX3_isGone 17 (.iaload) 1 18 3 := ⟨by decide +kernel, rfl, rfl⟩
theorem d_X3_isGone_18 : nD YX3_isGone 18 (.isub) 1 19 3 := ⟨by decide +kernel, rfl, rfl⟩
theorem d_X3_isGone_19 : nD YX3_isGone 19 (.invokevirtual 59) 3 22 3 := ⟨by decide +kernel, rfl, rfl⟩
theorem d_X3_isGone_22 : nD YX3_isGone 22 (.ifCond .eq 7) 3 25 3 := ⟨by decide +kernel, rfl, rfl⟩
theorem d_X3_isGone_25 : nD YX3_isGone 25 (.iconst 1) 1 26 3 := ⟨by decide +kernel, rfl, rfl⟩
theorem d_X3_isGone_26 : nD YX3_isGone 26 (.goto 4) 3 29 3 := ⟨by decide +kernel, rfl, rfl⟩
theorem d_X3_isGone_29 : nD YX3_isGone 29 (.iconst 0) 1 30 3 := ⟨by decide +kernel, rfl, rfl⟩
theorem d_X3_isGone_30 : nD YX3_isGone 30 (.ireturn) 1 31 3 := ⟨by decide +kernel, rfl, rfl⟩
theorem d_X2_goneSidesAt_0 : nD YX2_goneSidesAt 0 (.aload_n 0) 1 1 2 := ⟨by decide +kernel, rfl, rfl⟩
theorem d_X2_goneSidesAt_1 : nD YX2_goneSidesAt 1 (.iload_n 1) 1 2 2 := ⟨by decide +kernel, rfl, rfl⟩
theorem d_X2_goneSidesAt_2 : nD YX2_goneSidesAt 2 (.iload_n 2) 1 3 2 := ⟨by decide +kernel, rfl, rfl⟩
theorem d_X2_goneSidesAt_3 : nD YX2_goneSidesAt 3 (.invokevirtual 86) 3 6 2 := ⟨by decide +kernel, rfl, rfl⟩
theorem d_X2_goneSidesAt_6 : nD YX2_goneSidesAt 6 (.astore_n 3) 1 7 2 := ⟨by decide +kernel, rfl, rfl⟩
theorem d_X2_goneSidesAt_7 : nD YX2_goneSidesAt 7 (.aload_n 3) 1 8 2 := ⟨by decide +kernel, rfl, rfl⟩
theorem d_X2_goneSidesAt_8 : nD YX2_goneSidesAt 8 (.ifnonnull 5) 3 11 2 := ⟨by decide +kernel, rfl, rfl⟩
theorem d_X2_goneSidesAt_11 : nD YX2_goneSidesAt 11 (.iconst 0) 1 12 2 := ⟨by decide +kernel, rfl, rfl⟩
theorem d_X2_goneSidesAt_12 : nD YX2_goneSidesAt 12 (.ireturn) 1 13 2 := ⟨by decide +kernel, rfl, rfl⟩
theorem d_X2_goneSidesAt_13 : nD YX2_goneSidesAt 13 (.aload_n 3) 1 14 2 := ⟨by decide +kernel, rfl, rfl⟩
theorem d_X2_goneSidesAt_14 : nD YX2_goneSidesAt 14 (.getfield 90) 3 17 2 := ⟨by decide +kernel, rfl, rfl⟩
theorem d_X2_goneSidesAt_17 : nD YX2_goneSidesAt 17 (.iload_n 2) 1 18 2 := ⟨by decide +kernel, rfl, rfl⟩
theorem d_X2_goneSidesAt_18 : nD YX2_goneSidesAt 18 (.iaload) 1 19 2 := ⟨by decide +kernel, rfl, rfl⟩
theorem d_X2_goneSidesAt_19 : nD YX2_goneSidesAt 19 (.invokestatic 93) 3 22 2 := ⟨by decide +kernel, rfl, rfl⟩
theorem d_X2_goneSidesAt_22 : nD YX2_goneSidesAt 22 (.istore 4) 2 24 2 := ⟨by decide +kernel, rfl, rfl⟩
theorem d_X2_goneSidesAt_24 : nD YX2_goneSidesAt 24 (.aload_n 0) 1 25 2 := ⟨by decide +kernel, rfl, rfl⟩
theorem d_X2_goneSidesAt_25 : nD YX2_goneSidesAt 25 (.iload_n 1) 1 26 2 := ⟨by decide +kernel, rfl, rfl⟩
theorem d_X2_goneSidesAt_26 : nD YX2_goneSidesAt 26 (.iconst 1) 1 27 2 := ⟨by decide +kernel, rfl, rfl⟩
theorem d_X2_goneSidesAt_27 : nD YX2_goneSidesAt 27 (.iadd) 1 28 2 := ⟨by decide +kernel, rfl, rfl⟩
theorem d_X2_goneSidesAt_28 : nD YX2_goneSidesAt 28 (.invokevirtual 41) 3 31 2 := ⟨by decide +kernel, rfl, rfl⟩
theorem d_X2_goneSidesAt_31 : nD YX2_goneSidesAt 31 (.astore 5) 2 33 2 := ⟨by decide +kernel, rfl, rfl⟩
theorem d_X2_goneSidesAt_33 : nD YX2_goneSidesAt 33 (.iconst 0) 1 34 2 := ⟨by decide +kernel, rfl, rfl⟩
theorem d_X2_goneSidesAt_34 : nD YX2_goneSidesAt 34 (.istore 6) 2 36 2 := ⟨by decide +kernel, rfl, rfl⟩
theorem d_X2_goneSidesAt_36 : nD YX2_goneSidesAt 36 (.aload 5) 2 38 2 := ⟨by decide +kernel, rfl, rfl⟩
theorem d_X2_goneSidesAt_38 : nD YX2_goneSidesAt 38 (.ifnull 40) 3 41 2 := ⟨by decide +kernel, rfl, rfl⟩
theorem d_X2_goneSidesAt_41 : nD YX2_goneSidesAt 41 (.iload 6) 2 43 2 := ⟨by decide +kernel, rfl, rfl⟩
theorem d_X2_goneSidesAt_43 : nD YX2_goneSidesAt 43 (.aload 5) 2 45 2 := ⟨by decide +kernel, rfl, rfl⟩
theorem d_X2_goneSidesAt_45 : nD YX2_goneSidesAt 45 (.getfield 70) 3 48 2 := ⟨by decide +kernel, rfl, rfl⟩
theorem d_X2_goneSidesAt_48 : nD YX2_goneSidesAt 48 (.if_icmp .ge 30) 3 51 2 := ⟨by decide +kernel, rfl, rfl⟩
theorem d_X2_goneSidesAt_51 : nD YX2_goneSidesAt 51 (.iload 4) 2 53 2 := ⟨by decide +kernel, rfl, rfl⟩
theorem d_X2_goneSidesAt_53 : nD YX2_goneSidesAt 53 (.aload 5) 2 55 2 := ⟨by decide +kernel, rfl, rfl⟩
theorem d_X2_goneSidesAt_55 : nD YX2_goneSidesAt 55 (.iload 6) 2 57 2 := ⟨by decide +kernel, rfl, rfl⟩
theorem d_X2_goneSidesAt_57 : nD YX2_goneSidesAt 57 (.iload_n 2) 1 58 2 := ⟨by decide +kernel, rfl, rfl⟩
theorem d_X2_goneSidesAt_58 : nD YX2_goneSidesAt 58 (.invokevirtual 99) 3 61 2 := ⟨by decide +kernel, rfl, rfl⟩
theorem d_X2_goneSidesAt_61 : nD YX2_goneSidesAt 61 (.ifCond .eq 7) 3 64 2 := ⟨by decide +kernel, rfl, rfl⟩
theorem d_X2_goneSidesAt_64 : nD YX2_goneSidesAt 64 (.iconst 1) 1 65 2 := ⟨by decide +kernel, rfl, rfl⟩
theorem d_X2_goneSidesAt_65 : nD YX2_goneSidesAt 65 (.goto 4) 3 68 2 := ⟨by decide +kernel, rfl, rfl⟩
theorem d_X2_goneSidesAt_68 : nD YX2_goneSidesAt 68 (.iconst 0) 1 69 2 := ⟨by decide +kernel, rfl, rfl⟩
theorem d_X2_goneSidesAt_69 : nD YX2_goneSidesAt 69 (.iadd) 1 70 2 := ⟨by decide +kernel, rfl, rfl⟩
theorem d_X2_goneSidesAt_70 : nD YX2_goneSidesAt 70 (.istore 4) 2 72 2 := ⟨by decide +kernel, rfl, rfl⟩
theorem d_X2_goneSidesAt_72 : nD YX2_goneSidesAt 72 (.iinc 6 1) 3 75 2 := ⟨by decide +kernel, rfl, rfl⟩
theorem d_X2_goneSidesAt_75 : nD YX2_goneSidesAt 75 (.goto (-39)) 3 78 2 := ⟨by decide +kernel, rfl, rfl⟩
theorem d_X2_goneSidesAt_78 : nD YX2_goneSidesAt 78 (.iload 4) 2 80 2 := ⟨by decide +kernel, rfl, rfl⟩
theorem d_X2_goneSidesAt_80 : nD YX2_goneSidesAt 80 (.ireturn) 1 81 2 := ⟨by decide +kernel, rfl, rfl⟩
theorem d_X0_reach_0 : nD YX0_reach 0 (.iload_n 1) 1 1 0 := ⟨by decide +kernel, rfl, rfl⟩
theorem d_X0_reach_1 : nD YX0_reach 1 (.iconst 0) 1 2 0 := ⟨by decide +kernel, rfl, rfl⟩
theorem d_X0_reach_2 : nD YX0_reach 2 (.bipush 19) 2 4 0 := ⟨by decide +kernel, rfl, rfl⟩
theorem d_X0_reach_4 : nD YX0_reach 4 (.invokestatic 64) 3 7 0 := ⟨by decide +kernel, rfl, rfl⟩
theorem d_X0_reach_7 : nD YX0_reach 7 (.ifCond .eq 13) 3 10 0 := ⟨by decide +kernel, rfl, rfl⟩
theorem d_X0_reach_10 : nD YX0_reach 10 (.aload_n 0) 1 11 0 := ⟨by decide +kernel, rfl, rfl⟩
theorem d_X0_reach_11 : nD YX0_reach 11 (.getfield 39) 3 14 0 := ⟨by decide +kernel, rfl, rfl⟩
theorem d_X0_reach_14 : nD YX0_reach 14 (.sipush 480) 3 17 0 := ⟨by decide +kernel, rfl, rfl⟩
theorem d_X0_reach_17 : nD YX0_reach 17 (.if_icmp .lt 4) 3 20 0 := ⟨by decide +kernel, rfl, rfl⟩
theorem d_X0_reach_20 : nD YX0_reach 20 (.return_) 1 21 0 := ⟨by decide +kernel, rfl, rfl⟩
theorem d_X0_reach_21 : nD YX0_reach 21 (.aload_n 0) 1 22 0 := ⟨by decide +kernel, rfl, rfl⟩
theorem d_X0_reach_22 : nD YX0_reach 22 (.getfield 20) 3 25 0 := ⟨by decide +kernel, rfl, rfl⟩
theorem d_X0_reach_25 : nD YX0_reach 25 (.iload_n 1) 1 26 0 := ⟨by decide +kernel, rfl, rfl⟩
theorem d_X0_reach_26 : nD YX0_reach 26 (.aaload) 1 27 0 := ⟨by decide +kernel, rfl, rfl⟩
theorem d_X0_reach_27 : nD YX0_reach 27 (.iload_n 2) 1 28 0 := ⟨by decide +kernel, rfl, rfl⟩
theorem d_X0_reach_28 : nD YX0_reach 28 (.iaload) 1 29 0 := ⟨by decide +kernel, rfl, rfl⟩
theorem d_X0_reach_29 : nD YX0_reach 29 (.ifCond .ne 37) 3 32 0 := ⟨by decide +kernel, rfl, rfl⟩
theorem d_X0_reach_32 : nD YX0_reach 32 (.aload_n 0) 1 33 0 := ⟨by decide +kernel, rfl, rfl⟩
theorem d_X0_reach_33 : nD YX0_reach 33 (.getfield 20) 3 36 0 := ⟨by decide +kernel, rfl, rfl⟩
theorem d_X0_reach_36 : nD YX0_reach 36 (.iload_n 1) 1 37 0 := ⟨by decide +kernel, rfl, rfl⟩
theorem d_X0_reach_37 : nD YX0_reach 37 (.aaload) 1 38 0 := ⟨by decide +kernel, rfl, rfl⟩
theorem d_X0_reach_38 : nD YX0_reach 38 (.iload_n 2) 1 39 0 := ⟨by decide +kernel, rfl, rfl⟩
theorem d_X0_reach_39 : nD YX0_reach 39 (.iconst 1) 1 40 0 := ⟨by decide +kernel, rfl, rfl⟩
theorem d_X0_reach_40 : nD YX0_reach 40 (.iastore) 1 41 0 := ⟨by decide +kernel, rfl, rfl⟩
theorem d_X0_reach_41 : nD YX0_reach 41 (.aload_n 0) 1 42 0 := ⟨by decide +kernel, rfl, rfl⟩
theorem d_X0_reach_42 : nD YX0_reach 42 (.getfield 23) 3 45 0 := ⟨by decide +kernel, rfl, rfl⟩
theorem d_X0_reach_45 : nD YX0_reach 45 (.aload_n 0) 1 46 0 := ⟨by decide +kernel, rfl, rfl⟩
theorem d_X0_reach_46 : nD YX0_reach 46 (.getfield 39) 3 49 0 := ⟨by decide +kernel, rfl, rfl⟩
theorem d_X0_reach_49 : nD YX0_reach 49 (.bipush 100) 2 51 0 := ⟨by decide +kernel, rfl, rfl⟩
theorem d_X0_reach_51 : nD YX0_reach 51 (.iload_n 1) 1 52 0 := ⟨by decide +kernel, rfl, rfl⟩
theorem d_X0_reach_52 : nD YX0_reach 52 (.imul) 1 53 0 := ⟨by decide +kernel, rfl, rfl⟩
theorem d_X0_reach_53 : nD YX0_reach 53 (.iload_n 2) 1 54 0 := ⟨by decide +kernel, rfl, rfl⟩
theorem d_X0_reach_54 : nD YX0_reach 54 (.iadd) 1 55 0 := ⟨by decide +kernel, rfl, rfl⟩
theorem d_X0_reach_55 : nD YX0_reach 55 (.iastore) 1 56 0 := ⟨by decide +kernel, rfl, rfl⟩
theorem d_X0_reach_56 : nD YX0_reach 56 (.aload_n 0) 1 57 0 := ⟨by decide +kernel, rfl, rfl⟩
theorem d_X0_reach_57 : nD YX0_reach 57 (.dup) 1 58 0 := ⟨by decide +kernel, rfl, rfl⟩
theorem d_X0_reach_58 : nD YX0_reach 58 (.getfield 39) 3 61 0 := ⟨by decide +kernel, rfl, rfl⟩
theorem d_X0_reach_61 : nD YX0_reach 61 (.iconst 1) 1 62 0 := ⟨by decide +kernel, rfl, rfl⟩
theorem d_X0_reach_62 : nD YX0_reach 62 (.iadd) 1 63 0 := ⟨by decide +kernel, rfl, rfl⟩
theorem d_X0_reach_63 : nD YX0_reach 63 (.putfield 39) 3 66 0 := ⟨by decide +kernel, rfl, rfl⟩
theorem d_X0_reach_66 : nD YX0_reach 66 (.return_) 1 67 0 := ⟨by decide +kernel, rfl, rfl⟩
theorem d_X0_reachFrom_0 : nD YX0_reachFrom 0 (.aload_n 1) 1 1 0 := ⟨by decide +kernel, rfl, rfl⟩
theorem d_X0_reachFrom_1 : nD YX0_reachFrom 1 (.iload_n 2) 1 2 0 := ⟨by decide +kernel, rfl, rfl⟩
theorem d_X0_reachFrom_2 : nD YX0_reachFrom 2 (.invokevirtual 68) 3 5 0 := ⟨by decide +kernel, rfl, rfl⟩
theorem d_X0_reachFrom_5 : nD YX0_reachFrom 5 (.astore 4) 2 7 0 := ⟨by decide +kernel, rfl, rfl⟩
theorem d_X0_reachFrom_7 : nD YX0_reachFrom 7 (.iconst 0) 1 8 0 := ⟨by decide +kernel, rfl, rfl⟩
theorem d_X0_reachFrom_8 : nD YX0_reachFrom 8 (.istore 5) 2 10 0 := ⟨by decide +kernel, rfl, rfl⟩
theorem d_X0_reachFrom_10 : nD YX0_reachFrom 10 (.aload 4) 2 12 0 := ⟨by decide +kernel, rfl, rfl⟩
theorem d_X0_reachFrom_12 : nD YX0_reachFrom 12 (.ifnull 36) 3 15 0 := ⟨by decide +kernel, rfl, rfl⟩
theorem d_X0_reachFrom_15 : nD YX0_reachFrom 15 (.iload 5) 2 17 0 := ⟨by decide +kernel, rfl, rfl⟩
theorem d_X0_reachFrom_17 : nD YX0_reachFrom 17 (.bipush 24) 2 19 0 := ⟨by decide +kernel, rfl, rfl⟩
theorem d_X0_reachFrom_19 : nD YX0_reachFrom 19 (.if_icmp .ge 29) 3 22 0 := ⟨by decide +kernel, rfl, rfl⟩
theorem d_X0_reachFrom_22 : nD YX0_reachFrom 22 (.aload 4) 2 24 0 := ⟨by decide +kernel, rfl, rfl⟩
theorem d_X0_reachFrom_24 : nD YX0_reachFrom 24 (.iload_n 3) 1 25 0 := ⟨by decide +kernel, rfl, rfl⟩
theorem d_X0_reachFrom_25 : nD YX0_reachFrom 25 (.iload 5) 2 27 0 := ⟨by decide +kernel, rfl, rfl⟩
theorem d_X0_reachFrom_27 : nD YX0_reachFrom 27 (.invokevirtual 72) 3 30 0 := ⟨by decide +kernel, rfl, rfl⟩
theorem d_X0_reachFrom_30 : nD YX0_reachFrom 30 (.ifCond .eq 12) 3 33 0 := ⟨by decide +kernel, rfl, rfl⟩
theorem d_X0_reachFrom_33 : nD YX0_reachFrom 33 (.aload_n 0) 1 34 0 := ⟨by decide +kernel, rfl, rfl⟩
theorem d_X0_reachFrom_34 : nD YX0_reachFrom 34 (.iload_n 2) 1 35 0 := ⟨by decide +kernel, rfl, rfl⟩
theorem d_X0_reachFrom_35 : nD YX0_reachFrom 35 (.iconst 1) 1 36 0 := ⟨by decide +kernel, rfl, rfl⟩
theorem d_X0_reachFrom_36 : nD YX0_reachFrom 36 (.isub) 1 37 0 := ⟨by decide +kernel, rfl, rfl⟩
theorem d_X0_reachFrom_37 : nD YX0_reachFrom 37 (.iload 5) 2 39 0 := ⟨by decide +kernel, rfl, rfl⟩
theorem d_X0_reachFrom_39 : nD YX0_reachFrom 39 (.invokevirtual 35) 3 42 0 := ⟨by decide +kernel, rfl, rfl⟩
theorem d_X0_reachFrom_42 : nD YX0_reachFrom 42 (.iinc 5 1) 3 45 0 := ⟨by decide +kernel, rfl, rfl⟩
theorem d_X0_reachFrom_45 : nD YX0_reachFrom 45 (.goto (-35)) 3 48 0 := ⟨by decide +kernel, rfl, rfl⟩
theorem d_X0_reachFrom_48 : nD YX0_reachFrom 48 (.aload_n 1) 1 49 0 := ⟨by decide +kernel, rfl, rfl⟩
theorem d_X0_reachFrom_49 : nD YX0_reachFrom 49 (.iload_n 2) 1 50 0 := ⟨by decide +kernel, rfl, rfl⟩
theorem d_X0_reachFrom_50 : nD YX0_reachFrom 50 (.iconst 1) 1 51 0 := ⟨by decide +kernel, rfl, rfl⟩
theorem d_X0_reachFrom_51 : nD YX0_reachFrom 51 (.iadd) 1 52 0 := ⟨by decide +kernel, rfl, rfl⟩
theorem d_X0_reachFrom_52 : nD YX0_reachFrom 52 (.invokevirtual 68) 3 55 0 := ⟨by decide +kernel, rfl, rfl⟩
theorem d_X0_reachFrom_55 : nD YX0_reachFrom 55 (.astore 5) 2 57 0 := ⟨by decide +kernel, rfl, rfl⟩
theorem d_X0_reachFrom_57 : nD YX0_reachFrom 57 (.iconst 0) 1 58 0 := ⟨by decide +kernel, rfl, rfl⟩
theorem d_X0_reachFrom_58 : nD YX0_reachFrom 58 (.istore 6) 2 60 0 := ⟨by decide +kernel, rfl, rfl⟩
theorem d_X0_reachFrom_60 : nD YX0_reachFrom 60 (.aload 5) 2 62 0 := ⟨by decide +kernel, rfl, rfl⟩
theorem d_X0_reachFrom_62 : nD YX0_reachFrom 62 (.ifnull 39) 3 65 0 := ⟨by decide +kernel, rfl, rfl⟩
theorem d_X0_reachFrom_65 : nD YX0_reachFrom 65 (.iload 6) 2 67 0 := ⟨by decide +kernel, rfl, rfl⟩
theorem d_X0_reachFrom_67 : nD YX0_reachFrom 67 (.aload 5) 2 69 0 := ⟨by decide +kernel, rfl, rfl⟩
theorem d_X0_reachFrom_69 : nD YX0_reachFrom 69 (.getfield 78) 3 72 0 := ⟨by decide +kernel, rfl, rfl⟩
theorem d_X0_reachFrom_72 : nD YX0_reachFrom 72 (.if_icmp .ge 29) 3 75 0 := ⟨by decide +kernel, rfl, rfl⟩
theorem d_X0_reachFrom_75 : nD YX0_reachFrom 75 (.aload 5) 2 77 0 := ⟨by decide +kernel, rfl, rfl⟩
theorem d_X0_reachFrom_77 : nD YX0_reachFrom 77 (.iload 6) 2 79 0 := ⟨by decide +kernel, rfl, rfl⟩
theorem d_X0_reachFrom_79 : nD YX0_reachFrom 79 (.iload_n 3) 1 80 0 := ⟨by decide +kernel, rfl, rfl⟩
theorem d_X0_reachFrom_80 : nD YX0_reachFrom 80 (.invokevirtual 72) 3 83 0 := ⟨by decide +kernel, rfl, rfl⟩
theorem d_X0_reachFrom_83 : nD YX0_reachFrom 83 (.ifCond .eq 12) 3 86 0 := ⟨by decide +kernel, rfl, rfl⟩
theorem d_X0_reachFrom_86 : nD YX0_reachFrom 86 (.aload_n 0) 1 87 0 := ⟨by decide +kernel, rfl, rfl⟩
theorem d_X0_reachFrom_87 : nD YX0_reachFrom 87 (.iload_n 2) 1 88 0 := ⟨by decide +kernel, rfl, rfl⟩
theorem d_X0_reachFrom_88 : nD YX0_reachFrom 88 (.iconst 1) 1 89 0 := ⟨by decide +kernel, rfl, rfl⟩
theorem d_X0_reachFrom_89 : nD YX0_reachFrom 89 (.iadd) 1 90 0 := ⟨by decide +kernel, rfl, rfl⟩
theorem d_X0_reachFrom_90 : nD YX0_reachFrom 90 (.iload 6) 2 92 0 := ⟨by decide +kernel, rfl, rfl⟩
theorem d_X0_reachFrom_92 : nD YX0_reachFrom 92 (.invokevirtual 35) 3 95 0 := ⟨by decide +kernel, rfl, rfl⟩
theorem d_X0_reachFrom_95 : nD YX0_reachFrom 95 (.iinc 6 1) 3 98 0 := ⟨by decide +kernel, rfl, rfl⟩
theorem d_X0_reachFrom_98 : nD YX0_reachFrom 98 (.goto (-38)) 3 101 0 := ⟨by decide +kernel, rfl, rfl⟩
theorem d_X0_reachFrom_101 : nD YX0_reachFrom 101 (.return_) 1 102 0 := ⟨by decide +kernel, rfl, rfl⟩
theorem d_X0_listReached_0 : nD YX0_listReached 0 (.iconst 0) 1 1 0 := ⟨by decide +kernel, rfl, rfl⟩
theorem d_X0_listReached_1 : nD YX0_listReached 1 (.istore_n 2) 1 2 0 := ⟨by decide +kernel, rfl, rfl⟩
theorem d_X0_listReached_2 : nD YX0_listReached 2 (.iconst 0) 1 3 0 := ⟨by decide +kernel, rfl, rfl⟩
theorem d_X0_listReached_3 : nD YX0_listReached 3 (.istore_n 3) 1 4 0 := ⟨by decide +kernel, rfl, rfl⟩
theorem d_X0_listReached_4 : nD YX0_listReached 4 (.iload_n 3) 1 5 0 := ⟨by decide +kernel, rfl, rfl⟩
theorem d_X0_listReached_5 : nD YX0_listReached 5 (.bipush 20) 2 7 0 := ⟨by decide +kernel, rfl, rfl⟩
theorem d_X0_listReached_7 : nD YX0_listReached 7 (.if_icmp .ge 114) 3 10 0 := ⟨by decide +kernel, rfl, rfl⟩
theorem d_X0_listReached_10 : nD YX0_listReached 10 (.iconst 0) 1 11 0 := ⟨by decide +kernel, rfl, rfl⟩
theorem d_X0_listReached_11 : nD YX0_listReached 11 (.istore 4) 2 13 0 := ⟨by decide +kernel, rfl, rfl⟩
theorem d_X0_listReached_13 : nD YX0_listReached 13 (.iload 4) 2 15 0 := ⟨by decide +kernel, rfl, rfl⟩
theorem d_X0_listReached_15 : nD YX0_listReached 15 (.bipush 24) 2 17 0 := ⟨by decide +kernel, rfl, rfl⟩
theorem d_X0_listReached_17 : nD YX0_listReached 17 (.if_icmp .ge 98) 3 20 0 := ⟨by decide +kernel, rfl, rfl⟩
theorem d_X0_listReached_20 : nD YX0_listReached 20 (.aload_n 0) 1 21 0 := ⟨by decide +kernel, rfl, rfl⟩
theorem d_X0_listReached_21 : nD YX0_listReached 21 (.getfield 20) 3 24 0 := ⟨by decide +kernel, rfl, rfl⟩
theorem d_X0_listReached_24 : nD YX0_listReached 24 (.iload_n 3) 1 25 0 := ⟨by decide +kernel, rfl, rfl⟩
theorem d_X0_listReached_25 : nD YX0_listReached 25 (.aaload) 1 26 0 := ⟨by decide +kernel, rfl, rfl⟩
theorem d_X0_listReached_26 : nD YX0_listReached 26 (.iload 4) 2 28 0 := ⟨by decide +kernel, rfl, rfl⟩
theorem d_X0_listReached_28 : nD YX0_listReached 28 (.iaload) 1 29 0 := ⟨by decide +kernel, rfl, rfl⟩
theorem d_X0_listReached_29 : nD YX0_listReached 29 (.iconst 1) 1 30 0 := ⟨by decide +kernel, rfl, rfl⟩
theorem d_X0_listReached_30 : nD YX0_listReached 30 (.if_icmp .ne 79) 3 33 0 := ⟨by decide +kernel, rfl, rfl⟩
theorem d_X0_listReached_33 : nD YX0_listReached 33 (.aload_n 0) 1 34 0 := ⟨by decide +kernel, rfl, rfl⟩
theorem d_X0_listReached_34 : nD YX0_listReached 34 (.getfield 55) 3 37 0 := ⟨by decide +kernel, rfl, rfl⟩
theorem d_X0_listReached_37 : nD YX0_listReached 37 (.sipush 480) 3 40 0 := ⟨by decide +kernel, rfl, rfl⟩
theorem d_X0_listReached_40 : nD YX0_listReached 40 (.if_icmp .ge 69) 3 43 0 := ⟨by decide +kernel, rfl, rfl⟩
theorem d_X0_listReached_43 : nD YX0_listReached 43 (.aload_n 1) 1 44 0 := ⟨by decide +kernel, rfl, rfl⟩
theorem d_X0_listReached_44 : nD YX0_listReached 44 (.iload_n 3) 1 45 0 := ⟨by decide +kernel, rfl, rfl⟩
theorem d_X0_listReached_45 : nD YX0_listReached 45 (.iload 4) 2 47 0 := ⟨by decide +kernel, rfl, rfl⟩
theorem d_X0_listReached_47 : nD YX0_listReached 47 (.invokevirtual 29) 3 50 0 := ⟨by decide +kernel, rfl, rfl⟩
theorem d_X0_listReached_50 : nD YX0_listReached 50 (.istore 5) 2 52 0 := ⟨by decide +kernel, rfl, rfl⟩
theorem d_X0_listReached_52 : nD YX0_listReached 52 (.aload_n 0) 1 53 0 := ⟨by decide +kernel, rfl, rfl⟩
theorem d_X0_listReached_53 : nD YX0_listReached 53 (.getfield 9) 3 56 0 := ⟨by decide +kernel, rfl, rfl⟩
theorem d_X0_listReached_56 : nD YX0_listReached 56 (.aload_n 0) 1 57 0 := ⟨by decide +kernel, rfl, rfl⟩
theorem d_X0_listReached_57 : nD YX0_listReached 57 (.getfield 55) 3 60 0 := ⟨by decide +kernel, rfl, rfl⟩
theorem d_X0_listReached_60 : nD YX0_listReached 60 (.bipush 100) 2 62 0 := ⟨by decide +kernel, rfl, rfl⟩
theorem d_X0_listReached_62 : nD YX0_listReached 62 (.iload_n 3) 1 63 0 := ⟨by decide +kernel, rfl, rfl⟩
theorem d_X0_listReached_63 : nD YX0_listReached 63 (.imul) 1 64 0 := ⟨by decide +kernel, rfl, rfl⟩
theorem d_X0_listReached_64 : nD YX0_listReached 64 (.iload 4) 2 66 0 := ⟨by decide +kernel, rfl, rfl⟩
theorem d_X0_listReached_66 : nD YX0_listReached 66 (.iadd) 1 67 0 := ⟨by decide +kernel, rfl, rfl⟩
theorem d_X0_listReached_67 : nD YX0_listReached 67 (.iastore) 1 68 0 := ⟨by decide +kernel, rfl, rfl⟩
theorem d_X0_listReached_68 : nD YX0_listReached 68 (.aload_n 0) 1 69 0 := ⟨by decide +kernel, rfl, rfl⟩
theorem d_X0_listReached_69 : nD YX0_listReached 69 (.getfield 15) 3 72 0 := ⟨by decide +kernel, rfl, rfl⟩
theorem d_X0_listReached_72 : nD YX0_listReached 72 (.aload_n 0) 1 73 0 := ⟨by decide +kernel, rfl, rfl⟩
theorem d_X0_listReached_73 : nD YX0_listReached 73 (.getfield 55) 3 76 0 := ⟨by decide +kernel, rfl, rfl⟩
theorem d_X0_listReached_76 : nD YX0_listReached 76 (.iload 5) 2 78 0 := ⟨by decide +kernel, rfl, rfl⟩
theorem d_X0_listReached_78 : nD YX0_listReached 78 (.iconst 2) 1 79 0 := ⟨by decide +kernel, rfl, rfl⟩
theorem d_X0_listReached_79 : nD YX0_listReached 79 (.irem) 1 80 0 := ⟨by decide +kernel, rfl, rfl⟩
theorem d_X0_listReached_80 : nD YX0_listReached 80 (.iastore) 1 81 0 := ⟨by decide +kernel, rfl, rfl⟩
theorem d_X0_listReached_81 : nD YX0_listReached 81 (.aload_n 0) 1 82 0 := ⟨by decide +kernel, rfl, rfl⟩
theorem d_X0_listReached_82 : nD YX0_listReached 82 (.dup) 1 83 0 := ⟨by decide +kernel, rfl, rfl⟩
theorem d_X0_listReached_83 : nD YX0_listReached 83 (.getfield 61) 3 86 0 := ⟨by decide +kernel, rfl, rfl⟩
theorem d_X0_listReached_86 : nD YX0_listReached 86 (.iload 5) 2 88 0 := ⟨by decide +kernel, rfl, rfl⟩
theorem d_X0_listReached_88 : nD YX0_listReached 88 (.iconst 2) 1 89 0 := ⟨by decide +kernel, rfl, rfl⟩
theorem d_X0_listReached_89 : nD YX0_listReached 89 (.irem) 1 90 0 := ⟨by decide +kernel, rfl, rfl⟩
theorem d_X0_listReached_90 : nD YX0_listReached 90 (.iadd) 1 91 0 := ⟨by decide +kernel, rfl, rfl⟩
theorem d_X0_listReached_91 : nD YX0_listReached 91 (.putfield 61) 3 94 0 := ⟨by decide +kernel, rfl, rfl⟩
theorem d_X0_listReached_94 : nD YX0_listReached 94 (.iload_n 2) 1 95 0 := ⟨by decide +kernel, rfl, rfl⟩
theorem d_X0_listReached_95 : nD YX0_listReached 95 (.iload 5) 2 97 0 := ⟨by decide +kernel, rfl, rfl⟩
theorem d_X0_listReached_97 : nD YX0_listReached 97 (.iadd) 1 98 0 := ⟨by decide +kernel, rfl, rfl⟩
theorem d_X0_listReached_98 : nD YX0_listReached 98 (.istore_n 2) 1 99 0 := ⟨by decide +kernel, rfl, rfl⟩
theorem d_X0_listReached_99 : nD YX0_listReached 99 (.aload_n 0) 1 100 0 := ⟨by decide +kernel, rfl, rfl⟩
theorem d_X0_listReached_100 : nD YX0_listReached 100 (.dup) 1 101 0 := ⟨by decide +kernel, rfl, rfl⟩
theorem d_X0_listReached_101 : nD YX0_listReached 101 (.getfield 55) 3 104 0 := ⟨by decide +kernel, rfl, rfl⟩
theorem d_X0_listReached_104 : nD YX0_listReached 104 (.iconst 1) 1 105 0 := ⟨by decide +kernel, rfl, rfl⟩
theorem d_X0_listReached_105 : nD YX0_listReached 105 (.iadd) 1 106 0 := ⟨by decide +kernel, rfl, rfl⟩
theorem d_X0_listReached_106 : nD YX0_listReached 106 (.putfield 55) 3 109 0 := ⟨by decide +kernel, rfl, rfl⟩
theorem d_X0_listReached_109 : nD YX0_listReached 109 (.iinc 4 1) 3 112 0 := ⟨by decide +kernel, rfl, rfl⟩
theorem d_X0_listReached_112 : nD YX0_listReached 112 (.goto (-99)) 3 115 0 := ⟨by decide +kernel, rfl, rfl⟩
theorem d_X0_listReached_115 : nD YX0_listReached 115 (.iinc 3 1) 3 118 0 := ⟨by decide +kernel, rfl, rfl⟩
theorem d_X0_listReached_118 : nD YX0_listReached 118 (.goto (-114)) 3 121 0 := ⟨by decide +kernel, rfl, rfl⟩
end
