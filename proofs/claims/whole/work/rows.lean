section
/-- a private method of a class that the tables say can be made, by its rows of tables_1 -/
def lw_okq (q : MethodName × Nat) : Prop := (q.1.cls ≠ "java/lang/invoke/MethodHandle" ∧ q.1.cls ≠ "java/lang/invoke/VarHandle") ∧ Cond.instantiable q.1.cls q.2 ∈ tables_1 ∧ Cond.privateMethod q.1 ∈ tables_1 ∧ Cond.instanceMethod q.1 ∈ tables_1
theorem lw_p0 : lw_okq (⟨"NetLoft", "keep", "(LNetLoft$Panel;)I"⟩, 10) := ⟨⟨by decide +kernel, by decide +kernel⟩, List.mem_of_getElem? (i := 14) (by decide +kernel), List.mem_of_getElem? (i := 264) (by decide +kernel), List.mem_of_getElem? (i := 265) (by decide +kernel)⟩
theorem lw_p1 : lw_okq (⟨"NetLoft", "panelAt", "(I)LNetLoft$Panel;"⟩, 10) := ⟨⟨by decide +kernel, by decide +kernel⟩, List.mem_of_getElem? (i := 14) (by decide +kernel), List.mem_of_getElem? (i := 272) (by decide +kernel), List.mem_of_getElem? (i := 273) (by decide +kernel)⟩
theorem lw_p2 : lw_okq (⟨"NetLoft$Row", "shareOf", "(II)I"⟩, 7) := ⟨⟨by decide +kernel, by decide +kernel⟩, List.mem_of_getElem? (i := 215) (by decide +kernel), List.mem_of_getElem? (i := 403) (by decide +kernel), List.mem_of_getElem? (i := 404) (by decide +kernel)⟩
theorem lw_p3 : lw_okq (⟨"NetLoft$Hole", "clear", "()V"⟩, 9) := ⟨⟨by decide +kernel, by decide +kernel⟩, List.mem_of_getElem? (i := 24) (by decide +kernel), List.mem_of_getElem? (i := 458) (by decide +kernel), List.mem_of_getElem? (i := 459) (by decide +kernel)⟩
theorem lw_p4 : lw_okq (⟨"NetLoft$Hole", "reach", "(II)V"⟩, 9) := ⟨⟨by decide +kernel, by decide +kernel⟩, List.mem_of_getElem? (i := 24) (by decide +kernel), List.mem_of_getElem? (i := 463) (by decide +kernel), List.mem_of_getElem? (i := 464) (by decide +kernel)⟩
theorem lw_p5 : lw_okq (⟨"NetLoft$Hole", "reachFrom", "(LNetLoft$Panel;II)V"⟩, 9) := ⟨⟨by decide +kernel, by decide +kernel⟩, List.mem_of_getElem? (i := 24) (by decide +kernel), List.mem_of_getElem? (i := 468) (by decide +kernel), List.mem_of_getElem? (i := 469) (by decide +kernel)⟩
theorem lw_p6 : lw_okq (⟨"NetLoft$Hole", "listReached", "(LNetLoft$Panel;)V"⟩, 9) := ⟨⟨by decide +kernel, by decide +kernel⟩, List.mem_of_getElem? (i := 24) (by decide +kernel), List.mem_of_getElem? (i := 474) (by decide +kernel), List.mem_of_getElem? (i := 475) (by decide +kernel)⟩
theorem lw_p7 : lw_okq (⟨"NetLoft$Way", "goTo", "(I)V"⟩, 4) := ⟨⟨by decide +kernel, by decide +kernel⟩, List.mem_of_getElem? (i := 62) (by decide +kernel), List.mem_of_getElem? (i := 508) (by decide +kernel), List.mem_of_getElem? (i := 509) (by decide +kernel)⟩
theorem lw_p8 : lw_okq (⟨"NetLoft$Way", "goBackFrom", "(I)V"⟩, 4) := ⟨⟨by decide +kernel, by decide +kernel⟩, List.mem_of_getElem? (i := 62) (by decide +kernel), List.mem_of_getElem? (i := 528) (by decide +kernel), List.mem_of_getElem? (i := 529) (by decide +kernel)⟩
theorem lw_p9 : lw_okq (⟨"NetLoft$Seam", "spread", "(II)V"⟩, 2) := ⟨⟨by decide +kernel, by decide +kernel⟩, List.mem_of_getElem? (i := 98) (by decide +kernel), List.mem_of_getElem? (i := 587) (by decide +kernel), List.mem_of_getElem? (i := 588) (by decide +kernel)⟩
theorem lw_p10 : lw_okq (⟨"NetLoft$Seam", "giveOneEach", "(LNetLoft$Row;)V"⟩, 2) := ⟨⟨by decide +kernel, by decide +kernel⟩, List.mem_of_getElem? (i := 98) (by decide +kernel), List.mem_of_getElem? (i := 593) (by decide +kernel), List.mem_of_getElem? (i := 594) (by decide +kernel)⟩
theorem lw_p11 : lw_okq (⟨"NetLoft", "openingOf", "(LNetLoft$Panel;)I"⟩, 10) := ⟨⟨by decide +kernel, by decide +kernel⟩, List.mem_of_getElem? (i := 14) (by decide +kernel), List.mem_of_getElem? (i := 619) (by decide +kernel), List.mem_of_getElem? (i := 620) (by decide +kernel)⟩
theorem lw_p12 : lw_okq (⟨"NetLoft$Loads", "countWholeSides", "(LNetLoft$Row;)V"⟩, 4) := ⟨⟨by decide +kernel, by decide +kernel⟩, List.mem_of_getElem? (i := 113) (by decide +kernel), List.mem_of_getElem? (i := 641) (by decide +kernel), List.mem_of_getElem? (i := 642) (by decide +kernel)⟩
theorem lw_p13 : lw_okq (⟨"NetLoft$Loads", "lose", "(ILNetLoft$Row;)V"⟩, 4) := ⟨⟨by decide +kernel, by decide +kernel⟩, List.mem_of_getElem? (i := 113) (by decide +kernel), List.mem_of_getElem? (i := 646) (by decide +kernel), List.mem_of_getElem? (i := 647) (by decide +kernel)⟩
theorem lw_p14 : lw_okq (⟨"NetLoft$Loads", "handOn", "(ILNetLoft$Row;)V"⟩, 4) := ⟨⟨by decide +kernel, by decide +kernel⟩, List.mem_of_getElem? (i := 113) (by decide +kernel), List.mem_of_getElem? (i := 650) (by decide +kernel), List.mem_of_getElem? (i := 651) (by decide +kernel)⟩
theorem lw_p15 : lw_okq (⟨"NetLoft$Loads", "inAll", "(ILNetLoft$Row;)J"⟩, 4) := ⟨⟨by decide +kernel, by decide +kernel⟩, List.mem_of_getElem? (i := 113) (by decide +kernel), List.mem_of_getElem? (i := 654) (by decide +kernel), List.mem_of_getElem? (i := 655) (by decide +kernel)⟩
def lw_privs_1 : List (MethodName × Nat) := [(⟨"NetLoft", "keep", "(LNetLoft$Panel;)I"⟩, 10), (⟨"NetLoft", "panelAt", "(I)LNetLoft$Panel;"⟩, 10), (⟨"NetLoft$Row", "shareOf", "(II)I"⟩, 7), (⟨"NetLoft$Hole", "clear", "()V"⟩, 9), (⟨"NetLoft$Hole", "reach", "(II)V"⟩, 9), (⟨"NetLoft$Hole", "reachFrom", "(LNetLoft$Panel;II)V"⟩, 9), (⟨"NetLoft$Hole", "listReached", "(LNetLoft$Panel;)V"⟩, 9), (⟨"NetLoft$Way", "goTo", "(I)V"⟩, 4), (⟨"NetLoft$Way", "goBackFrom", "(I)V"⟩, 4), (⟨"NetLoft$Seam", "spread", "(II)V"⟩, 2), (⟨"NetLoft$Seam", "giveOneEach", "(LNetLoft$Row;)V"⟩, 2), (⟨"NetLoft", "openingOf", "(LNetLoft$Panel;)I"⟩, 10), (⟨"NetLoft$Loads", "countWholeSides", "(LNetLoft$Row;)V"⟩, 4), (⟨"NetLoft$Loads", "lose", "(ILNetLoft$Row;)V"⟩, 4), (⟨"NetLoft$Loads", "handOn", "(ILNetLoft$Row;)V"⟩, 4), (⟨"NetLoft$Loads", "inAll", "(ILNetLoft$Row;)J"⟩, 4)]
theorem lw_r1 : ∀ q ∈ lw_privs_1, lw_okq q := List.forall_mem_cons.mpr ⟨lw_p0, List.forall_mem_cons.mpr ⟨lw_p1, List.forall_mem_cons.mpr ⟨lw_p2, List.forall_mem_cons.mpr ⟨lw_p3, List.forall_mem_cons.mpr ⟨lw_p4, List.forall_mem_cons.mpr ⟨lw_p5, List.forall_mem_cons.mpr ⟨lw_p6, List.forall_mem_cons.mpr ⟨lw_p7, List.forall_mem_cons.mpr ⟨lw_p8, List.forall_mem_cons.mpr ⟨lw_p9, List.forall_mem_cons.mpr ⟨lw_p10, List.forall_mem_cons.mpr ⟨lw_p11, List.forall_mem_cons.mpr ⟨lw_p12, List.forall_mem_cons.mpr ⟨lw_p13, List.forall_mem_cons.mpr ⟨lw_p14, List.forall_mem_cons.mpr ⟨lw_p15, fun _ h => absurd h List.not_mem_nil⟩⟩⟩⟩⟩⟩⟩⟩⟩⟩⟩⟩⟩⟩⟩⟩
theorem lw_p16 : lw_okq (⟨"NetLoftModel", "newPanel", "(II)I"⟩, 39) := ⟨⟨by decide +kernel, by decide +kernel⟩, List.mem_of_getElem? (i := 681) (by decide +kernel), List.mem_of_getElem? (i := 810) (by decide +kernel), List.mem_of_getElem? (i := 811) (by decide +kernel)⟩
theorem lw_p17 : lw_okq (⟨"NetLoftModel", "clears", "(II)V"⟩, 39) := ⟨⟨by decide +kernel, by decide +kernel⟩, List.mem_of_getElem? (i := 681) (by decide +kernel), List.mem_of_getElem? (i := 814) (by decide +kernel), List.mem_of_getElem? (i := 815) (by decide +kernel)⟩
theorem lw_p18 : lw_okq (⟨"NetLoftModel", "isPanel", "(I)Z"⟩, 39) := ⟨⟨by decide +kernel, by decide +kernel⟩, List.mem_of_getElem? (i := 681) (by decide +kernel), List.mem_of_getElem? (i := 825) (by decide +kernel), List.mem_of_getElem? (i := 826) (by decide +kernel)⟩
theorem lw_p19 : lw_okq (⟨"NetLoftModel", "given", "(II)I"⟩, 39) := ⟨⟨by decide +kernel, by decide +kernel⟩, List.mem_of_getElem? (i := 681) (by decide +kernel), List.mem_of_getElem? (i := 829) (by decide +kernel), List.mem_of_getElem? (i := 830) (by decide +kernel)⟩
theorem lw_p20 : lw_okq (⟨"NetLoftModel", "hangs", "(II)V"⟩, 39) := ⟨⟨by decide +kernel, by decide +kernel⟩, List.mem_of_getElem? (i := 681) (by decide +kernel), List.mem_of_getElem? (i := 833) (by decide +kernel), List.mem_of_getElem? (i := 834) (by decide +kernel)⟩
theorem lw_p21 : lw_okq (⟨"NetLoftModel", "isKnot", "(III)Z"⟩, 39) := ⟨⟨by decide +kernel, by decide +kernel⟩, List.mem_of_getElem? (i := 681) (by decide +kernel), List.mem_of_getElem? (i := 841) (by decide +kernel), List.mem_of_getElem? (i := 842) (by decide +kernel)⟩
theorem lw_p22 : lw_okq (⟨"NetLoftModel", "isRow", "(II)Z"⟩, 39) := ⟨⟨by decide +kernel, by decide +kernel⟩, List.mem_of_getElem? (i := 681) (by decide +kernel), List.mem_of_getElem? (i := 845) (by decide +kernel), List.mem_of_getElem? (i := 846) (by decide +kernel)⟩
theorem lw_p23 : lw_okq (⟨"NetLoftModel", "becomes", "(II)V"⟩, 39) := ⟨⟨by decide +kernel, by decide +kernel⟩, List.mem_of_getElem? (i := 681) (by decide +kernel), List.mem_of_getElem? (i := 849) (by decide +kernel), List.mem_of_getElem? (i := 850) (by decide +kernel)⟩
theorem lw_p24 : lw_okq (⟨"NetLoftModel", "goneAt", "(III)I"⟩, 39) := ⟨⟨by decide +kernel, by decide +kernel⟩, List.mem_of_getElem? (i := 681) (by decide +kernel), List.mem_of_getElem? (i := 879) (by decide +kernel), List.mem_of_getElem? (i := 880) (by decide +kernel)⟩
theorem lw_p25 : lw_okq (⟨"NetLoftModel", "below", "(IIII)I"⟩, 39) := ⟨⟨by decide +kernel, by decide +kernel⟩, List.mem_of_getElem? (i := 681) (by decide +kernel), List.mem_of_getElem? (i := 883) (by decide +kernel), List.mem_of_getElem? (i := 884) (by decide +kernel)⟩
theorem lw_p26 : lw_okq (⟨"NetLoftModel", "hangsIn", "(III)Z"⟩, 39) := ⟨⟨by decide +kernel, by decide +kernel⟩, List.mem_of_getElem? (i := 681) (by decide +kernel), List.mem_of_getElem? (i := 887) (by decide +kernel), List.mem_of_getElem? (i := 888) (by decide +kernel)⟩
theorem lw_p27 : lw_okq (⟨"NetLoftModel", "spreads", "(III)V"⟩, 39) := ⟨⟨by decide +kernel, by decide +kernel⟩, List.mem_of_getElem? (i := 681) (by decide +kernel), List.mem_of_getElem? (i := 911) (by decide +kernel), List.mem_of_getElem? (i := 912) (by decide +kernel)⟩
theorem lw_p28 : lw_okq (⟨"NetLoftModel", "oddOnes", "(I)I"⟩, 39) := ⟨⟨by decide +kernel, by decide +kernel⟩, List.mem_of_getElem? (i := 681) (by decide +kernel), List.mem_of_getElem? (i := 915) (by decide +kernel), List.mem_of_getElem? (i := 916) (by decide +kernel)⟩
theorem lw_p29 : lw_okq (⟨"NetLoftModel", "goesOn", "(III)I"⟩, 39) := ⟨⟨by decide +kernel, by decide +kernel⟩, List.mem_of_getElem? (i := 681) (by decide +kernel), List.mem_of_getElem? (i := 930) (by decide +kernel), List.mem_of_getElem? (i := 931) (by decide +kernel)⟩
theorem lw_p30 : lw_okq (⟨"NetLoftModel", "isGone", "(III)Z"⟩, 39) := ⟨⟨by decide +kernel, by decide +kernel⟩, List.mem_of_getElem? (i := 681) (by decide +kernel), List.mem_of_getElem? (i := 934) (by decide +kernel), List.mem_of_getElem? (i := 935) (by decide +kernel)⟩
theorem lw_p31 : lw_okq (⟨"NetLoftModel", "ties", "(IIIZ)V"⟩, 39) := ⟨⟨by decide +kernel, by decide +kernel⟩, List.mem_of_getElem? (i := 681) (by decide +kernel), List.mem_of_getElem? (i := 938) (by decide +kernel), List.mem_of_getElem? (i := 939) (by decide +kernel)⟩
def lw_privs_2 : List (MethodName × Nat) := [(⟨"NetLoftModel", "newPanel", "(II)I"⟩, 39), (⟨"NetLoftModel", "clears", "(II)V"⟩, 39), (⟨"NetLoftModel", "isPanel", "(I)Z"⟩, 39), (⟨"NetLoftModel", "given", "(II)I"⟩, 39), (⟨"NetLoftModel", "hangs", "(II)V"⟩, 39), (⟨"NetLoftModel", "isKnot", "(III)Z"⟩, 39), (⟨"NetLoftModel", "isRow", "(II)Z"⟩, 39), (⟨"NetLoftModel", "becomes", "(II)V"⟩, 39), (⟨"NetLoftModel", "goneAt", "(III)I"⟩, 39), (⟨"NetLoftModel", "below", "(IIII)I"⟩, 39), (⟨"NetLoftModel", "hangsIn", "(III)Z"⟩, 39), (⟨"NetLoftModel", "spreads", "(III)V"⟩, 39), (⟨"NetLoftModel", "oddOnes", "(I)I"⟩, 39), (⟨"NetLoftModel", "goesOn", "(III)I"⟩, 39), (⟨"NetLoftModel", "isGone", "(III)Z"⟩, 39), (⟨"NetLoftModel", "ties", "(IIIZ)V"⟩, 39)]
theorem lw_r2 : ∀ q ∈ lw_privs_2, lw_okq q := List.forall_mem_cons.mpr ⟨lw_p16, List.forall_mem_cons.mpr ⟨lw_p17, List.forall_mem_cons.mpr ⟨lw_p18, List.forall_mem_cons.mpr ⟨lw_p19, List.forall_mem_cons.mpr ⟨lw_p20, List.forall_mem_cons.mpr ⟨lw_p21, List.forall_mem_cons.mpr ⟨lw_p22, List.forall_mem_cons.mpr ⟨lw_p23, List.forall_mem_cons.mpr ⟨lw_p24, List.forall_mem_cons.mpr ⟨lw_p25, List.forall_mem_cons.mpr ⟨lw_p26, List.forall_mem_cons.mpr ⟨lw_p27, List.forall_mem_cons.mpr ⟨lw_p28, List.forall_mem_cons.mpr ⟨lw_p29, List.forall_mem_cons.mpr ⟨lw_p30, List.forall_mem_cons.mpr ⟨lw_p31, fun _ h => absurd h List.not_mem_nil⟩⟩⟩⟩⟩⟩⟩⟩⟩⟩⟩⟩⟩⟩⟩⟩
theorem lw_p32 : lw_okq (⟨"NetLoftModel", "reaches", "(III)Z"⟩, 39) := ⟨⟨by decide +kernel, by decide +kernel⟩, List.mem_of_getElem? (i := 681) (by decide +kernel), List.mem_of_getElem? (i := 942) (by decide +kernel), List.mem_of_getElem? (i := 943) (by decide +kernel)⟩
theorem lw_p33 : lw_okq (⟨"NetLoftModel", "copies", "(IIII)V"⟩, 39) := ⟨⟨by decide +kernel, by decide +kernel⟩, List.mem_of_getElem? (i := 681) (by decide +kernel), List.mem_of_getElem? (i := 962) (by decide +kernel), List.mem_of_getElem? (i := 963) (by decide +kernel)⟩
theorem lw_p34 : lw_okq (⟨"NetLoftModel", "leads", "(I)V"⟩, 39) := ⟨⟨by decide +kernel, by decide +kernel⟩, List.mem_of_getElem? (i := 681) (by decide +kernel), List.mem_of_getElem? (i := 999) (by decide +kernel), List.mem_of_getElem? (i := 1000) (by decide +kernel)⟩
def lw_privs_3 : List (MethodName × Nat) := [(⟨"NetLoftModel", "reaches", "(III)Z"⟩, 39), (⟨"NetLoftModel", "copies", "(IIII)V"⟩, 39), (⟨"NetLoftModel", "leads", "(I)V"⟩, 39)]
theorem lw_r3 : ∀ q ∈ lw_privs_3, lw_okq q := List.forall_mem_cons.mpr ⟨lw_p32, List.forall_mem_cons.mpr ⟨lw_p33, List.forall_mem_cons.mpr ⟨lw_p34, fun _ h => absurd h List.not_mem_nil⟩⟩⟩
def lw_privs : List (MethodName × Nat) := lw_privs_1 ++ (lw_privs_2 ++ (lw_privs_3))
def lw_tbl : List Cond := k2_sels lw_privs ++ tables_1
theorem lw_privs_ok : ∀ q ∈ lw_privs, lw_okq q := by
  show ∀ q ∈ lw_privs_1 ++ (lw_privs_2 ++ (lw_privs_3)), lw_okq q
  exact List.forall_mem_append.mpr ⟨lw_r1, List.forall_mem_append.mpr ⟨lw_r2, lw_r3⟩⟩

def RX0 : String := "NetLoft$Hole"
def TX0 : u_T := fun k => match k with
  | 0 => ("NetLoft$Hole", "traced", "Z", false)
  | 1 => ("NetLoft$Hole", "size", "I", false)
  | 2 => ("NetLoft$Hole", "goneSides", "I", false)
  | 3 => ("NetLoft$Hole", "oddOnes", "I", false)
  | 4 => ("NetLoft$Hole", "knots", "[I", true)
  | 5 => ("NetLoft$Hole", "odd", "[I", true)
  | 6 => ("NetLoft$Hole", "reached", "[[I", true)
  | 7 => ("NetLoft$Hole", "queue", "[I", true)
  | _ => ("NetLoft$Hole", "queued", "I", false)
def tyX0 : Nat → FieldType := fun k => match k with
  | 0 => .boolean
  | 1 => .int
  | 2 => .int
  | 3 => .int
  | 4 => .array .int
  | 5 => .array .int
  | 6 => .array (.array .int)
  | 7 => .array .int
  | _ => .int
theorem nmX0 : ∀ a, a < 9 → ∀ b, b < 9 → a ≠ b → (TX0 a).2.1 ≠ (TX0 b).2.1 := by decide +kernel
theorem tyX0_ok : ∀ k, k < 9 → parseFieldDescriptor (TX0 k).2.2.1 = some (tyX0 k) := by decide +kernel
abbrev cX0_init : ByteArray := prog_2_method_1_code
def yX0_init : MethodName := ⟨RX0, "<init>", "()V"⟩
abbrev cX0_trace : ByteArray := prog_2_method_2_code
def yX0_trace : MethodName := ⟨RX0, "trace", "(LNetLoft$Panel;II)V"⟩
abbrev cX0_clear : ByteArray := prog_2_method_3_code
def yX0_clear : MethodName := ⟨RX0, "clear", "()V"⟩
abbrev cX0_reach : ByteArray := prog_2_method_4_code
def yX0_reach : MethodName := ⟨RX0, "reach", "(II)V"⟩
abbrev cX0_reachFrom : ByteArray := prog_2_method_5_code
def yX0_reachFrom : MethodName := ⟨RX0, "reachFrom", "(LNetLoft$Panel;II)V"⟩
abbrev cX0_listReached : ByteArray := prog_2_method_6_code
def yX0_listReached : MethodName := ⟨RX0, "listReached", "(LNetLoft$Panel;)V"⟩
abbrev cX0_twines : ByteArray := prog_2_method_7_code
def yX0_twines : MethodName := ⟨RX0, "twines", "()I"⟩
abbrev cX0_tell : ByteArray := prog_2_method_8_code
def yX0_tell : MethodName := ⟨RX0, "tell", "(II)I"⟩
abbrev cX0_hasNeedle : ByteArray := prog_2_method_9_code
def yX0_hasNeedle : MethodName := ⟨RX0, "hasNeedle", "(LNetLoft$Panel;)Z"⟩
abbrev cX0_beginning : ByteArray := prog_2_method_10_code
def yX0_beginning : MethodName := ⟨RX0, "beginning", "()I"⟩
def RX1 : String := "NetLoft$Loads"
def TX1 : u_T := fun k => match k with
  | 0 => ("NetLoft$Loads", "lost", "J", false)
  | 1 => ("NetLoft$Loads", "foot", "J", false)
  | 2 => ("NetLoft$Loads", "upper", "[[J", true)
  | _ => ("NetLoft$Loads", "wholeSides", "[I", true)
def tyX1 : Nat → FieldType := fun k => match k with
  | 0 => .long
  | 1 => .long
  | 2 => .array (.array .long)
  | _ => .array .int
theorem nmX1 : ∀ a, a < 4 → ∀ b, b < 4 → a ≠ b → (TX1 a).2.1 ≠ (TX1 b).2.1 := by decide +kernel
theorem tyX1_ok : ∀ k, k < 4 → parseFieldDescriptor (TX1 k).2.2.1 = some (tyX1 k) := by decide +kernel
abbrev cX1_init : ByteArray := prog_3_method_1_code
def yX1_init : MethodName := ⟨RX1, "<init>", "()V"⟩
abbrev cX1_leadDown : ByteArray := prog_3_method_2_code
def yX1_leadDown : MethodName := ⟨RX1, "leadDown", "(LNetLoft$Panel;)V"⟩
abbrev cX1_countWholeSides : ByteArray := prog_3_method_3_code
def yX1_countWholeSides : MethodName := ⟨RX1, "countWholeSides", "(LNetLoft$Row;)V"⟩
abbrev cX1_lose : ByteArray := prog_3_method_4_code
def yX1_lose : MethodName := ⟨RX1, "lose", "(ILNetLoft$Row;)V"⟩
abbrev cX1_handOn : ByteArray := prog_3_method_5_code
def yX1_handOn : MethodName := ⟨RX1, "handOn", "(ILNetLoft$Row;)V"⟩
abbrev cX1_inAll : ByteArray := prog_3_method_6_code
def yX1_inAll : MethodName := ⟨RX1, "inAll", "(ILNetLoft$Row;)J"⟩
abbrev cX1_firstAbove : ByteArray := prog_3_method_7_code
def yX1_firstAbove : MethodName := ⟨RX1, "firstAbove", "(LNetLoft$Panel;)I"⟩
abbrev cX1_isAbove : ByteArray := prog_3_method_8_code
def yX1_isAbove : MethodName := ⟨RX1, "isAbove", "(JI)Z"⟩
abbrev cX1_term : ByteArray := prog_3_method_9_code
def yX1_term : MethodName := ⟨RX1, "term", "(JI)J"⟩
abbrev cX1_commonDivisor : ByteArray := prog_3_method_10_code
def yX1_commonDivisor : MethodName := ⟨RX1, "commonDivisor", "(JJ)J"⟩
def RX2 : String := "NetLoft$Panel"
def TX2 : u_T := fun k => match k with
  | 0 => ("NetLoft$Panel", "bar", "I", true)
  | 1 => ("NetLoft$Panel", "strength", "I", true)
  | 2 => ("NetLoft$Panel", "rope", "I", false)
  | 3 => ("NetLoft$Panel", "net", "I", false)
  | 4 => ("NetLoft$Panel", "rows", "[LNetLoft$Row;", true)
  | 5 => ("NetLoft$Panel", "rowCount", "I", false)
  | _ => ("NetLoft$Panel", "pulls", "[I", true)
def tyX2 : Nat → FieldType := fun k => match k with
  | 0 => .int
  | 1 => .int
  | 2 => .int
  | 3 => .int
  | 4 => .array (.object "NetLoft$Row")
  | 5 => .int
  | _ => .array .int
theorem nmX2 : ∀ a, a < 7 → ∀ b, b < 7 → a ≠ b → (TX2 a).2.1 ≠ (TX2 b).2.1 := by decide +kernel
theorem tyX2_ok : ∀ k, k < 7 → parseFieldDescriptor (TX2 k).2.2.1 = some (tyX2 k) := by decide +kernel
abbrev cX2_init : ByteArray := prog_4_method_1_code
def yX2_init : MethodName := ⟨RX2, "<init>", "(II)V"⟩
abbrev cX2_rowAt : ByteArray := prog_4_method_2_code
def yX2_rowAt : MethodName := ⟨RX2, "rowAt", "(I)LNetLoft$Row;"⟩
abbrev cX2_lastRow : ByteArray := prog_4_method_3_code
def yX2_lastRow : MethodName := ⟨RX2, "lastRow", "()LNetLoft$Row;"⟩
abbrev cX2_rowWith : ByteArray := prog_4_method_4_code
def yX2_rowWith : MethodName := ⟨RX2, "rowWith", "(II)LNetLoft$Row;"⟩
abbrev cX2_append : ByteArray := prog_4_method_5_code
def yX2_append : MethodName := ⟨RX2, "append", "(LNetLoft$Row;)V"⟩
abbrev cX2_appendCopies : ByteArray := prog_4_method_6_code
def yX2_appendCopies : MethodName := ⟨RX2, "appendCopies", "(LNetLoft$Panel;)V"⟩
abbrev cX2_hangRow : ByteArray := prog_4_method_7_code
def yX2_hangRow : MethodName := ⟨RX2, "hangRow", "()I"⟩
abbrev cX2_bearsShaping : ByteArray := prog_4_method_8_code
def yX2_bearsShaping : MethodName := ⟨RX2, "bearsShaping", "(III)Z"⟩
abbrev cX2_shapeRows : ByteArray := prog_4_method_9_code
def yX2_shapeRows : MethodName := ⟨RX2, "shapeRows", "(III)I"⟩
abbrev cX2_goneSidesAt : ByteArray := prog_4_method_10_code
def yX2_goneSidesAt : MethodName := ⟨RX2, "goneSidesAt", "(II)I"⟩
abbrev cX2_cutSidesAt : ByteArray := prog_4_method_11_code
def yX2_cutSidesAt : MethodName := ⟨RX2, "cutSidesAt", "(II)I"⟩
abbrev cX2_goneAbove : ByteArray := prog_4_method_12_code
def yX2_goneAbove : MethodName := ⟨RX2, "goneAbove", "(II)I"⟩
abbrev cX2_goneBelow : ByteArray := prog_4_method_13_code
def yX2_goneBelow : MethodName := ⟨RX2, "goneBelow", "(II)I"⟩
abbrev cX2_totalOf : ByteArray := prog_4_method_14_code
def yX2_totalOf : MethodName := ⟨RX2, "totalOf", "(I)I"⟩
def RX3 : String := "NetLoft$Row"
def TX3 : u_T := fun k => match k with
  | 0 => ("NetLoft$Row", "places", "I", false)
  | 1 => ("NetLoft$Row", "kinds", "[I", true)
  | 2 => ("NetLoft$Row", "gives", "[I", true)
  | 3 => ("NetLoft$Row", "needles", "[I", true)
  | 4 => ("NetLoft$Row", "firsts", "[I", true)
  | 5 => ("NetLoft$Row", "sides", "[I", true)
  | _ => ("NetLoft$Row", "gone", "[I", true)
def tyX3 : Nat → FieldType := fun k => match k with
  | 0 => .int
  | 1 => .array .int
  | 2 => .array .int
  | 3 => .array .int
  | 4 => .array .int
  | 5 => .array .int
  | _ => .array .int
theorem nmX3 : ∀ a, a < 7 → ∀ b, b < 7 → a ≠ b → (TX3 a).2.1 ≠ (TX3 b).2.1 := by decide +kernel
theorem tyX3_ok : ∀ k, k < 7 → parseFieldDescriptor (TX3 k).2.2.1 = some (tyX3 k) := by decide +kernel
abbrev cX3_init : ByteArray := prog_5_method_1_code
def yX3_init : MethodName := ⟨RX3, "<init>", "(I)V"⟩
abbrev cX3_copied : ByteArray := prog_5_method_2_code
def yX3_copied : MethodName := ⟨RX3, "copied", "()LNetLoft$Row;"⟩
abbrev cX3_has : ByteArray := prog_5_method_3_code
def yX3_has : MethodName := ⟨RX3, "has", "(I)Z"⟩
abbrev cX3_turn : ByteArray := prog_5_method_4_code
def yX3_turn : MethodName := ⟨RX3, "turn", "(II)V"⟩
abbrev cX3_turnEvery : ByteArray := prog_5_method_5_code
def yX3_turnEvery : MethodName := ⟨RX3, "turnEvery", "(II)V"⟩
abbrev cX3_givenInAll : ByteArray := prog_5_method_6_code
def yX3_givenInAll : MethodName := ⟨RX3, "givenInAll", "()I"⟩
abbrev cX3_giverBehind : ByteArray := prog_5_method_7_code
def yX3_giverBehind : MethodName := ⟨RX3, "giverBehind", "(I)I"⟩
abbrev cX3_hangIn : ByteArray := prog_5_method_8_code
def yX3_hangIn : MethodName := ⟨RX3, "hangIn", "(LNetLoft$Row;)V"⟩
abbrev cX3_hangInNothing : ByteArray := prog_5_method_9_code
def yX3_hangInNothing : MethodName := ⟨RX3, "hangInNothing", "()V"⟩
abbrev cX3_placeOfSide : ByteArray := prog_5_method_10_code
def yX3_placeOfSide : MethodName := ⟨RX3, "placeOfSide", "(II)I"⟩
abbrev cX3_hangsBy : ByteArray := prog_5_method_11_code
def yX3_hangsBy : MethodName := ⟨RX3, "hangsBy", "(II)Z"⟩
abbrev cX3_isGone : ByteArray := prog_5_method_12_code
def yX3_isGone : MethodName := ⟨RX3, "isGone", "(II)Z"⟩
abbrev cX3_sideIsGone : ByteArray := prog_5_method_13_code
def yX3_sideIsGone : MethodName := ⟨RX3, "sideIsGone", "(II)Z"⟩
abbrev cX3_isWhole : ByteArray := prog_5_method_14_code
def yX3_isWhole : MethodName := ⟨RX3, "isWhole", "(II)Z"⟩
abbrev cX3_setSide : ByteArray := prog_5_method_15_code
def yX3_setSide : MethodName := ⟨RX3, "setSide", "(IIZ)V"⟩
abbrev cX3_setSideTo : ByteArray := prog_5_method_16_code
def yX3_setSideTo : MethodName := ⟨RX3, "setSideTo", "(IIZ)V"⟩
abbrev cX3_countOver : ByteArray := prog_5_method_17_code
def yX3_countOver : MethodName := ⟨RX3, "countOver", "(I)I"⟩
abbrev cX3_shareOf : ByteArray := prog_5_method_18_code
def yX3_shareOf : MethodName := ⟨RX3, "shareOf", "(II)I"⟩
def RX4 : String := "NetLoft$Seam"
def TX4 : u_T := fun k => match k with
  | 0 => ("NetLoft$Seam", "size", "I", false)
  | _ => ("NetLoft$Seam", "takes", "[I", true)
def tyX4 : Nat → FieldType := fun k => match k with
  | 0 => .int
  | _ => .array .int
theorem nmX4 : ∀ a, a < 2 → ∀ b, b < 2 → a ≠ b → (TX4 a).2.1 ≠ (TX4 b).2.1 := by decide +kernel
theorem tyX4_ok : ∀ k, k < 2 → parseFieldDescriptor (TX4 k).2.2.1 = some (tyX4 k) := by decide +kernel
abbrev cX4_init : ByteArray := prog_6_method_1_code
def yX4_init : MethodName := ⟨RX4, "<init>", "()V"⟩
abbrev cX4_join : ByteArray := prog_6_method_2_code
def yX4_join : MethodName := ⟨RX4, "join", "(LNetLoft$Row;LNetLoft$Row;)V"⟩
abbrev cX4_spread : ByteArray := prog_6_method_3_code
def yX4_spread : MethodName := ⟨RX4, "spread", "(II)V"⟩
abbrev cX4_giveOneEach : ByteArray := prog_6_method_4_code
def yX4_giveOneEach : MethodName := ⟨RX4, "giveOneEach", "(LNetLoft$Row;)V"⟩
def RX5 : String := "NetLoft$Taper"
def TX5 : u_T := fun k => match k with
  | 0 => ("NetLoft$Taper", "length", "I", false)
  | 1 => ("NetLoft$Taper", "rows", "I", false)
  | _ => ("NetLoft$Taper", "takes", "I", false)
def tyX5 : Nat → FieldType := fun k => match k with
  | 0 => .int
  | 1 => .int
  | _ => .int
theorem nmX5 : ∀ a, a < 3 → ∀ b, b < 3 → a ≠ b → (TX5 a).2.1 ≠ (TX5 b).2.1 := by decide +kernel
theorem tyX5_ok : ∀ k, k < 3 → parseFieldDescriptor (TX5 k).2.2.1 = some (tyX5 k) := by decide +kernel
abbrev cX5_init : ByteArray := prog_7_method_1_code
def yX5_init : MethodName := ⟨RX5, "<init>", "()V"⟩
abbrev cX5_find : ByteArray := prog_7_method_2_code
def yX5_find : MethodName := ⟨RX5, "find", "(II)I"⟩
abbrev cX5_tell : ByteArray := prog_7_method_3_code
def yX5_tell : MethodName := ⟨RX5, "tell", "(I)I"⟩
def RX6 : String := "NetLoft$Way"
def TX6 : u_T := fun k => match k with
  | 0 => ("NetLoft$Way", "size", "I", false)
  | 1 => ("NetLoft$Way", "backwards", "[I", true)
  | 2 => ("NetLoft$Way", "trail", "[I", true)
  | _ => ("NetLoft$Way", "onTrail", "I", false)
def tyX6 : Nat → FieldType := fun k => match k with
  | 0 => .int
  | 1 => .array .int
  | 2 => .array .int
  | _ => .int
theorem nmX6 : ∀ a, a < 4 → ∀ b, b < 4 → a ≠ b → (TX6 a).2.1 ≠ (TX6 b).2.1 := by decide +kernel
theorem tyX6_ok : ∀ k, k < 4 → parseFieldDescriptor (TX6 k).2.2.1 = some (tyX6 k) := by decide +kernel
abbrev cX6_init : ByteArray := prog_8_method_1_code
def yX6_init : MethodName := ⟨RX6, "<init>", "()V"⟩
abbrev cX6_knotAt : ByteArray := prog_8_method_2_code
def yX6_knotAt : MethodName := ⟨RX6, "knotAt", "(I)I"⟩
abbrev cX6_walk : ByteArray := prog_8_method_3_code
def yX6_walk : MethodName := ⟨RX6, "walk", "(LNetLoft$Panel;I)V"⟩
abbrev cX6_goTo : ByteArray := prog_8_method_4_code
def yX6_goTo : MethodName := ⟨RX6, "goTo", "(I)V"⟩
abbrev cX6_goBackFrom : ByteArray := prog_8_method_5_code
def yX6_goBackFrom : MethodName := ⟨RX6, "goBackFrom", "(I)V"⟩
abbrev cX6_mendOneFrom : ByteArray := prog_8_method_6_code
def yX6_mendOneFrom : MethodName := ⟨RX6, "mendOneFrom", "(LNetLoft$Panel;II)I"⟩
abbrev cX6_makeWhole : ByteArray := prog_8_method_7_code
def yX6_makeWhole : MethodName := ⟨RX6, "makeWhole", "(LNetLoft$Row;II)V"⟩
def RX7 : String := "NetLoft"
def TX7 : u_T := fun k => match k with
  | 0 => ("NetLoft", "panels", "[LNetLoft$Panel;", true)
  | 1 => ("NetLoft", "panelCount", "I", false)
  | 2 => ("NetLoft", "partValues", "[I", true)
  | 3 => ("NetLoft", "partCount", "I", false)
  | 4 => ("NetLoft", "holeAtHand", "LNetLoft$Hole;", true)
  | 5 => ("NetLoft", "holeToMend", "LNetLoft$Hole;", true)
  | 6 => ("NetLoft", "wayAtHand", "LNetLoft$Way;", true)
  | 7 => ("NetLoft", "latestTaper", "LNetLoft$Taper;", true)
  | 8 => ("NetLoft", "latestSeam", "LNetLoft$Seam;", true)
  | _ => ("NetLoft", "loads", "LNetLoft$Loads;", true)
def tyX7 : Nat → FieldType := fun k => match k with
  | 0 => .array (.object "NetLoft$Panel")
  | 1 => .int
  | 2 => .array .int
  | 3 => .int
  | 4 => .object "NetLoft$Hole"
  | 5 => .object "NetLoft$Hole"
  | 6 => .object "NetLoft$Way"
  | 7 => .object "NetLoft$Taper"
  | 8 => .object "NetLoft$Seam"
  | _ => .object "NetLoft$Loads"
theorem nmX7 : ∀ a, a < 10 → ∀ b, b < 10 → a ≠ b → (TX7 a).2.1 ≠ (TX7 b).2.1 := by decide +kernel
theorem tyX7_ok : ∀ k, k < 10 → parseFieldDescriptor (TX7 k).2.2.1 = some (tyX7 k) := by decide +kernel
abbrev cX7_init : ByteArray := prog_1_method_1_code
def yX7_init : MethodName := ⟨RX7, "<init>", "()V"⟩
abbrev cX7_panel : ByteArray := prog_1_method_2_code
def yX7_panel : MethodName := ⟨RX7, "panel", "(III)I"⟩
abbrev cX7_row : ByteArray := prog_1_method_3_code
def yX7_row : MethodName := ⟨RX7, "row", "(I)I"⟩
abbrev cX7_kind : ByteArray := prog_1_method_4_code
def yX7_kind : MethodName := ⟨RX7, "kind", "(III)Z"⟩
abbrev cX7_shape : ByteArray := prog_1_method_5_code
def yX7_shape : MethodName := ⟨RX7, "shape", "(IIII)I"⟩
abbrev cX7_ahead : ByteArray := prog_1_method_6_code
def yX7_ahead : MethodName := ⟨RX7, "ahead", "(IIII)J"⟩
abbrev cX7_meshes : ByteArray := prog_1_method_7_code
def yX7_meshes : MethodName := ⟨RX7, "meshes", "(II)I"⟩
abbrev cX7_of : ByteArray := prog_1_method_8_code
def yX7_of : MethodName := ⟨RX7, "of", "(IIII)I"⟩
abbrev cX7_panelOf : ByteArray := prog_1_method_9_code
def yX7_panelOf : MethodName := ⟨RX7, "panelOf", "(II)I"⟩
abbrev cX7_count : ByteArray := prog_1_method_10_code
def yX7_count : MethodName := ⟨RX7, "count", "(I)I"⟩
abbrev cX7_side : ByteArray := prog_1_method_11_code
def yX7_side : MethodName := ⟨RX7, "side", "(IIIIZ)Z"⟩
abbrev cX7_cut : ByteArray := prog_1_method_12_code
def yX7_cut : MethodName := ⟨RX7, "cut", "(III)I"⟩
abbrev cX7_tear : ByteArray := prog_1_method_13_code
def yX7_tear : MethodName := ⟨RX7, "tear", "(II)Z"⟩
abbrev cX7_needle : ByteArray := prog_1_method_14_code
def yX7_needle : MethodName := ⟨RX7, "needle", "(IIIZ)Z"⟩
abbrev cX7_hole : ByteArray := prog_1_method_15_code
def yX7_hole : MethodName := ⟨RX7, "hole", "(III)I"⟩
abbrev cX7_edge : ByteArray := prog_1_method_16_code
def yX7_edge : MethodName := ⟨RX7, "edge", "(II)I"⟩
abbrev cX7_mend : ByteArray := prog_1_method_17_code
def yX7_mend : MethodName := ⟨RX7, "mend", "(III)I"⟩
abbrev cX7_way : ByteArray := prog_1_method_18_code
def yX7_way : MethodName := ⟨RX7, "way", "(I)I"⟩
abbrev cX7_taper : ByteArray := prog_1_method_19_code
def yX7_taper : MethodName := ⟨RX7, "taper", "(III)I"⟩
abbrev cX7_cycle : ByteArray := prog_1_method_20_code
def yX7_cycle : MethodName := ⟨RX7, "cycle", "(I)I"⟩
abbrev cX7_sew : ByteArray := prog_1_method_21_code
def yX7_sew : MethodName := ⟨RX7, "sew", "(II)I"⟩
abbrev cX7_match : ByteArray := prog_1_method_22_code
def yX7_match : MethodName := ⟨RX7, "match", "(I)I"⟩
abbrev cX7_hang : ByteArray := prog_1_method_23_code
def yX7_hang : MethodName := ⟨RX7, "hang", "(III)Z"⟩
abbrev cX7_parts : ByteArray := prog_1_method_24_code
def yX7_parts : MethodName := ⟨RX7, "parts", "(I)Z"⟩
abbrev cX7_part : ByteArray := prog_1_method_25_code
def yX7_part : MethodName := ⟨RX7, "part", "(II)Z"⟩
abbrev cX7_open : ByteArray := prog_1_method_26_code
def yX7_open : MethodName := ⟨RX7, "open", "(I)I"⟩
abbrev cX7_slips : ByteArray := prog_1_method_27_code
def yX7_slips : MethodName := ⟨RX7, "slips", "(II)I"⟩
abbrev cX7_pull : ByteArray := prog_1_method_28_code
def yX7_pull : MethodName := ⟨RX7, "pull", "(III)Z"⟩
abbrev cX7_load : ByteArray := prog_1_method_29_code
def yX7_load : MethodName := ⟨RX7, "load", "(IIII)J"⟩
abbrev cX7_sum : ByteArray := prog_1_method_30_code
def yX7_sum : MethodName := ⟨RX7, "sum", "(III)J"⟩
abbrev cX7_weak : ByteArray := prog_1_method_31_code
def yX7_weak : MethodName := ⟨RX7, "weak", "(I)I"⟩
abbrev cX7_within : ByteArray := prog_1_method_32_code
def yX7_within : MethodName := ⟨RX7, "within", "(III)Z"⟩
abbrev cX7_isRule : ByteArray := prog_1_method_33_code
def yX7_isRule : MethodName := ⟨RX7, "isRule", "(II)Z"⟩
abbrev cX7_shapedPlaces : ByteArray := prog_1_method_34_code
def yX7_shapedPlaces : MethodName := ⟨RX7, "shapedPlaces", "(JII)J"⟩
abbrev cX7_fitTogether : ByteArray := prog_1_method_35_code
def yX7_fitTogether : MethodName := ⟨RX7, "fitTogether", "(LNetLoft$Row;LNetLoft$Row;)Z"⟩
abbrev cX7_panelAt : ByteArray := prog_1_method_36_code
def yX7_panelAt : MethodName := ⟨RX7, "panelAt", "(I)LNetLoft$Panel;"⟩
abbrev cX7_keep : ByteArray := prog_1_method_37_code
def yX7_keep : MethodName := ⟨RX7, "keep", "(LNetLoft$Panel;)I"⟩
abbrev cX7_openingOf : ByteArray := prog_1_method_38_code
def yX7_openingOf : MethodName := ⟨RX7, "openingOf", "(LNetLoft$Panel;)I"⟩
def RX8 : String := "NetLoftModel"
def TX8 : u_T := fun k => match k with
  | 0 => ("NetLoftModel", "thrown", "I", false)
  | 1 => ("NetLoftModel", "panels", "I", false)
  | 2 => ("NetLoftModel", "rows", "[I", true)
  | 3 => ("NetLoftModel", "bar", "[I", true)
  | 4 => ("NetLoftModel", "strength", "[I", true)
  | 5 => ("NetLoftModel", "hangA", "[I", true)
  | 6 => ("NetLoftModel", "hangB", "[I", true)
  | 7 => ("NetLoftModel", "pulls", "[I", true)
  | 8 => ("NetLoftModel", "many", "[I", true)
  | 9 => ("NetLoftModel", "torn", "[Z", true)
  | 10 => ("NetLoftModel", "kind", "[I", true)
  | 11 => ("NetLoftModel", "gives", "[I", true)
  | 12 => ("NetLoftModel", "first", "[I", true)
  | 13 => ("NetLoftModel", "sides", "[I", true)
  | 14 => ("NetLoftModel", "gone", "[I", true)
  | 15 => ("NetLoftModel", "needle", "[Z", true)
  | 16 => ("NetLoftModel", "partMany", "I", false)
  | 17 => ("NetLoftModel", "parts", "[I", true)
  | 18 => ("NetLoftModel", "isIn", "[Z", true)
  | 19 => ("NetLoftModel", "waits", "[I", true)
  | 20 => ("NetLoftModel", "knots", "I", false)
  | 21 => ("NetLoftModel", "lost", "I", false)
  | 22 => ("NetLoftModel", "hasHole", "Z", false)
  | 23 => ("NetLoftModel", "holeKnots", "I", false)
  | 24 => ("NetLoftModel", "holeSides", "I", false)
  | 25 => ("NetLoftModel", "holeOdd", "I", false)
  | 26 => ("NetLoftModel", "holeKnot", "[I", true)
  | 27 => ("NetLoftModel", "holeIsOdd", "[Z", true)
  | 28 => ("NetLoftModel", "wayMany", "I", false)
  | 29 => ("NetLoftModel", "way", "[I", true)
  | 30 => ("NetLoftModel", "met", "[Z", true)
  | 31 => ("NetLoftModel", "taperRows", "I", false)
  | 32 => ("NetLoftModel", "taperTakes", "I", false)
  | 33 => ("NetLoftModel", "taperAll", "I", false)
  | 34 => ("NetLoftModel", "matches", "I", false)
  | 35 => ("NetLoftModel", "match", "[I", true)
  | 36 => ("NetLoftModel", "loads", "[J", true)
  | 37 => ("NetLoftModel", "atFoot", "J", false)
  | _ => ("NetLoftModel", "atLoss", "J", false)
def tyX8 : Nat → FieldType := fun k => match k with
  | 0 => .int
  | 1 => .int
  | 2 => .array .int
  | 3 => .array .int
  | 4 => .array .int
  | 5 => .array .int
  | 6 => .array .int
  | 7 => .array .int
  | 8 => .array .int
  | 9 => .array .boolean
  | 10 => .array .int
  | 11 => .array .int
  | 12 => .array .int
  | 13 => .array .int
  | 14 => .array .int
  | 15 => .array .boolean
  | 16 => .int
  | 17 => .array .int
  | 18 => .array .boolean
  | 19 => .array .int
  | 20 => .int
  | 21 => .int
  | 22 => .boolean
  | 23 => .int
  | 24 => .int
  | 25 => .int
  | 26 => .array .int
  | 27 => .array .boolean
  | 28 => .int
  | 29 => .array .int
  | 30 => .array .boolean
  | 31 => .int
  | 32 => .int
  | 33 => .int
  | 34 => .int
  | 35 => .array .int
  | 36 => .array .long
  | 37 => .long
  | _ => .long
theorem nmX8 : ∀ a, a < 39 → ∀ b, b < 39 → a ≠ b → (TX8 a).2.1 ≠ (TX8 b).2.1 := by decide +kernel
theorem tyX8_ok : ∀ k, k < 39 → parseFieldDescriptor (TX8 k).2.2.1 = some (tyX8 k) := by decide +kernel
abbrev cX8_init : ByteArray := prog_10_method_2_code
def yX8_init : MethodName := ⟨RX8, "<init>", "()V"⟩
abbrev cX8_isPanel : ByteArray := prog_10_method_3_code
def yX8_isPanel : MethodName := ⟨RX8, "isPanel", "(I)Z"⟩
abbrev cX8_isRow : ByteArray := prog_10_method_4_code
def yX8_isRow : MethodName := ⟨RX8, "isRow", "(II)Z"⟩
abbrev cX8_isKnot : ByteArray := prog_10_method_5_code
def yX8_isKnot : MethodName := ⟨RX8, "isKnot", "(III)Z"⟩
abbrev cX8_at : ByteArray := prog_10_method_6_code
def yX8_at : MethodName := ⟨RX8, "at", "(III)I"⟩
abbrev cX8_clears : ByteArray := prog_10_method_7_code
def yX8_clears : MethodName := ⟨RX8, "clears", "(II)V"⟩
abbrev cX8_newPanel : ByteArray := prog_10_method_8_code
def yX8_newPanel : MethodName := ⟨RX8, "newPanel", "(II)I"⟩
abbrev cX8_panel : ByteArray := prog_10_method_9_code
def yX8_panel : MethodName := ⟨RX8, "panel", "(III)I"⟩
abbrev cX8_given : ByteArray := prog_10_method_10_code
def yX8_given : MethodName := ⟨RX8, "given", "(II)I"⟩
abbrev cX8_hangs : ByteArray := prog_10_method_11_code
def yX8_hangs : MethodName := ⟨RX8, "hangs", "(II)V"⟩
abbrev cX8_row : ByteArray := prog_10_method_12_code
def yX8_row : MethodName := ⟨RX8, "row", "(I)I"⟩
abbrev cX8_becomes : ByteArray := prog_10_method_13_code
def yX8_becomes : MethodName := ⟨RX8, "becomes", "(II)V"⟩
abbrev cX8_kind : ByteArray := prog_10_method_14_code
def yX8_kind : MethodName := ⟨RX8, "kind", "(III)Z"⟩
abbrev cX8_shaped : ByteArray := prog_10_method_15_code
def yX8_shaped : MethodName := ⟨RX8, "shaped", "(JII)J"⟩
abbrev cX8_shape : ByteArray := prog_10_method_16_code
def yX8_shape : MethodName := ⟨RX8, "shape", "(IIII)I"⟩
abbrev cX8_ahead : ByteArray := prog_10_method_17_code
def yX8_ahead : MethodName := ⟨RX8, "ahead", "(IIII)J"⟩
abbrev cX8_meshes : ByteArray := prog_10_method_18_code
def yX8_meshes : MethodName := ⟨RX8, "meshes", "(II)I"⟩
abbrev cX8_hangsIn : ByteArray := prog_10_method_19_code
def yX8_hangsIn : MethodName := ⟨RX8, "hangsIn", "(III)Z"⟩
abbrev cX8_bits : ByteArray := prog_10_method_20_code
def yX8_bits : MethodName := ⟨RX8, "bits", "(I)I"⟩
abbrev cX8_below : ByteArray := prog_10_method_21_code
def yX8_below : MethodName := ⟨RX8, "below", "(IIII)I"⟩
abbrev cX8_goneAt : ByteArray := prog_10_method_22_code
def yX8_goneAt : MethodName := ⟨RX8, "goneAt", "(III)I"⟩
abbrev cX8_of : ByteArray := prog_10_method_23_code
def yX8_of : MethodName := ⟨RX8, "of", "(IIII)I"⟩
abbrev cX8_side : ByteArray := prog_10_method_24_code
def yX8_side : MethodName := ⟨RX8, "side", "(IIIIZ)Z"⟩
abbrev cX8_cut : ByteArray := prog_10_method_25_code
def yX8_cut : MethodName := ⟨RX8, "cut", "(III)I"⟩
abbrev cX8_tear : ByteArray := prog_10_method_26_code
def yX8_tear : MethodName := ⟨RX8, "tear", "(II)Z"⟩
abbrev cX8_needle : ByteArray := prog_10_method_27_code
def yX8_needle : MethodName := ⟨RX8, "needle", "(IIIZ)Z"⟩
abbrev cX8_spreads : ByteArray := prog_10_method_28_code
def yX8_spreads : MethodName := ⟨RX8, "spreads", "(III)V"⟩
abbrev cX8_oddOnes : ByteArray := prog_10_method_29_code
def yX8_oddOnes : MethodName := ⟨RX8, "oddOnes", "(I)I"⟩
abbrev cX8_hole : ByteArray := prog_10_method_30_code
def yX8_hole : MethodName := ⟨RX8, "hole", "(III)I"⟩
abbrev cX8_twines : ByteArray := prog_10_method_31_code
def yX8_twines : MethodName := ⟨RX8, "twines", "(II)I"⟩
abbrev cX8_edge : ByteArray := prog_10_method_32_code
def yX8_edge : MethodName := ⟨RX8, "edge", "(II)I"⟩
abbrev cX8_mend : ByteArray := prog_10_method_33_code
def yX8_mend : MethodName := ⟨RX8, "mend", "(III)I"⟩
abbrev cX8_ties : ByteArray := prog_10_method_34_code
def yX8_ties : MethodName := ⟨RX8, "ties", "(IIIZ)V"⟩
abbrev cX8_isGone : ByteArray := prog_10_method_35_code
def yX8_isGone : MethodName := ⟨RX8, "isGone", "(III)Z"⟩
abbrev cX8_goesOn : ByteArray := prog_10_method_36_code
def yX8_goesOn : MethodName := ⟨RX8, "goesOn", "(III)I"⟩
abbrev cX8_reaches : ByteArray := prog_10_method_37_code
def yX8_reaches : MethodName := ⟨RX8, "reaches", "(III)Z"⟩
abbrev cX8_way : ByteArray := prog_10_method_38_code
def yX8_way : MethodName := ⟨RX8, "way", "(I)I"⟩
abbrev cX8_taper : ByteArray := prog_10_method_39_code
def yX8_taper : MethodName := ⟨RX8, "taper", "(III)I"⟩
abbrev cX8_cycle : ByteArray := prog_10_method_40_code
def yX8_cycle : MethodName := ⟨RX8, "cycle", "(I)I"⟩
abbrev cX8_copies : ByteArray := prog_10_method_41_code
def yX8_copies : MethodName := ⟨RX8, "copies", "(IIII)V"⟩
abbrev cX8_sew : ByteArray := prog_10_method_42_code
def yX8_sew : MethodName := ⟨RX8, "sew", "(II)I"⟩
abbrev cX8_match : ByteArray := prog_10_method_43_code
def yX8_match : MethodName := ⟨RX8, "match", "(I)I"⟩
abbrev cX8_hang : ByteArray := prog_10_method_44_code
def yX8_hang : MethodName := ⟨RX8, "hang", "(III)Z"⟩
abbrev cX8_parts : ByteArray := prog_10_method_45_code
def yX8_parts : MethodName := ⟨RX8, "parts", "(I)Z"⟩
abbrev cX8_part : ByteArray := prog_10_method_46_code
def yX8_part : MethodName := ⟨RX8, "part", "(II)Z"⟩
abbrev cX8_open : ByteArray := prog_10_method_47_code
def yX8_open : MethodName := ⟨RX8, "open", "(I)I"⟩
abbrev cX8_slips : ByteArray := prog_10_method_48_code
def yX8_slips : MethodName := ⟨RX8, "slips", "(II)I"⟩
abbrev cX8_sixth : ByteArray := prog_10_method_49_code
def yX8_sixth : MethodName := ⟨RX8, "sixth", "(I)J"⟩
abbrev cX8_leads : ByteArray := prog_10_method_50_code
def yX8_leads : MethodName := ⟨RX8, "leads", "(I)V"⟩
abbrev cX8_lowest : ByteArray := prog_10_method_51_code
def yX8_lowest : MethodName := ⟨RX8, "lowest", "(JJI)J"⟩
abbrev cX8_pull : ByteArray := prog_10_method_52_code
def yX8_pull : MethodName := ⟨RX8, "pull", "(III)Z"⟩
abbrev cX8_load : ByteArray := prog_10_method_53_code
def yX8_load : MethodName := ⟨RX8, "load", "(IIII)J"⟩
abbrev cX8_sum : ByteArray := prog_10_method_54_code
def yX8_sum : MethodName := ⟨RX8, "sum", "(III)J"⟩
abbrev cX8_weak : ByteArray := prog_10_method_55_code
def yX8_weak : MethodName := ⟨RX8, "weak", "(I)I"⟩
abbrev cX8_count : ByteArray := prog_10_method_56_code
def yX8_count : MethodName := ⟨RX8, "count", "(I)I"⟩
abbrev cX8_panelOf : ByteArray := prog_10_method_57_code
def yX8_panelOf : MethodName := ⟨RX8, "panelOf", "(II)I"⟩
def RJ6 : String := "java/lang/Integer"
def TJ6 : u_T := fun k => match k with
  | _ => ("", "", "", false)
def tyJ6 : Nat → FieldType := fun k => match k with
  | _ => .int
theorem nmJ6 : ∀ a, a < 0 → ∀ b, b < 0 → a ≠ b → (TJ6 a).2.1 ≠ (TJ6 b).2.1 := by decide +kernel
theorem tyJ6_ok : ∀ k, k < 0 → parseFieldDescriptor (TJ6 k).2.2.1 = some (tyJ6 k) := by decide +kernel
abbrev cJ6_bitCount_0f7a4 : ByteArray := prog_11_method_49_code
def yJ6_bitCount_0f7a4 : MethodName := ⟨RJ6, "bitCount", "(I)I"⟩
def RJ9 : String := "java/lang/Math"
def TJ9 : u_T := fun k => match k with
  | _ => ("", "", "", false)
def tyJ9 : Nat → FieldType := fun k => match k with
  | _ => .int
theorem nmJ9 : ∀ a, a < 0 → ∀ b, b < 0 → a ≠ b → (TJ9 a).2.1 ≠ (TJ9 b).2.1 := by decide +kernel
theorem tyJ9_ok : ∀ k, k < 0 → parseFieldDescriptor (TJ9 k).2.2.1 = some (tyJ9 k) := by decide +kernel
abbrev cJ9_max_7cf53 : ByteArray := prog_12_method_65_code
def yJ9_max_7cf53 : MethodName := ⟨RJ9, "max", "(II)I"⟩
abbrev cJ9_min_7cf53 : ByteArray := prog_12_method_69_code
def yJ9_min_7cf53 : MethodName := ⟨RJ9, "min", "(II)I"⟩
def RJ10 : String := "java/lang/System"
def TJ10 : u_T := fun k => match k with
  | _ => ("", "", "", false)
def tyJ10 : Nat → FieldType := fun k => match k with
  | _ => .int
theorem nmJ10 : ∀ a, a < 0 → ∀ b, b < 0 → a ≠ b → (TJ10 a).2.1 ≠ (TJ10 b).2.1 := by decide +kernel
theorem tyJ10_ok : ∀ k, k < 0 → parseFieldDescriptor (TJ10 k).2.2.1 = some (tyJ10 k) := by decide +kernel
def RL : String := "NetLoftLaw"
abbrev cL_law : ByteArray := code
def yL_law : MethodName := ⟨RL, "law", "([I)Z"⟩
abbrev vwCl : List vw_C := [(RX0, TX0, 9), (RX1, TX1, 4), (RX2, TX2, 7), (RX3, TX3, 7), (RX4, TX4, 2), (RX5, TX5, 3), (RX6, TX6, 4), (RX7, TX7, 10), (RX8, TX8, 39)]
/-- a method: its name, bytes, number of locals, answer, own class, and the room that it is given: frames, cells, slots, words -/
abbrev nM : Type := MethodName × ByteArray × Nat × Option FieldType × Nat × Nat × Nat × Nat × Nat
def cNm (c : Nat) : String := match c with
  | 0 => RX0
  | 1 => RX1
  | 2 => RX2
  | 3 => RX3
  | 4 => RX4
  | 5 => RX5
  | 6 => RX6
  | 7 => RX7
  | 8 => RX8
  | 9 => RL
  | 10 => RJ6
  | _ => RJ9
def YX0_init : nM := (yX0_init, cX0_init, 1, none, 0, 1, 24, 1940, 20)
def YX0_trace : nM := (yX0_trace, cX0_trace, 5, none, 0, 5, 0, 0, 117)
def YX0_clear : nM := (yX0_clear, cX0_clear, 3, none, 0, 0, 0, 0, 0)
def YX0_reach : nM := (yX0_reach, cX0_reach, 3, none, 0, 1, 0, 0, 22)
def YX0_reachFrom : nM := (yX0_reachFrom, cX0_reachFrom, 7, none, 0, 3, 0, 0, 66)
def YX0_listReached : nM := (yX0_listReached, cX0_listReached, 6, none, 0, 4, 0, 0, 92)
def YX0_twines : nM := (yX0_twines, cX0_twines, 1, (some .int), 0, 0, 0, 0, 0)
def YX0_tell : nM := (yX0_tell, cX0_tell, 3, (some .int), 0, 1, 0, 0, 22)
def YX0_hasNeedle : nM := (yX0_hasNeedle, cX0_hasNeedle, 5, (some .boolean), 0, 3, 0, 0, 66)
def YX0_beginning : nM := (yX0_beginning, cX0_beginning, 2, (some .int), 0, 0, 0, 0, 0)
def YX1_init : nM := (yX1_init, cX1_init, 1, none, 1, 1, 22, 524, 20)
def YX1_leadDown : nM := (yX1_leadDown, cX1_leadDown, 5, none, 1, 2, 0, 0, 47)
def YX1_countWholeSides : nM := (yX1_countWholeSides, cX1_countWholeSides, 5, none, 1, 1, 0, 0, 22)
def YX1_lose : nM := (yX1_lose, cX1_lose, 4, none, 1, 0, 0, 0, 0)
def YX1_handOn : nM := (yX1_handOn, cX1_handOn, 6, none, 1, 1, 0, 0, 22)
def YX1_inAll : nM := (yX1_inAll, cX1_inAll, 6, (some .long), 1, 0, 0, 0, 0)
def YX1_firstAbove : nM := (yX1_firstAbove, cX1_firstAbove, 5, (some .int), 1, 2, 0, 0, 43)
def YX1_isAbove : nM := (yX1_isAbove, cX1_isAbove, 5, (some .boolean), 1, 0, 0, 0, 0)
def YX1_term : nM := (yX1_term, cX1_term, 5, (some .long), 1, 1, 0, 0, 30)
def YX1_commonDivisor : nM := (yX1_commonDivisor, cX1_commonDivisor, 11, (some .long), 1, 0, 0, 0, 0)
def YX2_init : nM := (yX2_init, cX2_init, 3, none, 2, 1, 2, 44, 20)
def YX2_rowAt : nM := (yX2_rowAt, cX2_rowAt, 2, (some (.object "NetLoft$Row")), 2, 1, 0, 0, 22)
def YX2_lastRow : nM := (yX2_lastRow, cX2_lastRow, 1, (some (.object "NetLoft$Row")), 2, 2, 0, 0, 43)
def YX2_rowWith : nM := (yX2_rowWith, cX2_rowWith, 4, (some (.object "NetLoft$Row")), 2, 2, 0, 0, 43)
def YX2_append : nM := (yX2_append, cX2_append, 2, none, 2, 0, 0, 0, 0)
def YX2_appendCopies : nM := (yX2_appendCopies, cX2_appendCopies, 4, none, 2, 3, 140, 3020, 81)
def YX2_hangRow : nM := (yX2_hangRow, cX2_hangRow, 4, (some .int), 2, 3, 7, 151, 63)
def YX2_bearsShaping : nM := (yX2_bearsShaping, cX2_bearsShaping, 8, (some .boolean), 2, 3, 0, 0, 63)
def YX2_shapeRows : nM := (yX2_shapeRows, cX2_shapeRows, 7, (some .int), 2, 4, 133, 2869, 86)
def YX2_goneSidesAt : nM := (yX2_goneSidesAt, cX2_goneSidesAt, 7, (some .int), 2, 3, 0, 0, 66)
def YX2_cutSidesAt : nM := (yX2_cutSidesAt, cX2_cutSidesAt, 7, (some .int), 2, 4, 0, 0, 88)
def YX2_goneAbove : nM := (yX2_goneAbove, cX2_goneAbove, 5, (some .int), 2, 3, 0, 0, 66)
def YX2_goneBelow : nM := (yX2_goneBelow, cX2_goneBelow, 5, (some .int), 2, 3, 0, 0, 66)
def YX2_totalOf : nM := (yX2_totalOf, cX2_totalOf, 5, (some .int), 2, 3, 0, 0, 65)
def YX3_init : nM := (yX3_init, cX3_init, 3, none, 3, 1, 6, 144, 20)
def YX3_copied : nM := (yX3_copied, cX3_copied, 2, (some (.object "NetLoft$Row")), 3, 2, 7, 151, 60)
def YX3_has : nM := (yX3_has, cX3_has, 2, (some .boolean), 3, 1, 0, 0, 22)
def YX3_turn : nM := (yX3_turn, cX3_turn, 3, none, 3, 0, 0, 0, 0)
def YX3_turnEvery : nM := (yX3_turnEvery, cX3_turnEvery, 5, none, 3, 1, 0, 0, 22)
def YX3_givenInAll : nM := (yX3_givenInAll, cX3_givenInAll, 3, (some .int), 3, 0, 0, 0, 0)
def YX3_giverBehind : nM := (yX3_giverBehind, cX3_giverBehind, 3, (some .int), 3, 0, 0, 0, 0)
def YX3_hangIn : nM := (yX3_hangIn, cX3_hangIn, 7, none, 3, 1, 0, 0, 22)
def YX3_hangInNothing : nM := (yX3_hangInNothing, cX3_hangInNothing, 2, none, 3, 0, 0, 0, 0)
def YX3_placeOfSide : nM := (yX3_placeOfSide, cX3_placeOfSide, 3, (some .int), 3, 1, 0, 0, 22)
def YX3_hangsBy : nM := (yX3_hangsBy, cX3_hangsBy, 3, (some .boolean), 3, 1, 0, 0, 22)
def YX3_isGone : nM := (yX3_isGone, cX3_isGone, 3, (some .boolean), 3, 2, 0, 0, 44)
def YX3_sideIsGone : nM := (yX3_sideIsGone, cX3_sideIsGone, 3, (some .boolean), 3, 0, 0, 0, 0)
def YX3_isWhole : nM := (yX3_isWhole, cX3_isWhole, 3, (some .boolean), 3, 3, 0, 0, 66)
def YX3_setSide : nM := (yX3_setSide, cX3_setSide, 4, none, 3, 0, 0, 0, 0)
def YX3_setSideTo : nM := (yX3_setSideTo, cX3_setSideTo, 4, none, 3, 2, 0, 0, 44)
def YX3_countOver : nM := (yX3_countOver, cX3_countOver, 4, (some .int), 3, 2, 0, 0, 42)
def YX3_shareOf : nM := (yX3_shareOf, cX3_shareOf, 3, (some .int), 3, 1, 0, 0, 20)
def YX4_init : nM := (yX4_init, cX4_init, 1, none, 4, 1, 1, 24, 20)
def YX4_join : nM := (yX4_join, cX4_join, 4, none, 4, 3, 0, 0, 66)
def YX4_spread : nM := (yX4_spread, cX4_spread, 4, none, 4, 1, 0, 0, 22)
def YX4_giveOneEach : nM := (yX4_giveOneEach, cX4_giveOneEach, 4, none, 4, 2, 0, 0, 43)
def YX5_init : nM := (yX5_init, cX5_init, 1, none, 5, 1, 0, 0, 20)
def YX5_find : nM := (yX5_find, cX5_find, 5, (some .int), 5, 0, 0, 0, 0)
def YX5_tell : nM := (yX5_tell, cX5_tell, 2, (some .int), 5, 0, 0, 0, 0)
def YX6_init : nM := (yX6_init, cX6_init, 1, none, 6, 1, 2, 2882, 20)
def YX6_knotAt : nM := (yX6_knotAt, cX6_knotAt, 2, (some .int), 6, 1, 0, 0, 22)
def YX6_walk : nM := (yX6_walk, cX6_walk, 6, none, 6, 5, 0, 0, 114)
def YX6_goTo : nM := (yX6_goTo, cX6_goTo, 2, none, 6, 0, 0, 0, 0)
def YX6_goBackFrom : nM := (yX6_goBackFrom, cX6_goBackFrom, 2, none, 6, 0, 0, 0, 0)
def YX6_mendOneFrom : nM := (yX6_mendOneFrom, cX6_mendOneFrom, 5, (some .int), 6, 4, 0, 0, 90)
def YX6_makeWhole : nM := (yX6_makeWhole, cX6_makeWhole, 3, none, 6, 3, 0, 0, 67)
def YX7_init : nM := (yX7_init, cX7_init, 1, none, 7, 2, 81, 7454, 40)
def YX7_panel : nM := (yX7_panel, cX7_panel, 5, (some .int), 7, 2, 10, 202, 42)
def YX7_row : nM := (yX7_row, cX7_row, 3, (some .int), 7, 4, 7, 151, 86)
def YX7_kind : nM := (yX7_kind, cX7_kind, 6, (some .boolean), 7, 3, 0, 0, 63)
def YX7_shape : nM := (yX7_shape, cX7_shape, 6, (some .int), 7, 5, 133, 2869, 112)
def YX7_ahead : nM := (yX7_ahead, cX7_ahead, 8, (some .long), 7, 2, 0, 0, 43)
def YX7_meshes : nM := (yX7_meshes, cX7_meshes, 5, (some .int), 7, 2, 0, 0, 43)
def YX7_of : nM := (yX7_of, cX7_of, 7, (some .int), 7, 4, 0, 0, 92)
def YX7_panelOf : nM := (yX7_panelOf, cX7_panelOf, 4, (some .int), 7, 4, 0, 0, 89)
def YX7_count : nM := (yX7_count, cX7_count, 2, (some .int), 7, 0, 0, 0, 0)
def YX7_side : nM := (yX7_side, cX7_side, 8, (some .boolean), 7, 3, 0, 0, 66)
def YX7_cut : nM := (yX7_cut, cX7_cut, 5, (some .int), 7, 5, 0, 0, 114)
def YX7_tear : nM := (yX7_tear, cX7_tear, 6, (some .boolean), 7, 2, 0, 0, 43)
def YX7_needle : nM := (yX7_needle, cX7_needle, 7, (some .boolean), 7, 3, 0, 0, 66)
def YX7_hole : nM := (yX7_hole, cX7_hole, 5, (some .int), 7, 6, 0, 0, 141)
def YX7_edge : nM := (yX7_edge, cX7_edge, 3, (some .int), 7, 2, 0, 0, 44)
def YX7_mend : nM := (yX7_mend, cX7_mend, 6, (some .int), 7, 6, 0, 0, 141)
def YX7_way : nM := (yX7_way, cX7_way, 2, (some .int), 7, 2, 0, 0, 43)
def YX7_taper : nM := (yX7_taper, cX7_taper, 4, (some .int), 7, 1, 0, 0, 24)
def YX7_cycle : nM := (yX7_cycle, cX7_cycle, 2, (some .int), 7, 1, 0, 0, 21)
def YX7_sew : nM := (yX7_sew, cX7_sew, 6, (some .int), 7, 4, 283, 6091, 104)
def YX7_match : nM := (yX7_match, cX7_match, 2, (some .int), 7, 1, 0, 0, 22)
def YX7_hang : nM := (yX7_hang, cX7_hang, 5, (some .boolean), 7, 2, 0, 0, 43)
def YX7_parts : nM := (yX7_parts, cX7_parts, 3, (some .boolean), 7, 1, 0, 0, 22)
def YX7_part : nM := (yX7_part, cX7_part, 3, (some .boolean), 7, 1, 0, 0, 22)
def YX7_open : nM := (yX7_open, cX7_open, 3, (some .int), 7, 2, 0, 0, 44)
def YX7_slips : nM := (yX7_slips, cX7_slips, 5, (some .int), 7, 2, 0, 0, 44)
def YX7_pull : nM := (yX7_pull, cX7_pull, 5, (some .boolean), 7, 3, 0, 0, 66)
def YX7_load : nM := (yX7_load, cX7_load, 6, (some .long), 7, 3, 0, 0, 71)
def YX7_sum : nM := (yX7_sum, cX7_sum, 5, (some .long), 7, 3, 0, 0, 71)
def YX7_weak : nM := (yX7_weak, cX7_weak, 3, (some .int), 7, 3, 0, 0, 71)
def YX7_within : nM := (yX7_within, cX7_within, 3, (some .boolean), 7, 0, 0, 0, 0)
def YX7_isRule : nM := (yX7_isRule, cX7_isRule, 2, (some .boolean), 7, 1, 0, 0, 22)
def YX7_shapedPlaces : nM := (yX7_shapedPlaces, cX7_shapedPlaces, 6, (some .long), 7, 0, 0, 0, 0)
def YX7_fitTogether : nM := (yX7_fitTogether, cX7_fitTogether, 2, (some .boolean), 7, 0, 0, 0, 0)
def YX7_panelAt : nM := (yX7_panelAt, cX7_panelAt, 2, (some (.object "NetLoft$Panel")), 7, 1, 0, 0, 22)
def YX7_keep : nM := (yX7_keep, cX7_keep, 2, (some .int), 7, 0, 0, 0, 0)
def YX7_openingOf : nM := (yX7_openingOf, cX7_openingOf, 3, (some .int), 7, 1, 0, 0, 22)
def YX8_init : nM := (yX8_init, cX8_init, 1, none, 8, 1, 23, 39593, 20)
def YX8_isPanel : nM := (yX8_isPanel, cX8_isPanel, 2, (some .boolean), 8, 0, 0, 0, 0)
def YX8_isRow : nM := (yX8_isRow, cX8_isRow, 3, (some .boolean), 8, 1, 0, 0, 21)
def YX8_isKnot : nM := (yX8_isKnot, cX8_isKnot, 4, (some .boolean), 8, 2, 0, 0, 43)
def YX8_at : nM := (yX8_at, cX8_at, 3, (some .int), 8, 0, 0, 0, 0)
def YX8_clears : nM := (yX8_clears, cX8_clears, 5, none, 8, 1, 0, 0, 22)
def YX8_newPanel : nM := (yX8_newPanel, cX8_newPanel, 5, (some .int), 8, 0, 0, 0, 0)
def YX8_panel : nM := (yX8_panel, cX8_panel, 5, (some .int), 8, 2, 0, 0, 46)
def YX8_given : nM := (yX8_given, cX8_given, 5, (some .int), 8, 1, 0, 0, 22)
def YX8_hangs : nM := (yX8_hangs, cX8_hangs, 10, none, 8, 1, 0, 0, 22)
def YX8_row : nM := (yX8_row, cX8_row, 5, (some .int), 8, 2, 0, 0, 51)
def YX8_becomes : nM := (yX8_becomes, cX8_becomes, 3, none, 8, 0, 0, 0, 0)
def YX8_kind : nM := (yX8_kind, cX8_kind, 4, (some .boolean), 8, 3, 0, 0, 66)
def YX8_shaped : nM := (yX8_shaped, cX8_shaped, 4, (some .long), 8, 0, 0, 0, 0)
def YX8_shape : nM := (yX8_shape, cX8_shape, 10, (some .int), 8, 3, 0, 0, 75)
def YX8_ahead : nM := (yX8_ahead, cX8_ahead, 8, (some .long), 8, 1, 0, 0, 23)
def YX8_meshes : nM := (yX8_meshes, cX8_meshes, 3, (some .int), 8, 2, 0, 0, 43)
def YX8_hangsIn : nM := (yX8_hangsIn, cX8_hangsIn, 4, (some .boolean), 8, 0, 0, 0, 0)
def YX8_bits : nM := (yX8_bits, cX8_bits, 3, (some .int), 8, 0, 0, 0, 0)
def YX8_below : nM := (yX8_below, cX8_below, 7, (some .int), 8, 1, 0, 0, 23)
def YX8_goneAt : nM := (yX8_goneAt, cX8_goneAt, 4, (some .int), 8, 2, 0, 0, 49)
def YX8_of : nM := (yX8_of, cX8_of, 6, (some .int), 8, 3, 0, 0, 72)
def YX8_side : nM := (yX8_side, cX8_side, 7, (some .boolean), 8, 3, 0, 0, 66)
def YX8_cut : nM := (yX8_cut, cX8_cut, 8, (some .int), 8, 3, 0, 0, 66)
def YX8_tear : nM := (yX8_tear, cX8_tear, 5, (some .boolean), 8, 2, 0, 0, 46)
def YX8_needle : nM := (yX8_needle, cX8_needle, 5, (some .boolean), 8, 3, 0, 0, 66)
def YX8_spreads : nM := (yX8_spreads, cX8_spreads, 11, none, 8, 3, 0, 0, 72)
def YX8_oddOnes : nM := (yX8_oddOnes, cX8_oddOnes, 4, (some .int), 8, 3, 0, 0, 72)
def YX8_hole : nM := (yX8_hole, cX8_hole, 5, (some .int), 8, 4, 0, 0, 102)
def YX8_twines : nM := (yX8_twines, cX8_twines, 2, (some .int), 8, 0, 0, 0, 0)
def YX8_edge : nM := (yX8_edge, cX8_edge, 3, (some .int), 8, 1, 0, 0, 21)
def YX8_mend : nM := (yX8_mend, cX8_mend, 8, (some .int), 8, 6, 0, 0, 153)
def YX8_ties : nM := (yX8_ties, cX8_ties, 9, none, 8, 1, 0, 0, 22)
def YX8_isGone : nM := (yX8_isGone, cX8_isGone, 6, (some .boolean), 8, 1, 0, 0, 23)
def YX8_goesOn : nM := (yX8_goesOn, cX8_goesOn, 9, (some .int), 8, 5, 0, 0, 125)
def YX8_reaches : nM := (yX8_reaches, cX8_reaches, 4, (some .boolean), 8, 4, 0, 0, 102)
def YX8_way : nM := (yX8_way, cX8_way, 2, (some .int), 8, 0, 0, 0, 0)
def YX8_taper : nM := (yX8_taper, cX8_taper, 6, (some .int), 8, 0, 0, 0, 0)
def YX8_cycle : nM := (yX8_cycle, cX8_cycle, 2, (some .int), 8, 0, 0, 0, 0)
def YX8_copies : nM := (yX8_copies, cX8_copies, 8, none, 8, 1, 0, 0, 22)
def YX8_sew : nM := (yX8_sew, cX8_sew, 13, (some .int), 8, 2, 0, 0, 51)
def YX8_match : nM := (yX8_match, cX8_match, 2, (some .int), 8, 0, 0, 0, 0)
def YX8_hang : nM := (yX8_hang, cX8_hang, 4, (some .boolean), 8, 1, 0, 0, 21)
def YX8_parts : nM := (yX8_parts, cX8_parts, 3, (some .boolean), 8, 0, 0, 0, 0)
def YX8_part : nM := (yX8_part, cX8_part, 3, (some .boolean), 8, 0, 0, 0, 0)
def YX8_open : nM := (yX8_open, cX8_open, 3, (some .int), 8, 1, 0, 0, 21)
def YX8_slips : nM := (yX8_slips, cX8_slips, 4, (some .int), 8, 2, 0, 0, 43)
def YX8_sixth : nM := (yX8_sixth, cX8_sixth, 4, (some .long), 8, 0, 0, 0, 0)
def YX8_leads : nM := (yX8_leads, cX8_leads, 10, none, 8, 2, 0, 0, 49)
def YX8_lowest : nM := (yX8_lowest, cX8_lowest, 11, (some .long), 8, 0, 0, 0, 0)
def YX8_pull : nM := (yX8_pull, cX8_pull, 4, (some .boolean), 8, 3, 0, 0, 66)
def YX8_load : nM := (yX8_load, cX8_load, 5, (some .long), 8, 3, 0, 0, 78)
def YX8_sum : nM := (yX8_sum, cX8_sum, 4, (some .long), 8, 3, 0, 0, 78)
def YX8_weak : nM := (yX8_weak, cX8_weak, 4, (some .int), 8, 3, 0, 0, 78)
def YX8_count : nM := (yX8_count, cX8_count, 2, (some .int), 8, 0, 0, 0, 0)
def YX8_panelOf : nM := (yX8_panelOf, cX8_panelOf, 10, (some .int), 8, 1, 0, 0, 22)
def YJ6_bitCount_0f7a4 : nM := (yJ6_bitCount_0f7a4, cJ6_bitCount_0f7a4, 1, (some .int), 10, 0, 0, 0, 0)
def YJ9_max_7cf53 : nM := (yJ9_max_7cf53, cJ9_max_7cf53, 2, (some .int), 11, 0, 0, 0, 0)
def YJ9_min_7cf53 : nM := (yJ9_min_7cf53, cJ9_min_7cf53, 2, (some .int), 11, 0, 0, 0, 0)
def YL_law : nM := (yL_law, cL_law, 4, (some .boolean), 9, 9, 600000, 7302250, 362)
end
section
/-! THE PLAIN WORLD: cells by their address; a walk's judgement over it; a row an instruction. -/
abbrev nPC : Type := (FieldType × vp_A) ⊕ ((Nat × List Value) ⊕ (Nat × (Nat → Int32)))
/-- class slots, first address of its own, next address, cells -/
abbrev nPH : Type := va_G × Nat × Nat × (Nat → Option nPC)
abbrev nAt (h : nPH) (a : Nat) : Option nPC := h.2.2.2 a
def nSt (h : nPH) (a : Nat) (e : nPC) : nPH := (h.1, h.2.1, h.2.2.1, fun q => if q = a then some e else h.2.2.2 q)
def nNw (h : nPH) (e : nPC) : nPH := (h.1, h.2.1, h.2.2.1 + 1, fun q => if q = h.2.2.1 then some e else h.2.2.2 q)
abbrev nOb (c : Nat) (fs : List Value) : nPC := .inr (.inl (c, fs))
abbrev nAi (n : Nat) (f : Nat → Int32) : nPC := .inl (.int, n, .inl f)
abbrev nAz (n : Nat) (f : Nat → Int32) : nPC := .inl (.boolean, n, .inl f)
abbrev nAl (n : Nat) (f : Nat → Int64) : nPC := .inl (.long, n, .inr (.inl f))
abbrev nAr (ty : FieldType) (n : Nat) (f : Nat → Option Nat) : nPC := .inl (ty, n, .inr (.inr (.inr (.inr f))))
def nRC (D : va_G) (U : State) (H : Heap) (a : Nat) : nPC → Prop
  | .inl x => ∃ cA : ClassId, H[a]? = some (vp_cell cA x.2) ∧ ArrOfT U cA x.1 ∧ va_RA U cA x.1
  | .inr (.inl o) => va_at D vwCl (a, .inr o) H
  | .inr (.inr x) => va_X a x.1 x.2 U H
def nRep (h : nPH) (U : State) (H : Heap) : Prop := H.size = h.2.2.1 ∧ ∀ (a : Nat) (e : nPC), h.2.2.2 a = some e → nRC h.1 U H a e
def nWs : List Cond := lw_tbl.filter goodWord
def nNL : List (String × Nat × MethodName × String) := [("NetLoft", 25, yX0_init, "NetLoft"), ("NetLoft", 35, yX6_init, "NetLoft"), ("NetLoft", 42, yX5_init, "NetLoft"), ("NetLoft", 49, yX4_init, "NetLoft"), ("NetLoft", 56, yX1_init, "NetLoft"), ("NetLoft$Panel", 37, yX7_within, "NetLoft"), ("NetLoft$Row", 43, yX7_within, "NetLoft"), ("NetLoft$Panel", 73, yX7_shapedPlaces, "NetLoft"), ("NetLoft$Hole", 64, yX7_within, "NetLoft"), ("NetLoft$Way", 22, yX7_within, "NetLoft"), ("NetLoft$Seam", 56, yX7_within, "NetLoft"), ("NetLoft$Loads", 83, yX7_within, "NetLoft")]
def nAOA (ty : FieldType) (U : State) : Prop := (Cond.arrayOver (.array ty)).before #[] U = true
def nK (D : va_G) (U : State) : Prop := va_K D vwCl [] U ∧ (∀ q ∈ nNL, va_Nw (.methodLinkNest q.1 q.2.1 q.2.2.1 q.2.2.2) U) ∧ va_AO "NetLoft$Panel" U ∧ va_AO "NetLoft$Row" U ∧ nAOA .int U ∧ nAOA .long U
/-- a method at its instruction i of n bytes, the next one at p2, in class o -/
def nD (y : nM) (pc : Nat) (i : Instr) (n p2 o : Nat) : Prop := decode y.2.1 pc = .ok (i, n) ∧ pc + n = p2 ∧ y.2.2.2.2.1 = o
abbrev nKp : Type := Room × (List Frame → Array Value → State → State → Prop)
def nCx (y : nM) (D : va_G) (p : Program) (s : State) (m : MethodId) (args : Array Value) (meth : Method) (c : Code) : Prop :=
  p.tables.exec = Jvm.exec ∧ c.code = y.2.1 ∧ c.maxLocals = y.2.2.1 ∧ s.vm.findClass (cNm y.2.2.2.2.1) = some m.cls ∧ (∀ w ∈ nWs, w.before args s = true) ∧ meth.sig.returnType = y.2.2.2.1 ∧ meth.locks = false ∧ meth.name = y.1.name ∧ nK D s
def nLs (lsA : Array Slot) (n : Nat) (ls : List (Option Value)) : Prop := lsA.size = n ∧ lv_wf lsA ∧ ∀ (i : Nat) (v : Value), ls[i]? = some (some v) → lsA[i]? = some (.val v)
def nG (y : nM) (κ : nKp) (cu su pc : Nat) (ls : List (Option Value)) (st : List Value) (h : nPH) : Prop :=
  ∀ (p : Program) (l : Launch) (e : Env) (s : State) (m : MethodId) (args : Array Value) (below : List Frame) (meth : Method) (c : Code) (H : Heap) (locs : List Loc) (lsA : Array Slot),
    nCx y h.1 p s m args meth c → nRep h s H → nLs lsA y.2.2.1 ls → (∀ q ∈ locs, h.2.1 ≤ q.base) → W p l e κ.1 s m args below meth c H locs cu su (κ.2 below args s) (F0 m pc lsA st)
def nRm (y : nM) : Room := { frames := y.2.2.2.2.2.1, cells := y.2.2.2.2.2.2.1, slots := y.2.2.2.2.2.2.2.1, locals := y.2.2.2.2.2.2.2.2 }
def nPc (h : nPH) (av : List Value) : Array Value → State → Prop := fun v U => v = av.toArray ∧ nRep h U U.heap ∧ nK h.1 U
def nQc (D : va_G) (B : Nat) (Post : Option Value → nPH → Prop) : Array Value → State → Outcome → State → Prop := fun _ _ o t => ∃ (v : Option Value) (h2 : nPH), o = .returned v ∧ Post v h2 ∧ h2.1 = D ∧ h2.2.1 = B ∧ nRep h2 t t.heap
def nWy (y : nM) : List Cond := Cond.code y.1 y.2.1 y.2.2.1 y.2.2.2.1 :: nWs
def nSp (y : nM) (av : List Value) (h : nPH) (Post : Option Value → nPH → Prop) : Prop :=
  ∀ l : Launch, Met l y.1 (nWy y) (nRm y) (nPc h av) (nQc h.1 h.2.1 Post) y.2.2.2.2.2.2.1 y.2.2.2.2.2.2.2.1 (fun q => h.2.1 ≤ q)
def nKy (y : nM) (D : va_G) (B : Nat) (Post : Option Value → nPH → Prop) : nKp := (nRm y, fun below a s => MQ below (nQc D B Post) a s y.2.2.2.2.2.2.1 y.2.2.2.2.2.2.2.1 (fun q => B ≤ q))
/-- read only, with an answer -/
def nRd (y : nM) (av : List Value) (h : nPH) (r : Value) : Prop := nSp y av h (fun v h2 => v = some r ∧ h2 = h)
def nKil (ls : List (Option Value)) (i : Nat) : List (Option Value) := match i with
  | 0 => ls
  | k + 1 => match ls[k]? with
    | some (some (.long _)) => ls.set k none
    | some (some (.double _)) => ls.set k none
    | _ => ls
def nPut (ls : List (Option Value)) (i : Nat) (v : Value) : List (Option Value) := (nKil ls i).set i (some v)
def nPu2 (ls : List (Option Value)) (i : Nat) (v : Value) : List (Option Value) := ((nKil ls i).set i (some v)).set (i + 1) none
def nAs (ls : List (Option Value)) : List (Nat × Value) := ls.zipIdx.filterMap (fun q => q.1.map (fun v => (q.2, v)))
theorem nAs_mem {ls : List (Option Value)} {i : Nat} {v : Value} : (i, v) ∈ nAs ls ↔ ls[i]? = some (some v) := by
  unfold nAs
  rw [List.mem_filterMap]
  constructor
  · rintro ⟨⟨o, j⟩, hm, he⟩
    rw [List.mem_zipIdx_iff_getElem?] at hm
    cases o with
    | none => simp at he
    | some x =>
      simp at he
      obtain ⟨rfl, rfl⟩ := he
      simpa using hm
  · intro h
    exact ⟨(some v, i), by rw [List.mem_zipIdx_iff_getElem?]; simpa using h, rfl⟩
theorem nLs_has {lsA : Array Slot} {n : Nat} {ls : List (Option Value)} (h : nLs lsA n ls) : lv_has lsA n (nAs ls) := ⟨h.1, h.2.1, fun q hq => h.2.2 q.1 q.2 (nAs_mem.mp hq)⟩
theorem nKil_at {ls : List (Option Value)} {i j : Nat} {v : Value} (h : (nKil ls i)[j]? = some (some v)) : ls[j]? = some (some v) ∧ ¬ (j + 1 = i ∧ v.category = 2) := by
  unfold nKil at h
  cases i with
  | zero => exact ⟨h, fun q => by omega⟩
  | succ k =>
    simp only at h
    have key : ∀ (x : Value), ls[k]? = some (some x) → (x.category = 2 → False) → (ls[j]? = some (some v)) → ¬ (j + 1 = k + 1 ∧ v.category = 2) := by
      intro x hx hc hj q
      have : j = k := by omega
      subst this
      rw [hx] at hj
      cases hj
      exact hc q.2
    split at h
    · rename_i x hx
      by_cases hjk : j = k
      · subst hjk
        rw [List.getElem?_set] at h
        simp at h
      · rw [List.getElem?_set_ne (fun e => hjk e.symm)] at h
        exact ⟨h, fun q => hjk (by omega)⟩
    · rename_i x hx
      by_cases hjk : j = k
      · subst hjk
        rw [List.getElem?_set] at h
        simp at h
      · rw [List.getElem?_set_ne (fun e => hjk e.symm)] at h
        exact ⟨h, fun q => hjk (by omega)⟩
    · rename_i h1 h2
      refine ⟨h, fun q => ?_⟩
      have : j = k := by omega
      subst this
      cases v with
      | long x => exact h1 x h
      | double x => exact h2 x h
      | _ => simp [Value.category] at q
theorem nPut_at {ls : List (Option Value)} {i j : Nat} {v w : Value} (h : (nPut ls i v)[j]? = some (some w)) : (j = i ∧ w = v) ∨ (j ≠ i ∧ ls[j]? = some (some w) ∧ ¬ (j + 1 = i ∧ w.category = 2)) := by
  unfold nPut at h
  by_cases hj : j = i
  · subst hj
    rw [List.getElem?_set] at h
    simp only [if_true] at h
    split at h
    · cases h; exact Or.inl ⟨rfl, rfl⟩
    · cases h
  · rw [List.getElem?_set_ne (fun e => hj e.symm)] at h
    exact Or.inr ⟨hj, nKil_at h⟩
theorem nPu2_at {ls : List (Option Value)} {i j : Nat} {v w : Value} (h : (nPu2 ls i v)[j]? = some (some w)) : (j = i ∧ w = v) ∨ (j ≠ i ∧ j ≠ i + 1 ∧ ls[j]? = some (some w) ∧ ¬ (j + 1 = i ∧ w.category = 2)) := by
  unfold nPu2 at h
  by_cases hj : j = i + 1
  · subst hj
    rw [List.getElem?_set] at h
    simp at h
  · rw [List.getElem?_set_ne (fun e => hj e.symm)] at h
    rcases nPut_at (show (nPut ls i v)[j]? = some (some w) from h) with h1 | h1
    · exact Or.inl h1
    · exact Or.inr ⟨h1.1, hj, h1.2⟩
theorem nLs_put {lsA : Array Slot} {n i : Nat} {v : Value} {ls : List (Option Value)} (h : lv_has lsA n ((i, v) :: (nAs ls).filter (fun q => !(q.1 == i) && !(q.1 + 1 == i && q.2.category == 2)))) : nLs lsA n (nPut ls i v) := by
  refine ⟨h.1, h.2.1, fun j w hj => ?_⟩
  rcases nPut_at hj with ⟨rfl, rfl⟩ | ⟨h1, h2, h3⟩
  · exact h.2.2 (_, _) List.mem_cons_self
  · refine h.2.2 (j, w) (List.mem_cons_of_mem _ (List.mem_filter.mpr ⟨nAs_mem.mpr h2, ?_⟩))
    have h4 : (j == i) = false := by simpa using h1
    by_cases q : j + 1 = i
    · have : ¬ w.category = 2 := fun e => h3 ⟨q, e⟩
      simp [h1, this]
    · simp [h1, q]
theorem nLs_pu2 {lsA : Array Slot} {n i : Nat} {v : Value} {ls : List (Option Value)} (h : lv_has lsA n ((i, v) :: (nAs ls).filter (fun q => !(q.1 == i) && (!(q.1 == i + 1) && !(q.1 + 1 == i && q.2.category == 2))))) : nLs lsA n (nPu2 ls i v) := by
  refine ⟨h.1, h.2.1, fun j w hj => ?_⟩
  rcases nPu2_at hj with ⟨rfl, rfl⟩ | ⟨h1, h0, h2, h3⟩
  · exact h.2.2 (_, _) List.mem_cons_self
  · refine h.2.2 (j, w) (List.mem_cons_of_mem _ (List.mem_filter.mpr ⟨nAs_mem.mpr h2, ?_⟩))
    by_cases q : j + 1 = i
    · have : ¬ w.category = 2 := fun e => h3 ⟨q, e⟩
      simp [h1, h0, this]
    · simp [h1, h0, q]
def nSub : List (Option Value) → List (Option Value) → Prop
  | [], _ => True
  | none :: t, u => nSub t u.tail
  | some v :: t, u => u.head? = some (some v) ∧ nSub t u.tail
theorem nSub_at : ∀ {t u : List (Option Value)}, nSub t u → ∀ (i : Nat) (v : Value), t[i]? = some (some v) → u[i]? = some (some v)
  | [], _, _, i, v, h => by simp at h
  | none :: t, u, hs, 0, v, h => by simp at h
  | none :: t, u, hs, i + 1, v, h => by
    have := nSub_at (t := t) (u := u.tail) hs i v (by simpa using h)
    cases u with
    | nil => simp at this
    | cons a u => simpa using this
  | some x :: t, u, hs, 0, v, h => by
    simp at h
    subst h
    cases u with
    | nil => simp [nSub] at hs
    | cons a u => simpa using hs.1
  | some x :: t, u, hs, i + 1, v, h => by
    have := nSub_at (t := t) (u := u.tail) hs.2 i v (by simpa using h)
    cases u with
    | nil => simp at this
    | cons a u => simpa using this
section NG
variable {y : nM} {κ : nKp} {cu su pc p2 o : Nat} {ls : List (Option Value)} {st : List Value} {h : nPH}
theorem nG.sub {ls2 : List (Option Value)} (hs : nSub ls2 ls) (k : nG y κ cu su pc ls2 st h) : nG y κ cu su pc ls st h :=
  fun p l e s m args below meth c H locs lsA C R L F => k p l e s m args below meth c H locs lsA C R ⟨L.1, L.2.1, fun i v hi => L.2.2 i v (nSub_at hs i v hi)⟩ F
theorem nG.eq {ls2 : List (Option Value)} {st2 : List Value} {h2 : nPH} {cu2 su2 : Nat} (e1 : ls = ls2) (e2 : st = st2) (e3 : h = h2) (e4 : cu = cu2) (e5 : su = su2) (k : nG y κ cu2 su2 pc ls2 st2 h2) : nG y κ cu su pc ls st h := by subst e1; subst e2; subst e3; subst e4; subst e5; exact k
theorem nG.wide {cu2 su2 : Nat} (e4 : cu ≤ cu2) (e5 : su ≤ su2) (k : nG y κ cu2 su2 pc ls st h) : nG y κ cu su pc ls st h :=
  fun p l e s m args below meth c H locs lsA C R L F => W.widen e4 e5 (k p l e s m args below meth c H locs lsA C R L F)
theorem x_iconst {n : Int} {v : Int32} (hv : Int32.ofInt n = v) (hd : nD y pc (.iconst n) 1 p2 o) (k : nG y κ cu su p2 ls (.int v :: st) h) : nG y κ cu su pc ls (st) h := by
  intro p l e s m args below meth c H locs lsA C R L F
  obtain ⟨hdg, rfl, -⟩ := hd
  exact lv_iconst C.1 C.2.1 hdg hv (k p l e s m args below meth c H locs lsA C R L F)
theorem x_bipush {n : Int} {v : Int32} (hv : (Int8.ofInt n).toInt32 = v) (hd : nD y pc (.bipush n) 2 p2 o) (k : nG y κ cu su p2 ls (.int v :: st) h) : nG y κ cu su pc ls (st) h := by
  intro p l e s m args below meth c H locs lsA C R L F
  obtain ⟨hdg, rfl, -⟩ := hd
  exact lv_bipush C.1 C.2.1 hdg hv (k p l e s m args below meth c H locs lsA C R L F)
theorem x_sipush {n : Int} {v : Int32} (hv : (Int16.ofInt n).toInt32 = v) (hd : nD y pc (.sipush n) 3 p2 o) (k : nG y κ cu su p2 ls (.int v :: st) h) : nG y κ cu su pc ls (st) h := by
  intro p l e s m args below meth c H locs lsA C R L F
  obtain ⟨hdg, rfl, -⟩ := hd
  exact lv_sipush C.1 C.2.1 hdg hv (k p l e s m args below meth c H locs lsA C R L F)
theorem x_lconst {n : Fin 2} {v : Int64} (hv : Int64.ofNat (n : Nat) = v) (hd : nD y pc (.lconst n) 1 p2 o) (k : nG y κ cu su p2 ls (.long v :: st) h) : nG y κ cu su pc ls (st) h := by
  intro p l e s m args below meth c H locs lsA C R L F
  obtain ⟨hdg, rfl, -⟩ := hd
  exact lv_lconst C.1 C.2.1 hdg hv (k p l e s m args below meth c H locs lsA C R L F)
theorem x_null (hd : nD y pc .aconst_null 1 p2 o) (k : nG y κ cu su p2 ls (.null :: st) h) : nG y κ cu su pc ls (st) h := by
  intro p l e s m args below meth c H locs lsA C R L F
  obtain ⟨hdg, rfl, -⟩ := hd
  exact lv_null C.1 C.2.1 hdg (k p l e s m args below meth c H locs lsA C R L F)
theorem x_iload_n {x : Int32} {i : Fin 4} (hl : ls[i.val]? = some (some (.int x))) (hd : nD y pc (.iload_n i) 1 p2 o) (k : nG y κ cu su p2 ls (.int x :: st) h) : nG y κ cu su pc ls (st) h := by
  intro p l e s m args below meth c H locs lsA C R L F
  obtain ⟨hdg, rfl, -⟩ := hd
  exact lv_iload_n C.1 C.2.1 hdg rfl (L.2.2 _ _ hl) (k p l e s m args below meth c H locs lsA C R L F)
theorem x_iload {x : Int32} {i : Nat} (hl : ls[i]? = some (some (.int x))) (hd : nD y pc (.iload i) 2 p2 o) (k : nG y κ cu su p2 ls (.int x :: st) h) : nG y κ cu su pc ls (st) h := by
  intro p l e s m args below meth c H locs lsA C R L F
  obtain ⟨hdg, rfl, -⟩ := hd
  exact lv_iload C.1 C.2.1 hdg (L.2.2 _ _ hl) (k p l e s m args below meth c H locs lsA C R L F)
theorem x_lload_n {x : Int64} {i : Fin 4} (hl : ls[i.val]? = some (some (.long x))) (hd : nD y pc (.lload_n i) 1 p2 o) (k : nG y κ cu su p2 ls (.long x :: st) h) : nG y κ cu su pc ls (st) h := by
  intro p l e s m args below meth c H locs lsA C R L F
  obtain ⟨hdg, rfl, -⟩ := hd
  exact lv_lload_n C.1 C.2.1 hdg rfl (L.2.2 _ _ hl) (k p l e s m args below meth c H locs lsA C R L F)
theorem x_lload {x : Int64} {i : Nat} (hl : ls[i]? = some (some (.long x))) (hd : nD y pc (.lload i) 2 p2 o) (k : nG y κ cu su p2 ls (.long x :: st) h) : nG y κ cu su pc ls (st) h := by
  intro p l e s m args below meth c H locs lsA C R L F
  obtain ⟨hdg, rfl, -⟩ := hd
  exact lv_lload C.1 C.2.1 hdg (L.2.2 _ _ hl) (k p l e s m args below meth c H locs lsA C R L F)
theorem x_aload_n {x : Nat} {i : Fin 4} (hl : ls[i.val]? = some (some (.ref x))) (hd : nD y pc (.aload_n i) 1 p2 o) (k : nG y κ cu su p2 ls (.ref x :: st) h) : nG y κ cu su pc ls (st) h := by
  intro p l e s m args below meth c H locs lsA C R L F
  obtain ⟨hdg, rfl, -⟩ := hd
  exact lv_aload_n C.1 C.2.1 hdg rfl (L.2.2 _ _ hl) (k p l e s m args below meth c H locs lsA C R L F)
theorem x_aload {x : Nat} {i : Nat} (hl : ls[i]? = some (some (.ref x))) (hd : nD y pc (.aload i) 2 p2 o) (k : nG y κ cu su p2 ls (.ref x :: st) h) : nG y κ cu su pc ls (st) h := by
  intro p l e s m args below meth c H locs lsA C R L F
  obtain ⟨hdg, rfl, -⟩ := hd
  exact lv_aload C.1 C.2.1 hdg (L.2.2 _ _ hl) (k p l e s m args below meth c H locs lsA C R L F)
theorem x_aload_nN {i : Fin 4} (hl : ls[i.val]? = some (some (.null))) (hd : nD y pc (.aload_n i) 1 p2 o) (k : nG y κ cu su p2 ls (.null :: st) h) : nG y κ cu su pc ls (st) h := by
  intro p l e s m args below meth c H locs lsA C R L F
  obtain ⟨hdg, rfl, -⟩ := hd
  exact lv_aload_nN C.1 C.2.1 hdg rfl (L.2.2 _ _ hl) (k p l e s m args below meth c H locs lsA C R L F)
theorem x_aloadN {i : Nat} (hl : ls[i]? = some (some (.null))) (hd : nD y pc (.aload i) 2 p2 o) (k : nG y κ cu su p2 ls (.null :: st) h) : nG y κ cu su pc ls (st) h := by
  intro p l e s m args below meth c H locs lsA C R L F
  obtain ⟨hdg, rfl, -⟩ := hd
  exact lv_aloadN C.1 C.2.1 hdg (L.2.2 _ _ hl) (k p l e s m args below meth c H locs lsA C R L F)
theorem x_iadd {a b : Int32} (hd : nD y pc .iadd 1 p2 o) (k : nG y κ cu su p2 ls (.int (a + b) :: st) h) : nG y κ cu su pc ls (.int b :: .int a :: st) h := by
  intro p l e s m args below meth c H locs lsA C R L F
  obtain ⟨hdg, rfl, -⟩ := hd
  exact lv_iadd C.1 C.2.1 hdg (k p l e s m args below meth c H locs lsA C R L F)
theorem x_isub {a b : Int32} (hd : nD y pc .isub 1 p2 o) (k : nG y κ cu su p2 ls (.int (a - b) :: st) h) : nG y κ cu su pc ls (.int b :: .int a :: st) h := by
  intro p l e s m args below meth c H locs lsA C R L F
  obtain ⟨hdg, rfl, -⟩ := hd
  exact lv_isub C.1 C.2.1 hdg (k p l e s m args below meth c H locs lsA C R L F)
theorem x_imul {a b : Int32} (hd : nD y pc .imul 1 p2 o) (k : nG y κ cu su p2 ls (.int (a * b) :: st) h) : nG y κ cu su pc ls (.int b :: .int a :: st) h := by
  intro p l e s m args below meth c H locs lsA C R L F
  obtain ⟨hdg, rfl, -⟩ := hd
  exact lv_imul C.1 C.2.1 hdg (k p l e s m args below meth c H locs lsA C R L F)
theorem x_iand {a b : Int32} (hd : nD y pc .iand 1 p2 o) (k : nG y κ cu su p2 ls (.int (a &&& b) :: st) h) : nG y κ cu su pc ls (.int b :: .int a :: st) h := by
  intro p l e s m args below meth c H locs lsA C R L F
  obtain ⟨hdg, rfl, -⟩ := hd
  exact lv_iand C.1 C.2.1 hdg (k p l e s m args below meth c H locs lsA C R L F)
theorem x_ior {a b : Int32} (hd : nD y pc .ior 1 p2 o) (k : nG y κ cu su p2 ls (.int (a ||| b) :: st) h) : nG y κ cu su pc ls (.int b :: .int a :: st) h := by
  intro p l e s m args below meth c H locs lsA C R L F
  obtain ⟨hdg, rfl, -⟩ := hd
  exact lv_ior C.1 C.2.1 hdg (k p l e s m args below meth c H locs lsA C R L F)
theorem x_ixor {a b : Int32} (hd : nD y pc .ixor 1 p2 o) (k : nG y κ cu su p2 ls (.int (a ^^^ b) :: st) h) : nG y κ cu su pc ls (.int b :: .int a :: st) h := by
  intro p l e s m args below meth c H locs lsA C R L F
  obtain ⟨hdg, rfl, -⟩ := hd
  exact lv_ixor C.1 C.2.1 hdg (k p l e s m args below meth c H locs lsA C R L F)
theorem x_ishl {a b : Int32} (hd : nD y pc .ishl 1 p2 o) (k : nG y κ cu su p2 ls (.int (a <<< (b &&& 31)) :: st) h) : nG y κ cu su pc ls (.int b :: .int a :: st) h := by
  intro p l e s m args below meth c H locs lsA C R L F
  obtain ⟨hdg, rfl, -⟩ := hd
  exact lv_ishl C.1 C.2.1 hdg (k p l e s m args below meth c H locs lsA C R L F)
theorem x_ishr {a b : Int32} (hd : nD y pc .ishr 1 p2 o) (k : nG y κ cu su p2 ls (.int (a >>> (b &&& 31)) :: st) h) : nG y κ cu su pc ls (.int b :: .int a :: st) h := by
  intro p l e s m args below meth c H locs lsA C R L F
  obtain ⟨hdg, rfl, -⟩ := hd
  exact lv_ishr C.1 C.2.1 hdg (k p l e s m args below meth c H locs lsA C R L F)
theorem x_iushr {a b : Int32} (hd : nD y pc .iushr 1 p2 o) (k : nG y κ cu su p2 ls (.int ((a.toUInt32 >>> (b.toUInt32 &&& Int32.toUInt32 31)).toInt32) :: st) h) : nG y κ cu su pc ls (.int b :: .int a :: st) h := by
  intro p l e s m args below meth c H locs lsA C R L F
  obtain ⟨hdg, rfl, -⟩ := hd
  exact lv_iushr C.1 C.2.1 hdg rfl (k p l e s m args below meth c H locs lsA C R L F)
theorem x_idiv {a b : Int32} (hne : ¬ b = 0) (hd : nD y pc .idiv 1 p2 o) (k : nG y κ cu su p2 ls (.int (a / b) :: st) h) : nG y κ cu su pc ls (.int b :: .int a :: st) h := by
  intro p l e s m args below meth c H locs lsA C R L F
  obtain ⟨hdg, rfl, -⟩ := hd
  exact lv_idiv C.1 C.2.1 hdg hne (k p l e s m args below meth c H locs lsA C R L F)
theorem x_irem {a b : Int32} (hne : ¬ b = 0) (hd : nD y pc .irem 1 p2 o) (k : nG y κ cu su p2 ls (.int (a - a / b * b) :: st) h) : nG y κ cu su pc ls (.int b :: .int a :: st) h := by
  intro p l e s m args below meth c H locs lsA C R L F
  obtain ⟨hdg, rfl, -⟩ := hd
  exact lv_irem C.1 C.2.1 hdg hne (k p l e s m args below meth c H locs lsA C R L F)
theorem x_ladd {a b : Int64} (hd : nD y pc .ladd 1 p2 o) (k : nG y κ cu su p2 ls (.long (a + b) :: st) h) : nG y κ cu su pc ls (.long b :: .long a :: st) h := by
  intro p l e s m args below meth c H locs lsA C R L F
  obtain ⟨hdg, rfl, -⟩ := hd
  exact lv_ladd C.1 C.2.1 hdg (k p l e s m args below meth c H locs lsA C R L F)
theorem x_lsub {a b : Int64} (hd : nD y pc .lsub 1 p2 o) (k : nG y κ cu su p2 ls (.long (a - b) :: st) h) : nG y κ cu su pc ls (.long b :: .long a :: st) h := by
  intro p l e s m args below meth c H locs lsA C R L F
  obtain ⟨hdg, rfl, -⟩ := hd
  exact lv_lsub C.1 C.2.1 hdg (k p l e s m args below meth c H locs lsA C R L F)
theorem x_lmul {a b : Int64} (hd : nD y pc .lmul 1 p2 o) (k : nG y κ cu su p2 ls (.long (a * b) :: st) h) : nG y κ cu su pc ls (.long b :: .long a :: st) h := by
  intro p l e s m args below meth c H locs lsA C R L F
  obtain ⟨hdg, rfl, -⟩ := hd
  exact lv_lmul C.1 C.2.1 hdg (k p l e s m args below meth c H locs lsA C R L F)
theorem x_ldiv {a b : Int64} (hne : ¬ b = 0) (hd : nD y pc .ldiv 1 p2 o) (k : nG y κ cu su p2 ls (.long (a / b) :: st) h) : nG y κ cu su pc ls (.long b :: .long a :: st) h := by
  intro p l e s m args below meth c H locs lsA C R L F
  obtain ⟨hdg, rfl, -⟩ := hd
  exact lv_ldiv C.1 C.2.1 hdg hne (k p l e s m args below meth c H locs lsA C R L F)
theorem x_lrem {a b : Int64} (hne : ¬ b = 0) (hd : nD y pc .lrem 1 p2 o) (k : nG y κ cu su p2 ls (.long (a - a / b * b) :: st) h) : nG y κ cu su pc ls (.long b :: .long a :: st) h := by
  intro p l e s m args below meth c H locs lsA C R L F
  obtain ⟨hdg, rfl, -⟩ := hd
  exact lv_lrem C.1 C.2.1 hdg hne (k p l e s m args below meth c H locs lsA C R L F)
theorem x_lneg {a : Int64} (hd : nD y pc .lneg 1 p2 o) (k : nG y κ cu su p2 ls (.long (-a) :: st) h) : nG y κ cu su pc ls (.long a :: st) h := by
  intro p l e s m args below meth c H locs lsA C R L F
  obtain ⟨hdg, rfl, -⟩ := hd
  exact lv_lneg C.1 C.2.1 hdg (k p l e s m args below meth c H locs lsA C R L F)
theorem x_i2l {a : Int32} (hd : nD y pc .i2l 1 p2 o) (k : nG y κ cu su p2 ls (.long a.toInt64 :: st) h) : nG y κ cu su pc ls (.int a :: st) h := by
  intro p l e s m args below meth c H locs lsA C R L F
  obtain ⟨hdg, rfl, -⟩ := hd
  exact lv_i2l C.1 C.2.1 hdg rfl (k p l e s m args below meth c H locs lsA C R L F)
theorem x_lcmp {a b : Int64} (hd : nD y pc .lcmp 1 p2 o) (k : nG y κ cu su p2 ls (.int (lg_cmp a b) :: st) h) : nG y κ cu su pc ls (.long b :: .long a :: st) h := by
  intro p l e s m args below meth c H locs lsA C R L F
  obtain ⟨hdg, rfl, -⟩ := hd
  exact W.lcmp C.1 C.2.1 hdg (k p l e s m args below meth c H locs lsA C R L F)
theorem x_dup {v : Value} (hv : v.category = 1) (hd : nD y pc .dup 1 p2 o) (k : nG y κ cu su p2 ls (v :: v :: st) h) : nG y κ cu su pc ls (v :: st) h := by
  intro p l e s m args below meth c H locs lsA C R L F
  obtain ⟨hdg, rfl, -⟩ := hd
  exact lv_dup C.1 C.2.1 hdg hv (k p l e s m args below meth c H locs lsA C R L F)
theorem x_dup2 {v v2 : Value} (hv : v.category = 1) (hv2 : v2.category = 1) (hd : nD y pc .dup2 1 p2 o) (k : nG y κ cu su p2 ls (v :: v2 :: v :: v2 :: st) h) : nG y κ cu su pc ls (v :: v2 :: st) h := by
  intro p l e s m args below meth c H locs lsA C R L F
  obtain ⟨hdg, rfl, -⟩ := hd
  exact lv_dup2_11 C.1 C.2.1 hdg hv hv2 (k p l e s m args below meth c H locs lsA C R L F)
theorem x_goto {off : Int} {tgt : Nat} (hd : nD y pc (.goto off) 3 p2 o) (ht : (pc : Int) + off = (tgt : Int)) (k : nG y κ cu su tgt ls st h) : nG y κ cu su pc ls st h := by
  intro p l e s m args below meth c H locs lsA C R L F
  exact lv_goto C.1 C.2.1 hd.1 ht (k p l e s m args below meth c H locs lsA C R L F)
theorem x_icmp_eqT {a b : Int32} {off : Int} {tgt : Nat} (hd : nD y pc (.if_icmp .eq off) 3 p2 o) (ht : (pc : Int) + off = (tgt : Int)) (hc : a = b) (k : nG y κ cu su tgt ls st h) : nG y κ cu su pc ls (.int b :: .int a :: st) h := by
  intro p l e s m args below meth c H locs lsA C R L F
  obtain ⟨hdg, rfl, -⟩ := hd
  exact lv_icmp_eq C.1 C.2.1 hdg ht (fun q => k p l e s m args below meth c H locs lsA C R L F) (fun q => absurd hc q)
theorem x_icmp_eqF {a b : Int32} {off : Int} {tgt : Nat} (hd : nD y pc (.if_icmp .eq off) 3 p2 o) (ht : (pc : Int) + off = (tgt : Int)) (hc : ¬ a = b) (k : nG y κ cu su p2 ls st h) : nG y κ cu su pc ls (.int b :: .int a :: st) h := by
  intro p l e s m args below meth c H locs lsA C R L F
  obtain ⟨hdg, rfl, -⟩ := hd
  exact lv_icmp_eq C.1 C.2.1 hdg ht (fun q => absurd q hc) (fun q => k p l e s m args below meth c H locs lsA C R L F)
theorem x_icmp_eq {a b : Int32} {off : Int} {tgt : Nat} (hd : nD y pc (.if_icmp .eq off) 3 p2 o) (ht : (pc : Int) + off = (tgt : Int)) (k1 : a = b → nG y κ cu su tgt ls st h) (k2 : ¬ a = b → nG y κ cu su p2 ls st h) : nG y κ cu su pc ls (.int b :: .int a :: st) h := by
  by_cases hc : a = b
  · exact x_icmp_eqT hd ht hc (k1 hc)
  · exact x_icmp_eqF hd ht hc (k2 hc)
theorem x_if_eqT {a : Int32} {off : Int} {tgt : Nat} (hd : nD y pc (.ifCond .eq off) 3 p2 o) (ht : (pc : Int) + off = (tgt : Int)) (hc : a = 0) (k : nG y κ cu su tgt ls st h) : nG y κ cu su pc ls (.int a :: st) h := by
  intro p l e s m args below meth c H locs lsA C R L F
  obtain ⟨hdg, rfl, -⟩ := hd
  exact lv_if_eq C.1 C.2.1 hdg ht (fun q => k p l e s m args below meth c H locs lsA C R L F) (fun q => absurd hc q)
theorem x_if_eqF {a : Int32} {off : Int} {tgt : Nat} (hd : nD y pc (.ifCond .eq off) 3 p2 o) (ht : (pc : Int) + off = (tgt : Int)) (hc : ¬ a = 0) (k : nG y κ cu su p2 ls st h) : nG y κ cu su pc ls (.int a :: st) h := by
  intro p l e s m args below meth c H locs lsA C R L F
  obtain ⟨hdg, rfl, -⟩ := hd
  exact lv_if_eq C.1 C.2.1 hdg ht (fun q => absurd q hc) (fun q => k p l e s m args below meth c H locs lsA C R L F)
theorem x_if_eq {a : Int32} {off : Int} {tgt : Nat} (hd : nD y pc (.ifCond .eq off) 3 p2 o) (ht : (pc : Int) + off = (tgt : Int)) (k1 : a = 0 → nG y κ cu su tgt ls st h) (k2 : ¬ a = 0 → nG y κ cu su p2 ls st h) : nG y κ cu su pc ls (.int a :: st) h := by
  by_cases hc : a = 0
  · exact x_if_eqT hd ht hc (k1 hc)
  · exact x_if_eqF hd ht hc (k2 hc)
theorem x_icmp_neT {a b : Int32} {off : Int} {tgt : Nat} (hd : nD y pc (.if_icmp .ne off) 3 p2 o) (ht : (pc : Int) + off = (tgt : Int)) (hc : ¬ a = b) (k : nG y κ cu su tgt ls st h) : nG y κ cu su pc ls (.int b :: .int a :: st) h := by
  intro p l e s m args below meth c H locs lsA C R L F
  obtain ⟨hdg, rfl, -⟩ := hd
  exact lv_icmp_ne C.1 C.2.1 hdg ht (fun q => k p l e s m args below meth c H locs lsA C R L F) (fun q => absurd q hc)
theorem x_icmp_neF {a b : Int32} {off : Int} {tgt : Nat} (hd : nD y pc (.if_icmp .ne off) 3 p2 o) (ht : (pc : Int) + off = (tgt : Int)) (hc : a = b) (k : nG y κ cu su p2 ls st h) : nG y κ cu su pc ls (.int b :: .int a :: st) h := by
  intro p l e s m args below meth c H locs lsA C R L F
  obtain ⟨hdg, rfl, -⟩ := hd
  exact lv_icmp_ne C.1 C.2.1 hdg ht (fun q => absurd hc q) (fun q => k p l e s m args below meth c H locs lsA C R L F)
theorem x_icmp_ne {a b : Int32} {off : Int} {tgt : Nat} (hd : nD y pc (.if_icmp .ne off) 3 p2 o) (ht : (pc : Int) + off = (tgt : Int)) (k1 : ¬ a = b → nG y κ cu su tgt ls st h) (k2 : a = b → nG y κ cu su p2 ls st h) : nG y κ cu su pc ls (.int b :: .int a :: st) h := by
  by_cases hc : ¬ a = b
  · exact x_icmp_neT hd ht hc (k1 hc)
  · exact x_icmp_neF hd ht (Decidable.not_not.mp hc) (k2 (Decidable.not_not.mp hc))
theorem x_if_neT {a : Int32} {off : Int} {tgt : Nat} (hd : nD y pc (.ifCond .ne off) 3 p2 o) (ht : (pc : Int) + off = (tgt : Int)) (hc : ¬ a = 0) (k : nG y κ cu su tgt ls st h) : nG y κ cu su pc ls (.int a :: st) h := by
  intro p l e s m args below meth c H locs lsA C R L F
  obtain ⟨hdg, rfl, -⟩ := hd
  exact lv_if_ne C.1 C.2.1 hdg ht (fun q => k p l e s m args below meth c H locs lsA C R L F) (fun q => absurd q hc)
theorem x_if_neF {a : Int32} {off : Int} {tgt : Nat} (hd : nD y pc (.ifCond .ne off) 3 p2 o) (ht : (pc : Int) + off = (tgt : Int)) (hc : a = 0) (k : nG y κ cu su p2 ls st h) : nG y κ cu su pc ls (.int a :: st) h := by
  intro p l e s m args below meth c H locs lsA C R L F
  obtain ⟨hdg, rfl, -⟩ := hd
  exact lv_if_ne C.1 C.2.1 hdg ht (fun q => absurd hc q) (fun q => k p l e s m args below meth c H locs lsA C R L F)
theorem x_if_ne {a : Int32} {off : Int} {tgt : Nat} (hd : nD y pc (.ifCond .ne off) 3 p2 o) (ht : (pc : Int) + off = (tgt : Int)) (k1 : ¬ a = 0 → nG y κ cu su tgt ls st h) (k2 : a = 0 → nG y κ cu su p2 ls st h) : nG y κ cu su pc ls (.int a :: st) h := by
  by_cases hc : ¬ a = 0
  · exact x_if_neT hd ht hc (k1 hc)
  · exact x_if_neF hd ht (Decidable.not_not.mp hc) (k2 (Decidable.not_not.mp hc))
theorem x_icmp_ltT {a b : Int32} {off : Int} {tgt : Nat} (hd : nD y pc (.if_icmp .lt off) 3 p2 o) (ht : (pc : Int) + off = (tgt : Int)) (hc : a < b) (k : nG y κ cu su tgt ls st h) : nG y κ cu su pc ls (.int b :: .int a :: st) h := by
  intro p l e s m args below meth c H locs lsA C R L F
  obtain ⟨hdg, rfl, -⟩ := hd
  exact lv_icmp_lt C.1 C.2.1 hdg ht (fun q => k p l e s m args below meth c H locs lsA C R L F) (fun q => absurd hc q)
theorem x_icmp_ltF {a b : Int32} {off : Int} {tgt : Nat} (hd : nD y pc (.if_icmp .lt off) 3 p2 o) (ht : (pc : Int) + off = (tgt : Int)) (hc : ¬ a < b) (k : nG y κ cu su p2 ls st h) : nG y κ cu su pc ls (.int b :: .int a :: st) h := by
  intro p l e s m args below meth c H locs lsA C R L F
  obtain ⟨hdg, rfl, -⟩ := hd
  exact lv_icmp_lt C.1 C.2.1 hdg ht (fun q => absurd q hc) (fun q => k p l e s m args below meth c H locs lsA C R L F)
theorem x_icmp_lt {a b : Int32} {off : Int} {tgt : Nat} (hd : nD y pc (.if_icmp .lt off) 3 p2 o) (ht : (pc : Int) + off = (tgt : Int)) (k1 : a < b → nG y κ cu su tgt ls st h) (k2 : ¬ a < b → nG y κ cu su p2 ls st h) : nG y κ cu su pc ls (.int b :: .int a :: st) h := by
  by_cases hc : a < b
  · exact x_icmp_ltT hd ht hc (k1 hc)
  · exact x_icmp_ltF hd ht hc (k2 hc)
theorem x_if_ltT {a : Int32} {off : Int} {tgt : Nat} (hd : nD y pc (.ifCond .lt off) 3 p2 o) (ht : (pc : Int) + off = (tgt : Int)) (hc : a < 0) (k : nG y κ cu su tgt ls st h) : nG y κ cu su pc ls (.int a :: st) h := by
  intro p l e s m args below meth c H locs lsA C R L F
  obtain ⟨hdg, rfl, -⟩ := hd
  exact lv_if_lt C.1 C.2.1 hdg ht (fun q => k p l e s m args below meth c H locs lsA C R L F) (fun q => absurd hc q)
theorem x_if_ltF {a : Int32} {off : Int} {tgt : Nat} (hd : nD y pc (.ifCond .lt off) 3 p2 o) (ht : (pc : Int) + off = (tgt : Int)) (hc : ¬ a < 0) (k : nG y κ cu su p2 ls st h) : nG y κ cu su pc ls (.int a :: st) h := by
  intro p l e s m args below meth c H locs lsA C R L F
  obtain ⟨hdg, rfl, -⟩ := hd
  exact lv_if_lt C.1 C.2.1 hdg ht (fun q => absurd q hc) (fun q => k p l e s m args below meth c H locs lsA C R L F)
theorem x_if_lt {a : Int32} {off : Int} {tgt : Nat} (hd : nD y pc (.ifCond .lt off) 3 p2 o) (ht : (pc : Int) + off = (tgt : Int)) (k1 : a < 0 → nG y κ cu su tgt ls st h) (k2 : ¬ a < 0 → nG y κ cu su p2 ls st h) : nG y κ cu su pc ls (.int a :: st) h := by
  by_cases hc : a < 0
  · exact x_if_ltT hd ht hc (k1 hc)
  · exact x_if_ltF hd ht hc (k2 hc)
theorem x_icmp_geT {a b : Int32} {off : Int} {tgt : Nat} (hd : nD y pc (.if_icmp .ge off) 3 p2 o) (ht : (pc : Int) + off = (tgt : Int)) (hc : b ≤ a) (k : nG y κ cu su tgt ls st h) : nG y κ cu su pc ls (.int b :: .int a :: st) h := by
  intro p l e s m args below meth c H locs lsA C R L F
  obtain ⟨hdg, rfl, -⟩ := hd
  exact lv_icmp_ge C.1 C.2.1 hdg ht (fun q => k p l e s m args below meth c H locs lsA C R L F) (fun q => absurd hc q)
theorem x_icmp_geF {a b : Int32} {off : Int} {tgt : Nat} (hd : nD y pc (.if_icmp .ge off) 3 p2 o) (ht : (pc : Int) + off = (tgt : Int)) (hc : ¬ b ≤ a) (k : nG y κ cu su p2 ls st h) : nG y κ cu su pc ls (.int b :: .int a :: st) h := by
  intro p l e s m args below meth c H locs lsA C R L F
  obtain ⟨hdg, rfl, -⟩ := hd
  exact lv_icmp_ge C.1 C.2.1 hdg ht (fun q => absurd q hc) (fun q => k p l e s m args below meth c H locs lsA C R L F)
theorem x_icmp_ge {a b : Int32} {off : Int} {tgt : Nat} (hd : nD y pc (.if_icmp .ge off) 3 p2 o) (ht : (pc : Int) + off = (tgt : Int)) (k1 : b ≤ a → nG y κ cu su tgt ls st h) (k2 : ¬ b ≤ a → nG y κ cu su p2 ls st h) : nG y κ cu su pc ls (.int b :: .int a :: st) h := by
  by_cases hc : b ≤ a
  · exact x_icmp_geT hd ht hc (k1 hc)
  · exact x_icmp_geF hd ht hc (k2 hc)
theorem x_if_geT {a : Int32} {off : Int} {tgt : Nat} (hd : nD y pc (.ifCond .ge off) 3 p2 o) (ht : (pc : Int) + off = (tgt : Int)) (hc : 0 ≤ a) (k : nG y κ cu su tgt ls st h) : nG y κ cu su pc ls (.int a :: st) h := by
  intro p l e s m args below meth c H locs lsA C R L F
  obtain ⟨hdg, rfl, -⟩ := hd
  exact lv_if_ge C.1 C.2.1 hdg ht (fun q => k p l e s m args below meth c H locs lsA C R L F) (fun q => absurd hc q)
theorem x_if_geF {a : Int32} {off : Int} {tgt : Nat} (hd : nD y pc (.ifCond .ge off) 3 p2 o) (ht : (pc : Int) + off = (tgt : Int)) (hc : ¬ 0 ≤ a) (k : nG y κ cu su p2 ls st h) : nG y κ cu su pc ls (.int a :: st) h := by
  intro p l e s m args below meth c H locs lsA C R L F
  obtain ⟨hdg, rfl, -⟩ := hd
  exact lv_if_ge C.1 C.2.1 hdg ht (fun q => absurd q hc) (fun q => k p l e s m args below meth c H locs lsA C R L F)
theorem x_if_ge {a : Int32} {off : Int} {tgt : Nat} (hd : nD y pc (.ifCond .ge off) 3 p2 o) (ht : (pc : Int) + off = (tgt : Int)) (k1 : 0 ≤ a → nG y κ cu su tgt ls st h) (k2 : ¬ 0 ≤ a → nG y κ cu su p2 ls st h) : nG y κ cu su pc ls (.int a :: st) h := by
  by_cases hc : 0 ≤ a
  · exact x_if_geT hd ht hc (k1 hc)
  · exact x_if_geF hd ht hc (k2 hc)
theorem x_icmp_gtT {a b : Int32} {off : Int} {tgt : Nat} (hd : nD y pc (.if_icmp .gt off) 3 p2 o) (ht : (pc : Int) + off = (tgt : Int)) (hc : b < a) (k : nG y κ cu su tgt ls st h) : nG y κ cu su pc ls (.int b :: .int a :: st) h := by
  intro p l e s m args below meth c H locs lsA C R L F
  obtain ⟨hdg, rfl, -⟩ := hd
  exact lv_icmp_gt C.1 C.2.1 hdg ht (fun q => k p l e s m args below meth c H locs lsA C R L F) (fun q => absurd hc q)
theorem x_icmp_gtF {a b : Int32} {off : Int} {tgt : Nat} (hd : nD y pc (.if_icmp .gt off) 3 p2 o) (ht : (pc : Int) + off = (tgt : Int)) (hc : ¬ b < a) (k : nG y κ cu su p2 ls st h) : nG y κ cu su pc ls (.int b :: .int a :: st) h := by
  intro p l e s m args below meth c H locs lsA C R L F
  obtain ⟨hdg, rfl, -⟩ := hd
  exact lv_icmp_gt C.1 C.2.1 hdg ht (fun q => absurd q hc) (fun q => k p l e s m args below meth c H locs lsA C R L F)
theorem x_icmp_gt {a b : Int32} {off : Int} {tgt : Nat} (hd : nD y pc (.if_icmp .gt off) 3 p2 o) (ht : (pc : Int) + off = (tgt : Int)) (k1 : b < a → nG y κ cu su tgt ls st h) (k2 : ¬ b < a → nG y κ cu su p2 ls st h) : nG y κ cu su pc ls (.int b :: .int a :: st) h := by
  by_cases hc : b < a
  · exact x_icmp_gtT hd ht hc (k1 hc)
  · exact x_icmp_gtF hd ht hc (k2 hc)
theorem x_if_gtT {a : Int32} {off : Int} {tgt : Nat} (hd : nD y pc (.ifCond .gt off) 3 p2 o) (ht : (pc : Int) + off = (tgt : Int)) (hc : 0 < a) (k : nG y κ cu su tgt ls st h) : nG y κ cu su pc ls (.int a :: st) h := by
  intro p l e s m args below meth c H locs lsA C R L F
  obtain ⟨hdg, rfl, -⟩ := hd
  exact lv_if_gt C.1 C.2.1 hdg ht (fun q => k p l e s m args below meth c H locs lsA C R L F) (fun q => absurd hc q)
theorem x_if_gtF {a : Int32} {off : Int} {tgt : Nat} (hd : nD y pc (.ifCond .gt off) 3 p2 o) (ht : (pc : Int) + off = (tgt : Int)) (hc : ¬ 0 < a) (k : nG y κ cu su p2 ls st h) : nG y κ cu su pc ls (.int a :: st) h := by
  intro p l e s m args below meth c H locs lsA C R L F
  obtain ⟨hdg, rfl, -⟩ := hd
  exact lv_if_gt C.1 C.2.1 hdg ht (fun q => absurd q hc) (fun q => k p l e s m args below meth c H locs lsA C R L F)
theorem x_if_gt {a : Int32} {off : Int} {tgt : Nat} (hd : nD y pc (.ifCond .gt off) 3 p2 o) (ht : (pc : Int) + off = (tgt : Int)) (k1 : 0 < a → nG y κ cu su tgt ls st h) (k2 : ¬ 0 < a → nG y κ cu su p2 ls st h) : nG y κ cu su pc ls (.int a :: st) h := by
  by_cases hc : 0 < a
  · exact x_if_gtT hd ht hc (k1 hc)
  · exact x_if_gtF hd ht hc (k2 hc)
theorem x_icmp_leT {a b : Int32} {off : Int} {tgt : Nat} (hd : nD y pc (.if_icmp .le off) 3 p2 o) (ht : (pc : Int) + off = (tgt : Int)) (hc : a ≤ b) (k : nG y κ cu su tgt ls st h) : nG y κ cu su pc ls (.int b :: .int a :: st) h := by
  intro p l e s m args below meth c H locs lsA C R L F
  obtain ⟨hdg, rfl, -⟩ := hd
  exact lv_icmp_le C.1 C.2.1 hdg ht (fun q => k p l e s m args below meth c H locs lsA C R L F) (fun q => absurd hc q)
theorem x_icmp_leF {a b : Int32} {off : Int} {tgt : Nat} (hd : nD y pc (.if_icmp .le off) 3 p2 o) (ht : (pc : Int) + off = (tgt : Int)) (hc : ¬ a ≤ b) (k : nG y κ cu su p2 ls st h) : nG y κ cu su pc ls (.int b :: .int a :: st) h := by
  intro p l e s m args below meth c H locs lsA C R L F
  obtain ⟨hdg, rfl, -⟩ := hd
  exact lv_icmp_le C.1 C.2.1 hdg ht (fun q => absurd q hc) (fun q => k p l e s m args below meth c H locs lsA C R L F)
theorem x_icmp_le {a b : Int32} {off : Int} {tgt : Nat} (hd : nD y pc (.if_icmp .le off) 3 p2 o) (ht : (pc : Int) + off = (tgt : Int)) (k1 : a ≤ b → nG y κ cu su tgt ls st h) (k2 : ¬ a ≤ b → nG y κ cu su p2 ls st h) : nG y κ cu su pc ls (.int b :: .int a :: st) h := by
  by_cases hc : a ≤ b
  · exact x_icmp_leT hd ht hc (k1 hc)
  · exact x_icmp_leF hd ht hc (k2 hc)
theorem x_if_leT {a : Int32} {off : Int} {tgt : Nat} (hd : nD y pc (.ifCond .le off) 3 p2 o) (ht : (pc : Int) + off = (tgt : Int)) (hc : a ≤ 0) (k : nG y κ cu su tgt ls st h) : nG y κ cu su pc ls (.int a :: st) h := by
  intro p l e s m args below meth c H locs lsA C R L F
  obtain ⟨hdg, rfl, -⟩ := hd
  exact lv_if_le C.1 C.2.1 hdg ht (fun q => k p l e s m args below meth c H locs lsA C R L F) (fun q => absurd hc q)
theorem x_if_leF {a : Int32} {off : Int} {tgt : Nat} (hd : nD y pc (.ifCond .le off) 3 p2 o) (ht : (pc : Int) + off = (tgt : Int)) (hc : ¬ a ≤ 0) (k : nG y κ cu su p2 ls st h) : nG y κ cu su pc ls (.int a :: st) h := by
  intro p l e s m args below meth c H locs lsA C R L F
  obtain ⟨hdg, rfl, -⟩ := hd
  exact lv_if_le C.1 C.2.1 hdg ht (fun q => absurd q hc) (fun q => k p l e s m args below meth c H locs lsA C R L F)
theorem x_if_le {a : Int32} {off : Int} {tgt : Nat} (hd : nD y pc (.ifCond .le off) 3 p2 o) (ht : (pc : Int) + off = (tgt : Int)) (k1 : a ≤ 0 → nG y κ cu su tgt ls st h) (k2 : ¬ a ≤ 0 → nG y κ cu su p2 ls st h) : nG y κ cu su pc ls (.int a :: st) h := by
  by_cases hc : a ≤ 0
  · exact x_if_leT hd ht hc (k1 hc)
  · exact x_if_leF hd ht hc (k2 hc)
theorem x_ifnull {x : Nat} {off : Int} (hd : nD y pc (.ifnull off) 3 p2 o) (k : nG y κ cu su p2 ls st h) : nG y κ cu su pc ls (.ref x :: st) h := by
  intro p l e s m args below meth c H locs lsA C R L F
  obtain ⟨hdg, rfl, -⟩ := hd
  exact lv_ifnull C.1 C.2.1 hdg (k p l e s m args below meth c H locs lsA C R L F)
theorem x_ifnullN {off : Int} {tgt : Nat} (hd : nD y pc (.ifnull off) 3 p2 o) (ht : (pc : Int) + off = (tgt : Int)) (k : nG y κ cu su tgt ls st h) : nG y κ cu su pc ls (.null :: st) h := by
  intro p l e s m args below meth c H locs lsA C R L F
  exact lv_ifnullN C.1 C.2.1 hd.1 ht (k p l e s m args below meth c H locs lsA C R L F)
theorem x_ifnonnull {x : Nat} {off : Int} {tgt : Nat} (hd : nD y pc (.ifnonnull off) 3 p2 o) (ht : (pc : Int) + off = (tgt : Int)) (k : nG y κ cu su tgt ls st h) : nG y κ cu su pc ls (.ref x :: st) h := by
  intro p l e s m args below meth c H locs lsA C R L F
  exact lv_ifnonnull C.1 C.2.1 hd.1 ht (k p l e s m args below meth c H locs lsA C R L F)
theorem x_ifnonnullN {off : Int} (hd : nD y pc (.ifnonnull off) 3 p2 o) (k : nG y κ cu su p2 ls st h) : nG y κ cu su pc ls (.null :: st) h := by
  intro p l e s m args below meth c H locs lsA C R L F
  obtain ⟨hdg, rfl, -⟩ := hd
  exact lv_ifnonnullN C.1 C.2.1 hdg (k p l e s m args below meth c H locs lsA C R L F)
theorem x_tableOut {dflt lo hi : Int} {offs : Array Int} {len tgt : Nat} {x : Int32} (hd : nD y pc (.tableswitch dflt lo hi offs) len p2 o) (hc : x.toInt < lo ∨ hi < x.toInt) (ht : (pc : Int) + dflt = (tgt : Int)) (k : nG y κ cu su tgt ls st h) : nG y κ cu su pc ls (.int x :: st) h := by
  intro p l e s m args below meth c H locs lsA C R L F
  exact lv_tableOut C.1 C.2.1 hd.1 hc ht (k p l e s m args below meth c H locs lsA C R L F)
theorem x_tableIn {dflt lo hi off : Int} {offs : Array Int} {len tgt : Nat} {x : Int32} (hd : nD y pc (.tableswitch dflt lo hi offs) len p2 o) (h1 : ¬ x.toInt < lo) (h2 : ¬ hi < x.toInt) (ho : offs[(x.toInt - lo).toNat]? = some off) (ht : (pc : Int) + off = (tgt : Int)) (k : nG y κ cu su tgt ls st h) : nG y κ cu su pc ls (.int x :: st) h := by
  intro p l e s m args below meth c H locs lsA C R L F
  exact lv_tableIn C.1 C.2.1 hd.1 h1 h2 ho ht (k p l e s m args below meth c H locs lsA C R L F)
theorem x_istore_n {x : Int32} {i : Fin 4} (hd : nD y pc (.istore_n i) 1 p2 o) (hi : i.val < y.2.2.1) (k : nG y κ cu su p2 (nPut ls i.val (.int x)) st h) : nG y κ cu su pc ls (.int x :: st) h := by
  intro p l e s m args below meth c H locs lsA C R L F
  obtain ⟨hdg, rfl, -⟩ := hd
  exact lv_istore_n C.1 C.2.1 hdg rfl (nLs_has L) hi rfl (fun l2 h2 => k p l e s m args below meth c H locs l2 C R (nLs_put h2) F)
theorem x_istore {x : Int32} {i : Nat} (hd : nD y pc (.istore i) 2 p2 o) (hi : i < y.2.2.1) (k : nG y κ cu su p2 (nPut ls i (.int x)) st h) : nG y κ cu su pc ls (.int x :: st) h := by
  intro p l e s m args below meth c H locs lsA C R L F
  obtain ⟨hdg, rfl, -⟩ := hd
  exact lv_istore C.1 C.2.1 hdg (nLs_has L) hi rfl (fun l2 h2 => k p l e s m args below meth c H locs l2 C R (nLs_put h2) F)
theorem x_lstore_n {x : Int64} {i : Fin 4} (hd : nD y pc (.lstore_n i) 1 p2 o) (hi : i.val + 1 < y.2.2.1) (k : nG y κ cu su p2 (nPu2 ls i.val (.long x)) st h) : nG y κ cu su pc ls (.long x :: st) h := by
  intro p l e s m args below meth c H locs lsA C R L F
  obtain ⟨hdg, rfl, -⟩ := hd
  exact lv_lstore_n C.1 C.2.1 hdg rfl (nLs_has L) hi rfl (fun l2 h2 => k p l e s m args below meth c H locs l2 C R (nLs_pu2 h2) F)
theorem x_lstore {x : Int64} {i : Nat} (hd : nD y pc (.lstore i) 2 p2 o) (hi : i + 1 < y.2.2.1) (k : nG y κ cu su p2 (nPu2 ls i (.long x)) st h) : nG y κ cu su pc ls (.long x :: st) h := by
  intro p l e s m args below meth c H locs lsA C R L F
  obtain ⟨hdg, rfl, -⟩ := hd
  exact lv_lstore C.1 C.2.1 hdg (nLs_has L) hi rfl (fun l2 h2 => k p l e s m args below meth c H locs l2 C R (nLs_pu2 h2) F)
theorem x_astore_n {x : Nat} {i : Fin 4} (hd : nD y pc (.astore_n i) 1 p2 o) (hi : i.val < y.2.2.1) (k : nG y κ cu su p2 (nPut ls i.val (.ref x)) st h) : nG y κ cu su pc ls (.ref x :: st) h := by
  intro p l e s m args below meth c H locs lsA C R L F
  obtain ⟨hdg, rfl, -⟩ := hd
  exact lv_astore_n C.1 C.2.1 hdg rfl (nLs_has L) hi rfl (fun l2 h2 => k p l e s m args below meth c H locs l2 C R (nLs_put h2) F)
theorem x_astore {x : Nat} {i : Nat} (hd : nD y pc (.astore i) 2 p2 o) (hi : i < y.2.2.1) (k : nG y κ cu su p2 (nPut ls i (.ref x)) st h) : nG y κ cu su pc ls (.ref x :: st) h := by
  intro p l e s m args below meth c H locs lsA C R L F
  obtain ⟨hdg, rfl, -⟩ := hd
  exact lv_astore C.1 C.2.1 hdg (nLs_has L) hi rfl (fun l2 h2 => k p l e s m args below meth c H locs l2 C R (nLs_put h2) F)
theorem x_astore_nN {i : Fin 4} (hd : nD y pc (.astore_n i) 1 p2 o) (hi : i.val < y.2.2.1) (k : nG y κ cu su p2 (nPut ls i.val (.null)) st h) : nG y κ cu su pc ls (.null :: st) h := by
  intro p l e s m args below meth c H locs lsA C R L F
  obtain ⟨hdg, rfl, -⟩ := hd
  exact lv_astore_nN C.1 C.2.1 hdg rfl (nLs_has L) hi rfl (fun l2 h2 => k p l e s m args below meth c H locs l2 C R (nLs_put h2) F)
theorem x_astoreN {i : Nat} (hd : nD y pc (.astore i) 2 p2 o) (hi : i < y.2.2.1) (k : nG y κ cu su p2 (nPut ls i (.null)) st h) : nG y κ cu su pc ls (.null :: st) h := by
  intro p l e s m args below meth c H locs lsA C R L F
  obtain ⟨hdg, rfl, -⟩ := hd
  exact lv_astoreN C.1 C.2.1 hdg (nLs_has L) hi rfl (fun l2 h2 => k p l e s m args below meth c H locs l2 C R (nLs_put h2) F)
theorem x_iinc {i : Nat} {n : Int} {x : Int32} (hd : nD y pc (.iinc i n) 3 p2 o) (hl : ls[i]? = some (some (.int x))) (hi : i < y.2.2.1) (k : nG y κ cu su p2 (nPut ls i (.int (x + Int32.ofInt n))) st h) : nG y κ cu su pc ls st h := by
  intro p l e s m args below meth c H locs lsA C R L F
  obtain ⟨hdg, rfl, -⟩ := hd
  obtain ⟨j, hj⟩ := List.getElem?_of_mem (nAs_mem.mpr hl)
  exact lv_iinc C.1 C.2.1 hdg (nLs_has L) hj rfl hi rfl (fun l2 h2 => k p l e s m args below meth c H locs l2 C R (nLs_put h2) F)
end NG
end
section
/-! THE PLAIN WORLD: rows for cells, calls and ends. -/
def nUp {α : Type} (f : Nat → α) (j : Nat) (v : α) : Nat → α := fun q => if q = j then v else f q
def nIx (i : Int32) (n j : Nat) : Prop := vp_in i n ∧ i.toNatClampNeg = j
theorem nIx_nI {j n : Nat} (h : j < n) (hn : n < 2 ^ 31) : nIx (nI j) n j := ⟨vp_in_nI h (by omega), nI_clamp (by omega)⟩
theorem nRC.kept {D : va_G} {U : State} {H H2 : Heap} {a : Nat} {e : nPC} (h : nRC D U H a e) (hq : H2[a]? = H[a]?) : nRC D U H2 a e := by
  match e, h with
  | .inl x, h =>
    obtain ⟨cA, h1, h2⟩ := h
    exact ⟨cA, hq.trans h1, h2⟩
  | .inr (.inl o), h => exact va_at.kept (q := (a, .inr o)) h hq
  | .inr (.inr x), h => exact va_X.kept (b := a) h hq
theorem nRC.lt {D : va_G} {U : State} {H : Heap} {a : Nat} {e : nPC} (h : nRC D U H a e) : a < H.size := by
  match e, h with
  | .inl x, h =>
    obtain ⟨cA, h1, h2⟩ := h
    exact (Array.getElem?_eq_some_iff.mp h1).1
  | .inr (.inl o), h => exact va_at.lt (q := (a, .inr o)) h
  | .inr (.inr x), h =>
    obtain ⟨scr, h1, -⟩ := h
    exact (Array.getElem?_eq_some_iff.mp h1).1
theorem nRC.moved {D : va_G} {u U : State} {H : Heap} {a : Nat} {e : nPC} (hvm : u.vm.Alike U.vm) (h : nRC D u H a e) : nRC D U H a e := by
  match e, h with
  | .inl x, h =>
    obtain ⟨cA, h1, h2, h3⟩ := h
    exact ⟨cA, h1, arrOfT_moved hvm h2, h3.moved hvm⟩
  | .inr (.inl o), h => exact h
  | .inr (.inr x), h => exact va_X.moved hvm h
theorem nRep.moved {h : nPH} {u U : State} {H : Heap} (hvm : u.vm.Alike U.vm) (R : nRep h u H) : nRep h U H := ⟨R.1, fun a e he => (R.2 a e he).moved hvm⟩
theorem nRep_st {h : nPH} {U : State} {H H2 : Heap} {a : Nat} {e : nPC} (R : nRep h U H) (z : H2.size = H.size) (oq : ∀ q : Nat, q ≠ a → H2[q]? = H[q]?) (he : nRC h.1 U H2 a e) : nRep (nSt h a e) U H2 := by
  refine ⟨z.trans R.1, fun q e2 hq => ?_⟩
  by_cases hqa : q = a
  · subst hqa
    have : some e = some e2 := by simpa [nSt] using hq
    cases this
    exact he
  · have : h.2.2.2 q = some e2 := by simpa [nSt, hqa] using hq
    exact (R.2 q e2 this).kept (oq q hqa)
theorem nRep_nw {h : nPH} {U : State} {H H2 : Heap} {e : nPC} (R : nRep h U H) (z : H2.size = H.size + 1) (oq : ∀ q : Nat, q < H.size → H2[q]? = H[q]?) (he : nRC h.1 U H2 H.size e) : nRep (nNw h e) U H2 := by
  have hz : h.2.2.1 = H.size := R.1.symm
  refine ⟨by show _ = h.2.2.1 + 1; rw [z, hz], fun q e2 hq => ?_⟩
  by_cases hqa : q = h.2.2.1
  · subst hqa
    have : some e = some e2 := by simpa [nNw] using hq
    cases this
    rw [hz]
    exact he
  · have : h.2.2.2 q = some e2 := by simpa [nNw, hqa] using hq
    have h1 := R.2 q e2 this
    exact h1.kept (oq q h1.lt)
theorem nK.moved {D : va_G} {s U : State} (hW : s.WarmedH U.vm) (h : nK D s) : nK D U := by
  obtain ⟨h1, h2, h3, h4, h5, h6⟩ := h
  exact ⟨va_K.moved hW.alike h1, fun q hq => va_Nw.warmM hW (h2 q hq), va_AO.moved hW.alike h3, va_AO.moved hW.alike h4, over_moved hW.alike h5, over_moved hW.alike h6⟩
theorem nK.call {D : va_G} {U : State} (g : JFrame) (mk : MethodId) (a : Array Value) (h : nK D U) : nK D (U.calling g mk a) := by
  obtain ⟨h1, h2, h3, h4, h5, h6⟩ := h
  exact ⟨va_K.moved (u := U) (U := U.calling g mk a) (Vm.Alike.refl U.vm) h1, fun q hq => va_Nw.same rfl (show U.vm = (U.calling g mk a).vm from rfl) (h2 q hq), va_AO.moved (u := U) (U := U.calling g mk a) (Vm.Alike.refl U.vm) h3, va_AO.moved (u := U) (U := U.calling g mk a) (Vm.Alike.refl U.vm) h4, over_moved (u := U) (E := U.calling g mk a) (Vm.Alike.refl U.vm) h5, over_moved (u := U) (E := U.calling g mk a) (Vm.Alike.refl U.vm) h6⟩
theorem nPc_blind (h : nPH) (av : List Value) : FrameBlind (nPc h av) := fun a U g mk q =>
  ⟨q.1, nRep.moved (u := U) (U := U.calling g mk a) (Vm.Alike.refl U.vm) q.2.1, q.2.2.call g mk a⟩
/-- what a field's place says: class c, its field k -/
def nF (o idx c k : Nat) : Prop := ∃ q : vw_C, vwCl[c]? = some q ∧ k < q.2.2 ∧ Cond.fieldLink (cNm o) idx (q.2.1 k).1 (q.2.1 k).2.1 (q.2.1 k).2.2.1 ∈ nWs
def nCo (c : Nat) : Prop := ∀ q : vw_C, vwCl[c]? = some q → (∀ w ∈ u_ws q.1 q.2.1 q.2.2, w ∈ nWs) ∧ (∀ a, a < q.2.2 → ∀ b, b < q.2.2 → a ≠ b → (q.2.1 a).2.1 ≠ (q.2.1 b).2.1) ∧ ∃ ty : Nat → FieldType, ∀ k, k < q.2.2 → parseFieldDescriptor (q.2.1 k).2.2.1 = some (ty k)
/-- a field's type, and whether it is final -/
def nFt (c k : Nat) (ty : FieldType) (fin : Bool) : Prop := ∀ q : vw_C, vwCl[c]? = some q → parseFieldDescriptor (q.2.1 k).2.2.1 = some ty ∧ (q.2.1 k).2.2.2 = fin ∧ (q.2.1 k).1 = cNm c
section NH
variable {y : nM} {κ : nKp} {cu su pc p2 o : Nat} {ls : List (Option Value)} {st : List Value} {h : nPH}
theorem nOne {D : va_G} {H : Heap} {q : Nat × va_E} (hq : va_at D vwCl q H) : va_P D vwCl [q] H := fun k x hx => by
  have hk : k < 1 := (List.getElem?_eq_some_iff.mp hx).1
  rw [show k = 0 by omega] at hx
  cases hx
  exact hq
theorem x_getf (hco : ∀ c, nCo c) {idx c k a : Nat} {fs : List Value} {v : Value} (hd : nD y pc (.getfield idx) 3 p2 o) (hf : nF o idx c k) (hat : nAt h a = some (nOb c fs)) (hv : fs[k]? = some v) (kk : nG y κ cu su p2 ls (v :: st) h) : nG y κ cu su pc ls (.ref a :: st) h := by
  intro p l e s m args below meth cd H locs lsA C R L F
  obtain ⟨hdg, rfl, rfl⟩ := hd
  obtain ⟨q, hq, hk, hl⟩ := hf
  have K := kk p l e s m args below meth cd H locs lsA C R L F
  obtain ⟨hx, hb, hml, hown, hts, hr, hlk, hnm, hK⟩ := C
  exact va_get hx hb hts (hco c q hq).1 hown hK.1 (nOne (q := (a, .inr (c, fs))) (R.2 a _ hat)) 0 rfl hq k hk (hts _ hl) (fun x hx => hx) hv hdg K
theorem nPutAt {D : va_G} {H2 : Heap} {s : State} {c k a : Nat} {fs : List Value} {v : Value} {q : vw_C} {cell : Cell} (hq : vwCl[c]? = some q) (hap : ∀ x y, x < q.2.2 → y < q.2.2 → x ≠ y → (D.2 c) x ≠ (D.2 c) y) (hk : k < q.2.2) (hl : k < fs.length)
    (q2 : cell.cls = D.1 c) (q3 : cell.vm = .none) (q4 : ∀ k, k < q.2.2 → cell.slots[D.2 c k]? = some (vp_V fs k)) (e1 : H2[a]? = some (cell.setSlot (D.2 c k) v)) : nRC D s H2 a (nOb c (fs.set k v)) :=
  ⟨q, hq, t_OB.to (V := updV (vp_V fs) k v) ⟨_, e1, q2, q3, t_set q4 hap hk v⟩ (fun j _ => vp_updV_set hl v j)⟩
theorem x_putf (hco : ∀ c, nCo c) {idx c k a : Nat} {fs : List Value} {v : Value} {ty : FieldType} (hd : nD y pc (.putfield idx) 3 p2 o) (hf : nF o idx c k) (ht : nFt c k ty false) (hat : nAt h a = some (nOb c fs)) (hl : k < fs.length) (hn : narrow ty v = v) (hfit : fits ty v = true) (hB : h.2.1 ≤ a)
    (kk : nG y κ cu su p2 ls st (nSt h a (nOb c (fs.set k v)))) : nG y κ cu su pc ls (v :: .ref a :: st) h := by
  intro p l e s m args below meth cd H locs lsA C R L F
  obtain ⟨hdg, rfl, rfl⟩ := hd
  obtain ⟨q, hq, hk, hl2⟩ := hf
  obtain ⟨ht1, ht2, -⟩ := ht q hq
  have K := fun H2 => kk p l e s m args below meth cd H2 (locs ++ [⟨a, h.1.2 c k⟩]) lsA C
  obtain ⟨hx, hb, hml, hown, hts, hr, hlk, hnm, hK⟩ := C
  obtain ⟨hin, hnmd, ty0, hty⟩ := hco c q hq
  have hap := va_apart (own := q.1) hts hin ty0 hty hnmd hK.1 hq
  obtain ⟨r, h1, cell, q1, q2, q3, q4⟩ := R.2 a _ hat
  have hr0 : r = q := Option.some.inj (h1.symm.trans hq)
  subst hr0
  obtain ⟨hS, hfc, kC, hkC, hkind⟩ := hK.1.1 c _ hq
  obtain ⟨cf, kf, fi, f, hi, hsl⟩ := hS k hk
  have hlay := hts _ (hin _ (u_in_lay hk))
  unfold u_lay at hlay
  rw [if_neg (by rw [ht2]; decide)] at hlay
  have hst := (u_facts hfc hkC (u_lays hts hin hk) hi).1
  have h6 := u_store hfc hkC hkind hlay hi ht1 hn hfit
  refine W.putK hx hb (f := f) ⟨hown, hts _ hl2, ⟨_, _, _, hi⟩, hst⟩ (by rw [q2]; exact h6) q1 q3 (by rw [hsl]; exact k2_hasslot (q4 k hk)) rfl rfl hdg fun H2 e1 e2 e3 => ?_
  rw [hsl] at e1 ⊢
  refine K H2 (nRep_st R e2 e3 (nPutAt hq hap hk hl q2 q3 q4 e1)) L (fun z hz => ?_)
  rcases List.mem_append.mp hz with hz | hz
  · exact F z hz
  · rw [List.mem_singleton.mp hz]
    exact hB
theorem x_putF (hco : ∀ c, nCo c) {idx c k a : Nat} {fs : List Value} {v : Value} {ty : FieldType} (hd : nD y pc (.putfield idx) 3 p2 o) (hf : nF o idx c k) (ht : nFt c k ty true) (hoc : o = c) (hin2 : y.1.name = "<init>") (hat : nAt h a = some (nOb c fs)) (hl : k < fs.length) (hn : narrow ty v = v) (hfit : fits ty v = true) (hB : h.2.1 ≤ a)
    (kk : nG y κ cu su p2 ls st (nSt h a (nOb c (fs.set k v)))) : nG y κ cu su pc ls (v :: .ref a :: st) h := by
  intro p l e s m args below meth cd H locs lsA C R L F
  subst hoc
  obtain ⟨hdg, rfl, rfl⟩ := hd
  obtain ⟨q, hq, hk, hl2⟩ := hf
  obtain ⟨ht1, ht2, ht3⟩ := ht q hq
  have K := fun H2 => kk p l e s m args below meth cd H2 (locs ++ [⟨a, h.1.2 y.2.2.2.2.1 k⟩]) lsA C
  obtain ⟨hx, hb, hml, hown, hts, hr, hlk, hnm, hK⟩ := C
  obtain ⟨hin, hnmd, ty0, hty⟩ := hco _ q hq
  have hap := va_apart (own := q.1) hts hin ty0 hty hnmd hK.1 hq
  obtain ⟨r, h1, cell, q1, q2, q3, q4⟩ := R.2 a _ hat
  have hr0 : r = q := Option.some.inj (h1.symm.trans hq)
  subst hr0
  obtain ⟨hS, hfc, kC, hkC, hkind⟩ := hK.1.1 _ _ hq
  obtain ⟨cf, kf, fi, f, hi, hsl⟩ := hS k hk
  have hlay := hts _ (hin _ (u_in_lay hk))
  unfold u_lay at hlay
  rw [if_pos ht2] at hlay
  have hst := (u_facts hfc hkC (u_lays hts hin hk) hi).1
  have hcf : m.cls = cf := by
    obtain ⟨_, _, c', _, _, _, -, -, hf', -, -, -, hown2, -⟩ := Cond.laysFinal_spec hlay
    have e1 : c' = cf := by have := hi.symm.trans hf'; simp at this; exact this.1.symm
    rw [ht3] at hown2
    rw [← e1]; exact Option.some.inj (hown.symm.trans hown2)
  have h6 := u_fits hfc hkC hkind (Or.inr hlay) hi ht1 hn hfit
  refine W.putFinK hx hb hown (hts _ hl2) hi hst hcf (hnm.trans hin2) (by rw [q2]; exact h6) q1 q3 (by rw [hsl]; exact k2_hasslot (q4 k hk)) rfl rfl hdg fun H2 e1 e2 e3 => ?_
  rw [hsl] at e1 ⊢
  refine K H2 (nRep_st R e2 e3 (nPutAt hq hap hk hl q2 q3 q4 e1)) L (fun z hz => ?_)
  rcases List.mem_append.mp hz with hz | hz
  · exact F z hz
  · rw [List.mem_singleton.mp hz]
    exact hB
theorem x_iaload {a n j : Nat} {f : Nat → Int32} {i : Int32} (hd : nD y pc .iaload 1 p2 o) (hat : nAt h a = some (nAi n f)) (hi : nIx i n j) (kk : nG y κ cu su p2 ls (.int (f j) :: st) h) : nG y κ cu su pc ls (.int i :: .ref a :: st) h := by
  intro p l e s m args below meth cd H locs lsA C R L F
  obtain ⟨hdg, rfl, -⟩ := hd
  obtain ⟨hi, rfl⟩ := hi
  obtain ⟨cA, h1, h2, h3⟩ := R.2 a _ hat
  have hlt : i.toNatClampNeg < n := Nat.not_le.mp fun q => hi (Or.inr q)
  exact W.iald (v := .int (f i.toNatClampNeg)) C.1 C.2.1 h1 (h2 n (fun j => .int (f j))) (fun q => by cases q) (by show ¬ (i < 0 ∨ (arrV _ _ _).slots.size ≤ _); rw [arrV_size]; exact hi) (by show (arrV _ _ _).slots[_]? = _; rw [arrV_read _ _ hlt]) rfl rfl hdg (kk p l e s m args below meth cd H locs lsA C R L F)
theorem x_baload {a n j : Nat} {f : Nat → Int32} {i : Int32} (hd : nD y pc .baload 1 p2 o) (hat : nAt h a = some (nAz n f)) (hi : nIx i n j) (kk : nG y κ cu su p2 ls (.int (f j) :: st) h) : nG y κ cu su pc ls (.int i :: .ref a :: st) h := by
  intro p l e s m args below meth cd H locs lsA C R L F
  obtain ⟨hdg, rfl, -⟩ := hd
  obtain ⟨hi, rfl⟩ := hi
  obtain ⟨cA, h1, h2, h3⟩ := R.2 a _ hat
  have hlt : i.toNatClampNeg < n := Nat.not_le.mp fun q => hi (Or.inr q)
  exact W.zald (v := .int (f i.toNatClampNeg)) C.1 C.2.1 h1 (h2 n (fun j => .int (f j))) (fun q => by cases q) (by show ¬ (i < 0 ∨ (arrV _ _ _).slots.size ≤ _); rw [arrV_size]; exact hi) (by show (arrV _ _ _).slots[_]? = _; rw [arrV_read _ _ hlt]) rfl rfl hdg (kk p l e s m args below meth cd H locs lsA C R L F)
theorem x_laload {a n j : Nat} {f : Nat → Int64} {i : Int32} (hd : nD y pc .laload 1 p2 o) (hat : nAt h a = some (nAl n f)) (hi : nIx i n j) (kk : nG y κ cu su p2 ls (.long (f j) :: st) h) : nG y κ cu su pc ls (.int i :: .ref a :: st) h := by
  intro p l e s m args below meth cd H locs lsA C R L F
  obtain ⟨hdg, rfl, -⟩ := hd
  obtain ⟨hi, rfl⟩ := hi
  obtain ⟨cA, h1, h2, h3⟩ := R.2 a _ hat
  have hlt : i.toNatClampNeg < n := Nat.not_le.mp fun q => hi (Or.inr q)
  exact W.lald (v := .long (f i.toNatClampNeg)) C.1 C.2.1 h1 (h2 n (fun j => .long (f j))) (fun q => by cases q) (by show ¬ (i < 0 ∨ (arrV _ _ _).slots.size ≤ _); rw [arrV_size]; exact hi) (by show (arrV _ _ _).slots[_]? = _; rw [arrV_read _ _ hlt]) rfl rfl hdg (kk p l e s m args below meth cd H locs lsA C R L F)
theorem x_aaloadV {a n j : Nat} {ty : FieldType} {f : Nat → Option Nat} {i : Int32} (hd : nD y pc .aaload 1 p2 o) (hat : nAt h a = some (nAr ty n f)) (hty : ty.isReference = true) (hi : nIx i n j) (kk : nG y κ cu su p2 ls (va_rf (f j) :: st) h) : nG y κ cu su pc ls (.int i :: .ref a :: st) h := by
  intro p l e s m args below meth cd H locs lsA C R L F
  obtain ⟨hdg, rfl, -⟩ := hd
  obtain ⟨hi, rfl⟩ := hi
  obtain ⟨cA, h1, h2, h3⟩ := R.2 a _ hat
  have hlt : i.toNatClampNeg < n := Nat.not_le.mp fun q => hi (Or.inr q)
  exact W.aald (v := va_rf (f i.toNatClampNeg)) (ty := ty) C.1 C.2.1 h1 (h2 n (fun j => va_rf (f j))) hty (fun q => by cases q) (by show ¬ (i < 0 ∨ (arrV _ _ _).slots.size ≤ _); rw [arrV_size]; exact hi) (by show (arrV _ _ _).slots[_]? = _; rw [arrV_read _ _ hlt]) rfl rfl hdg (kk p l e s m args below meth cd H locs lsA C R L F)
theorem x_aaload {a n j b : Nat} {ty : FieldType} {f : Nat → Option Nat} {i : Int32} (hd : nD y pc .aaload 1 p2 o) (hat : nAt h a = some (nAr ty n f)) (hty : ty.isReference = true) (hi : nIx i n j) (hf : f j = some b) (kk : nG y κ cu su p2 ls (.ref b :: st) h) : nG y κ cu su pc ls (.int i :: .ref a :: st) h :=
  x_aaloadV hd hat hty hi (by rw [hf]; exact kk)
theorem nLoc {a i B : Nat} {locs : List Loc} (F : ∀ q ∈ locs, B ≤ q.base) (hB : B ≤ a) : ∀ q ∈ locs ++ [(⟨a, i⟩ : Loc)], B ≤ q.base := fun z hz => by
  rcases List.mem_append.mp hz with hz | hz
  · exact F z hz
  · rw [List.mem_singleton.mp hz]
    exact hB
theorem x_iastore {a n j : Nat} {f : Nat → Int32} {i x : Int32} (hd : nD y pc .iastore 1 p2 o) (hat : nAt h a = some (nAi n f)) (hi : nIx i n j) (hB : h.2.1 ≤ a) (kk : nG y κ cu su p2 ls st (nSt h a (nAi n (nUp f j x)))) : nG y κ cu su pc ls (.int x :: .int i :: .ref a :: st) h := by
  intro p l e s m args below meth cd H locs lsA C R L F
  obtain ⟨hdg, rfl, -⟩ := hd
  obtain ⟨hi, rfl⟩ := hi
  obtain ⟨cA, h1, h2, h3⟩ := R.2 a _ hat
  refine W.iast C.1 C.2.1 h1 (h2 n (fun j => .int (f j))) (fun q => by cases q) (by show ¬ (i < 0 ∨ (arrV _ _ _).slots.size ≤ _); rw [arrV_size]; exact hi) rfl rfl hdg fun H1 e1 z oq => ?_
  refine kk p l e s m args below meth cd H1 _ lsA C (nRep_st R z oq ⟨cA, ?_, h2, h3⟩) L (nLoc F hB)
  rw [e1, vp_cell_i, vp_cell_i, arrV_store]
  congr 2
  funext q
  by_cases hq : q = i.toNatClampNeg <;> simp [updV, nUp, hq]
theorem x_bastore {a n j : Nat} {f : Nat → Int32} {i x z : Int32} (hd : nD y pc .bastore 1 p2 o) (hat : nAt h a = some (nAz n f)) (hi : nIx i n j) (hz : narrow .boolean (.int x) = .int z) (hB : h.2.1 ≤ a) (kk : nG y κ cu su p2 ls st (nSt h a (nAz n (nUp f j z)))) : nG y κ cu su pc ls (.int x :: .int i :: .ref a :: st) h := by
  intro p l e s m args below meth cd H locs lsA C R L F
  obtain ⟨hdg, rfl, -⟩ := hd
  obtain ⟨hi, rfl⟩ := hi
  obtain ⟨cA, h1, h2, h3⟩ := R.2 a _ hat
  refine W.zast C.1 C.2.1 h1 (h2 n (fun j => .int (f j))) (fun q => by cases q) (by show ¬ (i < 0 ∨ (arrV _ _ _).slots.size ≤ _); rw [arrV_size]; exact hi) rfl rfl hdg fun H1 e1 zz oq => ?_
  refine kk p l e s m args below meth cd H1 _ lsA C (nRep_st R zz oq ⟨cA, ?_, h2, h3⟩) L (nLoc F hB)
  rw [e1, hz, vp_cell_i, vp_cell_i, arrV_store]
  congr 2
  funext q
  by_cases hq : q = i.toNatClampNeg <;> simp [updV, nUp, hq]
theorem x_lastore {a n j : Nat} {f : Nat → Int64} {i : Int32} {x : Int64} (hd : nD y pc .lastore 1 p2 o) (hat : nAt h a = some (nAl n f)) (hi : nIx i n j) (hB : h.2.1 ≤ a) (kk : nG y κ cu su p2 ls st (nSt h a (nAl n (nUp f j x)))) : nG y κ cu su pc ls (.long x :: .int i :: .ref a :: st) h := by
  intro p l e s m args below meth cd H locs lsA C R L F
  obtain ⟨hdg, rfl, -⟩ := hd
  obtain ⟨hi, rfl⟩ := hi
  obtain ⟨cA, h1, h2, h3⟩ := R.2 a _ hat
  refine W.last C.1 C.2.1 h1 (h2 n (fun j => .long (f j))) (fun q => by cases q) (by show ¬ (i < 0 ∨ (arrV _ _ _).slots.size ≤ _); rw [arrV_size]; exact hi) rfl rfl hdg fun H1 e1 z oq => ?_
  refine kk p l e s m args below meth cd H1 _ lsA C (nRep_st R z oq ⟨cA, ?_, h2, h3⟩) L (nLoc F hB)
  rw [e1, vp_cell_l, vp_cell_l, arrV_store]
  congr 2
  funext q
  by_cases hq : q = i.toNatClampNeg <;> simp [updV, nUp, hq]
theorem x_aastore {a n j v ci : Nat} {r : vw_C} {vs : List Value} {f : Nat → Option Nat} {i : Int32} (hd : nD y pc .aastore 1 p2 o) (hc : vwCl[ci]? = some r) (hat : nAt h a = some (nAr (.object r.1) n f)) (hv : nAt h v = some (nOb ci vs)) (hi : nIx i n j) (hB : h.2.1 ≤ a) (kk : nG y κ cu su p2 ls st (nSt h a (nAr (.object r.1) n (nUp f j (some v))))) : nG y κ cu su pc ls (.ref v :: .int i :: .ref a :: st) h := by
  intro p l e s m args below meth cd H locs lsA C R L F
  obtain ⟨hdg, rfl, -⟩ := hd
  obtain ⟨hi, rfl⟩ := hi
  obtain ⟨cA, h1, h2, h3⟩ := R.2 a _ hat
  have hlt : i.toNatClampNeg < n := Nat.not_le.mp fun q => hi (Or.inr q)
  have h0 : ¬ i < 0 := fun q => hi (Or.inl q)
  obtain ⟨r', hr', cellV, g1, g2, g3, -⟩ := R.2 v _ hv
  have hcls := (C.2.2.2.2.2.2.2.2.1.1 ci r hc).2
  obtain ⟨kA, comp, k1, k2, k3, -⟩ := id h3
  have hcomp : comp = h.1.1 ci := Option.some.inj (k3.symm.trans hcls.1)
  subst hcomp
  obtain ⟨kC, hkC, -⟩ := hcls.2
  refine W.aast C.1 C.2.1 h1 (fun q h => by cases h) (fun h => by cases h) k1 k2 rfl hkC ⟨h0, by show _ < (arrV _ _ _).slots.size; rw [arrV_size]; exact hlt⟩ g1 (fun q h => by rw [g3] at h; cases h) (by rw [g2]; exact hkC) (by rw [g2]; exact va_assign hcls) rfl rfl hdg fun H1 e1 z oq => ?_
  refine kk p l e s m args below meth cd H1 _ lsA C (nRep_st R z oq ⟨cA, ?_, h2, h3⟩) L (nLoc F hB)
  rw [e1, vp_cell_q, vp_cell_q, arrV_store]
  congr 2
  funext q
  by_cases hq : q = i.toNatClampNeg <;> simp [updV, nUp, hq, va_rf]
theorem x_sld {a n j : Nat} {f : Nat → Int32} {i : Int32} (hd : nD y pc .iaload 1 p2 o) (hat : nAt h a = some (.inr (.inr (n, f)))) (hi : nIx i n j) (kk : nG y κ cu su p2 ls (.int (f j) :: st) h) : nG y κ cu su pc ls (.int i :: .ref a :: st) h := by
  intro p l e s m args below meth cd H locs lsA C R L F
  obtain ⟨hdg, rfl, -⟩ := hd
  obtain ⟨hi, rfl⟩ := hi
  obtain ⟨scr, h1, h2, h3, h4, h5⟩ := R.2 a _ hat
  have hlt : i.toNatClampNeg < n := Nat.not_le.mp fun q => hi (Or.inr q)
  exact W.iald (v := .int (f i.toNatClampNeg)) C.1 C.2.1 h1 h2 h3 (by rw [h4]; exact hi) (h5 _ hlt) rfl rfl hdg (kk p l e s m args below meth cd H locs lsA C R L F)
theorem x_slen {a n : Nat} {f : Nat → Int32} (hd : nD y pc .arraylength 1 p2 o) (hat : nAt h a = some (.inr (.inr (n, f)))) (kk : nG y κ cu su p2 ls (.int (nI n) :: st) h) : nG y κ cu su pc ls (.ref a :: st) h := by
  intro p l e s m args below meth cd H locs lsA C R L F
  obtain ⟨hdg, rfl, -⟩ := hd
  obtain ⟨scr, h1, h2, h3, h4, h5⟩ := R.2 a _ hat
  exact W.alen (n := nI n) C.1 C.2.1 h1 h2 (by rw [h4]; rfl) rfl rfl hdg (kk p l e s m args below meth cd H locs lsA C R L F)
end NH
end
section
/-! THE PLAIN WORLD: what is made, calls, ends, and a method's contract out of its walk. -/
def nN (o idx c N : Nat) : Prop := ∃ q : vw_C, vwCl[c]? = some q ∧ q.2.2 = N ∧ Cond.classLink (cNm o) idx q.1 ∈ nWs ∧ Cond.instantiable q.1 N ∈ nWs ∧ Cond.initialized q.1 ∈ nWs
def nDf (c : Nat) (fs : List Value) : Prop := ∀ q : vw_C, vwCl[c]? = some q → ∃ ty : Nat → FieldType, (∀ k, k < q.2.2 → parseFieldDescriptor (q.2.1 k).2.2.1 = some (ty k)) ∧ ∀ j, j < q.2.2 → defaultValue (ty j) = vp_V fs j
def nMo (z : nM) (n : Nat) : Prop := Cond.code z.1 z.2.1 z.2.2.1 z.2.2.2.1 ∈ nWs ∧ Cond.initialized z.1.cls ∈ nWs ∧ (z.1.cls ≠ "java/lang/invoke/MethodHandle" ∧ z.1.cls ≠ "java/lang/invoke/VarHandle") ∧ (parseMethodDescriptor z.1.desc).map (fun d => d.parameters.length) = some n
def nLk (o idx : Nat) (z : nM) : Prop := Cond.methodLink (cNm o) idx z.1 ∈ nWs
def nLn (o idx : Nat) (z : nM) : Prop := (cNm o, idx, z.1, "NetLoft") ∈ nNL
def nVi (z : nM) : Prop := Cond.instanceMethod z.1 ∈ nWs ∧ Cond.selects z.1.cls z.1 z.1 ∈ nWs
def nSc (z : nM) : Prop := Cond.static z.1 ∈ nWs
def nIi (z : nM) : Prop := Cond.instanceMethod z.1 ∈ nWs ∧ z.1.name = "<init>"
abbrev nCe (z : nM) : Nat := z.2.2.2.2.2.2.1
abbrev nSl (z : nM) : Nat := z.2.2.2.2.2.2.2.1
/-- the room for a call: frames and words -/
def nRo (κ : nKp) (z : nM) : Prop := z.2.2.2.2.2.1 + 1 ≤ κ.1.frames ∧ 8 + (z.2.2.1 + 11) + z.2.2.2.2.2.2.2.2 ≤ κ.1.locals
theorem nWs_good {w : Cond} (h : w ∈ nWs) : (w.onTables && w.keeps) = true ∨ ∃ ty, w = .arrayClass ty := good_of_word (List.mem_filter.mp h).2
theorem nGood {z : nM} {n : Nat} (hm : nMo z n) : GoodIn nWs (nWy z) := fun w hw => by
  rcases List.mem_cons.mp hw with rfl | hw
  · exact ⟨hm.1, nWs_good hm.1⟩
  · exact ⟨hw, nWs_good hw⟩
section NX
variable {y : nM} {κ : nKp} {cu su pc p2 o : Nat} {ls : List (Option Value)} {st : List Value} {h : nPH}
theorem x_new (hco : ∀ c, nCo c) {idx c N : Nat} {fs : List Value} (hd : nD y pc (.new idx) 3 p2 o) (hn : nN o idx c N) (hdf : nDf c fs) (hc : cu + 1 ≤ κ.1.cells) (hs : su + N ≤ κ.1.slots) (kk : nG y κ (cu + 1) (su + N) p2 ls (.ref h.2.2.1 :: st) (nNw h (nOb c fs))) : nG y κ cu su pc ls st h := by
  intro p l e s m args below meth cd H locs lsA C R L F
  obtain ⟨hdg, rfl, rfl⟩ := hd
  obtain ⟨q, hq, rfl, w1, w2, w3⟩ := hn
  obtain ⟨ty, hty, hfs⟩ := hdf q hq
  have K := fun H2 => kk p l e s m args below meth cd H2 locs lsA C
  obtain ⟨hx, hb, hml, hown, hts, hr, hlk, hnm, hK⟩ := C
  have hKn := hK.1.1 c _ hq
  refine W.newcK hx hb hown (hts _ w1) (hts _ w2) (hts _ w3) rfl hdg hc hs hKn.2.1 rfl fun H1 kC hkC e1 z1 o1 => ?_
  have K2 := K H1 (nRep_nw R z1 o1 ⟨q, hq, (u_born ty hts (hco c q hq).1 hKn hkC e1 hty).to hfs⟩) L F
  rw [← R.1] at K2
  exact K2
theorem x_newa {idx N : Nat} {n : Int32} {at_ : ArrayType} {x : vp_A} (hd : nD y pc (.newarray at_) 2 p2 o) (hw : Cond.arrayClass (newarray.typeOf at_) ∈ nWs) (hn : ¬ n < 0) (hN : n.toNatClampNeg = N) (hb : N * componentBytes (newarray.typeOf at_) ≤ 536870912) (hx : ∀ cA : ClassId, vp_cell cA x = arrV cA N (fun _ => defaultValue (newarray.typeOf at_))) (hc : cu + 1 ≤ κ.1.cells) (hs : su + N ≤ κ.1.slots)
    (kk : nG y κ (cu + 1) (su + N) p2 ls (.ref h.2.2.1 :: st) (nNw h (.inl (newarray.typeOf at_, x)))) : nG y κ cu su pc ls (.int n :: st) h := by
  intro p l e s m args below meth cd H locs lsA C R L F
  obtain ⟨hdg, rfl, rfl⟩ := hd
  have K := fun H2 => kk p l e s m args below meth cd H2 locs lsA C
  refine va_newaK C.1 C.2.1 (C.2.2.2.2.1 _ hw) rfl hdg rfl hn hN hb hc hs rfl fun H1 cA e1 z1 o1 hAr hNm => ?_
  have K2 := K H1 (nRep_nw R z1 o1 ⟨cA, e1.trans (congrArg some (hx cA).symm), hAr, by cases at_ <;> exact hNm⟩) L F
  rw [← R.1] at K2
  exact K2
theorem x_newaI {N : Nat} {n : Int32} (hd : nD y pc (.newarray .int) 2 p2 o) (hw : Cond.arrayClass .int ∈ nWs) (hn : ¬ n < 0) (hN : n.toNatClampNeg = N) (hb : N * 4 ≤ 536870912) (hc : cu + 1 ≤ κ.1.cells) (hs : su + N ≤ κ.1.slots) (kk : nG y κ (cu + 1) (su + N) p2 ls (.ref h.2.2.1 :: st) (nNw h (nAi N (fun _ => 0)))) : nG y κ cu su pc ls (.int n :: st) h :=
  x_newa (idx := 0) (x := (N, .inl (fun _ => 0))) hd hw hn hN hb (fun _ => rfl) hc hs kk
theorem x_newaZ {N : Nat} {n : Int32} (hd : nD y pc (.newarray .boolean) 2 p2 o) (hw : Cond.arrayClass .boolean ∈ nWs) (hn : ¬ n < 0) (hN : n.toNatClampNeg = N) (hb : N * 1 ≤ 536870912) (hc : cu + 1 ≤ κ.1.cells) (hs : su + N ≤ κ.1.slots) (kk : nG y κ (cu + 1) (su + N) p2 ls (.ref h.2.2.1 :: st) (nNw h (nAz N (fun _ => 0)))) : nG y κ cu su pc ls (.int n :: st) h :=
  x_newa (idx := 0) (x := (N, .inl (fun _ => 0))) hd hw hn hN hb (fun _ => rfl) hc hs kk
theorem x_newaL {N : Nat} {n : Int32} (hd : nD y pc (.newarray .long) 2 p2 o) (hw : Cond.arrayClass .long ∈ nWs) (hn : ¬ n < 0) (hN : n.toNatClampNeg = N) (hb : N * 8 ≤ 536870912) (hc : cu + 1 ≤ κ.1.cells) (hs : su + N ≤ κ.1.slots) (kk : nG y κ (cu + 1) (su + N) p2 ls (.ref h.2.2.1 :: st) (nNw h (nAl N (fun _ => 0)))) : nG y κ cu su pc ls (.int n :: st) h :=
  x_newa (idx := 0) (x := (N, .inr (.inl (fun _ => 0)))) hd hw hn hN hb (fun _ => rfl) hc hs kk
theorem x_newq {idx N : Nat} {n : Int32} {Cn : String} (hd : nD y pc (.anewarray idx) 3 p2 o) (hw : Cond.classLink (cNm o) idx Cn ∈ nWs) (ho : Cn = "NetLoft$Panel" ∨ Cn = "NetLoft$Row") (hn : ¬ n < 0) (hN : n.toNatClampNeg = N) (hb : N * 4 ≤ 536870912) (hc : cu + 1 ≤ κ.1.cells) (hs : su + N ≤ κ.1.slots) (kk : nG y κ (cu + 1) (su + N) p2 ls (.ref h.2.2.1 :: st) (nNw h (nAr (.object Cn) N (fun _ => none)))) : nG y κ cu su pc ls (.int n :: st) h := by
  intro p l e s m args below meth cd H locs lsA C R L F
  obtain ⟨hdg, rfl, rfl⟩ := hd
  subst hN
  have K := fun H2 => kk p l e s m args below meth cd H2 locs lsA C
  have hov : va_AO Cn s := by
    rcases ho with rfl | rfl
    · exact C.2.2.2.2.2.2.2.2.2.2.1
    · exact C.2.2.2.2.2.2.2.2.2.2.2.1
  refine W.anew C.1 C.2.1 C.2.2.2.1 (C.2.2.2.2.1 _ hw) (va_AO.use hov) rfl hdg rfl hn hb hc hs fun cA kA comp f1 f2 f3 f4 => ?_
  generalize hH1 : H.push ({ cls := cA, slots := Array.replicate n.toNatClampNeg .null, vm := .none } : Cell) = H1
  have z1 : H1.size = H.size + 1 := by rw [← hH1, Array.size_push]
  have e1 : H1[H.size]? = some (arrV cA n.toNatClampNeg (fun _ => .null)) := by rw [← hH1, Array.getElem?_push_size, ← arrV_new]
  have o1 : ∀ q : Nat, q < H.size → H1[q]? = H[q]? := fun q hq => by rw [← hH1, Array.getElem?_push, if_neg (Nat.ne_of_lt hq)]
  have hAr : ArrOfT s cA (.object Cn) := fun N z => ⟨(fun k h => by cases h), kA, f2, comp, f3⟩
  have K2 := K H1 (nRep_nw R z1 o1 ⟨cA, e1, hAr, kA, comp, f2, f3, f4, f1⟩) L F
  rw [← R.1] at K2
  exact K2
theorem nAfter {mc ms : Nat} {st0 rest : List Value} {Post : Option Value → nPH → Prop} {p : Program} {l : Launch} {e : Env} {s : State} {m : MethodId} {args : Array Value} {below : List Frame} {meth : Method} {cd : Code} {H : Heap} {locs : List Loc} {lsA : Array Slot} {aa : Array Value}
    (C : nCx y h.1 p s m args meth cd) (L : nLs lsA y.2.2.1 ls) (F : ∀ q ∈ locs, h.2.1 ≤ q.base)
    (hr : va_Run p l e κ.1 s m args below meth cd H locs cu su mc ms (F0 m pc lsA st0) rest (nQc h.1 h.2.1 Post aa) (fun q => h.2.1 ≤ q))
    (kk : ∀ (v : Option Value) (h2 : nPH), Post v h2 → h2.1 = h.1 → h2.2.1 = h.2.1 → nG y κ (cu + mc) (su + ms) (pc + 3) ls (v.toList ++ rest) h2) : W p l e κ.1 s m args below meth cd H locs cu su (κ.2 below args s) (F0 m pc lsA st0) := by
  intro T hT X
  obtain ⟨v, st₀, t, T', L2, h0, X', hL, e1, e2, ⟨v', h2, hv, hpost, hd1, hb1, hrep⟩, stp⟩ := hr T hT X
  cases hv
  have hal : s.vm.Alike t.vm := by rw [← e2]; exact X'.warmed.alike
  obtain ⟨t2, a1, b1⟩ := kk v h2 hpost hd1 hb1 p l e s m args below meth cd T'.heap (locs ++ L2) lsA (by rw [hd1]; exact C) (by rw [e1]; exact hrep.moved hal.symm) L (fun q hq => by
    rw [hb1]
    rcases List.mem_append.mp hq with hq | hq
    · exact F q hq
    · exact hL q hq) T' rfl X'
  exact ⟨t2, stp t2 a1, b1⟩
theorem nCallB {z : nM} {n idx : Nat} {p : Program} {s : State} {m : MethodId} {args : Array Value} {meth : Method} {cd : Code} (hl : nLk y.2.2.2.2.1 idx z) (hm : nMo z n) (hro : nRo κ z) (C : nCx y h.1 p s m args meth cd) : CallB κ.1 s args (cNm y.2.2.2.2.1) idx z.1 z.2.1 z.2.2.1 z.2.2.2.1 (nWy z) (nRm z) (nCe z) (nSl z) n :=
  callB_of n C.2.2.2.2.1 (nGood hm) rfl rfl rfl (C.2.2.2.2.1 _ hm.2.1) (C.2.2.2.2.1 _ hl) ⟨hm.2.2.1.1, hm.2.2.1.2, hm.2.2.2⟩ hro
theorem nPreS {z : nM} {av : List Value} {Post : Option Value → nPH → Prop} {p : Program} {s : State} {m : MethodId} {args : Array Value} {meth : Method} {cd : Code} {H : Heap} (C : nCx y h.1 p s m args meth cd) (R : nRep h s H) : PreS s H (nPc h av) av :=
  ⟨nPc_blind h av, fun U hU hW => ⟨rfl, by rw [hU]; exact R.moved hW.alike, nK.moved hW C.2.2.2.2.2.2.2.2⟩⟩
theorem x_callV {z : nM} {idx n c b : Nat} {As rest st0 fs : List Value} {Post : Option Value → nPH → Prop} (hd : nD y pc (.invokevirtual idx) 3 p2 o) (hl : nLk o idx z) (hm : nMo z n) (hv : nVi z) (hz : nSp z (.ref b :: As) h Post) (hat : nAt h b = some (nOb c fs)) (hcn : ∃ q : vw_C, vwCl[c]? = some q ∧ q.1 = z.1.cls) (hn : As.length = n) (hro : nRo κ z) (hrc : cu + nCe z ≤ κ.1.cells) (hrs : su + nSl z ≤ κ.1.slots) (hw : (rest.map fun v => v.category).sum ≤ 8) (hst : As.reverse ++ .ref b :: rest = st0)
    (kk : ∀ (v : Option Value) (h2 : nPH), Post v h2 → h2.1 = h.1 → h2.2.1 = h.2.1 → nG y κ (cu + nCe z) (su + nSl z) p2 ls (v.toList ++ rest) h2) : nG y κ cu su pc ls st0 h := by
  intro p l e s m args below meth cd H locs lsA C R L F
  obtain ⟨hdg, rfl, rfl⟩ := hd
  obtain ⟨q, hq, hqc⟩ := hcn
  subst hst
  refine nAfter C L F (va_runV (As := As) (rest := rest) ⟨C.1, C.2.1, C.2.2.1, C.2.2.2.1, C.2.2.2.2.1⟩ (hz l) ⟨nCallB hl hm hro C, C.2.2.2.2.1 _ hv.1, C.2.2.2.2.1 _ hv.2⟩ ⟨nPc_blind h _, ?_, (nPreS (z := z) (Post := Post) C R).2⟩ rfl hn L.1 rfl (lv_room hw) hdg ⟨hrc, hrs⟩) kk
  obtain ⟨r, h1, cell, g1, g2, g3, -⟩ := R.2 b _ hat
  refine ⟨cell, g1, by rw [g3]; rfl, ?_⟩
  rw [g2, ← hqc]
  exact (C.2.2.2.2.2.2.2.2.1.1 c q hq).2.1
theorem x_callS {z : nM} {idx n : Nat} {As rest st0 : List Value} {Post : Option Value → nPH → Prop} (hd : nD y pc (.invokestatic idx) 3 p2 o) (hl : nLk o idx z) (hm : nMo z n) (hv : nSc z) (hz : nSp z As h Post) (hn : As.length = n) (hro : nRo κ z) (hrc : cu + nCe z ≤ κ.1.cells) (hrs : su + nSl z ≤ κ.1.slots) (hw : (rest.map fun v => v.category).sum ≤ 8) (hst : As.reverse ++ rest = st0)
    (kk : ∀ (v : Option Value) (h2 : nPH), Post v h2 → h2.1 = h.1 → h2.2.1 = h.2.1 → nG y κ (cu + nCe z) (su + nSl z) p2 ls (v.toList ++ rest) h2) : nG y κ cu su pc ls st0 h := by
  intro p l e s m args below meth cd H locs lsA C R L F
  obtain ⟨hdg, rfl, rfl⟩ := hd
  subst hst
  exact nAfter C L F (va_runS (As := As) (rest := rest) ⟨C.1, C.2.1, C.2.2.1, C.2.2.2.1, C.2.2.2.2.1⟩ (hz l) ⟨nCallB hl hm hro C, C.2.2.2.2.1 _ hv⟩ (nPreS (z := z) (Post := Post) C R) rfl hn L.1 rfl (lv_room hw) hdg ⟨hrc, hrs⟩) kk
theorem x_callI {z : nM} {idx n b : Nat} {As rest st0 : List Value} {Post : Option Value → nPH → Prop} (hd : nD y pc (.invokespecial idx) 3 p2 o) (hl : nLk o idx z) (hm : nMo z n) (hv : nIi z) (hret : z.2.2.2.1 = none) (hz : nSp z (.ref b :: As) h Post) (hn : As.length = n) (hro : nRo κ z) (hrc : cu + nCe z ≤ κ.1.cells) (hrs : su + nSl z ≤ κ.1.slots) (hw : (rest.map fun v => v.category).sum ≤ 8) (hst : As.reverse ++ .ref b :: rest = st0)
    (kk : ∀ (v : Option Value) (h2 : nPH), Post v h2 → h2.1 = h.1 → h2.2.1 = h.2.1 → nG y κ (cu + nCe z) (su + nSl z) p2 ls (v.toList ++ rest) h2) : nG y κ cu su pc ls st0 h := by
  intro p l e s m args below meth cd H locs lsA C R L F
  obtain ⟨hdg, rfl, rfl⟩ := hd
  subst hst
  have cb := nCallB hl hm hro C
  rw [hret] at cb
  exact nAfter C L F (va_runI (As := As) (rest := rest) ⟨C.1, C.2.1, C.2.2.1, C.2.2.2.1, C.2.2.2.2.1⟩ (hz l) ⟨cb, hv.2, C.2.2.2.2.1 _ hv.1⟩ (nPreS (z := z) (Post := Post) C R) rfl hn L.1 rfl (lv_room hw) hdg ⟨hrc, hrs⟩) kk
theorem x_callSN {z : nM} {idx n : Nat} {As rest st0 : List Value} {Post : Option Value → nPH → Prop} (hd : nD y pc (.invokestatic idx) 3 p2 o) (hl : nLn o idx z) (hm : nMo z n) (hv : nSc z) (hz : nSp z As h Post) (hn : As.length = n) (hro : nRo κ z) (hrc : cu + nCe z ≤ κ.1.cells) (hrs : su + nSl z ≤ κ.1.slots) (hw : (rest.map fun v => v.category).sum ≤ 8) (hst : As.reverse ++ rest = st0)
    (kk : ∀ (v : Option Value) (h2 : nPH), Post v h2 → h2.1 = h.1 → h2.2.1 = h.2.1 → nG y κ (cu + nCe z) (su + nSl z) p2 ls (v.toList ++ rest) h2) : nG y κ cu su pc ls st0 h := by
  intro p l e s m args below meth cd H locs lsA C R L F
  obtain ⟨hdg, rfl, rfl⟩ := hd
  subst hst
  have hN := C.2.2.2.2.2.2.2.2.2.1 _ hl
  exact nAfter C L F (va_runSN (As := As) (rest := rest) ⟨C.1, C.2.1, C.2.2.1, C.2.2.2.1, C.2.2.2.2.1⟩ (hz l) ⟨va_cnB n C.2.2.2.2.1 (nGood hm) rfl rfl rfl hN (C.2.2.2.2.1 _ hm.2.1) ⟨hm.2.2.1.1, hm.2.2.1.2, hm.2.2.2⟩ hro, C.2.2.2.2.1 _ hv, trivial⟩ (nPreS (z := z) (Post := Post) C R) rfl hn L.1 rfl (lv_room hw) hdg ⟨hrc, hrs⟩) kk
theorem x_callIN {z : nM} {idx n b : Nat} {As rest st0 : List Value} {Post : Option Value → nPH → Prop} (hd : nD y pc (.invokespecial idx) 3 p2 o) (hl : nLn o idx z) (hm : nMo z n) (hv : nIi z) (hret : z.2.2.2.1 = none) (hz : nSp z (.ref b :: As) h Post) (hn : As.length = n) (hro : nRo κ z) (hrc : cu + nCe z ≤ κ.1.cells) (hrs : su + nSl z ≤ κ.1.slots) (hw : (rest.map fun v => v.category).sum ≤ 8) (hst : As.reverse ++ .ref b :: rest = st0)
    (kk : ∀ (v : Option Value) (h2 : nPH), Post v h2 → h2.1 = h.1 → h2.2.1 = h.2.1 → nG y κ (cu + nCe z) (su + nSl z) p2 ls (v.toList ++ rest) h2) : nG y κ cu su pc ls st0 h := by
  intro p l e s m args below meth cd H locs lsA C R L F
  obtain ⟨hdg, rfl, rfl⟩ := hd
  subst hst
  have hN := C.2.2.2.2.2.2.2.2.2.1 _ hl
  have cb : va_CN κ.1 s args (cNm y.2.2.2.2.1) idx z.1 "NetLoft" z.2.1 z.2.2.1 z.2.2.2.1 (nWy z) (nRm z) (nCe z) (nSl z) n := va_cnB n C.2.2.2.2.1 (nGood hm) rfl rfl rfl hN (C.2.2.2.2.1 _ hm.2.1) ⟨hm.2.2.1.1, hm.2.2.1.2, hm.2.2.2⟩ hro
  rw [hret] at cb
  exact nAfter C L F (va_runIN (As := As) (rest := rest) ⟨C.1, C.2.1, C.2.2.1, C.2.2.2.1, C.2.2.2.2.1⟩ (hz l) ⟨cb, hv.2, C.2.2.2.2.1 _ hv.1⟩ (nPreS (z := z) (Post := Post) C R) rfl hn L.1 rfl (lv_room hw) hdg ⟨hrc, hrs⟩) kk
theorem x_objI {idx a : Nat} (hob : Cond.instanceMethod Lib.objectInit ∈ nWs ∧ Cond.code Lib.objectInit ⟨#[0xb1]⟩ 1 none ∈ nWs) (hd : nD y pc (.invokespecial idx) 3 p2 o) (hl : Cond.methodLink (cNm o) idx Lib.objectInit ∈ nWs) (hf : 1 ≤ κ.1.frames) (hlo : (st.map fun v => v.category).sum + 12 ≤ κ.1.locals) (kk : nG y κ cu su p2 ls st h) : nG y κ cu su pc ls (.ref a :: st) h := by
  intro p l e s m args below meth cd H locs lsA C R L F
  obtain ⟨hdg, rfl, rfl⟩ := hd
  exact W.objInit C.1 C.2.1 C.2.2.2.1 (C.2.2.2.2.1 _ hl) (C.2.2.2.2.1 _ hob.1) (C.2.2.2.2.1 _ hob.2) rfl (by rw [C.2.2.1]; exact L.1) rfl hdg hf (by show 2 * 0 + _ + 12 ≤ _; omega) (kk p l e s m args below meth cd H locs lsA C R L F)
theorem x_ldc {idx : Nat} {v : Int32} (hd : nD y pc (.ldc idx) 2 p2 o) (hc : Cond.constant (cNm o) idx v ∈ nWs) (kk : nG y κ cu su p2 ls (.int v :: st) h) : nG y κ cu su pc ls st h := by
  intro p l e s m args below meth cd H locs lsA C R L F
  obtain ⟨hdg, rfl, rfl⟩ := hd
  exact lv_ldc C.1 C.2.1 C.2.2.2.1 (C.2.2.2.2.1 _ hc) hdg (kk p l e s m args below meth cd H locs lsA C R L F)
theorem x_ldcw {idx : Nat} {v : Int32} (hd : nD y pc (.ldc_w idx) 3 p2 o) (hc : Cond.constant (cNm o) idx v ∈ nWs) (kk : nG y κ cu su p2 ls (.int v :: st) h) : nG y κ cu su pc ls st h := by
  intro p l e s m args below meth cd H locs lsA C R L F
  obtain ⟨hdg, rfl, rfl⟩ := hd
  exact lv_ldcw C.1 C.2.1 C.2.2.2.1 (C.2.2.2.2.1 _ hc) hdg (kk p l e s m args below meth cd H locs lsA C R L F)
theorem x_ldc2 {idx : Nat} {v : Int64} (hd : nD y pc (.ldc2_w idx) 3 p2 o) (hc : Cond.constantLong (cNm o) idx v ∈ nWs) (kk : nG y κ cu su p2 ls (.long v :: st) h) : nG y κ cu su pc ls st h := by
  intro p l e s m args below meth cd H locs lsA C R L F
  obtain ⟨hdg, rfl, rfl⟩ := hd
  exact lv_ldc2 C.1 C.2.1 C.2.2.2.1 (C.2.2.2.2.1 _ hc) hdg (kk p l e s m args below meth cd H locs lsA C R L F)
theorem x_ireturn {D : va_G} {B : Nat} {Post : Option Value → nPH → Prop} {v : Int32} {ty : FieldType} (hd : nD y pc .ireturn 1 p2 o) (hr : y.2.2.2.1 = some ty) (hn : narrow ty (.int v) = .int v) (hD : h.1 = D) (hB : h.2.1 = B) (hc : cu ≤ nCe y) (hs : su ≤ nSl y) (hp : Post (some (.int v)) h) : nG y (nKy y D B Post) cu su pc ls [.int v] h := by
  intro p l e s m args below meth cd H locs lsA C R L F
  subst hD; subst hB
  refine W.widen hc hs ?_
  have hlk := C.2.2.2.2.2.2.1
  exact W.zret C.1 C.2.1 (C.2.2.2.2.2.1.trans hr) hn (fun t ht hW => ⟨_, h, rfl, hp, rfl, rfl, by rw [ht]; exact R.moved hW.alike⟩) F hd.1 (hlocks := hlk)
theorem x_lreturn {D : va_G} {B : Nat} {Post : Option Value → nPH → Prop} {v : Int64} (hd : nD y pc .lreturn 1 p2 o) (hr : y.2.2.2.1 = some .long) (hD : h.1 = D) (hB : h.2.1 = B) (hc : cu ≤ nCe y) (hs : su ≤ nSl y) (hp : Post (some (.long v)) h) : nG y (nKy y D B Post) cu su pc ls [.long v] h := by
  intro p l e s m args below meth cd H locs lsA C R L F
  subst hD; subst hB
  refine W.widen hc hs ?_
  have hlk := C.2.2.2.2.2.2.1
  exact W.lret C.1 C.2.1 (C.2.2.2.2.2.1.trans hr) (fun t ht hW => ⟨_, h, rfl, hp, rfl, rfl, by rw [ht]; exact R.moved hW.alike⟩) F hd.1 (hlocks := hlk)
theorem x_areturn {D : va_G} {B : Nat} {Post : Option Value → nPH → Prop} {v : Value} {rt : FieldType} (hd : nD y pc .areturn 1 p2 o) (hr : y.2.2.2.1 = some rt) (hrt : (∃ n, rt = .object n) ∨ ∃ t, rt = .array t) (hv : v = .null ∨ ∃ a, v = .ref a) (hD : h.1 = D) (hB : h.2.1 = B) (hc : cu ≤ nCe y) (hs : su ≤ nSl y) (hp : Post (some v) h) : nG y (nKy y D B Post) cu su pc ls [v] h := by
  intro p l e s m args below meth cd H locs lsA C R L F
  subst hD; subst hB
  refine W.widen hc hs ?_
  have hlk := C.2.2.2.2.2.2.1
  exact W.aret C.1 C.2.1 (C.2.2.2.2.2.1.trans hr) hrt hv (fun t ht hW => ⟨_, h, rfl, hp, rfl, rfl, by rw [ht]; exact R.moved hW.alike⟩) F hd.1 (hlocks := hlk)
theorem x_return {D : va_G} {B : Nat} {Post : Option Value → nPH → Prop} (hd : nD y pc .return_ 1 p2 o) (hr : y.2.2.2.1 = none) (hD : h.1 = D) (hB : h.2.1 = B) (hc : cu ≤ nCe y) (hs : su ≤ nSl y) (hp : Post none h) : nG y (nKy y D B Post) cu su pc ls [] h := by
  intro p l e s m args below meth cd H locs lsA C R L F
  subst hD; subst hB
  refine W.widen hc hs ?_
  have hlk := C.2.2.2.2.2.2.1
  exact W.vret C.1 C.2.1 (C.2.2.2.2.2.1.trans hr) (fun t ht hW => ⟨_, h, rfl, hp, rfl, rfl, by rw [ht]; exact R.moved hW.alike⟩) F hd.1 (hlocks := hlk)
end NX
def nEv : List Value → List (Option Value)
  | [] => []
  | v :: vs => if v.category = 2 then some v :: none :: nEv vs else some v :: nEv vs
theorem nEv_at : ∀ (vs : List Value) (n i j : Nat) (v : Value), (nEv vs ++ List.replicate n none)[i]? = some (some v) → (j + i, v) ∈ lv_args j vs
  | [], n, i, j, v, h => by
    simp [nEv, List.getElem?_replicate] at h
  | x :: vs, n, i, j, v, h => by
    unfold nEv at h
    unfold lv_args
    by_cases hc : x.category = 2
    · rw [if_pos hc] at h ⊢
      match i, h with
      | 0, h =>
        simp at h
        subst h
        exact List.mem_cons_self
      | 1, h => simp at h
      | i + 2, h =>
        have := nEv_at vs n i (j + 2) v (by simpa using h)
        rw [show j + (i + 2) = j + 2 + i by omega]
        exact List.mem_cons_of_mem _ this
    · rw [if_neg hc] at h ⊢
      match i, h with
      | 0, h =>
        simp at h
        subst h
        exact List.mem_cons_self
      | i + 1, h =>
        have := nEv_at vs n i (j + 1) v (by simpa using h)
        rw [show j + (i + 1) = j + 1 + i by omega]
        exact List.mem_cons_of_mem _ this
theorem nSp_of {y : nM} {av : List Value} {h : nPH} {Post : Option Value → nPH → Prop} {ls : List (Option Value)} (hpl : plainName y.1.cls = true) (hcn : cNm y.2.2.2.2.1 = y.1.cls) (hlen : (lg_sl av).length ≤ y.2.2.1) (hls : nSub ls (nEv av ++ List.replicate y.2.2.1 none)) (k : nG y (nKy y h.1 h.2.1 Post) 0 0 0 ls [] h) : nSp y av h Post := by
  intro l
  refine Met.ofW (cc := y.2.1) (maxL := y.2.2.1) (ret := y.2.2.2.1) hpl rfl ?_
  intro p e s m args below meth c s₁ B hml hv
  obtain ⟨rfl, hR, hK⟩ := hv
  have hts := atoms_spec (ws := nWy y) B.pre
  have he := lv_entry av (n := y.2.2.1) hlen
  rw [lg_entry_eq]
  refine k p l e s m _ below meth c s.heap [] _ ⟨B.exec, B.bytes, hml, by rw [hcn]; exact findClass_of_methodNamed B.named, fun w hw => hts w (List.mem_cons_of_mem _ hw), B.returns, B.notSynchronized, (name_of_methodNamed B.named B.method).1, hK⟩ hR ⟨he.1, he.2.1, fun i v hi => ?_⟩ (fun q hq => by cases hq)
  have h1 := nEv_at av _ i 0 v (nSub_at hls i v hi)
  rw [Nat.zero_add] at h1
  exact he.2.2 (i, v) h1
theorem nSp.mono {y : nM} {av : List Value} {h : nPH} {P Q : Option Value → nPH → Prop} (hs : nSp y av h P) (hPQ : ∀ v h2, P v h2 → Q v h2) : nSp y av h Q := by
  intro l p e ha hc hk s m args below hf happ hpre hkk
  obtain ⟨k, o, h1, h2, h3, ⟨⟨v, h4, g1, g2, g3⟩, hL⟩⟩ := hs l p e ha hc hk s m args below hf happ hpre hkk
  exact ⟨k, o, h1, h2, h3, ⟨⟨v, h4, g1, hPQ v h4 g2, g3⟩, hL⟩⟩
end
section
/-! LINKS: which words the tables have -/
theorem nW (n : Nat) {w : Cond} (h : tables_1[n]? = some w) (hg : goodWord w = true) : w ∈ nWs := List.mem_filter.mpr ⟨List.mem_append_right _ (List.mem_of_getElem? h), hg⟩
theorem nW1 (n : Nat) {w : Cond} (h : tables_1_1[n]? = some w) (hg : goodWord w = true) : w ∈ nWs := List.mem_filter.mpr ⟨List.mem_append_right _ (List.mem_append_left _ (List.mem_of_getElem? h)), hg⟩
theorem nW2 (n : Nat) {w : Cond} (h : tables_1_2[n]? = some w) (hg : goodWord w = true) : w ∈ nWs := List.mem_filter.mpr ⟨List.mem_append_right _ (List.mem_append_right _ (List.mem_append_left _ (List.mem_of_getElem? h))), hg⟩
theorem nW3 (n : Nat) {w : Cond} (h : tables_1_3[n]? = some w) (hg : goodWord w = true) : w ∈ nWs := List.mem_filter.mpr ⟨List.mem_append_right _ (List.mem_append_right _ (List.mem_append_right _ (List.mem_append_left _ (List.mem_of_getElem? h)))), hg⟩
theorem nW4 (n : Nat) {w : Cond} (h : tables_1_4[n]? = some w) (hg : goodWord w = true) : w ∈ nWs := List.mem_filter.mpr ⟨List.mem_append_right _ (List.mem_append_right _ (List.mem_append_right _ (List.mem_append_right _ (List.mem_append_left _ (List.mem_of_getElem? h))))), hg⟩
theorem nW5 (n : Nat) {w : Cond} (h : tables_1_5[n]? = some w) (hg : goodWord w = true) : w ∈ nWs := List.mem_filter.mpr ⟨List.mem_append_right _ (List.mem_append_right _ (List.mem_append_right _ (List.mem_append_right _ (List.mem_append_right _ (List.mem_of_getElem? h))))), hg⟩
theorem nWp (n : Nat) {w : Cond} (h : (k2_sels lw_privs)[n]? = some w) (hg : goodWord w = true) : w ∈ nWs := List.mem_filter.mpr ⟨List.mem_append_left _ (List.mem_of_getElem? h), hg⟩
theorem fk_0_51 : nF 0 51 0 0 := ⟨_, rfl, by decide, (nW1 31 rfl rfl)⟩
theorem fk_0_55 : nF 0 55 0 1 := ⟨_, rfl, by decide, (nW1 32 rfl rfl)⟩
theorem fk_7_197 : nF 7 197 0 1 := ⟨_, rfl, by decide, (nW1 33 rfl rfl)⟩
theorem fk_0_58 : nF 0 58 0 2 := ⟨_, rfl, by decide, (nW1 34 rfl rfl)⟩
theorem fk_0_61 : nF 0 61 0 3 := ⟨_, rfl, by decide, (nW1 35 rfl rfl)⟩
theorem fk_0_9 : nF 0 9 0 4 := ⟨_, rfl, by decide, (nW1 36 rfl rfl)⟩
theorem fk_0_15 : nF 0 15 0 5 := ⟨_, rfl, by decide, (nW1 37 rfl rfl)⟩
theorem fk_0_20 : nF 0 20 0 6 := ⟨_, rfl, by decide, (nW1 38 rfl rfl)⟩
theorem fk_0_23 : nF 0 23 0 7 := ⟨_, rfl, by decide, (nW1 39 rfl rfl)⟩
theorem fk_0_39 : nF 0 39 0 8 := ⟨_, rfl, by decide, (nW1 40 rfl rfl)⟩
theorem fk_6_18 : nF 6 18 6 0 := ⟨_, rfl, by decide, (nW1 67 rfl rfl)⟩
theorem fk_7_180 : nF 7 180 6 0 := ⟨_, rfl, by decide, (nW1 68 rfl rfl)⟩
theorem fk_6_9 : nF 6 9 6 1 := ⟨_, rfl, by decide, (nW1 69 rfl rfl)⟩
theorem fk_6_15 : nF 6 15 6 2 := ⟨_, rfl, by decide, (nW1 70 rfl rfl)⟩
theorem fk_6_26 : nF 6 26 6 3 := ⟨_, rfl, by decide, (nW1 71 rfl rfl)⟩
theorem fk_5_9 : nF 5 9 5 0 := ⟨_, rfl, by decide, (nW1 87 rfl rfl)⟩
theorem fk_5_15 : nF 5 15 5 1 := ⟨_, rfl, by decide, (nW1 88 rfl rfl)⟩
theorem fk_5_18 : nF 5 18 5 2 := ⟨_, rfl, by decide, (nW1 89 rfl rfl)⟩
theorem fk_4_40 : nF 4 40 4 0 := ⟨_, rfl, by decide, (nW1 103 rfl rfl)⟩
theorem fk_7_235 : nF 7 235 4 0 := ⟨_, rfl, by decide, (nW1 104 rfl rfl)⟩
theorem fk_4_9 : nF 4 9 4 1 := ⟨_, rfl, by decide, (nW1 105 rfl rfl)⟩
theorem fk_7_236 : nF 7 236 4 1 := ⟨_, rfl, by decide, (nW1 106 rfl rfl)⟩
theorem fk_1_20 : nF 1 20 1 0 := ⟨_, rfl, by decide, (nW1 120 rfl rfl)⟩
theorem fk_7_256 : nF 7 256 1 0 := ⟨_, rfl, by decide, (nW1 121 rfl rfl)⟩
theorem fk_1_24 : nF 1 24 1 1 := ⟨_, rfl, by decide, (nW1 122 rfl rfl)⟩
theorem fk_7_260 : nF 7 260 1 1 := ⟨_, rfl, by decide, (nW1 123 rfl rfl)⟩
theorem fk_1_11 : nF 1 11 1 2 := ⟨_, rfl, by decide, (nW1 124 rfl rfl)⟩
theorem fk_7_248 : nF 7 248 1 2 := ⟨_, rfl, by decide, (nW1 125 rfl rfl)⟩
theorem fk_1_16 : nF 1 16 1 3 := ⟨_, rfl, by decide, (nW1 126 rfl rfl)⟩
theorem fk_7_11 : nF 7 11 7 0 := ⟨_, rfl, by decide, (nW1 137 rfl rfl)⟩
theorem fk_7_61 : nF 7 61 7 1 := ⟨_, rfl, by decide, (nW1 138 rfl rfl)⟩
theorem fk_7_15 : nF 7 15 7 2 := ⟨_, rfl, by decide, (nW1 139 rfl rfl)⟩
theorem fk_7_19 : nF 7 19 7 3 := ⟨_, rfl, by decide, (nW1 140 rfl rfl)⟩
theorem fk_7_26 : nF 7 26 7 4 := ⟨_, rfl, by decide, (nW1 141 rfl rfl)⟩
theorem fk_7_30 : nF 7 30 7 5 := ⟨_, rfl, by decide, (nW1 142 rfl rfl)⟩
theorem fk_7_36 : nF 7 36 7 6 := ⟨_, rfl, by decide, (nW1 143 rfl rfl)⟩
theorem fk_7_43 : nF 7 43 7 7 := ⟨_, rfl, by decide, (nW1 144 rfl rfl)⟩
theorem fk_7_50 : nF 7 50 7 8 := ⟨_, rfl, by decide, (nW1 145 rfl rfl)⟩
theorem fk_7_57 : nF 7 57 7 9 := ⟨_, rfl, by decide, (nW1 146 rfl rfl)⟩
theorem fk_2_28 : nF 2 28 2 0 := ⟨_, rfl, by decide, (nW1 183 rfl rfl)⟩
theorem fk_7_165 : nF 7 165 2 0 := ⟨_, rfl, by decide, (nW1 184 rfl rfl)⟩
theorem fk_2_31 : nF 2 31 2 1 := ⟨_, rfl, by decide, (nW1 185 rfl rfl)⟩
theorem fk_1_72 : nF 1 72 2 1 := ⟨_, rfl, by decide, (nW1 186 rfl rfl)⟩
theorem fk_7_168 : nF 7 168 2 1 := ⟨_, rfl, by decide, (nW1 187 rfl rfl)⟩
theorem fk_2_9 : nF 2 9 2 2 := ⟨_, rfl, by decide, (nW1 188 rfl rfl)⟩
theorem fk_7_171 : nF 7 171 2 2 := ⟨_, rfl, by decide, (nW1 189 rfl rfl)⟩
theorem fk_2_15 : nF 2 15 2 3 := ⟨_, rfl, by decide, (nW1 190 rfl rfl)⟩
theorem fk_7_174 : nF 7 174 2 3 := ⟨_, rfl, by decide, (nW1 191 rfl rfl)⟩
theorem fk_2_20 : nF 2 20 2 4 := ⟨_, rfl, by decide, (nW1 192 rfl rfl)⟩
theorem fk_2_34 : nF 2 34 2 5 := ⟨_, rfl, by decide, (nW1 193 rfl rfl)⟩
theorem fk_1_34 : nF 1 34 2 5 := ⟨_, rfl, by decide, (nW1 194 rfl rfl)⟩
theorem fk_7_162 : nF 7 162 2 5 := ⟨_, rfl, by decide, (nW1 195 rfl rfl)⟩
theorem fk_2_24 : nF 2 24 2 6 := ⟨_, rfl, by decide, (nW1 196 rfl rfl)⟩
theorem fk_1_27 : nF 1 27 2 6 := ⟨_, rfl, by decide, (nW1 197 rfl rfl)⟩
theorem fk_7_242 : nF 7 242 2 6 := ⟨_, rfl, by decide, (nW1 198 rfl rfl)⟩
theorem fk_3_30 : nF 3 30 3 0 := ⟨_, rfl, by decide, (nW1 220 rfl rfl)⟩
theorem fk_4_15 : nF 4 15 3 0 := ⟨_, rfl, by decide, (nW1 221 rfl rfl)⟩
theorem fk_1_57 : nF 1 57 3 0 := ⟨_, rfl, by decide, (nW1 222 rfl rfl)⟩
theorem fk_0_78 : nF 0 78 3 0 := ⟨_, rfl, by decide, (nW1 223 rfl rfl)⟩
theorem fk_7_127 : nF 7 127 3 0 := ⟨_, rfl, by decide, (nW1 224 rfl rfl)⟩
theorem fk_2_70 : nF 2 70 3 0 := ⟨_, rfl, by decide, (nW1 225 rfl rfl)⟩
theorem fk_3_9 : nF 3 9 3 1 := ⟨_, rfl, by decide, (nW1 226 rfl rfl)⟩
theorem fk_4_34 : nF 4 34 3 1 := ⟨_, rfl, by decide, (nW1 227 rfl rfl)⟩
theorem fk_7_134 : nF 7 134 3 1 := ⟨_, rfl, by decide, (nW1 228 rfl rfl)⟩
theorem fk_3_15 : nF 3 15 3 2 := ⟨_, rfl, by decide, (nW1 229 rfl rfl)⟩
theorem fk_4_37 : nF 4 37 3 2 := ⟨_, rfl, by decide, (nW1 230 rfl rfl)⟩
theorem fk_7_137 : nF 7 137 3 2 := ⟨_, rfl, by decide, (nW1 231 rfl rfl)⟩
theorem fk_3_18 : nF 3 18 3 3 := ⟨_, rfl, by decide, (nW1 232 rfl rfl)⟩
theorem fk_7_156 : nF 7 156 3 3 := ⟨_, rfl, by decide, (nW1 233 rfl rfl)⟩
theorem fk_0_89 : nF 0 89 3 3 := ⟨_, rfl, by decide, (nW1 234 rfl rfl)⟩
theorem fk_3_21 : nF 3 21 3 4 := ⟨_, rfl, by decide, (nW1 235 rfl rfl)⟩
theorem fk_1_65 : nF 1 65 3 4 := ⟨_, rfl, by decide, (nW1 236 rfl rfl)⟩
theorem fk_3_24 : nF 3 24 3 5 := ⟨_, rfl, by decide, (nW1 237 rfl rfl)⟩
theorem fk_1_62 : nF 1 62 3 5 := ⟨_, rfl, by decide, (nW1 238 rfl rfl)⟩
theorem fk_7_140 : nF 7 140 3 5 := ⟨_, rfl, by decide, (nW1 239 rfl rfl)⟩
theorem fk_2_103 : nF 2 103 3 5 := ⟨_, rfl, by decide, (nW2 0 rfl rfl)⟩
theorem fk_3_27 : nF 3 27 3 6 := ⟨_, rfl, by decide, (nW2 1 rfl rfl)⟩
theorem fk_7_143 : nF 7 143 3 6 := ⟨_, rfl, by decide, (nW2 2 rfl rfl)⟩
theorem fk_2_90 : nF 2 90 3 6 := ⟨_, rfl, by decide, (nW2 3 rfl rfl)⟩
theorem fk_8_88 : nF 8 88 8 1 := ⟨_, rfl, by decide, (nW3 206 rfl rfl)⟩
theorem fk_8_13 : nF 8 13 8 2 := ⟨_, rfl, by decide, (nW3 207 rfl rfl)⟩
theorem fk_8_17 : nF 8 17 8 3 := ⟨_, rfl, by decide, (nW3 208 rfl rfl)⟩
theorem fk_8_20 : nF 8 20 8 4 := ⟨_, rfl, by decide, (nW3 209 rfl rfl)⟩
theorem fk_8_23 : nF 8 23 8 5 := ⟨_, rfl, by decide, (nW3 210 rfl rfl)⟩
theorem fk_8_26 : nF 8 26 8 6 := ⟨_, rfl, by decide, (nW3 211 rfl rfl)⟩
theorem fk_8_29 : nF 8 29 8 7 := ⟨_, rfl, by decide, (nW3 212 rfl rfl)⟩
theorem fk_8_32 : nF 8 32 8 8 := ⟨_, rfl, by decide, (nW3 213 rfl rfl)⟩
theorem fk_8_35 : nF 8 35 8 9 := ⟨_, rfl, by decide, (nW3 214 rfl rfl)⟩
theorem fk_8_39 : nF 8 39 8 10 := ⟨_, rfl, by decide, (nW3 215 rfl rfl)⟩
theorem fk_8_42 : nF 8 42 8 11 := ⟨_, rfl, by decide, (nW3 216 rfl rfl)⟩
theorem fk_8_45 : nF 8 45 8 12 := ⟨_, rfl, by decide, (nW3 217 rfl rfl)⟩
theorem fk_8_48 : nF 8 48 8 13 := ⟨_, rfl, by decide, (nW3 218 rfl rfl)⟩
theorem fk_8_51 : nF 8 51 8 14 := ⟨_, rfl, by decide, (nW3 219 rfl rfl)⟩
theorem fk_8_54 : nF 8 54 8 15 := ⟨_, rfl, by decide, (nW3 220 rfl rfl)⟩
theorem fk_8_85 : nF 8 85 8 16 := ⟨_, rfl, by decide, (nW3 221 rfl rfl)⟩
theorem fk_8_57 : nF 8 57 8 17 := ⟨_, rfl, by decide, (nW3 222 rfl rfl)⟩
theorem fk_8_60 : nF 8 60 8 18 := ⟨_, rfl, by decide, (nW3 223 rfl rfl)⟩
theorem fk_8_63 : nF 8 63 8 19 := ⟨_, rfl, by decide, (nW3 224 rfl rfl)⟩
theorem fk_8_152 : nF 8 152 8 20 := ⟨_, rfl, by decide, (nW3 225 rfl rfl)⟩
theorem fk_8_155 : nF 8 155 8 21 := ⟨_, rfl, by decide, (nW3 226 rfl rfl)⟩
theorem fk_8_162 : nF 8 162 8 22 := ⟨_, rfl, by decide, (nW3 227 rfl rfl)⟩
theorem fk_8_166 : nF 8 166 8 23 := ⟨_, rfl, by decide, (nW3 228 rfl rfl)⟩
theorem fk_8_169 : nF 8 169 8 24 := ⟨_, rfl, by decide, (nW3 229 rfl rfl)⟩
theorem fk_8_175 : nF 8 175 8 25 := ⟨_, rfl, by decide, (nW3 230 rfl rfl)⟩
theorem fk_8_66 : nF 8 66 8 26 := ⟨_, rfl, by decide, (nW3 231 rfl rfl)⟩
theorem fk_8_69 : nF 8 69 8 27 := ⟨_, rfl, by decide, (nW3 232 rfl rfl)⟩
theorem fk_8_181 : nF 8 181 8 28 := ⟨_, rfl, by decide, (nW3 233 rfl rfl)⟩
theorem fk_8_72 : nF 8 72 8 29 := ⟨_, rfl, by decide, (nW3 234 rfl rfl)⟩
theorem fk_8_75 : nF 8 75 8 30 := ⟨_, rfl, by decide, (nW3 235 rfl rfl)⟩
theorem fk_8_197 : nF 8 197 8 31 := ⟨_, rfl, by decide, (nW3 236 rfl rfl)⟩
theorem fk_8_200 : nF 8 200 8 32 := ⟨_, rfl, by decide, (nW3 237 rfl rfl)⟩
theorem fk_8_203 : nF 8 203 8 33 := ⟨_, rfl, by decide, (nW3 238 rfl rfl)⟩
theorem fk_8_206 : nF 8 206 8 34 := ⟨_, rfl, by decide, (nW3 239 rfl rfl)⟩
theorem fk_8_78 : nF 8 78 8 35 := ⟨_, rfl, by decide, (nW4 0 rfl rfl)⟩
theorem fk_8_81 : nF 8 81 8 36 := ⟨_, rfl, by decide, (nW4 1 rfl rfl)⟩
theorem fk_8_218 : nF 8 218 8 37 := ⟨_, rfl, by decide, (nW4 2 rfl rfl)⟩
theorem fk_8_222 : nF 8 222 8 38 := ⟨_, rfl, by decide, (nW4 3 rfl rfl)⟩
theorem la_0_0 : u_lay RX0 TX0 0 ∈ nWs := (nW1 41 rfl rfl)
theorem ft_0_0 : nFt 0 0 .boolean false := fun q hq => by cases hq; exact ⟨by decide +kernel, rfl, rfl⟩
theorem la_0_1 : u_lay RX0 TX0 1 ∈ nWs := (nW1 43 rfl rfl)
theorem ft_0_1 : nFt 0 1 .int false := fun q hq => by cases hq; exact ⟨by decide +kernel, rfl, rfl⟩
theorem la_0_2 : u_lay RX0 TX0 2 ∈ nWs := (nW1 45 rfl rfl)
theorem ft_0_2 : nFt 0 2 .int false := fun q hq => by cases hq; exact ⟨by decide +kernel, rfl, rfl⟩
theorem la_0_3 : u_lay RX0 TX0 3 ∈ nWs := (nW1 47 rfl rfl)
theorem ft_0_3 : nFt 0 3 .int false := fun q hq => by cases hq; exact ⟨by decide +kernel, rfl, rfl⟩
theorem la_0_4 : u_lay RX0 TX0 4 ∈ nWs := (nW1 49 rfl rfl)
theorem ft_0_4 : nFt 0 4 (.array .int) true := fun q hq => by cases hq; exact ⟨by decide +kernel, rfl, rfl⟩
theorem la_0_5 : u_lay RX0 TX0 5 ∈ nWs := (nW1 51 rfl rfl)
theorem ft_0_5 : nFt 0 5 (.array .int) true := fun q hq => by cases hq; exact ⟨by decide +kernel, rfl, rfl⟩
theorem la_0_6 : u_lay RX0 TX0 6 ∈ nWs := (nW1 53 rfl rfl)
theorem ft_0_6 : nFt 0 6 (.array (.array .int)) true := fun q hq => by cases hq; exact ⟨by decide +kernel, rfl, rfl⟩
theorem la_0_7 : u_lay RX0 TX0 7 ∈ nWs := (nW1 55 rfl rfl)
theorem ft_0_7 : nFt 0 7 (.array .int) true := fun q hq => by cases hq; exact ⟨by decide +kernel, rfl, rfl⟩
theorem la_0_8 : u_lay RX0 TX0 8 ∈ nWs := (nW1 57 rfl rfl)
theorem ft_0_8 : nFt 0 8 .int false := fun q hq => by cases hq; exact ⟨by decide +kernel, rfl, rfl⟩
theorem cz_0 : nCo 0 := fun q hq => by
  cases hq
  refine ⟨fun w hw => ?_, nmX0, tyX0, tyX0_ok⟩
  obtain ⟨k, hk, rfl⟩ := List.mem_map.mp hw
  have hk := List.mem_range.mp hk
  match k, hk with
  | 0, _ => exact la_0_0
  | 1, _ => exact la_0_1
  | 2, _ => exact la_0_2
  | 3, _ => exact la_0_3
  | 4, _ => exact la_0_4
  | 5, _ => exact la_0_5
  | 6, _ => exact la_0_6
  | 7, _ => exact la_0_7
  | 8, _ => exact la_0_8
  | k + 9, hk => exact absurd (show k + 9 < 9 from hk) (by omega)
theorem la_1_0 : u_lay RX1 TX1 0 ∈ nWs := (nW1 127 rfl rfl)
theorem ft_1_0 : nFt 1 0 .long false := fun q hq => by cases hq; exact ⟨by decide +kernel, rfl, rfl⟩
theorem la_1_1 : u_lay RX1 TX1 1 ∈ nWs := (nW1 129 rfl rfl)
theorem ft_1_1 : nFt 1 1 .long false := fun q hq => by cases hq; exact ⟨by decide +kernel, rfl, rfl⟩
theorem la_1_2 : u_lay RX1 TX1 2 ∈ nWs := (nW1 131 rfl rfl)
theorem ft_1_2 : nFt 1 2 (.array (.array .long)) true := fun q hq => by cases hq; exact ⟨by decide +kernel, rfl, rfl⟩
theorem la_1_3 : u_lay RX1 TX1 3 ∈ nWs := (nW1 133 rfl rfl)
theorem ft_1_3 : nFt 1 3 (.array .int) true := fun q hq => by cases hq; exact ⟨by decide +kernel, rfl, rfl⟩
theorem cz_1 : nCo 1 := fun q hq => by
  cases hq
  refine ⟨fun w hw => ?_, nmX1, tyX1, tyX1_ok⟩
  obtain ⟨k, hk, rfl⟩ := List.mem_map.mp hw
  have hk := List.mem_range.mp hk
  match k, hk with
  | 0, _ => exact la_1_0
  | 1, _ => exact la_1_1
  | 2, _ => exact la_1_2
  | 3, _ => exact la_1_3
  | k + 4, hk => exact absurd (show k + 4 < 4 from hk) (by omega)
theorem la_2_0 : u_lay RX2 TX2 0 ∈ nWs := (nW1 199 rfl rfl)
theorem ft_2_0 : nFt 2 0 .int true := fun q hq => by cases hq; exact ⟨by decide +kernel, rfl, rfl⟩
theorem la_2_1 : u_lay RX2 TX2 1 ∈ nWs := (nW1 201 rfl rfl)
theorem ft_2_1 : nFt 2 1 .int true := fun q hq => by cases hq; exact ⟨by decide +kernel, rfl, rfl⟩
theorem la_2_2 : u_lay RX2 TX2 2 ∈ nWs := (nW1 203 rfl rfl)
theorem ft_2_2 : nFt 2 2 .int false := fun q hq => by cases hq; exact ⟨by decide +kernel, rfl, rfl⟩
theorem la_2_3 : u_lay RX2 TX2 3 ∈ nWs := (nW1 205 rfl rfl)
theorem ft_2_3 : nFt 2 3 .int false := fun q hq => by cases hq; exact ⟨by decide +kernel, rfl, rfl⟩
theorem la_2_4 : u_lay RX2 TX2 4 ∈ nWs := (nW1 207 rfl rfl)
theorem ft_2_4 : nFt 2 4 (.array (.object "NetLoft$Row")) true := fun q hq => by cases hq; exact ⟨by decide +kernel, rfl, rfl⟩
theorem la_2_5 : u_lay RX2 TX2 5 ∈ nWs := (nW1 209 rfl rfl)
theorem ft_2_5 : nFt 2 5 .int false := fun q hq => by cases hq; exact ⟨by decide +kernel, rfl, rfl⟩
theorem la_2_6 : u_lay RX2 TX2 6 ∈ nWs := (nW1 211 rfl rfl)
theorem ft_2_6 : nFt 2 6 (.array .int) true := fun q hq => by cases hq; exact ⟨by decide +kernel, rfl, rfl⟩
theorem cz_2 : nCo 2 := fun q hq => by
  cases hq
  refine ⟨fun w hw => ?_, nmX2, tyX2, tyX2_ok⟩
  obtain ⟨k, hk, rfl⟩ := List.mem_map.mp hw
  have hk := List.mem_range.mp hk
  match k, hk with
  | 0, _ => exact la_2_0
  | 1, _ => exact la_2_1
  | 2, _ => exact la_2_2
  | 3, _ => exact la_2_3
  | 4, _ => exact la_2_4
  | 5, _ => exact la_2_5
  | 6, _ => exact la_2_6
  | k + 7, hk => exact absurd (show k + 7 < 7 from hk) (by omega)
theorem la_3_0 : u_lay RX3 TX3 0 ∈ nWs := (nW2 4 rfl rfl)
theorem ft_3_0 : nFt 3 0 .int false := fun q hq => by cases hq; exact ⟨by decide +kernel, rfl, rfl⟩
theorem la_3_1 : u_lay RX3 TX3 1 ∈ nWs := (nW2 6 rfl rfl)
theorem ft_3_1 : nFt 3 1 (.array .int) true := fun q hq => by cases hq; exact ⟨by decide +kernel, rfl, rfl⟩
theorem la_3_2 : u_lay RX3 TX3 2 ∈ nWs := (nW2 8 rfl rfl)
theorem ft_3_2 : nFt 3 2 (.array .int) true := fun q hq => by cases hq; exact ⟨by decide +kernel, rfl, rfl⟩
theorem la_3_3 : u_lay RX3 TX3 3 ∈ nWs := (nW2 10 rfl rfl)
theorem ft_3_3 : nFt 3 3 (.array .int) true := fun q hq => by cases hq; exact ⟨by decide +kernel, rfl, rfl⟩
theorem la_3_4 : u_lay RX3 TX3 4 ∈ nWs := (nW2 12 rfl rfl)
theorem ft_3_4 : nFt 3 4 (.array .int) true := fun q hq => by cases hq; exact ⟨by decide +kernel, rfl, rfl⟩
theorem la_3_5 : u_lay RX3 TX3 5 ∈ nWs := (nW2 14 rfl rfl)
theorem ft_3_5 : nFt 3 5 (.array .int) true := fun q hq => by cases hq; exact ⟨by decide +kernel, rfl, rfl⟩
theorem la_3_6 : u_lay RX3 TX3 6 ∈ nWs := (nW2 16 rfl rfl)
theorem ft_3_6 : nFt 3 6 (.array .int) true := fun q hq => by cases hq; exact ⟨by decide +kernel, rfl, rfl⟩
theorem cz_3 : nCo 3 := fun q hq => by
  cases hq
  refine ⟨fun w hw => ?_, nmX3, tyX3, tyX3_ok⟩
  obtain ⟨k, hk, rfl⟩ := List.mem_map.mp hw
  have hk := List.mem_range.mp hk
  match k, hk with
  | 0, _ => exact la_3_0
  | 1, _ => exact la_3_1
  | 2, _ => exact la_3_2
  | 3, _ => exact la_3_3
  | 4, _ => exact la_3_4
  | 5, _ => exact la_3_5
  | 6, _ => exact la_3_6
  | k + 7, hk => exact absurd (show k + 7 < 7 from hk) (by omega)
theorem la_4_0 : u_lay RX4 TX4 0 ∈ nWs := (nW1 107 rfl rfl)
theorem ft_4_0 : nFt 4 0 .int false := fun q hq => by cases hq; exact ⟨by decide +kernel, rfl, rfl⟩
theorem la_4_1 : u_lay RX4 TX4 1 ∈ nWs := (nW1 109 rfl rfl)
theorem ft_4_1 : nFt 4 1 (.array .int) true := fun q hq => by cases hq; exact ⟨by decide +kernel, rfl, rfl⟩
theorem cz_4 : nCo 4 := fun q hq => by
  cases hq
  refine ⟨fun w hw => ?_, nmX4, tyX4, tyX4_ok⟩
  obtain ⟨k, hk, rfl⟩ := List.mem_map.mp hw
  have hk := List.mem_range.mp hk
  match k, hk with
  | 0, _ => exact la_4_0
  | 1, _ => exact la_4_1
  | k + 2, hk => exact absurd (show k + 2 < 2 from hk) (by omega)
theorem la_5_0 : u_lay RX5 TX5 0 ∈ nWs := (nW1 90 rfl rfl)
theorem ft_5_0 : nFt 5 0 .int false := fun q hq => by cases hq; exact ⟨by decide +kernel, rfl, rfl⟩
theorem la_5_1 : u_lay RX5 TX5 1 ∈ nWs := (nW1 92 rfl rfl)
theorem ft_5_1 : nFt 5 1 .int false := fun q hq => by cases hq; exact ⟨by decide +kernel, rfl, rfl⟩
theorem la_5_2 : u_lay RX5 TX5 2 ∈ nWs := (nW1 94 rfl rfl)
theorem ft_5_2 : nFt 5 2 .int false := fun q hq => by cases hq; exact ⟨by decide +kernel, rfl, rfl⟩
theorem cz_5 : nCo 5 := fun q hq => by
  cases hq
  refine ⟨fun w hw => ?_, nmX5, tyX5, tyX5_ok⟩
  obtain ⟨k, hk, rfl⟩ := List.mem_map.mp hw
  have hk := List.mem_range.mp hk
  match k, hk with
  | 0, _ => exact la_5_0
  | 1, _ => exact la_5_1
  | 2, _ => exact la_5_2
  | k + 3, hk => exact absurd (show k + 3 < 3 from hk) (by omega)
theorem la_6_0 : u_lay RX6 TX6 0 ∈ nWs := (nW1 72 rfl rfl)
theorem ft_6_0 : nFt 6 0 .int false := fun q hq => by cases hq; exact ⟨by decide +kernel, rfl, rfl⟩
theorem la_6_1 : u_lay RX6 TX6 1 ∈ nWs := (nW1 74 rfl rfl)
theorem ft_6_1 : nFt 6 1 (.array .int) true := fun q hq => by cases hq; exact ⟨by decide +kernel, rfl, rfl⟩
theorem la_6_2 : u_lay RX6 TX6 2 ∈ nWs := (nW1 76 rfl rfl)
theorem ft_6_2 : nFt 6 2 (.array .int) true := fun q hq => by cases hq; exact ⟨by decide +kernel, rfl, rfl⟩
theorem la_6_3 : u_lay RX6 TX6 3 ∈ nWs := (nW1 78 rfl rfl)
theorem ft_6_3 : nFt 6 3 .int false := fun q hq => by cases hq; exact ⟨by decide +kernel, rfl, rfl⟩
theorem cz_6 : nCo 6 := fun q hq => by
  cases hq
  refine ⟨fun w hw => ?_, nmX6, tyX6, tyX6_ok⟩
  obtain ⟨k, hk, rfl⟩ := List.mem_map.mp hw
  have hk := List.mem_range.mp hk
  match k, hk with
  | 0, _ => exact la_6_0
  | 1, _ => exact la_6_1
  | 2, _ => exact la_6_2
  | 3, _ => exact la_6_3
  | k + 4, hk => exact absurd (show k + 4 < 4 from hk) (by omega)
theorem la_7_0 : u_lay RX7 TX7 0 ∈ nWs := (nW1 147 rfl rfl)
theorem ft_7_0 : nFt 7 0 (.array (.object "NetLoft$Panel")) true := fun q hq => by cases hq; exact ⟨by decide +kernel, rfl, rfl⟩
theorem la_7_1 : u_lay RX7 TX7 1 ∈ nWs := (nW1 149 rfl rfl)
theorem ft_7_1 : nFt 7 1 .int false := fun q hq => by cases hq; exact ⟨by decide +kernel, rfl, rfl⟩
theorem la_7_2 : u_lay RX7 TX7 2 ∈ nWs := (nW1 151 rfl rfl)
theorem ft_7_2 : nFt 7 2 (.array .int) true := fun q hq => by cases hq; exact ⟨by decide +kernel, rfl, rfl⟩
theorem la_7_3 : u_lay RX7 TX7 3 ∈ nWs := (nW1 153 rfl rfl)
theorem ft_7_3 : nFt 7 3 .int false := fun q hq => by cases hq; exact ⟨by decide +kernel, rfl, rfl⟩
theorem la_7_4 : u_lay RX7 TX7 4 ∈ nWs := (nW1 155 rfl rfl)
theorem ft_7_4 : nFt 7 4 (.object "NetLoft$Hole") true := fun q hq => by cases hq; exact ⟨by decide +kernel, rfl, rfl⟩
theorem la_7_5 : u_lay RX7 TX7 5 ∈ nWs := (nW1 157 rfl rfl)
theorem ft_7_5 : nFt 7 5 (.object "NetLoft$Hole") true := fun q hq => by cases hq; exact ⟨by decide +kernel, rfl, rfl⟩
theorem la_7_6 : u_lay RX7 TX7 6 ∈ nWs := (nW1 159 rfl rfl)
theorem ft_7_6 : nFt 7 6 (.object "NetLoft$Way") true := fun q hq => by cases hq; exact ⟨by decide +kernel, rfl, rfl⟩
theorem la_7_7 : u_lay RX7 TX7 7 ∈ nWs := (nW1 161 rfl rfl)
theorem ft_7_7 : nFt 7 7 (.object "NetLoft$Taper") true := fun q hq => by cases hq; exact ⟨by decide +kernel, rfl, rfl⟩
theorem la_7_8 : u_lay RX7 TX7 8 ∈ nWs := (nW1 163 rfl rfl)
theorem ft_7_8 : nFt 7 8 (.object "NetLoft$Seam") true := fun q hq => by cases hq; exact ⟨by decide +kernel, rfl, rfl⟩
theorem la_7_9 : u_lay RX7 TX7 9 ∈ nWs := (nW1 165 rfl rfl)
theorem ft_7_9 : nFt 7 9 (.object "NetLoft$Loads") true := fun q hq => by cases hq; exact ⟨by decide +kernel, rfl, rfl⟩
theorem cz_7 : nCo 7 := fun q hq => by
  cases hq
  refine ⟨fun w hw => ?_, nmX7, tyX7, tyX7_ok⟩
  obtain ⟨k, hk, rfl⟩ := List.mem_map.mp hw
  have hk := List.mem_range.mp hk
  match k, hk with
  | 0, _ => exact la_7_0
  | 1, _ => exact la_7_1
  | 2, _ => exact la_7_2
  | 3, _ => exact la_7_3
  | 4, _ => exact la_7_4
  | 5, _ => exact la_7_5
  | 6, _ => exact la_7_6
  | 7, _ => exact la_7_7
  | 8, _ => exact la_7_8
  | 9, _ => exact la_7_9
  | k + 10, hk => exact absurd (show k + 10 < 10 from hk) (by omega)
theorem la_8_0 : u_lay RX8 TX8 0 ∈ nWs := (nW4 4 rfl rfl)
theorem ft_8_0 : nFt 8 0 .int false := fun q hq => by cases hq; exact ⟨by decide +kernel, rfl, rfl⟩
theorem la_8_1 : u_lay RX8 TX8 1 ∈ nWs := (nW4 6 rfl rfl)
theorem ft_8_1 : nFt 8 1 .int false := fun q hq => by cases hq; exact ⟨by decide +kernel, rfl, rfl⟩
theorem la_8_2 : u_lay RX8 TX8 2 ∈ nWs := (nW4 8 rfl rfl)
theorem ft_8_2 : nFt 8 2 (.array .int) true := fun q hq => by cases hq; exact ⟨by decide +kernel, rfl, rfl⟩
theorem la_8_3 : u_lay RX8 TX8 3 ∈ nWs := (nW4 10 rfl rfl)
theorem ft_8_3 : nFt 8 3 (.array .int) true := fun q hq => by cases hq; exact ⟨by decide +kernel, rfl, rfl⟩
theorem la_8_4 : u_lay RX8 TX8 4 ∈ nWs := (nW4 12 rfl rfl)
theorem ft_8_4 : nFt 8 4 (.array .int) true := fun q hq => by cases hq; exact ⟨by decide +kernel, rfl, rfl⟩
theorem la_8_5 : u_lay RX8 TX8 5 ∈ nWs := (nW4 14 rfl rfl)
theorem ft_8_5 : nFt 8 5 (.array .int) true := fun q hq => by cases hq; exact ⟨by decide +kernel, rfl, rfl⟩
theorem la_8_6 : u_lay RX8 TX8 6 ∈ nWs := (nW4 16 rfl rfl)
theorem ft_8_6 : nFt 8 6 (.array .int) true := fun q hq => by cases hq; exact ⟨by decide +kernel, rfl, rfl⟩
theorem la_8_7 : u_lay RX8 TX8 7 ∈ nWs := (nW4 18 rfl rfl)
theorem ft_8_7 : nFt 8 7 (.array .int) true := fun q hq => by cases hq; exact ⟨by decide +kernel, rfl, rfl⟩
theorem la_8_8 : u_lay RX8 TX8 8 ∈ nWs := (nW4 20 rfl rfl)
theorem ft_8_8 : nFt 8 8 (.array .int) true := fun q hq => by cases hq; exact ⟨by decide +kernel, rfl, rfl⟩
theorem la_8_9 : u_lay RX8 TX8 9 ∈ nWs := (nW4 22 rfl rfl)
theorem ft_8_9 : nFt 8 9 (.array .boolean) true := fun q hq => by cases hq; exact ⟨by decide +kernel, rfl, rfl⟩
theorem la_8_10 : u_lay RX8 TX8 10 ∈ nWs := (nW4 24 rfl rfl)
theorem ft_8_10 : nFt 8 10 (.array .int) true := fun q hq => by cases hq; exact ⟨by decide +kernel, rfl, rfl⟩
theorem la_8_11 : u_lay RX8 TX8 11 ∈ nWs := (nW4 26 rfl rfl)
theorem ft_8_11 : nFt 8 11 (.array .int) true := fun q hq => by cases hq; exact ⟨by decide +kernel, rfl, rfl⟩
theorem la_8_12 : u_lay RX8 TX8 12 ∈ nWs := (nW4 28 rfl rfl)
theorem ft_8_12 : nFt 8 12 (.array .int) true := fun q hq => by cases hq; exact ⟨by decide +kernel, rfl, rfl⟩
theorem la_8_13 : u_lay RX8 TX8 13 ∈ nWs := (nW4 30 rfl rfl)
theorem ft_8_13 : nFt 8 13 (.array .int) true := fun q hq => by cases hq; exact ⟨by decide +kernel, rfl, rfl⟩
theorem la_8_14 : u_lay RX8 TX8 14 ∈ nWs := (nW4 32 rfl rfl)
theorem ft_8_14 : nFt 8 14 (.array .int) true := fun q hq => by cases hq; exact ⟨by decide +kernel, rfl, rfl⟩
theorem la_8_15 : u_lay RX8 TX8 15 ∈ nWs := (nW4 34 rfl rfl)
theorem ft_8_15 : nFt 8 15 (.array .boolean) true := fun q hq => by cases hq; exact ⟨by decide +kernel, rfl, rfl⟩
theorem la_8_16 : u_lay RX8 TX8 16 ∈ nWs := (nW4 36 rfl rfl)
theorem ft_8_16 : nFt 8 16 .int false := fun q hq => by cases hq; exact ⟨by decide +kernel, rfl, rfl⟩
theorem la_8_17 : u_lay RX8 TX8 17 ∈ nWs := (nW4 38 rfl rfl)
theorem ft_8_17 : nFt 8 17 (.array .int) true := fun q hq => by cases hq; exact ⟨by decide +kernel, rfl, rfl⟩
theorem la_8_18 : u_lay RX8 TX8 18 ∈ nWs := (nW4 40 rfl rfl)
theorem ft_8_18 : nFt 8 18 (.array .boolean) true := fun q hq => by cases hq; exact ⟨by decide +kernel, rfl, rfl⟩
theorem la_8_19 : u_lay RX8 TX8 19 ∈ nWs := (nW4 42 rfl rfl)
theorem ft_8_19 : nFt 8 19 (.array .int) true := fun q hq => by cases hq; exact ⟨by decide +kernel, rfl, rfl⟩
theorem la_8_20 : u_lay RX8 TX8 20 ∈ nWs := (nW4 44 rfl rfl)
theorem ft_8_20 : nFt 8 20 .int false := fun q hq => by cases hq; exact ⟨by decide +kernel, rfl, rfl⟩
theorem la_8_21 : u_lay RX8 TX8 21 ∈ nWs := (nW4 46 rfl rfl)
theorem ft_8_21 : nFt 8 21 .int false := fun q hq => by cases hq; exact ⟨by decide +kernel, rfl, rfl⟩
theorem la_8_22 : u_lay RX8 TX8 22 ∈ nWs := (nW4 48 rfl rfl)
theorem ft_8_22 : nFt 8 22 .boolean false := fun q hq => by cases hq; exact ⟨by decide +kernel, rfl, rfl⟩
theorem la_8_23 : u_lay RX8 TX8 23 ∈ nWs := (nW4 50 rfl rfl)
theorem ft_8_23 : nFt 8 23 .int false := fun q hq => by cases hq; exact ⟨by decide +kernel, rfl, rfl⟩
theorem la_8_24 : u_lay RX8 TX8 24 ∈ nWs := (nW4 52 rfl rfl)
theorem ft_8_24 : nFt 8 24 .int false := fun q hq => by cases hq; exact ⟨by decide +kernel, rfl, rfl⟩
theorem la_8_25 : u_lay RX8 TX8 25 ∈ nWs := (nW4 54 rfl rfl)
theorem ft_8_25 : nFt 8 25 .int false := fun q hq => by cases hq; exact ⟨by decide +kernel, rfl, rfl⟩
theorem la_8_26 : u_lay RX8 TX8 26 ∈ nWs := (nW4 56 rfl rfl)
theorem ft_8_26 : nFt 8 26 (.array .int) true := fun q hq => by cases hq; exact ⟨by decide +kernel, rfl, rfl⟩
theorem la_8_27 : u_lay RX8 TX8 27 ∈ nWs := (nW4 58 rfl rfl)
theorem ft_8_27 : nFt 8 27 (.array .boolean) true := fun q hq => by cases hq; exact ⟨by decide +kernel, rfl, rfl⟩
theorem la_8_28 : u_lay RX8 TX8 28 ∈ nWs := (nW4 60 rfl rfl)
theorem ft_8_28 : nFt 8 28 .int false := fun q hq => by cases hq; exact ⟨by decide +kernel, rfl, rfl⟩
theorem la_8_29 : u_lay RX8 TX8 29 ∈ nWs := (nW4 62 rfl rfl)
theorem ft_8_29 : nFt 8 29 (.array .int) true := fun q hq => by cases hq; exact ⟨by decide +kernel, rfl, rfl⟩
theorem la_8_30 : u_lay RX8 TX8 30 ∈ nWs := (nW4 64 rfl rfl)
theorem ft_8_30 : nFt 8 30 (.array .boolean) true := fun q hq => by cases hq; exact ⟨by decide +kernel, rfl, rfl⟩
theorem la_8_31 : u_lay RX8 TX8 31 ∈ nWs := (nW4 66 rfl rfl)
theorem ft_8_31 : nFt 8 31 .int false := fun q hq => by cases hq; exact ⟨by decide +kernel, rfl, rfl⟩
theorem la_8_32 : u_lay RX8 TX8 32 ∈ nWs := (nW4 68 rfl rfl)
theorem ft_8_32 : nFt 8 32 .int false := fun q hq => by cases hq; exact ⟨by decide +kernel, rfl, rfl⟩
theorem la_8_33 : u_lay RX8 TX8 33 ∈ nWs := (nW4 70 rfl rfl)
theorem ft_8_33 : nFt 8 33 .int false := fun q hq => by cases hq; exact ⟨by decide +kernel, rfl, rfl⟩
theorem la_8_34 : u_lay RX8 TX8 34 ∈ nWs := (nW4 72 rfl rfl)
theorem ft_8_34 : nFt 8 34 .int false := fun q hq => by cases hq; exact ⟨by decide +kernel, rfl, rfl⟩
theorem la_8_35 : u_lay RX8 TX8 35 ∈ nWs := (nW4 74 rfl rfl)
theorem ft_8_35 : nFt 8 35 (.array .int) true := fun q hq => by cases hq; exact ⟨by decide +kernel, rfl, rfl⟩
theorem la_8_36 : u_lay RX8 TX8 36 ∈ nWs := (nW4 76 rfl rfl)
theorem ft_8_36 : nFt 8 36 (.array .long) true := fun q hq => by cases hq; exact ⟨by decide +kernel, rfl, rfl⟩
theorem la_8_37 : u_lay RX8 TX8 37 ∈ nWs := (nW4 78 rfl rfl)
theorem ft_8_37 : nFt 8 37 .long false := fun q hq => by cases hq; exact ⟨by decide +kernel, rfl, rfl⟩
theorem la_8_38 : u_lay RX8 TX8 38 ∈ nWs := (nW4 80 rfl rfl)
theorem ft_8_38 : nFt 8 38 .long false := fun q hq => by cases hq; exact ⟨by decide +kernel, rfl, rfl⟩
theorem cz_8 : nCo 8 := fun q hq => by
  cases hq
  refine ⟨fun w hw => ?_, nmX8, tyX8, tyX8_ok⟩
  obtain ⟨k, hk, rfl⟩ := List.mem_map.mp hw
  have hk := List.mem_range.mp hk
  match k, hk with
  | 0, _ => exact la_8_0
  | 1, _ => exact la_8_1
  | 2, _ => exact la_8_2
  | 3, _ => exact la_8_3
  | 4, _ => exact la_8_4
  | 5, _ => exact la_8_5
  | 6, _ => exact la_8_6
  | 7, _ => exact la_8_7
  | 8, _ => exact la_8_8
  | 9, _ => exact la_8_9
  | 10, _ => exact la_8_10
  | 11, _ => exact la_8_11
  | 12, _ => exact la_8_12
  | 13, _ => exact la_8_13
  | 14, _ => exact la_8_14
  | 15, _ => exact la_8_15
  | 16, _ => exact la_8_16
  | 17, _ => exact la_8_17
  | 18, _ => exact la_8_18
  | 19, _ => exact la_8_19
  | 20, _ => exact la_8_20
  | 21, _ => exact la_8_21
  | 22, _ => exact la_8_22
  | 23, _ => exact la_8_23
  | 24, _ => exact la_8_24
  | 25, _ => exact la_8_25
  | 26, _ => exact la_8_26
  | 27, _ => exact la_8_27
  | 28, _ => exact la_8_28
  | 29, _ => exact la_8_29
  | 30, _ => exact la_8_30
  | 31, _ => exact la_8_31
  | 32, _ => exact la_8_32
  | 33, _ => exact la_8_33
  | 34, _ => exact la_8_34
  | 35, _ => exact la_8_35
  | 36, _ => exact la_8_36
  | 37, _ => exact la_8_37
  | 38, _ => exact la_8_38
  | k + 39, hk => exact absurd (show k + 39 < 39 from hk) (by omega)
theorem co_all : ∀ c, nCo c
  | 0 => cz_0
  | 1 => cz_1
  | 2 => cz_2
  | 3 => cz_3
  | 4 => cz_4
  | 5 => cz_5
  | 6 => cz_6
  | 7 => cz_7
  | 8 => cz_8
  | c + 9 => fun q hq => by simp at hq
theorem mo_X0_init : nMo YX0_init 0 := ⟨(nW1 27 rfl rfl), (nW1 2 rfl rfl), ⟨by decide +kernel, by decide +kernel⟩, by decide +kernel⟩
theorem ii_X0_init : nIi YX0_init := ⟨(nW1 26 rfl rfl), rfl⟩
theorem mo_X0_trace : nMo YX0_trace 3 := ⟨(nW2 216 rfl rfl), (nW1 2 rfl rfl), ⟨by decide +kernel, by decide +kernel⟩, by decide +kernel⟩
theorem vi_X0_trace : nVi YX0_trace := ⟨(nW2 214 rfl rfl), (nW2 215 rfl rfl)⟩
theorem mo_X0_clear : nMo YX0_clear 0 := ⟨(nW2 220 rfl rfl), (nW1 2 rfl rfl), ⟨by decide +kernel, by decide +kernel⟩, by decide +kernel⟩
theorem vi_X0_clear : nVi YX0_clear := ⟨(nW2 219 rfl rfl), (nWp 3 (by decide +kernel) rfl)⟩
theorem mo_X0_reach : nMo YX0_reach 2 := ⟨(nW2 225 rfl rfl), (nW1 2 rfl rfl), ⟨by decide +kernel, by decide +kernel⟩, by decide +kernel⟩
theorem vi_X0_reach : nVi YX0_reach := ⟨(nW2 224 rfl rfl), (nWp 4 (by decide +kernel) rfl)⟩
theorem mo_X0_reachFrom : nMo YX0_reachFrom 3 := ⟨(nW2 230 rfl rfl), (nW1 2 rfl rfl), ⟨by decide +kernel, by decide +kernel⟩, by decide +kernel⟩
theorem vi_X0_reachFrom : nVi YX0_reachFrom := ⟨(nW2 229 rfl rfl), (nWp 5 (by decide +kernel) rfl)⟩
theorem mo_X0_listReached : nMo YX0_listReached 1 := ⟨(nW2 236 rfl rfl), (nW1 2 rfl rfl), ⟨by decide +kernel, by decide +kernel⟩, by decide +kernel⟩
theorem vi_X0_listReached : nVi YX0_listReached := ⟨(nW2 235 rfl rfl), (nWp 6 (by decide +kernel) rfl)⟩
theorem mo_X0_twines : nMo YX0_twines 0 := ⟨(nW3 8 rfl rfl), (nW1 2 rfl rfl), ⟨by decide +kernel, by decide +kernel⟩, by decide +kernel⟩
theorem vi_X0_twines : nVi YX0_twines := ⟨(nW3 6 rfl rfl), (nW3 7 rfl rfl)⟩
theorem mo_X0_tell : nMo YX0_tell 2 := ⟨(nW3 4 rfl rfl), (nW1 2 rfl rfl), ⟨by decide +kernel, by decide +kernel⟩, by decide +kernel⟩
theorem vi_X0_tell : nVi YX0_tell := ⟨(nW3 2 rfl rfl), (nW3 3 rfl rfl)⟩
theorem mo_X0_hasNeedle : nMo YX0_hasNeedle 1 := ⟨(nW3 17 rfl rfl), (nW1 2 rfl rfl), ⟨by decide +kernel, by decide +kernel⟩, by decide +kernel⟩
theorem vi_X0_hasNeedle : nVi YX0_hasNeedle := ⟨(nW3 15 rfl rfl), (nW3 16 rfl rfl)⟩
theorem mo_X0_beginning : nMo YX0_beginning 0 := ⟨(nW3 22 rfl rfl), (nW1 2 rfl rfl), ⟨by decide +kernel, by decide +kernel⟩, by decide +kernel⟩
theorem vi_X0_beginning : nVi YX0_beginning := ⟨(nW3 20 rfl rfl), (nW3 21 rfl rfl)⟩
theorem mo_X1_init : nMo YX1_init 0 := ⟨(nW1 116 rfl rfl), (nW1 6 rfl rfl), ⟨by decide +kernel, by decide +kernel⟩, by decide +kernel⟩
theorem ii_X1_init : nIi YX1_init := ⟨(nW1 115 rfl rfl), rfl⟩
theorem mo_X1_leadDown : nMo YX1_leadDown 1 := ⟨(nW3 157 rfl rfl), (nW1 6 rfl rfl), ⟨by decide +kernel, by decide +kernel⟩, by decide +kernel⟩
theorem vi_X1_leadDown : nVi YX1_leadDown := ⟨(nW3 155 rfl rfl), (nW3 156 rfl rfl)⟩
theorem mo_X1_countWholeSides : nMo YX1_countWholeSides 1 := ⟨(nW3 163 rfl rfl), (nW1 6 rfl rfl), ⟨by decide +kernel, by decide +kernel⟩, by decide +kernel⟩
theorem vi_X1_countWholeSides : nVi YX1_countWholeSides := ⟨(nW3 162 rfl rfl), (nWp 12 (by decide +kernel) rfl)⟩
theorem mo_X1_lose : nMo YX1_lose 2 := ⟨(nW3 168 rfl rfl), (nW1 6 rfl rfl), ⟨by decide +kernel, by decide +kernel⟩, by decide +kernel⟩
theorem vi_X1_lose : nVi YX1_lose := ⟨(nW3 167 rfl rfl), (nWp 13 (by decide +kernel) rfl)⟩
theorem mo_X1_handOn : nMo YX1_handOn 2 := ⟨(nW3 172 rfl rfl), (nW1 6 rfl rfl), ⟨by decide +kernel, by decide +kernel⟩, by decide +kernel⟩
theorem vi_X1_handOn : nVi YX1_handOn := ⟨(nW3 171 rfl rfl), (nWp 14 (by decide +kernel) rfl)⟩
theorem mo_X1_inAll : nMo YX1_inAll 2 := ⟨(nW3 176 rfl rfl), (nW1 6 rfl rfl), ⟨by decide +kernel, by decide +kernel⟩, by decide +kernel⟩
theorem vi_X1_inAll : nVi YX1_inAll := ⟨(nW3 175 rfl rfl), (nWp 15 (by decide +kernel) rfl)⟩
theorem mo_X1_firstAbove : nMo YX1_firstAbove 1 := ⟨(nW3 196 rfl rfl), (nW1 6 rfl rfl), ⟨by decide +kernel, by decide +kernel⟩, by decide +kernel⟩
theorem vi_X1_firstAbove : nVi YX1_firstAbove := ⟨(nW3 194 rfl rfl), (nW3 195 rfl rfl)⟩
theorem mo_X1_isAbove : nMo YX1_isAbove 2 := ⟨(nW3 199 rfl rfl), (nW1 6 rfl rfl), ⟨by decide +kernel, by decide +kernel⟩, by decide +kernel⟩
theorem sc_X1_isAbove : nSc YX1_isAbove := (nW3 198 rfl rfl)
theorem mo_X1_term : nMo YX1_term 2 := ⟨(nW3 179 rfl rfl), (nW1 6 rfl rfl), ⟨by decide +kernel, by decide +kernel⟩, by decide +kernel⟩
theorem sc_X1_term : nSc YX1_term := (nW3 178 rfl rfl)
theorem mo_X1_commonDivisor : nMo YX1_commonDivisor 2 := ⟨(nW3 182 rfl rfl), (nW1 6 rfl rfl), ⟨by decide +kernel, by decide +kernel⟩, by decide +kernel⟩
theorem sc_X1_commonDivisor : nSc YX1_commonDivisor := (nW3 181 rfl rfl)
theorem mo_X2_init : nMo YX2_init 2 := ⟨(nW1 179 rfl rfl), (nW1 8 rfl rfl), ⟨by decide +kernel, by decide +kernel⟩, by decide +kernel⟩
theorem ii_X2_init : nIi YX2_init := ⟨(nW1 178 rfl rfl), rfl⟩
theorem mo_X2_rowAt : nMo YX2_rowAt 1 := ⟨(nW2 46 rfl rfl), (nW1 8 rfl rfl), ⟨by decide +kernel, by decide +kernel⟩, by decide +kernel⟩
theorem vi_X2_rowAt : nVi YX2_rowAt := ⟨(nW2 44 rfl rfl), (nW2 45 rfl rfl)⟩
theorem mo_X2_lastRow : nMo YX2_lastRow 0 := ⟨(nW2 42 rfl rfl), (nW1 8 rfl rfl), ⟨by decide +kernel, by decide +kernel⟩, by decide +kernel⟩
theorem vi_X2_lastRow : nVi YX2_lastRow := ⟨(nW2 40 rfl rfl), (nW2 41 rfl rfl)⟩
theorem mo_X2_rowWith : nMo YX2_rowWith 2 := ⟨(nW2 120 rfl rfl), (nW1 8 rfl rfl), ⟨by decide +kernel, by decide +kernel⟩, by decide +kernel⟩
theorem vi_X2_rowWith : nVi YX2_rowWith := ⟨(nW2 118 rfl rfl), (nW2 119 rfl rfl)⟩
theorem mo_X2_append : nMo YX2_append 1 := ⟨(nW2 22 rfl rfl), (nW1 8 rfl rfl), ⟨by decide +kernel, by decide +kernel⟩, by decide +kernel⟩
theorem vi_X2_append : nVi YX2_append := ⟨(nW2 20 rfl rfl), (nW2 21 rfl rfl)⟩
theorem mo_X2_appendCopies : nMo YX2_appendCopies 1 := ⟨(nW3 86 rfl rfl), (nW1 8 rfl rfl), ⟨by decide +kernel, by decide +kernel⟩, by decide +kernel⟩
theorem vi_X2_appendCopies : nVi YX2_appendCopies := ⟨(nW3 84 rfl rfl), (nW3 85 rfl rfl)⟩
theorem mo_X2_hangRow : nMo YX2_hangRow 0 := ⟨(nW2 38 rfl rfl), (nW1 8 rfl rfl), ⟨by decide +kernel, by decide +kernel⟩, by decide +kernel⟩
theorem vi_X2_hangRow : nVi YX2_hangRow := ⟨(nW2 36 rfl rfl), (nW2 37 rfl rfl)⟩
theorem mo_X2_bearsShaping : nMo YX2_bearsShaping 3 := ⟨(nW2 86 rfl rfl), (nW1 8 rfl rfl), ⟨by decide +kernel, by decide +kernel⟩, by decide +kernel⟩
theorem vi_X2_bearsShaping : nVi YX2_bearsShaping := ⟨(nW2 84 rfl rfl), (nW2 85 rfl rfl)⟩
theorem mo_X2_shapeRows : nMo YX2_shapeRows 3 := ⟨(nW2 94 rfl rfl), (nW1 8 rfl rfl), ⟨by decide +kernel, by decide +kernel⟩, by decide +kernel⟩
theorem vi_X2_shapeRows : nVi YX2_shapeRows := ⟨(nW2 92 rfl rfl), (nW2 93 rfl rfl)⟩
theorem mo_X2_goneSidesAt : nMo YX2_goneSidesAt 2 := ⟨(nW2 135 rfl rfl), (nW1 8 rfl rfl), ⟨by decide +kernel, by decide +kernel⟩, by decide +kernel⟩
theorem vi_X2_goneSidesAt : nVi YX2_goneSidesAt := ⟨(nW2 133 rfl rfl), (nW2 134 rfl rfl)⟩
theorem mo_X2_cutSidesAt : nMo YX2_cutSidesAt 2 := ⟨(nW2 186 rfl rfl), (nW1 8 rfl rfl), ⟨by decide +kernel, by decide +kernel⟩, by decide +kernel⟩
theorem vi_X2_cutSidesAt : nVi YX2_cutSidesAt := ⟨(nW2 184 rfl rfl), (nW2 185 rfl rfl)⟩
theorem mo_X2_goneAbove : nMo YX2_goneAbove 2 := ⟨(nW3 37 rfl rfl), (nW1 8 rfl rfl), ⟨by decide +kernel, by decide +kernel⟩, by decide +kernel⟩
theorem vi_X2_goneAbove : nVi YX2_goneAbove := ⟨(nW3 35 rfl rfl), (nW3 36 rfl rfl)⟩
theorem mo_X2_goneBelow : nMo YX2_goneBelow 2 := ⟨(nW3 46 rfl rfl), (nW1 8 rfl rfl), ⟨by decide +kernel, by decide +kernel⟩, by decide +kernel⟩
theorem vi_X2_goneBelow : nVi YX2_goneBelow := ⟨(nW3 44 rfl rfl), (nW3 45 rfl rfl)⟩
theorem mo_X2_totalOf : nMo YX2_totalOf 1 := ⟨(nW2 157 rfl rfl), (nW1 8 rfl rfl), ⟨by decide +kernel, by decide +kernel⟩, by decide +kernel⟩
theorem vi_X2_totalOf : nVi YX2_totalOf := ⟨(nW2 155 rfl rfl), (nW2 156 rfl rfl)⟩
theorem mo_X3_init : nMo YX3_init 1 := ⟨(nW1 218 rfl rfl), (nW1 9 rfl rfl), ⟨by decide +kernel, by decide +kernel⟩, by decide +kernel⟩
theorem ii_X3_init : nIi YX3_init := ⟨(nW1 217 rfl rfl), rfl⟩
theorem mo_X3_copied : nMo YX3_copied 0 := ⟨(nW3 90 rfl rfl), (nW1 9 rfl rfl), ⟨by decide +kernel, by decide +kernel⟩, by decide +kernel⟩
theorem vi_X3_copied : nVi YX3_copied := ⟨(nW3 88 rfl rfl), (nW3 89 rfl rfl)⟩
theorem mo_X3_has : nMo YX3_has 1 := ⟨(nW2 70 rfl rfl), (nW1 9 rfl rfl), ⟨by decide +kernel, by decide +kernel⟩, by decide +kernel⟩
theorem vi_X3_has : nVi YX3_has := ⟨(nW2 68 rfl rfl), (nW2 69 rfl rfl)⟩
theorem mo_X3_turn : nMo YX3_turn 2 := ⟨(nW2 75 rfl rfl), (nW1 9 rfl rfl), ⟨by decide +kernel, by decide +kernel⟩, by decide +kernel⟩
theorem vi_X3_turn : nVi YX3_turn := ⟨(nW2 73 rfl rfl), (nW2 74 rfl rfl)⟩
theorem mo_X3_turnEvery : nMo YX3_turnEvery 2 := ⟨(nW2 98 rfl rfl), (nW1 9 rfl rfl), ⟨by decide +kernel, by decide +kernel⟩, by decide +kernel⟩
theorem vi_X3_turnEvery : nVi YX3_turnEvery := ⟨(nW2 96 rfl rfl), (nW2 97 rfl rfl)⟩
theorem mo_X3_givenInAll : nMo YX3_givenInAll 0 := ⟨(nW2 51 rfl rfl), (nW1 9 rfl rfl), ⟨by decide +kernel, by decide +kernel⟩, by decide +kernel⟩
theorem vi_X3_givenInAll : nVi YX3_givenInAll := ⟨(nW2 49 rfl rfl), (nW2 50 rfl rfl)⟩
theorem mo_X3_giverBehind : nMo YX3_giverBehind 1 := ⟨(nW2 60 rfl rfl), (nW1 9 rfl rfl), ⟨by decide +kernel, by decide +kernel⟩, by decide +kernel⟩
theorem vi_X3_giverBehind : nVi YX3_giverBehind := ⟨(nW2 58 rfl rfl), (nW2 59 rfl rfl)⟩
theorem mo_X3_hangIn : nMo YX3_hangIn 1 := ⟨(nW2 56 rfl rfl), (nW1 9 rfl rfl), ⟨by decide +kernel, by decide +kernel⟩, by decide +kernel⟩
theorem vi_X3_hangIn : nVi YX3_hangIn := ⟨(nW2 54 rfl rfl), (nW2 55 rfl rfl)⟩
theorem mo_X3_hangInNothing : nMo YX3_hangInNothing 0 := ⟨(nW2 204 rfl rfl), (nW1 9 rfl rfl), ⟨by decide +kernel, by decide +kernel⟩, by decide +kernel⟩
theorem vi_X3_hangInNothing : nVi YX3_hangInNothing := ⟨(nW2 202 rfl rfl), (nW2 203 rfl rfl)⟩
theorem mo_X3_placeOfSide : nMo YX3_placeOfSide 2 := ⟨(nW2 131 rfl rfl), (nW1 9 rfl rfl), ⟨by decide +kernel, by decide +kernel⟩, by decide +kernel⟩
theorem vi_X3_placeOfSide : nVi YX3_placeOfSide := ⟨(nW2 129 rfl rfl), (nW2 130 rfl rfl)⟩
theorem mo_X3_hangsBy : nMo YX3_hangsBy 2 := ⟨(nW2 145 rfl rfl), (nW1 9 rfl rfl), ⟨by decide +kernel, by decide +kernel⟩, by decide +kernel⟩
theorem vi_X3_hangsBy : nVi YX3_hangsBy := ⟨(nW2 143 rfl rfl), (nW2 144 rfl rfl)⟩
theorem mo_X3_isGone : nMo YX3_isGone 2 := ⟨(nW2 141 rfl rfl), (nW1 9 rfl rfl), ⟨by decide +kernel, by decide +kernel⟩, by decide +kernel⟩
theorem vi_X3_isGone : nVi YX3_isGone := ⟨(nW2 139 rfl rfl), (nW2 140 rfl rfl)⟩
theorem mo_X3_sideIsGone : nMo YX3_sideIsGone 2 := ⟨(nW2 149 rfl rfl), (nW1 9 rfl rfl), ⟨by decide +kernel, by decide +kernel⟩, by decide +kernel⟩
theorem vi_X3_sideIsGone : nVi YX3_sideIsGone := ⟨(nW2 147 rfl rfl), (nW2 148 rfl rfl)⟩
theorem mo_X3_isWhole : nMo YX3_isWhole 2 := ⟨(nW2 190 rfl rfl), (nW1 9 rfl rfl), ⟨by decide +kernel, by decide +kernel⟩, by decide +kernel⟩
theorem vi_X3_isWhole : nVi YX3_isWhole := ⟨(nW2 188 rfl rfl), (nW2 189 rfl rfl)⟩
theorem mo_X3_setSide : nMo YX3_setSide 3 := ⟨(nW2 178 rfl rfl), (nW1 9 rfl rfl), ⟨by decide +kernel, by decide +kernel⟩, by decide +kernel⟩
theorem vi_X3_setSide : nVi YX3_setSide := ⟨(nW2 176 rfl rfl), (nW2 177 rfl rfl)⟩
theorem mo_X3_setSideTo : nMo YX3_setSideTo 3 := ⟨(nW2 195 rfl rfl), (nW1 9 rfl rfl), ⟨by decide +kernel, by decide +kernel⟩, by decide +kernel⟩
theorem vi_X3_setSideTo : nVi YX3_setSideTo := ⟨(nW2 193 rfl rfl), (nW2 194 rfl rfl)⟩
theorem mo_X3_countOver : nMo YX3_countOver 1 := ⟨(nW2 161 rfl rfl), (nW1 9 rfl rfl), ⟨by decide +kernel, by decide +kernel⟩, by decide +kernel⟩
theorem vi_X3_countOver : nVi YX3_countOver := ⟨(nW2 159 rfl rfl), (nW2 160 rfl rfl)⟩
theorem mo_X3_shareOf : nMo YX3_shareOf 2 := ⟨(nW2 165 rfl rfl), (nW1 9 rfl rfl), ⟨by decide +kernel, by decide +kernel⟩, by decide +kernel⟩
theorem vi_X3_shareOf : nVi YX3_shareOf := ⟨(nW2 164 rfl rfl), (nWp 2 (by decide +kernel) rfl)⟩
theorem mo_X4_init : nMo YX4_init 0 := ⟨(nW1 101 rfl rfl), (nW1 5 rfl rfl), ⟨by decide +kernel, by decide +kernel⟩, by decide +kernel⟩
theorem ii_X4_init : nIi YX4_init := ⟨(nW1 100 rfl rfl), rfl⟩
theorem mo_X4_join : nMo YX4_join 2 := ⟨(nW3 99 rfl rfl), (nW1 5 rfl rfl), ⟨by decide +kernel, by decide +kernel⟩, by decide +kernel⟩
theorem vi_X4_join : nVi YX4_join := ⟨(nW3 97 rfl rfl), (nW3 98 rfl rfl)⟩
theorem mo_X4_spread : nMo YX4_spread 2 := ⟨(nW3 109 rfl rfl), (nW1 5 rfl rfl), ⟨by decide +kernel, by decide +kernel⟩, by decide +kernel⟩
theorem vi_X4_spread : nVi YX4_spread := ⟨(nW3 108 rfl rfl), (nWp 9 (by decide +kernel) rfl)⟩
theorem mo_X4_giveOneEach : nMo YX4_giveOneEach 1 := ⟨(nW3 115 rfl rfl), (nW1 5 rfl rfl), ⟨by decide +kernel, by decide +kernel⟩, by decide +kernel⟩
theorem vi_X4_giveOneEach : nVi YX4_giveOneEach := ⟨(nW3 114 rfl rfl), (nWp 10 (by decide +kernel) rfl)⟩
theorem mo_X5_init : nMo YX5_init 0 := ⟨(nW1 85 rfl rfl), (nW1 4 rfl rfl), ⟨by decide +kernel, by decide +kernel⟩, by decide +kernel⟩
theorem ii_X5_init : nIi YX5_init := ⟨(nW1 84 rfl rfl), rfl⟩
theorem mo_X5_find : nMo YX5_find 2 := ⟨(nW3 67 rfl rfl), (nW1 4 rfl rfl), ⟨by decide +kernel, by decide +kernel⟩, by decide +kernel⟩
theorem vi_X5_find : nVi YX5_find := ⟨(nW3 65 rfl rfl), (nW3 66 rfl rfl)⟩
theorem mo_X5_tell : nMo YX5_tell 1 := ⟨(nW3 75 rfl rfl), (nW1 4 rfl rfl), ⟨by decide +kernel, by decide +kernel⟩, by decide +kernel⟩
theorem vi_X5_tell : nVi YX5_tell := ⟨(nW3 73 rfl rfl), (nW3 74 rfl rfl)⟩
theorem mo_X6_init : nMo YX6_init 0 := ⟨(nW1 65 rfl rfl), (nW1 3 rfl rfl), ⟨by decide +kernel, by decide +kernel⟩, by decide +kernel⟩
theorem ii_X6_init : nIi YX6_init := ⟨(nW1 64 rfl rfl), rfl⟩
theorem mo_X6_knotAt : nMo YX6_knotAt 1 := ⟨(nW3 58 rfl rfl), (nW1 3 rfl rfl), ⟨by decide +kernel, by decide +kernel⟩, by decide +kernel⟩
theorem vi_X6_knotAt : nVi YX6_knotAt := ⟨(nW3 56 rfl rfl), (nW3 57 rfl rfl)⟩
theorem mo_X6_walk : nMo YX6_walk 2 := ⟨(nW3 26 rfl rfl), (nW1 3 rfl rfl), ⟨by decide +kernel, by decide +kernel⟩, by decide +kernel⟩
theorem vi_X6_walk : nVi YX6_walk := ⟨(nW3 24 rfl rfl), (nW3 25 rfl rfl)⟩
theorem mo_X6_goTo : nMo YX6_goTo 1 := ⟨(nW3 30 rfl rfl), (nW1 3 rfl rfl), ⟨by decide +kernel, by decide +kernel⟩, by decide +kernel⟩
theorem vi_X6_goTo : nVi YX6_goTo := ⟨(nW3 29 rfl rfl), (nWp 7 (by decide +kernel) rfl)⟩
theorem mo_X6_goBackFrom : nMo YX6_goBackFrom 1 := ⟨(nW3 50 rfl rfl), (nW1 3 rfl rfl), ⟨by decide +kernel, by decide +kernel⟩, by decide +kernel⟩
theorem vi_X6_goBackFrom : nVi YX6_goBackFrom := ⟨(nW3 49 rfl rfl), (nWp 8 (by decide +kernel) rfl)⟩
theorem mo_X6_mendOneFrom : nMo YX6_mendOneFrom 3 := ⟨(nW3 33 rfl rfl), (nW1 3 rfl rfl), ⟨by decide +kernel, by decide +kernel⟩, by decide +kernel⟩
theorem sc_X6_mendOneFrom : nSc YX6_mendOneFrom := (nW3 32 rfl rfl)
theorem mo_X6_makeWhole : nMo YX6_makeWhole 3 := ⟨(nW3 41 rfl rfl), (nW1 3 rfl rfl), ⟨by decide +kernel, by decide +kernel⟩, by decide +kernel⟩
theorem sc_X6_makeWhole : nSc YX6_makeWhole := (nW3 40 rfl rfl)
theorem mo_X7_init : nMo YX7_init 0 := ⟨(nW1 17 rfl rfl), (nW1 1 rfl rfl), ⟨by decide +kernel, by decide +kernel⟩, by decide +kernel⟩
theorem ii_X7_init : nIi YX7_init := ⟨(nW1 16 rfl rfl), rfl⟩
theorem mo_X7_panel : nMo YX7_panel 3 := ⟨(nW1 171 rfl rfl), (nW1 1 rfl rfl), ⟨by decide +kernel, by decide +kernel⟩, by decide +kernel⟩
theorem vi_X7_panel : nVi YX7_panel := ⟨(nW1 169 rfl rfl), (nW1 170 rfl rfl)⟩
theorem mo_X7_row : nMo YX7_row 1 := ⟨(nW2 30 rfl rfl), (nW1 1 rfl rfl), ⟨by decide +kernel, by decide +kernel⟩, by decide +kernel⟩
theorem vi_X7_row : nVi YX7_row := ⟨(nW2 28 rfl rfl), (nW2 29 rfl rfl)⟩
theorem mo_X7_kind : nMo YX7_kind 3 := ⟨(nW2 65 rfl rfl), (nW1 1 rfl rfl), ⟨by decide +kernel, by decide +kernel⟩, by decide +kernel⟩
theorem vi_X7_kind : nVi YX7_kind := ⟨(nW2 63 rfl rfl), (nW2 64 rfl rfl)⟩
theorem mo_X7_shape : nMo YX7_shape 4 := ⟨(nW2 79 rfl rfl), (nW1 1 rfl rfl), ⟨by decide +kernel, by decide +kernel⟩, by decide +kernel⟩
theorem vi_X7_shape : nVi YX7_shape := ⟨(nW2 77 rfl rfl), (nW2 78 rfl rfl)⟩
theorem mo_X7_ahead : nMo YX7_ahead 4 := ⟨(nW2 104 rfl rfl), (nW1 1 rfl rfl), ⟨by decide +kernel, by decide +kernel⟩, by decide +kernel⟩
theorem vi_X7_ahead : nVi YX7_ahead := ⟨(nW2 102 rfl rfl), (nW2 103 rfl rfl)⟩
theorem mo_X7_meshes : nMo YX7_meshes 2 := ⟨(nW2 111 rfl rfl), (nW1 1 rfl rfl), ⟨by decide +kernel, by decide +kernel⟩, by decide +kernel⟩
theorem vi_X7_meshes : nVi YX7_meshes := ⟨(nW2 109 rfl rfl), (nW2 110 rfl rfl)⟩
theorem mo_X7_of : nMo YX7_of 4 := ⟨(nW2 116 rfl rfl), (nW1 1 rfl rfl), ⟨by decide +kernel, by decide +kernel⟩, by decide +kernel⟩
theorem vi_X7_of : nVi YX7_of := ⟨(nW2 114 rfl rfl), (nW2 115 rfl rfl)⟩
theorem mo_X7_panelOf : nMo YX7_panelOf 2 := ⟨(nW2 153 rfl rfl), (nW1 1 rfl rfl), ⟨by decide +kernel, by decide +kernel⟩, by decide +kernel⟩
theorem vi_X7_panelOf : nVi YX7_panelOf := ⟨(nW2 151 rfl rfl), (nW2 152 rfl rfl)⟩
theorem mo_X7_count : nMo YX7_count 1 := ⟨(nW2 170 rfl rfl), (nW1 1 rfl rfl), ⟨by decide +kernel, by decide +kernel⟩, by decide +kernel⟩
theorem vi_X7_count : nVi YX7_count := ⟨(nW2 168 rfl rfl), (nW2 169 rfl rfl)⟩
theorem mo_X7_side : nMo YX7_side 5 := ⟨(nW2 174 rfl rfl), (nW1 1 rfl rfl), ⟨by decide +kernel, by decide +kernel⟩, by decide +kernel⟩
theorem vi_X7_side : nVi YX7_side := ⟨(nW2 172 rfl rfl), (nW2 173 rfl rfl)⟩
theorem mo_X7_cut : nMo YX7_cut 3 := ⟨(nW2 182 rfl rfl), (nW1 1 rfl rfl), ⟨by decide +kernel, by decide +kernel⟩, by decide +kernel⟩
theorem vi_X7_cut : nVi YX7_cut := ⟨(nW2 180 rfl rfl), (nW2 181 rfl rfl)⟩
theorem mo_X7_tear : nMo YX7_tear 2 := ⟨(nW2 200 rfl rfl), (nW1 1 rfl rfl), ⟨by decide +kernel, by decide +kernel⟩, by decide +kernel⟩
theorem vi_X7_tear : nVi YX7_tear := ⟨(nW2 198 rfl rfl), (nW2 199 rfl rfl)⟩
theorem mo_X7_needle : nMo YX7_needle 4 := ⟨(nW2 208 rfl rfl), (nW1 1 rfl rfl), ⟨by decide +kernel, by decide +kernel⟩, by decide +kernel⟩
theorem vi_X7_needle : nVi YX7_needle := ⟨(nW2 206 rfl rfl), (nW2 207 rfl rfl)⟩
theorem mo_X7_hole : nMo YX7_hole 3 := ⟨(nW2 212 rfl rfl), (nW1 1 rfl rfl), ⟨by decide +kernel, by decide +kernel⟩, by decide +kernel⟩
theorem vi_X7_hole : nVi YX7_hole := ⟨(nW2 210 rfl rfl), (nW2 211 rfl rfl)⟩
theorem mo_X7_edge : nMo YX7_edge 2 := ⟨(nW3 0 rfl rfl), (nW1 1 rfl rfl), ⟨by decide +kernel, by decide +kernel⟩, by decide +kernel⟩
theorem vi_X7_edge : nVi YX7_edge := ⟨(nW2 238 rfl rfl), (nW2 239 rfl rfl)⟩
theorem mo_X7_mend : nMo YX7_mend 3 := ⟨(nW3 12 rfl rfl), (nW1 1 rfl rfl), ⟨by decide +kernel, by decide +kernel⟩, by decide +kernel⟩
theorem vi_X7_mend : nVi YX7_mend := ⟨(nW3 10 rfl rfl), (nW3 11 rfl rfl)⟩
theorem mo_X7_way : nMo YX7_way 1 := ⟨(nW3 54 rfl rfl), (nW1 1 rfl rfl), ⟨by decide +kernel, by decide +kernel⟩, by decide +kernel⟩
theorem vi_X7_way : nVi YX7_way := ⟨(nW3 52 rfl rfl), (nW3 53 rfl rfl)⟩
theorem mo_X7_taper : nMo YX7_taper 3 := ⟨(nW3 63 rfl rfl), (nW1 1 rfl rfl), ⟨by decide +kernel, by decide +kernel⟩, by decide +kernel⟩
theorem vi_X7_taper : nVi YX7_taper := ⟨(nW3 61 rfl rfl), (nW3 62 rfl rfl)⟩
theorem mo_X7_cycle : nMo YX7_cycle 1 := ⟨(nW3 71 rfl rfl), (nW1 1 rfl rfl), ⟨by decide +kernel, by decide +kernel⟩, by decide +kernel⟩
theorem vi_X7_cycle : nVi YX7_cycle := ⟨(nW3 69 rfl rfl), (nW3 70 rfl rfl)⟩
theorem mo_X7_sew : nMo YX7_sew 2 := ⟨(nW3 79 rfl rfl), (nW1 1 rfl rfl), ⟨by decide +kernel, by decide +kernel⟩, by decide +kernel⟩
theorem vi_X7_sew : nVi YX7_sew := ⟨(nW3 77 rfl rfl), (nW3 78 rfl rfl)⟩
theorem mo_X7_match : nMo YX7_match 1 := ⟨(nW3 121 rfl rfl), (nW1 1 rfl rfl), ⟨by decide +kernel, by decide +kernel⟩, by decide +kernel⟩
theorem vi_X7_match : nVi YX7_match := ⟨(nW3 119 rfl rfl), (nW3 120 rfl rfl)⟩
theorem mo_X7_hang : nMo YX7_hang 3 := ⟨(nW3 125 rfl rfl), (nW1 1 rfl rfl), ⟨by decide +kernel, by decide +kernel⟩, by decide +kernel⟩
theorem vi_X7_hang : nVi YX7_hang := ⟨(nW3 123 rfl rfl), (nW3 124 rfl rfl)⟩
theorem mo_X7_parts : nMo YX7_parts 1 := ⟨(nW3 129 rfl rfl), (nW1 1 rfl rfl), ⟨by decide +kernel, by decide +kernel⟩, by decide +kernel⟩
theorem vi_X7_parts : nVi YX7_parts := ⟨(nW3 127 rfl rfl), (nW3 128 rfl rfl)⟩
theorem mo_X7_part : nMo YX7_part 2 := ⟨(nW3 133 rfl rfl), (nW1 1 rfl rfl), ⟨by decide +kernel, by decide +kernel⟩, by decide +kernel⟩
theorem vi_X7_part : nVi YX7_part := ⟨(nW3 131 rfl rfl), (nW3 132 rfl rfl)⟩
theorem mo_X7_open : nMo YX7_open 1 := ⟨(nW3 137 rfl rfl), (nW1 1 rfl rfl), ⟨by decide +kernel, by decide +kernel⟩, by decide +kernel⟩
theorem vi_X7_open : nVi YX7_open := ⟨(nW3 135 rfl rfl), (nW3 136 rfl rfl)⟩
theorem mo_X7_slips : nMo YX7_slips 2 := ⟨(nW3 145 rfl rfl), (nW1 1 rfl rfl), ⟨by decide +kernel, by decide +kernel⟩, by decide +kernel⟩
theorem vi_X7_slips : nVi YX7_slips := ⟨(nW3 143 rfl rfl), (nW3 144 rfl rfl)⟩
theorem mo_X7_pull : nMo YX7_pull 3 := ⟨(nW3 149 rfl rfl), (nW1 1 rfl rfl), ⟨by decide +kernel, by decide +kernel⟩, by decide +kernel⟩
theorem vi_X7_pull : nVi YX7_pull := ⟨(nW3 147 rfl rfl), (nW3 148 rfl rfl)⟩
theorem mo_X7_load : nMo YX7_load 4 := ⟨(nW3 153 rfl rfl), (nW1 1 rfl rfl), ⟨by decide +kernel, by decide +kernel⟩, by decide +kernel⟩
theorem vi_X7_load : nVi YX7_load := ⟨(nW3 151 rfl rfl), (nW3 152 rfl rfl)⟩
theorem mo_X7_sum : nMo YX7_sum 3 := ⟨(nW3 188 rfl rfl), (nW1 1 rfl rfl), ⟨by decide +kernel, by decide +kernel⟩, by decide +kernel⟩
theorem vi_X7_sum : nVi YX7_sum := ⟨(nW3 186 rfl rfl), (nW3 187 rfl rfl)⟩
theorem mo_X7_weak : nMo YX7_weak 1 := ⟨(nW3 192 rfl rfl), (nW1 1 rfl rfl), ⟨by decide +kernel, by decide +kernel⟩, by decide +kernel⟩
theorem vi_X7_weak : nVi YX7_weak := ⟨(nW3 190 rfl rfl), (nW3 191 rfl rfl)⟩
theorem mo_X7_within : nMo YX7_within 3 := ⟨(nW1 174 rfl rfl), (nW1 1 rfl rfl), ⟨by decide +kernel, by decide +kernel⟩, by decide +kernel⟩
theorem sc_X7_within : nSc YX7_within := (nW1 173 rfl rfl)
theorem mo_X7_isRule : nMo YX7_isRule 2 := ⟨(nW2 82 rfl rfl), (nW1 1 rfl rfl), ⟨by decide +kernel, by decide +kernel⟩, by decide +kernel⟩
theorem sc_X7_isRule : nSc YX7_isRule := (nW2 81 rfl rfl)
theorem mo_X7_shapedPlaces : nMo YX7_shapedPlaces 3 := ⟨(nW2 89 rfl rfl), (nW1 1 rfl rfl), ⟨by decide +kernel, by decide +kernel⟩, by decide +kernel⟩
theorem sc_X7_shapedPlaces : nSc YX7_shapedPlaces := (nW2 88 rfl rfl)
theorem mo_X7_fitTogether : nMo YX7_fitTogether 2 := ⟨(nW3 82 rfl rfl), (nW1 1 rfl rfl), ⟨by decide +kernel, by decide +kernel⟩, by decide +kernel⟩
theorem sc_X7_fitTogether : nSc YX7_fitTogether := (nW3 81 rfl rfl)
theorem mo_X7_panelAt : nMo YX7_panelAt 1 := ⟨(nW2 34 rfl rfl), (nW1 1 rfl rfl), ⟨by decide +kernel, by decide +kernel⟩, by decide +kernel⟩
theorem vi_X7_panelAt : nVi YX7_panelAt := ⟨(nW2 33 rfl rfl), (nWp 1 (by decide +kernel) rfl)⟩
theorem mo_X7_keep : nMo YX7_keep 1 := ⟨(nW2 26 rfl rfl), (nW1 1 rfl rfl), ⟨by decide +kernel, by decide +kernel⟩, by decide +kernel⟩
theorem vi_X7_keep : nVi YX7_keep := ⟨(nW2 25 rfl rfl), (nWp 0 (by decide +kernel) rfl)⟩
theorem mo_X7_openingOf : nMo YX7_openingOf 1 := ⟨(nW3 141 rfl rfl), (nW1 1 rfl rfl), ⟨by decide +kernel, by decide +kernel⟩, by decide +kernel⟩
theorem vi_X7_openingOf : nVi YX7_openingOf := ⟨(nW3 140 rfl rfl), (nWp 11 (by decide +kernel) rfl)⟩
theorem mo_X8_init : nMo YX8_init 0 := ⟨(nW3 204 rfl rfl), (nW1 7 rfl rfl), ⟨by decide +kernel, by decide +kernel⟩, by decide +kernel⟩
theorem ii_X8_init : nIi YX8_init := ⟨(nW3 203 rfl rfl), rfl⟩
theorem mo_X8_isPanel : nMo YX8_isPanel 1 := ⟨(nW4 107 rfl rfl), (nW1 7 rfl rfl), ⟨by decide +kernel, by decide +kernel⟩, by decide +kernel⟩
theorem vi_X8_isPanel : nVi YX8_isPanel := ⟨(nW4 106 rfl rfl), (nWp 18 (by decide +kernel) rfl)⟩
theorem mo_X8_isRow : nMo YX8_isRow 2 := ⟨(nW4 127 rfl rfl), (nW1 7 rfl rfl), ⟨by decide +kernel, by decide +kernel⟩, by decide +kernel⟩
theorem vi_X8_isRow : nVi YX8_isRow := ⟨(nW4 126 rfl rfl), (nWp 22 (by decide +kernel) rfl)⟩
theorem mo_X8_isKnot : nMo YX8_isKnot 3 := ⟨(nW4 123 rfl rfl), (nW1 7 rfl rfl), ⟨by decide +kernel, by decide +kernel⟩, by decide +kernel⟩
theorem vi_X8_isKnot : nVi YX8_isKnot := ⟨(nW4 122 rfl rfl), (nWp 21 (by decide +kernel) rfl)⟩
theorem mo_X8_at : nMo YX8_at 3 := ⟨(nW4 99 rfl rfl), (nW1 7 rfl rfl), ⟨by decide +kernel, by decide +kernel⟩, by decide +kernel⟩
theorem sc_X8_at : nSc YX8_at := (nW4 98 rfl rfl)
theorem mo_X8_clears : nMo YX8_clears 2 := ⟨(nW4 96 rfl rfl), (nW1 7 rfl rfl), ⟨by decide +kernel, by decide +kernel⟩, by decide +kernel⟩
theorem vi_X8_clears : nVi YX8_clears := ⟨(nW4 95 rfl rfl), (nWp 17 (by decide +kernel) rfl)⟩
theorem mo_X8_newPanel : nMo YX8_newPanel 2 := ⟨(nW4 92 rfl rfl), (nW1 7 rfl rfl), ⟨by decide +kernel, by decide +kernel⟩, by decide +kernel⟩
theorem vi_X8_newPanel : nVi YX8_newPanel := ⟨(nW4 91 rfl rfl), (nWp 16 (by decide +kernel) rfl)⟩
theorem mo_X8_panel : nMo YX8_panel 3 := ⟨(nW4 87 rfl rfl), (nW1 7 rfl rfl), ⟨by decide +kernel, by decide +kernel⟩, by decide +kernel⟩
theorem vi_X8_panel : nVi YX8_panel := ⟨(nW4 85 rfl rfl), (nW4 86 rfl rfl)⟩
theorem mo_X8_given : nMo YX8_given 2 := ⟨(nW4 111 rfl rfl), (nW1 7 rfl rfl), ⟨by decide +kernel, by decide +kernel⟩, by decide +kernel⟩
theorem vi_X8_given : nVi YX8_given := ⟨(nW4 110 rfl rfl), (nWp 19 (by decide +kernel) rfl)⟩
theorem mo_X8_hangs : nMo YX8_hangs 2 := ⟨(nW4 115 rfl rfl), (nW1 7 rfl rfl), ⟨by decide +kernel, by decide +kernel⟩, by decide +kernel⟩
theorem vi_X8_hangs : nVi YX8_hangs := ⟨(nW4 114 rfl rfl), (nWp 20 (by decide +kernel) rfl)⟩
theorem mo_X8_row : nMo YX8_row 1 := ⟨(nW4 103 rfl rfl), (nW1 7 rfl rfl), ⟨by decide +kernel, by decide +kernel⟩, by decide +kernel⟩
theorem vi_X8_row : nVi YX8_row := ⟨(nW4 101 rfl rfl), (nW4 102 rfl rfl)⟩
theorem mo_X8_becomes : nMo YX8_becomes 2 := ⟨(nW4 131 rfl rfl), (nW1 7 rfl rfl), ⟨by decide +kernel, by decide +kernel⟩, by decide +kernel⟩
theorem vi_X8_becomes : nVi YX8_becomes := ⟨(nW4 130 rfl rfl), (nWp 23 (by decide +kernel) rfl)⟩
theorem mo_X8_kind : nMo YX8_kind 3 := ⟨(nW4 119 rfl rfl), (nW1 7 rfl rfl), ⟨by decide +kernel, by decide +kernel⟩, by decide +kernel⟩
theorem vi_X8_kind : nVi YX8_kind := ⟨(nW4 117 rfl rfl), (nW4 118 rfl rfl)⟩
theorem mo_X8_shaped : nMo YX8_shaped 3 := ⟨(nW4 138 rfl rfl), (nW1 7 rfl rfl), ⟨by decide +kernel, by decide +kernel⟩, by decide +kernel⟩
theorem sc_X8_shaped : nSc YX8_shaped := (nW4 137 rfl rfl)
theorem mo_X8_shape : nMo YX8_shape 4 := ⟨(nW4 135 rfl rfl), (nW1 7 rfl rfl), ⟨by decide +kernel, by decide +kernel⟩, by decide +kernel⟩
theorem vi_X8_shape : nVi YX8_shape := ⟨(nW4 133 rfl rfl), (nW4 134 rfl rfl)⟩
theorem mo_X8_ahead : nMo YX8_ahead 4 := ⟨(nW4 144 rfl rfl), (nW1 7 rfl rfl), ⟨by decide +kernel, by decide +kernel⟩, by decide +kernel⟩
theorem vi_X8_ahead : nVi YX8_ahead := ⟨(nW4 142 rfl rfl), (nW4 143 rfl rfl)⟩
theorem mo_X8_meshes : nMo YX8_meshes 2 := ⟨(nW4 150 rfl rfl), (nW1 7 rfl rfl), ⟨by decide +kernel, by decide +kernel⟩, by decide +kernel⟩
theorem vi_X8_meshes : nVi YX8_meshes := ⟨(nW4 148 rfl rfl), (nW4 149 rfl rfl)⟩
theorem mo_X8_hangsIn : nMo YX8_hangsIn 3 := ⟨(nW4 169 rfl rfl), (nW1 7 rfl rfl), ⟨by decide +kernel, by decide +kernel⟩, by decide +kernel⟩
theorem vi_X8_hangsIn : nVi YX8_hangsIn := ⟨(nW4 168 rfl rfl), (nWp 26 (by decide +kernel) rfl)⟩
theorem mo_X8_bits : nMo YX8_bits 1 := ⟨(nW4 157 rfl rfl), (nW1 7 rfl rfl), ⟨by decide +kernel, by decide +kernel⟩, by decide +kernel⟩
theorem sc_X8_bits : nSc YX8_bits := (nW4 156 rfl rfl)
theorem mo_X8_below : nMo YX8_below 4 := ⟨(nW4 165 rfl rfl), (nW1 7 rfl rfl), ⟨by decide +kernel, by decide +kernel⟩, by decide +kernel⟩
theorem vi_X8_below : nVi YX8_below := ⟨(nW4 164 rfl rfl), (nWp 25 (by decide +kernel) rfl)⟩
theorem mo_X8_goneAt : nMo YX8_goneAt 3 := ⟨(nW4 161 rfl rfl), (nW1 7 rfl rfl), ⟨by decide +kernel, by decide +kernel⟩, by decide +kernel⟩
theorem vi_X8_goneAt : nVi YX8_goneAt := ⟨(nW4 160 rfl rfl), (nWp 24 (by decide +kernel) rfl)⟩
theorem mo_X8_of : nMo YX8_of 4 := ⟨(nW4 154 rfl rfl), (nW1 7 rfl rfl), ⟨by decide +kernel, by decide +kernel⟩, by decide +kernel⟩
theorem vi_X8_of : nVi YX8_of := ⟨(nW4 152 rfl rfl), (nW4 153 rfl rfl)⟩
theorem mo_X8_side : nMo YX8_side 5 := ⟨(nW4 173 rfl rfl), (nW1 7 rfl rfl), ⟨by decide +kernel, by decide +kernel⟩, by decide +kernel⟩
theorem vi_X8_side : nVi YX8_side := ⟨(nW4 171 rfl rfl), (nW4 172 rfl rfl)⟩
theorem mo_X8_cut : nMo YX8_cut 3 := ⟨(nW4 177 rfl rfl), (nW1 7 rfl rfl), ⟨by decide +kernel, by decide +kernel⟩, by decide +kernel⟩
theorem vi_X8_cut : nVi YX8_cut := ⟨(nW4 175 rfl rfl), (nW4 176 rfl rfl)⟩
theorem mo_X8_tear : nMo YX8_tear 2 := ⟨(nW4 181 rfl rfl), (nW1 7 rfl rfl), ⟨by decide +kernel, by decide +kernel⟩, by decide +kernel⟩
theorem vi_X8_tear : nVi YX8_tear := ⟨(nW4 179 rfl rfl), (nW4 180 rfl rfl)⟩
theorem mo_X8_needle : nMo YX8_needle 4 := ⟨(nW4 185 rfl rfl), (nW1 7 rfl rfl), ⟨by decide +kernel, by decide +kernel⟩, by decide +kernel⟩
theorem vi_X8_needle : nVi YX8_needle := ⟨(nW4 183 rfl rfl), (nW4 184 rfl rfl)⟩
theorem mo_X8_spreads : nMo YX8_spreads 3 := ⟨(nW4 193 rfl rfl), (nW1 7 rfl rfl), ⟨by decide +kernel, by decide +kernel⟩, by decide +kernel⟩
theorem vi_X8_spreads : nVi YX8_spreads := ⟨(nW4 192 rfl rfl), (nWp 27 (by decide +kernel) rfl)⟩
theorem mo_X8_oddOnes : nMo YX8_oddOnes 1 := ⟨(nW4 197 rfl rfl), (nW1 7 rfl rfl), ⟨by decide +kernel, by decide +kernel⟩, by decide +kernel⟩
theorem vi_X8_oddOnes : nVi YX8_oddOnes := ⟨(nW4 196 rfl rfl), (nWp 28 (by decide +kernel) rfl)⟩
theorem mo_X8_hole : nMo YX8_hole 3 := ⟨(nW4 189 rfl rfl), (nW1 7 rfl rfl), ⟨by decide +kernel, by decide +kernel⟩, by decide +kernel⟩
theorem vi_X8_hole : nVi YX8_hole := ⟨(nW4 187 rfl rfl), (nW4 188 rfl rfl)⟩
theorem mo_X8_twines : nMo YX8_twines 2 := ⟨(nW4 204 rfl rfl), (nW1 7 rfl rfl), ⟨by decide +kernel, by decide +kernel⟩, by decide +kernel⟩
theorem sc_X8_twines : nSc YX8_twines := (nW4 203 rfl rfl)
theorem mo_X8_edge : nMo YX8_edge 2 := ⟨(nW4 201 rfl rfl), (nW1 7 rfl rfl), ⟨by decide +kernel, by decide +kernel⟩, by decide +kernel⟩
theorem vi_X8_edge : nVi YX8_edge := ⟨(nW4 199 rfl rfl), (nW4 200 rfl rfl)⟩
theorem mo_X8_mend : nMo YX8_mend 3 := ⟨(nW4 208 rfl rfl), (nW1 7 rfl rfl), ⟨by decide +kernel, by decide +kernel⟩, by decide +kernel⟩
theorem vi_X8_mend : nVi YX8_mend := ⟨(nW4 206 rfl rfl), (nW4 207 rfl rfl)⟩
theorem mo_X8_ties : nMo YX8_ties 4 := ⟨(nW4 220 rfl rfl), (nW1 7 rfl rfl), ⟨by decide +kernel, by decide +kernel⟩, by decide +kernel⟩
theorem vi_X8_ties : nVi YX8_ties := ⟨(nW4 219 rfl rfl), (nWp 31 (by decide +kernel) rfl)⟩
theorem mo_X8_isGone : nMo YX8_isGone 3 := ⟨(nW4 216 rfl rfl), (nW1 7 rfl rfl), ⟨by decide +kernel, by decide +kernel⟩, by decide +kernel⟩
theorem vi_X8_isGone : nVi YX8_isGone := ⟨(nW4 215 rfl rfl), (nWp 30 (by decide +kernel) rfl)⟩
theorem mo_X8_goesOn : nMo YX8_goesOn 3 := ⟨(nW4 212 rfl rfl), (nW1 7 rfl rfl), ⟨by decide +kernel, by decide +kernel⟩, by decide +kernel⟩
theorem vi_X8_goesOn : nVi YX8_goesOn := ⟨(nW4 211 rfl rfl), (nWp 29 (by decide +kernel) rfl)⟩
theorem mo_X8_reaches : nMo YX8_reaches 3 := ⟨(nW4 224 rfl rfl), (nW1 7 rfl rfl), ⟨by decide +kernel, by decide +kernel⟩, by decide +kernel⟩
theorem vi_X8_reaches : nVi YX8_reaches := ⟨(nW4 223 rfl rfl), (nWp 32 (by decide +kernel) rfl)⟩
theorem mo_X8_way : nMo YX8_way 1 := ⟨(nW4 228 rfl rfl), (nW1 7 rfl rfl), ⟨by decide +kernel, by decide +kernel⟩, by decide +kernel⟩
theorem vi_X8_way : nVi YX8_way := ⟨(nW4 226 rfl rfl), (nW4 227 rfl rfl)⟩
theorem mo_X8_taper : nMo YX8_taper 3 := ⟨(nW4 232 rfl rfl), (nW1 7 rfl rfl), ⟨by decide +kernel, by decide +kernel⟩, by decide +kernel⟩
theorem vi_X8_taper : nVi YX8_taper := ⟨(nW4 230 rfl rfl), (nW4 231 rfl rfl)⟩
theorem mo_X8_cycle : nMo YX8_cycle 1 := ⟨(nW4 236 rfl rfl), (nW1 7 rfl rfl), ⟨by decide +kernel, by decide +kernel⟩, by decide +kernel⟩
theorem vi_X8_cycle : nVi YX8_cycle := ⟨(nW4 234 rfl rfl), (nW4 235 rfl rfl)⟩
theorem mo_X8_copies : nMo YX8_copies 4 := ⟨(nW5 4 rfl rfl), (nW1 7 rfl rfl), ⟨by decide +kernel, by decide +kernel⟩, by decide +kernel⟩
theorem vi_X8_copies : nVi YX8_copies := ⟨(nW5 3 rfl rfl), (nWp 33 (by decide +kernel) rfl)⟩
theorem mo_X8_sew : nMo YX8_sew 2 := ⟨(nW5 0 rfl rfl), (nW1 7 rfl rfl), ⟨by decide +kernel, by decide +kernel⟩, by decide +kernel⟩
theorem vi_X8_sew : nVi YX8_sew := ⟨(nW4 238 rfl rfl), (nW4 239 rfl rfl)⟩
theorem mo_X8_match : nMo YX8_match 1 := ⟨(nW5 8 rfl rfl), (nW1 7 rfl rfl), ⟨by decide +kernel, by decide +kernel⟩, by decide +kernel⟩
theorem vi_X8_match : nVi YX8_match := ⟨(nW5 6 rfl rfl), (nW5 7 rfl rfl)⟩
theorem mo_X8_hang : nMo YX8_hang 3 := ⟨(nW5 12 rfl rfl), (nW1 7 rfl rfl), ⟨by decide +kernel, by decide +kernel⟩, by decide +kernel⟩
theorem vi_X8_hang : nVi YX8_hang := ⟨(nW5 10 rfl rfl), (nW5 11 rfl rfl)⟩
theorem mo_X8_parts : nMo YX8_parts 1 := ⟨(nW5 16 rfl rfl), (nW1 7 rfl rfl), ⟨by decide +kernel, by decide +kernel⟩, by decide +kernel⟩
theorem vi_X8_parts : nVi YX8_parts := ⟨(nW5 14 rfl rfl), (nW5 15 rfl rfl)⟩
theorem mo_X8_part : nMo YX8_part 2 := ⟨(nW5 20 rfl rfl), (nW1 7 rfl rfl), ⟨by decide +kernel, by decide +kernel⟩, by decide +kernel⟩
theorem vi_X8_part : nVi YX8_part := ⟨(nW5 18 rfl rfl), (nW5 19 rfl rfl)⟩
theorem mo_X8_open : nMo YX8_open 1 := ⟨(nW5 24 rfl rfl), (nW1 7 rfl rfl), ⟨by decide +kernel, by decide +kernel⟩, by decide +kernel⟩
theorem vi_X8_open : nVi YX8_open := ⟨(nW5 22 rfl rfl), (nW5 23 rfl rfl)⟩
theorem mo_X8_slips : nMo YX8_slips 2 := ⟨(nW5 28 rfl rfl), (nW1 7 rfl rfl), ⟨by decide +kernel, by decide +kernel⟩, by decide +kernel⟩
theorem vi_X8_slips : nVi YX8_slips := ⟨(nW5 26 rfl rfl), (nW5 27 rfl rfl)⟩
theorem mo_X8_sixth : nMo YX8_sixth 1 := ⟨(nW5 44 rfl rfl), (nW1 7 rfl rfl), ⟨by decide +kernel, by decide +kernel⟩, by decide +kernel⟩
theorem sc_X8_sixth : nSc YX8_sixth := (nW5 43 rfl rfl)
theorem mo_X8_leads : nMo YX8_leads 1 := ⟨(nW5 41 rfl rfl), (nW1 7 rfl rfl), ⟨by decide +kernel, by decide +kernel⟩, by decide +kernel⟩
theorem vi_X8_leads : nVi YX8_leads := ⟨(nW5 40 rfl rfl), (nWp 34 (by decide +kernel) rfl)⟩
theorem mo_X8_lowest : nMo YX8_lowest 3 := ⟨(nW5 48 rfl rfl), (nW1 7 rfl rfl), ⟨by decide +kernel, by decide +kernel⟩, by decide +kernel⟩
theorem sc_X8_lowest : nSc YX8_lowest := (nW5 47 rfl rfl)
theorem mo_X8_pull : nMo YX8_pull 3 := ⟨(nW5 33 rfl rfl), (nW1 7 rfl rfl), ⟨by decide +kernel, by decide +kernel⟩, by decide +kernel⟩
theorem vi_X8_pull : nVi YX8_pull := ⟨(nW5 31 rfl rfl), (nW5 32 rfl rfl)⟩
theorem mo_X8_load : nMo YX8_load 4 := ⟨(nW5 37 rfl rfl), (nW1 7 rfl rfl), ⟨by decide +kernel, by decide +kernel⟩, by decide +kernel⟩
theorem vi_X8_load : nVi YX8_load := ⟨(nW5 35 rfl rfl), (nW5 36 rfl rfl)⟩
theorem mo_X8_sum : nMo YX8_sum 3 := ⟨(nW5 52 rfl rfl), (nW1 7 rfl rfl), ⟨by decide +kernel, by decide +kernel⟩, by decide +kernel⟩
theorem vi_X8_sum : nVi YX8_sum := ⟨(nW5 50 rfl rfl), (nW5 51 rfl rfl)⟩
theorem mo_X8_weak : nMo YX8_weak 1 := ⟨(nW5 56 rfl rfl), (nW1 7 rfl rfl), ⟨by decide +kernel, by decide +kernel⟩, by decide +kernel⟩
theorem vi_X8_weak : nVi YX8_weak := ⟨(nW5 54 rfl rfl), (nW5 55 rfl rfl)⟩
theorem mo_X8_count : nMo YX8_count 1 := ⟨(nW5 60 rfl rfl), (nW1 7 rfl rfl), ⟨by decide +kernel, by decide +kernel⟩, by decide +kernel⟩
theorem vi_X8_count : nVi YX8_count := ⟨(nW5 58 rfl rfl), (nW5 59 rfl rfl)⟩
theorem mo_X8_panelOf : nMo YX8_panelOf 2 := ⟨(nW5 64 rfl rfl), (nW1 7 rfl rfl), ⟨by decide +kernel, by decide +kernel⟩, by decide +kernel⟩
theorem vi_X8_panelOf : nVi YX8_panelOf := ⟨(nW5 62 rfl rfl), (nW5 63 rfl rfl)⟩
theorem mo_J6_bitCount_0f7a4 : nMo YJ6_bitCount_0f7a4 1 := ⟨(nW2 124 rfl rfl), (nW1 10 rfl rfl), ⟨by decide +kernel, by decide +kernel⟩, by decide +kernel⟩
theorem sc_J6_bitCount_0f7a4 : nSc YJ6_bitCount_0f7a4 := (nW2 123 rfl rfl)
theorem mo_J9_max_7cf53 : nMo YJ9_max_7cf53 2 := ⟨(nW3 105 rfl rfl), (nW1 12 rfl rfl), ⟨by decide +kernel, by decide +kernel⟩, by decide +kernel⟩
theorem sc_J9_max_7cf53 : nSc YJ9_max_7cf53 := (nW3 104 rfl rfl)
theorem mo_J9_min_7cf53 : nMo YJ9_min_7cf53 2 := ⟨(nW3 102 rfl rfl), (nW1 12 rfl rfl), ⟨by decide +kernel, by decide +kernel⟩, by decide +kernel⟩
theorem sc_J9_min_7cf53 : nSc YJ9_min_7cf53 := (nW3 101 rfl rfl)
theorem ob_init : Cond.instanceMethod Lib.objectInit ∈ nWs ∧ Cond.code Lib.objectInit ⟨#[0xb1]⟩ 1 none ∈ nWs := ⟨(nW1 19 rfl rfl), (nW1 20 rfl rfl)⟩
theorem lk_9_9 : nLk 9 9 YX7_init := (nW1 15 rfl rfl)
theorem lk_7_3 : Cond.methodLink (cNm 7) 3 Lib.objectInit ∈ nWs := (nW1 18 rfl rfl)
theorem lk_7_25 : nLn 7 25 YX0_init := List.mem_of_getElem? (i := 0) rfl
theorem lk_0_3 : Cond.methodLink (cNm 0) 3 Lib.objectInit ∈ nWs := (nW1 28 rfl rfl)
theorem lk_7_35 : nLn 7 35 YX6_init := List.mem_of_getElem? (i := 1) rfl
theorem lk_6_3 : Cond.methodLink (cNm 6) 3 Lib.objectInit ∈ nWs := (nW1 66 rfl rfl)
theorem lk_7_42 : nLn 7 42 YX5_init := List.mem_of_getElem? (i := 2) rfl
theorem lk_5_3 : Cond.methodLink (cNm 5) 3 Lib.objectInit ∈ nWs := (nW1 86 rfl rfl)
theorem lk_7_49 : nLn 7 49 YX4_init := List.mem_of_getElem? (i := 3) rfl
theorem lk_4_3 : Cond.methodLink (cNm 4) 3 Lib.objectInit ∈ nWs := (nW1 102 rfl rfl)
theorem lk_7_56 : nLn 7 56 YX1_init := List.mem_of_getElem? (i := 4) rfl
theorem lk_1_3 : Cond.methodLink (cNm 1) 3 Lib.objectInit ∈ nWs := (nW1 117 rfl rfl)
theorem lk_9_13 : nLk 9 13 YX7_panel := (nW1 168 rfl rfl)
theorem lk_7_64 : nLk 7 64 YX7_within := (nW1 172 rfl rfl)
theorem lk_7_69 : nLk 7 69 YX2_init := (nW1 177 rfl rfl)
theorem lk_2_3 : Cond.methodLink (cNm 2) 3 Lib.objectInit ∈ nWs := (nW1 180 rfl rfl)
theorem lk_7_74 : nLk 7 74 YX3_init := (nW1 216 rfl rfl)
theorem lk_3_3 : Cond.methodLink (cNm 3) 3 Lib.objectInit ∈ nWs := (nW1 219 rfl rfl)
theorem lk_7_77 : nLk 7 77 YX2_append := (nW2 19 rfl rfl)
theorem lk_7_81 : nLk 7 81 YX7_keep := (nW2 23 rfl rfl)
theorem lk_9_18 : nLk 9 18 YX7_row := (nW2 27 rfl rfl)
theorem lk_7_85 : nLk 7 85 YX7_panelAt := (nW2 31 rfl rfl)
theorem lk_7_89 : nLk 7 89 YX2_hangRow := (nW2 35 rfl rfl)
theorem lk_2_57 : nLk 2 57 YX2_lastRow := (nW2 39 rfl rfl)
theorem lk_2_41 : nLk 2 41 YX2_rowAt := (nW2 43 rfl rfl)
theorem lk_2_37 : nLn 2 37 YX7_within := List.mem_of_getElem? (i := 5) rfl
theorem lk_2_60 : nLk 2 60 YX3_givenInAll := (nW2 48 rfl rfl)
theorem lk_2_64 : nLk 2 64 YX3_init := (nW2 52 rfl rfl)
theorem lk_2_67 : nLk 2 67 YX3_hangIn := (nW2 53 rfl rfl)
theorem lk_3_51 : nLk 3 51 YX3_giverBehind := (nW2 57 rfl rfl)
theorem lk_2_53 : nLk 2 53 YX2_append := (nW2 61 rfl rfl)
theorem lk_9_23 : nLk 9 23 YX7_kind := (nW2 62 rfl rfl)
theorem lk_7_93 : nLk 7 93 YX2_lastRow := (nW2 66 rfl rfl)
theorem lk_7_97 : nLk 7 97 YX3_has := (nW2 67 rfl rfl)
theorem lk_3_43 : nLn 3 43 YX7_within := List.mem_of_getElem? (i := 6) rfl
theorem lk_7_101 : nLk 7 101 YX3_turn := (nW2 72 rfl rfl)
theorem lk_9_28 : nLk 9 28 YX7_shape := (nW2 76 rfl rfl)
theorem lk_7_104 : nLk 7 104 YX7_isRule := (nW2 80 rfl rfl)
theorem lk_7_108 : nLk 7 108 YX2_bearsShaping := (nW2 83 rfl rfl)
theorem lk_2_73 : nLn 2 73 YX7_shapedPlaces := List.mem_of_getElem? (i := 7) rfl
theorem lk_7_111 : nLk 7 111 YX2_shapeRows := (nW2 91 rfl rfl)
theorem lk_2_79 : nLk 2 79 YX3_turnEvery := (nW2 95 rfl rfl)
theorem lk_3_47 : nLk 3 47 YX3_turn := (nW2 99 rfl rfl)
theorem lk_2_83 : nLk 2 83 YX2_hangRow := (nW2 100 rfl rfl)
theorem lk_9_33 : nLk 9 33 YX7_ahead := (nW2 101 rfl rfl)
theorem lk_7_117 : nLk 7 117 YX7_shapedPlaces := (nW2 106 rfl rfl)
theorem lk_9_38 : nLk 9 38 YX7_meshes := (nW2 108 rfl rfl)
theorem lk_7_123 : nLk 7 123 YX2_rowAt := (nW2 112 rfl rfl)
theorem lk_9_43 : nLk 9 43 YX7_of := (nW2 113 rfl rfl)
theorem lk_7_130 : nLk 7 130 YX2_rowWith := (nW2 117 rfl rfl)
theorem lk_2_45 : nLk 2 45 YX3_has := (nW2 121 rfl rfl)
theorem lk_7_146 : nLk 7 146 YJ6_bitCount_0f7a4 := (nW2 122 rfl rfl)
theorem lk_7_152 : nLk 7 152 YX3_placeOfSide := (nW2 128 rfl rfl)
theorem lk_7_159 : nLk 7 159 YX2_goneSidesAt := (nW2 132 rfl rfl)
theorem lk_2_86 : nLk 2 86 YX2_rowWith := (nW2 136 rfl rfl)
theorem lk_2_93 : nLk 2 93 YJ6_bitCount_0f7a4 := (nW2 137 rfl rfl)
theorem lk_2_99 : nLk 2 99 YX3_isGone := (nW2 138 rfl rfl)
theorem lk_3_55 : nLk 3 55 YX3_hangsBy := (nW2 142 rfl rfl)
theorem lk_3_59 : nLk 3 59 YX3_sideIsGone := (nW2 146 rfl rfl)
theorem lk_9_140 : nLk 9 140 YX7_panelOf := (nW2 150 rfl rfl)
theorem lk_7_177 : nLk 7 177 YX2_totalOf := (nW2 154 rfl rfl)
theorem lk_2_113 : nLk 2 113 YX3_countOver := (nW2 158 rfl rfl)
theorem lk_3_69 : nLk 3 69 YX3_shareOf := (nW2 162 rfl rfl)
theorem lk_3_73 : nLk 3 73 YJ6_bitCount_0f7a4 := (nW2 166 rfl rfl)
theorem lk_9_136 : nLk 9 136 YX7_count := (nW2 167 rfl rfl)
theorem lk_9_47 : nLk 9 47 YX7_side := (nW2 171 rfl rfl)
theorem lk_7_183 : nLk 7 183 YX3_setSide := (nW2 175 rfl rfl)
theorem lk_9_52 : nLk 9 52 YX7_cut := (nW2 179 rfl rfl)
theorem lk_7_187 : nLk 7 187 YX2_cutSidesAt := (nW2 183 rfl rfl)
theorem lk_2_106 : nLk 2 106 YX3_isWhole := (nW2 187 rfl rfl)
theorem lk_3_62 : nLk 3 62 YX3_isGone := (nW2 191 rfl rfl)
theorem lk_2_109 : nLk 2 109 YX3_setSideTo := (nW2 192 rfl rfl)
theorem lk_3_65 : nLk 3 65 YX3_setSide := (nW2 196 rfl rfl)
theorem lk_9_56 : nLk 9 56 YX7_tear := (nW2 197 rfl rfl)
theorem lk_7_190 : nLk 7 190 YX3_hangInNothing := (nW2 201 rfl rfl)
theorem lk_9_61 : nLk 9 61 YX7_needle := (nW2 205 rfl rfl)
theorem lk_9_66 : nLk 9 66 YX7_hole := (nW2 209 rfl rfl)
theorem lk_7_193 : nLk 7 193 YX0_trace := (nW2 213 rfl rfl)
theorem lk_0_26 : nLk 0 26 YX0_clear := (nW2 217 rfl rfl)
theorem lk_0_29 : nLk 0 29 YX2_goneSidesAt := (nW2 221 rfl rfl)
theorem lk_0_35 : nLk 0 35 YX0_reach := (nW2 222 rfl rfl)
theorem lk_0_64 : nLn 0 64 YX7_within := List.mem_of_getElem? (i := 8) rfl
theorem lk_0_43 : nLk 0 43 YX0_reachFrom := (nW2 227 rfl rfl)
theorem lk_0_68 : nLk 0 68 YX2_rowAt := (nW2 231 rfl rfl)
theorem lk_0_72 : nLk 0 72 YX3_isGone := (nW2 232 rfl rfl)
theorem lk_0_47 : nLk 0 47 YX0_listReached := (nW2 233 rfl rfl)
theorem lk_9_70 : nLk 9 70 YX7_edge := (nW2 237 rfl rfl)
theorem lk_7_198 : nLk 7 198 YX0_tell := (nW3 1 rfl rfl)
theorem lk_0_81 : nLk 0 81 YX0_twines := (nW3 5 rfl rfl)
theorem lk_9_74 : nLk 9 74 YX7_mend := (nW3 9 rfl rfl)
theorem lk_7_201 : nLk 7 201 YX0_twines := (nW3 13 rfl rfl)
theorem lk_7_204 : nLk 7 204 YX0_hasNeedle := (nW3 14 rfl rfl)
theorem lk_0_85 : nLk 0 85 YX2_rowWith := (nW3 18 rfl rfl)
theorem lk_7_208 : nLk 7 208 YX0_beginning := (nW3 19 rfl rfl)
theorem lk_7_211 : nLk 7 211 YX6_walk := (nW3 23 rfl rfl)
theorem lk_6_29 : nLk 6 29 YX6_goTo := (nW3 27 rfl rfl)
theorem lk_6_33 : nLk 6 33 YX6_mendOneFrom := (nW3 31 rfl rfl)
theorem lk_6_40 : nLk 6 40 YX2_goneAbove := (nW3 34 rfl rfl)
theorem lk_6_46 : nLk 6 46 YX2_rowAt := (nW3 38 rfl rfl)
theorem lk_6_50 : nLk 6 50 YX6_makeWhole := (nW3 39 rfl rfl)
theorem lk_6_57 : nLk 6 57 YX3_setSideTo := (nW3 42 rfl rfl)
theorem lk_6_54 : nLk 6 54 YX2_goneBelow := (nW3 43 rfl rfl)
theorem lk_6_37 : nLk 6 37 YX6_goBackFrom := (nW3 47 rfl rfl)
theorem lk_9_78 : nLk 9 78 YX7_way := (nW3 51 rfl rfl)
theorem lk_7_215 : nLk 7 215 YX6_knotAt := (nW3 55 rfl rfl)
theorem lk_6_22 : nLn 6 22 YX7_within := List.mem_of_getElem? (i := 9) rfl
theorem lk_9_82 : nLk 9 82 YX7_taper := (nW3 60 rfl rfl)
theorem lk_7_218 : nLk 7 218 YX5_find := (nW3 64 rfl rfl)
theorem lk_9_86 : nLk 9 86 YX7_cycle := (nW3 68 rfl rfl)
theorem lk_7_221 : nLk 7 221 YX5_tell := (nW3 72 rfl rfl)
theorem lk_9_90 : nLk 9 90 YX7_sew := (nW3 76 rfl rfl)
theorem lk_7_223 : nLk 7 223 YX7_fitTogether := (nW3 80 rfl rfl)
theorem lk_7_227 : nLk 7 227 YX2_appendCopies := (nW3 83 rfl rfl)
theorem lk_2_49 : nLk 2 49 YX3_copied := (nW3 87 rfl rfl)
theorem lk_3_34 : nLk 3 34 YX3_init := (nW3 92 rfl rfl)
theorem lk_3_37 : Cond.methodLink (cNm 3) 37 arraycopyName ∈ nWs := (nW3 93 rfl rfl)
theorem lk_7_231 : nLk 7 231 YX4_join := (nW3 96 rfl rfl)
theorem lk_4_21 : nLk 4 21 YJ9_min_7cf53 := (nW3 100 rfl rfl)
theorem lk_4_27 : nLk 4 27 YJ9_max_7cf53 := (nW3 103 rfl rfl)
theorem lk_4_30 : nLk 4 30 YX4_spread := (nW3 106 rfl rfl)
theorem lk_4_56 : nLn 4 56 YX7_within := List.mem_of_getElem? (i := 10) rfl
theorem lk_4_43 : Cond.methodLink (cNm 4) 43 arraycopyName ∈ nWs := (nW3 111 rfl rfl)
theorem lk_4_49 : nLk 4 49 YX4_giveOneEach := (nW3 112 rfl rfl)
theorem lk_4_60 : nLk 4 60 YX3_has := (nW3 116 rfl rfl)
theorem lk_4_53 : nLk 4 53 YX3_hangIn := (nW3 117 rfl rfl)
theorem lk_9_94 : nLk 9 94 YX7_match := (nW3 118 rfl rfl)
theorem lk_9_98 : nLk 9 98 YX7_hang := (nW3 122 rfl rfl)
theorem lk_9_102 : nLk 9 102 YX7_parts := (nW3 126 rfl rfl)
theorem lk_9_107 : nLk 9 107 YX7_part := (nW3 130 rfl rfl)
theorem lk_9_111 : nLk 9 111 YX7_open := (nW3 134 rfl rfl)
theorem lk_7_239 : nLk 7 239 YX7_openingOf := (nW3 138 rfl rfl)
theorem lk_9_115 : nLk 9 115 YX7_slips := (nW3 142 rfl rfl)
theorem lk_9_119 : nLk 9 119 YX7_pull := (nW3 146 rfl rfl)
theorem lk_9_123 : nLk 9 123 YX7_load := (nW3 150 rfl rfl)
theorem lk_7_245 : nLk 7 245 YX1_leadDown := (nW3 154 rfl rfl)
theorem lk_1_38 : nLk 1 38 YX2_rowAt := (nW3 159 rfl rfl)
theorem lk_1_42 : nLk 1 42 YX1_countWholeSides := (nW3 160 rfl rfl)
theorem lk_1_68 : nLk 1 68 YX3_sideIsGone := (nW3 164 rfl rfl)
theorem lk_1_46 : nLk 1 46 YX1_lose := (nW3 165 rfl rfl)
theorem lk_1_50 : nLk 1 50 YX1_handOn := (nW3 169 rfl rfl)
theorem lk_1_53 : nLk 1 53 YX1_inAll := (nW3 173 rfl rfl)
theorem lk_7_252 : nLk 7 252 YX1_term := (nW3 177 rfl rfl)
theorem lk_1_79 : nLk 1 79 YX1_commonDivisor := (nW3 180 rfl rfl)
theorem lk_1_83 : nLn 1 83 YX7_within := List.mem_of_getElem? (i := 11) rfl
theorem lk_9_127 : nLk 9 127 YX7_sum := (nW3 185 rfl rfl)
theorem lk_9_132 : nLk 9 132 YX7_weak := (nW3 189 rfl rfl)
theorem lk_7_263 : nLk 7 263 YX1_firstAbove := (nW3 193 rfl rfl)
theorem lk_1_75 : nLk 1 75 YX1_isAbove := (nW3 197 rfl rfl)
theorem lk_9_12 : nLk 9 12 YX8_init := (nW3 202 rfl rfl)
theorem lk_8_7 : Cond.methodLink (cNm 8) 7 Lib.objectInit ∈ nWs := (nW3 205 rfl rfl)
theorem lk_9_17 : nLk 9 17 YX8_panel := (nW4 84 rfl rfl)
theorem lk_8_104 : nLk 8 104 YX8_newPanel := (nW4 89 rfl rfl)
theorem lk_8_108 : nLk 8 108 YX8_clears := (nW4 93 rfl rfl)
theorem lk_8_99 : nLk 8 99 YX8_at := (nW4 97 rfl rfl)
theorem lk_9_22 : nLk 9 22 YX8_row := (nW4 100 rfl rfl)
theorem lk_8_91 : nLk 8 91 YX8_isPanel := (nW4 104 rfl rfl)
theorem lk_8_112 : nLk 8 112 YX8_given := (nW4 108 rfl rfl)
theorem lk_8_115 : nLk 8 115 YX8_hangs := (nW4 112 rfl rfl)
theorem lk_9_27 : nLk 9 27 YX8_kind := (nW4 116 rfl rfl)
theorem lk_8_118 : nLk 8 118 YX8_isKnot := (nW4 120 rfl rfl)
theorem lk_8_95 : nLk 8 95 YX8_isRow := (nW4 124 rfl rfl)
theorem lk_8_122 : nLk 8 122 YX8_becomes := (nW4 128 rfl rfl)
theorem lk_9_32 : nLk 9 32 YX8_shape := (nW4 132 rfl rfl)
theorem lk_8_125 : nLk 8 125 YX8_shaped := (nW4 136 rfl rfl)
theorem lk_8_131 : nLk 8 131 YX8_row := (nW4 140 rfl rfl)
theorem lk_9_37 : nLk 9 37 YX8_ahead := (nW4 141 rfl rfl)
theorem lk_9_42 : nLk 9 42 YX8_meshes := (nW4 147 rfl rfl)
theorem lk_9_46 : nLk 9 46 YX8_of := (nW4 151 rfl rfl)
theorem lk_8_142 : nLk 8 142 YX8_bits := (nW4 155 rfl rfl)
theorem lk_8_149 : nLk 8 149 YX8_goneAt := (nW4 158 rfl rfl)
theorem lk_8_145 : nLk 8 145 YX8_below := (nW4 162 rfl rfl)
theorem lk_8_139 : nLk 8 139 YX8_hangsIn := (nW4 166 rfl rfl)
theorem lk_9_51 : nLk 9 51 YX8_side := (nW4 170 rfl rfl)
theorem lk_9_55 : nLk 9 55 YX8_cut := (nW4 174 rfl rfl)
theorem lk_9_60 : nLk 9 60 YX8_tear := (nW4 178 rfl rfl)
theorem lk_9_65 : nLk 9 65 YX8_needle := (nW4 182 rfl rfl)
theorem lk_9_69 : nLk 9 69 YX8_hole := (nW4 186 rfl rfl)
theorem lk_8_158 : nLk 8 158 YX8_spreads := (nW4 190 rfl rfl)
theorem lk_8_172 : nLk 8 172 YX8_oddOnes := (nW4 194 rfl rfl)
theorem lk_9_73 : nLk 9 73 YX8_edge := (nW4 198 rfl rfl)
theorem lk_8_178 : nLk 8 178 YX8_twines := (nW4 202 rfl rfl)
theorem lk_9_77 : nLk 9 77 YX8_mend := (nW4 205 rfl rfl)
theorem lk_8_184 : nLk 8 184 YX8_goesOn := (nW4 209 rfl rfl)
theorem lk_8_187 : nLk 8 187 YX8_isGone := (nW4 213 rfl rfl)
theorem lk_8_190 : nLk 8 190 YX8_ties := (nW4 217 rfl rfl)
theorem lk_8_194 : nLk 8 194 YX8_reaches := (nW4 221 rfl rfl)
theorem lk_9_81 : nLk 9 81 YX8_way := (nW4 225 rfl rfl)
theorem lk_9_85 : nLk 9 85 YX8_taper := (nW4 229 rfl rfl)
theorem lk_9_89 : nLk 9 89 YX8_cycle := (nW4 233 rfl rfl)
theorem lk_9_93 : nLk 9 93 YX8_sew := (nW4 237 rfl rfl)
theorem lk_8_209 : nLk 8 209 YX8_copies := (nW5 1 rfl rfl)
theorem lk_9_97 : nLk 9 97 YX8_match := (nW5 5 rfl rfl)
theorem lk_9_101 : nLk 9 101 YX8_hang := (nW5 9 rfl rfl)
theorem lk_9_106 : nLk 9 106 YX8_parts := (nW5 13 rfl rfl)
theorem lk_9_110 : nLk 9 110 YX8_part := (nW5 17 rfl rfl)
theorem lk_9_114 : nLk 9 114 YX8_open := (nW5 21 rfl rfl)
theorem lk_9_118 : nLk 9 118 YX8_slips := (nW5 25 rfl rfl)
theorem lk_8_213 : nLk 8 213 YX8_open := (nW5 29 rfl rfl)
theorem lk_9_122 : nLk 9 122 YX8_pull := (nW5 30 rfl rfl)
theorem lk_9_126 : nLk 9 126 YX8_load := (nW5 34 rfl rfl)
theorem lk_8_229 : nLk 8 229 YX8_leads := (nW5 38 rfl rfl)
theorem lk_8_225 : nLk 8 225 YX8_sixth := (nW5 42 rfl rfl)
theorem lk_8_233 : nLk 8 233 YX8_lowest := (nW5 46 rfl rfl)
theorem lk_9_131 : nLk 9 131 YX8_sum := (nW5 49 rfl rfl)
theorem lk_9_135 : nLk 9 135 YX8_weak := (nW5 53 rfl rfl)
theorem lk_9_139 : nLk 9 139 YX8_count := (nW5 57 rfl rfl)
theorem lk_9_143 : nLk 9 143 YX8_panelOf := (nW5 61 rfl rfl)
theorem kl_9_7 : Cond.classLink (cNm 9) 7 "NetLoft" ∈ nWs := (nW1 13 rfl rfl)
theorem nn_9_7 : nN 9 7 7 10 := ⟨_, rfl, rfl, kl_9_7, (nW1 14 rfl rfl), (nW1 1 rfl rfl)⟩
theorem kl_7_9 : Cond.classLink (cNm 7) 9 "NetLoft$Panel" ∈ nWs := (nW1 21 rfl rfl)
theorem nn_7_9 : nN 7 9 2 7 := ⟨_, rfl, rfl, kl_7_9, (nW1 176 rfl rfl), (nW1 8 rfl rfl)⟩
theorem kl_7_23 : Cond.classLink (cNm 7) 23 "NetLoft$Hole" ∈ nWs := (nW1 23 rfl rfl)
theorem nn_7_23 : nN 7 23 0 9 := ⟨_, rfl, rfl, kl_7_23, (nW1 24 rfl rfl), (nW1 2 rfl rfl)⟩
theorem kl_0_18 : Cond.classLink (cNm 0) 18 "[[I" ∈ nWs := (nW1 29 rfl rfl)
theorem kl_7_33 : Cond.classLink (cNm 7) 33 "NetLoft$Way" ∈ nWs := (nW1 61 rfl rfl)
theorem nn_7_33 : nN 7 33 6 4 := ⟨_, rfl, rfl, kl_7_33, (nW1 62 rfl rfl), (nW1 3 rfl rfl)⟩
theorem kl_7_40 : Cond.classLink (cNm 7) 40 "NetLoft$Taper" ∈ nWs := (nW1 81 rfl rfl)
theorem nn_7_40 : nN 7 40 5 3 := ⟨_, rfl, rfl, kl_7_40, (nW1 82 rfl rfl), (nW1 4 rfl rfl)⟩
theorem kl_7_47 : Cond.classLink (cNm 7) 47 "NetLoft$Seam" ∈ nWs := (nW1 97 rfl rfl)
theorem nn_7_47 : nN 7 47 4 2 := ⟨_, rfl, rfl, kl_7_47, (nW1 98 rfl rfl), (nW1 5 rfl rfl)⟩
theorem kl_7_54 : Cond.classLink (cNm 7) 54 "NetLoft$Loads" ∈ nWs := (nW1 112 rfl rfl)
theorem nn_7_54 : nN 7 54 1 4 := ⟨_, rfl, rfl, kl_7_54, (nW1 113 rfl rfl), (nW1 6 rfl rfl)⟩
theorem kl_1_9 : Cond.classLink (cNm 1) 9 "[[J" ∈ nWs := (nW1 118 rfl rfl)
theorem kl_2_18 : Cond.classLink (cNm 2) 18 "NetLoft$Row" ∈ nWs := (nW1 181 rfl rfl)
theorem nn_2_18 : nN 2 18 3 7 := ⟨_, rfl, rfl, kl_2_18, (nW1 215 rfl rfl), (nW1 9 rfl rfl)⟩
theorem kl_7_72 : Cond.classLink (cNm 7) 72 "NetLoft$Row" ∈ nWs := (nW1 214 rfl rfl)
theorem nn_7_72 : nN 7 72 3 7 := ⟨_, rfl, rfl, kl_7_72, (nW1 215 rfl rfl), (nW1 9 rfl rfl)⟩
theorem kl_3_10 : Cond.classLink (cNm 3) 10 "NetLoft$Row" ∈ nWs := (nW3 91 rfl rfl)
theorem nn_3_10 : nN 3 10 3 7 := ⟨_, rfl, rfl, kl_3_10, (nW1 215 rfl rfl), (nW1 9 rfl rfl)⟩
theorem kl_9_10 : Cond.classLink (cNm 9) 10 "NetLoftModel" ∈ nWs := (nW3 200 rfl rfl)
theorem nn_9_10 : nN 9 10 8 39 := ⟨_, rfl, rfl, kl_9_10, (nW3 201 rfl rfl), (nW1 7 rfl rfl)⟩
theorem ct_7_68 : Cond.constant (cNm 7) 68 (1000000) ∈ nWs := (nW1 175 rfl rfl)
theorem ct_10_265 : Cond.constant (cNm 10) 265 (1431655765) ∈ nWs := (nW2 125 rfl rfl)
theorem ct_10_266 : Cond.constant (cNm 10) 266 (858993459) ∈ nWs := (nW2 126 rfl rfl)
theorem ct_10_267 : Cond.constant (cNm 10) 267 (252645135) ∈ nWs := (nW2 127 rfl rfl)
theorem ct_8_103 : Cond.constant (cNm 8) 103 (1000000) ∈ nWs := (nW4 88 rfl rfl)
theorem ct_2_77 : Cond.constantLong (cNm 2) 77 (24) ∈ nWs := (nW2 90 rfl rfl)
theorem ct_7_115 : Cond.constantLong (cNm 7) 115 (-1) ∈ nWs := (nW2 105 rfl rfl)
theorem ct_7_121 : Cond.constantLong (cNm 7) 121 (1000000000000) ∈ nWs := (nW2 107 rfl rfl)
theorem ct_1_32 : Cond.constantLong (cNm 1) 32 (609359740010496) ∈ nWs := (nW3 158 rfl rfl)
theorem ct_1_87 : Cond.constantLong (cNm 1) 87 (-1) ∈ nWs := (nW3 184 rfl rfl)
theorem ct_8_129 : Cond.constantLong (cNm 8) 129 (24) ∈ nWs := (nW4 139 rfl rfl)
theorem ct_8_135 : Cond.constantLong (cNm 8) 135 (-1) ∈ nWs := (nW4 145 rfl rfl)
theorem ct_8_137 : Cond.constantLong (cNm 8) 137 (1000000000000) ∈ nWs := (nW4 146 rfl rfl)
theorem ct_8_216 : Cond.constantLong (cNm 8) 216 (6) ∈ nWs := (nW5 45 rfl rfl)
theorem aw_int : Cond.arrayClass .int ∈ nWs := (nW1 60 rfl rfl)
theorem aw_long : Cond.arrayClass .long ∈ nWs := (nW1 136 rfl rfl)
theorem aw_boolean : Cond.arrayClass .boolean ∈ nWs := (nW4 83 rfl rfl)
theorem df_0 : nDf 0 [.int 0, .int 0, .int 0, .int 0, .null, .null, .null, .null, .int 0] := fun q hq => by
  cases hq
  refine ⟨tyX0, tyX0_ok, fun j hj => ?_⟩
  match j, hj with
  | 0, _ => rfl
  | 1, _ => rfl
  | 2, _ => rfl
  | 3, _ => rfl
  | 4, _ => rfl
  | 5, _ => rfl
  | 6, _ => rfl
  | 7, _ => rfl
  | 8, _ => rfl
  | k + 9, hj => exact absurd (show k + 9 < 9 from hj) (by omega)
theorem df_1 : nDf 1 [.long 0, .long 0, .null, .null] := fun q hq => by
  cases hq
  refine ⟨tyX1, tyX1_ok, fun j hj => ?_⟩
  match j, hj with
  | 0, _ => rfl
  | 1, _ => rfl
  | 2, _ => rfl
  | 3, _ => rfl
  | k + 4, hj => exact absurd (show k + 4 < 4 from hj) (by omega)
theorem df_2 : nDf 2 [.int 0, .int 0, .int 0, .int 0, .null, .int 0, .null] := fun q hq => by
  cases hq
  refine ⟨tyX2, tyX2_ok, fun j hj => ?_⟩
  match j, hj with
  | 0, _ => rfl
  | 1, _ => rfl
  | 2, _ => rfl
  | 3, _ => rfl
  | 4, _ => rfl
  | 5, _ => rfl
  | 6, _ => rfl
  | k + 7, hj => exact absurd (show k + 7 < 7 from hj) (by omega)
theorem df_3 : nDf 3 [.int 0, .null, .null, .null, .null, .null, .null] := fun q hq => by
  cases hq
  refine ⟨tyX3, tyX3_ok, fun j hj => ?_⟩
  match j, hj with
  | 0, _ => rfl
  | 1, _ => rfl
  | 2, _ => rfl
  | 3, _ => rfl
  | 4, _ => rfl
  | 5, _ => rfl
  | 6, _ => rfl
  | k + 7, hj => exact absurd (show k + 7 < 7 from hj) (by omega)
theorem df_4 : nDf 4 [.int 0, .null] := fun q hq => by
  cases hq
  refine ⟨tyX4, tyX4_ok, fun j hj => ?_⟩
  match j, hj with
  | 0, _ => rfl
  | 1, _ => rfl
  | k + 2, hj => exact absurd (show k + 2 < 2 from hj) (by omega)
theorem df_5 : nDf 5 [.int 0, .int 0, .int 0] := fun q hq => by
  cases hq
  refine ⟨tyX5, tyX5_ok, fun j hj => ?_⟩
  match j, hj with
  | 0, _ => rfl
  | 1, _ => rfl
  | 2, _ => rfl
  | k + 3, hj => exact absurd (show k + 3 < 3 from hj) (by omega)
theorem df_6 : nDf 6 [.int 0, .null, .null, .int 0] := fun q hq => by
  cases hq
  refine ⟨tyX6, tyX6_ok, fun j hj => ?_⟩
  match j, hj with
  | 0, _ => rfl
  | 1, _ => rfl
  | 2, _ => rfl
  | 3, _ => rfl
  | k + 4, hj => exact absurd (show k + 4 < 4 from hj) (by omega)
theorem df_7 : nDf 7 [.null, .int 0, .null, .int 0, .null, .null, .null, .null, .null, .null] := fun q hq => by
  cases hq
  refine ⟨tyX7, tyX7_ok, fun j hj => ?_⟩
  match j, hj with
  | 0, _ => rfl
  | 1, _ => rfl
  | 2, _ => rfl
  | 3, _ => rfl
  | 4, _ => rfl
  | 5, _ => rfl
  | 6, _ => rfl
  | 7, _ => rfl
  | 8, _ => rfl
  | 9, _ => rfl
  | k + 10, hj => exact absurd (show k + 10 < 10 from hj) (by omega)
theorem df_8 : nDf 8 [.int 0, .int 0, .null, .null, .null, .null, .null, .null, .null, .null, .null, .null, .null, .null, .null, .null, .int 0, .null, .null, .null, .int 0, .int 0, .int 0, .int 0, .int 0, .int 0, .null, .null, .int 0, .null, .null, .int 0, .int 0, .int 0, .int 0, .null, .null, .long 0, .long 0] := fun q hq => by
  cases hq
  refine ⟨tyX8, tyX8_ok, fun j hj => ?_⟩
  match j, hj with
  | 0, _ => rfl
  | 1, _ => rfl
  | 2, _ => rfl
  | 3, _ => rfl
  | 4, _ => rfl
  | 5, _ => rfl
  | 6, _ => rfl
  | 7, _ => rfl
  | 8, _ => rfl
  | 9, _ => rfl
  | 10, _ => rfl
  | 11, _ => rfl
  | 12, _ => rfl
  | 13, _ => rfl
  | 14, _ => rfl
  | 15, _ => rfl
  | 16, _ => rfl
  | 17, _ => rfl
  | 18, _ => rfl
  | 19, _ => rfl
  | 20, _ => rfl
  | 21, _ => rfl
  | 22, _ => rfl
  | 23, _ => rfl
  | 24, _ => rfl
  | 25, _ => rfl
  | 26, _ => rfl
  | 27, _ => rfl
  | 28, _ => rfl
  | 29, _ => rfl
  | 30, _ => rfl
  | 31, _ => rfl
  | 32, _ => rfl
  | 33, _ => rfl
  | 34, _ => rfl
  | 35, _ => rfl
  | 36, _ => rfl
  | 37, _ => rfl
  | 38, _ => rfl
  | k + 39, hj => exact absurd (show k + 39 < 39 from hj) (by omega)
end
section
theorem d_X0_init_0 : nD YX0_init 0 (.aload_n 0) 1 1 0 := ⟨by decide +kernel, rfl, rfl⟩
theorem d_X0_init_1 : nD YX0_init 1 (.invokespecial 3) 3 4 0 := ⟨by decide +kernel, rfl, rfl⟩
theorem d_X0_init_4 : nD YX0_init 4 (.aload_n 0) 1 5 0 := ⟨by decide +kernel, rfl, rfl⟩
theorem d_X0_init_5 : nD YX0_init 5 (.sipush 480) 3 8 0 := ⟨by decide +kernel, rfl, rfl⟩
theorem d_X0_init_8 : nD YX0_init 8 (.newarray .int) 2 10 0 := ⟨by decide +kernel, rfl, rfl⟩
theorem d_X0_init_10 : nD YX0_init 10 (.putfield 9) 3 13 0 := ⟨by decide +kernel, rfl, rfl⟩
theorem d_X0_init_13 : nD YX0_init 13 (.aload_n 0) 1 14 0 := ⟨by decide +kernel, rfl, rfl⟩
theorem d_X0_init_14 : nD YX0_init 14 (.sipush 480) 3 17 0 := ⟨by decide +kernel, rfl, rfl⟩
theorem d_X0_init_17 : nD YX0_init 17 (.newarray .int) 2 19 0 := ⟨by decide +kernel, rfl, rfl⟩
theorem d_X0_init_19 : nD YX0_init 19 (.putfield 15) 3 22 0 := ⟨by decide +kernel, rfl, rfl⟩
theorem d_X0_init_22 : nD YX0_init 22 (.aload_n 0) 1 23 0 := ⟨by decide +kernel, rfl, rfl⟩
theorem d_X0_init_23 : nD YX0_init 23 (.bipush 20) 2 25 0 := ⟨by decide +kernel, rfl, rfl⟩
theorem d_X0_init_25 : nD YX0_init 25 (.bipush 24) 2 27 0 := ⟨by decide +kernel, rfl, rfl⟩
theorem d_X0_init_27 : nD YX0_init 27 (.multianewarray 18 2) 4 31 0 := ⟨by decide +kernel, rfl, rfl⟩
theorem d_X0_init_31 : nD YX0_init 31 (.putfield 20) 3 34 0 := ⟨by decide +kernel, rfl, rfl⟩
theorem d_X0_init_34 : nD YX0_init 34 (.aload_n 0) 1 35 0 := ⟨by decide +kernel, rfl, rfl⟩
theorem d_X0_init_35 : nD YX0_init 35 (.sipush 480) 3 38 0 := ⟨by decide +kernel, rfl, rfl⟩
theorem d_X0_init_38 : nD YX0_init 38 (.newarray .int) 2 40 0 := ⟨by decide +kernel, rfl, rfl⟩
theorem d_X0_init_40 : nD YX0_init 40 (.putfield 23) 3 43 0 := ⟨by decide +kernel, rfl, rfl⟩
theorem d_X0_init_43 : nD YX0_init 43 (.return_) 1 44 0 := ⟨by decide +kernel, rfl, rfl⟩
theorem d_X0_clear_0 : nD YX0_clear 0 (.aload_n 0) 1 1 0 := ⟨by decide +kernel, rfl, rfl⟩
theorem d_X0_clear_1 : nD YX0_clear 1 (.iconst 1) 1 2 0 := ⟨by decide +kernel, rfl, rfl⟩
theorem d_X0_clear_2 : nD YX0_clear 2 (.putfield 51) 3 5 0 := ⟨by decide +kernel, rfl, rfl⟩
theorem d_X0_clear_5 : nD YX0_clear 5 (.aload_n 0) 1 6 0 := ⟨by decide +kernel, rfl, rfl⟩
theorem d_X0_clear_6 : nD YX0_clear 6 (.iconst 0) 1 7 0 := ⟨by decide +kernel, rfl, rfl⟩
theorem d_X0_clear_7 : nD YX0_clear 7 (.putfield 55) 3 10 0 := ⟨by decide +kernel, rfl, rfl⟩
theorem d_X0_clear_10 : nD YX0_clear 10 (.aload_n 0) 1 11 0 := ⟨by decide +kernel, rfl, rfl⟩
theorem d_X0_clear_11 : nD YX0_clear 11 (.iconst 0) 1 12 0 := ⟨by decide +kernel, rfl, rfl⟩
theorem d_X0_clear_12 : nD YX0_clear 12 (.putfield 58) 3 15 0 := ⟨by decide +kernel, rfl, rfl⟩
theorem d_X0_clear_15 : nD YX0_clear 15 (.aload_n 0) 1 16 0 := ⟨by decide +kernel, rfl, rfl⟩
theorem d_X0_clear_16 : nD YX0_clear 16 (.iconst 0) 1 17 0 := ⟨by decide +kernel, rfl, rfl⟩
theorem d_X0_clear_17 : nD YX0_clear 17 (.putfield 61) 3 20 0 := ⟨by decide +kernel, rfl, rfl⟩
theorem d_X0_clear_20 : nD YX0_clear 20 (.aload_n 0) 1 21 0 := ⟨by decide +kernel, rfl, rfl⟩
theorem d_X0_clear_21 : nD YX0_clear 21 (.iconst 0) 1 22 0 := ⟨by decide +kernel, rfl, rfl⟩
theorem d_X0_clear_22 : nD YX0_clear 22 (.putfield 39) 3 25 0 := ⟨by decide +kernel, rfl, rfl⟩
theorem d_X0_clear_25 : nD YX0_clear 25 (.iconst 0) 1 26 0 := ⟨by decide +kernel, rfl, rfl⟩
theorem d_X0_clear_26 : nD YX0_clear 26 (.istore_n 1) 1 27 0 := ⟨by decide +kernel, rfl, rfl⟩
theorem d_X0_clear_27 : nD YX0_clear 27 (.iload_n 1) 1 28 0 := ⟨by decide +kernel, rfl, rfl⟩
theorem d_X0_clear_28 : nD YX0_clear 28 (.bipush 20) 2 30 0 := ⟨by decide +kernel, rfl, rfl⟩
theorem d_X0_clear_30 : nD YX0_clear 30 (.if_icmp .ge 32) 3 33 0 := ⟨by decide +kernel, rfl, rfl⟩
theorem d_X0_clear_33 : nD YX0_clear 33 (.iconst 0) 1 34 0 := ⟨by decide +kernel, rfl, rfl⟩
theorem d_X0_clear_34 : nD YX0_clear 34 (.istore_n 2) 1 35 0 := ⟨by decide +kernel, rfl, rfl⟩
theorem d_X0_clear_35 : nD YX0_clear 35 (.iload_n 2) 1 36 0 := ⟨by decide +kernel, rfl, rfl⟩
theorem d_X0_clear_36 : nD YX0_clear 36 (.bipush 24) 2 38 0 := ⟨by decide +kernel, rfl, rfl⟩
theorem d_X0_clear_38 : nD YX0_clear 38 (.if_icmp .ge 18) 3 41 0 := ⟨by decide +kernel, rfl, rfl⟩
theorem d_X0_clear_41 : nD YX0_clear 41 (.aload_n 0) 1 42 0 := ⟨by decide +kernel, rfl, rfl⟩
theorem d_X0_clear_42 : nD YX0_clear 42 (.getfield 20) 3 45 0 := ⟨by decide +kernel, rfl, rfl⟩
theorem d_X0_clear_45 : nD YX0_clear 45 (.iload_n 1) 1 46 0 := ⟨by decide +kernel, rfl, rfl⟩
theorem d_X0_clear_46 : nD YX0_clear 46 (.aaload) 1 47 0 := ⟨by decide +kernel, rfl, rfl⟩
theorem d_X0_clear_47 : nD YX0_clear 47 (.iload_n 2) 1 48 0 := ⟨by decide +kernel, rfl, rfl⟩
theorem d_X0_clear_48 : nD YX0_clear 48 (.iconst 0) 1 49 0 := ⟨by decide +kernel, rfl, rfl⟩
theorem d_X0_clear_49 : nD YX0_clear 49 (.iastore) 1 50 0 := ⟨by decide +kernel, rfl, rfl⟩
theorem d_X0_clear_50 : nD YX0_clear 50 (.iinc 2 1) 3 53 0 := ⟨by decide +kernel, rfl, rfl⟩
theorem d_X0_clear_53 : nD YX0_clear 53 (.goto (-18)) 3 56 0 := ⟨by decide +kernel, rfl, rfl⟩
theorem d_X0_clear_56 : nD YX0_clear 56 (.iinc 1 1) 3 59 0 := ⟨by decide +kernel, rfl, rfl⟩
theorem d_X0_clear_59 : nD YX0_clear 59 (.goto (-32)) 3 62 0 := ⟨by decide +kernel, rfl, rfl⟩
theorem d_X0_clear_62 : nD YX0_clear 62 (.return_) 1 63 0 := ⟨by decide +kernel, rfl, rfl⟩
theorem d_X7_within_0 : nD YX7_within 0 (.iload_n 0) 1 1 7 := ⟨by decide +kernel, rfl, rfl⟩
theorem d_X7_within_1 : nD YX7_within 1 (.iload_n 1) 1 2 7 := ⟨by decide +kernel, rfl, rfl⟩
theorem d_X7_within_2 : nD YX7_within 2 (.if_icmp .lt 12) 3 5 7 := ⟨by decide +kernel, rfl, rfl⟩
theorem d_X7_within_5 : nD YX7_within 5 (.iload_n 0) 1 6 7 := ⟨by decide +kernel, rfl, rfl⟩
theorem d_X7_within_6 : nD YX7_within 6 (.iload_n 2) 1 7 7 := ⟨by decide +kernel, rfl, rfl⟩
theorem d_X7_within_7 : nD YX7_within 7 (.if_icmp .gt 7) 3 10 7 := ⟨by decide +kernel, rfl, rfl⟩
theorem d_X7_within_10 : nD YX7_within 10 (.iconst 1) 1 11 7 := ⟨by decide +kernel, rfl, rfl⟩
theorem d_X7_within_11 : nD YX7_within 11 (.goto 4) 3 14 7 := ⟨by decide +kernel, rfl, rfl⟩
theorem d_X7_within_14 : nD YX7_within 14 (.iconst 0) 1 15 7 := ⟨by decide +kernel, rfl, rfl⟩
theorem d_X7_within_15 : nD YX7_within 15 (.ireturn) 1 16 7 := ⟨by decide +kernel, rfl, rfl⟩
theorem d_X2_rowAt_0 : nD YX2_rowAt 0 (.iload_n 1) 1 1 2 := ⟨by decide +kernel, rfl, rfl⟩
theorem d_X2_rowAt_1 : nD YX2_rowAt 1 (.iconst 0) 1 2 2 := ⟨by decide +kernel, rfl, rfl⟩
theorem d_X2_rowAt_2 : nD YX2_rowAt 2 (.aload_n 0) 1 3 2 := ⟨by decide +kernel, rfl, rfl⟩
theorem d_X2_rowAt_3 : nD YX2_rowAt 3 (.getfield 34) 3 6 2 := ⟨by decide +kernel, rfl, rfl⟩
theorem d_X2_rowAt_6 : nD YX2_rowAt 6 (.iconst 1) 1 7 2 := ⟨by decide +kernel, rfl, rfl⟩
theorem d_X2_rowAt_7 : nD YX2_rowAt 7 (.isub) 1 8 2 := ⟨by decide +kernel, rfl, rfl⟩
theorem d_X2_rowAt_8 : nD YX2_rowAt 8 (.invokestatic 37) 3 11 2 := ⟨by decide +kernel, rfl, rfl⟩
theorem d_X2_rowAt_11 : nD YX2_rowAt 11 (.ifCond .eq 12) 3 14 2 := ⟨by decide +kernel, rfl, rfl⟩
theorem d_X2_rowAt_14 : nD YX2_rowAt 14 (.aload_n 0) 1 15 2 := ⟨by decide +kernel, rfl, rfl⟩
theorem d_X2_rowAt_15 : nD YX2_rowAt 15 (.getfield 20) 3 18 2 := ⟨by decide +kernel, rfl, rfl⟩
theorem d_X2_rowAt_18 : nD YX2_rowAt 18 (.iload_n 1) 1 19 2 := ⟨by decide +kernel, rfl, rfl⟩
theorem d_X2_rowAt_19 : nD YX2_rowAt 19 (.aaload) 1 20 2 := ⟨by decide +kernel, rfl, rfl⟩
theorem d_X2_rowAt_20 : nD YX2_rowAt 20 (.goto 4) 3 23 2 := ⟨by decide +kernel, rfl, rfl⟩
theorem d_X2_rowAt_23 : nD YX2_rowAt 23 (.aconst_null) 1 24 2 := ⟨by decide +kernel, rfl, rfl⟩
theorem d_X2_rowAt_24 : nD YX2_rowAt 24 (.areturn) 1 25 2 := ⟨by decide +kernel, rfl, rfl⟩
theorem d_X3_has_0 : nD YX3_has 0 (.iload_n 1) 1 1 3 := ⟨by decide +kernel, rfl, rfl⟩
theorem d_X3_has_1 : nD YX3_has 1 (.iconst 0) 1 2 3 := ⟨by decide +kernel, rfl, rfl⟩
theorem d_X3_has_2 : nD YX3_has 2 (.aload_n 0) 1 3 3 := ⟨by decide +kernel, rfl, rfl⟩
theorem d_X3_has_3 : nD YX3_has 3 (.getfield 30) 3 6 3 := ⟨by decide +kernel, rfl, rfl⟩
theorem d_X3_has_6 : nD YX3_has 6 (.iconst 1) 1 7 3 := ⟨by decide +kernel, rfl, rfl⟩
theorem d_X3_has_7 : nD YX3_has 7 (.isub) 1 8 3 := ⟨by decide +kernel, rfl, rfl⟩
theorem d_X3_has_8 : nD YX3_has 8 (.invokestatic 43) 3 11 3 := ⟨by decide +kernel, rfl, rfl⟩
theorem d_X3_has_11 : nD YX3_has 11 (.ireturn) 1 12 3 := ⟨by decide +kernel, rfl, rfl⟩
theorem d_X2_rowWith_0 : nD YX2_rowWith 0 (.aload_n 0) 1 1 2 := ⟨by decide +kernel, rfl, rfl⟩
theorem d_X2_rowWith_1 : nD YX2_rowWith 1 (.iload_n 1) 1 2 2 := ⟨by decide +kernel, rfl, rfl⟩
theorem d_X2_rowWith_2 : nD YX2_rowWith 2 (.invokevirtual 41) 3 5 2 := ⟨by decide +kernel, rfl, rfl⟩
theorem d_X2_rowWith_5 : nD YX2_rowWith 5 (.astore_n 3) 1 6 2 := ⟨by decide +kernel, rfl, rfl⟩
theorem d_X2_rowWith_6 : nD YX2_rowWith 6 (.aload_n 3) 1 7 2 := ⟨by decide +kernel, rfl, rfl⟩
theorem d_X2_rowWith_7 : nD YX2_rowWith 7 (.ifnull 15) 3 10 2 := ⟨by decide +kernel, rfl, rfl⟩
theorem d_X2_rowWith_10 : nD YX2_rowWith 10 (.aload_n 3) 1 11 2 := ⟨by decide +kernel, rfl, rfl⟩
theorem d_X2_rowWith_11 : nD YX2_rowWith 11 (.iload_n 2) 1 12 2 := ⟨by decide +kernel, rfl, rfl⟩
theorem d_X2_rowWith_12 : nD YX2_rowWith 12 (.invokevirtual 45) 3 15 2 := ⟨by decide +kernel, rfl, rfl⟩
theorem d_X2_rowWith_15 : nD YX2_rowWith 15 (.ifCond .eq 7) 3 18 2 := ⟨by decide +kernel, rfl, rfl⟩
theorem d_X2_rowWith_18 : nD YX2_rowWith 18 (.aload_n 3) 1 19 2 := ⟨by decide +kernel, rfl, rfl⟩
theorem d_X2_rowWith_19 : nD YX2_rowWith 19 (.goto 4) 3 22 2 := ⟨by decide +kernel, rfl, rfl⟩
theorem d_X2_rowWith_22 : nD YX2_rowWith 22 (.aconst_null) 1 23 2 := ⟨by decide +kernel, rfl, rfl⟩
theorem d_X2_rowWith_23 : nD YX2_rowWith 23 (.areturn) 1 24 2 := ⟨by decide +kernel, rfl, rfl⟩
theorem d_J6_bitCount_0f7a4_0 : nD YJ6_bitCount_0f7a4 0 (.iload_n 0) 1 1 10 := ⟨by decide +kernel, rfl, rfl⟩
theorem d_J6_bitCount_0f7a4_1 : nD YJ6_bitCount_0f7a4 1 (.iload_n 0) 1 2 10 := ⟨by decide +kernel, rfl, rfl⟩
theorem d_J6_bitCount_0f7a4_2 : nD YJ6_bitCount_0f7a4 2 (.iconst 1) 1 3 10 := ⟨by decide +kernel, rfl, rfl⟩
theorem d_J6_bitCount_0f7a4_3 : nD YJ6_bitCount_0f7a4 3 (.iushr) 1 4 10 := ⟨by decide +kernel, rfl, rfl⟩
theorem d_J6_bitCount_0f7a4_4 : nD YJ6_bitCount_0f7a4 4 (.ldc_w 265) 3 7 10 := ⟨by decide +kernel, rfl, rfl⟩
theorem d_J6_bitCount_0f7a4_7 : nD YJ6_bitCount_0f7a4 7 (.iand) 1 8 10 := ⟨by decide +kernel, rfl, rfl⟩
theorem d_J6_bitCount_0f7a4_8 : nD YJ6_bitCount_0f7a4 8 (.isub) 1 9 10 := ⟨by decide +kernel, rfl, rfl⟩
theorem d_J6_bitCount_0f7a4_9 : nD YJ6_bitCount_0f7a4 9 (.istore_n 0) 1 10 10 := ⟨by decide +kernel, rfl, rfl⟩
theorem d_J6_bitCount_0f7a4_10 : nD YJ6_bitCount_0f7a4 10 (.iload_n 0) 1 11 10 := ⟨by decide +kernel, rfl, rfl⟩
theorem d_J6_bitCount_0f7a4_11 : nD YJ6_bitCount_0f7a4 11 (.ldc_w 266) 3 14 10 := ⟨by decide +kernel, rfl, rfl⟩
theorem d_J6_bitCount_0f7a4_14 : nD YJ6_bitCount_0f7a4 14 (.iand) 1 15 10 := ⟨by decide +kernel, rfl, rfl⟩
theorem d_J6_bitCount_0f7a4_15 : nD YJ6_bitCount_0f7a4 15 (.iload_n 0) 1 16 10 := ⟨by decide +kernel, rfl, rfl⟩
theorem d_J6_bitCount_0f7a4_16 : nD YJ6_bitCount_0f7a4 16 (.iconst 2) 1 17 10 := ⟨by decide +kernel, rfl, rfl⟩
theorem d_J6_bitCount_0f7a4_17 : nD YJ6_bitCount_0f7a4 17 (.iushr) 1 18 10 := ⟨by decide +kernel, rfl, rfl⟩
theorem d_J6_bitCount_0f7a4_18 : nD YJ6_bitCount_0f7a4 18 (.ldc_w 266) 3 21 10 := ⟨by decide +kernel, rfl, rfl⟩
theorem d_J6_bitCount_0f7a4_21 : nD YJ6_bitCount_0f7a4 21 (.iand) 1 22 10 := ⟨by decide +kernel, rfl, rfl⟩
theorem d_J6_bitCount_0f7a4_22 : nD YJ6_bitCount_0f7a4 22 (.iadd) 1 23 10 := ⟨by decide +kernel, rfl, rfl⟩
theorem d_J6_bitCount_0f7a4_23 : nD YJ6_bitCount_0f7a4 23 (.istore_n 0) 1 24 10 := ⟨by decide +kernel, rfl, rfl⟩
theorem d_J6_bitCount_0f7a4_24 : nD YJ6_bitCount_0f7a4 24 (.iload_n 0) 1 25 10 := ⟨by decide +kernel, rfl, rfl⟩
theorem d_J6_bitCount_0f7a4_25 : nD YJ6_bitCount_0f7a4 25 (.iload_n 0) 1 26 10 := ⟨by decide +kernel, rfl, rfl⟩
theorem d_J6_bitCount_0f7a4_26 : nD YJ6_bitCount_0f7a4 26 (.iconst 4) 1 27 10 := ⟨by decide +kernel, rfl, rfl⟩
theorem d_J6_bitCount_0f7a4_27 : nD YJ6_bitCount_0f7a4 27 (.iushr) 1 28 10 := ⟨by decide +kernel, rfl, rfl⟩
theorem d_J6_bitCount_0f7a4_28 : nD YJ6_bitCount_0f7a4 28 (.iadd) 1 29 10 := ⟨by decide +kernel, rfl, rfl⟩
theorem d_J6_bitCount_0f7a4_29 : nD YJ6_bitCount_0f7a4 29 (.ldc_w 267) 3 32 10 := ⟨by decide +kernel, rfl, rfl⟩
theorem d_J6_bitCount_0f7a4_32 : nD YJ6_bitCount_0f7a4 32 (.iand) 1 33 10 := ⟨by decide +kernel, rfl, rfl⟩
theorem d_J6_bitCount_0f7a4_33 : nD YJ6_bitCount_0f7a4 33 (.istore_n 0) 1 34 10 := ⟨by decide +kernel, rfl, rfl⟩
theorem d_J6_bitCount_0f7a4_34 : nD YJ6_bitCount_0f7a4 34 (.iload_n 0) 1 35 10 := ⟨by decide +kernel, rfl, rfl⟩
theorem d_J6_bitCount_0f7a4_35 : nD YJ6_bitCount_0f7a4 35 (.iload_n 0) 1 36 10 := ⟨by decide +kernel, rfl, rfl⟩
theorem d_J6_bitCount_0f7a4_36 : nD YJ6_bitCount_0f7a4 36 (.bipush 8) 2 38 10 := ⟨by decide +kernel, rfl, rfl⟩
theorem d_J6_bitCount_0f7a4_38 : nD YJ6_bitCount_0f7a4 38 (.iushr) 1 39 10 := ⟨by decide +kernel, rfl, rfl⟩
theorem d_J6_bitCount_0f7a4_39 : nD YJ6_bitCount_0f7a4 39 (.iadd) 1 40 10 := ⟨by decide +kernel, rfl, rfl⟩
theorem d_J6_bitCount_0f7a4_40 : nD YJ6_bitCount_0f7a4 40 (.istore_n 0) 1 41 10 := ⟨by decide +kernel, rfl, rfl⟩
theorem d_J6_bitCount_0f7a4_41 : nD YJ6_bitCount_0f7a4 41 (.iload_n 0) 1 42 10 := ⟨by decide +kernel, rfl, rfl⟩
theorem d_J6_bitCount_0f7a4_42 : nD YJ6_bitCount_0f7a4 42 (.iload_n 0) 1 43 10 := ⟨by decide +kernel, rfl, rfl⟩
theorem d_J6_bitCount_0f7a4_43 : nD YJ6_bitCount_0f7a4 43 (.bipush 16) 2 45 10 := ⟨by decide +kernel, rfl, rfl⟩
theorem d_J6_bitCount_0f7a4_45 : nD YJ6_bitCount_0f7a4 45 (.iushr) 1 46 10 := ⟨by decide +kernel, rfl, rfl⟩
theorem d_J6_bitCount_0f7a4_46 : nD YJ6_bitCount_0f7a4 46 (.iadd) 1 47 10 := ⟨by decide +kernel, rfl, rfl⟩
theorem d_J6_bitCount_0f7a4_47 : nD YJ6_bitCount_0f7a4 47 (.istore_n 0) 1 48 10 := ⟨by decide +kernel, rfl, rfl⟩
theorem d_J6_bitCount_0f7a4_48 : nD YJ6_bitCount_0f7a4 48 (.iload_n 0) 1 49 10 := ⟨by decide +kernel, rfl, rfl⟩
theorem d_J6_bitCount_0f7a4_49 : nD YJ6_bitCount_0f7a4 49 (.bipush 63) 2 51 10 := ⟨by decide +kernel, rfl, rfl⟩
theorem d_J6_bitCount_0f7a4_51 : nD YJ6_bitCount_0f7a4 51 (.iand) 1 52 10 := ⟨by decide +kernel, rfl, rfl⟩
theorem d_J6_bitCount_0f7a4_52 : nD YJ6_bitCount_0f7a4 52 (.ireturn) 1 53 10 := ⟨by decide +kernel, rfl, rfl⟩
theorem d_X3_hangsBy_0 : nD YX3_hangsBy 0 (.iload_n 2) 1 1 3 := ⟨by decide +kernel, rfl, rfl⟩
theorem d_X3_hangsBy_1 : nD YX3_hangsBy 1 (.aload_n 0) 1 2 3 := ⟨by decide +kernel, rfl, rfl⟩
theorem d_X3_hangsBy_2 : nD YX3_hangsBy 2 (.getfield 21) 3 5 3 := ⟨by decide +kernel, rfl, rfl⟩
theorem d_X3_hangsBy_5 : nD YX3_hangsBy 5 (.iload_n 1) 1 6 3 := ⟨by decide +kernel, rfl, rfl⟩
theorem d_X3_hangsBy_6 : nD YX3_hangsBy 6 (.iaload) 1 7 3 := ⟨by decide +kernel, rfl, rfl⟩
theorem d_X3_hangsBy_7 : nD YX3_hangsBy 7 (.isub) 1 8 3 := ⟨by decide +kernel, rfl, rfl⟩
theorem d_X3_hangsBy_8 : nD YX3_hangsBy 8 (.iconst 0) 1 9 3 := ⟨by decide +kernel, rfl, rfl⟩
theorem d_X3_hangsBy_9 : nD YX3_hangsBy 9 (.aload_n 0) 1 10 3 := ⟨by decide +kernel, rfl, rfl⟩
theorem d_X3_hangsBy_10 : nD YX3_hangsBy 10 (.getfield 24) 3 13 3 := ⟨by decide +kernel, rfl, rfl⟩
theorem d_X3_hangsBy_13 : nD YX3_hangsBy 13 (.iload_n 1) 1 14 3 := ⟨by decide +kernel, rfl, rfl⟩
theorem d_X3_hangsBy_14 : nD YX3_hangsBy 14 (.iaload) 1 15 3 := ⟨by decide +kernel, rfl, rfl⟩
theorem d_X3_hangsBy_15 : nD YX3_hangsBy 15 (.iconst 1) 1 16 3 := ⟨by decide +kernel, rfl, rfl⟩
theorem d_X3_hangsBy_16 : nD YX3_hangsBy 16 (.isub) 1 17 3 := ⟨by decide +kernel, rfl, rfl⟩
theorem d_X3_hangsBy_17 : nD YX3_hangsBy 17 (.invokestatic 43) 3 20 3 := ⟨by decide +kernel, rfl, rfl⟩
theorem d_X3_hangsBy_20 : nD YX3_hangsBy 20 (.ireturn) 1 21 3 := ⟨by decide +kernel, rfl, rfl⟩
theorem d_X3_sideIsGone_0 : nD YX3_sideIsGone 0 (.aload_n 0) 1 1 3 := ⟨by decide +kernel, rfl, rfl⟩
theorem d_X3_sideIsGone_1 : nD YX3_sideIsGone 1 (.getfield 27) 3 4 3 := ⟨by decide +kernel, rfl, rfl⟩
theorem d_X3_sideIsGone_4 : nD YX3_sideIsGone 4 (.iload_n 1) 1 5 3 := ⟨by decide +kernel, rfl, rfl⟩
theorem d_X3_sideIsGone_5 : nD YX3_sideIsGone 5 (.iaload) 1 6 3 := ⟨by decide +kernel, rfl, rfl⟩
theorem d_X3_sideIsGone_6 : nD YX3_sideIsGone 6 (.iload_n 2) 1 7 3 := ⟨by decide +kernel, rfl, rfl⟩
theorem d_X3_sideIsGone_7 : nD YX3_sideIsGone 7 (.ishr) 1 8 3 := ⟨by decide +kernel, rfl, rfl⟩
theorem d_X3_sideIsGone_8 : nD YX3_sideIsGone 8 (.iconst 1) 1 9 3 := ⟨by decide +kernel, rfl, rfl⟩
theorem d_X3_sideIsGone_9 : nD YX3_sideIsGone 9 (.iand) 1 10 3 := ⟨by decide +kernel, rfl, rfl⟩
theorem d_X3_sideIsGone_10 : nD YX3_sideIsGone 10 (.iconst 1) 1 11 3 := ⟨by decide +kernel, rfl, rfl⟩
theorem d_X3_sideIsGone_11 : nD YX3_sideIsGone 11 (.if_icmp .ne 7) 3 14 3 := ⟨by decide +kernel, rfl, rfl⟩
theorem d_X3_sideIsGone_14 : nD YX3_sideIsGone 14 (.iconst 1) 1 15 3 := ⟨by decide +kernel, rfl, rfl⟩
theorem d_X3_sideIsGone_15 : nD YX3_sideIsGone 15 (.goto 4) 3 18 3 := ⟨by decide +kernel, rfl, rfl⟩
theorem d_X3_sideIsGone_18 : nD YX3_sideIsGone 18 (.iconst 0) 1 19 3 := ⟨by decide +kernel, rfl, rfl⟩
theorem d_X3_sideIsGone_19 : nD YX3_sideIsGone 19 (.ireturn) 1 20 3 := ⟨by decide +kernel, rfl, rfl⟩
theorem d_X3_isGone_0 : nD YX3_isGone 0 (.aload_n 0) 1 1 3 := ⟨by decide +kernel, rfl, rfl⟩
theorem d_X3_isGone_1 : nD YX3_isGone 1 (.iload_n 1) 1 2 3 := ⟨by decide +kernel, rfl, rfl⟩
theorem d_X3_isGone_2 : nD YX3_isGone 2 (.iload_n 2) 1 3 3 := ⟨by decide +kernel, rfl, rfl⟩
theorem d_X3_isGone_3 : nD YX3_isGone 3 (.invokevirtual 55) 3 6 3 := ⟨by decide +kernel, rfl, rfl⟩
theorem d_X3_isGone_6 : nD YX3_isGone 6 (.ifCond .eq 23) 3 9 3 := ⟨by decide +kernel, rfl, rfl⟩
theorem d_X3_isGone_9 : nD YX3_isGone 9 (.aload_n 0) 1 10 3 := ⟨by decide +kernel, rfl, rfl⟩
theorem d_X3_isGone_10 : nD YX3_isGone 10 (.iload_n 1) 1 11 3 := ⟨by decide +kernel, rfl, rfl⟩
theorem d_X3_isGone_11 : nD YX3_isGone 11 (.iload_n 2) 1 12 3 := ⟨by decide +kernel, rfl, rfl⟩
theorem d_X3_isGone_12 : nD YX3_isGone 12 (.aload_n 0) 1 13 3 := ⟨by decide +kernel, rfl, rfl⟩
theorem d_X3_isGone_13 : nD YX3_isGone 13 (.getfield 21) 3 16 3 := ⟨by decide +kernel, rfl, rfl⟩
theorem d_X3_isGone_16 : nD YX3_isGone 16 (.iload_n 1) 1 17 3 := ⟨by decide +kernel, rfl, rfl⟩
theorem d_X3_isGone_17 : nD YX3_isGone 17 (.iaload) 1 18 3 := ⟨by decide +kernel, rfl, rfl⟩
theorem d_X3_isGone_18 : nD YX3_isGone 18 (.isub) 1 19 3 := ⟨by decide +kernel, rfl, rfl⟩
theorem d_X3_isGone_19 : nD YX3_isGone 19 (.invokevirtual 59) 3 22 3 := ⟨by decide +kernel, rfl, rfl⟩
theorem d_X3_isGone_22 : nD YX3_isGone 22 (.ifCond .eq 7) 3 25 3 := ⟨by decide +kernel, rfl, rfl⟩
theorem d_X3_isGone_25 : nD YX3_isGone 25 (.iconst 1) 1 26 3 := ⟨by decide +kernel, rfl, rfl⟩
theorem d_X3_isGone_26 : nD YX3_isGone 26 (.goto 4) 3 29 3 := ⟨by decide +kernel, rfl, rfl⟩
theorem d_X3_isGone_29 : nD YX3_isGone 29 (.iconst 0) 1 30 3 := ⟨by decide +kernel, rfl, rfl⟩
theorem d_X3_isGone_30 : nD YX3_isGone 30 (.ireturn) 1 31 3 := ⟨by decide +kernel, rfl, rfl⟩
theorem d_X2_goneSidesAt_0 : nD YX2_goneSidesAt 0 (.aload_n 0) 1 1 2 := ⟨by decide +kernel, rfl, rfl⟩
theorem d_X2_goneSidesAt_1 : nD YX2_goneSidesAt 1 (.iload_n 1) 1 2 2 := ⟨by decide +kernel, rfl, rfl⟩
theorem d_X2_goneSidesAt_2 : nD YX2_goneSidesAt 2 (.iload_n 2) 1 3 2 := ⟨by decide +kernel, rfl, rfl⟩
theorem d_X2_goneSidesAt_3 : nD YX2_goneSidesAt 3 (.invokevirtual 86) 3 6 2 := ⟨by decide +kernel, rfl, rfl⟩
theorem d_X2_goneSidesAt_6 : nD YX2_goneSidesAt 6 (.astore_n 3) 1 7 2 := ⟨by decide +kernel, rfl, rfl⟩
theorem d_X2_goneSidesAt_7 : nD YX2_goneSidesAt 7 (.aload_n 3) 1 8 2 := ⟨by decide +kernel, rfl, rfl⟩
theorem d_X2_goneSidesAt_8 : nD YX2_goneSidesAt 8 (.ifnonnull 5) 3 11 2 := ⟨by decide +kernel, rfl, rfl⟩
theorem d_X2_goneSidesAt_11 : nD YX2_goneSidesAt 11 (.iconst 0) 1 12 2 := ⟨by decide +kernel, rfl, rfl⟩
theorem d_X2_goneSidesAt_12 : nD YX2_goneSidesAt 12 (.ireturn) 1 13 2 := ⟨by decide +kernel, rfl, rfl⟩
theorem d_X2_goneSidesAt_13 : nD YX2_goneSidesAt 13 (.aload_n 3) 1 14 2 := ⟨by decide +kernel, rfl, rfl⟩
theorem d_X2_goneSidesAt_14 : nD YX2_goneSidesAt 14 (.getfield 90) 3 17 2 := ⟨by decide +kernel, rfl, rfl⟩
theorem d_X2_goneSidesAt_17 : nD YX2_goneSidesAt 17 (.iload_n 2) 1 18 2 := ⟨by decide +kernel, rfl, rfl⟩
theorem d_X2_goneSidesAt_18 : nD YX2_goneSidesAt 18 (.iaload) 1 19 2 := ⟨by decide +kernel, rfl, rfl⟩
theorem d_X2_goneSidesAt_19 : nD YX2_goneSidesAt 19 (.invokestatic 93) 3 22 2 := ⟨by decide +kernel, rfl, rfl⟩
theorem d_X2_goneSidesAt_22 : nD YX2_goneSidesAt 22 (.istore 4) 2 24 2 := ⟨by decide +kernel, rfl, rfl⟩
theorem d_X2_goneSidesAt_24 : nD YX2_goneSidesAt 24 (.aload_n 0) 1 25 2 := ⟨by decide +kernel, rfl, rfl⟩
theorem d_X2_goneSidesAt_25 : nD YX2_goneSidesAt 25 (.iload_n 1) 1 26 2 := ⟨by decide +kernel, rfl, rfl⟩
theorem d_X2_goneSidesAt_26 : nD YX2_goneSidesAt 26 (.iconst 1) 1 27 2 := ⟨by decide +kernel, rfl, rfl⟩
theorem d_X2_goneSidesAt_27 : nD YX2_goneSidesAt 27 (.iadd) 1 28 2 := ⟨by decide +kernel, rfl, rfl⟩
theorem d_X2_goneSidesAt_28 : nD YX2_goneSidesAt 28 (.invokevirtual 41) 3 31 2 := ⟨by decide +kernel, rfl, rfl⟩
theorem d_X2_goneSidesAt_31 : nD YX2_goneSidesAt 31 (.astore 5) 2 33 2 := ⟨by decide +kernel, rfl, rfl⟩
theorem d_X2_goneSidesAt_33 : nD YX2_goneSidesAt 33 (.iconst 0) 1 34 2 := ⟨by decide +kernel, rfl, rfl⟩
theorem d_X2_goneSidesAt_34 : nD YX2_goneSidesAt 34 (.istore 6) 2 36 2 := ⟨by decide +kernel, rfl, rfl⟩
theorem d_X2_goneSidesAt_36 : nD YX2_goneSidesAt 36 (.aload 5) 2 38 2 := ⟨by decide +kernel, rfl, rfl⟩
theorem d_X2_goneSidesAt_38 : nD YX2_goneSidesAt 38 (.ifnull 40) 3 41 2 := ⟨by decide +kernel, rfl, rfl⟩
theorem d_X2_goneSidesAt_41 : nD YX2_goneSidesAt 41 (.iload 6) 2 43 2 := ⟨by decide +kernel, rfl, rfl⟩
theorem d_X2_goneSidesAt_43 : nD YX2_goneSidesAt 43 (.aload 5) 2 45 2 := ⟨by decide +kernel, rfl, rfl⟩
theorem d_X2_goneSidesAt_45 : nD YX2_goneSidesAt 45 (.getfield 70) 3 48 2 := ⟨by decide +kernel, rfl, rfl⟩
theorem d_X2_goneSidesAt_48 : nD YX2_goneSidesAt 48 (.if_icmp .ge 30) 3 51 2 := ⟨by decide +kernel, rfl, rfl⟩
theorem d_X2_goneSidesAt_51 : nD YX2_goneSidesAt 51 (.iload 4) 2 53 2 := ⟨by decide +kernel, rfl, rfl⟩
theorem d_X2_goneSidesAt_53 : nD YX2_goneSidesAt 53 (.aload 5) 2 55 2 := ⟨by decide +kernel, rfl, rfl⟩
theorem d_X2_goneSidesAt_55 : nD YX2_goneSidesAt 55 (.iload 6) 2 57 2 := ⟨by decide +kernel, rfl, rfl⟩
theorem d_X2_goneSidesAt_57 : nD YX2_goneSidesAt 57 (.iload_n 2) 1 58 2 := ⟨by decide +kernel, rfl, rfl⟩
theorem d_X2_goneSidesAt_58 : nD YX2_goneSidesAt 58 (.invokevirtual 99) 3 61 2 := ⟨by decide +kernel, rfl, rfl⟩
theorem d_X2_goneSidesAt_61 : nD YX2_goneSidesAt 61 (.ifCond .eq 7) 3 64 2 := ⟨by decide +kernel, rfl, rfl⟩
theorem d_X2_goneSidesAt_64 : nD YX2_goneSidesAt 64 (.iconst 1) 1 65 2 := ⟨by decide +kernel, rfl, rfl⟩
theorem d_X2_goneSidesAt_65 : nD YX2_goneSidesAt 65 (.goto 4) 3 68 2 := ⟨by decide +kernel, rfl, rfl⟩
theorem d_X2_goneSidesAt_68 : nD YX2_goneSidesAt 68 (.iconst 0) 1 69 2 := ⟨by decide +kernel, rfl, rfl⟩
theorem d_X2_goneSidesAt_69 : nD YX2_goneSidesAt 69 (.iadd) 1 70 2 := ⟨by decide +kernel, rfl, rfl⟩
theorem d_X2_goneSidesAt_70 : nD YX2_goneSidesAt 70 (.istore 4) 2 72 2 := ⟨by decide +kernel, rfl, rfl⟩
theorem d_X2_goneSidesAt_72 : nD YX2_goneSidesAt 72 (.iinc 6 1) 3 75 2 := ⟨by decide +kernel, rfl, rfl⟩
theorem d_X2_goneSidesAt_75 : nD YX2_goneSidesAt 75 (.goto (-39)) 3 78 2 := ⟨by decide +kernel, rfl, rfl⟩
theorem d_X2_goneSidesAt_78 : nD YX2_goneSidesAt 78 (.iload 4) 2 80 2 := ⟨by decide +kernel, rfl, rfl⟩
theorem d_X2_goneSidesAt_80 : nD YX2_goneSidesAt 80 (.ireturn) 1 81 2 := ⟨by decide +kernel, rfl, rfl⟩
theorem d_X0_reach_0 : nD YX0_reach 0 (.iload_n 1) 1 1 0 := ⟨by decide +kernel, rfl, rfl⟩
theorem d_X0_reach_1 : nD YX0_reach 1 (.iconst 0) 1 2 0 := ⟨by decide +kernel, rfl, rfl⟩
theorem d_X0_reach_2 : nD YX0_reach 2 (.bipush 19) 2 4 0 := ⟨by decide +kernel, rfl, rfl⟩
theorem d_X0_reach_4 : nD YX0_reach 4 (.invokestatic 64) 3 7 0 := ⟨by decide +kernel, rfl, rfl⟩
theorem d_X0_reach_7 : nD YX0_reach 7 (.ifCond .eq 13) 3 10 0 := ⟨by decide +kernel, rfl, rfl⟩
theorem d_X0_reach_10 : nD YX0_reach 10 (.aload_n 0) 1 11 0 := ⟨by decide +kernel, rfl, rfl⟩
theorem d_X0_reach_11 : nD YX0_reach 11 (.getfield 39) 3 14 0 := ⟨by decide +kernel, rfl, rfl⟩
theorem d_X0_reach_14 : nD YX0_reach 14 (.sipush 480) 3 17 0 := ⟨by decide +kernel, rfl, rfl⟩
theorem d_X0_reach_17 : nD YX0_reach 17 (.if_icmp .lt 4) 3 20 0 := ⟨by decide +kernel, rfl, rfl⟩
theorem d_X0_reach_20 : nD YX0_reach 20 (.return_) 1 21 0 := ⟨by decide +kernel, rfl, rfl⟩
theorem d_X0_reach_21 : nD YX0_reach 21 (.aload_n 0) 1 22 0 := ⟨by decide +kernel, rfl, rfl⟩
theorem d_X0_reach_22 : nD YX0_reach 22 (.getfield 20) 3 25 0 := ⟨by decide +kernel, rfl, rfl⟩
theorem d_X0_reach_25 : nD YX0_reach 25 (.iload_n 1) 1 26 0 := ⟨by decide +kernel, rfl, rfl⟩
theorem d_X0_reach_26 : nD YX0_reach 26 (.aaload) 1 27 0 := ⟨by decide +kernel, rfl, rfl⟩
theorem d_X0_reach_27 : nD YX0_reach 27 (.iload_n 2) 1 28 0 := ⟨by decide +kernel, rfl, rfl⟩
theorem d_X0_reach_28 : nD YX0_reach 28 (.iaload) 1 29 0 := ⟨by decide +kernel, rfl, rfl⟩
theorem d_X0_reach_29 : nD YX0_reach 29 (.ifCond .ne 37) 3 32 0 := ⟨by decide +kernel, rfl, rfl⟩
theorem d_X0_reach_32 : nD YX0_reach 32 (.aload_n 0) 1 33 0 := ⟨by decide +kernel, rfl, rfl⟩
theorem d_X0_reach_33 : nD YX0_reach 33 (.getfield 20) 3 36 0 := ⟨by decide +kernel, rfl, rfl⟩
theorem d_X0_reach_36 : nD YX0_reach 36 (.iload_n 1) 1 37 0 := ⟨by decide +kernel, rfl, rfl⟩
theorem d_X0_reach_37 : nD YX0_reach 37 (.aaload) 1 38 0 := ⟨by decide +kernel, rfl, rfl⟩
theorem d_X0_reach_38 : nD YX0_reach 38 (.iload_n 2) 1 39 0 := ⟨by decide +kernel, rfl, rfl⟩
theorem d_X0_reach_39 : nD YX0_reach 39 (.iconst 1) 1 40 0 := ⟨by decide +kernel, rfl, rfl⟩
theorem d_X0_reach_40 : nD YX0_reach 40 (.iastore) 1 41 0 := ⟨by decide +kernel, rfl, rfl⟩
theorem d_X0_reach_41 : nD YX0_reach 41 (.aload_n 0) 1 42 0 := ⟨by decide +kernel, rfl, rfl⟩
theorem d_X0_reach_42 : nD YX0_reach 42 (.getfield 23) 3 45 0 := ⟨by decide +kernel, rfl, rfl⟩
theorem d_X0_reach_45 : nD YX0_reach 45 (.aload_n 0) 1 46 0 := ⟨by decide +kernel, rfl, rfl⟩
theorem d_X0_reach_46 : nD YX0_reach 46 (.getfield 39) 3 49 0 := ⟨by decide +kernel, rfl, rfl⟩
theorem d_X0_reach_49 : nD YX0_reach 49 (.bipush 100) 2 51 0 := ⟨by decide +kernel, rfl, rfl⟩
theorem d_X0_reach_51 : nD YX0_reach 51 (.iload_n 1) 1 52 0 := ⟨by decide +kernel, rfl, rfl⟩
theorem d_X0_reach_52 : nD YX0_reach 52 (.imul) 1 53 0 := ⟨by decide +kernel, rfl, rfl⟩
theorem d_X0_reach_53 : nD YX0_reach 53 (.iload_n 2) 1 54 0 := ⟨by decide +kernel, rfl, rfl⟩
theorem d_X0_reach_54 : nD YX0_reach 54 (.iadd) 1 55 0 := ⟨by decide +kernel, rfl, rfl⟩
theorem d_X0_reach_55 : nD YX0_reach 55 (.iastore) 1 56 0 := ⟨by decide +kernel, rfl, rfl⟩
theorem d_X0_reach_56 : nD YX0_reach 56 (.aload_n 0) 1 57 0 := ⟨by decide +kernel, rfl, rfl⟩
theorem d_X0_reach_57 : nD YX0_reach 57 (.dup) 1 58 0 := ⟨by decide +kernel, rfl, rfl⟩
theorem d_X0_reach_58 : nD YX0_reach 58 (.getfield 39) 3 61 0 := ⟨by decide +kernel, rfl, rfl⟩
theorem d_X0_reach_61 : nD YX0_reach 61 (.iconst 1) 1 62 0 := ⟨by decide +kernel, rfl, rfl⟩
theorem d_X0_reach_62 : nD YX0_reach 62 (.iadd) 1 63 0 := ⟨by decide +kernel, rfl, rfl⟩
theorem d_X0_reach_63 : nD YX0_reach 63 (.putfield 39) 3 66 0 := ⟨by decide +kernel, rfl, rfl⟩
theorem d_X0_reach_66 : nD YX0_reach 66 (.return_) 1 67 0 := ⟨by decide +kernel, rfl, rfl⟩
theorem d_X0_reachFrom_0 : nD YX0_reachFrom 0 (.aload_n 1) 1 1 0 := ⟨by decide +kernel, rfl, rfl⟩
theorem d_X0_reachFrom_1 : nD YX0_reachFrom 1 (.iload_n 2) 1 2 0 := ⟨by decide +kernel, rfl, rfl⟩
theorem d_X0_reachFrom_2 : nD YX0_reachFrom 2 (.invokevirtual 68) 3 5 0 := ⟨by decide +kernel, rfl, rfl⟩
theorem d_X0_reachFrom_5 : nD YX0_reachFrom 5 (.astore 4) 2 7 0 := ⟨by decide +kernel, rfl, rfl⟩
theorem d_X0_reachFrom_7 : nD YX0_reachFrom 7 (.iconst 0) 1 8 0 := ⟨by decide +kernel, rfl, rfl⟩
theorem d_X0_reachFrom_8 : nD YX0_reachFrom 8 (.istore 5) 2 10 0 := ⟨by decide +kernel, rfl, rfl⟩
theorem d_X0_reachFrom_10 : nD YX0_reachFrom 10 (.aload 4) 2 12 0 := ⟨by decide +kernel, rfl, rfl⟩
theorem d_X0_reachFrom_12 : nD YX0_reachFrom 12 (.ifnull 36) 3 15 0 := ⟨by decide +kernel, rfl, rfl⟩
theorem d_X0_reachFrom_15 : nD YX0_reachFrom 15 (.iload 5) 2 17 0 := ⟨by decide +kernel, rfl, rfl⟩
theorem d_X0_reachFrom_17 : nD YX0_reachFrom 17 (.bipush 24) 2 19 0 := ⟨by decide +kernel, rfl, rfl⟩
theorem d_X0_reachFrom_19 : nD YX0_reachFrom 19 (.if_icmp .ge 29) 3 22 0 := ⟨by decide +kernel, rfl, rfl⟩
theorem d_X0_reachFrom_22 : nD YX0_reachFrom 22 (.aload 4) 2 24 0 := ⟨by decide +kernel, rfl, rfl⟩
theorem d_X0_reachFrom_24 : nD YX0_reachFrom 24 (.iload_n 3) 1 25 0 := ⟨by decide +kernel, rfl, rfl⟩
theorem d_X0_reachFrom_25 : nD YX0_reachFrom 25 (.iload 5) 2 27 0 := ⟨by decide +kernel, rfl, rfl⟩
theorem d_X0_reachFrom_27 : nD YX0_reachFrom 27 (.invokevirtual 72) 3 30 0 := ⟨by decide +kernel, rfl, rfl⟩
theorem d_X0_reachFrom_30 : nD YX0_reachFrom 30 (.ifCond .eq 12) 3 33 0 := ⟨by decide +kernel, rfl, rfl⟩
theorem d_X0_reachFrom_33 : nD YX0_reachFrom 33 (.aload_n 0) 1 34 0 := ⟨by decide +kernel, rfl, rfl⟩
theorem d_X0_reachFrom_34 : nD YX0_reachFrom 34 (.iload_n 2) 1 35 0 := ⟨by decide +kernel, rfl, rfl⟩
theorem d_X0_reachFrom_35 : nD YX0_reachFrom 35 (.iconst 1) 1 36 0 := ⟨by decide +kernel, rfl, rfl⟩
theorem d_X0_reachFrom_36 : nD YX0_reachFrom 36 (.isub) 1 37 0 := ⟨by decide +kernel, rfl, rfl⟩
theorem d_X0_reachFrom_37 : nD YX0_reachFrom 37 (.iload 5) 2 39 0 := ⟨by decide +kernel, rfl, rfl⟩
theorem d_X0_reachFrom_39 : nD YX0_reachFrom 39 (.invokevirtual 35) 3 42 0 := ⟨by decide +kernel, rfl, rfl⟩
theorem d_X0_reachFrom_42 : nD YX0_reachFrom 42 (.iinc 5 1) 3 45 0 := ⟨by decide +kernel, rfl, rfl⟩
theorem d_X0_reachFrom_45 : nD YX0_reachFrom 45 (.goto (-35)) 3 48 0 := ⟨by decide +kernel, rfl, rfl⟩
theorem d_X0_reachFrom_48 : nD YX0_reachFrom 48 (.aload_n 1) 1 49 0 := ⟨by decide +kernel, rfl, rfl⟩
theorem d_X0_reachFrom_49 : nD YX0_reachFrom 49 (.iload_n 2) 1 50 0 := ⟨by decide +kernel, rfl, rfl⟩
theorem d_X0_reachFrom_50 : nD YX0_reachFrom 50 (.iconst 1) 1 51 0 := ⟨by decide +kernel, rfl, rfl⟩
theorem d_X0_reachFrom_51 : nD YX0_reachFrom 51 (.iadd) 1 52 0 := ⟨by decide +kernel, rfl, rfl⟩
theorem d_X0_reachFrom_52 : nD YX0_reachFrom 52 (.invokevirtual 68) 3 55 0 := ⟨by decide +kernel, rfl, rfl⟩
theorem d_X0_reachFrom_55 : nD YX0_reachFrom 55 (.astore 5) 2 57 0 := ⟨by decide +kernel, rfl, rfl⟩
theorem d_X0_reachFrom_57 : nD YX0_reachFrom 57 (.iconst 0) 1 58 0 := ⟨by decide +kernel, rfl, rfl⟩
theorem d_X0_reachFrom_58 : nD YX0_reachFrom 58 (.istore 6) 2 60 0 := ⟨by decide +kernel, rfl, rfl⟩
theorem d_X0_reachFrom_60 : nD YX0_reachFrom 60 (.aload 5) 2 62 0 := ⟨by decide +kernel, rfl, rfl⟩
theorem d_X0_reachFrom_62 : nD YX0_reachFrom 62 (.ifnull 39) 3 65 0 := ⟨by decide +kernel, rfl, rfl⟩
theorem d_X0_reachFrom_65 : nD YX0_reachFrom 65 (.iload 6) 2 67 0 := ⟨by decide +kernel, rfl, rfl⟩
theorem d_X0_reachFrom_67 : nD YX0_reachFrom 67 (.aload 5) 2 69 0 := ⟨by decide +kernel, rfl, rfl⟩
theorem d_X0_reachFrom_69 : nD YX0_reachFrom 69 (.getfield 78) 3 72 0 := ⟨by decide +kernel, rfl, rfl⟩
theorem d_X0_reachFrom_72 : nD YX0_reachFrom 72 (.if_icmp .ge 29) 3 75 0 := ⟨by decide +kernel, rfl, rfl⟩
theorem d_X0_reachFrom_75 : nD YX0_reachFrom 75 (.aload 5) 2 77 0 := ⟨by decide +kernel, rfl, rfl⟩
theorem d_X0_reachFrom_77 : nD YX0_reachFrom 77 (.iload 6) 2 79 0 := ⟨by decide +kernel, rfl, rfl⟩
theorem d_X0_reachFrom_79 : nD YX0_reachFrom 79 (.iload_n 3) 1 80 0 := ⟨by decide +kernel, rfl, rfl⟩
theorem d_X0_reachFrom_80 : nD YX0_reachFrom 80 (.invokevirtual 72) 3 83 0 := ⟨by decide +kernel, rfl, rfl⟩
theorem d_X0_reachFrom_83 : nD YX0_reachFrom 83 (.ifCond .eq 12) 3 86 0 := ⟨by decide +kernel, rfl, rfl⟩
theorem d_X0_reachFrom_86 : nD YX0_reachFrom 86 (.aload_n 0) 1 87 0 := ⟨by decide +kernel, rfl, rfl⟩
theorem d_X0_reachFrom_87 : nD YX0_reachFrom 87 (.iload_n 2) 1 88 0 := ⟨by decide +kernel, rfl, rfl⟩
theorem d_X0_reachFrom_88 : nD YX0_reachFrom 88 (.iconst 1) 1 89 0 := ⟨by decide +kernel, rfl, rfl⟩
theorem d_X0_reachFrom_89 : nD YX0_reachFrom 89 (.iadd) 1 90 0 := ⟨by decide +kernel, rfl, rfl⟩
theorem d_X0_reachFrom_90 : nD YX0_reachFrom 90 (.iload 6) 2 92 0 := ⟨by decide +kernel, rfl, rfl⟩
theorem d_X0_reachFrom_92 : nD YX0_reachFrom 92 (.invokevirtual 35) 3 95 0 := ⟨by decide +kernel, rfl, rfl⟩
theorem d_X0_reachFrom_95 : nD YX0_reachFrom 95 (.iinc 6 1) 3 98 0 := ⟨by decide +kernel, rfl, rfl⟩
theorem d_X0_reachFrom_98 : nD YX0_reachFrom 98 (.goto (-38)) 3 101 0 := ⟨by decide +kernel, rfl, rfl⟩
theorem d_X0_reachFrom_101 : nD YX0_reachFrom 101 (.return_) 1 102 0 := ⟨by decide +kernel, rfl, rfl⟩
theorem d_X0_listReached_0 : nD YX0_listReached 0 (.iconst 0) 1 1 0 := ⟨by decide +kernel, rfl, rfl⟩
theorem d_X0_listReached_1 : nD YX0_listReached 1 (.istore_n 2) 1 2 0 := ⟨by decide +kernel, rfl, rfl⟩
theorem d_X0_listReached_2 : nD YX0_listReached 2 (.iconst 0) 1 3 0 := ⟨by decide +kernel, rfl, rfl⟩
theorem d_X0_listReached_3 : nD YX0_listReached 3 (.istore_n 3) 1 4 0 := ⟨by decide +kernel, rfl, rfl⟩
theorem d_X0_listReached_4 : nD YX0_listReached 4 (.iload_n 3) 1 5 0 := ⟨by decide +kernel, rfl, rfl⟩
theorem d_X0_listReached_5 : nD YX0_listReached 5 (.bipush 20) 2 7 0 := ⟨by decide +kernel, rfl, rfl⟩
theorem d_X0_listReached_7 : nD YX0_listReached 7 (.if_icmp .ge 114) 3 10 0 := ⟨by decide +kernel, rfl, rfl⟩
theorem d_X0_listReached_10 : nD YX0_listReached 10 (.iconst 0) 1 11 0 := ⟨by decide +kernel, rfl, rfl⟩
theorem d_X0_listReached_11 : nD YX0_listReached 11 (.istore 4) 2 13 0 := ⟨by decide +kernel, rfl, rfl⟩
theorem d_X0_listReached_13 : nD YX0_listReached 13 (.iload 4) 2 15 0 := ⟨by decide +kernel, rfl, rfl⟩
theorem d_X0_listReached_15 : nD YX0_listReached 15 (.bipush 24) 2 17 0 := ⟨by decide +kernel, rfl, rfl⟩
theorem d_X0_listReached_17 : nD YX0_listReached 17 (.if_icmp .ge 98) 3 20 0 := ⟨by decide +kernel, rfl, rfl⟩
theorem d_X0_listReached_20 : nD YX0_listReached 20 (.aload_n 0) 1 21 0 := ⟨by decide +kernel, rfl, rfl⟩
theorem d_X0_listReached_21 : nD YX0_listReached 21 (.getfield 20) 3 24 0 := ⟨by decide +kernel, rfl, rfl⟩
theorem d_X0_listReached_24 : nD YX0_listReached 24 (.iload_n 3) 1 25 0 := ⟨by decide +kernel, rfl, rfl⟩
theorem d_X0_listReached_25 : nD YX0_listReached 25 (.aaload) 1 26 0 := ⟨by decide +kernel, rfl, rfl⟩
theorem d_X0_listReached_26 : nD YX0_listReached 26 (.iload 4) 2 28 0 := ⟨by decide +kernel, rfl, rfl⟩
theorem d_X0_listReached_28 : nD YX0_listReached 28 (.iaload) 1 29 0 := ⟨by decide +kernel, rfl, rfl⟩
theorem d_X0_listReached_29 : nD YX0_listReached 29 (.iconst 1) 1 30 0 := ⟨by decide +kernel, rfl, rfl⟩
theorem d_X0_listReached_30 : nD YX0_listReached 30 (.if_icmp .ne 79) 3 33 0 := ⟨by decide +kernel, rfl, rfl⟩
theorem d_X0_listReached_33 : nD YX0_listReached 33 (.aload_n 0) 1 34 0 := ⟨by decide +kernel, rfl, rfl⟩
theorem d_X0_listReached_34 : nD YX0_listReached 34 (.getfield 55) 3 37 0 := ⟨by decide +kernel, rfl, rfl⟩
theorem d_X0_listReached_37 : nD YX0_listReached 37 (.sipush 480) 3 40 0 := ⟨by decide +kernel, rfl, rfl⟩
theorem d_X0_listReached_40 : nD YX0_listReached 40 (.if_icmp .ge 69) 3 43 0 := ⟨by decide +kernel, rfl, rfl⟩
theorem d_X0_listReached_43 : nD YX0_listReached 43 (.aload_n 1) 1 44 0 := ⟨by decide +kernel, rfl, rfl⟩
theorem d_X0_listReached_44 : nD YX0_listReached 44 (.iload_n 3) 1 45 0 := ⟨by decide +kernel, rfl, rfl⟩
theorem d_X0_listReached_45 : nD YX0_listReached 45 (.iload 4) 2 47 0 := ⟨by decide +kernel, rfl, rfl⟩
theorem d_X0_listReached_47 : nD YX0_listReached 47 (.invokevirtual 29) 3 50 0 := ⟨by decide +kernel, rfl, rfl⟩
theorem d_X0_listReached_50 : nD YX0_listReached 50 (.istore 5) 2 52 0 := ⟨by decide +kernel, rfl, rfl⟩
theorem d_X0_listReached_52 : nD YX0_listReached 52 (.aload_n 0) 1 53 0 := ⟨by decide +kernel, rfl, rfl⟩
theorem d_X0_listReached_53 : nD YX0_listReached 53 (.getfield 9) 3 56 0 := ⟨by decide +kernel, rfl, rfl⟩
theorem d_X0_listReached_56 : nD YX0_listReached 56 (.aload_n 0) 1 57 0 := ⟨by decide +kernel, rfl, rfl⟩
theorem d_X0_listReached_57 : nD YX0_listReached 57 (.getfield 55) 3 60 0 := ⟨by decide +kernel, rfl, rfl⟩
theorem d_X0_listReached_60 : nD YX0_listReached 60 (.bipush 100) 2 62 0 := ⟨by decide +kernel, rfl, rfl⟩
theorem d_X0_listReached_62 : nD YX0_listReached 62 (.iload_n 3) 1 63 0 := ⟨by decide +kernel, rfl, rfl⟩
theorem d_X0_listReached_63 : nD YX0_listReached 63 (.imul) 1 64 0 := ⟨by decide +kernel, rfl, rfl⟩
theorem d_X0_listReached_64 : nD YX0_listReached 64 (.iload 4) 2 66 0 := ⟨by decide +kernel, rfl, rfl⟩
theorem d_X0_listReached_66 : nD YX0_listReached 66 (.iadd) 1 67 0 := ⟨by decide +kernel, rfl, rfl⟩
theorem d_X0_listReached_67 : nD YX0_listReached 67 (.iastore) 1 68 0 := ⟨by decide +kernel, rfl, rfl⟩
theorem d_X0_listReached_68 : nD YX0_listReached 68 (.aload_n 0) 1 69 0 := ⟨by decide +kernel, rfl, rfl⟩
theorem d_X0_listReached_69 : nD YX0_listReached 69 (.getfield 15) 3 72 0 := ⟨by decide +kernel, rfl, rfl⟩
theorem d_X0_listReached_72 : nD YX0_listReached 72 (.aload_n 0) 1 73 0 := ⟨by decide +kernel, rfl, rfl⟩
theorem d_X0_listReached_73 : nD YX0_listReached 73 (.getfield 55) 3 76 0 := ⟨by decide +kernel, rfl, rfl⟩
theorem d_X0_listReached_76 : nD YX0_listReached 76 (.iload 5) 2 78 0 := ⟨by decide +kernel, rfl, rfl⟩
theorem d_X0_listReached_78 : nD YX0_listReached 78 (.iconst 2) 1 79 0 := ⟨by decide +kernel, rfl, rfl⟩
theorem d_X0_listReached_79 : nD YX0_listReached 79 (.irem) 1 80 0 := ⟨by decide +kernel, rfl, rfl⟩
theorem d_X0_listReached_80 : nD YX0_listReached 80 (.iastore) 1 81 0 := ⟨by decide +kernel, rfl, rfl⟩
theorem d_X0_listReached_81 : nD YX0_listReached 81 (.aload_n 0) 1 82 0 := ⟨by decide +kernel, rfl, rfl⟩
theorem d_X0_listReached_82 : nD YX0_listReached 82 (.dup) 1 83 0 := ⟨by decide +kernel, rfl, rfl⟩
theorem d_X0_listReached_83 : nD YX0_listReached 83 (.getfield 61) 3 86 0 := ⟨by decide +kernel, rfl, rfl⟩
theorem d_X0_listReached_86 : nD YX0_listReached 86 (.iload 5) 2 88 0 := ⟨by decide +kernel, rfl, rfl⟩
theorem d_X0_listReached_88 : nD YX0_listReached 88 (.iconst 2) 1 89 0 := ⟨by decide +kernel, rfl, rfl⟩
theorem d_X0_listReached_89 : nD YX0_listReached 89 (.irem) 1 90 0 := ⟨by decide +kernel, rfl, rfl⟩
theorem d_X0_listReached_90 : nD YX0_listReached 90 (.iadd) 1 91 0 := ⟨by decide +kernel, rfl, rfl⟩
theorem d_X0_listReached_91 : nD YX0_listReached 91 (.putfield 61) 3 94 0 := ⟨by decide +kernel, rfl, rfl⟩
theorem d_X0_listReached_94 : nD YX0_listReached 94 (.iload_n 2) 1 95 0 := ⟨by decide +kernel, rfl, rfl⟩
theorem d_X0_listReached_95 : nD YX0_listReached 95 (.iload 5) 2 97 0 := ⟨by decide +kernel, rfl, rfl⟩
theorem d_X0_listReached_97 : nD YX0_listReached 97 (.iadd) 1 98 0 := ⟨by decide +kernel, rfl, rfl⟩
theorem d_X0_listReached_98 : nD YX0_listReached 98 (.istore_n 2) 1 99 0 := ⟨by decide +kernel, rfl, rfl⟩
theorem d_X0_listReached_99 : nD YX0_listReached 99 (.aload_n 0) 1 100 0 := ⟨by decide +kernel, rfl, rfl⟩
theorem d_X0_listReached_100 : nD YX0_listReached 100 (.dup) 1 101 0 := ⟨by decide +kernel, rfl, rfl⟩
theorem d_X0_listReached_101 : nD YX0_listReached 101 (.getfield 55) 3 104 0 := ⟨by decide +kernel, rfl, rfl⟩
theorem d_X0_listReached_104 : nD YX0_listReached 104 (.iconst 1) 1 105 0 := ⟨by decide +kernel, rfl, rfl⟩
theorem d_X0_listReached_105 : nD YX0_listReached 105 (.iadd) 1 106 0 := ⟨by decide +kernel, rfl, rfl⟩
theorem d_X0_listReached_106 : nD YX0_listReached 106 (.putfield 55) 3 109 0 := ⟨by decide +kernel, rfl, rfl⟩
theorem d_X0_listReached_109 : nD YX0_listReached 109 (.iinc 4 1) 3 112 0 := ⟨by decide +kernel, rfl, rfl⟩
theorem d_X0_listReached_112 : nD YX0_listReached 112 (.goto (-99)) 3 115 0 := ⟨by decide +kernel, rfl, rfl⟩
theorem d_X0_listReached_115 : nD YX0_listReached 115 (.iinc 3 1) 3 118 0 := ⟨by decide +kernel, rfl, rfl⟩
theorem d_X0_listReached_118 : nD YX0_listReached 118 (.goto (-114)) 3 121 0 := ⟨by decide +kernel, rfl, rfl⟩
theorem d_X0_listReached_121 : nD YX0_listReached 121 (.aload_n 0) 1 122 0 := ⟨by decide +kernel, rfl, rfl⟩
theorem d_X0_listReached_122 : nD YX0_listReached 122 (.iload_n 2) 1 123 0 := ⟨by decide +kernel, rfl, rfl⟩
theorem d_X0_listReached_123 : nD YX0_listReached 123 (.iconst 2) 1 124 0 := ⟨by decide +kernel, rfl, rfl⟩
theorem d_X0_listReached_124 : nD YX0_listReached 124 (.idiv) 1 125 0 := ⟨by decide +kernel, rfl, rfl⟩
theorem d_X0_listReached_125 : nD YX0_listReached 125 (.putfield 58) 3 128 0 := ⟨by decide +kernel, rfl, rfl⟩
theorem d_X0_listReached_128 : nD YX0_listReached 128 (.return_) 1 129 0 := ⟨by decide +kernel, rfl, rfl⟩
theorem d_X0_trace_0 : nD YX0_trace 0 (.aload_n 0) 1 1 0 := ⟨by decide +kernel, rfl, rfl⟩
theorem d_X0_trace_1 : nD YX0_trace 1 (.invokevirtual 26) 3 4 0 := ⟨by decide +kernel, rfl, rfl⟩
theorem d_X0_trace_4 : nD YX0_trace 4 (.aload_n 1) 1 5 0 := ⟨by decide +kernel, rfl, rfl⟩
theorem d_X0_trace_5 : nD YX0_trace 5 (.iload_n 2) 1 6 0 := ⟨by decide +kernel, rfl, rfl⟩
theorem d_X0_trace_6 : nD YX0_trace 6 (.iload_n 3) 1 7 0 := ⟨by decide +kernel, rfl, rfl⟩
theorem d_X0_trace_7 : nD YX0_trace 7 (.invokevirtual 29) 3 10 0 := ⟨by decide +kernel, rfl, rfl⟩
theorem d_X0_trace_10 : nD YX0_trace 10 (.ifCond .ne 4) 3 13 0 := ⟨by decide +kernel, rfl, rfl⟩
theorem d_X0_trace_13 : nD YX0_trace 13 (.return_) 1 14 0 := ⟨by decide +kernel, rfl, rfl⟩
theorem d_X0_trace_14 : nD YX0_trace 14 (.aload_n 0) 1 15 0 := ⟨by decide +kernel, rfl, rfl⟩
theorem d_X0_trace_15 : nD YX0_trace 15 (.iload_n 2) 1 16 0 := ⟨by decide +kernel, rfl, rfl⟩
theorem d_X0_trace_16 : nD YX0_trace 16 (.iload_n 3) 1 17 0 := ⟨by decide +kernel, rfl, rfl⟩
theorem d_X0_trace_17 : nD YX0_trace 17 (.invokevirtual 35) 3 20 0 := ⟨by decide +kernel, rfl, rfl⟩
theorem d_X0_trace_20 : nD YX0_trace 20 (.iconst 0) 1 21 0 := ⟨by decide +kernel, rfl, rfl⟩
theorem d_X0_trace_21 : nD YX0_trace 21 (.istore 4) 2 23 0 := ⟨by decide +kernel, rfl, rfl⟩
theorem d_X0_trace_23 : nD YX0_trace 23 (.iload 4) 2 25 0 := ⟨by decide +kernel, rfl, rfl⟩
theorem d_X0_trace_25 : nD YX0_trace 25 (.aload_n 0) 1 26 0 := ⟨by decide +kernel, rfl, rfl⟩
theorem d_X0_trace_26 : nD YX0_trace 26 (.getfield 39) 3 29 0 := ⟨by decide +kernel, rfl, rfl⟩
theorem d_X0_trace_29 : nD YX0_trace 29 (.if_icmp .ge 42) 3 32 0 := ⟨by decide +kernel, rfl, rfl⟩
theorem d_X0_trace_32 : nD YX0_trace 32 (.iload 4) 2 34 0 := ⟨by decide +kernel, rfl, rfl⟩
theorem d_X0_trace_34 : nD YX0_trace 34 (.sipush 480) 3 37 0 := ⟨by decide +kernel, rfl, rfl⟩
theorem d_X0_trace_37 : nD YX0_trace 37 (.if_icmp .ge 34) 3 40 0 := ⟨by decide +kernel, rfl, rfl⟩
theorem d_X0_trace_40 : nD YX0_trace 40 (.aload_n 0) 1 41 0 := ⟨by decide +kernel, rfl, rfl⟩
theorem d_X0_trace_41 : nD YX0_trace 41 (.aload_n 1) 1 42 0 := ⟨by decide +kernel, rfl, rfl⟩
theorem d_X0_trace_42 : nD YX0_trace 42 (.aload_n 0) 1 43 0 := ⟨by decide +kernel, rfl, rfl⟩
theorem d_X0_trace_43 : nD YX0_trace 43 (.getfield 23) 3 46 0 := ⟨by decide +kernel, rfl, rfl⟩
theorem d_X0_trace_46 : nD YX0_trace 46 (.iload 4) 2 48 0 := ⟨by decide +kernel, rfl, rfl⟩
theorem d_X0_trace_48 : nD YX0_trace 48 (.iaload) 1 49 0 := ⟨by decide +kernel, rfl, rfl⟩
theorem d_X0_trace_49 : nD YX0_trace 49 (.bipush 100) 2 51 0 := ⟨by decide +kernel, rfl, rfl⟩
theorem d_X0_trace_51 : nD YX0_trace 51 (.idiv) 1 52 0 := ⟨by decide +kernel, rfl, rfl⟩
theorem d_X0_trace_52 : nD YX0_trace 52 (.aload_n 0) 1 53 0 := ⟨by decide +kernel, rfl, rfl⟩
theorem d_X0_trace_53 : nD YX0_trace 53 (.getfield 23) 3 56 0 := ⟨by decide +kernel, rfl, rfl⟩
theorem d_X0_trace_56 : nD YX0_trace 56 (.iload 4) 2 58 0 := ⟨by decide +kernel, rfl, rfl⟩
theorem d_X0_trace_58 : nD YX0_trace 58 (.iaload) 1 59 0 := ⟨by decide +kernel, rfl, rfl⟩
theorem d_X0_trace_59 : nD YX0_trace 59 (.bipush 100) 2 61 0 := ⟨by decide +kernel, rfl, rfl⟩
theorem d_X0_trace_61 : nD YX0_trace 61 (.irem) 1 62 0 := ⟨by decide +kernel, rfl, rfl⟩
theorem d_X0_trace_62 : nD YX0_trace 62 (.invokevirtual 43) 3 65 0 := ⟨by decide +kernel, rfl, rfl⟩
theorem d_X0_trace_65 : nD YX0_trace 65 (.iinc 4 1) 3 68 0 := ⟨by decide +kernel, rfl, rfl⟩
theorem d_X0_trace_68 : nD YX0_trace 68 (.goto (-45)) 3 71 0 := ⟨by decide +kernel, rfl, rfl⟩
theorem d_X0_trace_71 : nD YX0_trace 71 (.aload_n 0) 1 72 0 := ⟨by decide +kernel, rfl, rfl⟩
theorem d_X0_trace_72 : nD YX0_trace 72 (.aload_n 1) 1 73 0 := ⟨by decide +kernel, rfl, rfl⟩
theorem d_X0_trace_73 : nD YX0_trace 73 (.invokevirtual 47) 3 76 0 := ⟨by decide +kernel, rfl, rfl⟩
theorem d_X0_trace_76 : nD YX0_trace 76 (.return_) 1 77 0 := ⟨by decide +kernel, rfl, rfl⟩
theorem d_X0_twines_0 : nD YX0_twines 0 (.aload_n 0) 1 1 0 := ⟨by decide +kernel, rfl, rfl⟩
theorem d_X0_twines_1 : nD YX0_twines 1 (.getfield 55) 3 4 0 := ⟨by decide +kernel, rfl, rfl⟩
theorem d_X0_twines_4 : nD YX0_twines 4 (.ifCond .ne 5) 3 7 0 := ⟨by decide +kernel, rfl, rfl⟩
theorem d_X0_twines_7 : nD YX0_twines 7 (.iconst 0) 1 8 0 := ⟨by decide +kernel, rfl, rfl⟩
theorem d_X0_twines_8 : nD YX0_twines 8 (.ireturn) 1 9 0 := ⟨by decide +kernel, rfl, rfl⟩
theorem d_X0_twines_9 : nD YX0_twines 9 (.aload_n 0) 1 10 0 := ⟨by decide +kernel, rfl, rfl⟩
theorem d_X0_twines_10 : nD YX0_twines 10 (.getfield 61) 3 13 0 := ⟨by decide +kernel, rfl, rfl⟩
theorem d_X0_twines_13 : nD YX0_twines 13 (.ifCond .ne 7) 3 16 0 := ⟨by decide +kernel, rfl, rfl⟩
theorem d_X0_twines_16 : nD YX0_twines 16 (.iconst 1) 1 17 0 := ⟨by decide +kernel, rfl, rfl⟩
theorem d_X0_twines_17 : nD YX0_twines 17 (.goto 9) 3 20 0 := ⟨by decide +kernel, rfl, rfl⟩
theorem d_X0_twines_20 : nD YX0_twines 20 (.aload_n 0) 1 21 0 := ⟨by decide +kernel, rfl, rfl⟩
theorem d_X0_twines_21 : nD YX0_twines 21 (.getfield 61) 3 24 0 := ⟨by decide +kernel, rfl, rfl⟩
theorem d_X0_twines_24 : nD YX0_twines 24 (.iconst 2) 1 25 0 := ⟨by decide +kernel, rfl, rfl⟩
theorem d_X0_twines_25 : nD YX0_twines 25 (.idiv) 1 26 0 := ⟨by decide +kernel, rfl, rfl⟩
theorem d_X0_twines_26 : nD YX0_twines 26 (.ireturn) 1 27 0 := ⟨by decide +kernel, rfl, rfl⟩
theorem d_X0_tell_0 : nD YX0_tell 0 (.aload_n 0) 1 1 0 := ⟨by decide +kernel, rfl, rfl⟩
theorem d_X0_tell_1 : nD YX0_tell 1 (.getfield 51) 3 4 0 := ⟨by decide +kernel, rfl, rfl⟩
theorem d_X0_tell_4 : nD YX0_tell 4 (.ifCond .ne 5) 3 7 0 := ⟨by decide +kernel, rfl, rfl⟩
theorem d_X0_tell_7 : nD YX0_tell 7 (.iconst (-1)) 1 8 0 := ⟨by decide +kernel, rfl, rfl⟩
theorem d_X0_tell_8 : nD YX0_tell 8 (.ireturn) 1 9 0 := ⟨by decide +kernel, rfl, rfl⟩
theorem d_X0_tell_9 : nD YX0_tell 9 (.iload_n 2) 1 10 0 := ⟨by decide +kernel, rfl, rfl⟩
theorem d_X0_tell_10 : nD YX0_tell 10 (.tableswitch 99 0 4 #[34, 59, 84, 89, 94]) 34 44 0 := ⟨by decide +kernel, rfl, rfl⟩
theorem d_X0_tell_44 : nD YX0_tell 44 (.iload_n 1) 1 45 0 := ⟨by decide +kernel, rfl, rfl⟩
theorem d_X0_tell_45 : nD YX0_tell 45 (.iconst 0) 1 46 0 := ⟨by decide +kernel, rfl, rfl⟩
theorem d_X0_tell_46 : nD YX0_tell 46 (.aload_n 0) 1 47 0 := ⟨by decide +kernel, rfl, rfl⟩
theorem d_X0_tell_47 : nD YX0_tell 47 (.getfield 55) 3 50 0 := ⟨by decide +kernel, rfl, rfl⟩
theorem d_X0_tell_50 : nD YX0_tell 50 (.iconst 1) 1 51 0 := ⟨by decide +kernel, rfl, rfl⟩
theorem d_X0_tell_51 : nD YX0_tell 51 (.isub) 1 52 0 := ⟨by decide +kernel, rfl, rfl⟩
theorem d_X0_tell_52 : nD YX0_tell 52 (.invokestatic 64) 3 55 0 := ⟨by decide +kernel, rfl, rfl⟩
theorem d_X0_tell_55 : nD YX0_tell 55 (.ifCond .eq 12) 3 58 0 := ⟨by decide +kernel, rfl, rfl⟩
theorem d_X0_tell_58 : nD YX0_tell 58 (.aload_n 0) 1 59 0 := ⟨by decide +kernel, rfl, rfl⟩
theorem d_X0_tell_59 : nD YX0_tell 59 (.getfield 9) 3 62 0 := ⟨by decide +kernel, rfl, rfl⟩
theorem d_X0_tell_62 : nD YX0_tell 62 (.iload_n 1) 1 63 0 := ⟨by decide +kernel, rfl, rfl⟩
theorem d_X0_tell_63 : nD YX0_tell 63 (.iaload) 1 64 0 := ⟨by decide +kernel, rfl, rfl⟩
theorem d_X0_tell_64 : nD YX0_tell 64 (.goto 4) 3 67 0 := ⟨by decide +kernel, rfl, rfl⟩
theorem d_X0_tell_67 : nD YX0_tell 67 (.iconst (-1)) 1 68 0 := ⟨by decide +kernel, rfl, rfl⟩
theorem d_X0_tell_68 : nD YX0_tell 68 (.ireturn) 1 69 0 := ⟨by decide +kernel, rfl, rfl⟩
theorem d_X0_tell_69 : nD YX0_tell 69 (.iload_n 1) 1 70 0 := ⟨by decide +kernel, rfl, rfl⟩
theorem d_X0_tell_70 : nD YX0_tell 70 (.iconst 0) 1 71 0 := ⟨by decide +kernel, rfl, rfl⟩
theorem d_X0_tell_71 : nD YX0_tell 71 (.aload_n 0) 1 72 0 := ⟨by decide +kernel, rfl, rfl⟩
theorem d_X0_tell_72 : nD YX0_tell 72 (.getfield 55) 3 75 0 := ⟨by decide +kernel, rfl, rfl⟩
theorem d_X0_tell_75 : nD YX0_tell 75 (.iconst 1) 1 76 0 := ⟨by decide +kernel, rfl, rfl⟩
theorem d_X0_tell_76 : nD YX0_tell 76 (.isub) 1 77 0 := ⟨by decide +kernel, rfl, rfl⟩
theorem d_X0_tell_77 : nD YX0_tell 77 (.invokestatic 64) 3 80 0 := ⟨by decide +kernel, rfl, rfl⟩
theorem d_X0_tell_80 : nD YX0_tell 80 (.ifCond .eq 12) 3 83 0 := ⟨by decide +kernel, rfl, rfl⟩
theorem d_X0_tell_83 : nD YX0_tell 83 (.aload_n 0) 1 84 0 := ⟨by decide +kernel, rfl, rfl⟩
theorem d_X0_tell_84 : nD YX0_tell 84 (.getfield 15) 3 87 0 := ⟨by decide +kernel, rfl, rfl⟩
theorem d_X0_tell_87 : nD YX0_tell 87 (.iload_n 1) 1 88 0 := ⟨by decide +kernel, rfl, rfl⟩
theorem d_X0_tell_88 : nD YX0_tell 88 (.iaload) 1 89 0 := ⟨by decide +kernel, rfl, rfl⟩
theorem d_X0_tell_89 : nD YX0_tell 89 (.goto 4) 3 92 0 := ⟨by decide +kernel, rfl, rfl⟩
theorem d_X0_tell_92 : nD YX0_tell 92 (.iconst (-1)) 1 93 0 := ⟨by decide +kernel, rfl, rfl⟩
theorem d_X0_tell_93 : nD YX0_tell 93 (.ireturn) 1 94 0 := ⟨by decide +kernel, rfl, rfl⟩
theorem d_X0_tell_94 : nD YX0_tell 94 (.aload_n 0) 1 95 0 := ⟨by decide +kernel, rfl, rfl⟩
theorem d_X0_tell_95 : nD YX0_tell 95 (.getfield 58) 3 98 0 := ⟨by decide +kernel, rfl, rfl⟩
theorem d_X0_tell_98 : nD YX0_tell 98 (.ireturn) 1 99 0 := ⟨by decide +kernel, rfl, rfl⟩
theorem d_X0_tell_99 : nD YX0_tell 99 (.aload_n 0) 1 100 0 := ⟨by decide +kernel, rfl, rfl⟩
theorem d_X0_tell_100 : nD YX0_tell 100 (.getfield 61) 3 103 0 := ⟨by decide +kernel, rfl, rfl⟩
theorem d_X0_tell_103 : nD YX0_tell 103 (.ireturn) 1 104 0 := ⟨by decide +kernel, rfl, rfl⟩
theorem d_X0_tell_104 : nD YX0_tell 104 (.aload_n 0) 1 105 0 := ⟨by decide +kernel, rfl, rfl⟩
theorem d_X0_tell_105 : nD YX0_tell 105 (.invokevirtual 81) 3 108 0 := ⟨by decide +kernel, rfl, rfl⟩
theorem d_X0_tell_108 : nD YX0_tell 108 (.ireturn) 1 109 0 := ⟨by decide +kernel, rfl, rfl⟩
theorem d_X0_tell_109 : nD YX0_tell 109 (.iconst (-1)) 1 110 0 := ⟨by decide +kernel, rfl, rfl⟩
theorem d_X0_tell_110 : nD YX0_tell 110 (.ireturn) 1 111 0 := ⟨by decide +kernel, rfl, rfl⟩
theorem d_X0_hasNeedle_0 : nD YX0_hasNeedle 0 (.iconst 0) 1 1 0 := ⟨by decide +kernel, rfl, rfl⟩
theorem d_X0_hasNeedle_1 : nD YX0_hasNeedle 1 (.istore_n 2) 1 2 0 := ⟨by decide +kernel, rfl, rfl⟩
theorem d_X0_hasNeedle_2 : nD YX0_hasNeedle 2 (.iload_n 2) 1 3 0 := ⟨by decide +kernel, rfl, rfl⟩
theorem d_X0_hasNeedle_3 : nD YX0_hasNeedle 3 (.aload_n 0) 1 4 0 := ⟨by decide +kernel, rfl, rfl⟩
theorem d_X0_hasNeedle_4 : nD YX0_hasNeedle 4 (.getfield 55) 3 7 0 := ⟨by decide +kernel, rfl, rfl⟩
theorem d_X0_hasNeedle_7 : nD YX0_hasNeedle 7 (.if_icmp .ge 53) 3 10 0 := ⟨by decide +kernel, rfl, rfl⟩
theorem d_X0_hasNeedle_10 : nD YX0_hasNeedle 10 (.aload_n 0) 1 11 0 := ⟨by decide +kernel, rfl, rfl⟩
theorem d_X0_hasNeedle_11 : nD YX0_hasNeedle 11 (.getfield 9) 3 14 0 := ⟨by decide +kernel, rfl, rfl⟩
theorem d_X0_hasNeedle_14 : nD YX0_hasNeedle 14 (.iload_n 2) 1 15 0 := ⟨by decide +kernel, rfl, rfl⟩
theorem d_X0_hasNeedle_15 : nD YX0_hasNeedle 15 (.iaload) 1 16 0 := ⟨by decide +kernel, rfl, rfl⟩
theorem d_X0_hasNeedle_16 : nD YX0_hasNeedle 16 (.bipush 100) 2 18 0 := ⟨by decide +kernel, rfl, rfl⟩
theorem d_X0_hasNeedle_18 : nD YX0_hasNeedle 18 (.irem) 1 19 0 := ⟨by decide +kernel, rfl, rfl⟩
theorem d_X0_hasNeedle_19 : nD YX0_hasNeedle 19 (.istore_n 3) 1 20 0 := ⟨by decide +kernel, rfl, rfl⟩
theorem d_X0_hasNeedle_20 : nD YX0_hasNeedle 20 (.aload_n 1) 1 21 0 := ⟨by decide +kernel, rfl, rfl⟩
theorem d_X0_hasNeedle_21 : nD YX0_hasNeedle 21 (.aload_n 0) 1 22 0 := ⟨by decide +kernel, rfl, rfl⟩
theorem d_X0_hasNeedle_22 : nD YX0_hasNeedle 22 (.getfield 9) 3 25 0 := ⟨by decide +kernel, rfl, rfl⟩
theorem d_X0_hasNeedle_25 : nD YX0_hasNeedle 25 (.iload_n 2) 1 26 0 := ⟨by decide +kernel, rfl, rfl⟩
theorem d_X0_hasNeedle_26 : nD YX0_hasNeedle 26 (.iaload) 1 27 0 := ⟨by decide +kernel, rfl, rfl⟩
theorem d_X0_hasNeedle_27 : nD YX0_hasNeedle 27 (.bipush 100) 2 29 0 := ⟨by decide +kernel, rfl, rfl⟩
theorem d_X0_hasNeedle_29 : nD YX0_hasNeedle 29 (.idiv) 1 30 0 := ⟨by decide +kernel, rfl, rfl⟩
theorem d_X0_hasNeedle_30 : nD YX0_hasNeedle 30 (.iload_n 3) 1 31 0 := ⟨by decide +kernel, rfl, rfl⟩
theorem d_X0_hasNeedle_31 : nD YX0_hasNeedle 31 (.invokevirtual 85) 3 34 0 := ⟨by decide +kernel, rfl, rfl⟩
theorem d_X0_hasNeedle_34 : nD YX0_hasNeedle 34 (.astore 4) 2 36 0 := ⟨by decide +kernel, rfl, rfl⟩
theorem d_X0_hasNeedle_36 : nD YX0_hasNeedle 36 (.aload 4) 2 38 0 := ⟨by decide +kernel, rfl, rfl⟩
theorem d_X0_hasNeedle_38 : nD YX0_hasNeedle 38 (.ifnull 16) 3 41 0 := ⟨by decide +kernel, rfl, rfl⟩
theorem d_X0_hasNeedle_41 : nD YX0_hasNeedle 41 (.aload 4) 2 43 0 := ⟨by decide +kernel, rfl, rfl⟩
theorem d_X0_hasNeedle_43 : nD YX0_hasNeedle 43 (.getfield 89) 3 46 0 := ⟨by decide +kernel, rfl, rfl⟩
theorem d_X0_hasNeedle_46 : nD YX0_hasNeedle 46 (.iload_n 3) 1 47 0 := ⟨by decide +kernel, rfl, rfl⟩
theorem d_X0_hasNeedle_47 : nD YX0_hasNeedle 47 (.iaload) 1 48 0 := ⟨by decide +kernel, rfl, rfl⟩
theorem d_X0_hasNeedle_48 : nD YX0_hasNeedle 48 (.iconst 1) 1 49 0 := ⟨by decide +kernel, rfl, rfl⟩
theorem d_X0_hasNeedle_49 : nD YX0_hasNeedle 49 (.if_icmp .ne 5) 3 52 0 := ⟨by decide +kernel, rfl, rfl⟩
theorem d_X0_hasNeedle_52 : nD YX0_hasNeedle 52 (.iconst 1) 1 53 0 := ⟨by decide +kernel, rfl, rfl⟩
theorem d_X0_hasNeedle_53 : nD YX0_hasNeedle 53 (.ireturn) 1 54 0 := ⟨by decide +kernel, rfl, rfl⟩
theorem d_X0_hasNeedle_54 : nD YX0_hasNeedle 54 (.iinc 2 1) 3 57 0 := ⟨by decide +kernel, rfl, rfl⟩
theorem d_X0_hasNeedle_57 : nD YX0_hasNeedle 57 (.goto (-55)) 3 60 0 := ⟨by decide +kernel, rfl, rfl⟩
theorem d_X0_hasNeedle_60 : nD YX0_hasNeedle 60 (.iconst 0) 1 61 0 := ⟨by decide +kernel, rfl, rfl⟩
theorem d_X0_hasNeedle_61 : nD YX0_hasNeedle 61 (.ireturn) 1 62 0 := ⟨by decide +kernel, rfl, rfl⟩
theorem d_X0_beginning_0 : nD YX0_beginning 0 (.iconst 0) 1 1 0 := ⟨by decide +kernel, rfl, rfl⟩
theorem d_X0_beginning_1 : nD YX0_beginning 1 (.istore_n 1) 1 2 0 := ⟨by decide +kernel, rfl, rfl⟩
theorem d_X0_beginning_2 : nD YX0_beginning 2 (.iload_n 1) 1 3 0 := ⟨by decide +kernel, rfl, rfl⟩
theorem d_X0_beginning_3 : nD YX0_beginning 3 (.aload_n 0) 1 4 0 := ⟨by decide +kernel, rfl, rfl⟩
theorem d_X0_beginning_4 : nD YX0_beginning 4 (.getfield 55) 3 7 0 := ⟨by decide +kernel, rfl, rfl⟩
theorem d_X0_beginning_7 : nD YX0_beginning 7 (.if_icmp .ge 26) 3 10 0 := ⟨by decide +kernel, rfl, rfl⟩
theorem d_X0_beginning_10 : nD YX0_beginning 10 (.aload_n 0) 1 11 0 := ⟨by decide +kernel, rfl, rfl⟩
theorem d_X0_beginning_11 : nD YX0_beginning 11 (.getfield 15) 3 14 0 := ⟨by decide +kernel, rfl, rfl⟩
theorem d_X0_beginning_14 : nD YX0_beginning 14 (.iload_n 1) 1 15 0 := ⟨by decide +kernel, rfl, rfl⟩
theorem d_X0_beginning_15 : nD YX0_beginning 15 (.iaload) 1 16 0 := ⟨by decide +kernel, rfl, rfl⟩
theorem d_X0_beginning_16 : nD YX0_beginning 16 (.iconst 1) 1 17 0 := ⟨by decide +kernel, rfl, rfl⟩
theorem d_X0_beginning_17 : nD YX0_beginning 17 (.if_icmp .ne 10) 3 20 0 := ⟨by decide +kernel, rfl, rfl⟩
theorem d_X0_beginning_20 : nD YX0_beginning 20 (.aload_n 0) 1 21 0 := ⟨by decide +kernel, rfl, rfl⟩
theorem d_X0_beginning_21 : nD YX0_beginning 21 (.getfield 9) 3 24 0 := ⟨by decide +kernel, rfl, rfl⟩
theorem d_X0_beginning_24 : nD YX0_beginning 24 (.iload_n 1) 1 25 0 := ⟨by decide +kernel, rfl, rfl⟩
theorem d_X0_beginning_25 : nD YX0_beginning 25 (.iaload) 1 26 0 := ⟨by decide +kernel, rfl, rfl⟩
theorem d_X0_beginning_26 : nD YX0_beginning 26 (.ireturn) 1 27 0 := ⟨by decide +kernel, rfl, rfl⟩
theorem d_X0_beginning_27 : nD YX0_beginning 27 (.iinc 1 1) 3 30 0 := ⟨by decide +kernel, rfl, rfl⟩
theorem d_X0_beginning_30 : nD YX0_beginning 30 (.goto (-28)) 3 33 0 := ⟨by decide +kernel, rfl, rfl⟩
theorem d_X0_beginning_33 : nD YX0_beginning 33 (.aload_n 0) 1 34 0 := ⟨by decide +kernel, rfl, rfl⟩
theorem d_X0_beginning_34 : nD YX0_beginning 34 (.getfield 9) 3 37 0 := ⟨by decide +kernel, rfl, rfl⟩
theorem d_X0_beginning_37 : nD YX0_beginning 37 (.iconst 0) 1 38 0 := ⟨by decide +kernel, rfl, rfl⟩
theorem d_X0_beginning_38 : nD YX0_beginning 38 (.iaload) 1 39 0 := ⟨by decide +kernel, rfl, rfl⟩
theorem d_X0_beginning_39 : nD YX0_beginning 39 (.ireturn) 1 40 0 := ⟨by decide +kernel, rfl, rfl⟩
theorem d_X1_init_0 : nD YX1_init 0 (.aload_n 0) 1 1 1 := ⟨by decide +kernel, rfl, rfl⟩
theorem d_X1_init_1 : nD YX1_init 1 (.invokespecial 3) 3 4 1 := ⟨by decide +kernel, rfl, rfl⟩
theorem d_X1_init_4 : nD YX1_init 4 (.aload_n 0) 1 5 1 := ⟨by decide +kernel, rfl, rfl⟩
theorem d_X1_init_5 : nD YX1_init 5 (.bipush 20) 2 7 1 := ⟨by decide +kernel, rfl, rfl⟩
theorem d_X1_init_7 : nD YX1_init 7 (.bipush 24) 2 9 1 := ⟨by decide +kernel, rfl, rfl⟩
theorem d_X1_init_9 : nD YX1_init 9 (.multianewarray 9 2) 4 13 1 := ⟨by decide +kernel, rfl, rfl⟩
theorem d_X1_init_13 : nD YX1_init 13 (.putfield 11) 3 16 1 := ⟨by decide +kernel, rfl, rfl⟩
theorem d_X1_init_16 : nD YX1_init 16 (.aload_n 0) 1 17 1 := ⟨by decide +kernel, rfl, rfl⟩
theorem d_X1_init_17 : nD YX1_init 17 (.bipush 24) 2 19 1 := ⟨by decide +kernel, rfl, rfl⟩
theorem d_X1_init_19 : nD YX1_init 19 (.newarray .int) 2 21 1 := ⟨by decide +kernel, rfl, rfl⟩
theorem d_X1_init_21 : nD YX1_init 21 (.putfield 16) 3 24 1 := ⟨by decide +kernel, rfl, rfl⟩
theorem d_X1_init_24 : nD YX1_init 24 (.return_) 1 25 1 := ⟨by decide +kernel, rfl, rfl⟩
theorem d_X1_countWholeSides_0 : nD YX1_countWholeSides 0 (.iconst 0) 1 1 1 := ⟨by decide +kernel, rfl, rfl⟩
theorem d_X1_countWholeSides_1 : nD YX1_countWholeSides 1 (.istore_n 2) 1 2 1 := ⟨by decide +kernel, rfl, rfl⟩
theorem d_X1_countWholeSides_2 : nD YX1_countWholeSides 2 (.iload_n 2) 1 3 1 := ⟨by decide +kernel, rfl, rfl⟩
theorem d_X1_countWholeSides_3 : nD YX1_countWholeSides 3 (.bipush 24) 2 5 1 := ⟨by decide +kernel, rfl, rfl⟩
theorem d_X1_countWholeSides_5 : nD YX1_countWholeSides 5 (.if_icmp .ge 16) 3 8 1 := ⟨by decide +kernel, rfl, rfl⟩
theorem d_X1_countWholeSides_8 : nD YX1_countWholeSides 8 (.aload_n 0) 1 9 1 := ⟨by decide +kernel, rfl, rfl⟩
theorem d_X1_countWholeSides_9 : nD YX1_countWholeSides 9 (.getfield 16) 3 12 1 := ⟨by decide +kernel, rfl, rfl⟩
theorem d_X1_countWholeSides_12 : nD YX1_countWholeSides 12 (.iload_n 2) 1 13 1 := ⟨by decide +kernel, rfl, rfl⟩
theorem d_X1_countWholeSides_13 : nD YX1_countWholeSides 13 (.iconst 0) 1 14 1 := ⟨by decide +kernel, rfl, rfl⟩
theorem d_X1_countWholeSides_14 : nD YX1_countWholeSides 14 (.iastore) 1 15 1 := ⟨by decide +kernel, rfl, rfl⟩
theorem d_X1_countWholeSides_15 : nD YX1_countWholeSides 15 (.iinc 2 1) 3 18 1 := ⟨by decide +kernel, rfl, rfl⟩
theorem d_X1_countWholeSides_18 : nD YX1_countWholeSides 18 (.goto (-16)) 3 21 1 := ⟨by decide +kernel, rfl, rfl⟩
theorem d_X1_countWholeSides_21 : nD YX1_countWholeSides 21 (.iconst 0) 1 22 1 := ⟨by decide +kernel, rfl, rfl⟩
theorem d_X1_countWholeSides_22 : nD YX1_countWholeSides 22 (.istore_n 2) 1 23 1 := ⟨by decide +kernel, rfl, rfl⟩
theorem d_X1_countWholeSides_23 : nD YX1_countWholeSides 23 (.iload_n 2) 1 24 1 := ⟨by decide +kernel, rfl, rfl⟩
theorem d_X1_countWholeSides_24 : nD YX1_countWholeSides 24 (.aload_n 1) 1 25 1 := ⟨by decide +kernel, rfl, rfl⟩
theorem d_X1_countWholeSides_25 : nD YX1_countWholeSides 25 (.getfield 57) 3 28 1 := ⟨by decide +kernel, rfl, rfl⟩
theorem d_X1_countWholeSides_28 : nD YX1_countWholeSides 28 (.if_icmp .ge 61) 3 31 1 := ⟨by decide +kernel, rfl, rfl⟩
theorem d_X1_countWholeSides_31 : nD YX1_countWholeSides 31 (.iconst 0) 1 32 1 := ⟨by decide +kernel, rfl, rfl⟩
theorem d_X1_countWholeSides_32 : nD YX1_countWholeSides 32 (.istore_n 3) 1 33 1 := ⟨by decide +kernel, rfl, rfl⟩
theorem d_X1_countWholeSides_33 : nD YX1_countWholeSides 33 (.iload_n 3) 1 34 1 := ⟨by decide +kernel, rfl, rfl⟩
theorem d_X1_countWholeSides_34 : nD YX1_countWholeSides 34 (.aload_n 1) 1 35 1 := ⟨by decide +kernel, rfl, rfl⟩
theorem d_X1_countWholeSides_35 : nD YX1_countWholeSides 35 (.getfield 62) 3 38 1 := ⟨by decide +kernel, rfl, rfl⟩
theorem d_X1_countWholeSides_38 : nD YX1_countWholeSides 38 (.iload_n 2) 1 39 1 := ⟨by decide +kernel, rfl, rfl⟩
theorem d_X1_countWholeSides_39 : nD YX1_countWholeSides 39 (.iaload) 1 40 1 := ⟨by decide +kernel, rfl, rfl⟩
theorem d_X1_countWholeSides_40 : nD YX1_countWholeSides 40 (.if_icmp .ge 43) 3 43 1 := ⟨by decide +kernel, rfl, rfl⟩
theorem d_X1_countWholeSides_43 : nD YX1_countWholeSides 43 (.aload_n 1) 1 44 1 := ⟨by decide +kernel, rfl, rfl⟩
theorem d_X1_countWholeSides_44 : nD YX1_countWholeSides 44 (.getfield 65) 3 47 1 := ⟨by decide +kernel, rfl, rfl⟩
theorem d_X1_countWholeSides_47 : nD YX1_countWholeSides 47 (.iload_n 2) 1 48 1 := ⟨by decide +kernel, rfl, rfl⟩
theorem d_X1_countWholeSides_48 : nD YX1_countWholeSides 48 (.iaload) 1 49 1 := ⟨by decide +kernel, rfl, rfl⟩
theorem d_X1_countWholeSides_49 : nD YX1_countWholeSides 49 (.iload_n 3) 1 50 1 := ⟨by decide +kernel, rfl, rfl⟩
theorem d_X1_countWholeSides_50 : nD YX1_countWholeSides 50 (.iadd) 1 51 1 := ⟨by decide +kernel, rfl, rfl⟩
theorem d_X1_countWholeSides_51 : nD YX1_countWholeSides 51 (.istore 4) 2 53 1 := ⟨by decide +kernel, rfl, rfl⟩
theorem d_X1_countWholeSides_53 : nD YX1_countWholeSides 53 (.aload_n 0) 1 54 1 := ⟨by decide +kernel, rfl, rfl⟩
theorem d_X1_countWholeSides_54 : nD YX1_countWholeSides 54 (.getfield 16) 3 57 1 := ⟨by decide +kernel, rfl, rfl⟩
theorem d_X1_countWholeSides_57 : nD YX1_countWholeSides 57 (.iload 4) 2 59 1 := ⟨by decide +kernel, rfl, rfl⟩
theorem d_X1_countWholeSides_59 : nD YX1_countWholeSides 59 (.dup2) 1 60 1 := ⟨by decide +kernel, rfl, rfl⟩
theorem d_X1_countWholeSides_60 : nD YX1_countWholeSides 60 (.iaload) 1 61 1 := ⟨by decide +kernel, rfl, rfl⟩
theorem d_X1_countWholeSides_61 : nD YX1_countWholeSides 61 (.aload_n 1) 1 62 1 := ⟨by decide +kernel, rfl, rfl⟩
theorem d_X1_countWholeSides_62 : nD YX1_countWholeSides 62 (.iload_n 2) 1 63 1 := ⟨by decide +kernel, rfl, rfl⟩
theorem d_X1_countWholeSides_63 : nD YX1_countWholeSides 63 (.iload_n 3) 1 64 1 := ⟨by decide +kernel, rfl, rfl⟩
theorem d_X1_countWholeSides_64 : nD YX1_countWholeSides 64 (.invokevirtual 68) 3 67 1 := ⟨by decide +kernel, rfl, rfl⟩
theorem d_X1_countWholeSides_67 : nD YX1_countWholeSides 67 (.ifCond .eq 7) 3 70 1 := ⟨by decide +kernel, rfl, rfl⟩
theorem d_X1_countWholeSides_70 : nD YX1_countWholeSides 70 (.iconst 0) 1 71 1 := ⟨by decide +kernel, rfl, rfl⟩
theorem d_X1_countWholeSides_71 : nD YX1_countWholeSides 71 (.goto 4) 3 74 1 := ⟨by decide +kernel, rfl, rfl⟩
theorem d_X1_countWholeSides_74 : nD YX1_countWholeSides 74 (.iconst 1) 1 75 1 := ⟨by decide +kernel, rfl, rfl⟩
theorem d_X1_countWholeSides_75 : nD YX1_countWholeSides 75 (.iadd) 1 76 1 := ⟨by decide +kernel, rfl, rfl⟩
theorem d_X1_countWholeSides_76 : nD YX1_countWholeSides 76 (.iastore) 1 77 1 := ⟨by decide +kernel, rfl, rfl⟩
theorem d_X1_countWholeSides_77 : nD YX1_countWholeSides 77 (.iinc 3 1) 3 80 1 := ⟨by decide +kernel, rfl, rfl⟩
theorem d_X1_countWholeSides_80 : nD YX1_countWholeSides 80 (.goto (-47)) 3 83 1 := ⟨by decide +kernel, rfl, rfl⟩
theorem d_X1_countWholeSides_83 : nD YX1_countWholeSides 83 (.iinc 2 1) 3 86 1 := ⟨by decide +kernel, rfl, rfl⟩
theorem d_X1_countWholeSides_86 : nD YX1_countWholeSides 86 (.goto (-63)) 3 89 1 := ⟨by decide +kernel, rfl, rfl⟩
theorem d_X1_countWholeSides_89 : nD YX1_countWholeSides 89 (.return_) 1 90 1 := ⟨by decide +kernel, rfl, rfl⟩
theorem d_X1_lose_0 : nD YX1_lose 0 (.iconst 0) 1 1 1 := ⟨by decide +kernel, rfl, rfl⟩
theorem d_X1_lose_1 : nD YX1_lose 1 (.istore_n 3) 1 2 1 := ⟨by decide +kernel, rfl, rfl⟩
theorem d_X1_lose_2 : nD YX1_lose 2 (.iload_n 3) 1 3 1 := ⟨by decide +kernel, rfl, rfl⟩
theorem d_X1_lose_3 : nD YX1_lose 3 (.aload_n 2) 1 4 1 := ⟨by decide +kernel, rfl, rfl⟩
theorem d_X1_lose_4 : nD YX1_lose 4 (.getfield 57) 3 7 1 := ⟨by decide +kernel, rfl, rfl⟩
theorem d_X1_lose_7 : nD YX1_lose 7 (.if_icmp .ge 35) 3 10 1 := ⟨by decide +kernel, rfl, rfl⟩
theorem d_X1_lose_10 : nD YX1_lose 10 (.aload_n 0) 1 11 1 := ⟨by decide +kernel, rfl, rfl⟩
theorem d_X1_lose_11 : nD YX1_lose 11 (.getfield 16) 3 14 1 := ⟨by decide +kernel, rfl, rfl⟩
theorem d_X1_lose_14 : nD YX1_lose 14 (.iload_n 3) 1 15 1 := ⟨by decide +kernel, rfl, rfl⟩
theorem d_X1_lose_15 : nD YX1_lose 15 (.iaload) 1 16 1 := ⟨by decide +kernel, rfl, rfl⟩
theorem d_X1_lose_16 : nD YX1_lose 16 (.ifCond .ne 20) 3 19 1 := ⟨by decide +kernel, rfl, rfl⟩
theorem d_X1_lose_19 : nD YX1_lose 19 (.aload_n 0) 1 20 1 := ⟨by decide +kernel, rfl, rfl⟩
theorem d_X1_lose_20 : nD YX1_lose 20 (.dup) 1 21 1 := ⟨by decide +kernel, rfl, rfl⟩
theorem d_X1_lose_21 : nD YX1_lose 21 (.getfield 20) 3 24 1 := ⟨by decide +kernel, rfl, rfl⟩
theorem d_X1_lose_24 : nD YX1_lose 24 (.aload_n 0) 1 25 1 := ⟨by decide +kernel, rfl, rfl⟩
theorem d_X1_lose_25 : nD YX1_lose 25 (.getfield 11) 3 28 1 := ⟨by decide +kernel, rfl, rfl⟩
theorem d_X1_lose_28 : nD YX1_lose 28 (.iload_n 1) 1 29 1 := ⟨by decide +kernel, rfl, rfl⟩
theorem d_X1_lose_29 : nD YX1_lose 29 (.aaload) 1 30 1 := ⟨by decide +kernel, rfl, rfl⟩
theorem d_X1_lose_30 : nD YX1_lose 30 (.iload_n 3) 1 31 1 := ⟨by decide +kernel, rfl, rfl⟩
theorem d_X1_lose_31 : nD YX1_lose 31 (.laload) 1 32 1 := ⟨by decide +kernel, rfl, rfl⟩
theorem d_X1_lose_32 : nD YX1_lose 32 (.ladd) 1 33 1 := ⟨by decide +kernel, rfl, rfl⟩
theorem d_X1_lose_33 : nD YX1_lose 33 (.putfield 20) 3 36 1 := ⟨by decide +kernel, rfl, rfl⟩
theorem d_X1_lose_36 : nD YX1_lose 36 (.iinc 3 1) 3 39 1 := ⟨by decide +kernel, rfl, rfl⟩
theorem d_X1_lose_39 : nD YX1_lose 39 (.goto (-37)) 3 42 1 := ⟨by decide +kernel, rfl, rfl⟩
theorem d_X1_lose_42 : nD YX1_lose 42 (.return_) 1 43 1 := ⟨by decide +kernel, rfl, rfl⟩
theorem d_X1_handOn_0 : nD YX1_handOn 0 (.iconst 0) 1 1 1 := ⟨by decide +kernel, rfl, rfl⟩
theorem d_X1_handOn_1 : nD YX1_handOn 1 (.istore_n 3) 1 2 1 := ⟨by decide +kernel, rfl, rfl⟩
theorem d_X1_handOn_2 : nD YX1_handOn 2 (.iload_n 3) 1 3 1 := ⟨by decide +kernel, rfl, rfl⟩
theorem d_X1_handOn_3 : nD YX1_handOn 3 (.aload_n 2) 1 4 1 := ⟨by decide +kernel, rfl, rfl⟩
theorem d_X1_handOn_4 : nD YX1_handOn 4 (.getfield 57) 3 7 1 := ⟨by decide +kernel, rfl, rfl⟩
theorem d_X1_handOn_7 : nD YX1_handOn 7 (.if_icmp .ge 102) 3 10 1 := ⟨by decide +kernel, rfl, rfl⟩
theorem d_X1_handOn_10 : nD YX1_handOn 10 (.aload_n 0) 1 11 1 := ⟨by decide +kernel, rfl, rfl⟩
theorem d_X1_handOn_11 : nD YX1_handOn 11 (.getfield 11) 3 14 1 := ⟨by decide +kernel, rfl, rfl⟩
theorem d_X1_handOn_14 : nD YX1_handOn 14 (.iload_n 1) 1 15 1 := ⟨by decide +kernel, rfl, rfl⟩
theorem d_X1_handOn_15 : nD YX1_handOn 15 (.iconst 1) 1 16 1 := ⟨by decide +kernel, rfl, rfl⟩
theorem d_X1_handOn_16 : nD YX1_handOn 16 (.iadd) 1 17 1 := ⟨by decide +kernel, rfl, rfl⟩
theorem d_X1_handOn_17 : nD YX1_handOn 17 (.aaload) 1 18 1 := ⟨by decide +kernel, rfl, rfl⟩
theorem d_X1_handOn_18 : nD YX1_handOn 18 (.iload_n 3) 1 19 1 := ⟨by decide +kernel, rfl, rfl⟩
theorem d_X1_handOn_19 : nD YX1_handOn 19 (.lconst 0) 1 20 1 := ⟨by decide +kernel, rfl, rfl⟩
theorem d_X1_handOn_20 : nD YX1_handOn 20 (.lastore) 1 21 1 := ⟨by decide +kernel, rfl, rfl⟩
theorem d_X1_handOn_21 : nD YX1_handOn 21 (.iconst 0) 1 22 1 := ⟨by decide +kernel, rfl, rfl⟩
theorem d_X1_handOn_22 : nD YX1_handOn 22 (.istore 4) 2 24 1 := ⟨by decide +kernel, rfl, rfl⟩
theorem d_X1_handOn_24 : nD YX1_handOn 24 (.iload 4) 2 26 1 := ⟨by decide +kernel, rfl, rfl⟩
theorem d_X1_handOn_26 : nD YX1_handOn 26 (.aload_n 2) 1 27 1 := ⟨by decide +kernel, rfl, rfl⟩
theorem d_X1_handOn_27 : nD YX1_handOn 27 (.getfield 62) 3 30 1 := ⟨by decide +kernel, rfl, rfl⟩
theorem d_X1_handOn_30 : nD YX1_handOn 30 (.iload_n 3) 1 31 1 := ⟨by decide +kernel, rfl, rfl⟩
theorem d_X1_handOn_31 : nD YX1_handOn 31 (.iaload) 1 32 1 := ⟨by decide +kernel, rfl, rfl⟩
theorem d_X1_handOn_32 : nD YX1_handOn 32 (.if_icmp .ge 71) 3 35 1 := ⟨by decide +kernel, rfl, rfl⟩
theorem d_X1_handOn_35 : nD YX1_handOn 35 (.aload_n 2) 1 36 1 := ⟨by decide +kernel, rfl, rfl⟩
theorem d_X1_handOn_36 : nD YX1_handOn 36 (.getfield 65) 3 39 1 := ⟨by decide +kernel, rfl, rfl⟩
theorem d_X1_handOn_39 : nD YX1_handOn 39 (.iload_n 3) 1 40 1 := ⟨by decide +kernel, rfl, rfl⟩
theorem d_X1_handOn_40 : nD YX1_handOn 40 (.iaload) 1 41 1 := ⟨by decide +kernel, rfl, rfl⟩
theorem d_X1_handOn_41 : nD YX1_handOn 41 (.iload 4) 2 43 1 := ⟨by decide +kernel, rfl, rfl⟩
theorem d_X1_handOn_43 : nD YX1_handOn 43 (.iadd) 1 44 1 := ⟨by decide +kernel, rfl, rfl⟩
theorem d_X1_handOn_44 : nD YX1_handOn 44 (.istore 5) 2 46 1 := ⟨by decide +kernel, rfl, rfl⟩
theorem d_X1_handOn_46 : nD YX1_handOn 46 (.aload_n 0) 1 47 1 := ⟨by decide +kernel, rfl, rfl⟩
theorem d_X1_handOn_47 : nD YX1_handOn 47 (.getfield 16) 3 50 1 := ⟨by decide +kernel, rfl, rfl⟩
theorem d_X1_handOn_50 : nD YX1_handOn 50 (.iload 5) 2 52 1 := ⟨by decide +kernel, rfl, rfl⟩
theorem d_X1_handOn_52 : nD YX1_handOn 52 (.iaload) 1 53 1 := ⟨by decide +kernel, rfl, rfl⟩
theorem d_X1_handOn_53 : nD YX1_handOn 53 (.ifCond .le 44) 3 56 1 := ⟨by decide +kernel, rfl, rfl⟩
theorem d_X1_handOn_56 : nD YX1_handOn 56 (.aload_n 2) 1 57 1 := ⟨by decide +kernel, rfl, rfl⟩
theorem d_X1_handOn_57 : nD YX1_handOn 57 (.iload_n 3) 1 58 1 := ⟨by decide +kernel, rfl, rfl⟩
theorem d_X1_handOn_58 : nD YX1_handOn 58 (.iload 4) 2 60 1 := ⟨by decide +kernel, rfl, rfl⟩
theorem d_X1_handOn_60 : nD YX1_handOn 60 (.invokevirtual 68) 3 63 1 := ⟨by decide +kernel, rfl, rfl⟩
theorem d_X1_handOn_63 : nD YX1_handOn 63 (.ifCond .ne 34) 3 66 1 := ⟨by decide +kernel, rfl, rfl⟩
theorem d_X1_handOn_66 : nD YX1_handOn 66 (.aload_n 0) 1 67 1 := ⟨by decide +kernel, rfl, rfl⟩
theorem d_X1_handOn_67 : nD YX1_handOn 67 (.getfield 11) 3 70 1 := ⟨by decide +kernel, rfl, rfl⟩
theorem d_X1_handOn_70 : nD YX1_handOn 70 (.iload_n 1) 1 71 1 := ⟨by decide +kernel, rfl, rfl⟩
theorem d_X1_handOn_71 : nD YX1_handOn 71 (.iconst 1) 1 72 1 := ⟨by decide +kernel, rfl, rfl⟩
theorem d_X1_handOn_72 : nD YX1_handOn 72 (.iadd) 1 73 1 := ⟨by decide +kernel, rfl, rfl⟩
theorem d_X1_handOn_73 : nD YX1_handOn 73 (.aaload) 1 74 1 := ⟨by decide +kernel, rfl, rfl⟩
theorem d_X1_handOn_74 : nD YX1_handOn 74 (.iload_n 3) 1 75 1 := ⟨by decide +kernel, rfl, rfl⟩
theorem d_X1_handOn_75 : nD YX1_handOn 75 (.dup2) 1 76 1 := ⟨by decide +kernel, rfl, rfl⟩
theorem d_X1_handOn_76 : nD YX1_handOn 76 (.laload) 1 77 1 := ⟨by decide +kernel, rfl, rfl⟩
theorem d_X1_handOn_77 : nD YX1_handOn 77 (.aload_n 0) 1 78 1 := ⟨by decide +kernel, rfl, rfl⟩
theorem d_X1_handOn_78 : nD YX1_handOn 78 (.getfield 11) 3 81 1 := ⟨by decide +kernel, rfl, rfl⟩
theorem d_X1_handOn_81 : nD YX1_handOn 81 (.iload_n 1) 1 82 1 := ⟨by decide +kernel, rfl, rfl⟩
theorem d_X1_handOn_82 : nD YX1_handOn 82 (.aaload) 1 83 1 := ⟨by decide +kernel, rfl, rfl⟩
theorem d_X1_handOn_83 : nD YX1_handOn 83 (.iload 5) 2 85 1 := ⟨by decide +kernel, rfl, rfl⟩
theorem d_X1_handOn_85 : nD YX1_handOn 85 (.laload) 1 86 1 := ⟨by decide +kernel, rfl, rfl⟩
theorem d_X1_handOn_86 : nD YX1_handOn 86 (.aload_n 0) 1 87 1 := ⟨by decide +kernel, rfl, rfl⟩
theorem d_X1_handOn_87 : nD YX1_handOn 87 (.getfield 16) 3 90 1 := ⟨by decide +kernel, rfl, rfl⟩
theorem d_X1_handOn_90 : nD YX1_handOn 90 (.iload 5) 2 92 1 := ⟨by decide +kernel, rfl, rfl⟩
theorem d_X1_handOn_92 : nD YX1_handOn 92 (.iaload) 1 93 1 := ⟨by decide +kernel, rfl, rfl⟩
theorem d_X1_handOn_93 : nD YX1_handOn 93 (.i2l) 1 94 1 := ⟨by decide +kernel, rfl, rfl⟩
theorem d_X1_handOn_94 : nD YX1_handOn 94 (.ldiv) 1 95 1 := ⟨by decide +kernel, rfl, rfl⟩
theorem d_X1_handOn_95 : nD YX1_handOn 95 (.ladd) 1 96 1 := ⟨by decide +kernel, rfl, rfl⟩
theorem d_X1_handOn_96 : nD YX1_handOn 96 (.lastore) 1 97 1 := ⟨by decide +kernel, rfl, rfl⟩
theorem d_X1_handOn_97 : nD YX1_handOn 97 (.iinc 4 1) 3 100 1 := ⟨by decide +kernel, rfl, rfl⟩
theorem d_X1_handOn_100 : nD YX1_handOn 100 (.goto (-76)) 3 103 1 := ⟨by decide +kernel, rfl, rfl⟩
theorem d_X1_handOn_103 : nD YX1_handOn 103 (.iinc 3 1) 3 106 1 := ⟨by decide +kernel, rfl, rfl⟩
theorem d_X1_handOn_106 : nD YX1_handOn 106 (.goto (-104)) 3 109 1 := ⟨by decide +kernel, rfl, rfl⟩
theorem d_X1_handOn_109 : nD YX1_handOn 109 (.return_) 1 110 1 := ⟨by decide +kernel, rfl, rfl⟩
theorem d_X1_inAll_0 : nD YX1_inAll 0 (.lconst 0) 1 1 1 := ⟨by decide +kernel, rfl, rfl⟩
theorem d_X1_inAll_1 : nD YX1_inAll 1 (.lstore_n 3) 1 2 1 := ⟨by decide +kernel, rfl, rfl⟩
theorem d_X1_inAll_2 : nD YX1_inAll 2 (.iconst 0) 1 3 1 := ⟨by decide +kernel, rfl, rfl⟩
theorem d_X1_inAll_3 : nD YX1_inAll 3 (.istore 5) 2 5 1 := ⟨by decide +kernel, rfl, rfl⟩
theorem d_X1_inAll_5 : nD YX1_inAll 5 (.iload 5) 2 7 1 := ⟨by decide +kernel, rfl, rfl⟩
theorem d_X1_inAll_7 : nD YX1_inAll 7 (.aload_n 2) 1 8 1 := ⟨by decide +kernel, rfl, rfl⟩
theorem d_X1_inAll_8 : nD YX1_inAll 8 (.getfield 57) 3 11 1 := ⟨by decide +kernel, rfl, rfl⟩
theorem d_X1_inAll_11 : nD YX1_inAll 11 (.if_icmp .ge 21) 3 14 1 := ⟨by decide +kernel, rfl, rfl⟩
theorem d_X1_inAll_14 : nD YX1_inAll 14 (.lload_n 3) 1 15 1 := ⟨by decide +kernel, rfl, rfl⟩
theorem d_X1_inAll_15 : nD YX1_inAll 15 (.aload_n 0) 1 16 1 := ⟨by decide +kernel, rfl, rfl⟩
theorem d_X1_inAll_16 : nD YX1_inAll 16 (.getfield 11) 3 19 1 := ⟨by decide +kernel, rfl, rfl⟩
theorem d_X1_inAll_19 : nD YX1_inAll 19 (.iload_n 1) 1 20 1 := ⟨by decide +kernel, rfl, rfl⟩
theorem d_X1_inAll_20 : nD YX1_inAll 20 (.aaload) 1 21 1 := ⟨by decide +kernel, rfl, rfl⟩
theorem d_X1_inAll_21 : nD YX1_inAll 21 (.iload 5) 2 23 1 := ⟨by decide +kernel, rfl, rfl⟩
theorem d_X1_inAll_23 : nD YX1_inAll 23 (.laload) 1 24 1 := ⟨by decide +kernel, rfl, rfl⟩
theorem d_X1_inAll_24 : nD YX1_inAll 24 (.ladd) 1 25 1 := ⟨by decide +kernel, rfl, rfl⟩
theorem d_X1_inAll_25 : nD YX1_inAll 25 (.lstore_n 3) 1 26 1 := ⟨by decide +kernel, rfl, rfl⟩
theorem d_X1_inAll_26 : nD YX1_inAll 26 (.iinc 5 1) 3 29 1 := ⟨by decide +kernel, rfl, rfl⟩
theorem d_X1_inAll_29 : nD YX1_inAll 29 (.goto (-24)) 3 32 1 := ⟨by decide +kernel, rfl, rfl⟩
theorem d_X1_inAll_32 : nD YX1_inAll 32 (.lload_n 3) 1 33 1 := ⟨by decide +kernel, rfl, rfl⟩
theorem d_X1_inAll_33 : nD YX1_inAll 33 (.lreturn) 1 34 1 := ⟨by decide +kernel, rfl, rfl⟩
theorem d_X1_leadDown_0 : nD YX1_leadDown 0 (.aload_n 0) 1 1 1 := ⟨by decide +kernel, rfl, rfl⟩
theorem d_X1_leadDown_1 : nD YX1_leadDown 1 (.lconst 0) 1 2 1 := ⟨by decide +kernel, rfl, rfl⟩
theorem d_X1_leadDown_2 : nD YX1_leadDown 2 (.putfield 20) 3 5 1 := ⟨by decide +kernel, rfl, rfl⟩
theorem d_X1_leadDown_5 : nD YX1_leadDown 5 (.aload_n 0) 1 6 1 := ⟨by decide +kernel, rfl, rfl⟩
theorem d_X1_leadDown_6 : nD YX1_leadDown 6 (.lconst 0) 1 7 1 := ⟨by decide +kernel, rfl, rfl⟩
theorem d_X1_leadDown_7 : nD YX1_leadDown 7 (.putfield 24) 3 10 1 := ⟨by decide +kernel, rfl, rfl⟩
theorem d_X1_leadDown_10 : nD YX1_leadDown 10 (.iconst 0) 1 11 1 := ⟨by decide +kernel, rfl, rfl⟩
theorem d_X1_leadDown_11 : nD YX1_leadDown 11 (.istore_n 2) 1 12 1 := ⟨by decide +kernel, rfl, rfl⟩
theorem d_X1_leadDown_12 : nD YX1_leadDown 12 (.iload_n 2) 1 13 1 := ⟨by decide +kernel, rfl, rfl⟩
theorem d_X1_leadDown_13 : nD YX1_leadDown 13 (.bipush 24) 2 15 1 := ⟨by decide +kernel, rfl, rfl⟩
theorem d_X1_leadDown_15 : nD YX1_leadDown 15 (.if_icmp .ge 28) 3 18 1 := ⟨by decide +kernel, rfl, rfl⟩
theorem d_X1_leadDown_18 : nD YX1_leadDown 18 (.aload_n 0) 1 19 1 := ⟨by decide +kernel, rfl, rfl⟩
theorem d_X1_leadDown_19 : nD YX1_leadDown 19 (.getfield 11) 3 22 1 := ⟨by decide +kernel, rfl, rfl⟩
theorem d_X1_leadDown_22 : nD YX1_leadDown 22 (.iconst 0) 1 23 1 := ⟨by decide +kernel, rfl, rfl⟩
theorem d_X1_leadDown_23 : nD YX1_leadDown 23 (.aaload) 1 24 1 := ⟨by decide +kernel, rfl, rfl⟩
theorem d_X1_leadDown_24 : nD YX1_leadDown 24 (.iload_n 2) 1 25 1 := ⟨by decide +kernel, rfl, rfl⟩
theorem d_X1_leadDown_25 : nD YX1_leadDown 25 (.aload_n 1) 1 26 1 := ⟨by decide +kernel, rfl, rfl⟩
theorem d_X1_leadDown_26 : nD YX1_leadDown 26 (.getfield 27) 3 29 1 := ⟨by decide +kernel, rfl, rfl⟩
theorem d_X1_leadDown_29 : nD YX1_leadDown 29 (.iload_n 2) 1 30 1 := ⟨by decide +kernel, rfl, rfl⟩
theorem d_X1_leadDown_30 : nD YX1_leadDown 30 (.iaload) 1 31 1 := ⟨by decide +kernel, rfl, rfl⟩
theorem d_X1_leadDown_31 : nD YX1_leadDown 31 (.i2l) 1 32 1 := ⟨by decide +kernel, rfl, rfl⟩
theorem d_X1_leadDown_32 : nD YX1_leadDown 32 (.ldc2_w 32) 3 35 1 := ⟨by decide +kernel, rfl, rfl⟩
theorem d_X1_leadDown_35 : nD YX1_leadDown 35 (.lmul) 1 36 1 := ⟨by decide +kernel, rfl, rfl⟩
theorem d_X1_leadDown_36 : nD YX1_leadDown 36 (.lastore) 1 37 1 := ⟨by decide +kernel, rfl, rfl⟩
theorem d_X1_leadDown_37 : nD YX1_leadDown 37 (.iinc 2 1) 3 40 1 := ⟨by decide +kernel, rfl, rfl⟩
theorem d_X1_leadDown_40 : nD YX1_leadDown 40 (.goto (-28)) 3 43 1 := ⟨by decide +kernel, rfl, rfl⟩
theorem d_X1_leadDown_43 : nD YX1_leadDown 43 (.iconst 0) 1 44 1 := ⟨by decide +kernel, rfl, rfl⟩
theorem d_X1_leadDown_44 : nD YX1_leadDown 44 (.istore_n 2) 1 45 1 := ⟨by decide +kernel, rfl, rfl⟩
theorem d_X1_leadDown_45 : nD YX1_leadDown 45 (.iload_n 2) 1 46 1 := ⟨by decide +kernel, rfl, rfl⟩
theorem d_X1_leadDown_46 : nD YX1_leadDown 46 (.aload_n 1) 1 47 1 := ⟨by decide +kernel, rfl, rfl⟩
theorem d_X1_leadDown_47 : nD YX1_leadDown 47 (.getfield 34) 3 50 1 := ⟨by decide +kernel, rfl, rfl⟩
theorem d_X1_leadDown_50 : nD YX1_leadDown 50 (.if_icmp .ge 69) 3 53 1 := ⟨by decide +kernel, rfl, rfl⟩
theorem d_X1_leadDown_53 : nD YX1_leadDown 53 (.aload_n 1) 1 54 1 := ⟨by decide +kernel, rfl, rfl⟩
theorem d_X1_leadDown_54 : nD YX1_leadDown 54 (.iload_n 2) 1 55 1 := ⟨by decide +kernel, rfl, rfl⟩
theorem d_X1_leadDown_55 : nD YX1_leadDown 55 (.invokevirtual 38) 3 58 1 := ⟨by decide +kernel, rfl, rfl⟩
theorem d_X1_leadDown_58 : nD YX1_leadDown 58 (.astore_n 3) 1 59 1 := ⟨by decide +kernel, rfl, rfl⟩
theorem d_X1_leadDown_59 : nD YX1_leadDown 59 (.aload_n 1) 1 60 1 := ⟨by decide +kernel, rfl, rfl⟩
theorem d_X1_leadDown_60 : nD YX1_leadDown 60 (.iload_n 2) 1 61 1 := ⟨by decide +kernel, rfl, rfl⟩
theorem d_X1_leadDown_61 : nD YX1_leadDown 61 (.iconst 1) 1 62 1 := ⟨by decide +kernel, rfl, rfl⟩
theorem d_X1_leadDown_62 : nD YX1_leadDown 62 (.iadd) 1 63 1 := ⟨by decide +kernel, rfl, rfl⟩
theorem d_X1_leadDown_63 : nD YX1_leadDown 63 (.invokevirtual 38) 3 66 1 := ⟨by decide +kernel, rfl, rfl⟩
theorem d_X1_leadDown_66 : nD YX1_leadDown 66 (.astore 4) 2 68 1 := ⟨by decide +kernel, rfl, rfl⟩
theorem d_X1_leadDown_68 : nD YX1_leadDown 68 (.aload_n 3) 1 69 1 := ⟨by decide +kernel, rfl, rfl⟩
theorem d_X1_leadDown_69 : nD YX1_leadDown 69 (.ifnull 30) 3 72 1 := ⟨by decide +kernel, rfl, rfl⟩
theorem d_X1_leadDown_72 : nD YX1_leadDown 72 (.aload 4) 2 74 1 := ⟨by decide +kernel, rfl, rfl⟩
theorem d_X1_leadDown_74 : nD YX1_leadDown 74 (.ifnull 25) 3 77 1 := ⟨by decide +kernel, rfl, rfl⟩
theorem d_X1_leadDown_77 : nD YX1_leadDown 77 (.aload_n 0) 1 78 1 := ⟨by decide +kernel, rfl, rfl⟩
theorem d_X1_leadDown_78 : nD YX1_leadDown 78 (.aload 4) 2 80 1 := ⟨by decide +kernel, rfl, rfl⟩
theorem d_X1_leadDown_80 : nD YX1_leadDown 80 (.invokevirtual 42) 3 83 1 := ⟨by decide +kernel, rfl, rfl⟩
theorem d_X1_leadDown_83 : nD YX1_leadDown 83 (.aload_n 0) 1 84 1 := ⟨by decide +kernel, rfl, rfl⟩
theorem d_X1_leadDown_84 : nD YX1_leadDown 84 (.iload_n 2) 1 85 1 := ⟨by decide +kernel, rfl, rfl⟩
theorem d_X1_leadDown_85 : nD YX1_leadDown 85 (.aload_n 3) 1 86 1 := ⟨by decide +kernel, rfl, rfl⟩
theorem d_X1_leadDown_86 : nD YX1_leadDown 86 (.invokevirtual 46) 3 89 1 := ⟨by decide +kernel, rfl, rfl⟩
theorem d_X1_leadDown_89 : nD YX1_leadDown 89 (.aload_n 0) 1 90 1 := ⟨by decide +kernel, rfl, rfl⟩
theorem d_X1_leadDown_90 : nD YX1_leadDown 90 (.iload_n 2) 1 91 1 := ⟨by decide +kernel, rfl, rfl⟩
theorem d_X1_leadDown_91 : nD YX1_leadDown 91 (.aload 4) 2 93 1 := ⟨by decide +kernel, rfl, rfl⟩
theorem d_X1_leadDown_93 : nD YX1_leadDown 93 (.invokevirtual 50) 3 96 1 := ⟨by decide +kernel, rfl, rfl⟩
theorem d_X1_leadDown_96 : nD YX1_leadDown 96 (.goto 17) 3 99 1 := ⟨by decide +kernel, rfl, rfl⟩
theorem d_X1_leadDown_99 : nD YX1_leadDown 99 (.aload_n 3) 1 100 1 := ⟨by decide +kernel, rfl, rfl⟩
theorem d_X1_leadDown_100 : nD YX1_leadDown 100 (.ifnull 13) 3 103 1 := ⟨by decide +kernel, rfl, rfl⟩
theorem d_X1_leadDown_103 : nD YX1_leadDown 103 (.aload_n 0) 1 104 1 := ⟨by decide +kernel, rfl, rfl⟩
theorem d_X1_leadDown_104 : nD YX1_leadDown 104 (.aload_n 0) 1 105 1 := ⟨by decide +kernel, rfl, rfl⟩
theorem d_X1_leadDown_105 : nD YX1_leadDown 105 (.iload_n 2) 1 106 1 := ⟨by decide +kernel, rfl, rfl⟩
theorem d_X1_leadDown_106 : nD YX1_leadDown 106 (.aload_n 3) 1 107 1 := ⟨by decide +kernel, rfl, rfl⟩
theorem d_X1_leadDown_107 : nD YX1_leadDown 107 (.invokevirtual 53) 3 110 1 := ⟨by decide +kernel, rfl, rfl⟩
theorem d_X1_leadDown_110 : nD YX1_leadDown 110 (.putfield 24) 3 113 1 := ⟨by decide +kernel, rfl, rfl⟩
theorem d_X1_leadDown_113 : nD YX1_leadDown 113 (.iinc 2 1) 3 116 1 := ⟨by decide +kernel, rfl, rfl⟩
theorem d_X1_leadDown_116 : nD YX1_leadDown 116 (.goto (-71)) 3 119 1 := ⟨by decide +kernel, rfl, rfl⟩
theorem d_X1_leadDown_119 : nD YX1_leadDown 119 (.return_) 1 120 1 := ⟨by decide +kernel, rfl, rfl⟩
theorem d_X1_isAbove_0 : nD YX1_isAbove 0 (.lload_n 0) 1 1 1 := ⟨by decide +kernel, rfl, rfl⟩
theorem d_X1_isAbove_1 : nD YX1_isAbove 1 (.ldc2_w 32) 3 4 1 := ⟨by decide +kernel, rfl, rfl⟩
theorem d_X1_isAbove_4 : nD YX1_isAbove 4 (.ldiv) 1 5 1 := ⟨by decide +kernel, rfl, rfl⟩
theorem d_X1_isAbove_5 : nD YX1_isAbove 5 (.lstore_n 3) 1 6 1 := ⟨by decide +kernel, rfl, rfl⟩
theorem d_X1_isAbove_6 : nD YX1_isAbove 6 (.lload_n 3) 1 7 1 := ⟨by decide +kernel, rfl, rfl⟩
theorem d_X1_isAbove_7 : nD YX1_isAbove 7 (.iload_n 2) 1 8 1 := ⟨by decide +kernel, rfl, rfl⟩
theorem d_X1_isAbove_8 : nD YX1_isAbove 8 (.i2l) 1 9 1 := ⟨by decide +kernel, rfl, rfl⟩
theorem d_X1_isAbove_9 : nD YX1_isAbove 9 (.lcmp) 1 10 1 := ⟨by decide +kernel, rfl, rfl⟩
theorem d_X1_isAbove_10 : nD YX1_isAbove 10 (.ifCond .gt 20) 3 13 1 := ⟨by decide +kernel, rfl, rfl⟩
theorem d_X1_isAbove_13 : nD YX1_isAbove 13 (.lload_n 3) 1 14 1 := ⟨by decide +kernel, rfl, rfl⟩
theorem d_X1_isAbove_14 : nD YX1_isAbove 14 (.iload_n 2) 1 15 1 := ⟨by decide +kernel, rfl, rfl⟩
theorem d_X1_isAbove_15 : nD YX1_isAbove 15 (.i2l) 1 16 1 := ⟨by decide +kernel, rfl, rfl⟩
theorem d_X1_isAbove_16 : nD YX1_isAbove 16 (.lcmp) 1 17 1 := ⟨by decide +kernel, rfl, rfl⟩
theorem d_X1_isAbove_17 : nD YX1_isAbove 17 (.ifCond .ne 17) 3 20 1 := ⟨by decide +kernel, rfl, rfl⟩
theorem d_X1_isAbove_20 : nD YX1_isAbove 20 (.lload_n 0) 1 21 1 := ⟨by decide +kernel, rfl, rfl⟩
theorem d_X1_isAbove_21 : nD YX1_isAbove 21 (.ldc2_w 32) 3 24 1 := ⟨by decide +kernel, rfl, rfl⟩
theorem d_X1_isAbove_24 : nD YX1_isAbove 24 (.lrem) 1 25 1 := ⟨by decide +kernel, rfl, rfl⟩
theorem d_X1_isAbove_25 : nD YX1_isAbove 25 (.lconst 0) 1 26 1 := ⟨by decide +kernel, rfl, rfl⟩
theorem d_X1_isAbove_26 : nD YX1_isAbove 26 (.lcmp) 1 27 1 := ⟨by decide +kernel, rfl, rfl⟩
theorem d_X1_isAbove_27 : nD YX1_isAbove 27 (.ifCond .le 7) 3 30 1 := ⟨by decide +kernel, rfl, rfl⟩
theorem d_X1_isAbove_30 : nD YX1_isAbove 30 (.iconst 1) 1 31 1 := ⟨by decide +kernel, rfl, rfl⟩
theorem d_X1_isAbove_31 : nD YX1_isAbove 31 (.goto 4) 3 34 1 := ⟨by decide +kernel, rfl, rfl⟩
theorem d_X1_isAbove_34 : nD YX1_isAbove 34 (.iconst 0) 1 35 1 := ⟨by decide +kernel, rfl, rfl⟩
theorem d_X1_isAbove_35 : nD YX1_isAbove 35 (.ireturn) 1 36 1 := ⟨by decide +kernel, rfl, rfl⟩
theorem d_X1_firstAbove_0 : nD YX1_firstAbove 0 (.iconst 0) 1 1 1 := ⟨by decide +kernel, rfl, rfl⟩
theorem d_X1_firstAbove_1 : nD YX1_firstAbove 1 (.istore_n 2) 1 2 1 := ⟨by decide +kernel, rfl, rfl⟩
theorem d_X1_firstAbove_2 : nD YX1_firstAbove 2 (.iload_n 2) 1 3 1 := ⟨by decide +kernel, rfl, rfl⟩
theorem d_X1_firstAbove_3 : nD YX1_firstAbove 3 (.aload_n 1) 1 4 1 := ⟨by decide +kernel, rfl, rfl⟩
theorem d_X1_firstAbove_4 : nD YX1_firstAbove 4 (.getfield 34) 3 7 1 := ⟨by decide +kernel, rfl, rfl⟩
theorem d_X1_firstAbove_7 : nD YX1_firstAbove 7 (.if_icmp .ge 64) 3 10 1 := ⟨by decide +kernel, rfl, rfl⟩
theorem d_X1_firstAbove_10 : nD YX1_firstAbove 10 (.aload_n 1) 1 11 1 := ⟨by decide +kernel, rfl, rfl⟩
theorem d_X1_firstAbove_11 : nD YX1_firstAbove 11 (.iload_n 2) 1 12 1 := ⟨by decide +kernel, rfl, rfl⟩
theorem d_X1_firstAbove_12 : nD YX1_firstAbove 12 (.invokevirtual 38) 3 15 1 := ⟨by decide +kernel, rfl, rfl⟩
theorem d_X1_firstAbove_15 : nD YX1_firstAbove 15 (.astore_n 3) 1 16 1 := ⟨by decide +kernel, rfl, rfl⟩
theorem d_X1_firstAbove_16 : nD YX1_firstAbove 16 (.iconst 0) 1 17 1 := ⟨by decide +kernel, rfl, rfl⟩
theorem d_X1_firstAbove_17 : nD YX1_firstAbove 17 (.istore 4) 2 19 1 := ⟨by decide +kernel, rfl, rfl⟩
theorem d_X1_firstAbove_19 : nD YX1_firstAbove 19 (.aload_n 3) 1 20 1 := ⟨by decide +kernel, rfl, rfl⟩
theorem d_X1_firstAbove_20 : nD YX1_firstAbove 20 (.ifnull 45) 3 23 1 := ⟨by decide +kernel, rfl, rfl⟩
theorem d_X1_firstAbove_23 : nD YX1_firstAbove 23 (.iload 4) 2 25 1 := ⟨by decide +kernel, rfl, rfl⟩
theorem d_X1_firstAbove_25 : nD YX1_firstAbove 25 (.aload_n 3) 1 26 1 := ⟨by decide +kernel, rfl, rfl⟩
theorem d_X1_firstAbove_26 : nD YX1_firstAbove 26 (.getfield 57) 3 29 1 := ⟨by decide +kernel, rfl, rfl⟩
theorem d_X1_firstAbove_29 : nD YX1_firstAbove 29 (.if_icmp .ge 36) 3 32 1 := ⟨by decide +kernel, rfl, rfl⟩
theorem d_X1_firstAbove_32 : nD YX1_firstAbove 32 (.aload_n 0) 1 33 1 := ⟨by decide +kernel, rfl, rfl⟩
theorem d_X1_firstAbove_33 : nD YX1_firstAbove 33 (.getfield 11) 3 36 1 := ⟨by decide +kernel, rfl, rfl⟩
theorem d_X1_firstAbove_36 : nD YX1_firstAbove 36 (.iload_n 2) 1 37 1 := ⟨by decide +kernel, rfl, rfl⟩
theorem d_X1_firstAbove_37 : nD YX1_firstAbove 37 (.aaload) 1 38 1 := ⟨by decide +kernel, rfl, rfl⟩
theorem d_X1_firstAbove_38 : nD YX1_firstAbove 38 (.iload 4) 2 40 1 := ⟨by decide +kernel, rfl, rfl⟩
theorem d_X1_firstAbove_40 : nD YX1_firstAbove 40 (.laload) 1 41 1 := ⟨by decide +kernel, rfl, rfl⟩
theorem d_X1_firstAbove_41 : nD YX1_firstAbove 41 (.aload_n 1) 1 42 1 := ⟨by decide +kernel, rfl, rfl⟩
theorem d_X1_firstAbove_42 : nD YX1_firstAbove 42 (.getfield 72) 3 45 1 := ⟨by decide +kernel, rfl, rfl⟩
theorem d_X1_firstAbove_45 : nD YX1_firstAbove 45 (.invokestatic 75) 3 48 1 := ⟨by decide +kernel, rfl, rfl⟩
theorem d_X1_firstAbove_48 : nD YX1_firstAbove 48 (.ifCond .eq 11) 3 51 1 := ⟨by decide +kernel, rfl, rfl⟩
theorem d_X1_firstAbove_51 : nD YX1_firstAbove 51 (.bipush 100) 2 53 1 := ⟨by decide +kernel, rfl, rfl⟩
theorem d_X1_firstAbove_53 : nD YX1_firstAbove 53 (.iload_n 2) 1 54 1 := ⟨by decide +kernel, rfl, rfl⟩
theorem d_X1_firstAbove_54 : nD YX1_firstAbove 54 (.imul) 1 55 1 := ⟨by decide +kernel, rfl, rfl⟩
theorem d_X1_firstAbove_55 : nD YX1_firstAbove 55 (.iload 4) 2 57 1 := ⟨by decide +kernel, rfl, rfl⟩
theorem d_X1_firstAbove_57 : nD YX1_firstAbove 57 (.iadd) 1 58 1 := ⟨by decide +kernel, rfl, rfl⟩
theorem d_X1_firstAbove_58 : nD YX1_firstAbove 58 (.ireturn) 1 59 1 := ⟨by decide +kernel, rfl, rfl⟩
theorem d_X1_firstAbove_59 : nD YX1_firstAbove 59 (.iinc 4 1) 3 62 1 := ⟨by decide +kernel, rfl, rfl⟩
theorem d_X1_firstAbove_62 : nD YX1_firstAbove 62 (.goto (-43)) 3 65 1 := ⟨by decide +kernel, rfl, rfl⟩
theorem d_X1_firstAbove_65 : nD YX1_firstAbove 65 (.iinc 2 1) 3 68 1 := ⟨by decide +kernel, rfl, rfl⟩
theorem d_X1_firstAbove_68 : nD YX1_firstAbove 68 (.goto (-66)) 3 71 1 := ⟨by decide +kernel, rfl, rfl⟩
theorem d_X1_firstAbove_71 : nD YX1_firstAbove 71 (.iconst (-1)) 1 72 1 := ⟨by decide +kernel, rfl, rfl⟩
theorem d_X1_firstAbove_72 : nD YX1_firstAbove 72 (.ireturn) 1 73 1 := ⟨by decide +kernel, rfl, rfl⟩
theorem d_X1_commonDivisor_0 : nD YX1_commonDivisor 0 (.lload_n 0) 1 1 1 := ⟨by decide +kernel, rfl, rfl⟩
theorem d_X1_commonDivisor_1 : nD YX1_commonDivisor 1 (.lstore 4) 2 3 1 := ⟨by decide +kernel, rfl, rfl⟩
theorem d_X1_commonDivisor_3 : nD YX1_commonDivisor 3 (.lload_n 2) 1 4 1 := ⟨by decide +kernel, rfl, rfl⟩
theorem d_X1_commonDivisor_4 : nD YX1_commonDivisor 4 (.lstore 6) 2 6 1 := ⟨by decide +kernel, rfl, rfl⟩
theorem d_X1_commonDivisor_6 : nD YX1_commonDivisor 6 (.iconst 0) 1 7 1 := ⟨by decide +kernel, rfl, rfl⟩
theorem d_X1_commonDivisor_7 : nD YX1_commonDivisor 7 (.istore 8) 2 9 1 := ⟨by decide +kernel, rfl, rfl⟩
theorem d_X1_commonDivisor_9 : nD YX1_commonDivisor 9 (.iload 8) 2 11 1 := ⟨by decide +kernel, rfl, rfl⟩
theorem d_X1_commonDivisor_11 : nD YX1_commonDivisor 11 (.sipush 200) 3 14 1 := ⟨by decide +kernel, rfl, rfl⟩
theorem d_X1_commonDivisor_14 : nD YX1_commonDivisor 14 (.if_icmp .ge 31) 3 17 1 := ⟨by decide +kernel, rfl, rfl⟩
theorem d_X1_commonDivisor_17 : nD YX1_commonDivisor 17 (.lload 6) 2 19 1 := ⟨by decide +kernel, rfl, rfl⟩
theorem d_X1_commonDivisor_19 : nD YX1_commonDivisor 19 (.lconst 0) 1 20 1 := ⟨by decide +kernel, rfl, rfl⟩
theorem d_X1_commonDivisor_20 : nD YX1_commonDivisor 20 (.lcmp) 1 21 1 := ⟨by decide +kernel, rfl, rfl⟩
theorem d_X1_commonDivisor_21 : nD YX1_commonDivisor 21 (.ifCond .eq 24) 3 24 1 := ⟨by decide +kernel, rfl, rfl⟩
theorem d_X1_commonDivisor_24 : nD YX1_commonDivisor 24 (.lload 4) 2 26 1 := ⟨by decide +kernel, rfl, rfl⟩
theorem d_X1_commonDivisor_26 : nD YX1_commonDivisor 26 (.lload 6) 2 28 1 := ⟨by decide +kernel, rfl, rfl⟩
theorem d_X1_commonDivisor_28 : nD YX1_commonDivisor 28 (.lrem) 1 29 1 := ⟨by decide +kernel, rfl, rfl⟩
theorem d_X1_commonDivisor_29 : nD YX1_commonDivisor 29 (.lstore 9) 2 31 1 := ⟨by decide +kernel, rfl, rfl⟩
theorem d_X1_commonDivisor_31 : nD YX1_commonDivisor 31 (.lload 6) 2 33 1 := ⟨by decide +kernel, rfl, rfl⟩
theorem d_X1_commonDivisor_33 : nD YX1_commonDivisor 33 (.lstore 4) 2 35 1 := ⟨by decide +kernel, rfl, rfl⟩
theorem d_X1_commonDivisor_35 : nD YX1_commonDivisor 35 (.lload 9) 2 37 1 := ⟨by decide +kernel, rfl, rfl⟩
theorem d_X1_commonDivisor_37 : nD YX1_commonDivisor 37 (.lstore 6) 2 39 1 := ⟨by decide +kernel, rfl, rfl⟩
theorem d_X1_commonDivisor_39 : nD YX1_commonDivisor 39 (.iinc 8 1) 3 42 1 := ⟨by decide +kernel, rfl, rfl⟩
theorem d_X1_commonDivisor_42 : nD YX1_commonDivisor 42 (.goto (-33)) 3 45 1 := ⟨by decide +kernel, rfl, rfl⟩
theorem d_X1_commonDivisor_45 : nD YX1_commonDivisor 45 (.lload 4) 2 47 1 := ⟨by decide +kernel, rfl, rfl⟩
theorem d_X1_commonDivisor_47 : nD YX1_commonDivisor 47 (.lreturn) 1 48 1 := ⟨by decide +kernel, rfl, rfl⟩
theorem d_X1_term_0 : nD YX1_term 0 (.lload_n 0) 1 1 1 := ⟨by decide +kernel, rfl, rfl⟩
theorem d_X1_term_1 : nD YX1_term 1 (.ldc2_w 32) 3 4 1 := ⟨by decide +kernel, rfl, rfl⟩
theorem d_X1_term_4 : nD YX1_term 4 (.invokestatic 79) 3 7 1 := ⟨by decide +kernel, rfl, rfl⟩
theorem d_X1_term_7 : nD YX1_term 7 (.lstore_n 3) 1 8 1 := ⟨by decide +kernel, rfl, rfl⟩
theorem d_X1_term_8 : nD YX1_term 8 (.iload_n 2) 1 9 1 := ⟨by decide +kernel, rfl, rfl⟩
theorem d_X1_term_9 : nD YX1_term 9 (.iconst 0) 1 10 1 := ⟨by decide +kernel, rfl, rfl⟩
theorem d_X1_term_10 : nD YX1_term 10 (.iconst 1) 1 11 1 := ⟨by decide +kernel, rfl, rfl⟩
theorem d_X1_term_11 : nD YX1_term 11 (.invokestatic 83) 3 14 1 := ⟨by decide +kernel, rfl, rfl⟩
theorem d_X1_term_14 : nD YX1_term 14 (.ifCond .eq 9) 3 17 1 := ⟨by decide +kernel, rfl, rfl⟩
theorem d_X1_term_17 : nD YX1_term 17 (.lload_n 3) 1 18 1 := ⟨by decide +kernel, rfl, rfl⟩
theorem d_X1_term_18 : nD YX1_term 18 (.lconst 0) 1 19 1 := ⟨by decide +kernel, rfl, rfl⟩
theorem d_X1_term_19 : nD YX1_term 19 (.lcmp) 1 20 1 := ⟨by decide +kernel, rfl, rfl⟩
theorem d_X1_term_20 : nD YX1_term 20 (.ifCond .gt 7) 3 23 1 := ⟨by decide +kernel, rfl, rfl⟩
theorem d_X1_term_23 : nD YX1_term 23 (.ldc2_w 87) 3 26 1 := ⟨by decide +kernel, rfl, rfl⟩
theorem d_X1_term_26 : nD YX1_term 26 (.lreturn) 1 27 1 := ⟨by decide +kernel, rfl, rfl⟩
theorem d_X1_term_27 : nD YX1_term 27 (.iload_n 2) 1 28 1 := ⟨by decide +kernel, rfl, rfl⟩
theorem d_X1_term_28 : nD YX1_term 28 (.ifCond .ne 7) 3 31 1 := ⟨by decide +kernel, rfl, rfl⟩
theorem d_X1_term_31 : nD YX1_term 31 (.lload_n 0) 1 32 1 := ⟨by decide +kernel, rfl, rfl⟩
theorem d_X1_term_32 : nD YX1_term 32 (.goto 6) 3 35 1 := ⟨by decide +kernel, rfl, rfl⟩
theorem d_X1_term_35 : nD YX1_term 35 (.ldc2_w 32) 3 38 1 := ⟨by decide +kernel, rfl, rfl⟩
theorem d_X1_term_38 : nD YX1_term 38 (.lload_n 3) 1 39 1 := ⟨by decide +kernel, rfl, rfl⟩
theorem d_X1_term_39 : nD YX1_term 39 (.ldiv) 1 40 1 := ⟨by decide +kernel, rfl, rfl⟩
theorem d_X1_term_40 : nD YX1_term 40 (.lreturn) 1 41 1 := ⟨by decide +kernel, rfl, rfl⟩
theorem d_X2_init_0 : nD YX2_init 0 (.aload_n 0) 1 1 2 := ⟨by decide +kernel, rfl, rfl⟩
theorem d_X2_init_1 : nD YX2_init 1 (.invokespecial 3) 3 4 2 := ⟨by decide +kernel, rfl, rfl⟩
theorem d_X2_init_4 : nD YX2_init 4 (.aload_n 0) 1 5 2 := ⟨by decide +kernel, rfl, rfl⟩
theorem d_X2_init_5 : nD YX2_init 5 (.iconst 1) 1 6 2 := ⟨by decide +kernel, rfl, rfl⟩
theorem d_X2_init_6 : nD YX2_init 6 (.putfield 9) 3 9 2 := ⟨by decide +kernel, rfl, rfl⟩
theorem d_X2_init_9 : nD YX2_init 9 (.aload_n 0) 1 10 2 := ⟨by decide +kernel, rfl, rfl⟩
theorem d_X2_init_10 : nD YX2_init 10 (.iconst 1) 1 11 2 := ⟨by decide +kernel, rfl, rfl⟩
theorem d_X2_init_11 : nD YX2_init 11 (.putfield 15) 3 14 2 := ⟨by decide +kernel, rfl, rfl⟩
theorem d_X2_init_14 : nD YX2_init 14 (.aload_n 0) 1 15 2 := ⟨by decide +kernel, rfl, rfl⟩
theorem d_X2_init_15 : nD YX2_init 15 (.bipush 20) 2 17 2 := ⟨by decide +kernel, rfl, rfl⟩
theorem d_X2_init_17 : nD YX2_init 17 (.anewarray 18) 3 20 2 := ⟨by decide +kernel, rfl, rfl⟩
theorem d_X2_init_20 : nD YX2_init 20 (.putfield 20) 3 23 2 := ⟨by decide +kernel, rfl, rfl⟩
theorem d_X2_init_23 : nD YX2_init 23 (.aload_n 0) 1 24 2 := ⟨by decide +kernel, rfl, rfl⟩
theorem d_X2_init_24 : nD YX2_init 24 (.bipush 24) 2 26 2 := ⟨by decide +kernel, rfl, rfl⟩
theorem d_X2_init_26 : nD YX2_init 26 (.newarray .int) 2 28 2 := ⟨by decide +kernel, rfl, rfl⟩
theorem d_X2_init_28 : nD YX2_init 28 (.putfield 24) 3 31 2 := ⟨by decide +kernel, rfl, rfl⟩
theorem d_X2_init_31 : nD YX2_init 31 (.aload_n 0) 1 32 2 := ⟨by decide +kernel, rfl, rfl⟩
theorem d_X2_init_32 : nD YX2_init 32 (.iload_n 1) 1 33 2 := ⟨by decide +kernel, rfl, rfl⟩
theorem d_X2_init_33 : nD YX2_init 33 (.putfield 28) 3 36 2 := ⟨by decide +kernel, rfl, rfl⟩
theorem d_X2_init_36 : nD YX2_init 36 (.aload_n 0) 1 37 2 := ⟨by decide +kernel, rfl, rfl⟩
theorem d_X2_init_37 : nD YX2_init 37 (.iload_n 2) 1 38 2 := ⟨by decide +kernel, rfl, rfl⟩
theorem d_X2_init_38 : nD YX2_init 38 (.putfield 31) 3 41 2 := ⟨by decide +kernel, rfl, rfl⟩
theorem d_X2_init_41 : nD YX2_init 41 (.return_) 1 42 2 := ⟨by decide +kernel, rfl, rfl⟩
theorem d_X2_lastRow_0 : nD YX2_lastRow 0 (.aload_n 0) 1 1 2 := ⟨by decide +kernel, rfl, rfl⟩
theorem d_X2_lastRow_1 : nD YX2_lastRow 1 (.aload_n 0) 1 2 2 := ⟨by decide +kernel, rfl, rfl⟩
theorem d_X2_lastRow_2 : nD YX2_lastRow 2 (.getfield 34) 3 5 2 := ⟨by decide +kernel, rfl, rfl⟩
theorem d_X2_lastRow_5 : nD YX2_lastRow 5 (.iconst 1) 1 6 2 := ⟨by decide +kernel, rfl, rfl⟩
theorem d_X2_lastRow_6 : nD YX2_lastRow 6 (.isub) 1 7 2 := ⟨by decide +kernel, rfl, rfl⟩
theorem d_X2_lastRow_7 : nD YX2_lastRow 7 (.invokevirtual 41) 3 10 2 := ⟨by decide +kernel, rfl, rfl⟩
theorem d_X2_lastRow_10 : nD YX2_lastRow 10 (.areturn) 1 11 2 := ⟨by decide +kernel, rfl, rfl⟩
theorem d_X2_append_0 : nD YX2_append 0 (.aload_n 0) 1 1 2 := ⟨by decide +kernel, rfl, rfl⟩
theorem d_X2_append_1 : nD YX2_append 1 (.getfield 34) 3 4 2 := ⟨by decide +kernel, rfl, rfl⟩
theorem d_X2_append_4 : nD YX2_append 4 (.bipush 20) 2 6 2 := ⟨by decide +kernel, rfl, rfl⟩
theorem d_X2_append_6 : nD YX2_append 6 (.if_icmp .ge 23) 3 9 2 := ⟨by decide +kernel, rfl, rfl⟩
theorem d_X2_append_9 : nD YX2_append 9 (.aload_n 0) 1 10 2 := ⟨by decide +kernel, rfl, rfl⟩
theorem d_X2_append_10 : nD YX2_append 10 (.getfield 20) 3 13 2 := ⟨by decide +kernel, rfl, rfl⟩
theorem d_X2_append_13 : nD YX2_append 13 (.aload_n 0) 1 14 2 := ⟨by decide +kernel, rfl, rfl⟩
theorem d_X2_append_14 : nD YX2_append 14 (.getfield 34) 3 17 2 := ⟨by decide +kernel, rfl, rfl⟩
theorem d_X2_append_17 : nD YX2_append 17 (.aload_n 1) 1 18 2 := ⟨by decide +kernel, rfl, rfl⟩
theorem d_X2_append_18 : nD YX2_append 18 (.aastore) 1 19 2 := ⟨by decide +kernel, rfl, rfl⟩
theorem d_X2_append_19 : nD YX2_append 19 (.aload_n 0) 1 20 2 := ⟨by decide +kernel, rfl, rfl⟩
theorem d_X2_append_20 : nD YX2_append 20 (.dup) 1 21 2 := ⟨by decide +kernel, rfl, rfl⟩
theorem d_X2_append_21 : nD YX2_append 21 (.getfield 34) 3 24 2 := ⟨by decide +kernel, rfl, rfl⟩
theorem d_X2_append_24 : nD YX2_append 24 (.iconst 1) 1 25 2 := ⟨by decide +kernel, rfl, rfl⟩
theorem d_X2_append_25 : nD YX2_append 25 (.iadd) 1 26 2 := ⟨by decide +kernel, rfl, rfl⟩
theorem d_X2_append_26 : nD YX2_append 26 (.putfield 34) 3 29 2 := ⟨by decide +kernel, rfl, rfl⟩
theorem d_X2_append_29 : nD YX2_append 29 (.return_) 1 30 2 := ⟨by decide +kernel, rfl, rfl⟩
theorem d_X3_init_0 : nD YX3_init 0 (.aload_n 0) 1 1 3 := ⟨by decide +kernel, rfl, rfl⟩
theorem d_X3_init_1 : nD YX3_init 1 (.invokespecial 3) 3 4 3 := ⟨by decide +kernel, rfl, rfl⟩
theorem d_X3_init_4 : nD YX3_init 4 (.aload_n 0) 1 5 3 := ⟨by decide +kernel, rfl, rfl⟩
theorem d_X3_init_5 : nD YX3_init 5 (.bipush 24) 2 7 3 := ⟨by decide +kernel, rfl, rfl⟩
theorem d_X3_init_7 : nD YX3_init 7 (.newarray .int) 2 9 3 := ⟨by decide +kernel, rfl, rfl⟩
theorem d_X3_init_9 : nD YX3_init 9 (.putfield 9) 3 12 3 := ⟨by decide +kernel, rfl, rfl⟩
theorem d_X3_init_12 : nD YX3_init 12 (.aload_n 0) 1 13 3 := ⟨by decide +kernel, rfl, rfl⟩
theorem d_X3_init_13 : nD YX3_init 13 (.bipush 24) 2 15 3 := ⟨by decide +kernel, rfl, rfl⟩
theorem d_X3_init_15 : nD YX3_init 15 (.newarray .int) 2 17 3 := ⟨by decide +kernel, rfl, rfl⟩
theorem d_X3_init_17 : nD YX3_init 17 (.putfield 15) 3 20 3 := ⟨by decide +kernel, rfl, rfl⟩
theorem d_X3_init_20 : nD YX3_init 20 (.aload_n 0) 1 21 3 := ⟨by decide +kernel, rfl, rfl⟩
theorem d_X3_init_21 : nD YX3_init 21 (.bipush 24) 2 23 3 := ⟨by decide +kernel, rfl, rfl⟩
theorem d_X3_init_23 : nD YX3_init 23 (.newarray .int) 2 25 3 := ⟨by decide +kernel, rfl, rfl⟩
theorem d_X3_init_25 : nD YX3_init 25 (.putfield 18) 3 28 3 := ⟨by decide +kernel, rfl, rfl⟩
theorem d_X3_init_28 : nD YX3_init 28 (.aload_n 0) 1 29 3 := ⟨by decide +kernel, rfl, rfl⟩
theorem d_X3_init_29 : nD YX3_init 29 (.bipush 24) 2 31 3 := ⟨by decide +kernel, rfl, rfl⟩
theorem d_X3_init_31 : nD YX3_init 31 (.newarray .int) 2 33 3 := ⟨by decide +kernel, rfl, rfl⟩
theorem d_X3_init_33 : nD YX3_init 33 (.putfield 21) 3 36 3 := ⟨by decide +kernel, rfl, rfl⟩
theorem d_X3_init_36 : nD YX3_init 36 (.aload_n 0) 1 37 3 := ⟨by decide +kernel, rfl, rfl⟩
theorem d_X3_init_37 : nD YX3_init 37 (.bipush 24) 2 39 3 := ⟨by decide +kernel, rfl, rfl⟩
theorem d_X3_init_39 : nD YX3_init 39 (.newarray .int) 2 41 3 := ⟨by decide +kernel, rfl, rfl⟩
theorem d_X3_init_41 : nD YX3_init 41 (.putfield 24) 3 44 3 := ⟨by decide +kernel, rfl, rfl⟩
theorem d_X3_init_44 : nD YX3_init 44 (.aload_n 0) 1 45 3 := ⟨by decide +kernel, rfl, rfl⟩
theorem d_X3_init_45 : nD YX3_init 45 (.bipush 24) 2 47 3 := ⟨by decide +kernel, rfl, rfl⟩
theorem d_X3_init_47 : nD YX3_init 47 (.newarray .int) 2 49 3 := ⟨by decide +kernel, rfl, rfl⟩
theorem d_X3_init_49 : nD YX3_init 49 (.putfield 27) 3 52 3 := ⟨by decide +kernel, rfl, rfl⟩
theorem d_X3_init_52 : nD YX3_init 52 (.aload_n 0) 1 53 3 := ⟨by decide +kernel, rfl, rfl⟩
theorem d_X3_init_53 : nD YX3_init 53 (.iload_n 1) 1 54 3 := ⟨by decide +kernel, rfl, rfl⟩
theorem d_X3_init_54 : nD YX3_init 54 (.putfield 30) 3 57 3 := ⟨by decide +kernel, rfl, rfl⟩
theorem d_X3_init_57 : nD YX3_init 57 (.iconst 0) 1 58 3 := ⟨by decide +kernel, rfl, rfl⟩
theorem d_X3_init_58 : nD YX3_init 58 (.istore_n 2) 1 59 3 := ⟨by decide +kernel, rfl, rfl⟩
theorem d_X3_init_59 : nD YX3_init 59 (.iload_n 2) 1 60 3 := ⟨by decide +kernel, rfl, rfl⟩
theorem d_X3_init_60 : nD YX3_init 60 (.bipush 24) 2 62 3 := ⟨by decide +kernel, rfl, rfl⟩
theorem d_X3_init_62 : nD YX3_init 62 (.if_icmp .ge 16) 3 65 3 := ⟨by decide +kernel, rfl, rfl⟩
theorem d_X3_init_65 : nD YX3_init 65 (.aload_n 0) 1 66 3 := ⟨by decide +kernel, rfl, rfl⟩
theorem d_X3_init_66 : nD YX3_init 66 (.getfield 15) 3 69 3 := ⟨by decide +kernel, rfl, rfl⟩
theorem d_X3_init_69 : nD YX3_init 69 (.iload_n 2) 1 70 3 := ⟨by decide +kernel, rfl, rfl⟩
theorem d_X3_init_70 : nD YX3_init 70 (.iconst 1) 1 71 3 := ⟨by decide +kernel, rfl, rfl⟩
theorem d_X3_init_71 : nD YX3_init 71 (.iastore) 1 72 3 := ⟨by decide +kernel, rfl, rfl⟩
theorem d_X3_init_72 : nD YX3_init 72 (.iinc 2 1) 3 75 3 := ⟨by decide +kernel, rfl, rfl⟩
theorem d_X3_init_75 : nD YX3_init 75 (.goto (-16)) 3 78 3 := ⟨by decide +kernel, rfl, rfl⟩
theorem d_X3_init_78 : nD YX3_init 78 (.return_) 1 79 3 := ⟨by decide +kernel, rfl, rfl⟩
theorem d_X3_copied_0 : nD YX3_copied 0 (.new 10) 3 3 3 := ⟨by decide +kernel, rfl, rfl⟩
theorem d_X3_copied_3 : nD YX3_copied 3 (.dup) 1 4 3 := ⟨by decide +kernel, rfl, rfl⟩
theorem d_X3_copied_4 : nD YX3_copied 4 (.aload_n 0) 1 5 3 := ⟨by decide +kernel, rfl, rfl⟩
theorem d_X3_copied_5 : nD YX3_copied 5 (.getfield 30) 3 8 3 := ⟨by decide +kernel, rfl, rfl⟩
theorem d_X3_copied_8 : nD YX3_copied 8 (.invokespecial 34) 3 11 3 := ⟨by decide +kernel, rfl, rfl⟩
theorem d_X3_copied_11 : nD YX3_copied 11 (.astore_n 1) 1 12 3 := ⟨by decide +kernel, rfl, rfl⟩
theorem d_X3_copied_12 : nD YX3_copied 12 (.aload_n 0) 1 13 3 := ⟨by decide +kernel, rfl, rfl⟩
theorem d_X3_copied_13 : nD YX3_copied 13 (.getfield 9) 3 16 3 := ⟨by decide +kernel, rfl, rfl⟩
theorem d_X3_copied_16 : nD YX3_copied 16 (.iconst 0) 1 17 3 := ⟨by decide +kernel, rfl, rfl⟩
theorem d_X3_copied_17 : nD YX3_copied 17 (.aload_n 1) 1 18 3 := ⟨by decide +kernel, rfl, rfl⟩
theorem d_X3_copied_18 : nD YX3_copied 18 (.getfield 9) 3 21 3 := ⟨by decide +kernel, rfl, rfl⟩
theorem d_X3_copied_21 : nD YX3_copied 21 (.iconst 0) 1 22 3 := ⟨by decide +kernel, rfl, rfl⟩
theorem d_X3_copied_22 : nD YX3_copied 22 (.bipush 24) 2 24 3 := ⟨by decide +kernel, rfl, rfl⟩
theorem d_X3_copied_24 : nD YX3_copied 24 (.invokestatic 37) 3 27 3 := ⟨by decide +kernel, rfl, rfl⟩
theorem d_X3_copied_27 : nD YX3_copied 27 (.aload_n 0) 1 28 3 := ⟨by decide +kernel, rfl, rfl⟩
theorem d_X3_copied_28 : nD YX3_copied 28 (.getfield 15) 3 31 3 := ⟨by decide +kernel, rfl, rfl⟩
theorem d_X3_copied_31 : nD YX3_copied 31 (.iconst 0) 1 32 3 := ⟨by decide +kernel, rfl, rfl⟩
theorem d_X3_copied_32 : nD YX3_copied 32 (.aload_n 1) 1 33 3 := ⟨by decide +kernel, rfl, rfl⟩
theorem d_X3_copied_33 : nD YX3_copied 33 (.getfield 15) 3 36 3 := ⟨by decide +kernel, rfl, rfl⟩
theorem d_X3_copied_36 : nD YX3_copied 36 (.iconst 0) 1 37 3 := ⟨by decide +kernel, rfl, rfl⟩
theorem d_X3_copied_37 : nD YX3_copied 37 (.bipush 24) 2 39 3 := ⟨by decide +kernel, rfl, rfl⟩
theorem d_X3_copied_39 : nD YX3_copied 39 (.invokestatic 37) 3 42 3 := ⟨by decide +kernel, rfl, rfl⟩
theorem d_X3_copied_42 : nD YX3_copied 42 (.aload_n 0) 1 43 3 := ⟨by decide +kernel, rfl, rfl⟩
theorem d_X3_copied_43 : nD YX3_copied 43 (.getfield 18) 3 46 3 := ⟨by decide +kernel, rfl, rfl⟩
theorem d_X3_copied_46 : nD YX3_copied 46 (.iconst 0) 1 47 3 := ⟨by decide +kernel, rfl, rfl⟩
theorem d_X3_copied_47 : nD YX3_copied 47 (.aload_n 1) 1 48 3 := ⟨by decide +kernel, rfl, rfl⟩
theorem d_X3_copied_48 : nD YX3_copied 48 (.getfield 18) 3 51 3 := ⟨by decide +kernel, rfl, rfl⟩
theorem d_X3_copied_51 : nD YX3_copied 51 (.iconst 0) 1 52 3 := ⟨by decide +kernel, rfl, rfl⟩
theorem d_X3_copied_52 : nD YX3_copied 52 (.bipush 24) 2 54 3 := ⟨by decide +kernel, rfl, rfl⟩
theorem d_X3_copied_54 : nD YX3_copied 54 (.invokestatic 37) 3 57 3 := ⟨by decide +kernel, rfl, rfl⟩
theorem d_X3_copied_57 : nD YX3_copied 57 (.aload_n 0) 1 58 3 := ⟨by decide +kernel, rfl, rfl⟩
theorem d_X3_copied_58 : nD YX3_copied 58 (.getfield 21) 3 61 3 := ⟨by decide +kernel, rfl, rfl⟩
theorem d_X3_copied_61 : nD YX3_copied 61 (.iconst 0) 1 62 3 := ⟨by decide +kernel, rfl, rfl⟩
theorem d_X3_copied_62 : nD YX3_copied 62 (.aload_n 1) 1 63 3 := ⟨by decide +kernel, rfl, rfl⟩
theorem d_X3_copied_63 : nD YX3_copied 63 (.getfield 21) 3 66 3 := ⟨by decide +kernel, rfl, rfl⟩
theorem d_X3_copied_66 : nD YX3_copied 66 (.iconst 0) 1 67 3 := ⟨by decide +kernel, rfl, rfl⟩
theorem d_X3_copied_67 : nD YX3_copied 67 (.bipush 24) 2 69 3 := ⟨by decide +kernel, rfl, rfl⟩
theorem d_X3_copied_69 : nD YX3_copied 69 (.invokestatic 37) 3 72 3 := ⟨by decide +kernel, rfl, rfl⟩
theorem d_X3_copied_72 : nD YX3_copied 72 (.aload_n 0) 1 73 3 := ⟨by decide +kernel, rfl, rfl⟩
theorem d_X3_copied_73 : nD YX3_copied 73 (.getfield 24) 3 76 3 := ⟨by decide +kernel, rfl, rfl⟩
theorem d_X3_copied_76 : nD YX3_copied 76 (.iconst 0) 1 77 3 := ⟨by decide +kernel, rfl, rfl⟩
theorem d_X3_copied_77 : nD YX3_copied 77 (.aload_n 1) 1 78 3 := ⟨by decide +kernel, rfl, rfl⟩
theorem d_X3_copied_78 : nD YX3_copied 78 (.getfield 24) 3 81 3 := ⟨by decide +kernel, rfl, rfl⟩
theorem d_X3_copied_81 : nD YX3_copied 81 (.iconst 0) 1 82 3 := ⟨by decide +kernel, rfl, rfl⟩
theorem d_X3_copied_82 : nD YX3_copied 82 (.bipush 24) 2 84 3 := ⟨by decide +kernel, rfl, rfl⟩
theorem d_X3_copied_84 : nD YX3_copied 84 (.invokestatic 37) 3 87 3 := ⟨by decide +kernel, rfl, rfl⟩
theorem d_X3_copied_87 : nD YX3_copied 87 (.aload_n 0) 1 88 3 := ⟨by decide +kernel, rfl, rfl⟩
theorem d_X3_copied_88 : nD YX3_copied 88 (.getfield 27) 3 91 3 := ⟨by decide +kernel, rfl, rfl⟩
theorem d_X3_copied_91 : nD YX3_copied 91 (.iconst 0) 1 92 3 := ⟨by decide +kernel, rfl, rfl⟩
theorem d_X3_copied_92 : nD YX3_copied 92 (.aload_n 1) 1 93 3 := ⟨by decide +kernel, rfl, rfl⟩
theorem d_X3_copied_93 : nD YX3_copied 93 (.getfield 27) 3 96 3 := ⟨by decide +kernel, rfl, rfl⟩
theorem d_X3_copied_96 : nD YX3_copied 96 (.iconst 0) 1 97 3 := ⟨by decide +kernel, rfl, rfl⟩
theorem d_X3_copied_97 : nD YX3_copied 97 (.bipush 24) 2 99 3 := ⟨by decide +kernel, rfl, rfl⟩
theorem d_X3_copied_99 : nD YX3_copied 99 (.invokestatic 37) 3 102 3 := ⟨by decide +kernel, rfl, rfl⟩
theorem d_X3_copied_102 : nD YX3_copied 102 (.aload_n 1) 1 103 3 := ⟨by decide +kernel, rfl, rfl⟩
theorem d_X3_copied_103 : nD YX3_copied 103 (.areturn) 1 104 3 := ⟨by decide +kernel, rfl, rfl⟩
theorem d_X2_appendCopies_0 : nD YX2_appendCopies 0 (.iconst 0) 1 1 2 := ⟨by decide +kernel, rfl, rfl⟩
theorem d_X2_appendCopies_1 : nD YX2_appendCopies 1 (.istore_n 2) 1 2 2 := ⟨by decide +kernel, rfl, rfl⟩
theorem d_X2_appendCopies_2 : nD YX2_appendCopies 2 (.iload_n 2) 1 3 2 := ⟨by decide +kernel, rfl, rfl⟩
theorem d_X2_appendCopies_3 : nD YX2_appendCopies 3 (.aload_n 1) 1 4 2 := ⟨by decide +kernel, rfl, rfl⟩
theorem d_X2_appendCopies_4 : nD YX2_appendCopies 4 (.getfield 34) 3 7 2 := ⟨by decide +kernel, rfl, rfl⟩
theorem d_X2_appendCopies_7 : nD YX2_appendCopies 7 (.if_icmp .ge 27) 3 10 2 := ⟨by decide +kernel, rfl, rfl⟩
theorem d_X2_appendCopies_10 : nD YX2_appendCopies 10 (.aload_n 1) 1 11 2 := ⟨by decide +kernel, rfl, rfl⟩
theorem d_X2_appendCopies_11 : nD YX2_appendCopies 11 (.iload_n 2) 1 12 2 := ⟨by decide +kernel, rfl, rfl⟩
theorem d_X2_appendCopies_12 : nD YX2_appendCopies 12 (.invokevirtual 41) 3 15 2 := ⟨by decide +kernel, rfl, rfl⟩
theorem d_X2_appendCopies_15 : nD YX2_appendCopies 15 (.astore_n 3) 1 16 2 := ⟨by decide +kernel, rfl, rfl⟩
theorem d_X2_appendCopies_16 : nD YX2_appendCopies 16 (.aload_n 3) 1 17 2 := ⟨by decide +kernel, rfl, rfl⟩
theorem d_X2_appendCopies_17 : nD YX2_appendCopies 17 (.ifnull 11) 3 20 2 := ⟨by decide +kernel, rfl, rfl⟩
theorem d_X2_appendCopies_20 : nD YX2_appendCopies 20 (.aload_n 0) 1 21 2 := ⟨by decide +kernel, rfl, rfl⟩
theorem d_X2_appendCopies_21 : nD YX2_appendCopies 21 (.aload_n 3) 1 22 2 := ⟨by decide +kernel, rfl, rfl⟩
theorem d_X2_appendCopies_22 : nD YX2_appendCopies 22 (.invokevirtual 49) 3 25 2 := ⟨by decide +kernel, rfl, rfl⟩
theorem d_X2_appendCopies_25 : nD YX2_appendCopies 25 (.invokevirtual 53) 3 28 2 := ⟨by decide +kernel, rfl, rfl⟩
theorem d_X2_appendCopies_28 : nD YX2_appendCopies 28 (.iinc 2 1) 3 31 2 := ⟨by decide +kernel, rfl, rfl⟩
theorem d_X2_appendCopies_31 : nD YX2_appendCopies 31 (.goto (-29)) 3 34 2 := ⟨by decide +kernel, rfl, rfl⟩
theorem d_X2_appendCopies_34 : nD YX2_appendCopies 34 (.return_) 1 35 2 := ⟨by decide +kernel, rfl, rfl⟩
theorem d_X3_givenInAll_0 : nD YX3_givenInAll 0 (.iconst 0) 1 1 3 := ⟨by decide +kernel, rfl, rfl⟩
theorem d_X3_givenInAll_1 : nD YX3_givenInAll 1 (.istore_n 1) 1 2 3 := ⟨by decide +kernel, rfl, rfl⟩
theorem d_X3_givenInAll_2 : nD YX3_givenInAll 2 (.iconst 0) 1 3 3 := ⟨by decide +kernel, rfl, rfl⟩
theorem d_X3_givenInAll_3 : nD YX3_givenInAll 3 (.istore_n 2) 1 4 3 := ⟨by decide +kernel, rfl, rfl⟩
theorem d_X3_givenInAll_4 : nD YX3_givenInAll 4 (.iload_n 2) 1 5 3 := ⟨by decide +kernel, rfl, rfl⟩
theorem d_X3_givenInAll_5 : nD YX3_givenInAll 5 (.aload_n 0) 1 6 3 := ⟨by decide +kernel, rfl, rfl⟩
theorem d_X3_givenInAll_6 : nD YX3_givenInAll 6 (.getfield 30) 3 9 3 := ⟨by decide +kernel, rfl, rfl⟩
theorem d_X3_givenInAll_9 : nD YX3_givenInAll 9 (.if_icmp .ge 18) 3 12 3 := ⟨by decide +kernel, rfl, rfl⟩
theorem d_X3_givenInAll_12 : nD YX3_givenInAll 12 (.iload_n 1) 1 13 3 := ⟨by decide +kernel, rfl, rfl⟩
theorem d_X3_givenInAll_13 : nD YX3_givenInAll 13 (.aload_n 0) 1 14 3 := ⟨by decide +kernel, rfl, rfl⟩
theorem d_X3_givenInAll_14 : nD YX3_givenInAll 14 (.getfield 15) 3 17 3 := ⟨by decide +kernel, rfl, rfl⟩
theorem d_X3_givenInAll_17 : nD YX3_givenInAll 17 (.iload_n 2) 1 18 3 := ⟨by decide +kernel, rfl, rfl⟩
theorem d_X3_givenInAll_18 : nD YX3_givenInAll 18 (.iaload) 1 19 3 := ⟨by decide +kernel, rfl, rfl⟩
theorem d_X3_givenInAll_19 : nD YX3_givenInAll 19 (.iadd) 1 20 3 := ⟨by decide +kernel, rfl, rfl⟩
theorem d_X3_givenInAll_20 : nD YX3_givenInAll 20 (.istore_n 1) 1 21 3 := ⟨by decide +kernel, rfl, rfl⟩
theorem d_X3_givenInAll_21 : nD YX3_givenInAll 21 (.iinc 2 1) 3 24 3 := ⟨by decide +kernel, rfl, rfl⟩
theorem d_X3_givenInAll_24 : nD YX3_givenInAll 24 (.goto (-20)) 3 27 3 := ⟨by decide +kernel, rfl, rfl⟩
theorem d_X3_givenInAll_27 : nD YX3_givenInAll 27 (.iload_n 1) 1 28 3 := ⟨by decide +kernel, rfl, rfl⟩
theorem d_X3_givenInAll_28 : nD YX3_givenInAll 28 (.ireturn) 1 29 3 := ⟨by decide +kernel, rfl, rfl⟩
theorem d_X3_giverBehind_0 : nD YX3_giverBehind 0 (.iload_n 1) 1 1 3 := ⟨by decide +kernel, rfl, rfl⟩
theorem d_X3_giverBehind_1 : nD YX3_giverBehind 1 (.iconst 1) 1 2 3 := ⟨by decide +kernel, rfl, rfl⟩
theorem d_X3_giverBehind_2 : nD YX3_giverBehind 2 (.iadd) 1 3 3 := ⟨by decide +kernel, rfl, rfl⟩
theorem d_X3_giverBehind_3 : nD YX3_giverBehind 3 (.istore_n 2) 1 4 3 := ⟨by decide +kernel, rfl, rfl⟩
theorem d_X3_giverBehind_4 : nD YX3_giverBehind 4 (.iload_n 2) 1 5 3 := ⟨by decide +kernel, rfl, rfl⟩
theorem d_X3_giverBehind_5 : nD YX3_giverBehind 5 (.aload_n 0) 1 6 3 := ⟨by decide +kernel, rfl, rfl⟩
theorem d_X3_giverBehind_6 : nD YX3_giverBehind 6 (.getfield 30) 3 9 3 := ⟨by decide +kernel, rfl, rfl⟩
theorem d_X3_giverBehind_9 : nD YX3_giverBehind 9 (.if_icmp .ge 20) 3 12 3 := ⟨by decide +kernel, rfl, rfl⟩
theorem d_X3_giverBehind_12 : nD YX3_giverBehind 12 (.aload_n 0) 1 13 3 := ⟨by decide +kernel, rfl, rfl⟩
theorem d_X3_giverBehind_13 : nD YX3_giverBehind 13 (.getfield 15) 3 16 3 := ⟨by decide +kernel, rfl, rfl⟩
theorem d_X3_giverBehind_16 : nD YX3_giverBehind 16 (.iload_n 2) 1 17 3 := ⟨by decide +kernel, rfl, rfl⟩
theorem d_X3_giverBehind_17 : nD YX3_giverBehind 17 (.iaload) 1 18 3 := ⟨by decide +kernel, rfl, rfl⟩
theorem d_X3_giverBehind_18 : nD YX3_giverBehind 18 (.ifCond .le 5) 3 21 3 := ⟨by decide +kernel, rfl, rfl⟩
theorem d_X3_giverBehind_21 : nD YX3_giverBehind 21 (.iload_n 2) 1 22 3 := ⟨by decide +kernel, rfl, rfl⟩
theorem d_X3_giverBehind_22 : nD YX3_giverBehind 22 (.ireturn) 1 23 3 := ⟨by decide +kernel, rfl, rfl⟩
theorem d_X3_giverBehind_23 : nD YX3_giverBehind 23 (.iinc 2 1) 3 26 3 := ⟨by decide +kernel, rfl, rfl⟩
theorem d_X3_giverBehind_26 : nD YX3_giverBehind 26 (.goto (-22)) 3 29 3 := ⟨by decide +kernel, rfl, rfl⟩
theorem d_X3_giverBehind_29 : nD YX3_giverBehind 29 (.aload_n 0) 1 30 3 := ⟨by decide +kernel, rfl, rfl⟩
theorem d_X3_giverBehind_30 : nD YX3_giverBehind 30 (.getfield 30) 3 33 3 := ⟨by decide +kernel, rfl, rfl⟩
theorem d_X3_giverBehind_33 : nD YX3_giverBehind 33 (.ireturn) 1 34 3 := ⟨by decide +kernel, rfl, rfl⟩
theorem d_X3_hangIn_0 : nD YX3_hangIn 0 (.iconst 0) 1 1 3 := ⟨by decide +kernel, rfl, rfl⟩
theorem d_X3_hangIn_1 : nD YX3_hangIn 1 (.istore_n 2) 1 2 3 := ⟨by decide +kernel, rfl, rfl⟩
theorem d_X3_hangIn_2 : nD YX3_hangIn 2 (.iconst 0) 1 3 3 := ⟨by decide +kernel, rfl, rfl⟩
theorem d_X3_hangIn_3 : nD YX3_hangIn 3 (.istore_n 3) 1 4 3 := ⟨by decide +kernel, rfl, rfl⟩
theorem d_X3_hangIn_4 : nD YX3_hangIn 4 (.iload_n 3) 1 5 3 := ⟨by decide +kernel, rfl, rfl⟩
theorem d_X3_hangIn_5 : nD YX3_hangIn 5 (.aload_n 1) 1 6 3 := ⟨by decide +kernel, rfl, rfl⟩
theorem d_X3_hangIn_6 : nD YX3_hangIn 6 (.getfield 30) 3 9 3 := ⟨by decide +kernel, rfl, rfl⟩
theorem d_X3_hangIn_9 : nD YX3_hangIn 9 (.if_icmp .ge 105) 3 12 3 := ⟨by decide +kernel, rfl, rfl⟩
theorem d_X3_hangIn_12 : nD YX3_hangIn 12 (.aload_n 1) 1 13 3 := ⟨by decide +kernel, rfl, rfl⟩
theorem d_X3_hangIn_13 : nD YX3_hangIn 13 (.iload_n 3) 1 14 3 := ⟨by decide +kernel, rfl, rfl⟩
theorem d_X3_hangIn_14 : nD YX3_hangIn 14 (.invokevirtual 51) 3 17 3 := ⟨by decide +kernel, rfl, rfl⟩
theorem d_X3_hangIn_17 : nD YX3_hangIn 17 (.istore 4) 2 19 3 := ⟨by decide +kernel, rfl, rfl⟩
theorem d_X3_hangIn_19 : nD YX3_hangIn 19 (.iload_n 2) 1 20 3 := ⟨by decide +kernel, rfl, rfl⟩
theorem d_X3_hangIn_20 : nD YX3_hangIn 20 (.aload_n 1) 1 21 3 := ⟨by decide +kernel, rfl, rfl⟩
theorem d_X3_hangIn_21 : nD YX3_hangIn 21 (.getfield 15) 3 24 3 := ⟨by decide +kernel, rfl, rfl⟩
theorem d_X3_hangIn_24 : nD YX3_hangIn 24 (.iload_n 3) 1 25 3 := ⟨by decide +kernel, rfl, rfl⟩
theorem d_X3_hangIn_25 : nD YX3_hangIn 25 (.iaload) 1 26 3 := ⟨by decide +kernel, rfl, rfl⟩
theorem d_X3_hangIn_26 : nD YX3_hangIn 26 (.iadd) 1 27 3 := ⟨by decide +kernel, rfl, rfl⟩
theorem d_X3_hangIn_27 : nD YX3_hangIn 27 (.istore 5) 2 29 3 := ⟨by decide +kernel, rfl, rfl⟩
theorem d_X3_hangIn_29 : nD YX3_hangIn 29 (.iload_n 2) 1 30 3 := ⟨by decide +kernel, rfl, rfl⟩
theorem d_X3_hangIn_30 : nD YX3_hangIn 30 (.iload 5) 2 32 3 := ⟨by decide +kernel, rfl, rfl⟩
theorem d_X3_hangIn_32 : nD YX3_hangIn 32 (.if_icmp .ge 76) 3 35 3 := ⟨by decide +kernel, rfl, rfl⟩
theorem d_X3_hangIn_35 : nD YX3_hangIn 35 (.iload_n 2) 1 36 3 := ⟨by decide +kernel, rfl, rfl⟩
theorem d_X3_hangIn_36 : nD YX3_hangIn 36 (.aload_n 0) 1 37 3 := ⟨by decide +kernel, rfl, rfl⟩
theorem d_X3_hangIn_37 : nD YX3_hangIn 37 (.getfield 30) 3 40 3 := ⟨by decide +kernel, rfl, rfl⟩
theorem d_X3_hangIn_40 : nD YX3_hangIn 40 (.if_icmp .ge 68) 3 43 3 := ⟨by decide +kernel, rfl, rfl⟩
theorem d_X3_hangIn_43 : nD YX3_hangIn 43 (.iload_n 2) 1 44 3 := ⟨by decide +kernel, rfl, rfl⟩
theorem d_X3_hangIn_44 : nD YX3_hangIn 44 (.iload 5) 2 46 3 := ⟨by decide +kernel, rfl, rfl⟩
theorem d_X3_hangIn_46 : nD YX3_hangIn 46 (.iconst 1) 1 47 3 := ⟨by decide +kernel, rfl, rfl⟩
theorem d_X3_hangIn_47 : nD YX3_hangIn 47 (.isub) 1 48 3 := ⟨by decide +kernel, rfl, rfl⟩
theorem d_X3_hangIn_48 : nD YX3_hangIn 48 (.if_icmp .ne 16) 3 51 3 := ⟨by decide +kernel, rfl, rfl⟩
theorem d_X3_hangIn_51 : nD YX3_hangIn 51 (.iload 4) 2 53 3 := ⟨by decide +kernel, rfl, rfl⟩
theorem d_X3_hangIn_53 : nD YX3_hangIn 53 (.aload_n 1) 1 54 3 := ⟨by decide +kernel, rfl, rfl⟩
theorem d_X3_hangIn_54 : nD YX3_hangIn 54 (.getfield 30) 3 57 3 := ⟨by decide +kernel, rfl, rfl⟩
theorem d_X3_hangIn_57 : nD YX3_hangIn 57 (.if_icmp .ge 7) 3 60 3 := ⟨by decide +kernel, rfl, rfl⟩
theorem d_X3_hangIn_60 : nD YX3_hangIn 60 (.iconst 1) 1 61 3 := ⟨by decide +kernel, rfl, rfl⟩
theorem d_X3_hangIn_61 : nD YX3_hangIn 61 (.goto 4) 3 64 3 := ⟨by decide +kernel, rfl, rfl⟩
theorem d_X3_hangIn_64 : nD YX3_hangIn 64 (.iconst 0) 1 65 3 := ⟨by decide +kernel, rfl, rfl⟩
theorem d_X3_hangIn_65 : nD YX3_hangIn 65 (.istore 6) 2 67 3 := ⟨by decide +kernel, rfl, rfl⟩
theorem d_X3_hangIn_67 : nD YX3_hangIn 67 (.aload_n 0) 1 68 3 := ⟨by decide +kernel, rfl, rfl⟩
theorem d_X3_hangIn_68 : nD YX3_hangIn 68 (.getfield 21) 3 71 3 := ⟨by decide +kernel, rfl, rfl⟩
theorem d_X3_hangIn_71 : nD YX3_hangIn 71 (.iload_n 2) 1 72 3 := ⟨by decide +kernel, rfl, rfl⟩
theorem d_X3_hangIn_72 : nD YX3_hangIn 72 (.iload_n 3) 1 73 3 := ⟨by decide +kernel, rfl, rfl⟩
theorem d_X3_hangIn_73 : nD YX3_hangIn 73 (.iastore) 1 74 3 := ⟨by decide +kernel, rfl, rfl⟩
theorem d_X3_hangIn_74 : nD YX3_hangIn 74 (.aload_n 0) 1 75 3 := ⟨by decide +kernel, rfl, rfl⟩
theorem d_X3_hangIn_75 : nD YX3_hangIn 75 (.getfield 24) 3 78 3 := ⟨by decide +kernel, rfl, rfl⟩
theorem d_X3_hangIn_78 : nD YX3_hangIn 78 (.iload_n 2) 1 79 3 := ⟨by decide +kernel, rfl, rfl⟩
theorem d_X3_hangIn_79 : nD YX3_hangIn 79 (.iload 4) 2 81 3 := ⟨by decide +kernel, rfl, rfl⟩
theorem d_X3_hangIn_81 : nD YX3_hangIn 81 (.iload_n 3) 1 82 3 := ⟨by decide +kernel, rfl, rfl⟩
theorem d_X3_hangIn_82 : nD YX3_hangIn 82 (.isub) 1 83 3 := ⟨by decide +kernel, rfl, rfl⟩
theorem d_X3_hangIn_83 : nD YX3_hangIn 83 (.iload 6) 2 85 3 := ⟨by decide +kernel, rfl, rfl⟩
theorem d_X3_hangIn_85 : nD YX3_hangIn 85 (.ifCond .eq 7) 3 88 3 := ⟨by decide +kernel, rfl, rfl⟩
theorem d_X3_hangIn_88 : nD YX3_hangIn 88 (.iconst 1) 1 89 3 := ⟨by decide +kernel, rfl, rfl⟩
theorem d_X3_hangIn_89 : nD YX3_hangIn 89 (.goto 4) 3 92 3 := ⟨by decide +kernel, rfl, rfl⟩
theorem d_X3_hangIn_92 : nD YX3_hangIn 92 (.iconst 0) 1 93 3 := ⟨by decide +kernel, rfl, rfl⟩
theorem d_X3_hangIn_93 : nD YX3_hangIn 93 (.iadd) 1 94 3 := ⟨by decide +kernel, rfl, rfl⟩
theorem d_X3_hangIn_94 : nD YX3_hangIn 94 (.iastore) 1 95 3 := ⟨by decide +kernel, rfl, rfl⟩
theorem d_X3_hangIn_95 : nD YX3_hangIn 95 (.aload_n 0) 1 96 3 := ⟨by decide +kernel, rfl, rfl⟩
theorem d_X3_hangIn_96 : nD YX3_hangIn 96 (.getfield 27) 3 99 3 := ⟨by decide +kernel, rfl, rfl⟩
theorem d_X3_hangIn_99 : nD YX3_hangIn 99 (.iload_n 2) 1 100 3 := ⟨by decide +kernel, rfl, rfl⟩
theorem d_X3_hangIn_100 : nD YX3_hangIn 100 (.iconst 0) 1 101 3 := ⟨by decide +kernel, rfl, rfl⟩
theorem d_X3_hangIn_101 : nD YX3_hangIn 101 (.iastore) 1 102 3 := ⟨by decide +kernel, rfl, rfl⟩
theorem d_X3_hangIn_102 : nD YX3_hangIn 102 (.iinc 2 1) 3 105 3 := ⟨by decide +kernel, rfl, rfl⟩
theorem d_X3_hangIn_105 : nD YX3_hangIn 105 (.goto (-76)) 3 108 3 := ⟨by decide +kernel, rfl, rfl⟩
theorem d_X3_hangIn_108 : nD YX3_hangIn 108 (.iinc 3 1) 3 111 3 := ⟨by decide +kernel, rfl, rfl⟩
theorem d_X3_hangIn_111 : nD YX3_hangIn 111 (.goto (-107)) 3 114 3 := ⟨by decide +kernel, rfl, rfl⟩
theorem d_X3_hangIn_114 : nD YX3_hangIn 114 (.return_) 1 115 3 := ⟨by decide +kernel, rfl, rfl⟩
theorem d_X2_hangRow_0 : nD YX2_hangRow 0 (.aload_n 0) 1 1 2 := ⟨by decide +kernel, rfl, rfl⟩
theorem d_X2_hangRow_1 : nD YX2_hangRow 1 (.invokevirtual 57) 3 4 2 := ⟨by decide +kernel, rfl, rfl⟩
theorem d_X2_hangRow_4 : nD YX2_hangRow 4 (.astore_n 1) 1 5 2 := ⟨by decide +kernel, rfl, rfl⟩
theorem d_X2_hangRow_5 : nD YX2_hangRow 5 (.aload_n 1) 1 6 2 := ⟨by decide +kernel, rfl, rfl⟩
theorem d_X2_hangRow_6 : nD YX2_hangRow 6 (.ifnull 12) 3 9 2 := ⟨by decide +kernel, rfl, rfl⟩
theorem d_X2_hangRow_9 : nD YX2_hangRow 9 (.aload_n 0) 1 10 2 := ⟨by decide +kernel, rfl, rfl⟩
theorem d_X2_hangRow_10 : nD YX2_hangRow 10 (.getfield 34) 3 13 2 := ⟨by decide +kernel, rfl, rfl⟩
theorem d_X2_hangRow_13 : nD YX2_hangRow 13 (.bipush 20) 2 15 2 := ⟨by decide +kernel, rfl, rfl⟩
theorem d_X2_hangRow_15 : nD YX2_hangRow 15 (.if_icmp .lt 5) 3 18 2 := ⟨by decide +kernel, rfl, rfl⟩
theorem d_X2_hangRow_18 : nD YX2_hangRow 18 (.iconst (-1)) 1 19 2 := ⟨by decide +kernel, rfl, rfl⟩
theorem d_X2_hangRow_19 : nD YX2_hangRow 19 (.ireturn) 1 20 2 := ⟨by decide +kernel, rfl, rfl⟩
theorem d_X2_hangRow_20 : nD YX2_hangRow 20 (.aload_n 1) 1 21 2 := ⟨by decide +kernel, rfl, rfl⟩
theorem d_X2_hangRow_21 : nD YX2_hangRow 21 (.invokevirtual 60) 3 24 2 := ⟨by decide +kernel, rfl, rfl⟩
theorem d_X2_hangRow_24 : nD YX2_hangRow 24 (.istore_n 2) 1 25 2 := ⟨by decide +kernel, rfl, rfl⟩
theorem d_X2_hangRow_25 : nD YX2_hangRow 25 (.iload_n 2) 1 26 2 := ⟨by decide +kernel, rfl, rfl⟩
theorem d_X2_hangRow_26 : nD YX2_hangRow 26 (.iconst 1) 1 27 2 := ⟨by decide +kernel, rfl, rfl⟩
theorem d_X2_hangRow_27 : nD YX2_hangRow 27 (.bipush 24) 2 29 2 := ⟨by decide +kernel, rfl, rfl⟩
theorem d_X2_hangRow_29 : nD YX2_hangRow 29 (.invokestatic 37) 3 32 2 := ⟨by decide +kernel, rfl, rfl⟩
theorem d_X2_hangRow_32 : nD YX2_hangRow 32 (.ifCond .ne 5) 3 35 2 := ⟨by decide +kernel, rfl, rfl⟩
theorem d_X2_hangRow_35 : nD YX2_hangRow 35 (.iconst (-1)) 1 36 2 := ⟨by decide +kernel, rfl, rfl⟩
theorem d_X2_hangRow_36 : nD YX2_hangRow 36 (.ireturn) 1 37 2 := ⟨by decide +kernel, rfl, rfl⟩
theorem d_X2_hangRow_37 : nD YX2_hangRow 37 (.new 18) 3 40 2 := ⟨by decide +kernel, rfl, rfl⟩
theorem d_X2_hangRow_40 : nD YX2_hangRow 40 (.dup) 1 41 2 := ⟨by decide +kernel, rfl, rfl⟩
theorem d_X2_hangRow_41 : nD YX2_hangRow 41 (.iload_n 2) 1 42 2 := ⟨by decide +kernel, rfl, rfl⟩
theorem d_X2_hangRow_42 : nD YX2_hangRow 42 (.invokespecial 64) 3 45 2 := ⟨by decide +kernel, rfl, rfl⟩
theorem d_X2_hangRow_45 : nD YX2_hangRow 45 (.astore_n 3) 1 46 2 := ⟨by decide +kernel, rfl, rfl⟩
theorem d_X2_hangRow_46 : nD YX2_hangRow 46 (.aload_n 3) 1 47 2 := ⟨by decide +kernel, rfl, rfl⟩
theorem d_X2_hangRow_47 : nD YX2_hangRow 47 (.aload_n 1) 1 48 2 := ⟨by decide +kernel, rfl, rfl⟩
theorem d_X2_hangRow_48 : nD YX2_hangRow 48 (.invokevirtual 67) 3 51 2 := ⟨by decide +kernel, rfl, rfl⟩
theorem d_X2_hangRow_51 : nD YX2_hangRow 51 (.aload_n 0) 1 52 2 := ⟨by decide +kernel, rfl, rfl⟩
theorem d_X2_hangRow_52 : nD YX2_hangRow 52 (.aload_n 3) 1 53 2 := ⟨by decide +kernel, rfl, rfl⟩
theorem d_X2_hangRow_53 : nD YX2_hangRow 53 (.invokevirtual 53) 3 56 2 := ⟨by decide +kernel, rfl, rfl⟩
theorem d_X2_hangRow_56 : nD YX2_hangRow 56 (.iload_n 2) 1 57 2 := ⟨by decide +kernel, rfl, rfl⟩
theorem d_X2_hangRow_57 : nD YX2_hangRow 57 (.ireturn) 1 58 2 := ⟨by decide +kernel, rfl, rfl⟩
theorem d_X7_shapedPlaces_0 : nD YX7_shapedPlaces 0 (.iload_n 2) 1 1 7 := ⟨by decide +kernel, rfl, rfl⟩
theorem d_X7_shapedPlaces_1 : nD YX7_shapedPlaces 1 (.ifCond .gt 5) 3 4 7 := ⟨by decide +kernel, rfl, rfl⟩
theorem d_X7_shapedPlaces_4 : nD YX7_shapedPlaces 4 (.lload_n 0) 1 5 7 := ⟨by decide +kernel, rfl, rfl⟩
theorem d_X7_shapedPlaces_5 : nD YX7_shapedPlaces 5 (.lreturn) 1 6 7 := ⟨by decide +kernel, rfl, rfl⟩
theorem d_X7_shapedPlaces_6 : nD YX7_shapedPlaces 6 (.lload_n 0) 1 7 7 := ⟨by decide +kernel, rfl, rfl⟩
theorem d_X7_shapedPlaces_7 : nD YX7_shapedPlaces 7 (.iload_n 2) 1 8 7 := ⟨by decide +kernel, rfl, rfl⟩
theorem d_X7_shapedPlaces_8 : nD YX7_shapedPlaces 8 (.i2l) 1 9 7 := ⟨by decide +kernel, rfl, rfl⟩
theorem d_X7_shapedPlaces_9 : nD YX7_shapedPlaces 9 (.ldiv) 1 10 7 := ⟨by decide +kernel, rfl, rfl⟩
theorem d_X7_shapedPlaces_10 : nD YX7_shapedPlaces 10 (.lstore 4) 2 12 7 := ⟨by decide +kernel, rfl, rfl⟩
theorem d_X7_shapedPlaces_12 : nD YX7_shapedPlaces 12 (.iload_n 3) 1 13 7 := ⟨by decide +kernel, rfl, rfl⟩
theorem d_X7_shapedPlaces_13 : nD YX7_shapedPlaces 13 (.iconst 1) 1 14 7 := ⟨by decide +kernel, rfl, rfl⟩
theorem d_X7_shapedPlaces_14 : nD YX7_shapedPlaces 14 (.if_icmp .ne 8) 3 17 7 := ⟨by decide +kernel, rfl, rfl⟩
theorem d_X7_shapedPlaces_17 : nD YX7_shapedPlaces 17 (.lload_n 0) 1 18 7 := ⟨by decide +kernel, rfl, rfl⟩
theorem d_X7_shapedPlaces_18 : nD YX7_shapedPlaces 18 (.lload 4) 2 20 7 := ⟨by decide +kernel, rfl, rfl⟩
theorem d_X7_shapedPlaces_20 : nD YX7_shapedPlaces 20 (.ladd) 1 21 7 := ⟨by decide +kernel, rfl, rfl⟩
theorem d_X7_shapedPlaces_21 : nD YX7_shapedPlaces 21 (.lreturn) 1 22 7 := ⟨by decide +kernel, rfl, rfl⟩
theorem d_X7_shapedPlaces_22 : nD YX7_shapedPlaces 22 (.iload_n 2) 1 23 7 := ⟨by decide +kernel, rfl, rfl⟩
theorem d_X7_shapedPlaces_23 : nD YX7_shapedPlaces 23 (.iconst 1) 1 24 7 := ⟨by decide +kernel, rfl, rfl⟩
theorem d_X7_shapedPlaces_24 : nD YX7_shapedPlaces 24 (.if_icmp .ne 7) 3 27 7 := ⟨by decide +kernel, rfl, rfl⟩
theorem d_X7_shapedPlaces_27 : nD YX7_shapedPlaces 27 (.lconst 1) 1 28 7 := ⟨by decide +kernel, rfl, rfl⟩
theorem d_X7_shapedPlaces_28 : nD YX7_shapedPlaces 28 (.goto 7) 3 31 7 := ⟨by decide +kernel, rfl, rfl⟩
theorem d_X7_shapedPlaces_31 : nD YX7_shapedPlaces 31 (.lload_n 0) 1 32 7 := ⟨by decide +kernel, rfl, rfl⟩
theorem d_X7_shapedPlaces_32 : nD YX7_shapedPlaces 32 (.lload 4) 2 34 7 := ⟨by decide +kernel, rfl, rfl⟩
theorem d_X7_shapedPlaces_34 : nD YX7_shapedPlaces 34 (.lsub) 1 35 7 := ⟨by decide +kernel, rfl, rfl⟩
theorem d_X7_shapedPlaces_35 : nD YX7_shapedPlaces 35 (.lreturn) 1 36 7 := ⟨by decide +kernel, rfl, rfl⟩
theorem d_X2_bearsShaping_0 : nD YX2_bearsShaping 0 (.aload_n 0) 1 1 2 := ⟨by decide +kernel, rfl, rfl⟩
theorem d_X2_bearsShaping_1 : nD YX2_bearsShaping 1 (.invokevirtual 57) 3 4 2 := ⟨by decide +kernel, rfl, rfl⟩
theorem d_X2_bearsShaping_4 : nD YX2_bearsShaping 4 (.astore 4) 2 6 2 := ⟨by decide +kernel, rfl, rfl⟩
theorem d_X2_bearsShaping_6 : nD YX2_bearsShaping 6 (.aload 4) 2 8 2 := ⟨by decide +kernel, rfl, rfl⟩
theorem d_X2_bearsShaping_8 : nD YX2_bearsShaping 8 (.ifnull 22) 3 11 2 := ⟨by decide +kernel, rfl, rfl⟩
theorem d_X2_bearsShaping_11 : nD YX2_bearsShaping 11 (.aload 4) 2 13 2 := ⟨by decide +kernel, rfl, rfl⟩
theorem d_X2_bearsShaping_13 : nD YX2_bearsShaping 13 (.getfield 70) 3 16 2 := ⟨by decide +kernel, rfl, rfl⟩
theorem d_X2_bearsShaping_16 : nD YX2_bearsShaping 16 (.ifCond .eq 14) 3 19 2 := ⟨by decide +kernel, rfl, rfl⟩
theorem d_X2_bearsShaping_19 : nD YX2_bearsShaping 19 (.iload_n 1) 1 20 2 := ⟨by decide +kernel, rfl, rfl⟩
theorem d_X2_bearsShaping_20 : nD YX2_bearsShaping 20 (.bipush 20) 2 22 2 := ⟨by decide +kernel, rfl, rfl⟩
theorem d_X2_bearsShaping_22 : nD YX2_bearsShaping 22 (.aload_n 0) 1 23 2 := ⟨by decide +kernel, rfl, rfl⟩
theorem d_X2_bearsShaping_23 : nD YX2_bearsShaping 23 (.getfield 34) 3 26 2 := ⟨by decide +kernel, rfl, rfl⟩
theorem d_X2_bearsShaping_26 : nD YX2_bearsShaping 26 (.isub) 1 27 2 := ⟨by decide +kernel, rfl, rfl⟩
theorem d_X2_bearsShaping_27 : nD YX2_bearsShaping 27 (.if_icmp .le 5) 3 30 2 := ⟨by decide +kernel, rfl, rfl⟩
theorem d_X2_bearsShaping_30 : nD YX2_bearsShaping 30 (.iconst 0) 1 31 2 := ⟨by decide +kernel, rfl, rfl⟩
theorem d_X2_bearsShaping_31 : nD YX2_bearsShaping 31 (.ireturn) 1 32 2 := ⟨by decide +kernel, rfl, rfl⟩
theorem d_X2_bearsShaping_32 : nD YX2_bearsShaping 32 (.aload 4) 2 34 2 := ⟨by decide +kernel, rfl, rfl⟩
theorem d_X2_bearsShaping_34 : nD YX2_bearsShaping 34 (.getfield 70) 3 37 2 := ⟨by decide +kernel, rfl, rfl⟩
theorem d_X2_bearsShaping_37 : nD YX2_bearsShaping 37 (.i2l) 1 38 2 := ⟨by decide +kernel, rfl, rfl⟩
theorem d_X2_bearsShaping_38 : nD YX2_bearsShaping 38 (.lstore 5) 2 40 2 := ⟨by decide +kernel, rfl, rfl⟩
theorem d_X2_bearsShaping_40 : nD YX2_bearsShaping 40 (.iconst 0) 1 41 2 := ⟨by decide +kernel, rfl, rfl⟩
theorem d_X2_bearsShaping_41 : nD YX2_bearsShaping 41 (.istore 7) 2 43 2 := ⟨by decide +kernel, rfl, rfl⟩
theorem d_X2_bearsShaping_43 : nD YX2_bearsShaping 43 (.iload 7) 2 45 2 := ⟨by decide +kernel, rfl, rfl⟩
theorem d_X2_bearsShaping_45 : nD YX2_bearsShaping 45 (.iload_n 1) 1 46 2 := ⟨by decide +kernel, rfl, rfl⟩
theorem d_X2_bearsShaping_46 : nD YX2_bearsShaping 46 (.if_icmp .ge 36) 3 49 2 := ⟨by decide +kernel, rfl, rfl⟩
theorem d_X2_bearsShaping_49 : nD YX2_bearsShaping 49 (.lload 5) 2 51 2 := ⟨by decide +kernel, rfl, rfl⟩
theorem d_X2_bearsShaping_51 : nD YX2_bearsShaping 51 (.iload_n 2) 1 52 2 := ⟨by decide +kernel, rfl, rfl⟩
theorem d_X2_bearsShaping_52 : nD YX2_bearsShaping 52 (.iload_n 3) 1 53 2 := ⟨by decide +kernel, rfl, rfl⟩
theorem d_X2_bearsShaping_53 : nD YX2_bearsShaping 53 (.invokestatic 73) 3 56 2 := ⟨by decide +kernel, rfl, rfl⟩
theorem d_X2_bearsShaping_56 : nD YX2_bearsShaping 56 (.lstore 5) 2 58 2 := ⟨by decide +kernel, rfl, rfl⟩
theorem d_X2_bearsShaping_58 : nD YX2_bearsShaping 58 (.lload 5) 2 60 2 := ⟨by decide +kernel, rfl, rfl⟩
theorem d_X2_bearsShaping_60 : nD YX2_bearsShaping 60 (.lconst 1) 1 61 2 := ⟨by decide +kernel, rfl, rfl⟩
theorem d_X2_bearsShaping_61 : nD YX2_bearsShaping 61 (.lcmp) 1 62 2 := ⟨by decide +kernel, rfl, rfl⟩
theorem d_X2_bearsShaping_62 : nD YX2_bearsShaping 62 (.ifCond .lt 12) 3 65 2 := ⟨by decide +kernel, rfl, rfl⟩
theorem d_X2_bearsShaping_65 : nD YX2_bearsShaping 65 (.lload 5) 2 67 2 := ⟨by decide +kernel, rfl, rfl⟩
theorem d_X2_bearsShaping_67 : nD YX2_bearsShaping 67 (.ldc2_w 77) 3 70 2 := ⟨by decide +kernel, rfl, rfl⟩
theorem d_X2_bearsShaping_70 : nD YX2_bearsShaping 70 (.lcmp) 1 71 2 := ⟨by decide +kernel, rfl, rfl⟩
theorem d_X2_bearsShaping_71 : nD YX2_bearsShaping 71 (.ifCond .le 5) 3 74 2 := ⟨by decide +kernel, rfl, rfl⟩
theorem d_X2_bearsShaping_74 : nD YX2_bearsShaping 74 (.iconst 0) 1 75 2 := ⟨by decide +kernel, rfl, rfl⟩
theorem d_X2_bearsShaping_75 : nD YX2_bearsShaping 75 (.ireturn) 1 76 2 := ⟨by decide +kernel, rfl, rfl⟩
theorem d_X2_bearsShaping_76 : nD YX2_bearsShaping 76 (.iinc 7 1) 3 79 2 := ⟨by decide +kernel, rfl, rfl⟩
theorem d_X2_bearsShaping_79 : nD YX2_bearsShaping 79 (.goto (-36)) 3 82 2 := ⟨by decide +kernel, rfl, rfl⟩
theorem d_X2_bearsShaping_82 : nD YX2_bearsShaping 82 (.iconst 1) 1 83 2 := ⟨by decide +kernel, rfl, rfl⟩
theorem d_X2_bearsShaping_83 : nD YX2_bearsShaping 83 (.ireturn) 1 84 2 := ⟨by decide +kernel, rfl, rfl⟩
theorem d_X3_turn_0 : nD YX3_turn 0 (.aload_n 0) 1 1 3 := ⟨by decide +kernel, rfl, rfl⟩
theorem d_X3_turn_1 : nD YX3_turn 1 (.getfield 9) 3 4 3 := ⟨by decide +kernel, rfl, rfl⟩
theorem d_X3_turn_4 : nD YX3_turn 4 (.iload_n 1) 1 5 3 := ⟨by decide +kernel, rfl, rfl⟩
theorem d_X3_turn_5 : nD YX3_turn 5 (.iload_n 2) 1 6 3 := ⟨by decide +kernel, rfl, rfl⟩
theorem d_X3_turn_6 : nD YX3_turn 6 (.iastore) 1 7 3 := ⟨by decide +kernel, rfl, rfl⟩
theorem d_X3_turn_7 : nD YX3_turn 7 (.aload_n 0) 1 8 3 := ⟨by decide +kernel, rfl, rfl⟩
theorem d_X3_turn_8 : nD YX3_turn 8 (.getfield 15) 3 11 3 := ⟨by decide +kernel, rfl, rfl⟩
theorem d_X3_turn_11 : nD YX3_turn 11 (.iload_n 1) 1 12 3 := ⟨by decide +kernel, rfl, rfl⟩
theorem d_X3_turn_12 : nD YX3_turn 12 (.iload_n 2) 1 13 3 := ⟨by decide +kernel, rfl, rfl⟩
theorem d_X3_turn_13 : nD YX3_turn 13 (.iconst 1) 1 14 3 := ⟨by decide +kernel, rfl, rfl⟩
theorem d_X3_turn_14 : nD YX3_turn 14 (.if_icmp .ne 7) 3 17 3 := ⟨by decide +kernel, rfl, rfl⟩
theorem d_X3_turn_17 : nD YX3_turn 17 (.iconst 2) 1 18 3 := ⟨by decide +kernel, rfl, rfl⟩
theorem d_X3_turn_18 : nD YX3_turn 18 (.goto 13) 3 21 3 := ⟨by decide +kernel, rfl, rfl⟩
theorem d_X3_turn_21 : nD YX3_turn 21 (.iload_n 2) 1 22 3 := ⟨by decide +kernel, rfl, rfl⟩
theorem d_X3_turn_22 : nD YX3_turn 22 (.iconst 2) 1 23 3 := ⟨by decide +kernel, rfl, rfl⟩
theorem d_X3_turn_23 : nD YX3_turn 23 (.if_icmp .ne 7) 3 26 3 := ⟨by decide +kernel, rfl, rfl⟩
theorem d_X3_turn_26 : nD YX3_turn 26 (.iconst 0) 1 27 3 := ⟨by decide +kernel, rfl, rfl⟩
theorem d_X3_turn_27 : nD YX3_turn 27 (.goto 4) 3 30 3 := ⟨by decide +kernel, rfl, rfl⟩
theorem d_X3_turn_30 : nD YX3_turn 30 (.iconst 1) 1 31 3 := ⟨by decide +kernel, rfl, rfl⟩
theorem d_X3_turn_31 : nD YX3_turn 31 (.iastore) 1 32 3 := ⟨by decide +kernel, rfl, rfl⟩
theorem d_X3_turn_32 : nD YX3_turn 32 (.return_) 1 33 3 := ⟨by decide +kernel, rfl, rfl⟩
theorem d_X3_turnEvery_0 : nD YX3_turnEvery 0 (.iconst 0) 1 1 3 := ⟨by decide +kernel, rfl, rfl⟩
theorem d_X3_turnEvery_1 : nD YX3_turnEvery 1 (.istore_n 3) 1 2 3 := ⟨by decide +kernel, rfl, rfl⟩
theorem d_X3_turnEvery_2 : nD YX3_turnEvery 2 (.iload_n 3) 1 3 3 := ⟨by decide +kernel, rfl, rfl⟩
theorem d_X3_turnEvery_3 : nD YX3_turnEvery 3 (.aload_n 0) 1 4 3 := ⟨by decide +kernel, rfl, rfl⟩
theorem d_X3_turnEvery_4 : nD YX3_turnEvery 4 (.getfield 30) 3 7 3 := ⟨by decide +kernel, rfl, rfl⟩
theorem d_X3_turnEvery_7 : nD YX3_turnEvery 7 (.if_icmp .ge 52) 3 10 3 := ⟨by decide +kernel, rfl, rfl⟩
theorem d_X3_turnEvery_10 : nD YX3_turnEvery 10 (.iload_n 1) 1 11 3 := ⟨by decide +kernel, rfl, rfl⟩
theorem d_X3_turnEvery_11 : nD YX3_turnEvery 11 (.ifCond .le 24) 3 14 3 := ⟨by decide +kernel, rfl, rfl⟩
theorem d_X3_turnEvery_14 : nD YX3_turnEvery 14 (.iload_n 3) 1 15 3 := ⟨by decide +kernel, rfl, rfl⟩
theorem d_X3_turnEvery_15 : nD YX3_turnEvery 15 (.iconst 1) 1 16 3 := ⟨by decide +kernel, rfl, rfl⟩
theorem d_X3_turnEvery_16 : nD YX3_turnEvery 16 (.iadd) 1 17 3 := ⟨by decide +kernel, rfl, rfl⟩
theorem d_X3_turnEvery_17 : nD YX3_turnEvery 17 (.iload_n 1) 1 18 3 := ⟨by decide +kernel, rfl, rfl⟩
theorem d_X3_turnEvery_18 : nD YX3_turnEvery 18 (.irem) 1 19 3 := ⟨by decide +kernel, rfl, rfl⟩
theorem d_X3_turnEvery_19 : nD YX3_turnEvery 19 (.ifCond .ne 16) 3 22 3 := ⟨by decide +kernel, rfl, rfl⟩
theorem d_X3_turnEvery_22 : nD YX3_turnEvery 22 (.iload_n 2) 1 23 3 := ⟨by decide +kernel, rfl, rfl⟩
theorem d_X3_turnEvery_23 : nD YX3_turnEvery 23 (.iconst 2) 1 24 3 := ⟨by decide +kernel, rfl, rfl⟩
theorem d_X3_turnEvery_24 : nD YX3_turnEvery 24 (.if_icmp .ne 7) 3 27 3 := ⟨by decide +kernel, rfl, rfl⟩
theorem d_X3_turnEvery_27 : nD YX3_turnEvery 27 (.iload_n 3) 1 28 3 := ⟨by decide +kernel, rfl, rfl⟩
theorem d_X3_turnEvery_28 : nD YX3_turnEvery 28 (.ifCond .eq 7) 3 31 3 := ⟨by decide +kernel, rfl, rfl⟩
theorem d_X3_turnEvery_31 : nD YX3_turnEvery 31 (.iconst 1) 1 32 3 := ⟨by decide +kernel, rfl, rfl⟩
theorem d_X3_turnEvery_32 : nD YX3_turnEvery 32 (.goto 4) 3 35 3 := ⟨by decide +kernel, rfl, rfl⟩
theorem d_X3_turnEvery_35 : nD YX3_turnEvery 35 (.iconst 0) 1 36 3 := ⟨by decide +kernel, rfl, rfl⟩
theorem d_X3_turnEvery_36 : nD YX3_turnEvery 36 (.istore 4) 2 38 3 := ⟨by decide +kernel, rfl, rfl⟩
theorem d_X3_turnEvery_38 : nD YX3_turnEvery 38 (.aload_n 0) 1 39 3 := ⟨by decide +kernel, rfl, rfl⟩
theorem d_X3_turnEvery_39 : nD YX3_turnEvery 39 (.iload_n 3) 1 40 3 := ⟨by decide +kernel, rfl, rfl⟩
theorem d_X3_turnEvery_40 : nD YX3_turnEvery 40 (.iload 4) 2 42 3 := ⟨by decide +kernel, rfl, rfl⟩
theorem d_X3_turnEvery_42 : nD YX3_turnEvery 42 (.ifCond .eq 7) 3 45 3 := ⟨by decide +kernel, rfl, rfl⟩
theorem d_X3_turnEvery_45 : nD YX3_turnEvery 45 (.iload_n 2) 1 46 3 := ⟨by decide +kernel, rfl, rfl⟩
theorem d_X3_turnEvery_46 : nD YX3_turnEvery 46 (.goto 4) 3 49 3 := ⟨by decide +kernel, rfl, rfl⟩
theorem d_X3_turnEvery_49 : nD YX3_turnEvery 49 (.iconst 0) 1 50 3 := ⟨by decide +kernel, rfl, rfl⟩
theorem d_X3_turnEvery_50 : nD YX3_turnEvery 50 (.invokevirtual 47) 3 53 3 := ⟨by decide +kernel, rfl, rfl⟩
theorem d_X3_turnEvery_53 : nD YX3_turnEvery 53 (.iinc 3 1) 3 56 3 := ⟨by decide +kernel, rfl, rfl⟩
theorem d_X3_turnEvery_56 : nD YX3_turnEvery 56 (.goto (-54)) 3 59 3 := ⟨by decide +kernel, rfl, rfl⟩
theorem d_X3_turnEvery_59 : nD YX3_turnEvery 59 (.return_) 1 60 3 := ⟨by decide +kernel, rfl, rfl⟩
theorem d_X2_shapeRows_0 : nD YX2_shapeRows 0 (.iconst (-1)) 1 1 2 := ⟨by decide +kernel, rfl, rfl⟩
theorem d_X2_shapeRows_1 : nD YX2_shapeRows 1 (.istore 4) 2 3 2 := ⟨by decide +kernel, rfl, rfl⟩
theorem d_X2_shapeRows_3 : nD YX2_shapeRows 3 (.iconst 0) 1 4 2 := ⟨by decide +kernel, rfl, rfl⟩
theorem d_X2_shapeRows_4 : nD YX2_shapeRows 4 (.istore 5) 2 6 2 := ⟨by decide +kernel, rfl, rfl⟩
theorem d_X2_shapeRows_6 : nD YX2_shapeRows 6 (.iload 5) 2 8 2 := ⟨by decide +kernel, rfl, rfl⟩
theorem d_X2_shapeRows_8 : nD YX2_shapeRows 8 (.iload_n 1) 1 9 2 := ⟨by decide +kernel, rfl, rfl⟩
theorem d_X2_shapeRows_9 : nD YX2_shapeRows 9 (.if_icmp .ge 33) 3 12 2 := ⟨by decide +kernel, rfl, rfl⟩
theorem d_X2_shapeRows_12 : nD YX2_shapeRows 12 (.aload_n 0) 1 13 2 := ⟨by decide +kernel, rfl, rfl⟩
theorem d_X2_shapeRows_13 : nD YX2_shapeRows 13 (.invokevirtual 57) 3 16 2 := ⟨by decide +kernel, rfl, rfl⟩
theorem d_X2_shapeRows_16 : nD YX2_shapeRows 16 (.astore 6) 2 18 2 := ⟨by decide +kernel, rfl, rfl⟩
theorem d_X2_shapeRows_18 : nD YX2_shapeRows 18 (.aload 6) 2 20 2 := ⟨by decide +kernel, rfl, rfl⟩
theorem d_X2_shapeRows_20 : nD YX2_shapeRows 20 (.ifnull 16) 3 23 2 := ⟨by decide +kernel, rfl, rfl⟩
theorem d_X2_shapeRows_23 : nD YX2_shapeRows 23 (.aload 6) 2 25 2 := ⟨by decide +kernel, rfl, rfl⟩
theorem d_X2_shapeRows_25 : nD YX2_shapeRows 25 (.iload_n 2) 1 26 2 := ⟨by decide +kernel, rfl, rfl⟩
theorem d_X2_shapeRows_26 : nD YX2_shapeRows 26 (.iload_n 3) 1 27 2 := ⟨by decide +kernel, rfl, rfl⟩
theorem d_X2_shapeRows_27 : nD YX2_shapeRows 27 (.invokevirtual 79) 3 30 2 := ⟨by decide +kernel, rfl, rfl⟩
theorem d_X2_shapeRows_30 : nD YX2_shapeRows 30 (.aload_n 0) 1 31 2 := ⟨by decide +kernel, rfl, rfl⟩
theorem d_X2_shapeRows_31 : nD YX2_shapeRows 31 (.invokevirtual 83) 3 34 2 := ⟨by decide +kernel, rfl, rfl⟩
theorem d_X2_shapeRows_34 : nD YX2_shapeRows 34 (.istore 4) 2 36 2 := ⟨by decide +kernel, rfl, rfl⟩
theorem d_X2_shapeRows_36 : nD YX2_shapeRows 36 (.iinc 5 1) 3 39 2 := ⟨by decide +kernel, rfl, rfl⟩
theorem d_X2_shapeRows_39 : nD YX2_shapeRows 39 (.goto (-33)) 3 42 2 := ⟨by decide +kernel, rfl, rfl⟩
theorem d_X2_shapeRows_42 : nD YX2_shapeRows 42 (.iload 4) 2 44 2 := ⟨by decide +kernel, rfl, rfl⟩
theorem d_X2_shapeRows_44 : nD YX2_shapeRows 44 (.ireturn) 1 45 2 := ⟨by decide +kernel, rfl, rfl⟩
theorem d_X3_isWhole_0 : nD YX3_isWhole 0 (.aload_n 0) 1 1 3 := ⟨by decide +kernel, rfl, rfl⟩
theorem d_X3_isWhole_1 : nD YX3_isWhole 1 (.iload_n 1) 1 2 3 := ⟨by decide +kernel, rfl, rfl⟩
theorem d_X3_isWhole_2 : nD YX3_isWhole 2 (.iload_n 2) 1 3 3 := ⟨by decide +kernel, rfl, rfl⟩
theorem d_X3_isWhole_3 : nD YX3_isWhole 3 (.invokevirtual 55) 3 6 3 := ⟨by decide +kernel, rfl, rfl⟩
theorem d_X3_isWhole_6 : nD YX3_isWhole 6 (.ifCond .eq 16) 3 9 3 := ⟨by decide +kernel, rfl, rfl⟩
theorem d_X3_isWhole_9 : nD YX3_isWhole 9 (.aload_n 0) 1 10 3 := ⟨by decide +kernel, rfl, rfl⟩
theorem d_X3_isWhole_10 : nD YX3_isWhole 10 (.iload_n 1) 1 11 3 := ⟨by decide +kernel, rfl, rfl⟩
theorem d_X3_isWhole_11 : nD YX3_isWhole 11 (.iload_n 2) 1 12 3 := ⟨by decide +kernel, rfl, rfl⟩
theorem d_X3_isWhole_12 : nD YX3_isWhole 12 (.invokevirtual 62) 3 15 3 := ⟨by decide +kernel, rfl, rfl⟩
theorem d_X3_isWhole_15 : nD YX3_isWhole 15 (.ifCond .ne 7) 3 18 3 := ⟨by decide +kernel, rfl, rfl⟩
theorem d_X3_isWhole_18 : nD YX3_isWhole 18 (.iconst 1) 1 19 3 := ⟨by decide +kernel, rfl, rfl⟩
theorem d_X3_isWhole_19 : nD YX3_isWhole 19 (.goto 4) 3 22 3 := ⟨by decide +kernel, rfl, rfl⟩
theorem d_X3_isWhole_22 : nD YX3_isWhole 22 (.iconst 0) 1 23 3 := ⟨by decide +kernel, rfl, rfl⟩
theorem d_X3_isWhole_23 : nD YX3_isWhole 23 (.ireturn) 1 24 3 := ⟨by decide +kernel, rfl, rfl⟩
theorem d_X3_setSide_0 : nD YX3_setSide 0 (.aload_n 0) 1 1 3 := ⟨by decide +kernel, rfl, rfl⟩
theorem d_X3_setSide_1 : nD YX3_setSide 1 (.getfield 27) 3 4 3 := ⟨by decide +kernel, rfl, rfl⟩
theorem d_X3_setSide_4 : nD YX3_setSide 4 (.iload_n 1) 1 5 3 := ⟨by decide +kernel, rfl, rfl⟩
theorem d_X3_setSide_5 : nD YX3_setSide 5 (.iload_n 3) 1 6 3 := ⟨by decide +kernel, rfl, rfl⟩
theorem d_X3_setSide_6 : nD YX3_setSide 6 (.ifCond .eq 18) 3 9 3 := ⟨by decide +kernel, rfl, rfl⟩
theorem d_X3_setSide_9 : nD YX3_setSide 9 (.aload_n 0) 1 10 3 := ⟨by decide +kernel, rfl, rfl⟩
theorem d_X3_setSide_10 : nD YX3_setSide 10 (.getfield 27) 3 13 3 := ⟨by decide +kernel, rfl, rfl⟩
theorem d_X3_setSide_13 : nD YX3_setSide 13 (.iload_n 1) 1 14 3 := ⟨by decide +kernel, rfl, rfl⟩
theorem d_X3_setSide_14 : nD YX3_setSide 14 (.iaload) 1 15 3 := ⟨by decide +kernel, rfl, rfl⟩
theorem d_X3_setSide_15 : nD YX3_setSide 15 (.iconst 1) 1 16 3 := ⟨by decide +kernel, rfl, rfl⟩
theorem d_X3_setSide_16 : nD YX3_setSide 16 (.iload_n 2) 1 17 3 := ⟨by decide +kernel, rfl, rfl⟩
theorem d_X3_setSide_17 : nD YX3_setSide 17 (.ishl) 1 18 3 := ⟨by decide +kernel, rfl, rfl⟩
theorem d_X3_setSide_18 : nD YX3_setSide 18 (.iconst (-1)) 1 19 3 := ⟨by decide +kernel, rfl, rfl⟩
theorem d_X3_setSide_19 : nD YX3_setSide 19 (.ixor) 1 20 3 := ⟨by decide +kernel, rfl, rfl⟩
theorem d_X3_setSide_20 : nD YX3_setSide 20 (.iand) 1 21 3 := ⟨by decide +kernel, rfl, rfl⟩
theorem d_X3_setSide_21 : nD YX3_setSide 21 (.goto 13) 3 24 3 := ⟨by decide +kernel, rfl, rfl⟩
theorem d_X3_setSide_24 : nD YX3_setSide 24 (.aload_n 0) 1 25 3 := ⟨by decide +kernel, rfl, rfl⟩
theorem d_X3_setSide_25 : nD YX3_setSide 25 (.getfield 27) 3 28 3 := ⟨by decide +kernel, rfl, rfl⟩
theorem d_X3_setSide_28 : nD YX3_setSide 28 (.iload_n 1) 1 29 3 := ⟨by decide +kernel, rfl, rfl⟩
theorem d_X3_setSide_29 : nD YX3_setSide 29 (.iaload) 1 30 3 := ⟨by decide +kernel, rfl, rfl⟩
theorem d_X3_setSide_30 : nD YX3_setSide 30 (.iconst 1) 1 31 3 := ⟨by decide +kernel, rfl, rfl⟩
theorem d_X3_setSide_31 : nD YX3_setSide 31 (.iload_n 2) 1 32 3 := ⟨by decide +kernel, rfl, rfl⟩
theorem d_X3_setSide_32 : nD YX3_setSide 32 (.ishl) 1 33 3 := ⟨by decide +kernel, rfl, rfl⟩
theorem d_X3_setSide_33 : nD YX3_setSide 33 (.ior) 1 34 3 := ⟨by decide +kernel, rfl, rfl⟩
theorem d_X3_setSide_34 : nD YX3_setSide 34 (.iastore) 1 35 3 := ⟨by decide +kernel, rfl, rfl⟩
theorem d_X3_setSide_35 : nD YX3_setSide 35 (.return_) 1 36 3 := ⟨by decide +kernel, rfl, rfl⟩
theorem d_X3_setSideTo_0 : nD YX3_setSideTo 0 (.aload_n 0) 1 1 3 := ⟨by decide +kernel, rfl, rfl⟩
theorem d_X3_setSideTo_1 : nD YX3_setSideTo 1 (.iload_n 1) 1 2 3 := ⟨by decide +kernel, rfl, rfl⟩
theorem d_X3_setSideTo_2 : nD YX3_setSideTo 2 (.iload_n 2) 1 3 3 := ⟨by decide +kernel, rfl, rfl⟩
theorem d_X3_setSideTo_3 : nD YX3_setSideTo 3 (.invokevirtual 55) 3 6 3 := ⟨by decide +kernel, rfl, rfl⟩
theorem d_X3_setSideTo_6 : nD YX3_setSideTo 6 (.ifCond .eq 17) 3 9 3 := ⟨by decide +kernel, rfl, rfl⟩
theorem d_X3_setSideTo_9 : nD YX3_setSideTo 9 (.aload_n 0) 1 10 3 := ⟨by decide +kernel, rfl, rfl⟩
theorem d_X3_setSideTo_10 : nD YX3_setSideTo 10 (.iload_n 1) 1 11 3 := ⟨by decide +kernel, rfl, rfl⟩
theorem d_X3_setSideTo_11 : nD YX3_setSideTo 11 (.iload_n 2) 1 12 3 := ⟨by decide +kernel, rfl, rfl⟩
theorem d_X3_setSideTo_12 : nD YX3_setSideTo 12 (.aload_n 0) 1 13 3 := ⟨by decide +kernel, rfl, rfl⟩
theorem d_X3_setSideTo_13 : nD YX3_setSideTo 13 (.getfield 21) 3 16 3 := ⟨by decide +kernel, rfl, rfl⟩
theorem d_X3_setSideTo_16 : nD YX3_setSideTo 16 (.iload_n 1) 1 17 3 := ⟨by decide +kernel, rfl, rfl⟩
theorem d_X3_setSideTo_17 : nD YX3_setSideTo 17 (.iaload) 1 18 3 := ⟨by decide +kernel, rfl, rfl⟩
theorem d_X3_setSideTo_18 : nD YX3_setSideTo 18 (.isub) 1 19 3 := ⟨by decide +kernel, rfl, rfl⟩
theorem d_X3_setSideTo_19 : nD YX3_setSideTo 19 (.iload_n 3) 1 20 3 := ⟨by decide +kernel, rfl, rfl⟩
theorem d_X3_setSideTo_20 : nD YX3_setSideTo 20 (.invokevirtual 65) 3 23 3 := ⟨by decide +kernel, rfl, rfl⟩
theorem d_X3_setSideTo_23 : nD YX3_setSideTo 23 (.return_) 1 24 3 := ⟨by decide +kernel, rfl, rfl⟩
theorem d_X2_cutSidesAt_0 : nD YX2_cutSidesAt 0 (.aload_n 0) 1 1 2 := ⟨by decide +kernel, rfl, rfl⟩
theorem d_X2_cutSidesAt_1 : nD YX2_cutSidesAt 1 (.iload_n 1) 1 2 2 := ⟨by decide +kernel, rfl, rfl⟩
theorem d_X2_cutSidesAt_2 : nD YX2_cutSidesAt 2 (.iload_n 2) 1 3 2 := ⟨by decide +kernel, rfl, rfl⟩
theorem d_X2_cutSidesAt_3 : nD YX2_cutSidesAt 3 (.invokevirtual 86) 3 6 2 := ⟨by decide +kernel, rfl, rfl⟩
theorem d_X2_cutSidesAt_6 : nD YX2_cutSidesAt 6 (.astore_n 3) 1 7 2 := ⟨by decide +kernel, rfl, rfl⟩
theorem d_X2_cutSidesAt_7 : nD YX2_cutSidesAt 7 (.aload_n 3) 1 8 2 := ⟨by decide +kernel, rfl, rfl⟩
theorem d_X2_cutSidesAt_8 : nD YX2_cutSidesAt 8 (.ifnonnull 5) 3 11 2 := ⟨by decide +kernel, rfl, rfl⟩
theorem d_X2_cutSidesAt_11 : nD YX2_cutSidesAt 11 (.iconst 0) 1 12 2 := ⟨by decide +kernel, rfl, rfl⟩
theorem d_X2_cutSidesAt_12 : nD YX2_cutSidesAt 12 (.ireturn) 1 13 2 := ⟨by decide +kernel, rfl, rfl⟩
theorem d_X2_cutSidesAt_13 : nD YX2_cutSidesAt 13 (.aload_n 3) 1 14 2 := ⟨by decide +kernel, rfl, rfl⟩
theorem d_X2_cutSidesAt_14 : nD YX2_cutSidesAt 14 (.getfield 103) 3 17 2 := ⟨by decide +kernel, rfl, rfl⟩
theorem d_X2_cutSidesAt_17 : nD YX2_cutSidesAt 17 (.iload_n 2) 1 18 2 := ⟨by decide +kernel, rfl, rfl⟩
theorem d_X2_cutSidesAt_18 : nD YX2_cutSidesAt 18 (.iaload) 1 19 2 := ⟨by decide +kernel, rfl, rfl⟩
theorem d_X2_cutSidesAt_19 : nD YX2_cutSidesAt 19 (.aload_n 3) 1 20 2 := ⟨by decide +kernel, rfl, rfl⟩
theorem d_X2_cutSidesAt_20 : nD YX2_cutSidesAt 20 (.getfield 90) 3 23 2 := ⟨by decide +kernel, rfl, rfl⟩
theorem d_X2_cutSidesAt_23 : nD YX2_cutSidesAt 23 (.iload_n 2) 1 24 2 := ⟨by decide +kernel, rfl, rfl⟩
theorem d_X2_cutSidesAt_24 : nD YX2_cutSidesAt 24 (.iaload) 1 25 2 := ⟨by decide +kernel, rfl, rfl⟩
theorem d_X2_cutSidesAt_25 : nD YX2_cutSidesAt 25 (.invokestatic 93) 3 28 2 := ⟨by decide +kernel, rfl, rfl⟩
theorem d_X2_cutSidesAt_28 : nD YX2_cutSidesAt 28 (.isub) 1 29 2 := ⟨by decide +kernel, rfl, rfl⟩
theorem d_X2_cutSidesAt_29 : nD YX2_cutSidesAt 29 (.istore 4) 2 31 2 := ⟨by decide +kernel, rfl, rfl⟩
theorem d_X2_cutSidesAt_31 : nD YX2_cutSidesAt 31 (.aload_n 3) 1 32 2 := ⟨by decide +kernel, rfl, rfl⟩
theorem d_X2_cutSidesAt_32 : nD YX2_cutSidesAt 32 (.getfield 90) 3 35 2 := ⟨by decide +kernel, rfl, rfl⟩
theorem d_X2_cutSidesAt_35 : nD YX2_cutSidesAt 35 (.iload_n 2) 1 36 2 := ⟨by decide +kernel, rfl, rfl⟩
theorem d_X2_cutSidesAt_36 : nD YX2_cutSidesAt 36 (.iconst 1) 1 37 2 := ⟨by decide +kernel, rfl, rfl⟩
theorem d_X2_cutSidesAt_37 : nD YX2_cutSidesAt 37 (.aload_n 3) 1 38 2 := ⟨by decide +kernel, rfl, rfl⟩
theorem d_X2_cutSidesAt_38 : nD YX2_cutSidesAt 38 (.getfield 103) 3 41 2 := ⟨by decide +kernel, rfl, rfl⟩
theorem d_X2_cutSidesAt_41 : nD YX2_cutSidesAt 41 (.iload_n 2) 1 42 2 := ⟨by decide +kernel, rfl, rfl⟩
theorem d_X2_cutSidesAt_42 : nD YX2_cutSidesAt 42 (.iaload) 1 43 2 := ⟨by decide +kernel, rfl, rfl⟩
theorem d_X2_cutSidesAt_43 : nD YX2_cutSidesAt 43 (.ishl) 1 44 2 := ⟨by decide +kernel, rfl, rfl⟩
theorem d_X2_cutSidesAt_44 : nD YX2_cutSidesAt 44 (.iconst 1) 1 45 2 := ⟨by decide +kernel, rfl, rfl⟩
theorem d_X2_cutSidesAt_45 : nD YX2_cutSidesAt 45 (.isub) 1 46 2 := ⟨by decide +kernel, rfl, rfl⟩
theorem d_X2_cutSidesAt_46 : nD YX2_cutSidesAt 46 (.iastore) 1 47 2 := ⟨by decide +kernel, rfl, rfl⟩
theorem d_X2_cutSidesAt_47 : nD YX2_cutSidesAt 47 (.aload_n 0) 1 48 2 := ⟨by decide +kernel, rfl, rfl⟩
theorem d_X2_cutSidesAt_48 : nD YX2_cutSidesAt 48 (.iload_n 1) 1 49 2 := ⟨by decide +kernel, rfl, rfl⟩
theorem d_X2_cutSidesAt_49 : nD YX2_cutSidesAt 49 (.iconst 1) 1 50 2 := ⟨by decide +kernel, rfl, rfl⟩
theorem d_X2_cutSidesAt_50 : nD YX2_cutSidesAt 50 (.iadd) 1 51 2 := ⟨by decide +kernel, rfl, rfl⟩
theorem d_X2_cutSidesAt_51 : nD YX2_cutSidesAt 51 (.invokevirtual 41) 3 54 2 := ⟨by decide +kernel, rfl, rfl⟩
theorem d_X2_cutSidesAt_54 : nD YX2_cutSidesAt 54 (.astore 5) 2 56 2 := ⟨by decide +kernel, rfl, rfl⟩
theorem d_X2_cutSidesAt_56 : nD YX2_cutSidesAt 56 (.iconst 0) 1 57 2 := ⟨by decide +kernel, rfl, rfl⟩
theorem d_X2_cutSidesAt_57 : nD YX2_cutSidesAt 57 (.istore 6) 2 59 2 := ⟨by decide +kernel, rfl, rfl⟩
theorem d_X2_cutSidesAt_59 : nD YX2_cutSidesAt 59 (.aload 5) 2 61 2 := ⟨by decide +kernel, rfl, rfl⟩
theorem d_X2_cutSidesAt_61 : nD YX2_cutSidesAt 61 (.ifnull 49) 3 64 2 := ⟨by decide +kernel, rfl, rfl⟩
theorem d_X2_cutSidesAt_64 : nD YX2_cutSidesAt 64 (.iload 6) 2 66 2 := ⟨by decide +kernel, rfl, rfl⟩
theorem d_X2_cutSidesAt_66 : nD YX2_cutSidesAt 66 (.aload 5) 2 68 2 := ⟨by decide +kernel, rfl, rfl⟩
theorem d_X2_cutSidesAt_68 : nD YX2_cutSidesAt 68 (.getfield 70) 3 71 2 := ⟨by decide +kernel, rfl, rfl⟩
theorem d_X2_cutSidesAt_71 : nD YX2_cutSidesAt 71 (.if_icmp .ge 39) 3 74 2 := ⟨by decide +kernel, rfl, rfl⟩
theorem d_X2_cutSidesAt_74 : nD YX2_cutSidesAt 74 (.iload 4) 2 76 2 := ⟨by decide +kernel, rfl, rfl⟩
theorem d_X2_cutSidesAt_76 : nD YX2_cutSidesAt 76 (.aload 5) 2 78 2 := ⟨by decide +kernel, rfl, rfl⟩
theorem d_X2_cutSidesAt_78 : nD YX2_cutSidesAt 78 (.iload 6) 2 80 2 := ⟨by decide +kernel, rfl, rfl⟩
theorem d_X2_cutSidesAt_80 : nD YX2_cutSidesAt 80 (.iload_n 2) 1 81 2 := ⟨by decide +kernel, rfl, rfl⟩
theorem d_X2_cutSidesAt_81 : nD YX2_cutSidesAt 81 (.invokevirtual 106) 3 84 2 := ⟨by decide +kernel, rfl, rfl⟩
theorem d_X2_cutSidesAt_84 : nD YX2_cutSidesAt 84 (.ifCond .eq 7) 3 87 2 := ⟨by decide +kernel, rfl, rfl⟩
theorem d_X2_cutSidesAt_87 : nD YX2_cutSidesAt 87 (.iconst 1) 1 88 2 := ⟨by decide +kernel, rfl, rfl⟩
theorem d_X2_cutSidesAt_88 : nD YX2_cutSidesAt 88 (.goto 4) 3 91 2 := ⟨by decide +kernel, rfl, rfl⟩
theorem d_X2_cutSidesAt_91 : nD YX2_cutSidesAt 91 (.iconst 0) 1 92 2 := ⟨by decide +kernel, rfl, rfl⟩
theorem d_X2_cutSidesAt_92 : nD YX2_cutSidesAt 92 (.iadd) 1 93 2 := ⟨by decide +kernel, rfl, rfl⟩
theorem d_X2_cutSidesAt_93 : nD YX2_cutSidesAt 93 (.istore 4) 2 95 2 := ⟨by decide +kernel, rfl, rfl⟩
theorem d_X2_cutSidesAt_95 : nD YX2_cutSidesAt 95 (.aload 5) 2 97 2 := ⟨by decide +kernel, rfl, rfl⟩
theorem d_X2_cutSidesAt_97 : nD YX2_cutSidesAt 97 (.iload 6) 2 99 2 := ⟨by decide +kernel, rfl, rfl⟩
theorem d_X2_cutSidesAt_99 : nD YX2_cutSidesAt 99 (.iload_n 2) 1 100 2 := ⟨by decide +kernel, rfl, rfl⟩
theorem d_X2_cutSidesAt_100 : nD YX2_cutSidesAt 100 (.iconst 0) 1 101 2 := ⟨by decide +kernel, rfl, rfl⟩
theorem d_X2_cutSidesAt_101 : nD YX2_cutSidesAt 101 (.invokevirtual 109) 3 104 2 := ⟨by decide +kernel, rfl, rfl⟩
theorem d_X2_cutSidesAt_104 : nD YX2_cutSidesAt 104 (.iinc 6 1) 3 107 2 := ⟨by decide +kernel, rfl, rfl⟩
theorem d_X2_cutSidesAt_107 : nD YX2_cutSidesAt 107 (.goto (-48)) 3 110 2 := ⟨by decide +kernel, rfl, rfl⟩
theorem d_X2_cutSidesAt_110 : nD YX2_cutSidesAt 110 (.iload 4) 2 112 2 := ⟨by decide +kernel, rfl, rfl⟩
theorem d_X2_cutSidesAt_112 : nD YX2_cutSidesAt 112 (.ireturn) 1 113 2 := ⟨by decide +kernel, rfl, rfl⟩
theorem d_X2_goneAbove_0 : nD YX2_goneAbove 0 (.aload_n 0) 1 1 2 := ⟨by decide +kernel, rfl, rfl⟩
theorem d_X2_goneAbove_1 : nD YX2_goneAbove 1 (.iload_n 1) 1 2 2 := ⟨by decide +kernel, rfl, rfl⟩
theorem d_X2_goneAbove_2 : nD YX2_goneAbove 2 (.iload_n 2) 1 3 2 := ⟨by decide +kernel, rfl, rfl⟩
theorem d_X2_goneAbove_3 : nD YX2_goneAbove 3 (.invokevirtual 86) 3 6 2 := ⟨by decide +kernel, rfl, rfl⟩
theorem d_X2_goneAbove_6 : nD YX2_goneAbove 6 (.astore_n 3) 1 7 2 := ⟨by decide +kernel, rfl, rfl⟩
theorem d_X2_goneAbove_7 : nD YX2_goneAbove 7 (.iconst 0) 1 8 2 := ⟨by decide +kernel, rfl, rfl⟩
theorem d_X2_goneAbove_8 : nD YX2_goneAbove 8 (.istore 4) 2 10 2 := ⟨by decide +kernel, rfl, rfl⟩
theorem d_X2_goneAbove_10 : nD YX2_goneAbove 10 (.aload_n 3) 1 11 2 := ⟨by decide +kernel, rfl, rfl⟩
theorem d_X2_goneAbove_11 : nD YX2_goneAbove 11 (.ifnull 29) 3 14 2 := ⟨by decide +kernel, rfl, rfl⟩
theorem d_X2_goneAbove_14 : nD YX2_goneAbove 14 (.iload 4) 2 16 2 := ⟨by decide +kernel, rfl, rfl⟩
theorem d_X2_goneAbove_16 : nD YX2_goneAbove 16 (.bipush 24) 2 18 2 := ⟨by decide +kernel, rfl, rfl⟩
theorem d_X2_goneAbove_18 : nD YX2_goneAbove 18 (.if_icmp .ge 22) 3 21 2 := ⟨by decide +kernel, rfl, rfl⟩
theorem d_X2_goneAbove_21 : nD YX2_goneAbove 21 (.aload_n 3) 1 22 2 := ⟨by decide +kernel, rfl, rfl⟩
theorem d_X2_goneAbove_22 : nD YX2_goneAbove 22 (.iload_n 2) 1 23 2 := ⟨by decide +kernel, rfl, rfl⟩
theorem d_X2_goneAbove_23 : nD YX2_goneAbove 23 (.iload 4) 2 25 2 := ⟨by decide +kernel, rfl, rfl⟩
theorem d_X2_goneAbove_25 : nD YX2_goneAbove 25 (.invokevirtual 99) 3 28 2 := ⟨by decide +kernel, rfl, rfl⟩
theorem d_X2_goneAbove_28 : nD YX2_goneAbove 28 (.ifCond .eq 6) 3 31 2 := ⟨by decide +kernel, rfl, rfl⟩
theorem d_X2_goneAbove_31 : nD YX2_goneAbove 31 (.iload 4) 2 33 2 := ⟨by decide +kernel, rfl, rfl⟩
theorem d_X2_goneAbove_33 : nD YX2_goneAbove 33 (.ireturn) 1 34 2 := ⟨by decide +kernel, rfl, rfl⟩
theorem d_X2_goneAbove_34 : nD YX2_goneAbove 34 (.iinc 4 1) 3 37 2 := ⟨by decide +kernel, rfl, rfl⟩
theorem d_X2_goneAbove_37 : nD YX2_goneAbove 37 (.goto (-27)) 3 40 2 := ⟨by decide +kernel, rfl, rfl⟩
theorem d_X2_goneAbove_40 : nD YX2_goneAbove 40 (.iconst (-1)) 1 41 2 := ⟨by decide +kernel, rfl, rfl⟩
theorem d_X2_goneAbove_41 : nD YX2_goneAbove 41 (.ireturn) 1 42 2 := ⟨by decide +kernel, rfl, rfl⟩
theorem d_X2_goneBelow_0 : nD YX2_goneBelow 0 (.aload_n 0) 1 1 2 := ⟨by decide +kernel, rfl, rfl⟩
theorem d_X2_goneBelow_1 : nD YX2_goneBelow 1 (.iload_n 1) 1 2 2 := ⟨by decide +kernel, rfl, rfl⟩
theorem d_X2_goneBelow_2 : nD YX2_goneBelow 2 (.iconst 1) 1 3 2 := ⟨by decide +kernel, rfl, rfl⟩
theorem d_X2_goneBelow_3 : nD YX2_goneBelow 3 (.iadd) 1 4 2 := ⟨by decide +kernel, rfl, rfl⟩
theorem d_X2_goneBelow_4 : nD YX2_goneBelow 4 (.invokevirtual 41) 3 7 2 := ⟨by decide +kernel, rfl, rfl⟩
theorem d_X2_goneBelow_7 : nD YX2_goneBelow 7 (.astore_n 3) 1 8 2 := ⟨by decide +kernel, rfl, rfl⟩
theorem d_X2_goneBelow_8 : nD YX2_goneBelow 8 (.iconst 0) 1 9 2 := ⟨by decide +kernel, rfl, rfl⟩
theorem d_X2_goneBelow_9 : nD YX2_goneBelow 9 (.istore 4) 2 11 2 := ⟨by decide +kernel, rfl, rfl⟩
theorem d_X2_goneBelow_11 : nD YX2_goneBelow 11 (.aload_n 3) 1 12 2 := ⟨by decide +kernel, rfl, rfl⟩
theorem d_X2_goneBelow_12 : nD YX2_goneBelow 12 (.ifnull 31) 3 15 2 := ⟨by decide +kernel, rfl, rfl⟩
theorem d_X2_goneBelow_15 : nD YX2_goneBelow 15 (.iload 4) 2 17 2 := ⟨by decide +kernel, rfl, rfl⟩
theorem d_X2_goneBelow_17 : nD YX2_goneBelow 17 (.aload_n 3) 1 18 2 := ⟨by decide +kernel, rfl, rfl⟩
theorem d_X2_goneBelow_18 : nD YX2_goneBelow 18 (.getfield 70) 3 21 2 := ⟨by decide +kernel, rfl, rfl⟩
theorem d_X2_goneBelow_21 : nD YX2_goneBelow 21 (.if_icmp .ge 22) 3 24 2 := ⟨by decide +kernel, rfl, rfl⟩
theorem d_X2_goneBelow_24 : nD YX2_goneBelow 24 (.aload_n 3) 1 25 2 := ⟨by decide +kernel, rfl, rfl⟩
theorem d_X2_goneBelow_25 : nD YX2_goneBelow 25 (.iload 4) 2 27 2 := ⟨by decide +kernel, rfl, rfl⟩
theorem d_X2_goneBelow_27 : nD YX2_goneBelow 27 (.iload_n 2) 1 28 2 := ⟨by decide +kernel, rfl, rfl⟩
theorem d_X2_goneBelow_28 : nD YX2_goneBelow 28 (.invokevirtual 99) 3 31 2 := ⟨by decide +kernel, rfl, rfl⟩
theorem d_X2_goneBelow_31 : nD YX2_goneBelow 31 (.ifCond .eq 6) 3 34 2 := ⟨by decide +kernel, rfl, rfl⟩
theorem d_X2_goneBelow_34 : nD YX2_goneBelow 34 (.iload 4) 2 36 2 := ⟨by decide +kernel, rfl, rfl⟩
theorem d_X2_goneBelow_36 : nD YX2_goneBelow 36 (.ireturn) 1 37 2 := ⟨by decide +kernel, rfl, rfl⟩
theorem d_X2_goneBelow_37 : nD YX2_goneBelow 37 (.iinc 4 1) 3 40 2 := ⟨by decide +kernel, rfl, rfl⟩
theorem d_X2_goneBelow_40 : nD YX2_goneBelow 40 (.goto (-29)) 3 43 2 := ⟨by decide +kernel, rfl, rfl⟩
theorem d_X2_goneBelow_43 : nD YX2_goneBelow 43 (.iconst (-1)) 1 44 2 := ⟨by decide +kernel, rfl, rfl⟩
theorem d_X2_goneBelow_44 : nD YX2_goneBelow 44 (.ireturn) 1 45 2 := ⟨by decide +kernel, rfl, rfl⟩
theorem d_X3_shareOf_0 : nD YX3_shareOf 0 (.iload_n 2) 1 1 3 := ⟨by decide +kernel, rfl, rfl⟩
theorem d_X3_shareOf_1 : nD YX3_shareOf 1 (.tableswitch 57 5 8 #[31, 33, 40, 47]) 31 32 3 := ⟨by decide +kernel, rfl, rfl⟩
theorem d_X3_shareOf_32 : nD YX3_shareOf 32 (.iconst 1) 1 33 3 := ⟨by decide +kernel, rfl, rfl⟩
theorem d_X3_shareOf_33 : nD YX3_shareOf 33 (.ireturn) 1 34 3 := ⟨by decide +kernel, rfl, rfl⟩
theorem d_X3_shareOf_34 : nD YX3_shareOf 34 (.aload_n 0) 1 35 3 := ⟨by decide +kernel, rfl, rfl⟩
theorem d_X3_shareOf_35 : nD YX3_shareOf 35 (.getfield 18) 3 38 3 := ⟨by decide +kernel, rfl, rfl⟩
theorem d_X3_shareOf_38 : nD YX3_shareOf 38 (.iload_n 1) 1 39 3 := ⟨by decide +kernel, rfl, rfl⟩
theorem d_X3_shareOf_39 : nD YX3_shareOf 39 (.iaload) 1 40 3 := ⟨by decide +kernel, rfl, rfl⟩
theorem d_X3_shareOf_40 : nD YX3_shareOf 40 (.ireturn) 1 41 3 := ⟨by decide +kernel, rfl, rfl⟩
theorem d_X3_shareOf_41 : nD YX3_shareOf 41 (.aload_n 0) 1 42 3 := ⟨by decide +kernel, rfl, rfl⟩
theorem d_X3_shareOf_42 : nD YX3_shareOf 42 (.getfield 24) 3 45 3 := ⟨by decide +kernel, rfl, rfl⟩
theorem d_X3_shareOf_45 : nD YX3_shareOf 45 (.iload_n 1) 1 46 3 := ⟨by decide +kernel, rfl, rfl⟩
theorem d_X3_shareOf_46 : nD YX3_shareOf 46 (.iaload) 1 47 3 := ⟨by decide +kernel, rfl, rfl⟩
theorem d_X3_shareOf_47 : nD YX3_shareOf 47 (.ireturn) 1 48 3 := ⟨by decide +kernel, rfl, rfl⟩
theorem d_X3_shareOf_48 : nD YX3_shareOf 48 (.aload_n 0) 1 49 3 := ⟨by decide +kernel, rfl, rfl⟩
theorem d_X3_shareOf_49 : nD YX3_shareOf 49 (.getfield 27) 3 52 3 := ⟨by decide +kernel, rfl, rfl⟩
theorem d_X3_shareOf_52 : nD YX3_shareOf 52 (.iload_n 1) 1 53 3 := ⟨by decide +kernel, rfl, rfl⟩
theorem d_X3_shareOf_53 : nD YX3_shareOf 53 (.iaload) 1 54 3 := ⟨by decide +kernel, rfl, rfl⟩
theorem d_X3_shareOf_54 : nD YX3_shareOf 54 (.invokestatic 73) 3 57 3 := ⟨by decide +kernel, rfl, rfl⟩
theorem d_X3_shareOf_57 : nD YX3_shareOf 57 (.ireturn) 1 58 3 := ⟨by decide +kernel, rfl, rfl⟩
theorem d_X3_shareOf_58 : nD YX3_shareOf 58 (.iconst 0) 1 59 3 := ⟨by decide +kernel, rfl, rfl⟩
theorem d_X3_shareOf_59 : nD YX3_shareOf 59 (.ireturn) 1 60 3 := ⟨by decide +kernel, rfl, rfl⟩
theorem d_X3_countOver_0 : nD YX3_countOver 0 (.iconst 0) 1 1 3 := ⟨by decide +kernel, rfl, rfl⟩
theorem d_X3_countOver_1 : nD YX3_countOver 1 (.istore_n 2) 1 2 3 := ⟨by decide +kernel, rfl, rfl⟩
theorem d_X3_countOver_2 : nD YX3_countOver 2 (.iconst 0) 1 3 3 := ⟨by decide +kernel, rfl, rfl⟩
theorem d_X3_countOver_3 : nD YX3_countOver 3 (.istore_n 3) 1 4 3 := ⟨by decide +kernel, rfl, rfl⟩
theorem d_X3_countOver_4 : nD YX3_countOver 4 (.iload_n 3) 1 5 3 := ⟨by decide +kernel, rfl, rfl⟩
theorem d_X3_countOver_5 : nD YX3_countOver 5 (.aload_n 0) 1 6 3 := ⟨by decide +kernel, rfl, rfl⟩
theorem d_X3_countOver_6 : nD YX3_countOver 6 (.getfield 30) 3 9 3 := ⟨by decide +kernel, rfl, rfl⟩
theorem d_X3_countOver_9 : nD YX3_countOver 9 (.if_icmp .ge 18) 3 12 3 := ⟨by decide +kernel, rfl, rfl⟩
theorem d_X3_countOver_12 : nD YX3_countOver 12 (.iload_n 2) 1 13 3 := ⟨by decide +kernel, rfl, rfl⟩
theorem d_X3_countOver_13 : nD YX3_countOver 13 (.aload_n 0) 1 14 3 := ⟨by decide +kernel, rfl, rfl⟩
theorem d_X3_countOver_14 : nD YX3_countOver 14 (.iload_n 3) 1 15 3 := ⟨by decide +kernel, rfl, rfl⟩
theorem d_X3_countOver_15 : nD YX3_countOver 15 (.iload_n 1) 1 16 3 := ⟨by decide +kernel, rfl, rfl⟩
theorem d_X3_countOver_16 : nD YX3_countOver 16 (.invokevirtual 69) 3 19 3 := ⟨by decide +kernel, rfl, rfl⟩
theorem d_X3_countOver_19 : nD YX3_countOver 19 (.iadd) 1 20 3 := ⟨by decide +kernel, rfl, rfl⟩
theorem d_X3_countOver_20 : nD YX3_countOver 20 (.istore_n 2) 1 21 3 := ⟨by decide +kernel, rfl, rfl⟩
theorem d_X3_countOver_21 : nD YX3_countOver 21 (.iinc 3 1) 3 24 3 := ⟨by decide +kernel, rfl, rfl⟩
theorem d_X3_countOver_24 : nD YX3_countOver 24 (.goto (-20)) 3 27 3 := ⟨by decide +kernel, rfl, rfl⟩
theorem d_X3_countOver_27 : nD YX3_countOver 27 (.iload_n 2) 1 28 3 := ⟨by decide +kernel, rfl, rfl⟩
theorem d_X3_countOver_28 : nD YX3_countOver 28 (.ireturn) 1 29 3 := ⟨by decide +kernel, rfl, rfl⟩
theorem d_X2_totalOf_0 : nD YX2_totalOf 0 (.iload_n 1) 1 1 2 := ⟨by decide +kernel, rfl, rfl⟩
theorem d_X2_totalOf_1 : nD YX2_totalOf 1 (.iconst 5) 1 2 2 := ⟨by decide +kernel, rfl, rfl⟩
theorem d_X2_totalOf_2 : nD YX2_totalOf 2 (.bipush 8) 2 4 2 := ⟨by decide +kernel, rfl, rfl⟩
theorem d_X2_totalOf_4 : nD YX2_totalOf 4 (.invokestatic 37) 3 7 2 := ⟨by decide +kernel, rfl, rfl⟩
theorem d_X2_totalOf_7 : nD YX2_totalOf 7 (.ifCond .ne 5) 3 10 2 := ⟨by decide +kernel, rfl, rfl⟩
theorem d_X2_totalOf_10 : nD YX2_totalOf 10 (.iconst (-1)) 1 11 2 := ⟨by decide +kernel, rfl, rfl⟩
theorem d_X2_totalOf_11 : nD YX2_totalOf 11 (.ireturn) 1 12 2 := ⟨by decide +kernel, rfl, rfl⟩
theorem d_X2_totalOf_12 : nD YX2_totalOf 12 (.iconst 0) 1 13 2 := ⟨by decide +kernel, rfl, rfl⟩
theorem d_X2_totalOf_13 : nD YX2_totalOf 13 (.istore_n 2) 1 14 2 := ⟨by decide +kernel, rfl, rfl⟩
theorem d_X2_totalOf_14 : nD YX2_totalOf 14 (.iconst 0) 1 15 2 := ⟨by decide +kernel, rfl, rfl⟩
theorem d_X2_totalOf_15 : nD YX2_totalOf 15 (.istore_n 3) 1 16 2 := ⟨by decide +kernel, rfl, rfl⟩
theorem d_X2_totalOf_16 : nD YX2_totalOf 16 (.iload_n 3) 1 17 2 := ⟨by decide +kernel, rfl, rfl⟩
theorem d_X2_totalOf_17 : nD YX2_totalOf 17 (.aload_n 0) 1 18 2 := ⟨by decide +kernel, rfl, rfl⟩
theorem d_X2_totalOf_18 : nD YX2_totalOf 18 (.getfield 34) 3 21 2 := ⟨by decide +kernel, rfl, rfl⟩
theorem d_X2_totalOf_21 : nD YX2_totalOf 21 (.if_icmp .ge 34) 3 24 2 := ⟨by decide +kernel, rfl, rfl⟩
theorem d_X2_totalOf_24 : nD YX2_totalOf 24 (.aload_n 0) 1 25 2 := ⟨by decide +kernel, rfl, rfl⟩
theorem d_X2_totalOf_25 : nD YX2_totalOf 25 (.iload_n 3) 1 26 2 := ⟨by decide +kernel, rfl, rfl⟩
theorem d_X2_totalOf_26 : nD YX2_totalOf 26 (.invokevirtual 41) 3 29 2 := ⟨by decide +kernel, rfl, rfl⟩
theorem d_X2_totalOf_29 : nD YX2_totalOf 29 (.astore 4) 2 31 2 := ⟨by decide +kernel, rfl, rfl⟩
theorem d_X2_totalOf_31 : nD YX2_totalOf 31 (.iload_n 2) 1 32 2 := ⟨by decide +kernel, rfl, rfl⟩
theorem d_X2_totalOf_32 : nD YX2_totalOf 32 (.aload 4) 2 34 2 := ⟨by decide +kernel, rfl, rfl⟩
theorem d_X2_totalOf_34 : nD YX2_totalOf 34 (.ifnonnull 7) 3 37 2 := ⟨by decide +kernel, rfl, rfl⟩
theorem d_X2_totalOf_37 : nD YX2_totalOf 37 (.iconst 0) 1 38 2 := ⟨by decide +kernel, rfl, rfl⟩
theorem d_X2_totalOf_38 : nD YX2_totalOf 38 (.goto 9) 3 41 2 := ⟨by decide +kernel, rfl, rfl⟩
theorem d_X2_totalOf_41 : nD YX2_totalOf 41 (.aload 4) 2 43 2 := ⟨by decide +kernel, rfl, rfl⟩
theorem d_X2_totalOf_43 : nD YX2_totalOf 43 (.iload_n 1) 1 44 2 := ⟨by decide +kernel, rfl, rfl⟩
theorem d_X2_totalOf_44 : nD YX2_totalOf 44 (.invokevirtual 113) 3 47 2 := ⟨by decide +kernel, rfl, rfl⟩
theorem d_X2_totalOf_47 : nD YX2_totalOf 47 (.iadd) 1 48 2 := ⟨by decide +kernel, rfl, rfl⟩
theorem d_X2_totalOf_48 : nD YX2_totalOf 48 (.istore_n 2) 1 49 2 := ⟨by decide +kernel, rfl, rfl⟩
theorem d_X2_totalOf_49 : nD YX2_totalOf 49 (.iinc 3 1) 3 52 2 := ⟨by decide +kernel, rfl, rfl⟩
theorem d_X2_totalOf_52 : nD YX2_totalOf 52 (.goto (-36)) 3 55 2 := ⟨by decide +kernel, rfl, rfl⟩
theorem d_X2_totalOf_55 : nD YX2_totalOf 55 (.iload_n 2) 1 56 2 := ⟨by decide +kernel, rfl, rfl⟩
theorem d_X2_totalOf_56 : nD YX2_totalOf 56 (.ireturn) 1 57 2 := ⟨by decide +kernel, rfl, rfl⟩
theorem d_X3_hangInNothing_0 : nD YX3_hangInNothing 0 (.iconst 0) 1 1 3 := ⟨by decide +kernel, rfl, rfl⟩
theorem d_X3_hangInNothing_1 : nD YX3_hangInNothing 1 (.istore_n 1) 1 2 3 := ⟨by decide +kernel, rfl, rfl⟩
theorem d_X3_hangInNothing_2 : nD YX3_hangInNothing 2 (.iload_n 1) 1 3 3 := ⟨by decide +kernel, rfl, rfl⟩
theorem d_X3_hangInNothing_3 : nD YX3_hangInNothing 3 (.bipush 24) 2 5 3 := ⟨by decide +kernel, rfl, rfl⟩
theorem d_X3_hangInNothing_5 : nD YX3_hangInNothing 5 (.if_icmp .ge 23) 3 8 3 := ⟨by decide +kernel, rfl, rfl⟩
theorem d_X3_hangInNothing_8 : nD YX3_hangInNothing 8 (.aload_n 0) 1 9 3 := ⟨by decide +kernel, rfl, rfl⟩
theorem d_X3_hangInNothing_9 : nD YX3_hangInNothing 9 (.getfield 24) 3 12 3 := ⟨by decide +kernel, rfl, rfl⟩
theorem d_X3_hangInNothing_12 : nD YX3_hangInNothing 12 (.iload_n 1) 1 13 3 := ⟨by decide +kernel, rfl, rfl⟩
theorem d_X3_hangInNothing_13 : nD YX3_hangInNothing 13 (.iconst 0) 1 14 3 := ⟨by decide +kernel, rfl, rfl⟩
theorem d_X3_hangInNothing_14 : nD YX3_hangInNothing 14 (.iastore) 1 15 3 := ⟨by decide +kernel, rfl, rfl⟩
theorem d_X3_hangInNothing_15 : nD YX3_hangInNothing 15 (.aload_n 0) 1 16 3 := ⟨by decide +kernel, rfl, rfl⟩
theorem d_X3_hangInNothing_16 : nD YX3_hangInNothing 16 (.getfield 27) 3 19 3 := ⟨by decide +kernel, rfl, rfl⟩
theorem d_X3_hangInNothing_19 : nD YX3_hangInNothing 19 (.iload_n 1) 1 20 3 := ⟨by decide +kernel, rfl, rfl⟩
theorem d_X3_hangInNothing_20 : nD YX3_hangInNothing 20 (.iconst 0) 1 21 3 := ⟨by decide +kernel, rfl, rfl⟩
theorem d_X3_hangInNothing_21 : nD YX3_hangInNothing 21 (.iastore) 1 22 3 := ⟨by decide +kernel, rfl, rfl⟩
theorem d_X3_hangInNothing_22 : nD YX3_hangInNothing 22 (.iinc 1 1) 3 25 3 := ⟨by decide +kernel, rfl, rfl⟩
theorem d_X3_hangInNothing_25 : nD YX3_hangInNothing 25 (.goto (-23)) 3 28 3 := ⟨by decide +kernel, rfl, rfl⟩
theorem d_X3_hangInNothing_28 : nD YX3_hangInNothing 28 (.return_) 1 29 3 := ⟨by decide +kernel, rfl, rfl⟩
theorem d_X3_placeOfSide_0 : nD YX3_placeOfSide 0 (.iload_n 2) 1 1 3 := ⟨by decide +kernel, rfl, rfl⟩
theorem d_X3_placeOfSide_1 : nD YX3_placeOfSide 1 (.iconst 0) 1 2 3 := ⟨by decide +kernel, rfl, rfl⟩
theorem d_X3_placeOfSide_2 : nD YX3_placeOfSide 2 (.aload_n 0) 1 3 3 := ⟨by decide +kernel, rfl, rfl⟩
theorem d_X3_placeOfSide_3 : nD YX3_placeOfSide 3 (.getfield 24) 3 6 3 := ⟨by decide +kernel, rfl, rfl⟩
theorem d_X3_placeOfSide_6 : nD YX3_placeOfSide 6 (.iload_n 1) 1 7 3 := ⟨by decide +kernel, rfl, rfl⟩
theorem d_X3_placeOfSide_7 : nD YX3_placeOfSide 7 (.iaload) 1 8 3 := ⟨by decide +kernel, rfl, rfl⟩
theorem d_X3_placeOfSide_8 : nD YX3_placeOfSide 8 (.iconst 1) 1 9 3 := ⟨by decide +kernel, rfl, rfl⟩
theorem d_X3_placeOfSide_9 : nD YX3_placeOfSide 9 (.isub) 1 10 3 := ⟨by decide +kernel, rfl, rfl⟩
theorem d_X3_placeOfSide_10 : nD YX3_placeOfSide 10 (.invokestatic 43) 3 13 3 := ⟨by decide +kernel, rfl, rfl⟩
theorem d_X3_placeOfSide_13 : nD YX3_placeOfSide 13 (.ifCond .eq 14) 3 16 3 := ⟨by decide +kernel, rfl, rfl⟩
theorem d_X3_placeOfSide_16 : nD YX3_placeOfSide 16 (.aload_n 0) 1 17 3 := ⟨by decide +kernel, rfl, rfl⟩
theorem d_X3_placeOfSide_17 : nD YX3_placeOfSide 17 (.getfield 21) 3 20 3 := ⟨by decide +kernel, rfl, rfl⟩
theorem d_X3_placeOfSide_20 : nD YX3_placeOfSide 20 (.iload_n 1) 1 21 3 := ⟨by decide +kernel, rfl, rfl⟩
theorem d_X3_placeOfSide_21 : nD YX3_placeOfSide 21 (.iaload) 1 22 3 := ⟨by decide +kernel, rfl, rfl⟩
theorem d_X3_placeOfSide_22 : nD YX3_placeOfSide 22 (.iload_n 2) 1 23 3 := ⟨by decide +kernel, rfl, rfl⟩
theorem d_X3_placeOfSide_23 : nD YX3_placeOfSide 23 (.iadd) 1 24 3 := ⟨by decide +kernel, rfl, rfl⟩
theorem d_X3_placeOfSide_24 : nD YX3_placeOfSide 24 (.goto 4) 3 27 3 := ⟨by decide +kernel, rfl, rfl⟩
theorem d_X3_placeOfSide_27 : nD YX3_placeOfSide 27 (.iconst (-1)) 1 28 3 := ⟨by decide +kernel, rfl, rfl⟩
theorem d_X3_placeOfSide_28 : nD YX3_placeOfSide 28 (.ireturn) 1 29 3 := ⟨by decide +kernel, rfl, rfl⟩
theorem d_X4_init_0 : nD YX4_init 0 (.aload_n 0) 1 1 4 := ⟨by decide +kernel, rfl, rfl⟩
theorem d_X4_init_1 : nD YX4_init 1 (.invokespecial 3) 3 4 4 := ⟨by decide +kernel, rfl, rfl⟩
theorem d_X4_init_4 : nD YX4_init 4 (.aload_n 0) 1 5 4 := ⟨by decide +kernel, rfl, rfl⟩
theorem d_X4_init_5 : nD YX4_init 5 (.bipush 24) 2 7 4 := ⟨by decide +kernel, rfl, rfl⟩
theorem d_X4_init_7 : nD YX4_init 7 (.newarray .int) 2 9 4 := ⟨by decide +kernel, rfl, rfl⟩
theorem d_X4_init_9 : nD YX4_init 9 (.putfield 9) 3 12 4 := ⟨by decide +kernel, rfl, rfl⟩
theorem d_X4_init_12 : nD YX4_init 12 (.return_) 1 13 4 := ⟨by decide +kernel, rfl, rfl⟩
theorem d_J9_min_7cf53_0 : nD YJ9_min_7cf53 0 (.iload_n 0) 1 1 11 := ⟨by decide +kernel, rfl, rfl⟩
theorem d_J9_min_7cf53_1 : nD YJ9_min_7cf53 1 (.iload_n 1) 1 2 11 := ⟨by decide +kernel, rfl, rfl⟩
theorem d_J9_min_7cf53_2 : nD YJ9_min_7cf53 2 (.if_icmp .gt 7) 3 5 11 := ⟨by decide +kernel, rfl, rfl⟩
theorem d_J9_min_7cf53_5 : nD YJ9_min_7cf53 5 (.iload_n 0) 1 6 11 := ⟨by decide +kernel, rfl, rfl⟩
theorem d_J9_min_7cf53_6 : nD YJ9_min_7cf53 6 (.goto 4) 3 9 11 := ⟨by decide +kernel, rfl, rfl⟩
theorem d_J9_min_7cf53_9 : nD YJ9_min_7cf53 9 (.iload_n 1) 1 10 11 := ⟨by decide +kernel, rfl, rfl⟩
theorem d_J9_min_7cf53_10 : nD YJ9_min_7cf53 10 (.ireturn) 1 11 11 := ⟨by decide +kernel, rfl, rfl⟩
theorem d_J9_max_7cf53_0 : nD YJ9_max_7cf53 0 (.iload_n 0) 1 1 11 := ⟨by decide +kernel, rfl, rfl⟩
theorem d_J9_max_7cf53_1 : nD YJ9_max_7cf53 1 (.iload_n 1) 1 2 11 := ⟨by decide +kernel, rfl, rfl⟩
theorem d_J9_max_7cf53_2 : nD YJ9_max_7cf53 2 (.if_icmp .lt 7) 3 5 11 := ⟨by decide +kernel, rfl, rfl⟩
theorem d_J9_max_7cf53_5 : nD YJ9_max_7cf53 5 (.iload_n 0) 1 6 11 := ⟨by decide +kernel, rfl, rfl⟩
theorem d_J9_max_7cf53_6 : nD YJ9_max_7cf53 6 (.goto 4) 3 9 11 := ⟨by decide +kernel, rfl, rfl⟩
theorem d_J9_max_7cf53_9 : nD YJ9_max_7cf53 9 (.iload_n 1) 1 10 11 := ⟨by decide +kernel, rfl, rfl⟩
theorem d_J9_max_7cf53_10 : nD YJ9_max_7cf53 10 (.ireturn) 1 11 11 := ⟨by decide +kernel, rfl, rfl⟩
theorem d_X4_spread_0 : nD YX4_spread 0 (.aload_n 0) 1 1 4 := ⟨by decide +kernel, rfl, rfl⟩
theorem d_X4_spread_1 : nD YX4_spread 1 (.iload_n 1) 1 2 4 := ⟨by decide +kernel, rfl, rfl⟩
theorem d_X4_spread_2 : nD YX4_spread 2 (.iconst 0) 1 3 4 := ⟨by decide +kernel, rfl, rfl⟩
theorem d_X4_spread_3 : nD YX4_spread 3 (.bipush 24) 2 5 4 := ⟨by decide +kernel, rfl, rfl⟩
theorem d_X4_spread_5 : nD YX4_spread 5 (.invokestatic 56) 3 8 4 := ⟨by decide +kernel, rfl, rfl⟩
theorem d_X4_spread_8 : nD YX4_spread 8 (.ifCond .eq 7) 3 11 4 := ⟨by decide +kernel, rfl, rfl⟩
theorem d_X4_spread_11 : nD YX4_spread 11 (.iload_n 1) 1 12 4 := ⟨by decide +kernel, rfl, rfl⟩
theorem d_X4_spread_12 : nD YX4_spread 12 (.goto 4) 3 15 4 := ⟨by decide +kernel, rfl, rfl⟩
theorem d_X4_spread_15 : nD YX4_spread 15 (.iconst 0) 1 16 4 := ⟨by decide +kernel, rfl, rfl⟩
theorem d_X4_spread_16 : nD YX4_spread 16 (.putfield 40) 3 19 4 := ⟨by decide +kernel, rfl, rfl⟩
theorem d_X4_spread_19 : nD YX4_spread 19 (.iconst 0) 1 20 4 := ⟨by decide +kernel, rfl, rfl⟩
theorem d_X4_spread_20 : nD YX4_spread 20 (.istore_n 3) 1 21 4 := ⟨by decide +kernel, rfl, rfl⟩
theorem d_X4_spread_21 : nD YX4_spread 21 (.iload_n 3) 1 22 4 := ⟨by decide +kernel, rfl, rfl⟩
theorem d_X4_spread_22 : nD YX4_spread 22 (.aload_n 0) 1 23 4 := ⟨by decide +kernel, rfl, rfl⟩
theorem d_X4_spread_23 : nD YX4_spread 23 (.getfield 40) 3 26 4 := ⟨by decide +kernel, rfl, rfl⟩
theorem d_X4_spread_26 : nD YX4_spread 26 (.if_icmp .ge 34) 3 29 4 := ⟨by decide +kernel, rfl, rfl⟩
theorem d_X4_spread_29 : nD YX4_spread 29 (.aload_n 0) 1 30 4 := ⟨by decide +kernel, rfl, rfl⟩
theorem d_X4_spread_30 : nD YX4_spread 30 (.getfield 9) 3 33 4 := ⟨by decide +kernel, rfl, rfl⟩
theorem d_X4_spread_33 : nD YX4_spread 33 (.iload_n 3) 1 34 4 := ⟨by decide +kernel, rfl, rfl⟩
theorem d_X4_spread_34 : nD YX4_spread 34 (.iload_n 3) 1 35 4 := ⟨by decide +kernel, rfl, rfl⟩
theorem d_X4_spread_35 : nD YX4_spread 35 (.iconst 1) 1 36 4 := ⟨by decide +kernel, rfl, rfl⟩
theorem d_X4_spread_36 : nD YX4_spread 36 (.iadd) 1 37 4 := ⟨by decide +kernel, rfl, rfl⟩
theorem d_X4_spread_37 : nD YX4_spread 37 (.iload_n 2) 1 38 4 := ⟨by decide +kernel, rfl, rfl⟩
theorem d_X4_spread_38 : nD YX4_spread 38 (.imul) 1 39 4 := ⟨by decide +kernel, rfl, rfl⟩
theorem d_X4_spread_39 : nD YX4_spread 39 (.aload_n 0) 1 40 4 := ⟨by decide +kernel, rfl, rfl⟩
theorem d_X4_spread_40 : nD YX4_spread 40 (.getfield 40) 3 43 4 := ⟨by decide +kernel, rfl, rfl⟩
theorem d_X4_spread_43 : nD YX4_spread 43 (.idiv) 1 44 4 := ⟨by decide +kernel, rfl, rfl⟩
theorem d_X4_spread_44 : nD YX4_spread 44 (.iload_n 3) 1 45 4 := ⟨by decide +kernel, rfl, rfl⟩
theorem d_X4_spread_45 : nD YX4_spread 45 (.iload_n 2) 1 46 4 := ⟨by decide +kernel, rfl, rfl⟩
theorem d_X4_spread_46 : nD YX4_spread 46 (.imul) 1 47 4 := ⟨by decide +kernel, rfl, rfl⟩
theorem d_X4_spread_47 : nD YX4_spread 47 (.aload_n 0) 1 48 4 := ⟨by decide +kernel, rfl, rfl⟩
theorem d_X4_spread_48 : nD YX4_spread 48 (.getfield 40) 3 51 4 := ⟨by decide +kernel, rfl, rfl⟩
theorem d_X4_spread_51 : nD YX4_spread 51 (.idiv) 1 52 4 := ⟨by decide +kernel, rfl, rfl⟩
theorem d_X4_spread_52 : nD YX4_spread 52 (.isub) 1 53 4 := ⟨by decide +kernel, rfl, rfl⟩
theorem d_X4_spread_53 : nD YX4_spread 53 (.iastore) 1 54 4 := ⟨by decide +kernel, rfl, rfl⟩
theorem d_X4_spread_54 : nD YX4_spread 54 (.iinc 3 1) 3 57 4 := ⟨by decide +kernel, rfl, rfl⟩
theorem d_X4_spread_57 : nD YX4_spread 57 (.goto (-36)) 3 60 4 := ⟨by decide +kernel, rfl, rfl⟩
theorem d_X4_spread_60 : nD YX4_spread 60 (.return_) 1 61 4 := ⟨by decide +kernel, rfl, rfl⟩
theorem d_X4_giveOneEach_0 : nD YX4_giveOneEach 0 (.iconst 0) 1 1 4 := ⟨by decide +kernel, rfl, rfl⟩
theorem d_X4_giveOneEach_1 : nD YX4_giveOneEach 1 (.istore_n 2) 1 2 4 := ⟨by decide +kernel, rfl, rfl⟩
theorem d_X4_giveOneEach_2 : nD YX4_giveOneEach 2 (.iconst 0) 1 3 4 := ⟨by decide +kernel, rfl, rfl⟩
theorem d_X4_giveOneEach_3 : nD YX4_giveOneEach 3 (.istore_n 3) 1 4 4 := ⟨by decide +kernel, rfl, rfl⟩
theorem d_X4_giveOneEach_4 : nD YX4_giveOneEach 4 (.iload_n 3) 1 5 4 := ⟨by decide +kernel, rfl, rfl⟩
theorem d_X4_giveOneEach_5 : nD YX4_giveOneEach 5 (.aload_n 0) 1 6 4 := ⟨by decide +kernel, rfl, rfl⟩
theorem d_X4_giveOneEach_6 : nD YX4_giveOneEach 6 (.getfield 40) 3 9 4 := ⟨by decide +kernel, rfl, rfl⟩
theorem d_X4_giveOneEach_9 : nD YX4_giveOneEach 9 (.if_icmp .ge 33) 3 12 4 := ⟨by decide +kernel, rfl, rfl⟩
theorem d_X4_giveOneEach_12 : nD YX4_giveOneEach 12 (.aload_n 1) 1 13 4 := ⟨by decide +kernel, rfl, rfl⟩
theorem d_X4_giveOneEach_13 : nD YX4_giveOneEach 13 (.iload_n 2) 1 14 4 := ⟨by decide +kernel, rfl, rfl⟩
theorem d_X4_giveOneEach_14 : nD YX4_giveOneEach 14 (.invokevirtual 60) 3 17 4 := ⟨by decide +kernel, rfl, rfl⟩
theorem d_X4_giveOneEach_17 : nD YX4_giveOneEach 17 (.ifCond .eq 10) 3 20 4 := ⟨by decide +kernel, rfl, rfl⟩
theorem d_X4_giveOneEach_20 : nD YX4_giveOneEach 20 (.aload_n 1) 1 21 4 := ⟨by decide +kernel, rfl, rfl⟩
theorem d_X4_giveOneEach_21 : nD YX4_giveOneEach 21 (.getfield 37) 3 24 4 := ⟨by decide +kernel, rfl, rfl⟩
theorem d_X4_giveOneEach_24 : nD YX4_giveOneEach 24 (.iload_n 2) 1 25 4 := ⟨by decide +kernel, rfl, rfl⟩
theorem d_X4_giveOneEach_25 : nD YX4_giveOneEach 25 (.iconst 1) 1 26 4 := ⟨by decide +kernel, rfl, rfl⟩
theorem d_X4_giveOneEach_26 : nD YX4_giveOneEach 26 (.iastore) 1 27 4 := ⟨by decide +kernel, rfl, rfl⟩
theorem d_X4_giveOneEach_27 : nD YX4_giveOneEach 27 (.iload_n 2) 1 28 4 := ⟨by decide +kernel, rfl, rfl⟩
theorem d_X4_giveOneEach_28 : nD YX4_giveOneEach 28 (.aload_n 0) 1 29 4 := ⟨by decide +kernel, rfl, rfl⟩
theorem d_X4_giveOneEach_29 : nD YX4_giveOneEach 29 (.getfield 9) 3 32 4 := ⟨by decide +kernel, rfl, rfl⟩
theorem d_X4_giveOneEach_32 : nD YX4_giveOneEach 32 (.iload_n 3) 1 33 4 := ⟨by decide +kernel, rfl, rfl⟩
theorem d_X4_giveOneEach_33 : nD YX4_giveOneEach 33 (.iaload) 1 34 4 := ⟨by decide +kernel, rfl, rfl⟩
theorem d_X4_giveOneEach_34 : nD YX4_giveOneEach 34 (.iadd) 1 35 4 := ⟨by decide +kernel, rfl, rfl⟩
theorem d_X4_giveOneEach_35 : nD YX4_giveOneEach 35 (.istore_n 2) 1 36 4 := ⟨by decide +kernel, rfl, rfl⟩
theorem d_X4_giveOneEach_36 : nD YX4_giveOneEach 36 (.iinc 3 1) 3 39 4 := ⟨by decide +kernel, rfl, rfl⟩
theorem d_X4_giveOneEach_39 : nD YX4_giveOneEach 39 (.goto (-35)) 3 42 4 := ⟨by decide +kernel, rfl, rfl⟩
theorem d_X4_giveOneEach_42 : nD YX4_giveOneEach 42 (.return_) 1 43 4 := ⟨by decide +kernel, rfl, rfl⟩
theorem d_X4_join_0 : nD YX4_join 0 (.aload_n 1) 1 1 4 := ⟨by decide +kernel, rfl, rfl⟩
theorem d_X4_join_1 : nD YX4_join 1 (.ifnull 7) 3 4 4 := ⟨by decide +kernel, rfl, rfl⟩
theorem d_X4_join_4 : nD YX4_join 4 (.aload_n 2) 1 5 4 := ⟨by decide +kernel, rfl, rfl⟩
theorem d_X4_join_5 : nD YX4_join 5 (.ifnonnull 4) 3 8 4 := ⟨by decide +kernel, rfl, rfl⟩
theorem d_X4_join_8 : nD YX4_join 8 (.return_) 1 9 4 := ⟨by decide +kernel, rfl, rfl⟩
theorem d_X4_join_9 : nD YX4_join 9 (.aload_n 0) 1 10 4 := ⟨by decide +kernel, rfl, rfl⟩
theorem d_X4_join_10 : nD YX4_join 10 (.aload_n 1) 1 11 4 := ⟨by decide +kernel, rfl, rfl⟩
theorem d_X4_join_11 : nD YX4_join 11 (.getfield 15) 3 14 4 := ⟨by decide +kernel, rfl, rfl⟩
theorem d_X4_join_14 : nD YX4_join 14 (.aload_n 2) 1 15 4 := ⟨by decide +kernel, rfl, rfl⟩
theorem d_X4_join_15 : nD YX4_join 15 (.getfield 15) 3 18 4 := ⟨by decide +kernel, rfl, rfl⟩
theorem d_X4_join_18 : nD YX4_join 18 (.invokestatic 21) 3 21 4 := ⟨by decide +kernel, rfl, rfl⟩
theorem d_X4_join_21 : nD YX4_join 21 (.aload_n 1) 1 22 4 := ⟨by decide +kernel, rfl, rfl⟩
theorem d_X4_join_22 : nD YX4_join 22 (.getfield 15) 3 25 4 := ⟨by decide +kernel, rfl, rfl⟩
theorem d_X4_join_25 : nD YX4_join 25 (.aload_n 2) 1 26 4 := ⟨by decide +kernel, rfl, rfl⟩
theorem d_X4_join_26 : nD YX4_join 26 (.getfield 15) 3 29 4 := ⟨by decide +kernel, rfl, rfl⟩
theorem d_X4_join_29 : nD YX4_join 29 (.invokestatic 27) 3 32 4 := ⟨by decide +kernel, rfl, rfl⟩
theorem d_X4_join_32 : nD YX4_join 32 (.invokevirtual 30) 3 35 4 := ⟨by decide +kernel, rfl, rfl⟩
theorem d_X4_join_35 : nD YX4_join 35 (.iconst 0) 1 36 4 := ⟨by decide +kernel, rfl, rfl⟩
theorem d_X4_join_36 : nD YX4_join 36 (.istore_n 3) 1 37 4 := ⟨by decide +kernel, rfl, rfl⟩
theorem d_X4_join_37 : nD YX4_join 37 (.iload_n 3) 1 38 4 := ⟨by decide +kernel, rfl, rfl⟩
theorem d_X4_join_38 : nD YX4_join 38 (.aload_n 1) 1 39 4 := ⟨by decide +kernel, rfl, rfl⟩
theorem d_X4_join_39 : nD YX4_join 39 (.getfield 15) 3 42 4 := ⟨by decide +kernel, rfl, rfl⟩
theorem d_X4_join_42 : nD YX4_join 42 (.if_icmp .ge 23) 3 45 4 := ⟨by decide +kernel, rfl, rfl⟩
theorem d_X4_join_45 : nD YX4_join 45 (.aload_n 1) 1 46 4 := ⟨by decide +kernel, rfl, rfl⟩
theorem d_X4_join_46 : nD YX4_join 46 (.getfield 34) 3 49 4 := ⟨by decide +kernel, rfl, rfl⟩
theorem d_X4_join_49 : nD YX4_join 49 (.iload_n 3) 1 50 4 := ⟨by decide +kernel, rfl, rfl⟩
theorem d_X4_join_50 : nD YX4_join 50 (.iconst 3) 1 51 4 := ⟨by decide +kernel, rfl, rfl⟩
theorem d_X4_join_51 : nD YX4_join 51 (.iastore) 1 52 4 := ⟨by decide +kernel, rfl, rfl⟩
theorem d_X4_join_52 : nD YX4_join 52 (.aload_n 1) 1 53 4 := ⟨by decide +kernel, rfl, rfl⟩
theorem d_X4_join_53 : nD YX4_join 53 (.getfield 37) 3 56 4 := ⟨by decide +kernel, rfl, rfl⟩
theorem d_X4_join_56 : nD YX4_join 56 (.iload_n 3) 1 57 4 := ⟨by decide +kernel, rfl, rfl⟩
theorem d_X4_join_57 : nD YX4_join 57 (.iconst 0) 1 58 4 := ⟨by decide +kernel, rfl, rfl⟩
theorem d_X4_join_58 : nD YX4_join 58 (.iastore) 1 59 4 := ⟨by decide +kernel, rfl, rfl⟩
theorem d_X4_join_59 : nD YX4_join 59 (.iinc 3 1) 3 62 4 := ⟨by decide +kernel, rfl, rfl⟩
theorem d_X4_join_62 : nD YX4_join 62 (.goto (-25)) 3 65 4 := ⟨by decide +kernel, rfl, rfl⟩
theorem d_X4_join_65 : nD YX4_join 65 (.aload_n 1) 1 66 4 := ⟨by decide +kernel, rfl, rfl⟩
theorem d_X4_join_66 : nD YX4_join 66 (.getfield 15) 3 69 4 := ⟨by decide +kernel, rfl, rfl⟩
theorem d_X4_join_69 : nD YX4_join 69 (.aload_n 2) 1 70 4 := ⟨by decide +kernel, rfl, rfl⟩
theorem d_X4_join_70 : nD YX4_join 70 (.getfield 15) 3 73 4 := ⟨by decide +kernel, rfl, rfl⟩
theorem d_X4_join_73 : nD YX4_join 73 (.if_icmp .gt 23) 3 76 4 := ⟨by decide +kernel, rfl, rfl⟩
theorem d_X4_join_76 : nD YX4_join 76 (.aload_n 0) 1 77 4 := ⟨by decide +kernel, rfl, rfl⟩
theorem d_X4_join_77 : nD YX4_join 77 (.getfield 9) 3 80 4 := ⟨by decide +kernel, rfl, rfl⟩
theorem d_X4_join_80 : nD YX4_join 80 (.iconst 0) 1 81 4 := ⟨by decide +kernel, rfl, rfl⟩
theorem d_X4_join_81 : nD YX4_join 81 (.aload_n 1) 1 82 4 := ⟨by decide +kernel, rfl, rfl⟩
theorem d_X4_join_82 : nD YX4_join 82 (.getfield 37) 3 85 4 := ⟨by decide +kernel, rfl, rfl⟩
theorem d_X4_join_85 : nD YX4_join 85 (.iconst 0) 1 86 4 := ⟨by decide +kernel, rfl, rfl⟩
theorem d_X4_join_86 : nD YX4_join 86 (.aload_n 0) 1 87 4 := ⟨by decide +kernel, rfl, rfl⟩
theorem d_X4_join_87 : nD YX4_join 87 (.getfield 40) 3 90 4 := ⟨by decide +kernel, rfl, rfl⟩
theorem d_X4_join_90 : nD YX4_join 90 (.invokestatic 43) 3 93 4 := ⟨by decide +kernel, rfl, rfl⟩
theorem d_X4_join_93 : nD YX4_join 93 (.goto 8) 3 96 4 := ⟨by decide +kernel, rfl, rfl⟩
theorem d_X4_join_96 : nD YX4_join 96 (.aload_n 0) 1 97 4 := ⟨by decide +kernel, rfl, rfl⟩
theorem d_X4_join_97 : nD YX4_join 97 (.aload_n 1) 1 98 4 := ⟨by decide +kernel, rfl, rfl⟩
theorem d_X4_join_98 : nD YX4_join 98 (.invokevirtual 49) 3 101 4 := ⟨by decide +kernel, rfl, rfl⟩
theorem d_X4_join_101 : nD YX4_join 101 (.aload_n 2) 1 102 4 := ⟨by decide +kernel, rfl, rfl⟩
theorem d_X4_join_102 : nD YX4_join 102 (.aload_n 1) 1 103 4 := ⟨by decide +kernel, rfl, rfl⟩
theorem d_X4_join_103 : nD YX4_join 103 (.invokevirtual 53) 3 106 4 := ⟨by decide +kernel, rfl, rfl⟩
theorem d_X4_join_106 : nD YX4_join 106 (.return_) 1 107 4 := ⟨by decide +kernel, rfl, rfl⟩
theorem d_X5_init_0 : nD YX5_init 0 (.aload_n 0) 1 1 5 := ⟨by decide +kernel, rfl, rfl⟩
theorem d_X5_init_1 : nD YX5_init 1 (.invokespecial 3) 3 4 5 := ⟨by decide +kernel, rfl, rfl⟩
theorem d_X5_init_4 : nD YX5_init 4 (.return_) 1 5 5 := ⟨by decide +kernel, rfl, rfl⟩
theorem d_X5_find_0 : nD YX5_find 0 (.iconst 1) 1 1 5 := ⟨by decide +kernel, rfl, rfl⟩
theorem d_X5_find_1 : nD YX5_find 1 (.istore_n 3) 1 2 5 := ⟨by decide +kernel, rfl, rfl⟩
theorem d_X5_find_2 : nD YX5_find 2 (.iload_n 2) 1 3 5 := ⟨by decide +kernel, rfl, rfl⟩
theorem d_X5_find_3 : nD YX5_find 3 (.ifCond .le 53) 3 6 5 := ⟨by decide +kernel, rfl, rfl⟩
theorem d_X5_find_6 : nD YX5_find 6 (.iload_n 3) 1 7 5 := ⟨by decide +kernel, rfl, rfl⟩
theorem d_X5_find_7 : nD YX5_find 7 (.iload_n 2) 1 8 5 := ⟨by decide +kernel, rfl, rfl⟩
theorem d_X5_find_8 : nD YX5_find 8 (.if_icmp .gt 48) 3 11 5 := ⟨by decide +kernel, rfl, rfl⟩
theorem d_X5_find_11 : nD YX5_find 11 (.iload_n 1) 1 12 5 := ⟨by decide +kernel, rfl, rfl⟩
theorem d_X5_find_12 : nD YX5_find 12 (.iload_n 3) 1 13 5 := ⟨by decide +kernel, rfl, rfl⟩
theorem d_X5_find_13 : nD YX5_find 13 (.imul) 1 14 5 := ⟨by decide +kernel, rfl, rfl⟩
theorem d_X5_find_14 : nD YX5_find 14 (.iload_n 2) 1 15 5 := ⟨by decide +kernel, rfl, rfl⟩
theorem d_X5_find_15 : nD YX5_find 15 (.iadd) 1 16 5 := ⟨by decide +kernel, rfl, rfl⟩
theorem d_X5_find_16 : nD YX5_find 16 (.iconst 1) 1 17 5 := ⟨by decide +kernel, rfl, rfl⟩
theorem d_X5_find_17 : nD YX5_find 17 (.isub) 1 18 5 := ⟨by decide +kernel, rfl, rfl⟩
theorem d_X5_find_18 : nD YX5_find 18 (.iload_n 2) 1 19 5 := ⟨by decide +kernel, rfl, rfl⟩
theorem d_X5_find_19 : nD YX5_find 19 (.idiv) 1 20 5 := ⟨by decide +kernel, rfl, rfl⟩
theorem d_X5_find_20 : nD YX5_find 20 (.istore 4) 2 22 5 := ⟨by decide +kernel, rfl, rfl⟩
theorem d_X5_find_22 : nD YX5_find 22 (.iload_n 2) 1 23 5 := ⟨by decide +kernel, rfl, rfl⟩
theorem d_X5_find_23 : nD YX5_find 23 (.iload 4) 2 25 5 := ⟨by decide +kernel, rfl, rfl⟩
theorem d_X5_find_25 : nD YX5_find 25 (.imul) 1 26 5 := ⟨by decide +kernel, rfl, rfl⟩
theorem d_X5_find_26 : nD YX5_find 26 (.iload_n 3) 1 27 5 := ⟨by decide +kernel, rfl, rfl⟩
theorem d_X5_find_27 : nD YX5_find 27 (.idiv) 1 28 5 := ⟨by decide +kernel, rfl, rfl⟩
theorem d_X5_find_28 : nD YX5_find 28 (.iload_n 1) 1 29 5 := ⟨by decide +kernel, rfl, rfl⟩
theorem d_X5_find_29 : nD YX5_find 29 (.if_icmp .ne 21) 3 32 5 := ⟨by decide +kernel, rfl, rfl⟩
theorem d_X5_find_32 : nD YX5_find 32 (.aload_n 0) 1 33 5 := ⟨by decide +kernel, rfl, rfl⟩
theorem d_X5_find_33 : nD YX5_find 33 (.iload_n 2) 1 34 5 := ⟨by decide +kernel, rfl, rfl⟩
theorem d_X5_find_34 : nD YX5_find 34 (.putfield 9) 3 37 5 := ⟨by decide +kernel, rfl, rfl⟩
theorem d_X5_find_37 : nD YX5_find 37 (.aload_n 0) 1 38 5 := ⟨by decide +kernel, rfl, rfl⟩
theorem d_X5_find_38 : nD YX5_find 38 (.iload_n 3) 1 39 5 := ⟨by decide +kernel, rfl, rfl⟩
theorem d_X5_find_39 : nD YX5_find 39 (.putfield 15) 3 42 5 := ⟨by decide +kernel, rfl, rfl⟩
theorem d_X5_find_42 : nD YX5_find 42 (.aload_n 0) 1 43 5 := ⟨by decide +kernel, rfl, rfl⟩
theorem d_X5_find_43 : nD YX5_find 43 (.iload 4) 2 45 5 := ⟨by decide +kernel, rfl, rfl⟩
theorem d_X5_find_45 : nD YX5_find 45 (.putfield 18) 3 48 5 := ⟨by decide +kernel, rfl, rfl⟩
theorem d_X5_find_48 : nD YX5_find 48 (.iload_n 3) 1 49 5 := ⟨by decide +kernel, rfl, rfl⟩
theorem d_X5_find_49 : nD YX5_find 49 (.ireturn) 1 50 5 := ⟨by decide +kernel, rfl, rfl⟩
theorem d_X5_find_50 : nD YX5_find 50 (.iinc 3 1) 3 53 5 := ⟨by decide +kernel, rfl, rfl⟩
theorem d_X5_find_53 : nD YX5_find 53 (.goto (-51)) 3 56 5 := ⟨by decide +kernel, rfl, rfl⟩
theorem d_X5_find_56 : nD YX5_find 56 (.iconst (-1)) 1 57 5 := ⟨by decide +kernel, rfl, rfl⟩
theorem d_X5_find_57 : nD YX5_find 57 (.ireturn) 1 58 5 := ⟨by decide +kernel, rfl, rfl⟩
theorem d_X5_tell_0 : nD YX5_tell 0 (.aload_n 0) 1 1 5 := ⟨by decide +kernel, rfl, rfl⟩
theorem d_X5_tell_1 : nD YX5_tell 1 (.getfield 15) 3 4 5 := ⟨by decide +kernel, rfl, rfl⟩
theorem d_X5_tell_4 : nD YX5_tell 4 (.ifCond .ne 5) 3 7 5 := ⟨by decide +kernel, rfl, rfl⟩
theorem d_X5_tell_7 : nD YX5_tell 7 (.iconst (-1)) 1 8 5 := ⟨by decide +kernel, rfl, rfl⟩
theorem d_X5_tell_8 : nD YX5_tell 8 (.ireturn) 1 9 5 := ⟨by decide +kernel, rfl, rfl⟩
theorem d_X5_tell_9 : nD YX5_tell 9 (.iload_n 1) 1 10 5 := ⟨by decide +kernel, rfl, rfl⟩
theorem d_X5_tell_10 : nD YX5_tell 10 (.tableswitch 60 0 3 #[30, 35, 40, 50]) 30 40 5 := ⟨by decide +kernel, rfl, rfl⟩
theorem d_X5_tell_40 : nD YX5_tell 40 (.aload_n 0) 1 41 5 := ⟨by decide +kernel, rfl, rfl⟩
theorem d_X5_tell_41 : nD YX5_tell 41 (.getfield 15) 3 44 5 := ⟨by decide +kernel, rfl, rfl⟩
theorem d_X5_tell_44 : nD YX5_tell 44 (.ireturn) 1 45 5 := ⟨by decide +kernel, rfl, rfl⟩
theorem d_X5_tell_45 : nD YX5_tell 45 (.aload_n 0) 1 46 5 := ⟨by decide +kernel, rfl, rfl⟩
theorem d_X5_tell_46 : nD YX5_tell 46 (.getfield 18) 3 49 5 := ⟨by decide +kernel, rfl, rfl⟩
theorem d_X5_tell_49 : nD YX5_tell 49 (.ireturn) 1 50 5 := ⟨by decide +kernel, rfl, rfl⟩
theorem d_X5_tell_50 : nD YX5_tell 50 (.aload_n 0) 1 51 5 := ⟨by decide +kernel, rfl, rfl⟩
theorem d_X5_tell_51 : nD YX5_tell 51 (.getfield 9) 3 54 5 := ⟨by decide +kernel, rfl, rfl⟩
theorem d_X5_tell_54 : nD YX5_tell 54 (.aload_n 0) 1 55 5 := ⟨by decide +kernel, rfl, rfl⟩
theorem d_X5_tell_55 : nD YX5_tell 55 (.getfield 15) 3 58 5 := ⟨by decide +kernel, rfl, rfl⟩
theorem d_X5_tell_58 : nD YX5_tell 58 (.idiv) 1 59 5 := ⟨by decide +kernel, rfl, rfl⟩
theorem d_X5_tell_59 : nD YX5_tell 59 (.ireturn) 1 60 5 := ⟨by decide +kernel, rfl, rfl⟩
theorem d_X5_tell_60 : nD YX5_tell 60 (.aload_n 0) 1 61 5 := ⟨by decide +kernel, rfl, rfl⟩
theorem d_X5_tell_61 : nD YX5_tell 61 (.getfield 9) 3 64 5 := ⟨by decide +kernel, rfl, rfl⟩
theorem d_X5_tell_64 : nD YX5_tell 64 (.aload_n 0) 1 65 5 := ⟨by decide +kernel, rfl, rfl⟩
theorem d_X5_tell_65 : nD YX5_tell 65 (.getfield 15) 3 68 5 := ⟨by decide +kernel, rfl, rfl⟩
theorem d_X5_tell_68 : nD YX5_tell 68 (.irem) 1 69 5 := ⟨by decide +kernel, rfl, rfl⟩
theorem d_X5_tell_69 : nD YX5_tell 69 (.ireturn) 1 70 5 := ⟨by decide +kernel, rfl, rfl⟩
theorem d_X5_tell_70 : nD YX5_tell 70 (.iconst (-1)) 1 71 5 := ⟨by decide +kernel, rfl, rfl⟩
theorem d_X5_tell_71 : nD YX5_tell 71 (.ireturn) 1 72 5 := ⟨by decide +kernel, rfl, rfl⟩
theorem d_X6_init_0 : nD YX6_init 0 (.aload_n 0) 1 1 6 := ⟨by decide +kernel, rfl, rfl⟩
theorem d_X6_init_1 : nD YX6_init 1 (.invokespecial 3) 3 4 6 := ⟨by decide +kernel, rfl, rfl⟩
theorem d_X6_init_4 : nD YX6_init 4 (.aload_n 0) 1 5 6 := ⟨by decide +kernel, rfl, rfl⟩
theorem d_X6_init_5 : nD YX6_init 5 (.sipush 1441) 3 8 6 := ⟨by decide +kernel, rfl, rfl⟩
theorem d_X6_init_8 : nD YX6_init 8 (.newarray .int) 2 10 6 := ⟨by decide +kernel, rfl, rfl⟩
theorem d_X6_init_10 : nD YX6_init 10 (.putfield 9) 3 13 6 := ⟨by decide +kernel, rfl, rfl⟩
theorem d_X6_init_13 : nD YX6_init 13 (.aload_n 0) 1 14 6 := ⟨by decide +kernel, rfl, rfl⟩
theorem d_X6_init_14 : nD YX6_init 14 (.sipush 1441) 3 17 6 := ⟨by decide +kernel, rfl, rfl⟩
theorem d_X6_init_17 : nD YX6_init 17 (.newarray .int) 2 19 6 := ⟨by decide +kernel, rfl, rfl⟩
theorem d_X6_init_19 : nD YX6_init 19 (.putfield 15) 3 22 6 := ⟨by decide +kernel, rfl, rfl⟩
theorem d_X6_init_22 : nD YX6_init 22 (.return_) 1 23 6 := ⟨by decide +kernel, rfl, rfl⟩
theorem d_X6_knotAt_0 : nD YX6_knotAt 0 (.iload_n 1) 1 1 6 := ⟨by decide +kernel, rfl, rfl⟩
theorem d_X6_knotAt_1 : nD YX6_knotAt 1 (.iconst 0) 1 2 6 := ⟨by decide +kernel, rfl, rfl⟩
theorem d_X6_knotAt_2 : nD YX6_knotAt 2 (.aload_n 0) 1 3 6 := ⟨by decide +kernel, rfl, rfl⟩
theorem d_X6_knotAt_3 : nD YX6_knotAt 3 (.getfield 18) 3 6 6 := ⟨by decide +kernel, rfl, rfl⟩
theorem d_X6_knotAt_6 : nD YX6_knotAt 6 (.iconst 1) 1 7 6 := ⟨by decide +kernel, rfl, rfl⟩
theorem d_X6_knotAt_7 : nD YX6_knotAt 7 (.isub) 1 8 6 := ⟨by decide +kernel, rfl, rfl⟩
theorem d_X6_knotAt_8 : nD YX6_knotAt 8 (.invokestatic 22) 3 11 6 := ⟨by decide +kernel, rfl, rfl⟩
theorem d_X6_knotAt_11 : nD YX6_knotAt 11 (.ifCond .eq 19) 3 14 6 := ⟨by decide +kernel, rfl, rfl⟩
theorem d_X6_knotAt_14 : nD YX6_knotAt 14 (.aload_n 0) 1 15 6 := ⟨by decide +kernel, rfl, rfl⟩
theorem d_X6_knotAt_15 : nD YX6_knotAt 15 (.getfield 9) 3 18 6 := ⟨by decide +kernel, rfl, rfl⟩
theorem d_X6_knotAt_18 : nD YX6_knotAt 18 (.aload_n 0) 1 19 6 := ⟨by decide +kernel, rfl, rfl⟩
theorem d_X6_knotAt_19 : nD YX6_knotAt 19 (.getfield 18) 3 22 6 := ⟨by decide +kernel, rfl, rfl⟩
theorem d_X6_knotAt_22 : nD YX6_knotAt 22 (.iconst 1) 1 23 6 := ⟨by decide +kernel, rfl, rfl⟩
theorem d_X6_knotAt_23 : nD YX6_knotAt 23 (.isub) 1 24 6 := ⟨by decide +kernel, rfl, rfl⟩
theorem d_X6_knotAt_24 : nD YX6_knotAt 24 (.iload_n 1) 1 25 6 := ⟨by decide +kernel, rfl, rfl⟩
theorem d_X6_knotAt_25 : nD YX6_knotAt 25 (.isub) 1 26 6 := ⟨by decide +kernel, rfl, rfl⟩
theorem d_X6_knotAt_26 : nD YX6_knotAt 26 (.iaload) 1 27 6 := ⟨by decide +kernel, rfl, rfl⟩
theorem d_X6_knotAt_27 : nD YX6_knotAt 27 (.goto 4) 3 30 6 := ⟨by decide +kernel, rfl, rfl⟩
theorem d_X6_knotAt_30 : nD YX6_knotAt 30 (.iconst (-1)) 1 31 6 := ⟨by decide +kernel, rfl, rfl⟩
theorem d_X6_knotAt_31 : nD YX6_knotAt 31 (.ireturn) 1 32 6 := ⟨by decide +kernel, rfl, rfl⟩
theorem d_X6_goTo_0 : nD YX6_goTo 0 (.aload_n 0) 1 1 6 := ⟨by decide +kernel, rfl, rfl⟩
theorem d_X6_goTo_1 : nD YX6_goTo 1 (.getfield 26) 3 4 6 := ⟨by decide +kernel, rfl, rfl⟩
theorem d_X6_goTo_4 : nD YX6_goTo 4 (.sipush 1440) 3 7 6 := ⟨by decide +kernel, rfl, rfl⟩
theorem d_X6_goTo_7 : nD YX6_goTo 7 (.if_icmp .gt 23) 3 10 6 := ⟨by decide +kernel, rfl, rfl⟩
theorem d_X6_goTo_10 : nD YX6_goTo 10 (.aload_n 0) 1 11 6 := ⟨by decide +kernel, rfl, rfl⟩
theorem d_X6_goTo_11 : nD YX6_goTo 11 (.getfield 15) 3 14 6 := ⟨by decide +kernel, rfl, rfl⟩
theorem d_X6_goTo_14 : nD YX6_goTo 14 (.aload_n 0) 1 15 6 := ⟨by decide +kernel, rfl, rfl⟩
theorem d_X6_goTo_15 : nD YX6_goTo 15 (.getfield 26) 3 18 6 := ⟨by decide +kernel, rfl, rfl⟩
theorem d_X6_goTo_18 : nD YX6_goTo 18 (.iload_n 1) 1 19 6 := ⟨by decide +kernel, rfl, rfl⟩
theorem d_X6_goTo_19 : nD YX6_goTo 19 (.iastore) 1 20 6 := ⟨by decide +kernel, rfl, rfl⟩
theorem d_X6_goTo_20 : nD YX6_goTo 20 (.aload_n 0) 1 21 6 := ⟨by decide +kernel, rfl, rfl⟩
theorem d_X6_goTo_21 : nD YX6_goTo 21 (.dup) 1 22 6 := ⟨by decide +kernel, rfl, rfl⟩
theorem d_X6_goTo_22 : nD YX6_goTo 22 (.getfield 26) 3 25 6 := ⟨by decide +kernel, rfl, rfl⟩
theorem d_X6_goTo_25 : nD YX6_goTo 25 (.iconst 1) 1 26 6 := ⟨by decide +kernel, rfl, rfl⟩
theorem d_X6_goTo_26 : nD YX6_goTo 26 (.iadd) 1 27 6 := ⟨by decide +kernel, rfl, rfl⟩
theorem d_X6_goTo_27 : nD YX6_goTo 27 (.putfield 26) 3 30 6 := ⟨by decide +kernel, rfl, rfl⟩
theorem d_X6_goTo_30 : nD YX6_goTo 30 (.return_) 1 31 6 := ⟨by decide +kernel, rfl, rfl⟩
theorem d_X6_makeWhole_0 : nD YX6_makeWhole 0 (.aload_n 0) 1 1 6 := ⟨by decide +kernel, rfl, rfl⟩
theorem d_X6_makeWhole_1 : nD YX6_makeWhole 1 (.ifnull 10) 3 4 6 := ⟨by decide +kernel, rfl, rfl⟩
theorem d_X6_makeWhole_4 : nD YX6_makeWhole 4 (.aload_n 0) 1 5 6 := ⟨by decide +kernel, rfl, rfl⟩
theorem d_X6_makeWhole_5 : nD YX6_makeWhole 5 (.iload_n 1) 1 6 6 := ⟨by decide +kernel, rfl, rfl⟩
theorem d_X6_makeWhole_6 : nD YX6_makeWhole 6 (.iload_n 2) 1 7 6 := ⟨by decide +kernel, rfl, rfl⟩
theorem d_X6_makeWhole_7 : nD YX6_makeWhole 7 (.iconst 1) 1 8 6 := ⟨by decide +kernel, rfl, rfl⟩
theorem d_X6_makeWhole_8 : nD YX6_makeWhole 8 (.invokevirtual 57) 3 11 6 := ⟨by decide +kernel, rfl, rfl⟩
theorem d_X6_makeWhole_11 : nD YX6_makeWhole 11 (.return_) 1 12 6 := ⟨by decide +kernel, rfl, rfl⟩
theorem d_X6_mendOneFrom_0 : nD YX6_mendOneFrom 0 (.aload_n 0) 1 1 6 := ⟨by decide +kernel, rfl, rfl⟩
theorem d_X6_mendOneFrom_1 : nD YX6_mendOneFrom 1 (.iload_n 1) 1 2 6 := ⟨by decide +kernel, rfl, rfl⟩
theorem d_X6_mendOneFrom_2 : nD YX6_mendOneFrom 2 (.iload_n 2) 1 3 6 := ⟨by decide +kernel, rfl, rfl⟩
theorem d_X6_mendOneFrom_3 : nD YX6_mendOneFrom 3 (.invokevirtual 40) 3 6 6 := ⟨by decide +kernel, rfl, rfl⟩
theorem d_X6_mendOneFrom_6 : nD YX6_mendOneFrom 6 (.istore_n 3) 1 7 6 := ⟨by decide +kernel, rfl, rfl⟩
theorem d_X6_mendOneFrom_7 : nD YX6_mendOneFrom 7 (.iload_n 3) 1 8 6 := ⟨by decide +kernel, rfl, rfl⟩
theorem d_X6_mendOneFrom_8 : nD YX6_mendOneFrom 8 (.iconst (-1)) 1 9 6 := ⟨by decide +kernel, rfl, rfl⟩
theorem d_X6_mendOneFrom_9 : nD YX6_mendOneFrom 9 (.if_icmp .eq 22) 3 12 6 := ⟨by decide +kernel, rfl, rfl⟩
theorem d_X6_mendOneFrom_12 : nD YX6_mendOneFrom 12 (.aload_n 0) 1 13 6 := ⟨by decide +kernel, rfl, rfl⟩
theorem d_X6_mendOneFrom_13 : nD YX6_mendOneFrom 13 (.iload_n 1) 1 14 6 := ⟨by decide +kernel, rfl, rfl⟩
theorem d_X6_mendOneFrom_14 : nD YX6_mendOneFrom 14 (.invokevirtual 46) 3 17 6 := ⟨by decide +kernel, rfl, rfl⟩
theorem d_X6_mendOneFrom_17 : nD YX6_mendOneFrom 17 (.iload_n 2) 1 18 6 := ⟨by decide +kernel, rfl, rfl⟩
theorem d_X6_mendOneFrom_18 : nD YX6_mendOneFrom 18 (.iload_n 3) 1 19 6 := ⟨by decide +kernel, rfl, rfl⟩
theorem d_X6_mendOneFrom_19 : nD YX6_mendOneFrom 19 (.invokestatic 50) 3 22 6 := ⟨by decide +kernel, rfl, rfl⟩
theorem d_X6_mendOneFrom_22 : nD YX6_mendOneFrom 22 (.bipush 100) 2 24 6 := ⟨by decide +kernel, rfl, rfl⟩
theorem d_X6_mendOneFrom_24 : nD YX6_mendOneFrom 24 (.iload_n 1) 1 25 6 := ⟨by decide +kernel, rfl, rfl⟩
theorem d_X6_mendOneFrom_25 : nD YX6_mendOneFrom 25 (.iconst 1) 1 26 6 := ⟨by decide +kernel, rfl, rfl⟩
theorem d_X6_mendOneFrom_26 : nD YX6_mendOneFrom 26 (.isub) 1 27 6 := ⟨by decide +kernel, rfl, rfl⟩
theorem d_X6_mendOneFrom_27 : nD YX6_mendOneFrom 27 (.imul) 1 28 6 := ⟨by decide +kernel, rfl, rfl⟩
theorem d_X6_mendOneFrom_28 : nD YX6_mendOneFrom 28 (.iload_n 3) 1 29 6 := ⟨by decide +kernel, rfl, rfl⟩
theorem d_X6_mendOneFrom_29 : nD YX6_mendOneFrom 29 (.iadd) 1 30 6 := ⟨by decide +kernel, rfl, rfl⟩
theorem d_X6_mendOneFrom_30 : nD YX6_mendOneFrom 30 (.ireturn) 1 31 6 := ⟨by decide +kernel, rfl, rfl⟩
theorem d_X6_mendOneFrom_31 : nD YX6_mendOneFrom 31 (.aload_n 0) 1 32 6 := ⟨by decide +kernel, rfl, rfl⟩
theorem d_X6_mendOneFrom_32 : nD YX6_mendOneFrom 32 (.iload_n 1) 1 33 6 := ⟨by decide +kernel, rfl, rfl⟩
theorem d_X6_mendOneFrom_33 : nD YX6_mendOneFrom 33 (.iload_n 2) 1 34 6 := ⟨by decide +kernel, rfl, rfl⟩
theorem d_X6_mendOneFrom_34 : nD YX6_mendOneFrom 34 (.invokevirtual 54) 3 37 6 := ⟨by decide +kernel, rfl, rfl⟩
theorem d_X6_mendOneFrom_37 : nD YX6_mendOneFrom 37 (.istore 4) 2 39 6 := ⟨by decide +kernel, rfl, rfl⟩
theorem d_X6_mendOneFrom_39 : nD YX6_mendOneFrom 39 (.iload 4) 2 41 6 := ⟨by decide +kernel, rfl, rfl⟩
theorem d_X6_mendOneFrom_41 : nD YX6_mendOneFrom 41 (.iconst (-1)) 1 42 6 := ⟨by decide +kernel, rfl, rfl⟩
theorem d_X6_mendOneFrom_42 : nD YX6_mendOneFrom 42 (.if_icmp .eq 26) 3 45 6 := ⟨by decide +kernel, rfl, rfl⟩
theorem d_X6_mendOneFrom_45 : nD YX6_mendOneFrom 45 (.aload_n 0) 1 46 6 := ⟨by decide +kernel, rfl, rfl⟩
theorem d_X6_mendOneFrom_46 : nD YX6_mendOneFrom 46 (.iload_n 1) 1 47 6 := ⟨by decide +kernel, rfl, rfl⟩
theorem d_X6_mendOneFrom_47 : nD YX6_mendOneFrom 47 (.iconst 1) 1 48 6 := ⟨by decide +kernel, rfl, rfl⟩
theorem d_X6_mendOneFrom_48 : nD YX6_mendOneFrom 48 (.iadd) 1 49 6 := ⟨by decide +kernel, rfl, rfl⟩
theorem d_X6_mendOneFrom_49 : nD YX6_mendOneFrom 49 (.invokevirtual 46) 3 52 6 := ⟨by decide +kernel, rfl, rfl⟩
theorem d_X6_mendOneFrom_52 : nD YX6_mendOneFrom 52 (.iload 4) 2 54 6 := ⟨by decide +kernel, rfl, rfl⟩
theorem d_X6_mendOneFrom_54 : nD YX6_mendOneFrom 54 (.iload_n 2) 1 55 6 := ⟨by decide +kernel, rfl, rfl⟩
theorem d_X6_mendOneFrom_55 : nD YX6_mendOneFrom 55 (.invokestatic 50) 3 58 6 := ⟨by decide +kernel, rfl, rfl⟩
theorem d_X6_mendOneFrom_58 : nD YX6_mendOneFrom 58 (.bipush 100) 2 60 6 := ⟨by decide +kernel, rfl, rfl⟩
theorem d_X6_mendOneFrom_60 : nD YX6_mendOneFrom 60 (.iload_n 1) 1 61 6 := ⟨by decide +kernel, rfl, rfl⟩
theorem d_X6_mendOneFrom_61 : nD YX6_mendOneFrom 61 (.iconst 1) 1 62 6 := ⟨by decide +kernel, rfl, rfl⟩
theorem d_X6_mendOneFrom_62 : nD YX6_mendOneFrom 62 (.iadd) 1 63 6 := ⟨by decide +kernel, rfl, rfl⟩
theorem d_X6_mendOneFrom_63 : nD YX6_mendOneFrom 63 (.imul) 1 64 6 := ⟨by decide +kernel, rfl, rfl⟩
theorem d_X6_mendOneFrom_64 : nD YX6_mendOneFrom 64 (.iload 4) 2 66 6 := ⟨by decide +kernel, rfl, rfl⟩
theorem d_X6_mendOneFrom_66 : nD YX6_mendOneFrom 66 (.iadd) 1 67 6 := ⟨by decide +kernel, rfl, rfl⟩
theorem d_X6_mendOneFrom_67 : nD YX6_mendOneFrom 67 (.ireturn) 1 68 6 := ⟨by decide +kernel, rfl, rfl⟩
theorem d_X6_mendOneFrom_68 : nD YX6_mendOneFrom 68 (.iconst (-1)) 1 69 6 := ⟨by decide +kernel, rfl, rfl⟩
theorem d_X6_mendOneFrom_69 : nD YX6_mendOneFrom 69 (.ireturn) 1 70 6 := ⟨by decide +kernel, rfl, rfl⟩
theorem d_X6_goBackFrom_0 : nD YX6_goBackFrom 0 (.aload_n 0) 1 1 6 := ⟨by decide +kernel, rfl, rfl⟩
theorem d_X6_goBackFrom_1 : nD YX6_goBackFrom 1 (.dup) 1 2 6 := ⟨by decide +kernel, rfl, rfl⟩
theorem d_X6_goBackFrom_2 : nD YX6_goBackFrom 2 (.getfield 26) 3 5 6 := ⟨by decide +kernel, rfl, rfl⟩
theorem d_X6_goBackFrom_5 : nD YX6_goBackFrom 5 (.iconst 1) 1 6 6 := ⟨by decide +kernel, rfl, rfl⟩
theorem d_X6_goBackFrom_6 : nD YX6_goBackFrom 6 (.isub) 1 7 6 := ⟨by decide +kernel, rfl, rfl⟩
theorem d_X6_goBackFrom_7 : nD YX6_goBackFrom 7 (.putfield 26) 3 10 6 := ⟨by decide +kernel, rfl, rfl⟩
theorem d_X6_goBackFrom_10 : nD YX6_goBackFrom 10 (.aload_n 0) 1 11 6 := ⟨by decide +kernel, rfl, rfl⟩
theorem d_X6_goBackFrom_11 : nD YX6_goBackFrom 11 (.getfield 18) 3 14 6 := ⟨by decide +kernel, rfl, rfl⟩
theorem d_X6_goBackFrom_14 : nD YX6_goBackFrom 14 (.sipush 1440) 3 17 6 := ⟨by decide +kernel, rfl, rfl⟩
theorem d_X6_goBackFrom_17 : nD YX6_goBackFrom 17 (.if_icmp .gt 23) 3 20 6 := ⟨by decide +kernel, rfl, rfl⟩
theorem d_X6_goBackFrom_20 : nD YX6_goBackFrom 20 (.aload_n 0) 1 21 6 := ⟨by decide +kernel, rfl, rfl⟩
theorem d_X6_goBackFrom_21 : nD YX6_goBackFrom 21 (.getfield 9) 3 24 6 := ⟨by decide +kernel, rfl, rfl⟩
theorem d_X6_goBackFrom_24 : nD YX6_goBackFrom 24 (.aload_n 0) 1 25 6 := ⟨by decide +kernel, rfl, rfl⟩
theorem d_X6_goBackFrom_25 : nD YX6_goBackFrom 25 (.getfield 18) 3 28 6 := ⟨by decide +kernel, rfl, rfl⟩
theorem d_X6_goBackFrom_28 : nD YX6_goBackFrom 28 (.iload_n 1) 1 29 6 := ⟨by decide +kernel, rfl, rfl⟩
theorem d_X6_goBackFrom_29 : nD YX6_goBackFrom 29 (.iastore) 1 30 6 := ⟨by decide +kernel, rfl, rfl⟩
theorem d_X6_goBackFrom_30 : nD YX6_goBackFrom 30 (.aload_n 0) 1 31 6 := ⟨by decide +kernel, rfl, rfl⟩
theorem d_X6_goBackFrom_31 : nD YX6_goBackFrom 31 (.dup) 1 32 6 := ⟨by decide +kernel, rfl, rfl⟩
theorem d_X6_goBackFrom_32 : nD YX6_goBackFrom 32 (.getfield 18) 3 35 6 := ⟨by decide +kernel, rfl, rfl⟩
theorem d_X6_goBackFrom_35 : nD YX6_goBackFrom 35 (.iconst 1) 1 36 6 := ⟨by decide +kernel, rfl, rfl⟩
theorem d_X6_goBackFrom_36 : nD YX6_goBackFrom 36 (.iadd) 1 37 6 := ⟨by decide +kernel, rfl, rfl⟩
theorem d_X6_goBackFrom_37 : nD YX6_goBackFrom 37 (.putfield 18) 3 40 6 := ⟨by decide +kernel, rfl, rfl⟩
theorem d_X6_goBackFrom_40 : nD YX6_goBackFrom 40 (.return_) 1 41 6 := ⟨by decide +kernel, rfl, rfl⟩
theorem d_X6_walk_0 : nD YX6_walk 0 (.aload_n 0) 1 1 6 := ⟨by decide +kernel, rfl, rfl⟩
theorem d_X6_walk_1 : nD YX6_walk 1 (.iconst 0) 1 2 6 := ⟨by decide +kernel, rfl, rfl⟩
theorem d_X6_walk_2 : nD YX6_walk 2 (.putfield 18) 3 5 6 := ⟨by decide +kernel, rfl, rfl⟩
theorem d_X6_walk_5 : nD YX6_walk 5 (.aload_n 0) 1 6 6 := ⟨by decide +kernel, rfl, rfl⟩
theorem d_X6_walk_6 : nD YX6_walk 6 (.iconst 0) 1 7 6 := ⟨by decide +kernel, rfl, rfl⟩
theorem d_X6_walk_7 : nD YX6_walk 7 (.putfield 26) 3 10 6 := ⟨by decide +kernel, rfl, rfl⟩
theorem d_X6_walk_10 : nD YX6_walk 10 (.aload_n 0) 1 11 6 := ⟨by decide +kernel, rfl, rfl⟩
theorem d_X6_walk_11 : nD YX6_walk 11 (.iload_n 2) 1 12 6 := ⟨by decide +kernel, rfl, rfl⟩
theorem d_X6_walk_12 : nD YX6_walk 12 (.invokevirtual 29) 3 15 6 := ⟨by decide +kernel, rfl, rfl⟩
theorem d_X6_walk_15 : nD YX6_walk 15 (.iconst 0) 1 16 6 := ⟨by decide +kernel, rfl, rfl⟩
theorem d_X6_walk_16 : nD YX6_walk 16 (.istore_n 3) 1 17 6 := ⟨by decide +kernel, rfl, rfl⟩
theorem d_X6_walk_17 : nD YX6_walk 17 (.iload_n 3) 1 18 6 := ⟨by decide +kernel, rfl, rfl⟩
theorem d_X6_walk_18 : nD YX6_walk 18 (.sipush 2882) 3 21 6 := ⟨by decide +kernel, rfl, rfl⟩
theorem d_X6_walk_21 : nD YX6_walk 21 (.if_icmp .ge 66) 3 24 6 := ⟨by decide +kernel, rfl, rfl⟩
theorem d_X6_walk_24 : nD YX6_walk 24 (.aload_n 0) 1 25 6 := ⟨by decide +kernel, rfl, rfl⟩
theorem d_X6_walk_25 : nD YX6_walk 25 (.getfield 26) 3 28 6 := ⟨by decide +kernel, rfl, rfl⟩
theorem d_X6_walk_28 : nD YX6_walk 28 (.ifCond .le 59) 3 31 6 := ⟨by decide +kernel, rfl, rfl⟩
theorem d_X6_walk_31 : nD YX6_walk 31 (.aload_n 0) 1 32 6 := ⟨by decide +kernel, rfl, rfl⟩
theorem d_X6_walk_32 : nD YX6_walk 32 (.getfield 15) 3 35 6 := ⟨by decide +kernel, rfl, rfl⟩
theorem d_X6_walk_35 : nD YX6_walk 35 (.aload_n 0) 1 36 6 := ⟨by decide +kernel, rfl, rfl⟩
theorem d_X6_walk_36 : nD YX6_walk 36 (.getfield 26) 3 39 6 := ⟨by decide +kernel, rfl, rfl⟩
theorem d_X6_walk_39 : nD YX6_walk 39 (.iconst 1) 1 40 6 := ⟨by decide +kernel, rfl, rfl⟩
theorem d_X6_walk_40 : nD YX6_walk 40 (.isub) 1 41 6 := ⟨by decide +kernel, rfl, rfl⟩
theorem d_X6_walk_41 : nD YX6_walk 41 (.iaload) 1 42 6 := ⟨by decide +kernel, rfl, rfl⟩
theorem d_X6_walk_42 : nD YX6_walk 42 (.istore 4) 2 44 6 := ⟨by decide +kernel, rfl, rfl⟩
theorem d_X6_walk_44 : nD YX6_walk 44 (.aload_n 1) 1 45 6 := ⟨by decide +kernel, rfl, rfl⟩
theorem d_X6_walk_45 : nD YX6_walk 45 (.iload 4) 2 47 6 := ⟨by decide +kernel, rfl, rfl⟩
theorem d_X6_walk_47 : nD YX6_walk 47 (.bipush 100) 2 49 6 := ⟨by decide +kernel, rfl, rfl⟩
theorem d_X6_walk_49 : nD YX6_walk 49 (.idiv) 1 50 6 := ⟨by decide +kernel, rfl, rfl⟩
theorem d_X6_walk_50 : nD YX6_walk 50 (.iload 4) 2 52 6 := ⟨by decide +kernel, rfl, rfl⟩
theorem d_X6_walk_52 : nD YX6_walk 52 (.bipush 100) 2 54 6 := ⟨by decide +kernel, rfl, rfl⟩
theorem d_X6_walk_54 : nD YX6_walk 54 (.irem) 1 55 6 := ⟨by decide +kernel, rfl, rfl⟩
theorem d_X6_walk_55 : nD YX6_walk 55 (.invokestatic 33) 3 58 6 := ⟨by decide +kernel, rfl, rfl⟩
theorem d_X6_walk_58 : nD YX6_walk 58 (.istore 5) 2 60 6 := ⟨by decide +kernel, rfl, rfl⟩
theorem d_X6_walk_60 : nD YX6_walk 60 (.iload 5) 2 62 6 := ⟨by decide +kernel, rfl, rfl⟩
theorem d_X6_walk_62 : nD YX6_walk 62 (.iconst (-1)) 1 63 6 := ⟨by decide +kernel, rfl, rfl⟩
theorem d_X6_walk_63 : nD YX6_walk 63 (.if_icmp .ne 12) 3 66 6 := ⟨by decide +kernel, rfl, rfl⟩
theorem d_X6_walk_66 : nD YX6_walk 66 (.aload_n 0) 1 67 6 := ⟨by decide +kernel, rfl, rfl⟩
theorem d_X6_walk_67 : nD YX6_walk 67 (.iload 4) 2 69 6 := ⟨by decide +kernel, rfl, rfl⟩
theorem d_X6_walk_69 : nD YX6_walk 69 (.invokevirtual 37) 3 72 6 := ⟨by decide +kernel, rfl, rfl⟩
theorem d_X6_walk_72 : nD YX6_walk 72 (.goto 9) 3 75 6 := ⟨by decide +kernel, rfl, rfl⟩
theorem d_X6_walk_75 : nD YX6_walk 75 (.aload_n 0) 1 76 6 := ⟨by decide +kernel, rfl, rfl⟩
theorem d_X6_walk_76 : nD YX6_walk 76 (.iload 5) 2 78 6 := ⟨by decide +kernel, rfl, rfl⟩
theorem d_X6_walk_78 : nD YX6_walk 78 (.invokevirtual 29) 3 81 6 := ⟨by decide +kernel, rfl, rfl⟩
theorem d_X6_walk_81 : nD YX6_walk 81 (.iinc 3 1) 3 84 6 := ⟨by decide +kernel, rfl, rfl⟩
theorem d_X6_walk_84 : nD YX6_walk 84 (.goto (-67)) 3 87 6 := ⟨by decide +kernel, rfl, rfl⟩
theorem d_X6_walk_87 : nD YX6_walk 87 (.return_) 1 88 6 := ⟨by decide +kernel, rfl, rfl⟩
theorem d_X7_init_0 : nD YX7_init 0 (.aload_n 0) 1 1 7 := ⟨by decide +kernel, rfl, rfl⟩
theorem d_X7_init_1 : nD YX7_init 1 (.invokespecial 3) 3 4 7 := ⟨by decide +kernel, rfl, rfl⟩
theorem d_X7_init_4 : nD YX7_init 4 (.aload_n 0) 1 5 7 := ⟨by decide +kernel, rfl, rfl⟩
theorem d_X7_init_5 : nD YX7_init 5 (.bipush 12) 2 7 7 := ⟨by decide +kernel, rfl, rfl⟩
theorem d_X7_init_7 : nD YX7_init 7 (.anewarray 9) 3 10 7 := ⟨by decide +kernel, rfl, rfl⟩
theorem d_X7_init_10 : nD YX7_init 10 (.putfield 11) 3 13 7 := ⟨by decide +kernel, rfl, rfl⟩
theorem d_X7_init_13 : nD YX7_init 13 (.aload_n 0) 1 14 7 := ⟨by decide +kernel, rfl, rfl⟩
theorem d_X7_init_14 : nD YX7_init 14 (.bipush 101) 2 16 7 := ⟨by decide +kernel, rfl, rfl⟩
theorem d_X7_init_16 : nD YX7_init 16 (.newarray .int) 2 18 7 := ⟨by decide +kernel, rfl, rfl⟩
theorem d_X7_init_18 : nD YX7_init 18 (.putfield 15) 3 21 7 := ⟨by decide +kernel, rfl, rfl⟩
theorem d_X7_init_21 : nD YX7_init 21 (.aload_n 0) 1 22 7 := ⟨by decide +kernel, rfl, rfl⟩
theorem d_X7_init_22 : nD YX7_init 22 (.bipush 101) 2 24 7 := ⟨by decide +kernel, rfl, rfl⟩
theorem d_X7_init_24 : nD YX7_init 24 (.putfield 19) 3 27 7 := ⟨by decide +kernel, rfl, rfl⟩
theorem d_X7_init_27 : nD YX7_init 27 (.aload_n 0) 1 28 7 := ⟨by decide +kernel, rfl, rfl⟩
theorem d_X7_init_28 : nD YX7_init 28 (.new 23) 3 31 7 := ⟨by decide +kernel, rfl, rfl⟩
theorem d_X7_init_31 : nD YX7_init 31 (.dup) 1 32 7 := ⟨by decide +kernel, rfl, rfl⟩
theorem d_X7_init_32 : nD YX7_init 32 (.invokespecial 25) 3 35 7 := ⟨by decide +kernel, rfl, rfl⟩
theorem d_X7_init_35 : nD YX7_init 35 (.putfield 26) 3 38 7 := ⟨by decide +kernel, rfl, rfl⟩
theorem d_X7_init_38 : nD YX7_init 38 (.aload_n 0) 1 39 7 := ⟨by decide +kernel, rfl, rfl⟩
theorem d_X7_init_39 : nD YX7_init 39 (.new 23) 3 42 7 := ⟨by decide +kernel, rfl, rfl⟩
theorem d_X7_init_42 : nD YX7_init 42 (.dup) 1 43 7 := ⟨by decide +kernel, rfl, rfl⟩
theorem d_X7_init_43 : nD YX7_init 43 (.invokespecial 25) 3 46 7 := ⟨by decide +kernel, rfl, rfl⟩
theorem d_X7_init_46 : nD YX7_init 46 (.putfield 30) 3 49 7 := ⟨by decide +kernel, rfl, rfl⟩
theorem d_X7_init_49 : nD YX7_init 49 (.aload_n 0) 1 50 7 := ⟨by decide +kernel, rfl, rfl⟩
theorem d_X7_init_50 : nD YX7_init 50 (.new 33) 3 53 7 := ⟨by decide +kernel, rfl, rfl⟩
theorem d_X7_init_53 : nD YX7_init 53 (.dup) 1 54 7 := ⟨by decide +kernel, rfl, rfl⟩
theorem d_X7_init_54 : nD YX7_init 54 (.invokespecial 35) 3 57 7 := ⟨by decide +kernel, rfl, rfl⟩
theorem d_X7_init_57 : nD YX7_init 57 (.putfield 36) 3 60 7 := ⟨by decide +kernel, rfl, rfl⟩
theorem d_X7_init_60 : nD YX7_init 60 (.aload_n 0) 1 61 7 := ⟨by decide +kernel, rfl, rfl⟩
theorem d_X7_init_61 : nD YX7_init 61 (.new 40) 3 64 7 := ⟨by decide +kernel, rfl, rfl⟩
theorem d_X7_init_64 : nD YX7_init 64 (.dup) 1 65 7 := ⟨by decide +kernel, rfl, rfl⟩
theorem d_X7_init_65 : nD YX7_init 65 (.invokespecial 42) 3 68 7 := ⟨by decide +kernel, rfl, rfl⟩
theorem d_X7_init_68 : nD YX7_init 68 (.putfield 43) 3 71 7 := ⟨by decide +kernel, rfl, rfl⟩
theorem d_X7_init_71 : nD YX7_init 71 (.aload_n 0) 1 72 7 := ⟨by decide +kernel, rfl, rfl⟩
theorem d_X7_init_72 : nD YX7_init 72 (.new 47) 3 75 7 := ⟨by decide +kernel, rfl, rfl⟩
theorem d_X7_init_75 : nD YX7_init 75 (.dup) 1 76 7 := ⟨by decide +kernel, rfl, rfl⟩
theorem d_X7_init_76 : nD YX7_init 76 (.invokespecial 49) 3 79 7 := ⟨by decide +kernel, rfl, rfl⟩
theorem d_X7_init_79 : nD YX7_init 79 (.putfield 50) 3 82 7 := ⟨by decide +kernel, rfl, rfl⟩
theorem d_X7_init_82 : nD YX7_init 82 (.aload_n 0) 1 83 7 := ⟨by decide +kernel, rfl, rfl⟩
theorem d_X7_init_83 : nD YX7_init 83 (.new 54) 3 86 7 := ⟨by decide +kernel, rfl, rfl⟩
theorem d_X7_init_86 : nD YX7_init 86 (.dup) 1 87 7 := ⟨by decide +kernel, rfl, rfl⟩
theorem d_X7_init_87 : nD YX7_init 87 (.invokespecial 56) 3 90 7 := ⟨by decide +kernel, rfl, rfl⟩
theorem d_X7_init_90 : nD YX7_init 90 (.putfield 57) 3 93 7 := ⟨by decide +kernel, rfl, rfl⟩
theorem d_X7_init_93 : nD YX7_init 93 (.return_) 1 94 7 := ⟨by decide +kernel, rfl, rfl⟩
theorem d_X7_keep_0 : nD YX7_keep 0 (.aload_n 0) 1 1 7 := ⟨by decide +kernel, rfl, rfl⟩
theorem d_X7_keep_1 : nD YX7_keep 1 (.getfield 61) 3 4 7 := ⟨by decide +kernel, rfl, rfl⟩
theorem d_X7_keep_4 : nD YX7_keep 4 (.bipush 12) 2 6 7 := ⟨by decide +kernel, rfl, rfl⟩
theorem d_X7_keep_6 : nD YX7_keep 6 (.if_icmp .lt 5) 3 9 7 := ⟨by decide +kernel, rfl, rfl⟩
theorem d_X7_keep_9 : nD YX7_keep 9 (.iconst (-1)) 1 10 7 := ⟨by decide +kernel, rfl, rfl⟩
theorem d_X7_keep_10 : nD YX7_keep 10 (.ireturn) 1 11 7 := ⟨by decide +kernel, rfl, rfl⟩
theorem d_X7_keep_11 : nD YX7_keep 11 (.aload_n 0) 1 12 7 := ⟨by decide +kernel, rfl, rfl⟩
theorem d_X7_keep_12 : nD YX7_keep 12 (.getfield 11) 3 15 7 := ⟨by decide +kernel, rfl, rfl⟩
theorem d_X7_keep_15 : nD YX7_keep 15 (.aload_n 0) 1 16 7 := ⟨by decide +kernel, rfl, rfl⟩
theorem d_X7_keep_16 : nD YX7_keep 16 (.getfield 61) 3 19 7 := ⟨by decide +kernel, rfl, rfl⟩
theorem d_X7_keep_19 : nD YX7_keep 19 (.aload_n 1) 1 20 7 := ⟨by decide +kernel, rfl, rfl⟩
theorem d_X7_keep_20 : nD YX7_keep 20 (.aastore) 1 21 7 := ⟨by decide +kernel, rfl, rfl⟩
theorem d_X7_keep_21 : nD YX7_keep 21 (.aload_n 0) 1 22 7 := ⟨by decide +kernel, rfl, rfl⟩
theorem d_X7_keep_22 : nD YX7_keep 22 (.dup) 1 23 7 := ⟨by decide +kernel, rfl, rfl⟩
theorem d_X7_keep_23 : nD YX7_keep 23 (.getfield 61) 3 26 7 := ⟨by decide +kernel, rfl, rfl⟩
theorem d_X7_keep_26 : nD YX7_keep 26 (.iconst 1) 1 27 7 := ⟨by decide +kernel, rfl, rfl⟩
theorem d_X7_keep_27 : nD YX7_keep 27 (.iadd) 1 28 7 := ⟨by decide +kernel, rfl, rfl⟩
theorem d_X7_keep_28 : nD YX7_keep 28 (.putfield 61) 3 31 7 := ⟨by decide +kernel, rfl, rfl⟩
theorem d_X7_keep_31 : nD YX7_keep 31 (.aload_n 0) 1 32 7 := ⟨by decide +kernel, rfl, rfl⟩
theorem d_X7_keep_32 : nD YX7_keep 32 (.getfield 61) 3 35 7 := ⟨by decide +kernel, rfl, rfl⟩
theorem d_X7_keep_35 : nD YX7_keep 35 (.iconst 1) 1 36 7 := ⟨by decide +kernel, rfl, rfl⟩
theorem d_X7_keep_36 : nD YX7_keep 36 (.isub) 1 37 7 := ⟨by decide +kernel, rfl, rfl⟩
theorem d_X7_keep_37 : nD YX7_keep 37 (.ireturn) 1 38 7 := ⟨by decide +kernel, rfl, rfl⟩
theorem d_X7_panel_0 : nD YX7_panel 0 (.aload_n 0) 1 1 7 := ⟨by decide +kernel, rfl, rfl⟩
theorem d_X7_panel_1 : nD YX7_panel 1 (.getfield 61) 3 4 7 := ⟨by decide +kernel, rfl, rfl⟩
theorem d_X7_panel_4 : nD YX7_panel 4 (.bipush 12) 2 6 7 := ⟨by decide +kernel, rfl, rfl⟩
theorem d_X7_panel_6 : nD YX7_panel 6 (.if_icmp .ge 13) 3 9 7 := ⟨by decide +kernel, rfl, rfl⟩
theorem d_X7_panel_9 : nD YX7_panel 9 (.iload_n 1) 1 10 7 := ⟨by decide +kernel, rfl, rfl⟩
theorem d_X7_panel_10 : nD YX7_panel 10 (.iconst 1) 1 11 7 := ⟨by decide +kernel, rfl, rfl⟩
theorem d_X7_panel_11 : nD YX7_panel 11 (.bipush 24) 2 13 7 := ⟨by decide +kernel, rfl, rfl⟩
theorem d_X7_panel_13 : nD YX7_panel 13 (.invokestatic 64) 3 16 7 := ⟨by decide +kernel, rfl, rfl⟩
theorem d_X7_panel_16 : nD YX7_panel 16 (.ifCond .ne 5) 3 19 7 := ⟨by decide +kernel, rfl, rfl⟩
theorem d_X7_panel_19 : nD YX7_panel 19 (.iconst (-1)) 1 20 7 := ⟨by decide +kernel, rfl, rfl⟩
theorem d_X7_panel_20 : nD YX7_panel 20 (.ireturn) 1 21 7 := ⟨by decide +kernel, rfl, rfl⟩
theorem d_X7_panel_21 : nD YX7_panel 21 (.iload_n 2) 1 22 7 := ⟨by decide +kernel, rfl, rfl⟩
theorem d_X7_panel_22 : nD YX7_panel 22 (.iconst 1) 1 23 7 := ⟨by decide +kernel, rfl, rfl⟩
theorem d_X7_panel_23 : nD YX7_panel 23 (.sipush 1000) 3 26 7 := ⟨by decide +kernel, rfl, rfl⟩
theorem d_X7_panel_26 : nD YX7_panel 26 (.invokestatic 64) 3 29 7 := ⟨by decide +kernel, rfl, rfl⟩
theorem d_X7_panel_29 : nD YX7_panel 29 (.ifCond .eq 13) 3 32 7 := ⟨by decide +kernel, rfl, rfl⟩
theorem d_X7_panel_32 : nD YX7_panel 32 (.iload_n 3) 1 33 7 := ⟨by decide +kernel, rfl, rfl⟩
theorem d_X7_panel_33 : nD YX7_panel 33 (.iconst 1) 1 34 7 := ⟨by decide +kernel, rfl, rfl⟩
theorem d_X7_panel_34 : nD YX7_panel 34 (.ldc 68) 2 36 7 := ⟨by decide +kernel, rfl, rfl⟩
theorem d_X7_panel_36 : nD YX7_panel 36 (.invokestatic 64) 3 39 7 := ⟨by decide +kernel, rfl, rfl⟩
theorem d_X7_panel_39 : nD YX7_panel 39 (.ifCond .ne 5) 3 42 7 := ⟨by decide +kernel, rfl, rfl⟩
theorem d_X7_panel_42 : nD YX7_panel 42 (.iconst (-1)) 1 43 7 := ⟨by decide +kernel, rfl, rfl⟩
theorem d_X7_panel_43 : nD YX7_panel 43 (.ireturn) 1 44 7 := ⟨by decide +kernel, rfl, rfl⟩
theorem d_X7_panel_44 : nD YX7_panel 44 (.new 9) 3 47 7 := ⟨by decide +kernel, rfl, rfl⟩
theorem d_X7_panel_47 : nD YX7_panel 47 (.dup) 1 48 7 := ⟨by decide +kernel, rfl, rfl⟩
theorem d_X7_panel_48 : nD YX7_panel 48 (.iload_n 2) 1 49 7 := ⟨by decide +kernel, rfl, rfl⟩
theorem d_X7_panel_49 : nD YX7_panel 49 (.iload_n 3) 1 50 7 := ⟨by decide +kernel, rfl, rfl⟩
theorem d_X7_panel_50 : nD YX7_panel 50 (.invokespecial 69) 3 53 7 := ⟨by decide +kernel, rfl, rfl⟩
theorem d_X7_panel_53 : nD YX7_panel 53 (.astore 4) 2 55 7 := ⟨by decide +kernel, rfl, rfl⟩
theorem d_X7_panel_55 : nD YX7_panel 55 (.aload 4) 2 57 7 := ⟨by decide +kernel, rfl, rfl⟩
theorem d_X7_panel_57 : nD YX7_panel 57 (.new 72) 3 60 7 := ⟨by decide +kernel, rfl, rfl⟩
theorem d_X7_panel_60 : nD YX7_panel 60 (.dup) 1 61 7 := ⟨by decide +kernel, rfl, rfl⟩
theorem d_X7_panel_61 : nD YX7_panel 61 (.iload_n 1) 1 62 7 := ⟨by decide +kernel, rfl, rfl⟩
theorem d_X7_panel_62 : nD YX7_panel 62 (.invokespecial 74) 3 65 7 := ⟨by decide +kernel, rfl, rfl⟩
theorem d_X7_panel_65 : nD YX7_panel 65 (.invokevirtual 77) 3 68 7 := ⟨by decide +kernel, rfl, rfl⟩
theorem d_X7_panel_68 : nD YX7_panel 68 (.aload_n 0) 1 69 7 := ⟨by decide +kernel, rfl, rfl⟩
theorem d_X7_panel_69 : nD YX7_panel 69 (.aload 4) 2 71 7 := ⟨by decide +kernel, rfl, rfl⟩
theorem d_X7_panel_71 : nD YX7_panel 71 (.invokevirtual 81) 3 74 7 := ⟨by decide +kernel, rfl, rfl⟩
theorem d_X7_panel_74 : nD YX7_panel 74 (.ireturn) 1 75 7 := ⟨by decide +kernel, rfl, rfl⟩
theorem d_X7_panelAt_0 : nD YX7_panelAt 0 (.iload_n 1) 1 1 7 := ⟨by decide +kernel, rfl, rfl⟩
theorem d_X7_panelAt_1 : nD YX7_panelAt 1 (.iconst 0) 1 2 7 := ⟨by decide +kernel, rfl, rfl⟩
theorem d_X7_panelAt_2 : nD YX7_panelAt 2 (.aload_n 0) 1 3 7 := ⟨by decide +kernel, rfl, rfl⟩
theorem d_X7_panelAt_3 : nD YX7_panelAt 3 (.getfield 61) 3 6 7 := ⟨by decide +kernel, rfl, rfl⟩
theorem d_X7_panelAt_6 : nD YX7_panelAt 6 (.iconst 1) 1 7 7 := ⟨by decide +kernel, rfl, rfl⟩
theorem d_X7_panelAt_7 : nD YX7_panelAt 7 (.isub) 1 8 7 := ⟨by decide +kernel, rfl, rfl⟩
theorem d_X7_panelAt_8 : nD YX7_panelAt 8 (.invokestatic 64) 3 11 7 := ⟨by decide +kernel, rfl, rfl⟩
theorem d_X7_panelAt_11 : nD YX7_panelAt 11 (.ifCond .eq 12) 3 14 7 := ⟨by decide +kernel, rfl, rfl⟩
theorem d_X7_panelAt_14 : nD YX7_panelAt 14 (.aload_n 0) 1 15 7 := ⟨by decide +kernel, rfl, rfl⟩
theorem d_X7_panelAt_15 : nD YX7_panelAt 15 (.getfield 11) 3 18 7 := ⟨by decide +kernel, rfl, rfl⟩
theorem d_X7_panelAt_18 : nD YX7_panelAt 18 (.iload_n 1) 1 19 7 := ⟨by decide +kernel, rfl, rfl⟩
theorem d_X7_panelAt_19 : nD YX7_panelAt 19 (.aaload) 1 20 7 := ⟨by decide +kernel, rfl, rfl⟩
theorem d_X7_panelAt_20 : nD YX7_panelAt 20 (.goto 4) 3 23 7 := ⟨by decide +kernel, rfl, rfl⟩
theorem d_X7_panelAt_23 : nD YX7_panelAt 23 (.aconst_null) 1 24 7 := ⟨by decide +kernel, rfl, rfl⟩
theorem d_X7_panelAt_24 : nD YX7_panelAt 24 (.areturn) 1 25 7 := ⟨by decide +kernel, rfl, rfl⟩
theorem d_X7_row_0 : nD YX7_row 0 (.aload_n 0) 1 1 7 := ⟨by decide +kernel, rfl, rfl⟩
theorem d_X7_row_1 : nD YX7_row 1 (.iload_n 1) 1 2 7 := ⟨by decide +kernel, rfl, rfl⟩
theorem d_X7_row_2 : nD YX7_row 2 (.invokevirtual 85) 3 5 7 := ⟨by decide +kernel, rfl, rfl⟩
theorem d_X7_row_5 : nD YX7_row 5 (.astore_n 2) 1 6 7 := ⟨by decide +kernel, rfl, rfl⟩
theorem d_X7_row_6 : nD YX7_row 6 (.aload_n 2) 1 7 7 := ⟨by decide +kernel, rfl, rfl⟩
theorem d_X7_row_7 : nD YX7_row 7 (.ifnonnull 7) 3 10 7 := ⟨by decide +kernel, rfl, rfl⟩
theorem d_X7_row_10 : nD YX7_row 10 (.iconst (-1)) 1 11 7 := ⟨by decide +kernel, rfl, rfl⟩
theorem d_X7_row_11 : nD YX7_row 11 (.goto 7) 3 14 7 := ⟨by decide +kernel, rfl, rfl⟩
theorem d_X7_row_14 : nD YX7_row 14 (.aload_n 2) 1 15 7 := ⟨by decide +kernel, rfl, rfl⟩
theorem d_X7_row_15 : nD YX7_row 15 (.invokevirtual 89) 3 18 7 := ⟨by decide +kernel, rfl, rfl⟩
theorem d_X7_row_18 : nD YX7_row 18 (.ireturn) 1 19 7 := ⟨by decide +kernel, rfl, rfl⟩
theorem d_X7_kind_0 : nD YX7_kind 0 (.aload_n 0) 1 1 7 := ⟨by decide +kernel, rfl, rfl⟩
theorem d_X7_kind_1 : nD YX7_kind 1 (.iload_n 1) 1 2 7 := ⟨by decide +kernel, rfl, rfl⟩
theorem d_X7_kind_2 : nD YX7_kind 2 (.invokevirtual 85) 3 5 7 := ⟨by decide +kernel, rfl, rfl⟩
theorem d_X7_kind_5 : nD YX7_kind 5 (.astore 4) 2 7 7 := ⟨by decide +kernel, rfl, rfl⟩
theorem d_X7_kind_7 : nD YX7_kind 7 (.aload 4) 2 9 7 := ⟨by decide +kernel, rfl, rfl⟩
theorem d_X7_kind_9 : nD YX7_kind 9 (.ifnonnull 7) 3 12 7 := ⟨by decide +kernel, rfl, rfl⟩
theorem d_X7_kind_12 : nD YX7_kind 12 (.aconst_null) 1 13 7 := ⟨by decide +kernel, rfl, rfl⟩
theorem d_X7_kind_13 : nD YX7_kind 13 (.goto 8) 3 16 7 := ⟨by decide +kernel, rfl, rfl⟩
theorem d_X7_kind_16 : nD YX7_kind 16 (.aload 4) 2 18 7 := ⟨by decide +kernel, rfl, rfl⟩
theorem d_X7_kind_18 : nD YX7_kind 18 (.invokevirtual 93) 3 21 7 := ⟨by decide +kernel, rfl, rfl⟩
theorem d_X7_kind_21 : nD YX7_kind 21 (.astore 5) 2 23 7 := ⟨by decide +kernel, rfl, rfl⟩
theorem d_X7_kind_23 : nD YX7_kind 23 (.aload 5) 2 25 7 := ⟨by decide +kernel, rfl, rfl⟩
theorem d_X7_kind_25 : nD YX7_kind 25 (.ifnull 21) 3 28 7 := ⟨by decide +kernel, rfl, rfl⟩
theorem d_X7_kind_28 : nD YX7_kind 28 (.aload 5) 2 30 7 := ⟨by decide +kernel, rfl, rfl⟩
theorem d_X7_kind_30 : nD YX7_kind 30 (.iload_n 2) 1 31 7 := ⟨by decide +kernel, rfl, rfl⟩
theorem d_X7_kind_31 : nD YX7_kind 31 (.invokevirtual 97) 3 34 7 := ⟨by decide +kernel, rfl, rfl⟩
theorem d_X7_kind_34 : nD YX7_kind 34 (.ifCond .eq 12) 3 37 7 := ⟨by decide +kernel, rfl, rfl⟩
theorem d_X7_kind_37 : nD YX7_kind 37 (.iload_n 3) 1 38 7 := ⟨by decide +kernel, rfl, rfl⟩
theorem d_X7_kind_38 : nD YX7_kind 38 (.iconst 0) 1 39 7 := ⟨by decide +kernel, rfl, rfl⟩
theorem d_X7_kind_39 : nD YX7_kind 39 (.iconst 2) 1 40 7 := ⟨by decide +kernel, rfl, rfl⟩
theorem d_X7_kind_40 : nD YX7_kind 40 (.invokestatic 64) 3 43 7 := ⟨by decide +kernel, rfl, rfl⟩
theorem d_X7_kind_43 : nD YX7_kind 43 (.ifCond .ne 5) 3 46 7 := ⟨by decide +kernel, rfl, rfl⟩
theorem d_X7_kind_46 : nD YX7_kind 46 (.iconst 0) 1 47 7 := ⟨by decide +kernel, rfl, rfl⟩
theorem d_X7_kind_47 : nD YX7_kind 47 (.ireturn) 1 48 7 := ⟨by decide +kernel, rfl, rfl⟩
theorem d_X7_kind_48 : nD YX7_kind 48 (.iload_n 3) 1 49 7 := ⟨by decide +kernel, rfl, rfl⟩
theorem d_X7_kind_49 : nD YX7_kind 49 (.iconst 2) 1 50 7 := ⟨by decide +kernel, rfl, rfl⟩
theorem d_X7_kind_50 : nD YX7_kind 50 (.if_icmp .ne 9) 3 53 7 := ⟨by decide +kernel, rfl, rfl⟩
theorem d_X7_kind_53 : nD YX7_kind 53 (.iload_n 2) 1 54 7 := ⟨by decide +kernel, rfl, rfl⟩
theorem d_X7_kind_54 : nD YX7_kind 54 (.ifCond .ne 5) 3 57 7 := ⟨by decide +kernel, rfl, rfl⟩
theorem d_X7_kind_57 : nD YX7_kind 57 (.iconst 0) 1 58 7 := ⟨by decide +kernel, rfl, rfl⟩
theorem d_X7_kind_58 : nD YX7_kind 58 (.ireturn) 1 59 7 := ⟨by decide +kernel, rfl, rfl⟩
theorem d_X7_kind_59 : nD YX7_kind 59 (.aload 5) 2 61 7 := ⟨by decide +kernel, rfl, rfl⟩
theorem d_X7_kind_61 : nD YX7_kind 61 (.iload_n 2) 1 62 7 := ⟨by decide +kernel, rfl, rfl⟩
theorem d_X7_kind_62 : nD YX7_kind 62 (.iload_n 3) 1 63 7 := ⟨by decide +kernel, rfl, rfl⟩
theorem d_X7_kind_63 : nD YX7_kind 63 (.invokevirtual 101) 3 66 7 := ⟨by decide +kernel, rfl, rfl⟩
theorem d_X7_kind_66 : nD YX7_kind 66 (.iconst 1) 1 67 7 := ⟨by decide +kernel, rfl, rfl⟩
theorem d_X7_kind_67 : nD YX7_kind 67 (.ireturn) 1 68 7 := ⟨by decide +kernel, rfl, rfl⟩
theorem d_X7_isRule_0 : nD YX7_isRule 0 (.iload_n 0) 1 1 7 := ⟨by decide +kernel, rfl, rfl⟩
theorem d_X7_isRule_1 : nD YX7_isRule 1 (.iconst 1) 1 2 7 := ⟨by decide +kernel, rfl, rfl⟩
theorem d_X7_isRule_2 : nD YX7_isRule 2 (.bipush 24) 2 4 7 := ⟨by decide +kernel, rfl, rfl⟩
theorem d_X7_isRule_4 : nD YX7_isRule 4 (.invokestatic 64) 3 7 7 := ⟨by decide +kernel, rfl, rfl⟩
theorem d_X7_isRule_7 : nD YX7_isRule 7 (.ifCond .eq 17) 3 10 7 := ⟨by decide +kernel, rfl, rfl⟩
theorem d_X7_isRule_10 : nD YX7_isRule 10 (.iload_n 1) 1 11 7 := ⟨by decide +kernel, rfl, rfl⟩
theorem d_X7_isRule_11 : nD YX7_isRule 11 (.iconst 1) 1 12 7 := ⟨by decide +kernel, rfl, rfl⟩
theorem d_X7_isRule_12 : nD YX7_isRule 12 (.if_icmp .eq 8) 3 15 7 := ⟨by decide +kernel, rfl, rfl⟩
theorem d_X7_isRule_15 : nD YX7_isRule 15 (.iload_n 1) 1 16 7 := ⟨by decide +kernel, rfl, rfl⟩
theorem d_X7_isRule_16 : nD YX7_isRule 16 (.iconst 2) 1 17 7 := ⟨by decide +kernel, rfl, rfl⟩
theorem d_X7_isRule_17 : nD YX7_isRule 17 (.if_icmp .ne 7) 3 20 7 := ⟨by decide +kernel, rfl, rfl⟩
theorem d_X7_isRule_20 : nD YX7_isRule 20 (.iconst 1) 1 21 7 := ⟨by decide +kernel, rfl, rfl⟩
theorem d_X7_isRule_21 : nD YX7_isRule 21 (.goto 4) 3 24 7 := ⟨by decide +kernel, rfl, rfl⟩
theorem d_X7_isRule_24 : nD YX7_isRule 24 (.iconst 0) 1 25 7 := ⟨by decide +kernel, rfl, rfl⟩
theorem d_X7_isRule_25 : nD YX7_isRule 25 (.ireturn) 1 26 7 := ⟨by decide +kernel, rfl, rfl⟩
theorem d_X7_shape_0 : nD YX7_shape 0 (.aload_n 0) 1 1 7 := ⟨by decide +kernel, rfl, rfl⟩
theorem d_X7_shape_1 : nD YX7_shape 1 (.iload_n 1) 1 2 7 := ⟨by decide +kernel, rfl, rfl⟩
theorem d_X7_shape_2 : nD YX7_shape 2 (.invokevirtual 85) 3 5 7 := ⟨by decide +kernel, rfl, rfl⟩
theorem d_X7_shape_5 : nD YX7_shape 5 (.astore 5) 2 7 7 := ⟨by decide +kernel, rfl, rfl⟩
theorem d_X7_shape_7 : nD YX7_shape 7 (.aload 5) 2 9 7 := ⟨by decide +kernel, rfl, rfl⟩
theorem d_X7_shape_9 : nD YX7_shape 9 (.ifnull 22) 3 12 7 := ⟨by decide +kernel, rfl, rfl⟩
theorem d_X7_shape_12 : nD YX7_shape 12 (.iload_n 2) 1 13 7 := ⟨by decide +kernel, rfl, rfl⟩
theorem d_X7_shape_13 : nD YX7_shape 13 (.iconst 1) 1 14 7 := ⟨by decide +kernel, rfl, rfl⟩
theorem d_X7_shape_14 : nD YX7_shape 14 (.bipush 19) 2 16 7 := ⟨by decide +kernel, rfl, rfl⟩
theorem d_X7_shape_16 : nD YX7_shape 16 (.invokestatic 64) 3 19 7 := ⟨by decide +kernel, rfl, rfl⟩
theorem d_X7_shape_19 : nD YX7_shape 19 (.ifCond .eq 12) 3 22 7 := ⟨by decide +kernel, rfl, rfl⟩
theorem d_X7_shape_22 : nD YX7_shape 22 (.iload_n 3) 1 23 7 := ⟨by decide +kernel, rfl, rfl⟩
theorem d_X7_shape_23 : nD YX7_shape 23 (.iload 4) 2 25 7 := ⟨by decide +kernel, rfl, rfl⟩
theorem d_X7_shape_25 : nD YX7_shape 25 (.invokestatic 104) 3 28 7 := ⟨by decide +kernel, rfl, rfl⟩
theorem d_X7_shape_28 : nD YX7_shape 28 (.ifCond .ne 5) 3 31 7 := ⟨by decide +kernel, rfl, rfl⟩
theorem d_X7_shape_31 : nD YX7_shape 31 (.iconst (-1)) 1 32 7 := ⟨by decide +kernel, rfl, rfl⟩
theorem d_X7_shape_32 : nD YX7_shape 32 (.ireturn) 1 33 7 := ⟨by decide +kernel, rfl, rfl⟩
theorem d_X7_shape_33 : nD YX7_shape 33 (.aload 5) 2 35 7 := ⟨by decide +kernel, rfl, rfl⟩
theorem d_X7_shape_35 : nD YX7_shape 35 (.iload_n 2) 1 36 7 := ⟨by decide +kernel, rfl, rfl⟩
theorem d_X7_shape_36 : nD YX7_shape 36 (.iload_n 3) 1 37 7 := ⟨by decide +kernel, rfl, rfl⟩
theorem d_X7_shape_37 : nD YX7_shape 37 (.iload 4) 2 39 7 := ⟨by decide +kernel, rfl, rfl⟩
theorem d_X7_shape_39 : nD YX7_shape 39 (.invokevirtual 108) 3 42 7 := ⟨by decide +kernel, rfl, rfl⟩
theorem d_X7_shape_42 : nD YX7_shape 42 (.ifCond .eq 15) 3 45 7 := ⟨by decide +kernel, rfl, rfl⟩
theorem d_X7_shape_45 : nD YX7_shape 45 (.aload 5) 2 47 7 := ⟨by decide +kernel, rfl, rfl⟩
theorem d_X7_shape_47 : nD YX7_shape 47 (.iload_n 2) 1 48 7 := ⟨by decide +kernel, rfl, rfl⟩
theorem d_X7_shape_48 : nD YX7_shape 48 (.iload_n 3) 1 49 7 := ⟨by decide +kernel, rfl, rfl⟩
theorem d_X7_shape_49 : nD YX7_shape 49 (.iload 4) 2 51 7 := ⟨by decide +kernel, rfl, rfl⟩
theorem d_X7_shape_51 : nD YX7_shape 51 (.invokevirtual 111) 3 54 7 := ⟨by decide +kernel, rfl, rfl⟩
theorem d_X7_shape_54 : nD YX7_shape 54 (.goto 4) 3 57 7 := ⟨by decide +kernel, rfl, rfl⟩
theorem d_X7_shape_57 : nD YX7_shape 57 (.iconst (-1)) 1 58 7 := ⟨by decide +kernel, rfl, rfl⟩
theorem d_X7_shape_58 : nD YX7_shape 58 (.ireturn) 1 59 7 := ⟨by decide +kernel, rfl, rfl⟩
theorem d_X7_ahead_0 : nD YX7_ahead 0 (.iload_n 1) 1 1 7 := ⟨by decide +kernel, rfl, rfl⟩
theorem d_X7_ahead_1 : nD YX7_ahead 1 (.iconst 1) 1 2 7 := ⟨by decide +kernel, rfl, rfl⟩
theorem d_X7_ahead_2 : nD YX7_ahead 2 (.sipush 1000) 3 5 7 := ⟨by decide +kernel, rfl, rfl⟩
theorem d_X7_ahead_5 : nD YX7_ahead 5 (.invokestatic 64) 3 8 7 := ⟨by decide +kernel, rfl, rfl⟩
theorem d_X7_ahead_8 : nD YX7_ahead 8 (.ifCond .eq 23) 3 11 7 := ⟨by decide +kernel, rfl, rfl⟩
theorem d_X7_ahead_11 : nD YX7_ahead 11 (.iload_n 2) 1 12 7 := ⟨by decide +kernel, rfl, rfl⟩
theorem d_X7_ahead_12 : nD YX7_ahead 12 (.iconst 1) 1 13 7 := ⟨by decide +kernel, rfl, rfl⟩
theorem d_X7_ahead_13 : nD YX7_ahead 13 (.sipush 1000) 3 16 7 := ⟨by decide +kernel, rfl, rfl⟩
theorem d_X7_ahead_16 : nD YX7_ahead 16 (.invokestatic 64) 3 19 7 := ⟨by decide +kernel, rfl, rfl⟩
theorem d_X7_ahead_19 : nD YX7_ahead 19 (.ifCond .eq 12) 3 22 7 := ⟨by decide +kernel, rfl, rfl⟩
theorem d_X7_ahead_22 : nD YX7_ahead 22 (.iload_n 3) 1 23 7 := ⟨by decide +kernel, rfl, rfl⟩
theorem d_X7_ahead_23 : nD YX7_ahead 23 (.iload 4) 2 25 7 := ⟨by decide +kernel, rfl, rfl⟩
theorem d_X7_ahead_25 : nD YX7_ahead 25 (.invokestatic 104) 3 28 7 := ⟨by decide +kernel, rfl, rfl⟩
theorem d_X7_ahead_28 : nD YX7_ahead 28 (.ifCond .ne 7) 3 31 7 := ⟨by decide +kernel, rfl, rfl⟩
theorem d_X7_ahead_31 : nD YX7_ahead 31 (.ldc2_w 115) 3 34 7 := ⟨by decide +kernel, rfl, rfl⟩
theorem d_X7_ahead_34 : nD YX7_ahead 34 (.lreturn) 1 35 7 := ⟨by decide +kernel, rfl, rfl⟩
theorem d_X7_ahead_35 : nD YX7_ahead 35 (.iload_n 1) 1 36 7 := ⟨by decide +kernel, rfl, rfl⟩
theorem d_X7_ahead_36 : nD YX7_ahead 36 (.i2l) 1 37 7 := ⟨by decide +kernel, rfl, rfl⟩
theorem d_X7_ahead_37 : nD YX7_ahead 37 (.lstore 5) 2 39 7 := ⟨by decide +kernel, rfl, rfl⟩
theorem d_X7_ahead_39 : nD YX7_ahead 39 (.iconst 0) 1 40 7 := ⟨by decide +kernel, rfl, rfl⟩
theorem d_X7_ahead_40 : nD YX7_ahead 40 (.istore 7) 2 42 7 := ⟨by decide +kernel, rfl, rfl⟩
theorem d_X7_ahead_42 : nD YX7_ahead 42 (.iload 7) 2 44 7 := ⟨by decide +kernel, rfl, rfl⟩
theorem d_X7_ahead_44 : nD YX7_ahead 44 (.iload_n 2) 1 45 7 := ⟨by decide +kernel, rfl, rfl⟩
theorem d_X7_ahead_45 : nD YX7_ahead 45 (.if_icmp .ge 32) 3 48 7 := ⟨by decide +kernel, rfl, rfl⟩
theorem d_X7_ahead_48 : nD YX7_ahead 48 (.lload 5) 2 50 7 := ⟨by decide +kernel, rfl, rfl⟩
theorem d_X7_ahead_50 : nD YX7_ahead 50 (.iload_n 3) 1 51 7 := ⟨by decide +kernel, rfl, rfl⟩
theorem d_X7_ahead_51 : nD YX7_ahead 51 (.iload 4) 2 53 7 := ⟨by decide +kernel, rfl, rfl⟩
theorem d_X7_ahead_53 : nD YX7_ahead 53 (.invokestatic 117) 3 56 7 := ⟨by decide +kernel, rfl, rfl⟩
theorem d_X7_ahead_56 : nD YX7_ahead 56 (.lstore 5) 2 58 7 := ⟨by decide +kernel, rfl, rfl⟩
theorem d_X7_ahead_58 : nD YX7_ahead 58 (.lload 5) 2 60 7 := ⟨by decide +kernel, rfl, rfl⟩
theorem d_X7_ahead_60 : nD YX7_ahead 60 (.ldc2_w 121) 3 63 7 := ⟨by decide +kernel, rfl, rfl⟩
theorem d_X7_ahead_63 : nD YX7_ahead 63 (.lcmp) 1 64 7 := ⟨by decide +kernel, rfl, rfl⟩
theorem d_X7_ahead_64 : nD YX7_ahead 64 (.ifCond .le 7) 3 67 7 := ⟨by decide +kernel, rfl, rfl⟩
theorem d_X7_ahead_67 : nD YX7_ahead 67 (.ldc2_w 115) 3 70 7 := ⟨by decide +kernel, rfl, rfl⟩
theorem d_X7_ahead_70 : nD YX7_ahead 70 (.lreturn) 1 71 7 := ⟨by decide +kernel, rfl, rfl⟩
theorem d_X7_ahead_71 : nD YX7_ahead 71 (.iinc 7 1) 3 74 7 := ⟨by decide +kernel, rfl, rfl⟩
theorem d_X7_ahead_74 : nD YX7_ahead 74 (.goto (-32)) 3 77 7 := ⟨by decide +kernel, rfl, rfl⟩
theorem d_X7_ahead_77 : nD YX7_ahead 77 (.lload 5) 2 79 7 := ⟨by decide +kernel, rfl, rfl⟩
theorem d_X7_ahead_79 : nD YX7_ahead 79 (.lreturn) 1 80 7 := ⟨by decide +kernel, rfl, rfl⟩
theorem d_X7_meshes_0 : nD YX7_meshes 0 (.aload_n 0) 1 1 7 := ⟨by decide +kernel, rfl, rfl⟩
theorem d_X7_meshes_1 : nD YX7_meshes 1 (.iload_n 1) 1 2 7 := ⟨by decide +kernel, rfl, rfl⟩
theorem d_X7_meshes_2 : nD YX7_meshes 2 (.invokevirtual 85) 3 5 7 := ⟨by decide +kernel, rfl, rfl⟩
theorem d_X7_meshes_5 : nD YX7_meshes 5 (.astore_n 3) 1 6 7 := ⟨by decide +kernel, rfl, rfl⟩
theorem d_X7_meshes_6 : nD YX7_meshes 6 (.aload_n 3) 1 7 7 := ⟨by decide +kernel, rfl, rfl⟩
theorem d_X7_meshes_7 : nD YX7_meshes 7 (.ifnonnull 7) 3 10 7 := ⟨by decide +kernel, rfl, rfl⟩
theorem d_X7_meshes_10 : nD YX7_meshes 10 (.aconst_null) 1 11 7 := ⟨by decide +kernel, rfl, rfl⟩
theorem d_X7_meshes_11 : nD YX7_meshes 11 (.goto 8) 3 14 7 := ⟨by decide +kernel, rfl, rfl⟩
theorem d_X7_meshes_14 : nD YX7_meshes 14 (.aload_n 3) 1 15 7 := ⟨by decide +kernel, rfl, rfl⟩
theorem d_X7_meshes_15 : nD YX7_meshes 15 (.iload_n 2) 1 16 7 := ⟨by decide +kernel, rfl, rfl⟩
theorem d_X7_meshes_16 : nD YX7_meshes 16 (.invokevirtual 123) 3 19 7 := ⟨by decide +kernel, rfl, rfl⟩
theorem d_X7_meshes_19 : nD YX7_meshes 19 (.astore 4) 2 21 7 := ⟨by decide +kernel, rfl, rfl⟩
theorem d_X7_meshes_21 : nD YX7_meshes 21 (.aload 4) 2 23 7 := ⟨by decide +kernel, rfl, rfl⟩
theorem d_X7_meshes_23 : nD YX7_meshes 23 (.ifnonnull 7) 3 26 7 := ⟨by decide +kernel, rfl, rfl⟩
theorem d_X7_meshes_26 : nD YX7_meshes 26 (.iconst (-1)) 1 27 7 := ⟨by decide +kernel, rfl, rfl⟩
theorem d_X7_meshes_27 : nD YX7_meshes 27 (.goto 8) 3 30 7 := ⟨by decide +kernel, rfl, rfl⟩
theorem d_X7_meshes_30 : nD YX7_meshes 30 (.aload 4) 2 32 7 := ⟨by decide +kernel, rfl, rfl⟩
theorem d_X7_meshes_32 : nD YX7_meshes 32 (.getfield 127) 3 35 7 := ⟨by decide +kernel, rfl, rfl⟩
theorem d_X7_meshes_35 : nD YX7_meshes 35 (.ireturn) 1 36 7 := ⟨by decide +kernel, rfl, rfl⟩
theorem d_X7_of_0 : nD YX7_of 0 (.aload_n 0) 1 1 7 := ⟨by decide +kernel, rfl, rfl⟩
theorem d_X7_of_1 : nD YX7_of 1 (.iload_n 1) 1 2 7 := ⟨by decide +kernel, rfl, rfl⟩
theorem d_X7_of_2 : nD YX7_of 2 (.invokevirtual 85) 3 5 7 := ⟨by decide +kernel, rfl, rfl⟩
theorem d_X7_of_5 : nD YX7_of 5 (.astore 5) 2 7 7 := ⟨by decide +kernel, rfl, rfl⟩
theorem d_X7_of_7 : nD YX7_of 7 (.aload 5) 2 9 7 := ⟨by decide +kernel, rfl, rfl⟩
theorem d_X7_of_9 : nD YX7_of 9 (.ifnonnull 7) 3 12 7 := ⟨by decide +kernel, rfl, rfl⟩
theorem d_X7_of_12 : nD YX7_of 12 (.aconst_null) 1 13 7 := ⟨by decide +kernel, rfl, rfl⟩
theorem d_X7_of_13 : nD YX7_of 13 (.goto 10) 3 16 7 := ⟨by decide +kernel, rfl, rfl⟩
theorem d_X7_of_16 : nD YX7_of 16 (.aload 5) 2 18 7 := ⟨by decide +kernel, rfl, rfl⟩
theorem d_X7_of_18 : nD YX7_of 18 (.iload_n 2) 1 19 7 := ⟨by decide +kernel, rfl, rfl⟩
theorem d_X7_of_19 : nD YX7_of 19 (.iload_n 3) 1 20 7 := ⟨by decide +kernel, rfl, rfl⟩
theorem d_X7_of_20 : nD YX7_of 20 (.invokevirtual 130) 3 23 7 := ⟨by decide +kernel, rfl, rfl⟩
theorem d_X7_of_23 : nD YX7_of 23 (.astore 6) 2 25 7 := ⟨by decide +kernel, rfl, rfl⟩
theorem d_X7_of_25 : nD YX7_of 25 (.aload 6) 2 27 7 := ⟨by decide +kernel, rfl, rfl⟩
theorem d_X7_of_27 : nD YX7_of 27 (.ifnonnull 5) 3 30 7 := ⟨by decide +kernel, rfl, rfl⟩
theorem d_X7_of_30 : nD YX7_of 30 (.iconst (-1)) 1 31 7 := ⟨by decide +kernel, rfl, rfl⟩
theorem d_X7_of_31 : nD YX7_of 31 (.ireturn) 1 32 7 := ⟨by decide +kernel, rfl, rfl⟩
theorem d_X7_of_32 : nD YX7_of 32 (.iload 4) 2 34 7 := ⟨by decide +kernel, rfl, rfl⟩
theorem d_X7_of_34 : nD YX7_of 34 (.tableswitch 101 0 6 #[42, 50, 58, 66, 77, 85, 93]) 42 76 7 := ⟨by decide +kernel, rfl, rfl⟩
theorem d_X7_of_76 : nD YX7_of 76 (.aload 6) 2 78 7 := ⟨by decide +kernel, rfl, rfl⟩
theorem d_X7_of_78 : nD YX7_of 78 (.getfield 134) 3 81 7 := ⟨by decide +kernel, rfl, rfl⟩
theorem d_X7_of_81 : nD YX7_of 81 (.iload_n 3) 1 82 7 := ⟨by decide +kernel, rfl, rfl⟩
theorem d_X7_of_82 : nD YX7_of 82 (.iaload) 1 83 7 := ⟨by decide +kernel, rfl, rfl⟩
theorem d_X7_of_83 : nD YX7_of 83 (.ireturn) 1 84 7 := ⟨by decide +kernel, rfl, rfl⟩
theorem d_X7_of_84 : nD YX7_of 84 (.aload 6) 2 86 7 := ⟨by decide +kernel, rfl, rfl⟩
theorem d_X7_of_86 : nD YX7_of 86 (.getfield 137) 3 89 7 := ⟨by decide +kernel, rfl, rfl⟩
theorem d_X7_of_89 : nD YX7_of 89 (.iload_n 3) 1 90 7 := ⟨by decide +kernel, rfl, rfl⟩
theorem d_X7_of_90 : nD YX7_of 90 (.iaload) 1 91 7 := ⟨by decide +kernel, rfl, rfl⟩
theorem d_X7_of_91 : nD YX7_of 91 (.ireturn) 1 92 7 := ⟨by decide +kernel, rfl, rfl⟩
theorem d_X7_of_92 : nD YX7_of 92 (.aload 6) 2 94 7 := ⟨by decide +kernel, rfl, rfl⟩
theorem d_X7_of_94 : nD YX7_of 94 (.getfield 140) 3 97 7 := ⟨by decide +kernel, rfl, rfl⟩
theorem d_X7_of_97 : nD YX7_of 97 (.iload_n 3) 1 98 7 := ⟨by decide +kernel, rfl, rfl⟩
theorem d_X7_of_98 : nD YX7_of 98 (.iaload) 1 99 7 := ⟨by decide +kernel, rfl, rfl⟩
theorem d_X7_of_99 : nD YX7_of 99 (.ireturn) 1 100 7 := ⟨by decide +kernel, rfl, rfl⟩
theorem d_X7_of_100 : nD YX7_of 100 (.aload 6) 2 102 7 := ⟨by decide +kernel, rfl, rfl⟩
theorem d_X7_of_102 : nD YX7_of 102 (.getfield 143) 3 105 7 := ⟨by decide +kernel, rfl, rfl⟩
theorem d_X7_of_105 : nD YX7_of 105 (.iload_n 3) 1 106 7 := ⟨by decide +kernel, rfl, rfl⟩
theorem d_X7_of_106 : nD YX7_of 106 (.iaload) 1 107 7 := ⟨by decide +kernel, rfl, rfl⟩
theorem d_X7_of_107 : nD YX7_of 107 (.invokestatic 146) 3 110 7 := ⟨by decide +kernel, rfl, rfl⟩
theorem d_X7_of_110 : nD YX7_of 110 (.ireturn) 1 111 7 := ⟨by decide +kernel, rfl, rfl⟩
theorem d_X7_of_111 : nD YX7_of 111 (.aload 6) 2 113 7 := ⟨by decide +kernel, rfl, rfl⟩
theorem d_X7_of_113 : nD YX7_of 113 (.iload_n 3) 1 114 7 := ⟨by decide +kernel, rfl, rfl⟩
theorem d_X7_of_114 : nD YX7_of 114 (.iconst 0) 1 115 7 := ⟨by decide +kernel, rfl, rfl⟩
theorem d_X7_of_115 : nD YX7_of 115 (.invokevirtual 152) 3 118 7 := ⟨by decide +kernel, rfl, rfl⟩
theorem d_X7_of_118 : nD YX7_of 118 (.ireturn) 1 119 7 := ⟨by decide +kernel, rfl, rfl⟩
theorem d_X7_of_119 : nD YX7_of 119 (.aload 6) 2 121 7 := ⟨by decide +kernel, rfl, rfl⟩
theorem d_X7_of_121 : nD YX7_of 121 (.getfield 156) 3 124 7 := ⟨by decide +kernel, rfl, rfl⟩
theorem d_X7_of_124 : nD YX7_of 124 (.iload_n 3) 1 125 7 := ⟨by decide +kernel, rfl, rfl⟩
theorem d_X7_of_125 : nD YX7_of 125 (.iaload) 1 126 7 := ⟨by decide +kernel, rfl, rfl⟩
theorem d_X7_of_126 : nD YX7_of 126 (.ireturn) 1 127 7 := ⟨by decide +kernel, rfl, rfl⟩
theorem d_X7_of_127 : nD YX7_of 127 (.aload 5) 2 129 7 := ⟨by decide +kernel, rfl, rfl⟩
theorem d_X7_of_129 : nD YX7_of 129 (.iload_n 2) 1 130 7 := ⟨by decide +kernel, rfl, rfl⟩
theorem d_X7_of_130 : nD YX7_of 130 (.iload_n 3) 1 131 7 := ⟨by decide +kernel, rfl, rfl⟩
theorem d_X7_of_131 : nD YX7_of 131 (.invokevirtual 159) 3 134 7 := ⟨by decide +kernel, rfl, rfl⟩
theorem d_X7_of_134 : nD YX7_of 134 (.ireturn) 1 135 7 := ⟨by decide +kernel, rfl, rfl⟩
theorem d_X7_of_135 : nD YX7_of 135 (.iload 4) 2 137 7 := ⟨by decide +kernel, rfl, rfl⟩
theorem d_X7_of_137 : nD YX7_of 137 (.bipush 10) 2 139 7 := ⟨by decide +kernel, rfl, rfl⟩
theorem d_X7_of_139 : nD YX7_of 139 (.if_icmp .ge 7) 3 142 7 := ⟨by decide +kernel, rfl, rfl⟩
theorem d_X7_of_142 : nD YX7_of 142 (.iconst (-1)) 1 143 7 := ⟨by decide +kernel, rfl, rfl⟩
theorem d_X7_of_143 : nD YX7_of 143 (.goto 14) 3 146 7 := ⟨by decide +kernel, rfl, rfl⟩
theorem d_X7_of_146 : nD YX7_of 146 (.aload 6) 2 148 7 := ⟨by decide +kernel, rfl, rfl⟩
theorem d_X7_of_148 : nD YX7_of 148 (.iload_n 3) 1 149 7 := ⟨by decide +kernel, rfl, rfl⟩
theorem d_X7_of_149 : nD YX7_of 149 (.iload 4) 2 151 7 := ⟨by decide +kernel, rfl, rfl⟩
theorem d_X7_of_151 : nD YX7_of 151 (.bipush 10) 2 153 7 := ⟨by decide +kernel, rfl, rfl⟩
theorem d_X7_of_153 : nD YX7_of 153 (.isub) 1 154 7 := ⟨by decide +kernel, rfl, rfl⟩
theorem d_X7_of_154 : nD YX7_of 154 (.invokevirtual 152) 3 157 7 := ⟨by decide +kernel, rfl, rfl⟩
theorem d_X7_of_157 : nD YX7_of 157 (.ireturn) 1 158 7 := ⟨by decide +kernel, rfl, rfl⟩
theorem d_X7_panelOf_0 : nD YX7_panelOf 0 (.aload_n 0) 1 1 7 := ⟨by decide +kernel, rfl, rfl⟩
theorem d_X7_panelOf_1 : nD YX7_panelOf 1 (.iload_n 1) 1 2 7 := ⟨by decide +kernel, rfl, rfl⟩
theorem d_X7_panelOf_2 : nD YX7_panelOf 2 (.invokevirtual 85) 3 5 7 := ⟨by decide +kernel, rfl, rfl⟩
theorem d_X7_panelOf_5 : nD YX7_panelOf 5 (.astore_n 3) 1 6 7 := ⟨by decide +kernel, rfl, rfl⟩
theorem d_X7_panelOf_6 : nD YX7_panelOf 6 (.aload_n 3) 1 7 7 := ⟨by decide +kernel, rfl, rfl⟩
theorem d_X7_panelOf_7 : nD YX7_panelOf 7 (.ifnonnull 5) 3 10 7 := ⟨by decide +kernel, rfl, rfl⟩
theorem d_X7_panelOf_10 : nD YX7_panelOf 10 (.iconst (-1)) 1 11 7 := ⟨by decide +kernel, rfl, rfl⟩
theorem d_X7_panelOf_11 : nD YX7_panelOf 11 (.ireturn) 1 12 7 := ⟨by decide +kernel, rfl, rfl⟩
theorem d_X7_panelOf_12 : nD YX7_panelOf 12 (.iload_n 2) 1 13 7 := ⟨by decide +kernel, rfl, rfl⟩
theorem d_X7_panelOf_13 : nD YX7_panelOf 13 (.tableswitch 60 0 4 #[35, 40, 45, 50, 55]) 35 48 7 := ⟨by decide +kernel, rfl, rfl⟩
end
section
theorem d_X7_panelOf_48 : nD YX7_panelOf 48 (.aload_n 3) 1 49 7 := ⟨by decide +kernel, rfl, rfl⟩
theorem d_X7_panelOf_49 : nD YX7_panelOf 49 (.getfield 162) 3 52 7 := ⟨by decide +kernel, rfl, rfl⟩
theorem d_X7_panelOf_52 : nD YX7_panelOf 52 (.ireturn) 1 53 7 := ⟨by decide +kernel, rfl, rfl⟩
theorem d_X7_panelOf_53 : nD YX7_panelOf 53 (.aload_n 3) 1 54 7 := ⟨by decide +kernel, rfl, rfl⟩
theorem d_X7_panelOf_54 : nD YX7_panelOf 54 (.getfield 165) 3 57 7 := ⟨by decide +kernel, rfl, rfl⟩
theorem d_X7_panelOf_57 : nD YX7_panelOf 57 (.ireturn) 1 58 7 := ⟨by decide +kernel, rfl, rfl⟩
theorem d_X7_panelOf_58 : nD YX7_panelOf 58 (.aload_n 3) 1 59 7 := ⟨by decide +kernel, rfl, rfl⟩
theorem d_X7_panelOf_59 : nD YX7_panelOf 59 (.getfield 168) 3 62 7 := ⟨by decide +kernel, rfl, rfl⟩
theorem d_X7_panelOf_62 : nD YX7_panelOf 62 (.ireturn) 1 63 7 := ⟨by decide +kernel, rfl, rfl⟩
theorem d_X7_panelOf_63 : nD YX7_panelOf 63 (.aload_n 3) 1 64 7 := ⟨by decide +kernel, rfl, rfl⟩
theorem d_X7_panelOf_64 : nD YX7_panelOf 64 (.getfield 171) 3 67 7 := ⟨by decide +kernel, rfl, rfl⟩
theorem d_X7_panelOf_67 : nD YX7_panelOf 67 (.ireturn) 1 68 7 := ⟨by decide +kernel, rfl, rfl⟩
theorem d_X7_panelOf_68 : nD YX7_panelOf 68 (.aload_n 3) 1 69 7 := ⟨by decide +kernel, rfl, rfl⟩
theorem d_X7_panelOf_69 : nD YX7_panelOf 69 (.getfield 174) 3 72 7 := ⟨by decide +kernel, rfl, rfl⟩
theorem d_X7_panelOf_72 : nD YX7_panelOf 72 (.ireturn) 1 73 7 := ⟨by decide +kernel, rfl, rfl⟩
theorem d_X7_panelOf_73 : nD YX7_panelOf 73 (.aload_n 3) 1 74 7 := ⟨by decide +kernel, rfl, rfl⟩
theorem d_X7_panelOf_74 : nD YX7_panelOf 74 (.iload_n 2) 1 75 7 := ⟨by decide +kernel, rfl, rfl⟩
theorem d_X7_panelOf_75 : nD YX7_panelOf 75 (.invokevirtual 177) 3 78 7 := ⟨by decide +kernel, rfl, rfl⟩
theorem d_X7_panelOf_78 : nD YX7_panelOf 78 (.ireturn) 1 79 7 := ⟨by decide +kernel, rfl, rfl⟩
theorem d_X7_count_0 : nD YX7_count 0 (.iload_n 1) 1 1 7 := ⟨by decide +kernel, rfl, rfl⟩
theorem d_X7_count_1 : nD YX7_count 1 (.tableswitch 45 0 2 #[27, 32, 37]) 27 28 7 := ⟨by decide +kernel, rfl, rfl⟩
theorem d_X7_count_28 : nD YX7_count 28 (.aload_n 0) 1 29 7 := ⟨by decide +kernel, rfl, rfl⟩
theorem d_X7_count_29 : nD YX7_count 29 (.getfield 61) 3 32 7 := ⟨by decide +kernel, rfl, rfl⟩
theorem d_X7_count_32 : nD YX7_count 32 (.ireturn) 1 33 7 := ⟨by decide +kernel, rfl, rfl⟩
theorem d_X7_count_33 : nD YX7_count 33 (.aload_n 0) 1 34 7 := ⟨by decide +kernel, rfl, rfl⟩
theorem d_X7_count_34 : nD YX7_count 34 (.getfield 19) 3 37 7 := ⟨by decide +kernel, rfl, rfl⟩
theorem d_X7_count_37 : nD YX7_count 37 (.ireturn) 1 38 7 := ⟨by decide +kernel, rfl, rfl⟩
theorem d_X7_count_38 : nD YX7_count 38 (.aload_n 0) 1 39 7 := ⟨by decide +kernel, rfl, rfl⟩
theorem d_X7_count_39 : nD YX7_count 39 (.getfield 36) 3 42 7 := ⟨by decide +kernel, rfl, rfl⟩
theorem d_X7_count_42 : nD YX7_count 42 (.getfield 180) 3 45 7 := ⟨by decide +kernel, rfl, rfl⟩
theorem d_X7_count_45 : nD YX7_count 45 (.ireturn) 1 46 7 := ⟨by decide +kernel, rfl, rfl⟩
theorem d_X7_count_46 : nD YX7_count 46 (.iconst (-1)) 1 47 7 := ⟨by decide +kernel, rfl, rfl⟩
theorem d_X7_count_47 : nD YX7_count 47 (.ireturn) 1 48 7 := ⟨by decide +kernel, rfl, rfl⟩
theorem d_X7_side_0 : nD YX7_side 0 (.aload_n 0) 1 1 7 := ⟨by decide +kernel, rfl, rfl⟩
theorem d_X7_side_1 : nD YX7_side 1 (.iload_n 1) 1 2 7 := ⟨by decide +kernel, rfl, rfl⟩
theorem d_X7_side_2 : nD YX7_side 2 (.invokevirtual 85) 3 5 7 := ⟨by decide +kernel, rfl, rfl⟩
theorem d_X7_side_5 : nD YX7_side 5 (.astore 6) 2 7 7 := ⟨by decide +kernel, rfl, rfl⟩
theorem d_X7_side_7 : nD YX7_side 7 (.aload 6) 2 9 7 := ⟨by decide +kernel, rfl, rfl⟩
theorem d_X7_side_9 : nD YX7_side 9 (.ifnonnull 7) 3 12 7 := ⟨by decide +kernel, rfl, rfl⟩
theorem d_X7_side_12 : nD YX7_side 12 (.aconst_null) 1 13 7 := ⟨by decide +kernel, rfl, rfl⟩
theorem d_X7_side_13 : nD YX7_side 13 (.goto 10) 3 16 7 := ⟨by decide +kernel, rfl, rfl⟩
theorem d_X7_side_16 : nD YX7_side 16 (.aload 6) 2 18 7 := ⟨by decide +kernel, rfl, rfl⟩
theorem d_X7_side_18 : nD YX7_side 18 (.iload_n 2) 1 19 7 := ⟨by decide +kernel, rfl, rfl⟩
theorem d_X7_side_19 : nD YX7_side 19 (.iload_n 3) 1 20 7 := ⟨by decide +kernel, rfl, rfl⟩
theorem d_X7_side_20 : nD YX7_side 20 (.invokevirtual 130) 3 23 7 := ⟨by decide +kernel, rfl, rfl⟩
theorem d_X7_side_23 : nD YX7_side 23 (.astore 7) 2 25 7 := ⟨by decide +kernel, rfl, rfl⟩
theorem d_X7_side_25 : nD YX7_side 25 (.aload 7) 2 27 7 := ⟨by decide +kernel, rfl, rfl⟩
theorem d_X7_side_27 : nD YX7_side 27 (.ifnull 20) 3 30 7 := ⟨by decide +kernel, rfl, rfl⟩
theorem d_X7_side_30 : nD YX7_side 30 (.iload 4) 2 32 7 := ⟨by decide +kernel, rfl, rfl⟩
theorem d_X7_side_32 : nD YX7_side 32 (.ifCond .lt 15) 3 35 7 := ⟨by decide +kernel, rfl, rfl⟩
theorem d_X7_side_35 : nD YX7_side 35 (.iload 4) 2 37 7 := ⟨by decide +kernel, rfl, rfl⟩
theorem d_X7_side_37 : nD YX7_side 37 (.aload 7) 2 39 7 := ⟨by decide +kernel, rfl, rfl⟩
theorem d_X7_side_39 : nD YX7_side 39 (.getfield 140) 3 42 7 := ⟨by decide +kernel, rfl, rfl⟩
theorem d_X7_side_42 : nD YX7_side 42 (.iload_n 3) 1 43 7 := ⟨by decide +kernel, rfl, rfl⟩
theorem d_X7_side_43 : nD YX7_side 43 (.iaload) 1 44 7 := ⟨by decide +kernel, rfl, rfl⟩
theorem d_X7_side_44 : nD YX7_side 44 (.if_icmp .lt 5) 3 47 7 := ⟨by decide +kernel, rfl, rfl⟩
theorem d_X7_side_47 : nD YX7_side 47 (.iconst 0) 1 48 7 := ⟨by decide +kernel, rfl, rfl⟩
theorem d_X7_side_48 : nD YX7_side 48 (.ireturn) 1 49 7 := ⟨by decide +kernel, rfl, rfl⟩
theorem d_X7_side_49 : nD YX7_side 49 (.aload 7) 2 51 7 := ⟨by decide +kernel, rfl, rfl⟩
theorem d_X7_side_51 : nD YX7_side 51 (.iload_n 3) 1 52 7 := ⟨by decide +kernel, rfl, rfl⟩
theorem d_X7_side_52 : nD YX7_side 52 (.iload 4) 2 54 7 := ⟨by decide +kernel, rfl, rfl⟩
theorem d_X7_side_54 : nD YX7_side 54 (.iload 5) 2 56 7 := ⟨by decide +kernel, rfl, rfl⟩
theorem d_X7_side_56 : nD YX7_side 56 (.invokevirtual 183) 3 59 7 := ⟨by decide +kernel, rfl, rfl⟩
theorem d_X7_side_59 : nD YX7_side 59 (.iconst 1) 1 60 7 := ⟨by decide +kernel, rfl, rfl⟩
theorem d_X7_side_60 : nD YX7_side 60 (.ireturn) 1 61 7 := ⟨by decide +kernel, rfl, rfl⟩
theorem d_X7_cut_0 : nD YX7_cut 0 (.aload_n 0) 1 1 7 := ⟨by decide +kernel, rfl, rfl⟩
theorem d_X7_cut_1 : nD YX7_cut 1 (.iload_n 1) 1 2 7 := ⟨by decide +kernel, rfl, rfl⟩
theorem d_X7_cut_2 : nD YX7_cut 2 (.invokevirtual 85) 3 5 7 := ⟨by decide +kernel, rfl, rfl⟩
theorem d_X7_cut_5 : nD YX7_cut 5 (.astore 4) 2 7 7 := ⟨by decide +kernel, rfl, rfl⟩
theorem d_X7_cut_7 : nD YX7_cut 7 (.aload 4) 2 9 7 := ⟨by decide +kernel, rfl, rfl⟩
theorem d_X7_cut_9 : nD YX7_cut 9 (.ifnull 13) 3 12 7 := ⟨by decide +kernel, rfl, rfl⟩
theorem d_X7_cut_12 : nD YX7_cut 12 (.aload 4) 2 14 7 := ⟨by decide +kernel, rfl, rfl⟩
theorem d_X7_cut_14 : nD YX7_cut 14 (.iload_n 2) 1 15 7 := ⟨by decide +kernel, rfl, rfl⟩
theorem d_X7_cut_15 : nD YX7_cut 15 (.iload_n 3) 1 16 7 := ⟨by decide +kernel, rfl, rfl⟩
theorem d_X7_cut_16 : nD YX7_cut 16 (.invokevirtual 130) 3 19 7 := ⟨by decide +kernel, rfl, rfl⟩
theorem d_X7_cut_19 : nD YX7_cut 19 (.ifnonnull 5) 3 22 7 := ⟨by decide +kernel, rfl, rfl⟩
theorem d_X7_cut_22 : nD YX7_cut 22 (.iconst (-1)) 1 23 7 := ⟨by decide +kernel, rfl, rfl⟩
theorem d_X7_cut_23 : nD YX7_cut 23 (.ireturn) 1 24 7 := ⟨by decide +kernel, rfl, rfl⟩
theorem d_X7_cut_24 : nD YX7_cut 24 (.aload 4) 2 26 7 := ⟨by decide +kernel, rfl, rfl⟩
theorem d_X7_cut_26 : nD YX7_cut 26 (.iload_n 2) 1 27 7 := ⟨by decide +kernel, rfl, rfl⟩
theorem d_X7_cut_27 : nD YX7_cut 27 (.iload_n 3) 1 28 7 := ⟨by decide +kernel, rfl, rfl⟩
theorem d_X7_cut_28 : nD YX7_cut 28 (.invokevirtual 187) 3 31 7 := ⟨by decide +kernel, rfl, rfl⟩
theorem d_X7_cut_31 : nD YX7_cut 31 (.ireturn) 1 32 7 := ⟨by decide +kernel, rfl, rfl⟩
theorem d_X7_tear_0 : nD YX7_tear 0 (.aload_n 0) 1 1 7 := ⟨by decide +kernel, rfl, rfl⟩
theorem d_X7_tear_1 : nD YX7_tear 1 (.iload_n 1) 1 2 7 := ⟨by decide +kernel, rfl, rfl⟩
theorem d_X7_tear_2 : nD YX7_tear 2 (.invokevirtual 85) 3 5 7 := ⟨by decide +kernel, rfl, rfl⟩
theorem d_X7_tear_5 : nD YX7_tear 5 (.astore_n 3) 1 6 7 := ⟨by decide +kernel, rfl, rfl⟩
theorem d_X7_tear_6 : nD YX7_tear 6 (.aload_n 3) 1 7 7 := ⟨by decide +kernel, rfl, rfl⟩
theorem d_X7_tear_7 : nD YX7_tear 7 (.ifnonnull 7) 3 10 7 := ⟨by decide +kernel, rfl, rfl⟩
theorem d_X7_tear_10 : nD YX7_tear 10 (.aconst_null) 1 11 7 := ⟨by decide +kernel, rfl, rfl⟩
theorem d_X7_tear_11 : nD YX7_tear 11 (.goto 8) 3 14 7 := ⟨by decide +kernel, rfl, rfl⟩
theorem d_X7_tear_14 : nD YX7_tear 14 (.aload_n 3) 1 15 7 := ⟨by decide +kernel, rfl, rfl⟩
theorem d_X7_tear_15 : nD YX7_tear 15 (.iload_n 2) 1 16 7 := ⟨by decide +kernel, rfl, rfl⟩
theorem d_X7_tear_16 : nD YX7_tear 16 (.invokevirtual 123) 3 19 7 := ⟨by decide +kernel, rfl, rfl⟩
theorem d_X7_tear_19 : nD YX7_tear 19 (.astore 4) 2 21 7 := ⟨by decide +kernel, rfl, rfl⟩
theorem d_X7_tear_21 : nD YX7_tear 21 (.aload 4) 2 23 7 := ⟨by decide +kernel, rfl, rfl⟩
theorem d_X7_tear_23 : nD YX7_tear 23 (.ifnull 11) 3 26 7 := ⟨by decide +kernel, rfl, rfl⟩
theorem d_X7_tear_26 : nD YX7_tear 26 (.aload 4) 2 28 7 := ⟨by decide +kernel, rfl, rfl⟩
theorem d_X7_tear_28 : nD YX7_tear 28 (.getfield 127) 3 31 7 := ⟨by decide +kernel, rfl, rfl⟩
theorem d_X7_tear_31 : nD YX7_tear 31 (.ifCond .ne 5) 3 34 7 := ⟨by decide +kernel, rfl, rfl⟩
theorem d_X7_tear_34 : nD YX7_tear 34 (.iconst 0) 1 35 7 := ⟨by decide +kernel, rfl, rfl⟩
theorem d_X7_tear_35 : nD YX7_tear 35 (.ireturn) 1 36 7 := ⟨by decide +kernel, rfl, rfl⟩
theorem d_X7_tear_36 : nD YX7_tear 36 (.aload 4) 2 38 7 := ⟨by decide +kernel, rfl, rfl⟩
theorem d_X7_tear_38 : nD YX7_tear 38 (.iconst 0) 1 39 7 := ⟨by decide +kernel, rfl, rfl⟩
theorem d_X7_tear_39 : nD YX7_tear 39 (.putfield 127) 3 42 7 := ⟨by decide +kernel, rfl, rfl⟩
theorem d_X7_tear_42 : nD YX7_tear 42 (.aload_n 3) 1 43 7 := ⟨by decide +kernel, rfl, rfl⟩
theorem d_X7_tear_43 : nD YX7_tear 43 (.iload_n 2) 1 44 7 := ⟨by decide +kernel, rfl, rfl⟩
theorem d_X7_tear_44 : nD YX7_tear 44 (.iconst 1) 1 45 7 := ⟨by decide +kernel, rfl, rfl⟩
theorem d_X7_tear_45 : nD YX7_tear 45 (.iadd) 1 46 7 := ⟨by decide +kernel, rfl, rfl⟩
theorem d_X7_tear_46 : nD YX7_tear 46 (.invokevirtual 123) 3 49 7 := ⟨by decide +kernel, rfl, rfl⟩
theorem d_X7_tear_49 : nD YX7_tear 49 (.astore 5) 2 51 7 := ⟨by decide +kernel, rfl, rfl⟩
theorem d_X7_tear_51 : nD YX7_tear 51 (.aload 5) 2 53 7 := ⟨by decide +kernel, rfl, rfl⟩
theorem d_X7_tear_53 : nD YX7_tear 53 (.ifnull 8) 3 56 7 := ⟨by decide +kernel, rfl, rfl⟩
theorem d_X7_tear_56 : nD YX7_tear 56 (.aload 5) 2 58 7 := ⟨by decide +kernel, rfl, rfl⟩
theorem d_X7_tear_58 : nD YX7_tear 58 (.invokevirtual 190) 3 61 7 := ⟨by decide +kernel, rfl, rfl⟩
theorem d_X7_tear_61 : nD YX7_tear 61 (.iconst 1) 1 62 7 := ⟨by decide +kernel, rfl, rfl⟩
theorem d_X7_tear_62 : nD YX7_tear 62 (.ireturn) 1 63 7 := ⟨by decide +kernel, rfl, rfl⟩
theorem d_X7_needle_0 : nD YX7_needle 0 (.aload_n 0) 1 1 7 := ⟨by decide +kernel, rfl, rfl⟩
theorem d_X7_needle_1 : nD YX7_needle 1 (.iload_n 1) 1 2 7 := ⟨by decide +kernel, rfl, rfl⟩
theorem d_X7_needle_2 : nD YX7_needle 2 (.invokevirtual 85) 3 5 7 := ⟨by decide +kernel, rfl, rfl⟩
theorem d_X7_needle_5 : nD YX7_needle 5 (.astore 5) 2 7 7 := ⟨by decide +kernel, rfl, rfl⟩
theorem d_X7_needle_7 : nD YX7_needle 7 (.aload 5) 2 9 7 := ⟨by decide +kernel, rfl, rfl⟩
theorem d_X7_needle_9 : nD YX7_needle 9 (.ifnonnull 7) 3 12 7 := ⟨by decide +kernel, rfl, rfl⟩
theorem d_X7_needle_12 : nD YX7_needle 12 (.aconst_null) 1 13 7 := ⟨by decide +kernel, rfl, rfl⟩
theorem d_X7_needle_13 : nD YX7_needle 13 (.goto 10) 3 16 7 := ⟨by decide +kernel, rfl, rfl⟩
theorem d_X7_needle_16 : nD YX7_needle 16 (.aload 5) 2 18 7 := ⟨by decide +kernel, rfl, rfl⟩
theorem d_X7_needle_18 : nD YX7_needle 18 (.iload_n 2) 1 19 7 := ⟨by decide +kernel, rfl, rfl⟩
theorem d_X7_needle_19 : nD YX7_needle 19 (.iload_n 3) 1 20 7 := ⟨by decide +kernel, rfl, rfl⟩
theorem d_X7_needle_20 : nD YX7_needle 20 (.invokevirtual 130) 3 23 7 := ⟨by decide +kernel, rfl, rfl⟩
theorem d_X7_needle_23 : nD YX7_needle 23 (.astore 6) 2 25 7 := ⟨by decide +kernel, rfl, rfl⟩
theorem d_X7_needle_25 : nD YX7_needle 25 (.aload 6) 2 27 7 := ⟨by decide +kernel, rfl, rfl⟩
theorem d_X7_needle_27 : nD YX7_needle 27 (.ifnonnull 5) 3 30 7 := ⟨by decide +kernel, rfl, rfl⟩
theorem d_X7_needle_30 : nD YX7_needle 30 (.iconst 0) 1 31 7 := ⟨by decide +kernel, rfl, rfl⟩
theorem d_X7_needle_31 : nD YX7_needle 31 (.ireturn) 1 32 7 := ⟨by decide +kernel, rfl, rfl⟩
theorem d_X7_needle_32 : nD YX7_needle 32 (.aload 6) 2 34 7 := ⟨by decide +kernel, rfl, rfl⟩
theorem d_X7_needle_34 : nD YX7_needle 34 (.getfield 156) 3 37 7 := ⟨by decide +kernel, rfl, rfl⟩
theorem d_X7_needle_37 : nD YX7_needle 37 (.iload_n 3) 1 38 7 := ⟨by decide +kernel, rfl, rfl⟩
theorem d_X7_needle_38 : nD YX7_needle 38 (.iload 4) 2 40 7 := ⟨by decide +kernel, rfl, rfl⟩
theorem d_X7_needle_40 : nD YX7_needle 40 (.ifCond .eq 7) 3 43 7 := ⟨by decide +kernel, rfl, rfl⟩
theorem d_X7_needle_43 : nD YX7_needle 43 (.iconst 1) 1 44 7 := ⟨by decide +kernel, rfl, rfl⟩
theorem d_X7_needle_44 : nD YX7_needle 44 (.goto 4) 3 47 7 := ⟨by decide +kernel, rfl, rfl⟩
theorem d_X7_needle_47 : nD YX7_needle 47 (.iconst 0) 1 48 7 := ⟨by decide +kernel, rfl, rfl⟩
theorem d_X7_needle_48 : nD YX7_needle 48 (.iastore) 1 49 7 := ⟨by decide +kernel, rfl, rfl⟩
theorem d_X7_needle_49 : nD YX7_needle 49 (.iconst 1) 1 50 7 := ⟨by decide +kernel, rfl, rfl⟩
theorem d_X7_needle_50 : nD YX7_needle 50 (.ireturn) 1 51 7 := ⟨by decide +kernel, rfl, rfl⟩
theorem d_X7_hole_0 : nD YX7_hole 0 (.aload_n 0) 1 1 7 := ⟨by decide +kernel, rfl, rfl⟩
theorem d_X7_hole_1 : nD YX7_hole 1 (.iload_n 1) 1 2 7 := ⟨by decide +kernel, rfl, rfl⟩
theorem d_X7_hole_2 : nD YX7_hole 2 (.invokevirtual 85) 3 5 7 := ⟨by decide +kernel, rfl, rfl⟩
theorem d_X7_hole_5 : nD YX7_hole 5 (.astore 4) 2 7 7 := ⟨by decide +kernel, rfl, rfl⟩
theorem d_X7_hole_7 : nD YX7_hole 7 (.aload 4) 2 9 7 := ⟨by decide +kernel, rfl, rfl⟩
theorem d_X7_hole_9 : nD YX7_hole 9 (.ifnull 13) 3 12 7 := ⟨by decide +kernel, rfl, rfl⟩
theorem d_X7_hole_12 : nD YX7_hole 12 (.aload 4) 2 14 7 := ⟨by decide +kernel, rfl, rfl⟩
theorem d_X7_hole_14 : nD YX7_hole 14 (.iload_n 2) 1 15 7 := ⟨by decide +kernel, rfl, rfl⟩
theorem d_X7_hole_15 : nD YX7_hole 15 (.iload_n 3) 1 16 7 := ⟨by decide +kernel, rfl, rfl⟩
theorem d_X7_hole_16 : nD YX7_hole 16 (.invokevirtual 130) 3 19 7 := ⟨by decide +kernel, rfl, rfl⟩
theorem d_X7_hole_19 : nD YX7_hole 19 (.ifnonnull 5) 3 22 7 := ⟨by decide +kernel, rfl, rfl⟩
theorem d_X7_hole_22 : nD YX7_hole 22 (.iconst (-1)) 1 23 7 := ⟨by decide +kernel, rfl, rfl⟩
theorem d_X7_hole_23 : nD YX7_hole 23 (.ireturn) 1 24 7 := ⟨by decide +kernel, rfl, rfl⟩
theorem d_X7_hole_24 : nD YX7_hole 24 (.aload_n 0) 1 25 7 := ⟨by decide +kernel, rfl, rfl⟩
theorem d_X7_hole_25 : nD YX7_hole 25 (.getfield 26) 3 28 7 := ⟨by decide +kernel, rfl, rfl⟩
theorem d_X7_hole_28 : nD YX7_hole 28 (.aload 4) 2 30 7 := ⟨by decide +kernel, rfl, rfl⟩
theorem d_X7_hole_30 : nD YX7_hole 30 (.iload_n 2) 1 31 7 := ⟨by decide +kernel, rfl, rfl⟩
theorem d_X7_hole_31 : nD YX7_hole 31 (.iload_n 3) 1 32 7 := ⟨by decide +kernel, rfl, rfl⟩
theorem d_X7_hole_32 : nD YX7_hole 32 (.invokevirtual 193) 3 35 7 := ⟨by decide +kernel, rfl, rfl⟩
theorem d_X7_hole_35 : nD YX7_hole 35 (.aload_n 0) 1 36 7 := ⟨by decide +kernel, rfl, rfl⟩
theorem d_X7_hole_36 : nD YX7_hole 36 (.getfield 26) 3 39 7 := ⟨by decide +kernel, rfl, rfl⟩
theorem d_X7_hole_39 : nD YX7_hole 39 (.getfield 197) 3 42 7 := ⟨by decide +kernel, rfl, rfl⟩
theorem d_X7_hole_42 : nD YX7_hole 42 (.ireturn) 1 43 7 := ⟨by decide +kernel, rfl, rfl⟩
theorem d_X7_edge_0 : nD YX7_edge 0 (.aload_n 0) 1 1 7 := ⟨by decide +kernel, rfl, rfl⟩
theorem d_X7_edge_1 : nD YX7_edge 1 (.getfield 26) 3 4 7 := ⟨by decide +kernel, rfl, rfl⟩
theorem d_X7_edge_4 : nD YX7_edge 4 (.iload_n 1) 1 5 7 := ⟨by decide +kernel, rfl, rfl⟩
theorem d_X7_edge_5 : nD YX7_edge 5 (.iload_n 2) 1 6 7 := ⟨by decide +kernel, rfl, rfl⟩
theorem d_X7_edge_6 : nD YX7_edge 6 (.invokevirtual 198) 3 9 7 := ⟨by decide +kernel, rfl, rfl⟩
theorem d_X7_edge_9 : nD YX7_edge 9 (.ireturn) 1 10 7 := ⟨by decide +kernel, rfl, rfl⟩
theorem d_X7_mend_0 : nD YX7_mend 0 (.aload_n 0) 1 1 7 := ⟨by decide +kernel, rfl, rfl⟩
theorem d_X7_mend_1 : nD YX7_mend 1 (.iload_n 1) 1 2 7 := ⟨by decide +kernel, rfl, rfl⟩
theorem d_X7_mend_2 : nD YX7_mend 2 (.invokevirtual 85) 3 5 7 := ⟨by decide +kernel, rfl, rfl⟩
theorem d_X7_mend_5 : nD YX7_mend 5 (.astore 4) 2 7 7 := ⟨by decide +kernel, rfl, rfl⟩
theorem d_X7_mend_7 : nD YX7_mend 7 (.aload 4) 2 9 7 := ⟨by decide +kernel, rfl, rfl⟩
theorem d_X7_mend_9 : nD YX7_mend 9 (.ifnull 13) 3 12 7 := ⟨by decide +kernel, rfl, rfl⟩
theorem d_X7_mend_12 : nD YX7_mend 12 (.aload 4) 2 14 7 := ⟨by decide +kernel, rfl, rfl⟩
theorem d_X7_mend_14 : nD YX7_mend 14 (.iload_n 2) 1 15 7 := ⟨by decide +kernel, rfl, rfl⟩
theorem d_X7_mend_15 : nD YX7_mend 15 (.iload_n 3) 1 16 7 := ⟨by decide +kernel, rfl, rfl⟩
theorem d_X7_mend_16 : nD YX7_mend 16 (.invokevirtual 130) 3 19 7 := ⟨by decide +kernel, rfl, rfl⟩
theorem d_X7_mend_19 : nD YX7_mend 19 (.ifnonnull 5) 3 22 7 := ⟨by decide +kernel, rfl, rfl⟩
theorem d_X7_mend_22 : nD YX7_mend 22 (.iconst (-1)) 1 23 7 := ⟨by decide +kernel, rfl, rfl⟩
theorem d_X7_mend_23 : nD YX7_mend 23 (.ireturn) 1 24 7 := ⟨by decide +kernel, rfl, rfl⟩
theorem d_X7_mend_24 : nD YX7_mend 24 (.aload_n 0) 1 25 7 := ⟨by decide +kernel, rfl, rfl⟩
theorem d_X7_mend_25 : nD YX7_mend 25 (.getfield 30) 3 28 7 := ⟨by decide +kernel, rfl, rfl⟩
theorem d_X7_mend_28 : nD YX7_mend 28 (.aload 4) 2 30 7 := ⟨by decide +kernel, rfl, rfl⟩
theorem d_X7_mend_30 : nD YX7_mend 30 (.iload_n 2) 1 31 7 := ⟨by decide +kernel, rfl, rfl⟩
theorem d_X7_mend_31 : nD YX7_mend 31 (.iload_n 3) 1 32 7 := ⟨by decide +kernel, rfl, rfl⟩
theorem d_X7_mend_32 : nD YX7_mend 32 (.invokevirtual 193) 3 35 7 := ⟨by decide +kernel, rfl, rfl⟩
theorem d_X7_mend_35 : nD YX7_mend 35 (.aload_n 0) 1 36 7 := ⟨by decide +kernel, rfl, rfl⟩
theorem d_X7_mend_36 : nD YX7_mend 36 (.getfield 30) 3 39 7 := ⟨by decide +kernel, rfl, rfl⟩
theorem d_X7_mend_39 : nD YX7_mend 39 (.invokevirtual 201) 3 42 7 := ⟨by decide +kernel, rfl, rfl⟩
theorem d_X7_mend_42 : nD YX7_mend 42 (.istore 5) 2 44 7 := ⟨by decide +kernel, rfl, rfl⟩
theorem d_X7_mend_44 : nD YX7_mend 44 (.iload 5) 2 46 7 := ⟨by decide +kernel, rfl, rfl⟩
theorem d_X7_mend_46 : nD YX7_mend 46 (.iconst 1) 1 47 7 := ⟨by decide +kernel, rfl, rfl⟩
theorem d_X7_mend_47 : nD YX7_mend 47 (.if_icmp .eq 6) 3 50 7 := ⟨by decide +kernel, rfl, rfl⟩
theorem d_X7_mend_50 : nD YX7_mend 50 (.iload 5) 2 52 7 := ⟨by decide +kernel, rfl, rfl⟩
theorem d_X7_mend_52 : nD YX7_mend 52 (.ireturn) 1 53 7 := ⟨by decide +kernel, rfl, rfl⟩
theorem d_X7_mend_53 : nD YX7_mend 53 (.aload_n 0) 1 54 7 := ⟨by decide +kernel, rfl, rfl⟩
theorem d_X7_mend_54 : nD YX7_mend 54 (.getfield 30) 3 57 7 := ⟨by decide +kernel, rfl, rfl⟩
theorem d_X7_mend_57 : nD YX7_mend 57 (.aload 4) 2 59 7 := ⟨by decide +kernel, rfl, rfl⟩
theorem d_X7_mend_59 : nD YX7_mend 59 (.invokevirtual 204) 3 62 7 := ⟨by decide +kernel, rfl, rfl⟩
theorem d_X7_mend_62 : nD YX7_mend 62 (.ifCond .eq 6) 3 65 7 := ⟨by decide +kernel, rfl, rfl⟩
theorem d_X7_mend_65 : nD YX7_mend 65 (.bipush (-2)) 2 67 7 := ⟨by decide +kernel, rfl, rfl⟩
theorem d_X7_mend_67 : nD YX7_mend 67 (.ireturn) 1 68 7 := ⟨by decide +kernel, rfl, rfl⟩
theorem d_X7_mend_68 : nD YX7_mend 68 (.aload_n 0) 1 69 7 := ⟨by decide +kernel, rfl, rfl⟩
theorem d_X7_mend_69 : nD YX7_mend 69 (.getfield 36) 3 72 7 := ⟨by decide +kernel, rfl, rfl⟩
theorem d_X7_mend_72 : nD YX7_mend 72 (.aload 4) 2 74 7 := ⟨by decide +kernel, rfl, rfl⟩
theorem d_X7_mend_74 : nD YX7_mend 74 (.aload_n 0) 1 75 7 := ⟨by decide +kernel, rfl, rfl⟩
theorem d_X7_mend_75 : nD YX7_mend 75 (.getfield 30) 3 78 7 := ⟨by decide +kernel, rfl, rfl⟩
theorem d_X7_mend_78 : nD YX7_mend 78 (.invokevirtual 208) 3 81 7 := ⟨by decide +kernel, rfl, rfl⟩
theorem d_X7_mend_81 : nD YX7_mend 81 (.invokevirtual 211) 3 84 7 := ⟨by decide +kernel, rfl, rfl⟩
theorem d_X7_mend_84 : nD YX7_mend 84 (.iconst 1) 1 85 7 := ⟨by decide +kernel, rfl, rfl⟩
theorem d_X7_mend_85 : nD YX7_mend 85 (.ireturn) 1 86 7 := ⟨by decide +kernel, rfl, rfl⟩
theorem d_X7_way_0 : nD YX7_way 0 (.aload_n 0) 1 1 7 := ⟨by decide +kernel, rfl, rfl⟩
theorem d_X7_way_1 : nD YX7_way 1 (.getfield 36) 3 4 7 := ⟨by decide +kernel, rfl, rfl⟩
theorem d_X7_way_4 : nD YX7_way 4 (.iload_n 1) 1 5 7 := ⟨by decide +kernel, rfl, rfl⟩
theorem d_X7_way_5 : nD YX7_way 5 (.invokevirtual 215) 3 8 7 := ⟨by decide +kernel, rfl, rfl⟩
theorem d_X7_way_8 : nD YX7_way 8 (.ireturn) 1 9 7 := ⟨by decide +kernel, rfl, rfl⟩
theorem d_X7_taper_0 : nD YX7_taper 0 (.iload_n 1) 1 1 7 := ⟨by decide +kernel, rfl, rfl⟩
theorem d_X7_taper_1 : nD YX7_taper 1 (.iconst 1) 1 2 7 := ⟨by decide +kernel, rfl, rfl⟩
theorem d_X7_taper_2 : nD YX7_taper 2 (.sipush 1000) 3 5 7 := ⟨by decide +kernel, rfl, rfl⟩
theorem d_X7_taper_5 : nD YX7_taper 5 (.invokestatic 64) 3 8 7 := ⟨by decide +kernel, rfl, rfl⟩
theorem d_X7_taper_8 : nD YX7_taper 8 (.ifCond .eq 23) 3 11 7 := ⟨by decide +kernel, rfl, rfl⟩
theorem d_X7_taper_11 : nD YX7_taper 11 (.iload_n 2) 1 12 7 := ⟨by decide +kernel, rfl, rfl⟩
theorem d_X7_taper_12 : nD YX7_taper 12 (.iconst 1) 1 13 7 := ⟨by decide +kernel, rfl, rfl⟩
theorem d_X7_taper_13 : nD YX7_taper 13 (.iload_n 1) 1 14 7 := ⟨by decide +kernel, rfl, rfl⟩
theorem d_X7_taper_14 : nD YX7_taper 14 (.invokestatic 64) 3 17 7 := ⟨by decide +kernel, rfl, rfl⟩
theorem d_X7_taper_17 : nD YX7_taper 17 (.ifCond .eq 14) 3 20 7 := ⟨by decide +kernel, rfl, rfl⟩
theorem d_X7_taper_20 : nD YX7_taper 20 (.iload_n 3) 1 21 7 := ⟨by decide +kernel, rfl, rfl⟩
theorem d_X7_taper_21 : nD YX7_taper 21 (.iconst 1) 1 22 7 := ⟨by decide +kernel, rfl, rfl⟩
theorem d_X7_taper_22 : nD YX7_taper 22 (.sipush 400) 3 25 7 := ⟨by decide +kernel, rfl, rfl⟩
theorem d_X7_taper_25 : nD YX7_taper 25 (.invokestatic 64) 3 28 7 := ⟨by decide +kernel, rfl, rfl⟩
theorem d_X7_taper_28 : nD YX7_taper 28 (.ifCond .ne 5) 3 31 7 := ⟨by decide +kernel, rfl, rfl⟩
theorem d_X7_taper_31 : nD YX7_taper 31 (.iconst (-1)) 1 32 7 := ⟨by decide +kernel, rfl, rfl⟩
theorem d_X7_taper_32 : nD YX7_taper 32 (.ireturn) 1 33 7 := ⟨by decide +kernel, rfl, rfl⟩
theorem d_X7_taper_33 : nD YX7_taper 33 (.aload_n 0) 1 34 7 := ⟨by decide +kernel, rfl, rfl⟩
theorem d_X7_taper_34 : nD YX7_taper 34 (.getfield 43) 3 37 7 := ⟨by decide +kernel, rfl, rfl⟩
theorem d_X7_taper_37 : nD YX7_taper 37 (.iload_n 1) 1 38 7 := ⟨by decide +kernel, rfl, rfl⟩
theorem d_X7_taper_38 : nD YX7_taper 38 (.iload_n 2) 1 39 7 := ⟨by decide +kernel, rfl, rfl⟩
theorem d_X7_taper_39 : nD YX7_taper 39 (.isub) 1 40 7 := ⟨by decide +kernel, rfl, rfl⟩
theorem d_X7_taper_40 : nD YX7_taper 40 (.iload_n 3) 1 41 7 := ⟨by decide +kernel, rfl, rfl⟩
theorem d_X7_taper_41 : nD YX7_taper 41 (.invokevirtual 218) 3 44 7 := ⟨by decide +kernel, rfl, rfl⟩
theorem d_X7_taper_44 : nD YX7_taper 44 (.ireturn) 1 45 7 := ⟨by decide +kernel, rfl, rfl⟩
theorem d_X7_cycle_0 : nD YX7_cycle 0 (.aload_n 0) 1 1 7 := ⟨by decide +kernel, rfl, rfl⟩
theorem d_X7_cycle_1 : nD YX7_cycle 1 (.getfield 43) 3 4 7 := ⟨by decide +kernel, rfl, rfl⟩
theorem d_X7_cycle_4 : nD YX7_cycle 4 (.iload_n 1) 1 5 7 := ⟨by decide +kernel, rfl, rfl⟩
theorem d_X7_cycle_5 : nD YX7_cycle 5 (.invokevirtual 221) 3 8 7 := ⟨by decide +kernel, rfl, rfl⟩
theorem d_X7_cycle_8 : nD YX7_cycle 8 (.ireturn) 1 9 7 := ⟨by decide +kernel, rfl, rfl⟩
theorem d_X7_fitTogether_0 : nD YX7_fitTogether 0 (.aload_n 0) 1 1 7 := ⟨by decide +kernel, rfl, rfl⟩
theorem d_X7_fitTogether_1 : nD YX7_fitTogether 1 (.ifnull 21) 3 4 7 := ⟨by decide +kernel, rfl, rfl⟩
theorem d_X7_fitTogether_4 : nD YX7_fitTogether 4 (.aload_n 1) 1 5 7 := ⟨by decide +kernel, rfl, rfl⟩
theorem d_X7_fitTogether_5 : nD YX7_fitTogether 5 (.ifnull 17) 3 8 7 := ⟨by decide +kernel, rfl, rfl⟩
theorem d_X7_fitTogether_8 : nD YX7_fitTogether 8 (.aload_n 0) 1 9 7 := ⟨by decide +kernel, rfl, rfl⟩
theorem d_X7_fitTogether_9 : nD YX7_fitTogether 9 (.getfield 127) 3 12 7 := ⟨by decide +kernel, rfl, rfl⟩
theorem d_X7_fitTogether_12 : nD YX7_fitTogether 12 (.ifCond .eq 10) 3 15 7 := ⟨by decide +kernel, rfl, rfl⟩
theorem d_X7_fitTogether_15 : nD YX7_fitTogether 15 (.aload_n 1) 1 16 7 := ⟨by decide +kernel, rfl, rfl⟩
theorem d_X7_fitTogether_16 : nD YX7_fitTogether 16 (.getfield 127) 3 19 7 := ⟨by decide +kernel, rfl, rfl⟩
theorem d_X7_fitTogether_19 : nD YX7_fitTogether 19 (.ifCond .ne 5) 3 22 7 := ⟨by decide +kernel, rfl, rfl⟩
theorem d_X7_fitTogether_22 : nD YX7_fitTogether 22 (.iconst 0) 1 23 7 := ⟨by decide +kernel, rfl, rfl⟩
theorem d_X7_fitTogether_23 : nD YX7_fitTogether 23 (.ireturn) 1 24 7 := ⟨by decide +kernel, rfl, rfl⟩
theorem d_X7_fitTogether_24 : nD YX7_fitTogether 24 (.aload_n 0) 1 25 7 := ⟨by decide +kernel, rfl, rfl⟩
theorem d_X7_fitTogether_25 : nD YX7_fitTogether 25 (.getfield 127) 3 28 7 := ⟨by decide +kernel, rfl, rfl⟩
theorem d_X7_fitTogether_28 : nD YX7_fitTogether 28 (.iconst 2) 1 29 7 := ⟨by decide +kernel, rfl, rfl⟩
theorem d_X7_fitTogether_29 : nD YX7_fitTogether 29 (.aload_n 1) 1 30 7 := ⟨by decide +kernel, rfl, rfl⟩
theorem d_X7_fitTogether_30 : nD YX7_fitTogether 30 (.getfield 127) 3 33 7 := ⟨by decide +kernel, rfl, rfl⟩
theorem d_X7_fitTogether_33 : nD YX7_fitTogether 33 (.imul) 1 34 7 := ⟨by decide +kernel, rfl, rfl⟩
theorem d_X7_fitTogether_34 : nD YX7_fitTogether 34 (.if_icmp .gt 20) 3 37 7 := ⟨by decide +kernel, rfl, rfl⟩
theorem d_X7_fitTogether_37 : nD YX7_fitTogether 37 (.aload_n 1) 1 38 7 := ⟨by decide +kernel, rfl, rfl⟩
theorem d_X7_fitTogether_38 : nD YX7_fitTogether 38 (.getfield 127) 3 41 7 := ⟨by decide +kernel, rfl, rfl⟩
theorem d_X7_fitTogether_41 : nD YX7_fitTogether 41 (.iconst 2) 1 42 7 := ⟨by decide +kernel, rfl, rfl⟩
theorem d_X7_fitTogether_42 : nD YX7_fitTogether 42 (.aload_n 0) 1 43 7 := ⟨by decide +kernel, rfl, rfl⟩
theorem d_X7_fitTogether_43 : nD YX7_fitTogether 43 (.getfield 127) 3 46 7 := ⟨by decide +kernel, rfl, rfl⟩
theorem d_X7_fitTogether_46 : nD YX7_fitTogether 46 (.imul) 1 47 7 := ⟨by decide +kernel, rfl, rfl⟩
theorem d_X7_fitTogether_47 : nD YX7_fitTogether 47 (.if_icmp .gt 7) 3 50 7 := ⟨by decide +kernel, rfl, rfl⟩
theorem d_X7_fitTogether_50 : nD YX7_fitTogether 50 (.iconst 1) 1 51 7 := ⟨by decide +kernel, rfl, rfl⟩
theorem d_X7_fitTogether_51 : nD YX7_fitTogether 51 (.goto 4) 3 54 7 := ⟨by decide +kernel, rfl, rfl⟩
theorem d_X7_fitTogether_54 : nD YX7_fitTogether 54 (.iconst 0) 1 55 7 := ⟨by decide +kernel, rfl, rfl⟩
theorem d_X7_fitTogether_55 : nD YX7_fitTogether 55 (.ireturn) 1 56 7 := ⟨by decide +kernel, rfl, rfl⟩
theorem d_X7_sew_0 : nD YX7_sew 0 (.aload_n 0) 1 1 7 := ⟨by decide +kernel, rfl, rfl⟩
theorem d_X7_sew_1 : nD YX7_sew 1 (.iload_n 1) 1 2 7 := ⟨by decide +kernel, rfl, rfl⟩
theorem d_X7_sew_2 : nD YX7_sew 2 (.invokevirtual 85) 3 5 7 := ⟨by decide +kernel, rfl, rfl⟩
theorem d_X7_sew_5 : nD YX7_sew 5 (.astore_n 3) 1 6 7 := ⟨by decide +kernel, rfl, rfl⟩
theorem d_X7_sew_6 : nD YX7_sew 6 (.aload_n 0) 1 7 7 := ⟨by decide +kernel, rfl, rfl⟩
theorem d_X7_sew_7 : nD YX7_sew 7 (.iload_n 2) 1 8 7 := ⟨by decide +kernel, rfl, rfl⟩
theorem d_X7_sew_8 : nD YX7_sew 8 (.invokevirtual 85) 3 11 7 := ⟨by decide +kernel, rfl, rfl⟩
theorem d_X7_sew_11 : nD YX7_sew 11 (.astore 4) 2 13 7 := ⟨by decide +kernel, rfl, rfl⟩
theorem d_X7_sew_13 : nD YX7_sew 13 (.aload_n 3) 1 14 7 := ⟨by decide +kernel, rfl, rfl⟩
theorem d_X7_sew_14 : nD YX7_sew 14 (.ifnull 22) 3 17 7 := ⟨by decide +kernel, rfl, rfl⟩
theorem d_X7_sew_17 : nD YX7_sew 17 (.aload 4) 2 19 7 := ⟨by decide +kernel, rfl, rfl⟩
theorem d_X7_sew_19 : nD YX7_sew 19 (.ifnull 17) 3 22 7 := ⟨by decide +kernel, rfl, rfl⟩
theorem d_X7_sew_22 : nD YX7_sew 22 (.iload_n 1) 1 23 7 := ⟨by decide +kernel, rfl, rfl⟩
theorem d_X7_sew_23 : nD YX7_sew 23 (.iload_n 2) 1 24 7 := ⟨by decide +kernel, rfl, rfl⟩
theorem d_X7_sew_24 : nD YX7_sew 24 (.if_icmp .eq 12) 3 27 7 := ⟨by decide +kernel, rfl, rfl⟩
theorem d_X7_sew_27 : nD YX7_sew 27 (.aload_n 0) 1 28 7 := ⟨by decide +kernel, rfl, rfl⟩
theorem d_X7_sew_28 : nD YX7_sew 28 (.getfield 61) 3 31 7 := ⟨by decide +kernel, rfl, rfl⟩
theorem d_X7_sew_31 : nD YX7_sew 31 (.bipush 12) 2 33 7 := ⟨by decide +kernel, rfl, rfl⟩
theorem d_X7_sew_33 : nD YX7_sew 33 (.if_icmp .lt 5) 3 36 7 := ⟨by decide +kernel, rfl, rfl⟩
theorem d_X7_sew_36 : nD YX7_sew 36 (.iconst (-1)) 1 37 7 := ⟨by decide +kernel, rfl, rfl⟩
theorem d_X7_sew_37 : nD YX7_sew 37 (.ireturn) 1 38 7 := ⟨by decide +kernel, rfl, rfl⟩
theorem d_X7_sew_38 : nD YX7_sew 38 (.aload_n 3) 1 39 7 := ⟨by decide +kernel, rfl, rfl⟩
theorem d_X7_sew_39 : nD YX7_sew 39 (.getfield 162) 3 42 7 := ⟨by decide +kernel, rfl, rfl⟩
theorem d_X7_sew_42 : nD YX7_sew 42 (.aload 4) 2 44 7 := ⟨by decide +kernel, rfl, rfl⟩
theorem d_X7_sew_44 : nD YX7_sew 44 (.getfield 162) 3 47 7 := ⟨by decide +kernel, rfl, rfl⟩
theorem d_X7_sew_47 : nD YX7_sew 47 (.iadd) 1 48 7 := ⟨by decide +kernel, rfl, rfl⟩
theorem d_X7_sew_48 : nD YX7_sew 48 (.bipush 20) 2 50 7 := ⟨by decide +kernel, rfl, rfl⟩
theorem d_X7_sew_50 : nD YX7_sew 50 (.if_icmp .gt 19) 3 53 7 := ⟨by decide +kernel, rfl, rfl⟩
theorem d_X7_sew_53 : nD YX7_sew 53 (.aload_n 3) 1 54 7 := ⟨by decide +kernel, rfl, rfl⟩
theorem d_X7_sew_54 : nD YX7_sew 54 (.invokevirtual 93) 3 57 7 := ⟨by decide +kernel, rfl, rfl⟩
theorem d_X7_sew_57 : nD YX7_sew 57 (.aload 4) 2 59 7 := ⟨by decide +kernel, rfl, rfl⟩
theorem d_X7_sew_59 : nD YX7_sew 59 (.iconst 0) 1 60 7 := ⟨by decide +kernel, rfl, rfl⟩
theorem d_X7_sew_60 : nD YX7_sew 60 (.invokevirtual 123) 3 63 7 := ⟨by decide +kernel, rfl, rfl⟩
theorem d_X7_sew_63 : nD YX7_sew 63 (.invokestatic 223) 3 66 7 := ⟨by decide +kernel, rfl, rfl⟩
theorem d_X7_sew_66 : nD YX7_sew 66 (.ifCond .ne 5) 3 69 7 := ⟨by decide +kernel, rfl, rfl⟩
theorem d_X7_sew_69 : nD YX7_sew 69 (.iconst (-1)) 1 70 7 := ⟨by decide +kernel, rfl, rfl⟩
theorem d_X7_sew_70 : nD YX7_sew 70 (.ireturn) 1 71 7 := ⟨by decide +kernel, rfl, rfl⟩
theorem d_X7_sew_71 : nD YX7_sew 71 (.new 9) 3 74 7 := ⟨by decide +kernel, rfl, rfl⟩
theorem d_X7_sew_74 : nD YX7_sew 74 (.dup) 1 75 7 := ⟨by decide +kernel, rfl, rfl⟩
theorem d_X7_sew_75 : nD YX7_sew 75 (.aload_n 3) 1 76 7 := ⟨by decide +kernel, rfl, rfl⟩
theorem d_X7_sew_76 : nD YX7_sew 76 (.getfield 165) 3 79 7 := ⟨by decide +kernel, rfl, rfl⟩
theorem d_X7_sew_79 : nD YX7_sew 79 (.aload_n 3) 1 80 7 := ⟨by decide +kernel, rfl, rfl⟩
theorem d_X7_sew_80 : nD YX7_sew 80 (.getfield 168) 3 83 7 := ⟨by decide +kernel, rfl, rfl⟩
theorem d_X7_sew_83 : nD YX7_sew 83 (.invokespecial 69) 3 86 7 := ⟨by decide +kernel, rfl, rfl⟩
theorem d_X7_sew_86 : nD YX7_sew 86 (.astore 5) 2 88 7 := ⟨by decide +kernel, rfl, rfl⟩
theorem d_X7_sew_88 : nD YX7_sew 88 (.aload 5) 2 90 7 := ⟨by decide +kernel, rfl, rfl⟩
theorem d_X7_sew_90 : nD YX7_sew 90 (.aload_n 3) 1 91 7 := ⟨by decide +kernel, rfl, rfl⟩
theorem d_X7_sew_91 : nD YX7_sew 91 (.getfield 171) 3 94 7 := ⟨by decide +kernel, rfl, rfl⟩
theorem d_X7_sew_94 : nD YX7_sew 94 (.putfield 171) 3 97 7 := ⟨by decide +kernel, rfl, rfl⟩
theorem d_X7_sew_97 : nD YX7_sew 97 (.aload 5) 2 99 7 := ⟨by decide +kernel, rfl, rfl⟩
theorem d_X7_sew_99 : nD YX7_sew 99 (.aload_n 3) 1 100 7 := ⟨by decide +kernel, rfl, rfl⟩
theorem d_X7_sew_100 : nD YX7_sew 100 (.getfield 174) 3 103 7 := ⟨by decide +kernel, rfl, rfl⟩
theorem d_X7_sew_103 : nD YX7_sew 103 (.putfield 174) 3 106 7 := ⟨by decide +kernel, rfl, rfl⟩
theorem d_X7_sew_106 : nD YX7_sew 106 (.aload 5) 2 108 7 := ⟨by decide +kernel, rfl, rfl⟩
theorem d_X7_sew_108 : nD YX7_sew 108 (.aload_n 3) 1 109 7 := ⟨by decide +kernel, rfl, rfl⟩
theorem d_X7_sew_109 : nD YX7_sew 109 (.invokevirtual 227) 3 112 7 := ⟨by decide +kernel, rfl, rfl⟩
theorem d_X7_sew_112 : nD YX7_sew 112 (.aload 5) 2 114 7 := ⟨by decide +kernel, rfl, rfl⟩
theorem d_X7_sew_114 : nD YX7_sew 114 (.aload 4) 2 116 7 := ⟨by decide +kernel, rfl, rfl⟩
theorem d_X7_sew_116 : nD YX7_sew 116 (.invokevirtual 227) 3 119 7 := ⟨by decide +kernel, rfl, rfl⟩
theorem d_X7_sew_119 : nD YX7_sew 119 (.aload_n 0) 1 120 7 := ⟨by decide +kernel, rfl, rfl⟩
theorem d_X7_sew_120 : nD YX7_sew 120 (.getfield 50) 3 123 7 := ⟨by decide +kernel, rfl, rfl⟩
theorem d_X7_sew_123 : nD YX7_sew 123 (.aload 5) 2 125 7 := ⟨by decide +kernel, rfl, rfl⟩
theorem d_X7_sew_125 : nD YX7_sew 125 (.aload_n 3) 1 126 7 := ⟨by decide +kernel, rfl, rfl⟩
theorem d_X7_sew_126 : nD YX7_sew 126 (.getfield 162) 3 129 7 := ⟨by decide +kernel, rfl, rfl⟩
theorem d_X7_sew_129 : nD YX7_sew 129 (.iconst 1) 1 130 7 := ⟨by decide +kernel, rfl, rfl⟩
theorem d_X7_sew_130 : nD YX7_sew 130 (.isub) 1 131 7 := ⟨by decide +kernel, rfl, rfl⟩
theorem d_X7_sew_131 : nD YX7_sew 131 (.invokevirtual 123) 3 134 7 := ⟨by decide +kernel, rfl, rfl⟩
theorem d_X7_sew_134 : nD YX7_sew 134 (.aload 5) 2 136 7 := ⟨by decide +kernel, rfl, rfl⟩
theorem d_X7_sew_136 : nD YX7_sew 136 (.aload_n 3) 1 137 7 := ⟨by decide +kernel, rfl, rfl⟩
theorem d_X7_sew_137 : nD YX7_sew 137 (.getfield 162) 3 140 7 := ⟨by decide +kernel, rfl, rfl⟩
theorem d_X7_sew_140 : nD YX7_sew 140 (.invokevirtual 123) 3 143 7 := ⟨by decide +kernel, rfl, rfl⟩
theorem d_X7_sew_143 : nD YX7_sew 143 (.invokevirtual 231) 3 146 7 := ⟨by decide +kernel, rfl, rfl⟩
theorem d_X7_sew_146 : nD YX7_sew 146 (.aload_n 0) 1 147 7 := ⟨by decide +kernel, rfl, rfl⟩
theorem d_X7_sew_147 : nD YX7_sew 147 (.aload 5) 2 149 7 := ⟨by decide +kernel, rfl, rfl⟩
theorem d_X7_sew_149 : nD YX7_sew 149 (.invokevirtual 81) 3 152 7 := ⟨by decide +kernel, rfl, rfl⟩
theorem d_X7_sew_152 : nD YX7_sew 152 (.ireturn) 1 153 7 := ⟨by decide +kernel, rfl, rfl⟩
theorem d_X7_match_0 : nD YX7_match 0 (.iload_n 1) 1 1 7 := ⟨by decide +kernel, rfl, rfl⟩
theorem d_X7_match_1 : nD YX7_match 1 (.iconst 0) 1 2 7 := ⟨by decide +kernel, rfl, rfl⟩
theorem d_X7_match_2 : nD YX7_match 2 (.aload_n 0) 1 3 7 := ⟨by decide +kernel, rfl, rfl⟩
theorem d_X7_match_3 : nD YX7_match 3 (.getfield 50) 3 6 7 := ⟨by decide +kernel, rfl, rfl⟩
theorem d_X7_match_6 : nD YX7_match 6 (.getfield 235) 3 9 7 := ⟨by decide +kernel, rfl, rfl⟩
theorem d_X7_match_9 : nD YX7_match 9 (.iconst 1) 1 10 7 := ⟨by decide +kernel, rfl, rfl⟩
theorem d_X7_match_10 : nD YX7_match 10 (.isub) 1 11 7 := ⟨by decide +kernel, rfl, rfl⟩
theorem d_X7_match_11 : nD YX7_match 11 (.invokestatic 64) 3 14 7 := ⟨by decide +kernel, rfl, rfl⟩
theorem d_X7_match_14 : nD YX7_match 14 (.ifCond .eq 15) 3 17 7 := ⟨by decide +kernel, rfl, rfl⟩
theorem d_X7_match_17 : nD YX7_match 17 (.aload_n 0) 1 18 7 := ⟨by decide +kernel, rfl, rfl⟩
theorem d_X7_match_18 : nD YX7_match 18 (.getfield 50) 3 21 7 := ⟨by decide +kernel, rfl, rfl⟩
theorem d_X7_match_21 : nD YX7_match 21 (.getfield 236) 3 24 7 := ⟨by decide +kernel, rfl, rfl⟩
theorem d_X7_match_24 : nD YX7_match 24 (.iload_n 1) 1 25 7 := ⟨by decide +kernel, rfl, rfl⟩
theorem d_X7_match_25 : nD YX7_match 25 (.iaload) 1 26 7 := ⟨by decide +kernel, rfl, rfl⟩
theorem d_X7_match_26 : nD YX7_match 26 (.goto 4) 3 29 7 := ⟨by decide +kernel, rfl, rfl⟩
theorem d_X7_match_29 : nD YX7_match 29 (.iconst (-1)) 1 30 7 := ⟨by decide +kernel, rfl, rfl⟩
theorem d_X7_match_30 : nD YX7_match 30 (.ireturn) 1 31 7 := ⟨by decide +kernel, rfl, rfl⟩
theorem d_X7_hang_0 : nD YX7_hang 0 (.aload_n 0) 1 1 7 := ⟨by decide +kernel, rfl, rfl⟩
theorem d_X7_hang_1 : nD YX7_hang 1 (.iload_n 1) 1 2 7 := ⟨by decide +kernel, rfl, rfl⟩
theorem d_X7_hang_2 : nD YX7_hang 2 (.invokevirtual 85) 3 5 7 := ⟨by decide +kernel, rfl, rfl⟩
theorem d_X7_hang_5 : nD YX7_hang 5 (.astore 4) 2 7 7 := ⟨by decide +kernel, rfl, rfl⟩
theorem d_X7_hang_7 : nD YX7_hang 7 (.aload 4) 2 9 7 := ⟨by decide +kernel, rfl, rfl⟩
theorem d_X7_hang_9 : nD YX7_hang 9 (.ifnull 23) 3 12 7 := ⟨by decide +kernel, rfl, rfl⟩
theorem d_X7_hang_12 : nD YX7_hang 12 (.iload_n 3) 1 13 7 := ⟨by decide +kernel, rfl, rfl⟩
theorem d_X7_hang_13 : nD YX7_hang 13 (.iconst 1) 1 14 7 := ⟨by decide +kernel, rfl, rfl⟩
theorem d_X7_hang_14 : nD YX7_hang 14 (.sipush 1000) 3 17 7 := ⟨by decide +kernel, rfl, rfl⟩
theorem d_X7_hang_17 : nD YX7_hang 17 (.invokestatic 64) 3 20 7 := ⟨by decide +kernel, rfl, rfl⟩
theorem d_X7_hang_20 : nD YX7_hang 20 (.ifCond .eq 12) 3 23 7 := ⟨by decide +kernel, rfl, rfl⟩
theorem d_X7_hang_23 : nD YX7_hang 23 (.iload_n 2) 1 24 7 := ⟨by decide +kernel, rfl, rfl⟩
theorem d_X7_hang_24 : nD YX7_hang 24 (.iconst 1) 1 25 7 := ⟨by decide +kernel, rfl, rfl⟩
theorem d_X7_hang_25 : nD YX7_hang 25 (.iload_n 3) 1 26 7 := ⟨by decide +kernel, rfl, rfl⟩
theorem d_X7_hang_26 : nD YX7_hang 26 (.invokestatic 64) 3 29 7 := ⟨by decide +kernel, rfl, rfl⟩
theorem d_X7_hang_29 : nD YX7_hang 29 (.ifCond .ne 5) 3 32 7 := ⟨by decide +kernel, rfl, rfl⟩
theorem d_X7_hang_32 : nD YX7_hang 32 (.iconst 0) 1 33 7 := ⟨by decide +kernel, rfl, rfl⟩
theorem d_X7_hang_33 : nD YX7_hang 33 (.ireturn) 1 34 7 := ⟨by decide +kernel, rfl, rfl⟩
theorem d_X7_hang_34 : nD YX7_hang 34 (.aload 4) 2 36 7 := ⟨by decide +kernel, rfl, rfl⟩
theorem d_X7_hang_36 : nD YX7_hang 36 (.iload_n 2) 1 37 7 := ⟨by decide +kernel, rfl, rfl⟩
theorem d_X7_hang_37 : nD YX7_hang 37 (.putfield 171) 3 40 7 := ⟨by decide +kernel, rfl, rfl⟩
theorem d_X7_hang_40 : nD YX7_hang 40 (.aload 4) 2 42 7 := ⟨by decide +kernel, rfl, rfl⟩
theorem d_X7_hang_42 : nD YX7_hang 42 (.iload_n 3) 1 43 7 := ⟨by decide +kernel, rfl, rfl⟩
theorem d_X7_hang_43 : nD YX7_hang 43 (.putfield 174) 3 46 7 := ⟨by decide +kernel, rfl, rfl⟩
theorem d_X7_hang_46 : nD YX7_hang 46 (.iconst 1) 1 47 7 := ⟨by decide +kernel, rfl, rfl⟩
theorem d_X7_hang_47 : nD YX7_hang 47 (.ireturn) 1 48 7 := ⟨by decide +kernel, rfl, rfl⟩
theorem d_X7_parts_0 : nD YX7_parts 0 (.iload_n 1) 1 1 7 := ⟨by decide +kernel, rfl, rfl⟩
theorem d_X7_parts_1 : nD YX7_parts 1 (.iconst (-1)) 1 2 7 := ⟨by decide +kernel, rfl, rfl⟩
theorem d_X7_parts_2 : nD YX7_parts 2 (.bipush 101) 2 4 7 := ⟨by decide +kernel, rfl, rfl⟩
theorem d_X7_parts_4 : nD YX7_parts 4 (.invokestatic 64) 3 7 7 := ⟨by decide +kernel, rfl, rfl⟩
theorem d_X7_parts_7 : nD YX7_parts 7 (.ifCond .ne 5) 3 10 7 := ⟨by decide +kernel, rfl, rfl⟩
theorem d_X7_parts_10 : nD YX7_parts 10 (.iconst 0) 1 11 7 := ⟨by decide +kernel, rfl, rfl⟩
theorem d_X7_parts_11 : nD YX7_parts 11 (.ireturn) 1 12 7 := ⟨by decide +kernel, rfl, rfl⟩
theorem d_X7_parts_12 : nD YX7_parts 12 (.iconst 0) 1 13 7 := ⟨by decide +kernel, rfl, rfl⟩
theorem d_X7_parts_13 : nD YX7_parts 13 (.istore_n 2) 1 14 7 := ⟨by decide +kernel, rfl, rfl⟩
theorem d_X7_parts_14 : nD YX7_parts 14 (.iload_n 2) 1 15 7 := ⟨by decide +kernel, rfl, rfl⟩
theorem d_X7_parts_15 : nD YX7_parts 15 (.bipush 101) 2 17 7 := ⟨by decide +kernel, rfl, rfl⟩
theorem d_X7_parts_17 : nD YX7_parts 17 (.if_icmp .ge 16) 3 20 7 := ⟨by decide +kernel, rfl, rfl⟩
theorem d_X7_parts_20 : nD YX7_parts 20 (.aload_n 0) 1 21 7 := ⟨by decide +kernel, rfl, rfl⟩
theorem d_X7_parts_21 : nD YX7_parts 21 (.getfield 15) 3 24 7 := ⟨by decide +kernel, rfl, rfl⟩
theorem d_X7_parts_24 : nD YX7_parts 24 (.iload_n 2) 1 25 7 := ⟨by decide +kernel, rfl, rfl⟩
theorem d_X7_parts_25 : nD YX7_parts 25 (.iconst 0) 1 26 7 := ⟨by decide +kernel, rfl, rfl⟩
theorem d_X7_parts_26 : nD YX7_parts 26 (.iastore) 1 27 7 := ⟨by decide +kernel, rfl, rfl⟩
theorem d_X7_parts_27 : nD YX7_parts 27 (.iinc 2 1) 3 30 7 := ⟨by decide +kernel, rfl, rfl⟩
theorem d_X7_parts_30 : nD YX7_parts 30 (.goto (-16)) 3 33 7 := ⟨by decide +kernel, rfl, rfl⟩
theorem d_X7_parts_33 : nD YX7_parts 33 (.aload_n 0) 1 34 7 := ⟨by decide +kernel, rfl, rfl⟩
theorem d_X7_parts_34 : nD YX7_parts 34 (.iload_n 1) 1 35 7 := ⟨by decide +kernel, rfl, rfl⟩
theorem d_X7_parts_35 : nD YX7_parts 35 (.putfield 19) 3 38 7 := ⟨by decide +kernel, rfl, rfl⟩
theorem d_X7_parts_38 : nD YX7_parts 38 (.iconst 1) 1 39 7 := ⟨by decide +kernel, rfl, rfl⟩
theorem d_X7_parts_39 : nD YX7_parts 39 (.ireturn) 1 40 7 := ⟨by decide +kernel, rfl, rfl⟩
theorem d_X7_part_0 : nD YX7_part 0 (.iload_n 1) 1 1 7 := ⟨by decide +kernel, rfl, rfl⟩
theorem d_X7_part_1 : nD YX7_part 1 (.iconst 0) 1 2 7 := ⟨by decide +kernel, rfl, rfl⟩
theorem d_X7_part_2 : nD YX7_part 2 (.aload_n 0) 1 3 7 := ⟨by decide +kernel, rfl, rfl⟩
theorem d_X7_part_3 : nD YX7_part 3 (.getfield 19) 3 6 7 := ⟨by decide +kernel, rfl, rfl⟩
theorem d_X7_part_6 : nD YX7_part 6 (.iconst 1) 1 7 7 := ⟨by decide +kernel, rfl, rfl⟩
theorem d_X7_part_7 : nD YX7_part 7 (.isub) 1 8 7 := ⟨by decide +kernel, rfl, rfl⟩
theorem d_X7_part_8 : nD YX7_part 8 (.invokestatic 64) 3 11 7 := ⟨by decide +kernel, rfl, rfl⟩
theorem d_X7_part_11 : nD YX7_part 11 (.ifCond .eq 13) 3 14 7 := ⟨by decide +kernel, rfl, rfl⟩
theorem d_X7_part_14 : nD YX7_part 14 (.iload_n 2) 1 15 7 := ⟨by decide +kernel, rfl, rfl⟩
theorem d_X7_part_15 : nD YX7_part 15 (.iconst 0) 1 16 7 := ⟨by decide +kernel, rfl, rfl⟩
theorem d_X7_part_16 : nD YX7_part 16 (.bipush 100) 2 18 7 := ⟨by decide +kernel, rfl, rfl⟩
theorem d_X7_part_18 : nD YX7_part 18 (.invokestatic 64) 3 21 7 := ⟨by decide +kernel, rfl, rfl⟩
theorem d_X7_part_21 : nD YX7_part 21 (.ifCond .ne 5) 3 24 7 := ⟨by decide +kernel, rfl, rfl⟩
theorem d_X7_part_24 : nD YX7_part 24 (.iconst 0) 1 25 7 := ⟨by decide +kernel, rfl, rfl⟩
theorem d_X7_part_25 : nD YX7_part 25 (.ireturn) 1 26 7 := ⟨by decide +kernel, rfl, rfl⟩
theorem d_X7_part_26 : nD YX7_part 26 (.aload_n 0) 1 27 7 := ⟨by decide +kernel, rfl, rfl⟩
theorem d_X7_part_27 : nD YX7_part 27 (.getfield 15) 3 30 7 := ⟨by decide +kernel, rfl, rfl⟩
theorem d_X7_part_30 : nD YX7_part 30 (.iload_n 1) 1 31 7 := ⟨by decide +kernel, rfl, rfl⟩
theorem d_X7_part_31 : nD YX7_part 31 (.iload_n 2) 1 32 7 := ⟨by decide +kernel, rfl, rfl⟩
theorem d_X7_part_32 : nD YX7_part 32 (.iastore) 1 33 7 := ⟨by decide +kernel, rfl, rfl⟩
theorem d_X7_part_33 : nD YX7_part 33 (.iconst 1) 1 34 7 := ⟨by decide +kernel, rfl, rfl⟩
theorem d_X7_part_34 : nD YX7_part 34 (.ireturn) 1 35 7 := ⟨by decide +kernel, rfl, rfl⟩
theorem d_X7_openingOf_0 : nD YX7_openingOf 0 (.aload_n 1) 1 1 7 := ⟨by decide +kernel, rfl, rfl⟩
theorem d_X7_openingOf_1 : nD YX7_openingOf 1 (.getfield 174) 3 4 7 := ⟨by decide +kernel, rfl, rfl⟩
theorem d_X7_openingOf_4 : nD YX7_openingOf 4 (.ifCond .gt 6) 3 7 7 := ⟨by decide +kernel, rfl, rfl⟩
theorem d_X7_openingOf_7 : nD YX7_openingOf 7 (.bipush (-2)) 2 9 7 := ⟨by decide +kernel, rfl, rfl⟩
theorem d_X7_openingOf_9 : nD YX7_openingOf 9 (.ireturn) 1 10 7 := ⟨by decide +kernel, rfl, rfl⟩
theorem d_X7_openingOf_10 : nD YX7_openingOf 10 (.bipush 100) 2 12 7 := ⟨by decide +kernel, rfl, rfl⟩
theorem d_X7_openingOf_12 : nD YX7_openingOf 12 (.aload_n 1) 1 13 7 := ⟨by decide +kernel, rfl, rfl⟩
theorem d_X7_openingOf_13 : nD YX7_openingOf 13 (.getfield 171) 3 16 7 := ⟨by decide +kernel, rfl, rfl⟩
theorem d_X7_openingOf_16 : nD YX7_openingOf 16 (.imul) 1 17 7 := ⟨by decide +kernel, rfl, rfl⟩
theorem d_X7_openingOf_17 : nD YX7_openingOf 17 (.aload_n 1) 1 18 7 := ⟨by decide +kernel, rfl, rfl⟩
theorem d_X7_openingOf_18 : nD YX7_openingOf 18 (.getfield 174) 3 21 7 := ⟨by decide +kernel, rfl, rfl⟩
theorem d_X7_openingOf_21 : nD YX7_openingOf 21 (.idiv) 1 22 7 := ⟨by decide +kernel, rfl, rfl⟩
theorem d_X7_openingOf_22 : nD YX7_openingOf 22 (.istore_n 2) 1 23 7 := ⟨by decide +kernel, rfl, rfl⟩
theorem d_X7_openingOf_23 : nD YX7_openingOf 23 (.iload_n 2) 1 24 7 := ⟨by decide +kernel, rfl, rfl⟩
theorem d_X7_openingOf_24 : nD YX7_openingOf 24 (.iconst 0) 1 25 7 := ⟨by decide +kernel, rfl, rfl⟩
theorem d_X7_openingOf_25 : nD YX7_openingOf 25 (.aload_n 0) 1 26 7 := ⟨by decide +kernel, rfl, rfl⟩
theorem d_X7_openingOf_26 : nD YX7_openingOf 26 (.getfield 19) 3 29 7 := ⟨by decide +kernel, rfl, rfl⟩
theorem d_X7_openingOf_29 : nD YX7_openingOf 29 (.iconst 1) 1 30 7 := ⟨by decide +kernel, rfl, rfl⟩
theorem d_X7_openingOf_30 : nD YX7_openingOf 30 (.isub) 1 31 7 := ⟨by decide +kernel, rfl, rfl⟩
theorem d_X7_openingOf_31 : nD YX7_openingOf 31 (.invokestatic 64) 3 34 7 := ⟨by decide +kernel, rfl, rfl⟩
theorem d_X7_openingOf_34 : nD YX7_openingOf 34 (.ifCond .eq 12) 3 37 7 := ⟨by decide +kernel, rfl, rfl⟩
theorem d_X7_openingOf_37 : nD YX7_openingOf 37 (.aload_n 0) 1 38 7 := ⟨by decide +kernel, rfl, rfl⟩
theorem d_X7_openingOf_38 : nD YX7_openingOf 38 (.getfield 15) 3 41 7 := ⟨by decide +kernel, rfl, rfl⟩
theorem d_X7_openingOf_41 : nD YX7_openingOf 41 (.iload_n 2) 1 42 7 := ⟨by decide +kernel, rfl, rfl⟩
theorem d_X7_openingOf_42 : nD YX7_openingOf 42 (.iaload) 1 43 7 := ⟨by decide +kernel, rfl, rfl⟩
theorem d_X7_openingOf_43 : nD YX7_openingOf 43 (.goto 5) 3 46 7 := ⟨by decide +kernel, rfl, rfl⟩
theorem d_X7_openingOf_46 : nD YX7_openingOf 46 (.bipush (-2)) 2 48 7 := ⟨by decide +kernel, rfl, rfl⟩
theorem d_X7_openingOf_48 : nD YX7_openingOf 48 (.ireturn) 1 49 7 := ⟨by decide +kernel, rfl, rfl⟩
theorem d_X7_open_0 : nD YX7_open 0 (.aload_n 0) 1 1 7 := ⟨by decide +kernel, rfl, rfl⟩
theorem d_X7_open_1 : nD YX7_open 1 (.iload_n 1) 1 2 7 := ⟨by decide +kernel, rfl, rfl⟩
theorem d_X7_open_2 : nD YX7_open 2 (.invokevirtual 85) 3 5 7 := ⟨by decide +kernel, rfl, rfl⟩
theorem d_X7_open_5 : nD YX7_open 5 (.astore_n 2) 1 6 7 := ⟨by decide +kernel, rfl, rfl⟩
theorem d_X7_open_6 : nD YX7_open 6 (.aload_n 2) 1 7 7 := ⟨by decide +kernel, rfl, rfl⟩
theorem d_X7_open_7 : nD YX7_open 7 (.ifnonnull 7) 3 10 7 := ⟨by decide +kernel, rfl, rfl⟩
theorem d_X7_open_10 : nD YX7_open 10 (.iconst (-1)) 1 11 7 := ⟨by decide +kernel, rfl, rfl⟩
theorem d_X7_open_11 : nD YX7_open 11 (.goto 8) 3 14 7 := ⟨by decide +kernel, rfl, rfl⟩
theorem d_X7_open_14 : nD YX7_open 14 (.aload_n 0) 1 15 7 := ⟨by decide +kernel, rfl, rfl⟩
theorem d_X7_open_15 : nD YX7_open 15 (.aload_n 2) 1 16 7 := ⟨by decide +kernel, rfl, rfl⟩
theorem d_X7_open_16 : nD YX7_open 16 (.invokevirtual 239) 3 19 7 := ⟨by decide +kernel, rfl, rfl⟩
theorem d_X7_open_19 : nD YX7_open 19 (.ireturn) 1 20 7 := ⟨by decide +kernel, rfl, rfl⟩
theorem d_X7_slips_0 : nD YX7_slips 0 (.aload_n 0) 1 1 7 := ⟨by decide +kernel, rfl, rfl⟩
theorem d_X7_slips_1 : nD YX7_slips 1 (.iload_n 1) 1 2 7 := ⟨by decide +kernel, rfl, rfl⟩
theorem d_X7_slips_2 : nD YX7_slips 2 (.invokevirtual 85) 3 5 7 := ⟨by decide +kernel, rfl, rfl⟩
theorem d_X7_slips_5 : nD YX7_slips 5 (.astore_n 3) 1 6 7 := ⟨by decide +kernel, rfl, rfl⟩
theorem d_X7_slips_6 : nD YX7_slips 6 (.aload_n 3) 1 7 7 := ⟨by decide +kernel, rfl, rfl⟩
theorem d_X7_slips_7 : nD YX7_slips 7 (.ifnull 13) 3 10 7 := ⟨by decide +kernel, rfl, rfl⟩
theorem d_X7_slips_10 : nD YX7_slips 10 (.iload_n 2) 1 11 7 := ⟨by decide +kernel, rfl, rfl⟩
theorem d_X7_slips_11 : nD YX7_slips 11 (.iconst 0) 1 12 7 := ⟨by decide +kernel, rfl, rfl⟩
theorem d_X7_slips_12 : nD YX7_slips 12 (.ldc 68) 2 14 7 := ⟨by decide +kernel, rfl, rfl⟩
theorem d_X7_slips_14 : nD YX7_slips 14 (.invokestatic 64) 3 17 7 := ⟨by decide +kernel, rfl, rfl⟩
theorem d_X7_slips_17 : nD YX7_slips 17 (.ifCond .ne 5) 3 20 7 := ⟨by decide +kernel, rfl, rfl⟩
theorem d_X7_slips_20 : nD YX7_slips 20 (.iconst (-1)) 1 21 7 := ⟨by decide +kernel, rfl, rfl⟩
theorem d_X7_slips_21 : nD YX7_slips 21 (.ireturn) 1 22 7 := ⟨by decide +kernel, rfl, rfl⟩
theorem d_X7_slips_22 : nD YX7_slips 22 (.aload_n 0) 1 23 7 := ⟨by decide +kernel, rfl, rfl⟩
theorem d_X7_slips_23 : nD YX7_slips 23 (.aload_n 3) 1 24 7 := ⟨by decide +kernel, rfl, rfl⟩
theorem d_X7_slips_24 : nD YX7_slips 24 (.invokevirtual 239) 3 27 7 := ⟨by decide +kernel, rfl, rfl⟩
theorem d_X7_slips_27 : nD YX7_slips 27 (.istore 4) 2 29 7 := ⟨by decide +kernel, rfl, rfl⟩
theorem d_X7_slips_29 : nD YX7_slips 29 (.iload 4) 2 31 7 := ⟨by decide +kernel, rfl, rfl⟩
theorem d_X7_slips_31 : nD YX7_slips 31 (.bipush (-2)) 2 33 7 := ⟨by decide +kernel, rfl, rfl⟩
theorem d_X7_slips_33 : nD YX7_slips 33 (.if_icmp .ne 6) 3 36 7 := ⟨by decide +kernel, rfl, rfl⟩
theorem d_X7_slips_36 : nD YX7_slips 36 (.bipush (-2)) 2 38 7 := ⟨by decide +kernel, rfl, rfl⟩
theorem d_X7_slips_38 : nD YX7_slips 38 (.ireturn) 1 39 7 := ⟨by decide +kernel, rfl, rfl⟩
theorem d_X7_slips_39 : nD YX7_slips 39 (.bipush 100) 2 41 7 := ⟨by decide +kernel, rfl, rfl⟩
theorem d_X7_slips_41 : nD YX7_slips 41 (.iload_n 2) 1 42 7 := ⟨by decide +kernel, rfl, rfl⟩
theorem d_X7_slips_42 : nD YX7_slips 42 (.imul) 1 43 7 := ⟨by decide +kernel, rfl, rfl⟩
theorem d_X7_slips_43 : nD YX7_slips 43 (.iconst 4) 1 44 7 := ⟨by decide +kernel, rfl, rfl⟩
theorem d_X7_slips_44 : nD YX7_slips 44 (.aload_n 3) 1 45 7 := ⟨by decide +kernel, rfl, rfl⟩
theorem d_X7_slips_45 : nD YX7_slips 45 (.getfield 165) 3 48 7 := ⟨by decide +kernel, rfl, rfl⟩
theorem d_X7_slips_48 : nD YX7_slips 48 (.imul) 1 49 7 := ⟨by decide +kernel, rfl, rfl⟩
theorem d_X7_slips_49 : nD YX7_slips 49 (.iload 4) 2 51 7 := ⟨by decide +kernel, rfl, rfl⟩
theorem d_X7_slips_51 : nD YX7_slips 51 (.imul) 1 52 7 := ⟨by decide +kernel, rfl, rfl⟩
theorem d_X7_slips_52 : nD YX7_slips 52 (.if_icmp .ge 7) 3 55 7 := ⟨by decide +kernel, rfl, rfl⟩
theorem d_X7_slips_55 : nD YX7_slips 55 (.iconst 1) 1 56 7 := ⟨by decide +kernel, rfl, rfl⟩
theorem d_X7_slips_56 : nD YX7_slips 56 (.goto 4) 3 59 7 := ⟨by decide +kernel, rfl, rfl⟩
theorem d_X7_slips_59 : nD YX7_slips 59 (.iconst 0) 1 60 7 := ⟨by decide +kernel, rfl, rfl⟩
theorem d_X7_slips_60 : nD YX7_slips 60 (.ireturn) 1 61 7 := ⟨by decide +kernel, rfl, rfl⟩
theorem d_X7_pull_0 : nD YX7_pull 0 (.aload_n 0) 1 1 7 := ⟨by decide +kernel, rfl, rfl⟩
theorem d_X7_pull_1 : nD YX7_pull 1 (.iload_n 1) 1 2 7 := ⟨by decide +kernel, rfl, rfl⟩
theorem d_X7_pull_2 : nD YX7_pull 2 (.invokevirtual 85) 3 5 7 := ⟨by decide +kernel, rfl, rfl⟩
theorem d_X7_pull_5 : nD YX7_pull 5 (.astore 4) 2 7 7 := ⟨by decide +kernel, rfl, rfl⟩
theorem d_X7_pull_7 : nD YX7_pull 7 (.aload 4) 2 9 7 := ⟨by decide +kernel, rfl, rfl⟩
theorem d_X7_pull_9 : nD YX7_pull 9 (.ifnull 23) 3 12 7 := ⟨by decide +kernel, rfl, rfl⟩
theorem d_X7_pull_12 : nD YX7_pull 12 (.aload 4) 2 14 7 := ⟨by decide +kernel, rfl, rfl⟩
theorem d_X7_pull_14 : nD YX7_pull 14 (.iconst 0) 1 15 7 := ⟨by decide +kernel, rfl, rfl⟩
theorem d_X7_pull_15 : nD YX7_pull 15 (.iload_n 2) 1 16 7 := ⟨by decide +kernel, rfl, rfl⟩
theorem d_X7_pull_16 : nD YX7_pull 16 (.invokevirtual 130) 3 19 7 := ⟨by decide +kernel, rfl, rfl⟩
theorem d_X7_pull_19 : nD YX7_pull 19 (.ifnull 13) 3 22 7 := ⟨by decide +kernel, rfl, rfl⟩
theorem d_X7_pull_22 : nD YX7_pull 22 (.iload_n 3) 1 23 7 := ⟨by decide +kernel, rfl, rfl⟩
theorem d_X7_pull_23 : nD YX7_pull 23 (.iconst 0) 1 24 7 := ⟨by decide +kernel, rfl, rfl⟩
theorem d_X7_pull_24 : nD YX7_pull 24 (.bipush 100) 2 26 7 := ⟨by decide +kernel, rfl, rfl⟩
theorem d_X7_pull_26 : nD YX7_pull 26 (.invokestatic 64) 3 29 7 := ⟨by decide +kernel, rfl, rfl⟩
theorem d_X7_pull_29 : nD YX7_pull 29 (.ifCond .ne 5) 3 32 7 := ⟨by decide +kernel, rfl, rfl⟩
theorem d_X7_pull_32 : nD YX7_pull 32 (.iconst 0) 1 33 7 := ⟨by decide +kernel, rfl, rfl⟩
theorem d_X7_pull_33 : nD YX7_pull 33 (.ireturn) 1 34 7 := ⟨by decide +kernel, rfl, rfl⟩
theorem d_X7_pull_34 : nD YX7_pull 34 (.aload 4) 2 36 7 := ⟨by decide +kernel, rfl, rfl⟩
theorem d_X7_pull_36 : nD YX7_pull 36 (.getfield 242) 3 39 7 := ⟨by decide +kernel, rfl, rfl⟩
theorem d_X7_pull_39 : nD YX7_pull 39 (.iload_n 2) 1 40 7 := ⟨by decide +kernel, rfl, rfl⟩
theorem d_X7_pull_40 : nD YX7_pull 40 (.iload_n 3) 1 41 7 := ⟨by decide +kernel, rfl, rfl⟩
theorem d_X7_pull_41 : nD YX7_pull 41 (.iastore) 1 42 7 := ⟨by decide +kernel, rfl, rfl⟩
theorem d_X7_pull_42 : nD YX7_pull 42 (.iconst 1) 1 43 7 := ⟨by decide +kernel, rfl, rfl⟩
theorem d_X7_pull_43 : nD YX7_pull 43 (.ireturn) 1 44 7 := ⟨by decide +kernel, rfl, rfl⟩
theorem d_X7_load_0 : nD YX7_load 0 (.aload_n 0) 1 1 7 := ⟨by decide +kernel, rfl, rfl⟩
theorem d_X7_load_1 : nD YX7_load 1 (.iload_n 1) 1 2 7 := ⟨by decide +kernel, rfl, rfl⟩
theorem d_X7_load_2 : nD YX7_load 2 (.invokevirtual 85) 3 5 7 := ⟨by decide +kernel, rfl, rfl⟩
theorem d_X7_load_5 : nD YX7_load 5 (.astore 5) 2 7 7 := ⟨by decide +kernel, rfl, rfl⟩
theorem d_X7_load_7 : nD YX7_load 7 (.aload 5) 2 9 7 := ⟨by decide +kernel, rfl, rfl⟩
theorem d_X7_load_9 : nD YX7_load 9 (.ifnull 13) 3 12 7 := ⟨by decide +kernel, rfl, rfl⟩
theorem d_X7_load_12 : nD YX7_load 12 (.aload 5) 2 14 7 := ⟨by decide +kernel, rfl, rfl⟩
theorem d_X7_load_14 : nD YX7_load 14 (.iload_n 2) 1 15 7 := ⟨by decide +kernel, rfl, rfl⟩
theorem d_X7_load_15 : nD YX7_load 15 (.iload_n 3) 1 16 7 := ⟨by decide +kernel, rfl, rfl⟩
theorem d_X7_load_16 : nD YX7_load 16 (.invokevirtual 130) 3 19 7 := ⟨by decide +kernel, rfl, rfl⟩
theorem d_X7_load_19 : nD YX7_load 19 (.ifnonnull 7) 3 22 7 := ⟨by decide +kernel, rfl, rfl⟩
theorem d_X7_load_22 : nD YX7_load 22 (.ldc2_w 115) 3 25 7 := ⟨by decide +kernel, rfl, rfl⟩
theorem d_X7_load_25 : nD YX7_load 25 (.lreturn) 1 26 7 := ⟨by decide +kernel, rfl, rfl⟩
theorem d_X7_load_26 : nD YX7_load 26 (.aload_n 0) 1 27 7 := ⟨by decide +kernel, rfl, rfl⟩
theorem d_X7_load_27 : nD YX7_load 27 (.getfield 57) 3 30 7 := ⟨by decide +kernel, rfl, rfl⟩
theorem d_X7_load_30 : nD YX7_load 30 (.aload 5) 2 32 7 := ⟨by decide +kernel, rfl, rfl⟩
theorem d_X7_load_32 : nD YX7_load 32 (.invokevirtual 245) 3 35 7 := ⟨by decide +kernel, rfl, rfl⟩
theorem d_X7_load_35 : nD YX7_load 35 (.aload_n 0) 1 36 7 := ⟨by decide +kernel, rfl, rfl⟩
theorem d_X7_load_36 : nD YX7_load 36 (.getfield 57) 3 39 7 := ⟨by decide +kernel, rfl, rfl⟩
theorem d_X7_load_39 : nD YX7_load 39 (.getfield 248) 3 42 7 := ⟨by decide +kernel, rfl, rfl⟩
theorem d_X7_load_42 : nD YX7_load 42 (.iload_n 2) 1 43 7 := ⟨by decide +kernel, rfl, rfl⟩
theorem d_X7_load_43 : nD YX7_load 43 (.aaload) 1 44 7 := ⟨by decide +kernel, rfl, rfl⟩
theorem d_X7_load_44 : nD YX7_load 44 (.iload_n 3) 1 45 7 := ⟨by decide +kernel, rfl, rfl⟩
theorem d_X7_load_45 : nD YX7_load 45 (.laload) 1 46 7 := ⟨by decide +kernel, rfl, rfl⟩
theorem d_X7_load_46 : nD YX7_load 46 (.iload 4) 2 48 7 := ⟨by decide +kernel, rfl, rfl⟩
theorem d_X7_load_48 : nD YX7_load 48 (.invokestatic 252) 3 51 7 := ⟨by decide +kernel, rfl, rfl⟩
theorem d_X7_load_51 : nD YX7_load 51 (.lreturn) 1 52 7 := ⟨by decide +kernel, rfl, rfl⟩
theorem d_X7_sum_0 : nD YX7_sum 0 (.aload_n 0) 1 1 7 := ⟨by decide +kernel, rfl, rfl⟩
theorem d_X7_sum_1 : nD YX7_sum 1 (.iload_n 1) 1 2 7 := ⟨by decide +kernel, rfl, rfl⟩
theorem d_X7_sum_2 : nD YX7_sum 2 (.invokevirtual 85) 3 5 7 := ⟨by decide +kernel, rfl, rfl⟩
theorem d_X7_sum_5 : nD YX7_sum 5 (.astore 4) 2 7 7 := ⟨by decide +kernel, rfl, rfl⟩
theorem d_X7_sum_7 : nD YX7_sum 7 (.aload 4) 2 9 7 := ⟨by decide +kernel, rfl, rfl⟩
theorem d_X7_sum_9 : nD YX7_sum 9 (.ifnull 12) 3 12 7 := ⟨by decide +kernel, rfl, rfl⟩
theorem d_X7_sum_12 : nD YX7_sum 12 (.iload_n 2) 1 13 7 := ⟨by decide +kernel, rfl, rfl⟩
theorem d_X7_sum_13 : nD YX7_sum 13 (.iconst 0) 1 14 7 := ⟨by decide +kernel, rfl, rfl⟩
theorem d_X7_sum_14 : nD YX7_sum 14 (.iconst 1) 1 15 7 := ⟨by decide +kernel, rfl, rfl⟩
theorem d_X7_sum_15 : nD YX7_sum 15 (.invokestatic 64) 3 18 7 := ⟨by decide +kernel, rfl, rfl⟩
theorem d_X7_sum_18 : nD YX7_sum 18 (.ifCond .ne 7) 3 21 7 := ⟨by decide +kernel, rfl, rfl⟩
theorem d_X7_sum_21 : nD YX7_sum 21 (.ldc2_w 115) 3 24 7 := ⟨by decide +kernel, rfl, rfl⟩
theorem d_X7_sum_24 : nD YX7_sum 24 (.lreturn) 1 25 7 := ⟨by decide +kernel, rfl, rfl⟩
theorem d_X7_sum_25 : nD YX7_sum 25 (.aload_n 0) 1 26 7 := ⟨by decide +kernel, rfl, rfl⟩
theorem d_X7_sum_26 : nD YX7_sum 26 (.getfield 57) 3 29 7 := ⟨by decide +kernel, rfl, rfl⟩
theorem d_X7_sum_29 : nD YX7_sum 29 (.aload 4) 2 31 7 := ⟨by decide +kernel, rfl, rfl⟩
theorem d_X7_sum_31 : nD YX7_sum 31 (.invokevirtual 245) 3 34 7 := ⟨by decide +kernel, rfl, rfl⟩
theorem d_X7_sum_34 : nD YX7_sum 34 (.iload_n 2) 1 35 7 := ⟨by decide +kernel, rfl, rfl⟩
theorem d_X7_sum_35 : nD YX7_sum 35 (.ifCond .ne 13) 3 38 7 := ⟨by decide +kernel, rfl, rfl⟩
theorem d_X7_sum_38 : nD YX7_sum 38 (.aload_n 0) 1 39 7 := ⟨by decide +kernel, rfl, rfl⟩
theorem d_X7_sum_39 : nD YX7_sum 39 (.getfield 57) 3 42 7 := ⟨by decide +kernel, rfl, rfl⟩
theorem d_X7_sum_42 : nD YX7_sum 42 (.getfield 256) 3 45 7 := ⟨by decide +kernel, rfl, rfl⟩
theorem d_X7_sum_45 : nD YX7_sum 45 (.goto 10) 3 48 7 := ⟨by decide +kernel, rfl, rfl⟩
theorem d_X7_sum_48 : nD YX7_sum 48 (.aload_n 0) 1 49 7 := ⟨by decide +kernel, rfl, rfl⟩
theorem d_X7_sum_49 : nD YX7_sum 49 (.getfield 57) 3 52 7 := ⟨by decide +kernel, rfl, rfl⟩
theorem d_X7_sum_52 : nD YX7_sum 52 (.getfield 260) 3 55 7 := ⟨by decide +kernel, rfl, rfl⟩
theorem d_X7_sum_55 : nD YX7_sum 55 (.iload_n 3) 1 56 7 := ⟨by decide +kernel, rfl, rfl⟩
theorem d_X7_sum_56 : nD YX7_sum 56 (.invokestatic 252) 3 59 7 := ⟨by decide +kernel, rfl, rfl⟩
theorem d_X7_sum_59 : nD YX7_sum 59 (.lreturn) 1 60 7 := ⟨by decide +kernel, rfl, rfl⟩
theorem d_X7_weak_0 : nD YX7_weak 0 (.aload_n 0) 1 1 7 := ⟨by decide +kernel, rfl, rfl⟩
theorem d_X7_weak_1 : nD YX7_weak 1 (.iload_n 1) 1 2 7 := ⟨by decide +kernel, rfl, rfl⟩
theorem d_X7_weak_2 : nD YX7_weak 2 (.invokevirtual 85) 3 5 7 := ⟨by decide +kernel, rfl, rfl⟩
theorem d_X7_weak_5 : nD YX7_weak 5 (.astore_n 2) 1 6 7 := ⟨by decide +kernel, rfl, rfl⟩
theorem d_X7_weak_6 : nD YX7_weak 6 (.aload_n 2) 1 7 7 := ⟨by decide +kernel, rfl, rfl⟩
theorem d_X7_weak_7 : nD YX7_weak 7 (.ifnonnull 5) 3 10 7 := ⟨by decide +kernel, rfl, rfl⟩
theorem d_X7_weak_10 : nD YX7_weak 10 (.iconst (-1)) 1 11 7 := ⟨by decide +kernel, rfl, rfl⟩
theorem d_X7_weak_11 : nD YX7_weak 11 (.ireturn) 1 12 7 := ⟨by decide +kernel, rfl, rfl⟩
theorem d_X7_weak_12 : nD YX7_weak 12 (.aload_n 0) 1 13 7 := ⟨by decide +kernel, rfl, rfl⟩
theorem d_X7_weak_13 : nD YX7_weak 13 (.getfield 57) 3 16 7 := ⟨by decide +kernel, rfl, rfl⟩
theorem d_X7_weak_16 : nD YX7_weak 16 (.aload_n 2) 1 17 7 := ⟨by decide +kernel, rfl, rfl⟩
theorem d_X7_weak_17 : nD YX7_weak 17 (.invokevirtual 245) 3 20 7 := ⟨by decide +kernel, rfl, rfl⟩
theorem d_X7_weak_20 : nD YX7_weak 20 (.aload_n 0) 1 21 7 := ⟨by decide +kernel, rfl, rfl⟩
theorem d_X7_weak_21 : nD YX7_weak 21 (.getfield 57) 3 24 7 := ⟨by decide +kernel, rfl, rfl⟩
theorem d_X7_weak_24 : nD YX7_weak 24 (.aload_n 2) 1 25 7 := ⟨by decide +kernel, rfl, rfl⟩
theorem d_X7_weak_25 : nD YX7_weak 25 (.invokevirtual 263) 3 28 7 := ⟨by decide +kernel, rfl, rfl⟩
theorem d_X7_weak_28 : nD YX7_weak 28 (.ireturn) 1 29 7 := ⟨by decide +kernel, rfl, rfl⟩
theorem d_X8_init_0 : nD YX8_init 0 (.aload_n 0) 1 1 8 := ⟨by decide +kernel, rfl, rfl⟩
theorem d_X8_init_1 : nD YX8_init 1 (.invokespecial 7) 3 4 8 := ⟨by decide +kernel, rfl, rfl⟩
theorem d_X8_init_4 : nD YX8_init 4 (.aload_n 0) 1 5 8 := ⟨by decide +kernel, rfl, rfl⟩
theorem d_X8_init_5 : nD YX8_init 5 (.bipush 12) 2 7 8 := ⟨by decide +kernel, rfl, rfl⟩
theorem d_X8_init_7 : nD YX8_init 7 (.newarray .int) 2 9 8 := ⟨by decide +kernel, rfl, rfl⟩
theorem d_X8_init_9 : nD YX8_init 9 (.putfield 13) 3 12 8 := ⟨by decide +kernel, rfl, rfl⟩
theorem d_X8_init_12 : nD YX8_init 12 (.aload_n 0) 1 13 8 := ⟨by decide +kernel, rfl, rfl⟩
theorem d_X8_init_13 : nD YX8_init 13 (.bipush 12) 2 15 8 := ⟨by decide +kernel, rfl, rfl⟩
theorem d_X8_init_15 : nD YX8_init 15 (.newarray .int) 2 17 8 := ⟨by decide +kernel, rfl, rfl⟩
theorem d_X8_init_17 : nD YX8_init 17 (.putfield 17) 3 20 8 := ⟨by decide +kernel, rfl, rfl⟩
theorem d_X8_init_20 : nD YX8_init 20 (.aload_n 0) 1 21 8 := ⟨by decide +kernel, rfl, rfl⟩
theorem d_X8_init_21 : nD YX8_init 21 (.bipush 12) 2 23 8 := ⟨by decide +kernel, rfl, rfl⟩
theorem d_X8_init_23 : nD YX8_init 23 (.newarray .int) 2 25 8 := ⟨by decide +kernel, rfl, rfl⟩
theorem d_X8_init_25 : nD YX8_init 25 (.putfield 20) 3 28 8 := ⟨by decide +kernel, rfl, rfl⟩
theorem d_X8_init_28 : nD YX8_init 28 (.aload_n 0) 1 29 8 := ⟨by decide +kernel, rfl, rfl⟩
theorem d_X8_init_29 : nD YX8_init 29 (.bipush 12) 2 31 8 := ⟨by decide +kernel, rfl, rfl⟩
theorem d_X8_init_31 : nD YX8_init 31 (.newarray .int) 2 33 8 := ⟨by decide +kernel, rfl, rfl⟩
theorem d_X8_init_33 : nD YX8_init 33 (.putfield 23) 3 36 8 := ⟨by decide +kernel, rfl, rfl⟩
theorem d_X8_init_36 : nD YX8_init 36 (.aload_n 0) 1 37 8 := ⟨by decide +kernel, rfl, rfl⟩
theorem d_X8_init_37 : nD YX8_init 37 (.bipush 12) 2 39 8 := ⟨by decide +kernel, rfl, rfl⟩
theorem d_X8_init_39 : nD YX8_init 39 (.newarray .int) 2 41 8 := ⟨by decide +kernel, rfl, rfl⟩
theorem d_X8_init_41 : nD YX8_init 41 (.putfield 26) 3 44 8 := ⟨by decide +kernel, rfl, rfl⟩
theorem d_X8_init_44 : nD YX8_init 44 (.aload_n 0) 1 45 8 := ⟨by decide +kernel, rfl, rfl⟩
theorem d_X8_init_45 : nD YX8_init 45 (.sipush 288) 3 48 8 := ⟨by decide +kernel, rfl, rfl⟩
theorem d_X8_init_48 : nD YX8_init 48 (.newarray .int) 2 50 8 := ⟨by decide +kernel, rfl, rfl⟩
theorem d_X8_init_50 : nD YX8_init 50 (.putfield 29) 3 53 8 := ⟨by decide +kernel, rfl, rfl⟩
theorem d_X8_init_53 : nD YX8_init 53 (.aload_n 0) 1 54 8 := ⟨by decide +kernel, rfl, rfl⟩
theorem d_X8_init_54 : nD YX8_init 54 (.sipush 240) 3 57 8 := ⟨by decide +kernel, rfl, rfl⟩
theorem d_X8_init_57 : nD YX8_init 57 (.newarray .int) 2 59 8 := ⟨by decide +kernel, rfl, rfl⟩
theorem d_X8_init_59 : nD YX8_init 59 (.putfield 32) 3 62 8 := ⟨by decide +kernel, rfl, rfl⟩
theorem d_X8_init_62 : nD YX8_init 62 (.aload_n 0) 1 63 8 := ⟨by decide +kernel, rfl, rfl⟩
theorem d_X8_init_63 : nD YX8_init 63 (.sipush 240) 3 66 8 := ⟨by decide +kernel, rfl, rfl⟩
theorem d_X8_init_66 : nD YX8_init 66 (.newarray .boolean) 2 68 8 := ⟨by decide +kernel, rfl, rfl⟩
theorem d_X8_init_68 : nD YX8_init 68 (.putfield 35) 3 71 8 := ⟨by decide +kernel, rfl, rfl⟩
theorem d_X8_init_71 : nD YX8_init 71 (.aload_n 0) 1 72 8 := ⟨by decide +kernel, rfl, rfl⟩
theorem d_X8_init_72 : nD YX8_init 72 (.sipush 5760) 3 75 8 := ⟨by decide +kernel, rfl, rfl⟩
theorem d_X8_init_75 : nD YX8_init 75 (.newarray .int) 2 77 8 := ⟨by decide +kernel, rfl, rfl⟩
theorem d_X8_init_77 : nD YX8_init 77 (.putfield 39) 3 80 8 := ⟨by decide +kernel, rfl, rfl⟩
theorem d_X8_init_80 : nD YX8_init 80 (.aload_n 0) 1 81 8 := ⟨by decide +kernel, rfl, rfl⟩
theorem d_X8_init_81 : nD YX8_init 81 (.sipush 5760) 3 84 8 := ⟨by decide +kernel, rfl, rfl⟩
theorem d_X8_init_84 : nD YX8_init 84 (.newarray .int) 2 86 8 := ⟨by decide +kernel, rfl, rfl⟩
theorem d_X8_init_86 : nD YX8_init 86 (.putfield 42) 3 89 8 := ⟨by decide +kernel, rfl, rfl⟩
theorem d_X8_init_89 : nD YX8_init 89 (.aload_n 0) 1 90 8 := ⟨by decide +kernel, rfl, rfl⟩
theorem d_X8_init_90 : nD YX8_init 90 (.sipush 5760) 3 93 8 := ⟨by decide +kernel, rfl, rfl⟩
theorem d_X8_init_93 : nD YX8_init 93 (.newarray .int) 2 95 8 := ⟨by decide +kernel, rfl, rfl⟩
theorem d_X8_init_95 : nD YX8_init 95 (.putfield 45) 3 98 8 := ⟨by decide +kernel, rfl, rfl⟩
theorem d_X8_init_98 : nD YX8_init 98 (.aload_n 0) 1 99 8 := ⟨by decide +kernel, rfl, rfl⟩
theorem d_X8_init_99 : nD YX8_init 99 (.sipush 5760) 3 102 8 := ⟨by decide +kernel, rfl, rfl⟩
theorem d_X8_init_102 : nD YX8_init 102 (.newarray .int) 2 104 8 := ⟨by decide +kernel, rfl, rfl⟩
theorem d_X8_init_104 : nD YX8_init 104 (.putfield 48) 3 107 8 := ⟨by decide +kernel, rfl, rfl⟩
theorem d_X8_init_107 : nD YX8_init 107 (.aload_n 0) 1 108 8 := ⟨by decide +kernel, rfl, rfl⟩
theorem d_X8_init_108 : nD YX8_init 108 (.sipush 5760) 3 111 8 := ⟨by decide +kernel, rfl, rfl⟩
theorem d_X8_init_111 : nD YX8_init 111 (.newarray .int) 2 113 8 := ⟨by decide +kernel, rfl, rfl⟩
theorem d_X8_init_113 : nD YX8_init 113 (.putfield 51) 3 116 8 := ⟨by decide +kernel, rfl, rfl⟩
theorem d_X8_init_116 : nD YX8_init 116 (.aload_n 0) 1 117 8 := ⟨by decide +kernel, rfl, rfl⟩
theorem d_X8_init_117 : nD YX8_init 117 (.sipush 5760) 3 120 8 := ⟨by decide +kernel, rfl, rfl⟩
theorem d_X8_init_120 : nD YX8_init 120 (.newarray .boolean) 2 122 8 := ⟨by decide +kernel, rfl, rfl⟩
theorem d_X8_init_122 : nD YX8_init 122 (.putfield 54) 3 125 8 := ⟨by decide +kernel, rfl, rfl⟩
theorem d_X8_init_125 : nD YX8_init 125 (.aload_n 0) 1 126 8 := ⟨by decide +kernel, rfl, rfl⟩
theorem d_X8_init_126 : nD YX8_init 126 (.bipush 101) 2 128 8 := ⟨by decide +kernel, rfl, rfl⟩
theorem d_X8_init_128 : nD YX8_init 128 (.newarray .int) 2 130 8 := ⟨by decide +kernel, rfl, rfl⟩
theorem d_X8_init_130 : nD YX8_init 130 (.putfield 57) 3 133 8 := ⟨by decide +kernel, rfl, rfl⟩
theorem d_X8_init_133 : nD YX8_init 133 (.aload_n 0) 1 134 8 := ⟨by decide +kernel, rfl, rfl⟩
theorem d_X8_init_134 : nD YX8_init 134 (.sipush 480) 3 137 8 := ⟨by decide +kernel, rfl, rfl⟩
theorem d_X8_init_137 : nD YX8_init 137 (.newarray .boolean) 2 139 8 := ⟨by decide +kernel, rfl, rfl⟩
theorem d_X8_init_139 : nD YX8_init 139 (.putfield 60) 3 142 8 := ⟨by decide +kernel, rfl, rfl⟩
theorem d_X8_init_142 : nD YX8_init 142 (.aload_n 0) 1 143 8 := ⟨by decide +kernel, rfl, rfl⟩
theorem d_X8_init_143 : nD YX8_init 143 (.sipush 480) 3 146 8 := ⟨by decide +kernel, rfl, rfl⟩
theorem d_X8_init_146 : nD YX8_init 146 (.newarray .int) 2 148 8 := ⟨by decide +kernel, rfl, rfl⟩
theorem d_X8_init_148 : nD YX8_init 148 (.putfield 63) 3 151 8 := ⟨by decide +kernel, rfl, rfl⟩
theorem d_X8_init_151 : nD YX8_init 151 (.aload_n 0) 1 152 8 := ⟨by decide +kernel, rfl, rfl⟩
theorem d_X8_init_152 : nD YX8_init 152 (.sipush 480) 3 155 8 := ⟨by decide +kernel, rfl, rfl⟩
theorem d_X8_init_155 : nD YX8_init 155 (.newarray .int) 2 157 8 := ⟨by decide +kernel, rfl, rfl⟩
theorem d_X8_init_157 : nD YX8_init 157 (.putfield 66) 3 160 8 := ⟨by decide +kernel, rfl, rfl⟩
theorem d_X8_init_160 : nD YX8_init 160 (.aload_n 0) 1 161 8 := ⟨by decide +kernel, rfl, rfl⟩
theorem d_X8_init_161 : nD YX8_init 161 (.sipush 480) 3 164 8 := ⟨by decide +kernel, rfl, rfl⟩
theorem d_X8_init_164 : nD YX8_init 164 (.newarray .boolean) 2 166 8 := ⟨by decide +kernel, rfl, rfl⟩
theorem d_X8_init_166 : nD YX8_init 166 (.putfield 69) 3 169 8 := ⟨by decide +kernel, rfl, rfl⟩
theorem d_X8_init_169 : nD YX8_init 169 (.aload_n 0) 1 170 8 := ⟨by decide +kernel, rfl, rfl⟩
theorem d_X8_init_170 : nD YX8_init 170 (.sipush 1200) 3 173 8 := ⟨by decide +kernel, rfl, rfl⟩
theorem d_X8_init_173 : nD YX8_init 173 (.newarray .int) 2 175 8 := ⟨by decide +kernel, rfl, rfl⟩
theorem d_X8_init_175 : nD YX8_init 175 (.putfield 72) 3 178 8 := ⟨by decide +kernel, rfl, rfl⟩
theorem d_X8_init_178 : nD YX8_init 178 (.aload_n 0) 1 179 8 := ⟨by decide +kernel, rfl, rfl⟩
theorem d_X8_init_179 : nD YX8_init 179 (.sipush 480) 3 182 8 := ⟨by decide +kernel, rfl, rfl⟩
theorem d_X8_init_182 : nD YX8_init 182 (.newarray .boolean) 2 184 8 := ⟨by decide +kernel, rfl, rfl⟩
theorem d_X8_init_184 : nD YX8_init 184 (.putfield 75) 3 187 8 := ⟨by decide +kernel, rfl, rfl⟩
theorem d_X8_init_187 : nD YX8_init 187 (.aload_n 0) 1 188 8 := ⟨by decide +kernel, rfl, rfl⟩
theorem d_X8_init_188 : nD YX8_init 188 (.bipush 24) 2 190 8 := ⟨by decide +kernel, rfl, rfl⟩
theorem d_X8_init_190 : nD YX8_init 190 (.newarray .int) 2 192 8 := ⟨by decide +kernel, rfl, rfl⟩
theorem d_X8_init_192 : nD YX8_init 192 (.putfield 78) 3 195 8 := ⟨by decide +kernel, rfl, rfl⟩
theorem d_X8_init_195 : nD YX8_init 195 (.aload_n 0) 1 196 8 := ⟨by decide +kernel, rfl, rfl⟩
theorem d_X8_init_196 : nD YX8_init 196 (.sipush 480) 3 199 8 := ⟨by decide +kernel, rfl, rfl⟩
theorem d_X8_init_199 : nD YX8_init 199 (.newarray .long) 2 201 8 := ⟨by decide +kernel, rfl, rfl⟩
theorem d_X8_init_201 : nD YX8_init 201 (.putfield 81) 3 204 8 := ⟨by decide +kernel, rfl, rfl⟩
theorem d_X8_init_204 : nD YX8_init 204 (.aload_n 0) 1 205 8 := ⟨by decide +kernel, rfl, rfl⟩
theorem d_X8_init_205 : nD YX8_init 205 (.bipush 101) 2 207 8 := ⟨by decide +kernel, rfl, rfl⟩
theorem d_X8_init_207 : nD YX8_init 207 (.putfield 85) 3 210 8 := ⟨by decide +kernel, rfl, rfl⟩
theorem d_X8_init_210 : nD YX8_init 210 (.return_) 1 211 8 := ⟨by decide +kernel, rfl, rfl⟩
theorem d_X8_isPanel_0 : nD YX8_isPanel 0 (.iload_n 1) 1 1 8 := ⟨by decide +kernel, rfl, rfl⟩
theorem d_X8_isPanel_1 : nD YX8_isPanel 1 (.ifCond .lt 15) 3 4 8 := ⟨by decide +kernel, rfl, rfl⟩
theorem d_X8_isPanel_4 : nD YX8_isPanel 4 (.iload_n 1) 1 5 8 := ⟨by decide +kernel, rfl, rfl⟩
theorem d_X8_isPanel_5 : nD YX8_isPanel 5 (.aload_n 0) 1 6 8 := ⟨by decide +kernel, rfl, rfl⟩
theorem d_X8_isPanel_6 : nD YX8_isPanel 6 (.getfield 88) 3 9 8 := ⟨by decide +kernel, rfl, rfl⟩
theorem d_X8_isPanel_9 : nD YX8_isPanel 9 (.if_icmp .ge 7) 3 12 8 := ⟨by decide +kernel, rfl, rfl⟩
theorem d_X8_isPanel_12 : nD YX8_isPanel 12 (.iconst 1) 1 13 8 := ⟨by decide +kernel, rfl, rfl⟩
theorem d_X8_isPanel_13 : nD YX8_isPanel 13 (.goto 4) 3 16 8 := ⟨by decide +kernel, rfl, rfl⟩
theorem d_X8_isPanel_16 : nD YX8_isPanel 16 (.iconst 0) 1 17 8 := ⟨by decide +kernel, rfl, rfl⟩
theorem d_X8_isPanel_17 : nD YX8_isPanel 17 (.ireturn) 1 18 8 := ⟨by decide +kernel, rfl, rfl⟩
theorem d_X8_isRow_0 : nD YX8_isRow 0 (.aload_n 0) 1 1 8 := ⟨by decide +kernel, rfl, rfl⟩
theorem d_X8_isRow_1 : nD YX8_isRow 1 (.iload_n 1) 1 2 8 := ⟨by decide +kernel, rfl, rfl⟩
theorem d_X8_isRow_2 : nD YX8_isRow 2 (.invokevirtual 91) 3 5 8 := ⟨by decide +kernel, rfl, rfl⟩
theorem d_X8_isRow_5 : nD YX8_isRow 5 (.ifCond .eq 21) 3 8 8 := ⟨by decide +kernel, rfl, rfl⟩
theorem d_X8_isRow_8 : nD YX8_isRow 8 (.iload_n 2) 1 9 8 := ⟨by decide +kernel, rfl, rfl⟩
theorem d_X8_isRow_9 : nD YX8_isRow 9 (.ifCond .lt 17) 3 12 8 := ⟨by decide +kernel, rfl, rfl⟩
theorem d_X8_isRow_12 : nD YX8_isRow 12 (.iload_n 2) 1 13 8 := ⟨by decide +kernel, rfl, rfl⟩
theorem d_X8_isRow_13 : nD YX8_isRow 13 (.aload_n 0) 1 14 8 := ⟨by decide +kernel, rfl, rfl⟩
theorem d_X8_isRow_14 : nD YX8_isRow 14 (.getfield 13) 3 17 8 := ⟨by decide +kernel, rfl, rfl⟩
theorem d_X8_isRow_17 : nD YX8_isRow 17 (.iload_n 1) 1 18 8 := ⟨by decide +kernel, rfl, rfl⟩
theorem d_X8_isRow_18 : nD YX8_isRow 18 (.iaload) 1 19 8 := ⟨by decide +kernel, rfl, rfl⟩
theorem d_X8_isRow_19 : nD YX8_isRow 19 (.if_icmp .ge 7) 3 22 8 := ⟨by decide +kernel, rfl, rfl⟩
theorem d_X8_isRow_22 : nD YX8_isRow 22 (.iconst 1) 1 23 8 := ⟨by decide +kernel, rfl, rfl⟩
theorem d_X8_isRow_23 : nD YX8_isRow 23 (.goto 4) 3 26 8 := ⟨by decide +kernel, rfl, rfl⟩
theorem d_X8_isRow_26 : nD YX8_isRow 26 (.iconst 0) 1 27 8 := ⟨by decide +kernel, rfl, rfl⟩
theorem d_X8_isRow_27 : nD YX8_isRow 27 (.ireturn) 1 28 8 := ⟨by decide +kernel, rfl, rfl⟩
theorem d_X8_isKnot_0 : nD YX8_isKnot 0 (.aload_n 0) 1 1 8 := ⟨by decide +kernel, rfl, rfl⟩
theorem d_X8_isKnot_1 : nD YX8_isKnot 1 (.iload_n 1) 1 2 8 := ⟨by decide +kernel, rfl, rfl⟩
theorem d_X8_isKnot_2 : nD YX8_isKnot 2 (.iload_n 2) 1 3 8 := ⟨by decide +kernel, rfl, rfl⟩
theorem d_X8_isKnot_3 : nD YX8_isKnot 3 (.invokevirtual 95) 3 6 8 := ⟨by decide +kernel, rfl, rfl⟩
theorem d_X8_isKnot_6 : nD YX8_isKnot 6 (.ifCond .eq 26) 3 9 8 := ⟨by decide +kernel, rfl, rfl⟩
theorem d_X8_isKnot_9 : nD YX8_isKnot 9 (.iload_n 3) 1 10 8 := ⟨by decide +kernel, rfl, rfl⟩
theorem d_X8_isKnot_10 : nD YX8_isKnot 10 (.ifCond .lt 22) 3 13 8 := ⟨by decide +kernel, rfl, rfl⟩
theorem d_X8_isKnot_13 : nD YX8_isKnot 13 (.iload_n 3) 1 14 8 := ⟨by decide +kernel, rfl, rfl⟩
theorem d_X8_isKnot_14 : nD YX8_isKnot 14 (.aload_n 0) 1 15 8 := ⟨by decide +kernel, rfl, rfl⟩
theorem d_X8_isKnot_15 : nD YX8_isKnot 15 (.getfield 32) 3 18 8 := ⟨by decide +kernel, rfl, rfl⟩
theorem d_X8_isKnot_18 : nD YX8_isKnot 18 (.bipush 20) 2 20 8 := ⟨by decide +kernel, rfl, rfl⟩
theorem d_X8_isKnot_20 : nD YX8_isKnot 20 (.iload_n 1) 1 21 8 := ⟨by decide +kernel, rfl, rfl⟩
theorem d_X8_isKnot_21 : nD YX8_isKnot 21 (.imul) 1 22 8 := ⟨by decide +kernel, rfl, rfl⟩
theorem d_X8_isKnot_22 : nD YX8_isKnot 22 (.iload_n 2) 1 23 8 := ⟨by decide +kernel, rfl, rfl⟩
theorem d_X8_isKnot_23 : nD YX8_isKnot 23 (.iadd) 1 24 8 := ⟨by decide +kernel, rfl, rfl⟩
theorem d_X8_isKnot_24 : nD YX8_isKnot 24 (.iaload) 1 25 8 := ⟨by decide +kernel, rfl, rfl⟩
theorem d_X8_isKnot_25 : nD YX8_isKnot 25 (.if_icmp .ge 7) 3 28 8 := ⟨by decide +kernel, rfl, rfl⟩
theorem d_X8_isKnot_28 : nD YX8_isKnot 28 (.iconst 1) 1 29 8 := ⟨by decide +kernel, rfl, rfl⟩
theorem d_X8_isKnot_29 : nD YX8_isKnot 29 (.goto 4) 3 32 8 := ⟨by decide +kernel, rfl, rfl⟩
theorem d_X8_isKnot_32 : nD YX8_isKnot 32 (.iconst 0) 1 33 8 := ⟨by decide +kernel, rfl, rfl⟩
theorem d_X8_isKnot_33 : nD YX8_isKnot 33 (.ireturn) 1 34 8 := ⟨by decide +kernel, rfl, rfl⟩
theorem d_X8_at_0 : nD YX8_at 0 (.bipush 24) 2 2 8 := ⟨by decide +kernel, rfl, rfl⟩
theorem d_X8_at_2 : nD YX8_at 2 (.bipush 20) 2 4 8 := ⟨by decide +kernel, rfl, rfl⟩
theorem d_X8_at_4 : nD YX8_at 4 (.iload_n 0) 1 5 8 := ⟨by decide +kernel, rfl, rfl⟩
theorem d_X8_at_5 : nD YX8_at 5 (.imul) 1 6 8 := ⟨by decide +kernel, rfl, rfl⟩
theorem d_X8_at_6 : nD YX8_at 6 (.iload_n 1) 1 7 8 := ⟨by decide +kernel, rfl, rfl⟩
theorem d_X8_at_7 : nD YX8_at 7 (.iadd) 1 8 8 := ⟨by decide +kernel, rfl, rfl⟩
theorem d_X8_at_8 : nD YX8_at 8 (.imul) 1 9 8 := ⟨by decide +kernel, rfl, rfl⟩
theorem d_X8_at_9 : nD YX8_at 9 (.iload_n 2) 1 10 8 := ⟨by decide +kernel, rfl, rfl⟩
theorem d_X8_at_10 : nD YX8_at 10 (.iadd) 1 11 8 := ⟨by decide +kernel, rfl, rfl⟩
theorem d_X8_at_11 : nD YX8_at 11 (.ireturn) 1 12 8 := ⟨by decide +kernel, rfl, rfl⟩
theorem d_X8_clears_0 : nD YX8_clears 0 (.aload_n 0) 1 1 8 := ⟨by decide +kernel, rfl, rfl⟩
theorem d_X8_clears_1 : nD YX8_clears 1 (.getfield 35) 3 4 8 := ⟨by decide +kernel, rfl, rfl⟩
theorem d_X8_clears_4 : nD YX8_clears 4 (.bipush 20) 2 6 8 := ⟨by decide +kernel, rfl, rfl⟩
theorem d_X8_clears_6 : nD YX8_clears 6 (.iload_n 1) 1 7 8 := ⟨by decide +kernel, rfl, rfl⟩
theorem d_X8_clears_7 : nD YX8_clears 7 (.imul) 1 8 8 := ⟨by decide +kernel, rfl, rfl⟩
theorem d_X8_clears_8 : nD YX8_clears 8 (.iload_n 2) 1 9 8 := ⟨by decide +kernel, rfl, rfl⟩
theorem d_X8_clears_9 : nD YX8_clears 9 (.iadd) 1 10 8 := ⟨by decide +kernel, rfl, rfl⟩
theorem d_X8_clears_10 : nD YX8_clears 10 (.iconst 0) 1 11 8 := ⟨by decide +kernel, rfl, rfl⟩
theorem d_X8_clears_11 : nD YX8_clears 11 (.bastore) 1 12 8 := ⟨by decide +kernel, rfl, rfl⟩
theorem d_X8_clears_12 : nD YX8_clears 12 (.aload_n 0) 1 13 8 := ⟨by decide +kernel, rfl, rfl⟩
theorem d_X8_clears_13 : nD YX8_clears 13 (.getfield 32) 3 16 8 := ⟨by decide +kernel, rfl, rfl⟩
theorem d_X8_clears_16 : nD YX8_clears 16 (.bipush 20) 2 18 8 := ⟨by decide +kernel, rfl, rfl⟩
theorem d_X8_clears_18 : nD YX8_clears 18 (.iload_n 1) 1 19 8 := ⟨by decide +kernel, rfl, rfl⟩
theorem d_X8_clears_19 : nD YX8_clears 19 (.imul) 1 20 8 := ⟨by decide +kernel, rfl, rfl⟩
theorem d_X8_clears_20 : nD YX8_clears 20 (.iload_n 2) 1 21 8 := ⟨by decide +kernel, rfl, rfl⟩
theorem d_X8_clears_21 : nD YX8_clears 21 (.iadd) 1 22 8 := ⟨by decide +kernel, rfl, rfl⟩
theorem d_X8_clears_22 : nD YX8_clears 22 (.iconst 0) 1 23 8 := ⟨by decide +kernel, rfl, rfl⟩
theorem d_X8_clears_23 : nD YX8_clears 23 (.iastore) 1 24 8 := ⟨by decide +kernel, rfl, rfl⟩
theorem d_X8_clears_24 : nD YX8_clears 24 (.iconst 0) 1 25 8 := ⟨by decide +kernel, rfl, rfl⟩
theorem d_X8_clears_25 : nD YX8_clears 25 (.istore_n 3) 1 26 8 := ⟨by decide +kernel, rfl, rfl⟩
theorem d_X8_clears_26 : nD YX8_clears 26 (.iload_n 3) 1 27 8 := ⟨by decide +kernel, rfl, rfl⟩
theorem d_X8_clears_27 : nD YX8_clears 27 (.bipush 24) 2 29 8 := ⟨by decide +kernel, rfl, rfl⟩
theorem d_X8_clears_29 : nD YX8_clears 29 (.if_icmp .ge 65) 3 32 8 := ⟨by decide +kernel, rfl, rfl⟩
theorem d_X8_clears_32 : nD YX8_clears 32 (.iload_n 1) 1 33 8 := ⟨by decide +kernel, rfl, rfl⟩
theorem d_X8_clears_33 : nD YX8_clears 33 (.iload_n 2) 1 34 8 := ⟨by decide +kernel, rfl, rfl⟩
theorem d_X8_clears_34 : nD YX8_clears 34 (.iload_n 3) 1 35 8 := ⟨by decide +kernel, rfl, rfl⟩
theorem d_X8_clears_35 : nD YX8_clears 35 (.invokestatic 99) 3 38 8 := ⟨by decide +kernel, rfl, rfl⟩
theorem d_X8_clears_38 : nD YX8_clears 38 (.istore 4) 2 40 8 := ⟨by decide +kernel, rfl, rfl⟩
theorem d_X8_clears_40 : nD YX8_clears 40 (.aload_n 0) 1 41 8 := ⟨by decide +kernel, rfl, rfl⟩
theorem d_X8_clears_41 : nD YX8_clears 41 (.getfield 39) 3 44 8 := ⟨by decide +kernel, rfl, rfl⟩
theorem d_X8_clears_44 : nD YX8_clears 44 (.iload 4) 2 46 8 := ⟨by decide +kernel, rfl, rfl⟩
theorem d_X8_clears_46 : nD YX8_clears 46 (.iconst 0) 1 47 8 := ⟨by decide +kernel, rfl, rfl⟩
theorem d_X8_clears_47 : nD YX8_clears 47 (.iastore) 1 48 8 := ⟨by decide +kernel, rfl, rfl⟩
theorem d_X8_clears_48 : nD YX8_clears 48 (.aload_n 0) 1 49 8 := ⟨by decide +kernel, rfl, rfl⟩
theorem d_X8_clears_49 : nD YX8_clears 49 (.getfield 42) 3 52 8 := ⟨by decide +kernel, rfl, rfl⟩
theorem d_X8_clears_52 : nD YX8_clears 52 (.iload 4) 2 54 8 := ⟨by decide +kernel, rfl, rfl⟩
theorem d_X8_clears_54 : nD YX8_clears 54 (.iconst 1) 1 55 8 := ⟨by decide +kernel, rfl, rfl⟩
theorem d_X8_clears_55 : nD YX8_clears 55 (.iastore) 1 56 8 := ⟨by decide +kernel, rfl, rfl⟩
theorem d_X8_clears_56 : nD YX8_clears 56 (.aload_n 0) 1 57 8 := ⟨by decide +kernel, rfl, rfl⟩
theorem d_X8_clears_57 : nD YX8_clears 57 (.getfield 45) 3 60 8 := ⟨by decide +kernel, rfl, rfl⟩
theorem d_X8_clears_60 : nD YX8_clears 60 (.iload 4) 2 62 8 := ⟨by decide +kernel, rfl, rfl⟩
theorem d_X8_clears_62 : nD YX8_clears 62 (.iconst (-1)) 1 63 8 := ⟨by decide +kernel, rfl, rfl⟩
theorem d_X8_clears_63 : nD YX8_clears 63 (.iastore) 1 64 8 := ⟨by decide +kernel, rfl, rfl⟩
theorem d_X8_clears_64 : nD YX8_clears 64 (.aload_n 0) 1 65 8 := ⟨by decide +kernel, rfl, rfl⟩
theorem d_X8_clears_65 : nD YX8_clears 65 (.getfield 48) 3 68 8 := ⟨by decide +kernel, rfl, rfl⟩
theorem d_X8_clears_68 : nD YX8_clears 68 (.iload 4) 2 70 8 := ⟨by decide +kernel, rfl, rfl⟩
theorem d_X8_clears_70 : nD YX8_clears 70 (.iconst 0) 1 71 8 := ⟨by decide +kernel, rfl, rfl⟩
theorem d_X8_clears_71 : nD YX8_clears 71 (.iastore) 1 72 8 := ⟨by decide +kernel, rfl, rfl⟩
theorem d_X8_clears_72 : nD YX8_clears 72 (.aload_n 0) 1 73 8 := ⟨by decide +kernel, rfl, rfl⟩
theorem d_X8_clears_73 : nD YX8_clears 73 (.getfield 51) 3 76 8 := ⟨by decide +kernel, rfl, rfl⟩
theorem d_X8_clears_76 : nD YX8_clears 76 (.iload 4) 2 78 8 := ⟨by decide +kernel, rfl, rfl⟩
theorem d_X8_clears_78 : nD YX8_clears 78 (.iconst 0) 1 79 8 := ⟨by decide +kernel, rfl, rfl⟩
theorem d_X8_clears_79 : nD YX8_clears 79 (.iastore) 1 80 8 := ⟨by decide +kernel, rfl, rfl⟩
theorem d_X8_clears_80 : nD YX8_clears 80 (.aload_n 0) 1 81 8 := ⟨by decide +kernel, rfl, rfl⟩
theorem d_X8_clears_81 : nD YX8_clears 81 (.getfield 54) 3 84 8 := ⟨by decide +kernel, rfl, rfl⟩
theorem d_X8_clears_84 : nD YX8_clears 84 (.iload 4) 2 86 8 := ⟨by decide +kernel, rfl, rfl⟩
theorem d_X8_clears_86 : nD YX8_clears 86 (.iconst 0) 1 87 8 := ⟨by decide +kernel, rfl, rfl⟩
theorem d_X8_clears_87 : nD YX8_clears 87 (.bastore) 1 88 8 := ⟨by decide +kernel, rfl, rfl⟩
theorem d_X8_clears_88 : nD YX8_clears 88 (.iinc 3 1) 3 91 8 := ⟨by decide +kernel, rfl, rfl⟩
theorem d_X8_clears_91 : nD YX8_clears 91 (.goto (-65)) 3 94 8 := ⟨by decide +kernel, rfl, rfl⟩
theorem d_X8_clears_94 : nD YX8_clears 94 (.return_) 1 95 8 := ⟨by decide +kernel, rfl, rfl⟩
theorem d_X8_newPanel_0 : nD YX8_newPanel 0 (.aload_n 0) 1 1 8 := ⟨by decide +kernel, rfl, rfl⟩
theorem d_X8_newPanel_1 : nD YX8_newPanel 1 (.getfield 88) 3 4 8 := ⟨by decide +kernel, rfl, rfl⟩
theorem d_X8_newPanel_4 : nD YX8_newPanel 4 (.istore_n 3) 1 5 8 := ⟨by decide +kernel, rfl, rfl⟩
theorem d_X8_newPanel_5 : nD YX8_newPanel 5 (.aload_n 0) 1 6 8 := ⟨by decide +kernel, rfl, rfl⟩
theorem d_X8_newPanel_6 : nD YX8_newPanel 6 (.getfield 13) 3 9 8 := ⟨by decide +kernel, rfl, rfl⟩
theorem d_X8_newPanel_9 : nD YX8_newPanel 9 (.iload_n 3) 1 10 8 := ⟨by decide +kernel, rfl, rfl⟩
theorem d_X8_newPanel_10 : nD YX8_newPanel 10 (.iconst 0) 1 11 8 := ⟨by decide +kernel, rfl, rfl⟩
theorem d_X8_newPanel_11 : nD YX8_newPanel 11 (.iastore) 1 12 8 := ⟨by decide +kernel, rfl, rfl⟩
theorem d_X8_newPanel_12 : nD YX8_newPanel 12 (.aload_n 0) 1 13 8 := ⟨by decide +kernel, rfl, rfl⟩
theorem d_X8_newPanel_13 : nD YX8_newPanel 13 (.getfield 17) 3 16 8 := ⟨by decide +kernel, rfl, rfl⟩
theorem d_X8_newPanel_16 : nD YX8_newPanel 16 (.iload_n 3) 1 17 8 := ⟨by decide +kernel, rfl, rfl⟩
theorem d_X8_newPanel_17 : nD YX8_newPanel 17 (.iload_n 1) 1 18 8 := ⟨by decide +kernel, rfl, rfl⟩
theorem d_X8_newPanel_18 : nD YX8_newPanel 18 (.iastore) 1 19 8 := ⟨by decide +kernel, rfl, rfl⟩
theorem d_X8_newPanel_19 : nD YX8_newPanel 19 (.aload_n 0) 1 20 8 := ⟨by decide +kernel, rfl, rfl⟩
theorem d_X8_newPanel_20 : nD YX8_newPanel 20 (.getfield 20) 3 23 8 := ⟨by decide +kernel, rfl, rfl⟩
theorem d_X8_newPanel_23 : nD YX8_newPanel 23 (.iload_n 3) 1 24 8 := ⟨by decide +kernel, rfl, rfl⟩
theorem d_X8_newPanel_24 : nD YX8_newPanel 24 (.iload_n 2) 1 25 8 := ⟨by decide +kernel, rfl, rfl⟩
theorem d_X8_newPanel_25 : nD YX8_newPanel 25 (.iastore) 1 26 8 := ⟨by decide +kernel, rfl, rfl⟩
theorem d_X8_newPanel_26 : nD YX8_newPanel 26 (.aload_n 0) 1 27 8 := ⟨by decide +kernel, rfl, rfl⟩
theorem d_X8_newPanel_27 : nD YX8_newPanel 27 (.getfield 23) 3 30 8 := ⟨by decide +kernel, rfl, rfl⟩
theorem d_X8_newPanel_30 : nD YX8_newPanel 30 (.iload_n 3) 1 31 8 := ⟨by decide +kernel, rfl, rfl⟩
theorem d_X8_newPanel_31 : nD YX8_newPanel 31 (.iconst 1) 1 32 8 := ⟨by decide +kernel, rfl, rfl⟩
theorem d_X8_newPanel_32 : nD YX8_newPanel 32 (.iastore) 1 33 8 := ⟨by decide +kernel, rfl, rfl⟩
theorem d_X8_newPanel_33 : nD YX8_newPanel 33 (.aload_n 0) 1 34 8 := ⟨by decide +kernel, rfl, rfl⟩
theorem d_X8_newPanel_34 : nD YX8_newPanel 34 (.getfield 26) 3 37 8 := ⟨by decide +kernel, rfl, rfl⟩
theorem d_X8_newPanel_37 : nD YX8_newPanel 37 (.iload_n 3) 1 38 8 := ⟨by decide +kernel, rfl, rfl⟩
theorem d_X8_newPanel_38 : nD YX8_newPanel 38 (.iconst 1) 1 39 8 := ⟨by decide +kernel, rfl, rfl⟩
theorem d_X8_newPanel_39 : nD YX8_newPanel 39 (.iastore) 1 40 8 := ⟨by decide +kernel, rfl, rfl⟩
theorem d_X8_newPanel_40 : nD YX8_newPanel 40 (.iconst 0) 1 41 8 := ⟨by decide +kernel, rfl, rfl⟩
theorem d_X8_newPanel_41 : nD YX8_newPanel 41 (.istore 4) 2 43 8 := ⟨by decide +kernel, rfl, rfl⟩
theorem d_X8_newPanel_43 : nD YX8_newPanel 43 (.iload 4) 2 45 8 := ⟨by decide +kernel, rfl, rfl⟩
theorem d_X8_newPanel_45 : nD YX8_newPanel 45 (.bipush 24) 2 47 8 := ⟨by decide +kernel, rfl, rfl⟩
theorem d_X8_newPanel_47 : nD YX8_newPanel 47 (.if_icmp .ge 22) 3 50 8 := ⟨by decide +kernel, rfl, rfl⟩
theorem d_X8_newPanel_50 : nD YX8_newPanel 50 (.aload_n 0) 1 51 8 := ⟨by decide +kernel, rfl, rfl⟩
theorem d_X8_newPanel_51 : nD YX8_newPanel 51 (.getfield 29) 3 54 8 := ⟨by decide +kernel, rfl, rfl⟩
theorem d_X8_newPanel_54 : nD YX8_newPanel 54 (.bipush 24) 2 56 8 := ⟨by decide +kernel, rfl, rfl⟩
theorem d_X8_newPanel_56 : nD YX8_newPanel 56 (.iload_n 3) 1 57 8 := ⟨by decide +kernel, rfl, rfl⟩
theorem d_X8_newPanel_57 : nD YX8_newPanel 57 (.imul) 1 58 8 := ⟨by decide +kernel, rfl, rfl⟩
theorem d_X8_newPanel_58 : nD YX8_newPanel 58 (.iload 4) 2 60 8 := ⟨by decide +kernel, rfl, rfl⟩
theorem d_X8_newPanel_60 : nD YX8_newPanel 60 (.iadd) 1 61 8 := ⟨by decide +kernel, rfl, rfl⟩
theorem d_X8_newPanel_61 : nD YX8_newPanel 61 (.iconst 0) 1 62 8 := ⟨by decide +kernel, rfl, rfl⟩
theorem d_X8_newPanel_62 : nD YX8_newPanel 62 (.iastore) 1 63 8 := ⟨by decide +kernel, rfl, rfl⟩
theorem d_X8_newPanel_63 : nD YX8_newPanel 63 (.iinc 4 1) 3 66 8 := ⟨by decide +kernel, rfl, rfl⟩
theorem d_X8_newPanel_66 : nD YX8_newPanel 66 (.goto (-23)) 3 69 8 := ⟨by decide +kernel, rfl, rfl⟩
theorem d_X8_newPanel_69 : nD YX8_newPanel 69 (.aload_n 0) 1 70 8 := ⟨by decide +kernel, rfl, rfl⟩
theorem d_X8_newPanel_70 : nD YX8_newPanel 70 (.dup) 1 71 8 := ⟨by decide +kernel, rfl, rfl⟩
theorem d_X8_newPanel_71 : nD YX8_newPanel 71 (.getfield 88) 3 74 8 := ⟨by decide +kernel, rfl, rfl⟩
theorem d_X8_newPanel_74 : nD YX8_newPanel 74 (.iconst 1) 1 75 8 := ⟨by decide +kernel, rfl, rfl⟩
theorem d_X8_newPanel_75 : nD YX8_newPanel 75 (.iadd) 1 76 8 := ⟨by decide +kernel, rfl, rfl⟩
theorem d_X8_newPanel_76 : nD YX8_newPanel 76 (.putfield 88) 3 79 8 := ⟨by decide +kernel, rfl, rfl⟩
theorem d_X8_newPanel_79 : nD YX8_newPanel 79 (.iload_n 3) 1 80 8 := ⟨by decide +kernel, rfl, rfl⟩
theorem d_X8_newPanel_80 : nD YX8_newPanel 80 (.ireturn) 1 81 8 := ⟨by decide +kernel, rfl, rfl⟩
theorem d_X8_panel_0 : nD YX8_panel 0 (.aload_n 0) 1 1 8 := ⟨by decide +kernel, rfl, rfl⟩
theorem d_X8_panel_1 : nD YX8_panel 1 (.getfield 88) 3 4 8 := ⟨by decide +kernel, rfl, rfl⟩
theorem d_X8_panel_4 : nD YX8_panel 4 (.bipush 12) 2 6 8 := ⟨by decide +kernel, rfl, rfl⟩
theorem d_X8_panel_6 : nD YX8_panel 6 (.if_icmp .eq 37) 3 9 8 := ⟨by decide +kernel, rfl, rfl⟩
theorem d_X8_panel_9 : nD YX8_panel 9 (.iload_n 1) 1 10 8 := ⟨by decide +kernel, rfl, rfl⟩
theorem d_X8_panel_10 : nD YX8_panel 10 (.iconst 1) 1 11 8 := ⟨by decide +kernel, rfl, rfl⟩
theorem d_X8_panel_11 : nD YX8_panel 11 (.if_icmp .lt 32) 3 14 8 := ⟨by decide +kernel, rfl, rfl⟩
theorem d_X8_panel_14 : nD YX8_panel 14 (.iload_n 1) 1 15 8 := ⟨by decide +kernel, rfl, rfl⟩
theorem d_X8_panel_15 : nD YX8_panel 15 (.bipush 24) 2 17 8 := ⟨by decide +kernel, rfl, rfl⟩
theorem d_X8_panel_17 : nD YX8_panel 17 (.if_icmp .gt 26) 3 20 8 := ⟨by decide +kernel, rfl, rfl⟩
theorem d_X8_panel_20 : nD YX8_panel 20 (.iload_n 2) 1 21 8 := ⟨by decide +kernel, rfl, rfl⟩
theorem d_X8_panel_21 : nD YX8_panel 21 (.iconst 1) 1 22 8 := ⟨by decide +kernel, rfl, rfl⟩
theorem d_X8_panel_22 : nD YX8_panel 22 (.if_icmp .lt 21) 3 25 8 := ⟨by decide +kernel, rfl, rfl⟩
theorem d_X8_panel_25 : nD YX8_panel 25 (.iload_n 2) 1 26 8 := ⟨by decide +kernel, rfl, rfl⟩
theorem d_X8_panel_26 : nD YX8_panel 26 (.sipush 1000) 3 29 8 := ⟨by decide +kernel, rfl, rfl⟩
theorem d_X8_panel_29 : nD YX8_panel 29 (.if_icmp .gt 14) 3 32 8 := ⟨by decide +kernel, rfl, rfl⟩
theorem d_X8_panel_32 : nD YX8_panel 32 (.iload_n 3) 1 33 8 := ⟨by decide +kernel, rfl, rfl⟩
theorem d_X8_panel_33 : nD YX8_panel 33 (.iconst 1) 1 34 8 := ⟨by decide +kernel, rfl, rfl⟩
theorem d_X8_panel_34 : nD YX8_panel 34 (.if_icmp .lt 9) 3 37 8 := ⟨by decide +kernel, rfl, rfl⟩
theorem d_X8_panel_37 : nD YX8_panel 37 (.iload_n 3) 1 38 8 := ⟨by decide +kernel, rfl, rfl⟩
theorem d_X8_panel_38 : nD YX8_panel 38 (.ldc 103) 2 40 8 := ⟨by decide +kernel, rfl, rfl⟩
theorem d_X8_panel_40 : nD YX8_panel 40 (.if_icmp .le 5) 3 43 8 := ⟨by decide +kernel, rfl, rfl⟩
theorem d_X8_panel_43 : nD YX8_panel 43 (.iconst (-1)) 1 44 8 := ⟨by decide +kernel, rfl, rfl⟩
theorem d_X8_panel_44 : nD YX8_panel 44 (.ireturn) 1 45 8 := ⟨by decide +kernel, rfl, rfl⟩
theorem d_X8_panel_45 : nD YX8_panel 45 (.aload_n 0) 1 46 8 := ⟨by decide +kernel, rfl, rfl⟩
theorem d_X8_panel_46 : nD YX8_panel 46 (.iload_n 2) 1 47 8 := ⟨by decide +kernel, rfl, rfl⟩
theorem d_X8_panel_47 : nD YX8_panel 47 (.iload_n 3) 1 48 8 := ⟨by decide +kernel, rfl, rfl⟩
theorem d_X8_panel_48 : nD YX8_panel 48 (.invokevirtual 104) 3 51 8 := ⟨by decide +kernel, rfl, rfl⟩
theorem d_X8_panel_51 : nD YX8_panel 51 (.istore 4) 2 53 8 := ⟨by decide +kernel, rfl, rfl⟩
theorem d_X8_panel_53 : nD YX8_panel 53 (.aload_n 0) 1 54 8 := ⟨by decide +kernel, rfl, rfl⟩
theorem d_X8_panel_54 : nD YX8_panel 54 (.iload 4) 2 56 8 := ⟨by decide +kernel, rfl, rfl⟩
theorem d_X8_panel_56 : nD YX8_panel 56 (.iconst 0) 1 57 8 := ⟨by decide +kernel, rfl, rfl⟩
theorem d_X8_panel_57 : nD YX8_panel 57 (.invokevirtual 108) 3 60 8 := ⟨by decide +kernel, rfl, rfl⟩
theorem d_X8_panel_60 : nD YX8_panel 60 (.aload_n 0) 1 61 8 := ⟨by decide +kernel, rfl, rfl⟩
theorem d_X8_panel_61 : nD YX8_panel 61 (.getfield 32) 3 64 8 := ⟨by decide +kernel, rfl, rfl⟩
theorem d_X8_panel_64 : nD YX8_panel 64 (.bipush 20) 2 66 8 := ⟨by decide +kernel, rfl, rfl⟩
theorem d_X8_panel_66 : nD YX8_panel 66 (.iload 4) 2 68 8 := ⟨by decide +kernel, rfl, rfl⟩
theorem d_X8_panel_68 : nD YX8_panel 68 (.imul) 1 69 8 := ⟨by decide +kernel, rfl, rfl⟩
theorem d_X8_panel_69 : nD YX8_panel 69 (.iload_n 1) 1 70 8 := ⟨by decide +kernel, rfl, rfl⟩
theorem d_X8_panel_70 : nD YX8_panel 70 (.iastore) 1 71 8 := ⟨by decide +kernel, rfl, rfl⟩
theorem d_X8_panel_71 : nD YX8_panel 71 (.aload_n 0) 1 72 8 := ⟨by decide +kernel, rfl, rfl⟩
theorem d_X8_panel_72 : nD YX8_panel 72 (.getfield 13) 3 75 8 := ⟨by decide +kernel, rfl, rfl⟩
theorem d_X8_panel_75 : nD YX8_panel 75 (.iload 4) 2 77 8 := ⟨by decide +kernel, rfl, rfl⟩
theorem d_X8_panel_77 : nD YX8_panel 77 (.iconst 1) 1 78 8 := ⟨by decide +kernel, rfl, rfl⟩
theorem d_X8_panel_78 : nD YX8_panel 78 (.iastore) 1 79 8 := ⟨by decide +kernel, rfl, rfl⟩
theorem d_X8_panel_79 : nD YX8_panel 79 (.iload 4) 2 81 8 := ⟨by decide +kernel, rfl, rfl⟩
theorem d_X8_panel_81 : nD YX8_panel 81 (.ireturn) 1 82 8 := ⟨by decide +kernel, rfl, rfl⟩
theorem d_X8_given_0 : nD YX8_given 0 (.iconst 0) 1 1 8 := ⟨by decide +kernel, rfl, rfl⟩
theorem d_X8_given_1 : nD YX8_given 1 (.istore_n 3) 1 2 8 := ⟨by decide +kernel, rfl, rfl⟩
theorem d_X8_given_2 : nD YX8_given 2 (.iconst 0) 1 3 8 := ⟨by decide +kernel, rfl, rfl⟩
theorem d_X8_given_3 : nD YX8_given 3 (.istore 4) 2 5 8 := ⟨by decide +kernel, rfl, rfl⟩
theorem d_X8_given_5 : nD YX8_given 5 (.iload 4) 2 7 8 := ⟨by decide +kernel, rfl, rfl⟩
theorem d_X8_given_7 : nD YX8_given 7 (.aload_n 0) 1 8 8 := ⟨by decide +kernel, rfl, rfl⟩
theorem d_X8_given_8 : nD YX8_given 8 (.getfield 32) 3 11 8 := ⟨by decide +kernel, rfl, rfl⟩
theorem d_X8_given_11 : nD YX8_given 11 (.bipush 20) 2 13 8 := ⟨by decide +kernel, rfl, rfl⟩
theorem d_X8_given_13 : nD YX8_given 13 (.iload_n 1) 1 14 8 := ⟨by decide +kernel, rfl, rfl⟩
theorem d_X8_given_14 : nD YX8_given 14 (.imul) 1 15 8 := ⟨by decide +kernel, rfl, rfl⟩
theorem d_X8_given_15 : nD YX8_given 15 (.iload_n 2) 1 16 8 := ⟨by decide +kernel, rfl, rfl⟩
theorem d_X8_given_16 : nD YX8_given 16 (.iadd) 1 17 8 := ⟨by decide +kernel, rfl, rfl⟩
theorem d_X8_given_17 : nD YX8_given 17 (.iaload) 1 18 8 := ⟨by decide +kernel, rfl, rfl⟩
theorem d_X8_given_18 : nD YX8_given 18 (.if_icmp .ge 24) 3 21 8 := ⟨by decide +kernel, rfl, rfl⟩
theorem d_X8_given_21 : nD YX8_given 21 (.iload_n 3) 1 22 8 := ⟨by decide +kernel, rfl, rfl⟩
theorem d_X8_given_22 : nD YX8_given 22 (.aload_n 0) 1 23 8 := ⟨by decide +kernel, rfl, rfl⟩
theorem d_X8_given_23 : nD YX8_given 23 (.getfield 42) 3 26 8 := ⟨by decide +kernel, rfl, rfl⟩
theorem d_X8_given_26 : nD YX8_given 26 (.iload_n 1) 1 27 8 := ⟨by decide +kernel, rfl, rfl⟩
theorem d_X8_given_27 : nD YX8_given 27 (.iload_n 2) 1 28 8 := ⟨by decide +kernel, rfl, rfl⟩
theorem d_X8_given_28 : nD YX8_given 28 (.iload 4) 2 30 8 := ⟨by decide +kernel, rfl, rfl⟩
theorem d_X8_given_30 : nD YX8_given 30 (.invokestatic 99) 3 33 8 := ⟨by decide +kernel, rfl, rfl⟩
theorem d_X8_given_33 : nD YX8_given 33 (.iaload) 1 34 8 := ⟨by decide +kernel, rfl, rfl⟩
theorem d_X8_given_34 : nD YX8_given 34 (.iadd) 1 35 8 := ⟨by decide +kernel, rfl, rfl⟩
theorem d_X8_given_35 : nD YX8_given 35 (.istore_n 3) 1 36 8 := ⟨by decide +kernel, rfl, rfl⟩
theorem d_X8_given_36 : nD YX8_given 36 (.iinc 4 1) 3 39 8 := ⟨by decide +kernel, rfl, rfl⟩
theorem d_X8_given_39 : nD YX8_given 39 (.goto (-34)) 3 42 8 := ⟨by decide +kernel, rfl, rfl⟩
theorem d_X8_given_42 : nD YX8_given 42 (.iload_n 3) 1 43 8 := ⟨by decide +kernel, rfl, rfl⟩
theorem d_X8_given_43 : nD YX8_given 43 (.ireturn) 1 44 8 := ⟨by decide +kernel, rfl, rfl⟩
theorem d_X8_hangs_0 : nD YX8_hangs 0 (.aload_n 0) 1 1 8 := ⟨by decide +kernel, rfl, rfl⟩
theorem d_X8_hangs_1 : nD YX8_hangs 1 (.getfield 32) 3 4 8 := ⟨by decide +kernel, rfl, rfl⟩
theorem d_X8_hangs_4 : nD YX8_hangs 4 (.bipush 20) 2 6 8 := ⟨by decide +kernel, rfl, rfl⟩
theorem d_X8_hangs_6 : nD YX8_hangs 6 (.iload_n 1) 1 7 8 := ⟨by decide +kernel, rfl, rfl⟩
theorem d_X8_hangs_7 : nD YX8_hangs 7 (.imul) 1 8 8 := ⟨by decide +kernel, rfl, rfl⟩
theorem d_X8_hangs_8 : nD YX8_hangs 8 (.iload_n 2) 1 9 8 := ⟨by decide +kernel, rfl, rfl⟩
theorem d_X8_hangs_9 : nD YX8_hangs 9 (.iadd) 1 10 8 := ⟨by decide +kernel, rfl, rfl⟩
theorem d_X8_hangs_10 : nD YX8_hangs 10 (.iconst 1) 1 11 8 := ⟨by decide +kernel, rfl, rfl⟩
theorem d_X8_hangs_11 : nD YX8_hangs 11 (.isub) 1 12 8 := ⟨by decide +kernel, rfl, rfl⟩
theorem d_X8_hangs_12 : nD YX8_hangs 12 (.iaload) 1 13 8 := ⟨by decide +kernel, rfl, rfl⟩
theorem d_X8_hangs_13 : nD YX8_hangs 13 (.istore_n 3) 1 14 8 := ⟨by decide +kernel, rfl, rfl⟩
theorem d_X8_hangs_14 : nD YX8_hangs 14 (.iconst 0) 1 15 8 := ⟨by decide +kernel, rfl, rfl⟩
theorem d_X8_hangs_15 : nD YX8_hangs 15 (.istore 4) 2 17 8 := ⟨by decide +kernel, rfl, rfl⟩
theorem d_X8_hangs_17 : nD YX8_hangs 17 (.iconst 0) 1 18 8 := ⟨by decide +kernel, rfl, rfl⟩
theorem d_X8_hangs_18 : nD YX8_hangs 18 (.istore 5) 2 20 8 := ⟨by decide +kernel, rfl, rfl⟩
theorem d_X8_hangs_20 : nD YX8_hangs 20 (.iload 5) 2 22 8 := ⟨by decide +kernel, rfl, rfl⟩
theorem d_X8_hangs_22 : nD YX8_hangs 22 (.iload_n 3) 1 23 8 := ⟨by decide +kernel, rfl, rfl⟩
theorem d_X8_hangs_23 : nD YX8_hangs 23 (.if_icmp .ge 138) 3 26 8 := ⟨by decide +kernel, rfl, rfl⟩
theorem d_X8_hangs_26 : nD YX8_hangs 26 (.iload 5) 2 28 8 := ⟨by decide +kernel, rfl, rfl⟩
theorem d_X8_hangs_28 : nD YX8_hangs 28 (.iconst 1) 1 29 8 := ⟨by decide +kernel, rfl, rfl⟩
theorem d_X8_hangs_29 : nD YX8_hangs 29 (.iadd) 1 30 8 := ⟨by decide +kernel, rfl, rfl⟩
theorem d_X8_hangs_30 : nD YX8_hangs 30 (.istore 6) 2 32 8 := ⟨by decide +kernel, rfl, rfl⟩
theorem d_X8_hangs_32 : nD YX8_hangs 32 (.iload 6) 2 34 8 := ⟨by decide +kernel, rfl, rfl⟩
theorem d_X8_hangs_34 : nD YX8_hangs 34 (.iload_n 3) 1 35 8 := ⟨by decide +kernel, rfl, rfl⟩
theorem d_X8_hangs_35 : nD YX8_hangs 35 (.if_icmp .ge 26) 3 38 8 := ⟨by decide +kernel, rfl, rfl⟩
theorem d_X8_hangs_38 : nD YX8_hangs 38 (.aload_n 0) 1 39 8 := ⟨by decide +kernel, rfl, rfl⟩
theorem d_X8_hangs_39 : nD YX8_hangs 39 (.getfield 42) 3 42 8 := ⟨by decide +kernel, rfl, rfl⟩
theorem d_X8_hangs_42 : nD YX8_hangs 42 (.iload_n 1) 1 43 8 := ⟨by decide +kernel, rfl, rfl⟩
theorem d_X8_hangs_43 : nD YX8_hangs 43 (.iload_n 2) 1 44 8 := ⟨by decide +kernel, rfl, rfl⟩
theorem d_X8_hangs_44 : nD YX8_hangs 44 (.iconst 1) 1 45 8 := ⟨by decide +kernel, rfl, rfl⟩
theorem d_X8_hangs_45 : nD YX8_hangs 45 (.isub) 1 46 8 := ⟨by decide +kernel, rfl, rfl⟩
theorem d_X8_hangs_46 : nD YX8_hangs 46 (.iload 6) 2 48 8 := ⟨by decide +kernel, rfl, rfl⟩
theorem d_X8_hangs_48 : nD YX8_hangs 48 (.invokestatic 99) 3 51 8 := ⟨by decide +kernel, rfl, rfl⟩
theorem d_X8_hangs_51 : nD YX8_hangs 51 (.iaload) 1 52 8 := ⟨by decide +kernel, rfl, rfl⟩
theorem d_X8_hangs_52 : nD YX8_hangs 52 (.ifCond .ne 9) 3 55 8 := ⟨by decide +kernel, rfl, rfl⟩
theorem d_X8_hangs_55 : nD YX8_hangs 55 (.iinc 6 1) 3 58 8 := ⟨by decide +kernel, rfl, rfl⟩
theorem d_X8_hangs_58 : nD YX8_hangs 58 (.goto (-26)) 3 61 8 := ⟨by decide +kernel, rfl, rfl⟩
theorem d_X8_hangs_61 : nD YX8_hangs 61 (.aload_n 0) 1 62 8 := ⟨by decide +kernel, rfl, rfl⟩
theorem d_X8_hangs_62 : nD YX8_hangs 62 (.getfield 42) 3 65 8 := ⟨by decide +kernel, rfl, rfl⟩
theorem d_X8_hangs_65 : nD YX8_hangs 65 (.iload_n 1) 1 66 8 := ⟨by decide +kernel, rfl, rfl⟩
theorem d_X8_hangs_66 : nD YX8_hangs 66 (.iload_n 2) 1 67 8 := ⟨by decide +kernel, rfl, rfl⟩
theorem d_X8_hangs_67 : nD YX8_hangs 67 (.iconst 1) 1 68 8 := ⟨by decide +kernel, rfl, rfl⟩
theorem d_X8_hangs_68 : nD YX8_hangs 68 (.isub) 1 69 8 := ⟨by decide +kernel, rfl, rfl⟩
theorem d_X8_hangs_69 : nD YX8_hangs 69 (.iload 5) 2 71 8 := ⟨by decide +kernel, rfl, rfl⟩
theorem d_X8_hangs_71 : nD YX8_hangs 71 (.invokestatic 99) 3 74 8 := ⟨by decide +kernel, rfl, rfl⟩
theorem d_X8_hangs_74 : nD YX8_hangs 74 (.iaload) 1 75 8 := ⟨by decide +kernel, rfl, rfl⟩
theorem d_X8_hangs_75 : nD YX8_hangs 75 (.istore 7) 2 77 8 := ⟨by decide +kernel, rfl, rfl⟩
theorem d_X8_hangs_77 : nD YX8_hangs 77 (.iconst 0) 1 78 8 := ⟨by decide +kernel, rfl, rfl⟩
theorem d_X8_hangs_78 : nD YX8_hangs 78 (.istore 8) 2 80 8 := ⟨by decide +kernel, rfl, rfl⟩
theorem d_X8_hangs_80 : nD YX8_hangs 80 (.iload 8) 2 82 8 := ⟨by decide +kernel, rfl, rfl⟩
theorem d_X8_hangs_82 : nD YX8_hangs 82 (.iload 7) 2 84 8 := ⟨by decide +kernel, rfl, rfl⟩
theorem d_X8_hangs_84 : nD YX8_hangs 84 (.if_icmp .ge 71) 3 87 8 := ⟨by decide +kernel, rfl, rfl⟩
theorem d_X8_hangs_87 : nD YX8_hangs 87 (.iload_n 1) 1 88 8 := ⟨by decide +kernel, rfl, rfl⟩
theorem d_X8_hangs_88 : nD YX8_hangs 88 (.iload_n 2) 1 89 8 := ⟨by decide +kernel, rfl, rfl⟩
theorem d_X8_hangs_89 : nD YX8_hangs 89 (.iload 4) 2 91 8 := ⟨by decide +kernel, rfl, rfl⟩
theorem d_X8_hangs_91 : nD YX8_hangs 91 (.invokestatic 99) 3 94 8 := ⟨by decide +kernel, rfl, rfl⟩
theorem d_X8_hangs_94 : nD YX8_hangs 94 (.istore 9) 2 96 8 := ⟨by decide +kernel, rfl, rfl⟩
theorem d_X8_hangs_96 : nD YX8_hangs 96 (.aload_n 0) 1 97 8 := ⟨by decide +kernel, rfl, rfl⟩
theorem d_X8_hangs_97 : nD YX8_hangs 97 (.getfield 45) 3 100 8 := ⟨by decide +kernel, rfl, rfl⟩
theorem d_X8_hangs_100 : nD YX8_hangs 100 (.iload 9) 2 102 8 := ⟨by decide +kernel, rfl, rfl⟩
theorem d_X8_hangs_102 : nD YX8_hangs 102 (.iload 5) 2 104 8 := ⟨by decide +kernel, rfl, rfl⟩
theorem d_X8_hangs_104 : nD YX8_hangs 104 (.iastore) 1 105 8 := ⟨by decide +kernel, rfl, rfl⟩
theorem d_X8_hangs_105 : nD YX8_hangs 105 (.aload_n 0) 1 106 8 := ⟨by decide +kernel, rfl, rfl⟩
theorem d_X8_hangs_106 : nD YX8_hangs 106 (.getfield 48) 3 109 8 := ⟨by decide +kernel, rfl, rfl⟩
theorem d_X8_hangs_109 : nD YX8_hangs 109 (.iload 9) 2 111 8 := ⟨by decide +kernel, rfl, rfl⟩
theorem d_X8_hangs_111 : nD YX8_hangs 111 (.iload 6) 2 113 8 := ⟨by decide +kernel, rfl, rfl⟩
theorem d_X8_hangs_113 : nD YX8_hangs 113 (.iload 5) 2 115 8 := ⟨by decide +kernel, rfl, rfl⟩
theorem d_X8_hangs_115 : nD YX8_hangs 115 (.isub) 1 116 8 := ⟨by decide +kernel, rfl, rfl⟩
theorem d_X8_hangs_116 : nD YX8_hangs 116 (.iload 8) 2 118 8 := ⟨by decide +kernel, rfl, rfl⟩
theorem d_X8_hangs_118 : nD YX8_hangs 118 (.iload 7) 2 120 8 := ⟨by decide +kernel, rfl, rfl⟩
theorem d_X8_hangs_120 : nD YX8_hangs 120 (.iconst 1) 1 121 8 := ⟨by decide +kernel, rfl, rfl⟩
theorem d_X8_hangs_121 : nD YX8_hangs 121 (.isub) 1 122 8 := ⟨by decide +kernel, rfl, rfl⟩
theorem d_X8_hangs_122 : nD YX8_hangs 122 (.if_icmp .ne 13) 3 125 8 := ⟨by decide +kernel, rfl, rfl⟩
theorem d_X8_hangs_125 : nD YX8_hangs 125 (.iload 6) 2 127 8 := ⟨by decide +kernel, rfl, rfl⟩
theorem d_X8_hangs_127 : nD YX8_hangs 127 (.iload_n 3) 1 128 8 := ⟨by decide +kernel, rfl, rfl⟩
theorem d_X8_hangs_128 : nD YX8_hangs 128 (.if_icmp .ge 7) 3 131 8 := ⟨by decide +kernel, rfl, rfl⟩
theorem d_X8_hangs_131 : nD YX8_hangs 131 (.iconst 1) 1 132 8 := ⟨by decide +kernel, rfl, rfl⟩
theorem d_X8_hangs_132 : nD YX8_hangs 132 (.goto 4) 3 135 8 := ⟨by decide +kernel, rfl, rfl⟩
theorem d_X8_hangs_135 : nD YX8_hangs 135 (.iconst 0) 1 136 8 := ⟨by decide +kernel, rfl, rfl⟩
theorem d_X8_hangs_136 : nD YX8_hangs 136 (.iadd) 1 137 8 := ⟨by decide +kernel, rfl, rfl⟩
theorem d_X8_hangs_137 : nD YX8_hangs 137 (.iastore) 1 138 8 := ⟨by decide +kernel, rfl, rfl⟩
theorem d_X8_hangs_138 : nD YX8_hangs 138 (.aload_n 0) 1 139 8 := ⟨by decide +kernel, rfl, rfl⟩
theorem d_X8_hangs_139 : nD YX8_hangs 139 (.getfield 51) 3 142 8 := ⟨by decide +kernel, rfl, rfl⟩
theorem d_X8_hangs_142 : nD YX8_hangs 142 (.iload 9) 2 144 8 := ⟨by decide +kernel, rfl, rfl⟩
theorem d_X8_hangs_144 : nD YX8_hangs 144 (.iconst 0) 1 145 8 := ⟨by decide +kernel, rfl, rfl⟩
theorem d_X8_hangs_145 : nD YX8_hangs 145 (.iastore) 1 146 8 := ⟨by decide +kernel, rfl, rfl⟩
theorem d_X8_hangs_146 : nD YX8_hangs 146 (.iinc 4 1) 3 149 8 := ⟨by decide +kernel, rfl, rfl⟩
theorem d_X8_hangs_149 : nD YX8_hangs 149 (.iinc 8 1) 3 152 8 := ⟨by decide +kernel, rfl, rfl⟩
theorem d_X8_hangs_152 : nD YX8_hangs 152 (.goto (-72)) 3 155 8 := ⟨by decide +kernel, rfl, rfl⟩
theorem d_X8_hangs_155 : nD YX8_hangs 155 (.iinc 5 1) 3 158 8 := ⟨by decide +kernel, rfl, rfl⟩
theorem d_X8_hangs_158 : nD YX8_hangs 158 (.goto (-138)) 3 161 8 := ⟨by decide +kernel, rfl, rfl⟩
theorem d_X8_hangs_161 : nD YX8_hangs 161 (.return_) 1 162 8 := ⟨by decide +kernel, rfl, rfl⟩
theorem d_X8_row_0 : nD YX8_row 0 (.aload_n 0) 1 1 8 := ⟨by decide +kernel, rfl, rfl⟩
theorem d_X8_row_1 : nD YX8_row 1 (.iload_n 1) 1 2 8 := ⟨by decide +kernel, rfl, rfl⟩
theorem d_X8_row_2 : nD YX8_row 2 (.invokevirtual 91) 3 5 8 := ⟨by decide +kernel, rfl, rfl⟩
theorem d_X8_row_5 : nD YX8_row 5 (.ifCond .eq 14) 3 8 8 := ⟨by decide +kernel, rfl, rfl⟩
theorem d_X8_row_8 : nD YX8_row 8 (.aload_n 0) 1 9 8 := ⟨by decide +kernel, rfl, rfl⟩
theorem d_X8_row_9 : nD YX8_row 9 (.getfield 13) 3 12 8 := ⟨by decide +kernel, rfl, rfl⟩
theorem d_X8_row_12 : nD YX8_row 12 (.iload_n 1) 1 13 8 := ⟨by decide +kernel, rfl, rfl⟩
theorem d_X8_row_13 : nD YX8_row 13 (.iaload) 1 14 8 := ⟨by decide +kernel, rfl, rfl⟩
theorem d_X8_row_14 : nD YX8_row 14 (.bipush 20) 2 16 8 := ⟨by decide +kernel, rfl, rfl⟩
theorem d_X8_row_16 : nD YX8_row 16 (.if_icmp .ne 5) 3 19 8 := ⟨by decide +kernel, rfl, rfl⟩
theorem d_X8_row_19 : nD YX8_row 19 (.iconst (-1)) 1 20 8 := ⟨by decide +kernel, rfl, rfl⟩
theorem d_X8_row_20 : nD YX8_row 20 (.ireturn) 1 21 8 := ⟨by decide +kernel, rfl, rfl⟩
theorem d_X8_row_21 : nD YX8_row 21 (.aload_n 0) 1 22 8 := ⟨by decide +kernel, rfl, rfl⟩
theorem d_X8_row_22 : nD YX8_row 22 (.getfield 13) 3 25 8 := ⟨by decide +kernel, rfl, rfl⟩
theorem d_X8_row_25 : nD YX8_row 25 (.iload_n 1) 1 26 8 := ⟨by decide +kernel, rfl, rfl⟩
theorem d_X8_row_26 : nD YX8_row 26 (.iaload) 1 27 8 := ⟨by decide +kernel, rfl, rfl⟩
theorem d_X8_row_27 : nD YX8_row 27 (.iconst 1) 1 28 8 := ⟨by decide +kernel, rfl, rfl⟩
theorem d_X8_row_28 : nD YX8_row 28 (.isub) 1 29 8 := ⟨by decide +kernel, rfl, rfl⟩
theorem d_X8_row_29 : nD YX8_row 29 (.istore_n 2) 1 30 8 := ⟨by decide +kernel, rfl, rfl⟩
theorem d_X8_row_30 : nD YX8_row 30 (.aload_n 0) 1 31 8 := ⟨by decide +kernel, rfl, rfl⟩
theorem d_X8_row_31 : nD YX8_row 31 (.iload_n 1) 1 32 8 := ⟨by decide +kernel, rfl, rfl⟩
theorem d_X8_row_32 : nD YX8_row 32 (.iload_n 2) 1 33 8 := ⟨by decide +kernel, rfl, rfl⟩
theorem d_X8_row_33 : nD YX8_row 33 (.invokevirtual 112) 3 36 8 := ⟨by decide +kernel, rfl, rfl⟩
theorem d_X8_row_36 : nD YX8_row 36 (.istore_n 3) 1 37 8 := ⟨by decide +kernel, rfl, rfl⟩
theorem d_X8_row_37 : nD YX8_row 37 (.iload_n 3) 1 38 8 := ⟨by decide +kernel, rfl, rfl⟩
theorem d_X8_row_38 : nD YX8_row 38 (.ifCond .eq 9) 3 41 8 := ⟨by decide +kernel, rfl, rfl⟩
theorem d_X8_row_41 : nD YX8_row 41 (.iload_n 3) 1 42 8 := ⟨by decide +kernel, rfl, rfl⟩
theorem d_X8_row_42 : nD YX8_row 42 (.bipush 24) 2 44 8 := ⟨by decide +kernel, rfl, rfl⟩
theorem d_X8_row_44 : nD YX8_row 44 (.if_icmp .le 5) 3 47 8 := ⟨by decide +kernel, rfl, rfl⟩
theorem d_X8_row_47 : nD YX8_row 47 (.iconst (-1)) 1 48 8 := ⟨by decide +kernel, rfl, rfl⟩
theorem d_X8_row_48 : nD YX8_row 48 (.ireturn) 1 49 8 := ⟨by decide +kernel, rfl, rfl⟩
theorem d_X8_row_49 : nD YX8_row 49 (.aload_n 0) 1 50 8 := ⟨by decide +kernel, rfl, rfl⟩
theorem d_X8_row_50 : nD YX8_row 50 (.getfield 13) 3 53 8 := ⟨by decide +kernel, rfl, rfl⟩
theorem d_X8_row_53 : nD YX8_row 53 (.iload_n 1) 1 54 8 := ⟨by decide +kernel, rfl, rfl⟩
theorem d_X8_row_54 : nD YX8_row 54 (.iaload) 1 55 8 := ⟨by decide +kernel, rfl, rfl⟩
theorem d_X8_row_55 : nD YX8_row 55 (.istore 4) 2 57 8 := ⟨by decide +kernel, rfl, rfl⟩
theorem d_X8_row_57 : nD YX8_row 57 (.aload_n 0) 1 58 8 := ⟨by decide +kernel, rfl, rfl⟩
theorem d_X8_row_58 : nD YX8_row 58 (.iload_n 1) 1 59 8 := ⟨by decide +kernel, rfl, rfl⟩
theorem d_X8_row_59 : nD YX8_row 59 (.iload 4) 2 61 8 := ⟨by decide +kernel, rfl, rfl⟩
theorem d_X8_row_61 : nD YX8_row 61 (.invokevirtual 108) 3 64 8 := ⟨by decide +kernel, rfl, rfl⟩
theorem d_X8_row_64 : nD YX8_row 64 (.aload_n 0) 1 65 8 := ⟨by decide +kernel, rfl, rfl⟩
theorem d_X8_row_65 : nD YX8_row 65 (.getfield 32) 3 68 8 := ⟨by decide +kernel, rfl, rfl⟩
theorem d_X8_row_68 : nD YX8_row 68 (.bipush 20) 2 70 8 := ⟨by decide +kernel, rfl, rfl⟩
theorem d_X8_row_70 : nD YX8_row 70 (.iload_n 1) 1 71 8 := ⟨by decide +kernel, rfl, rfl⟩
theorem d_X8_row_71 : nD YX8_row 71 (.imul) 1 72 8 := ⟨by decide +kernel, rfl, rfl⟩
theorem d_X8_row_72 : nD YX8_row 72 (.iload 4) 2 74 8 := ⟨by decide +kernel, rfl, rfl⟩
theorem d_X8_row_74 : nD YX8_row 74 (.iadd) 1 75 8 := ⟨by decide +kernel, rfl, rfl⟩
theorem d_X8_row_75 : nD YX8_row 75 (.iload_n 3) 1 76 8 := ⟨by decide +kernel, rfl, rfl⟩
theorem d_X8_row_76 : nD YX8_row 76 (.iastore) 1 77 8 := ⟨by decide +kernel, rfl, rfl⟩
theorem d_X8_row_77 : nD YX8_row 77 (.aload_n 0) 1 78 8 := ⟨by decide +kernel, rfl, rfl⟩
theorem d_X8_row_78 : nD YX8_row 78 (.getfield 13) 3 81 8 := ⟨by decide +kernel, rfl, rfl⟩
theorem d_X8_row_81 : nD YX8_row 81 (.iload_n 1) 1 82 8 := ⟨by decide +kernel, rfl, rfl⟩
theorem d_X8_row_82 : nD YX8_row 82 (.dup2) 1 83 8 := ⟨by decide +kernel, rfl, rfl⟩
theorem d_X8_row_83 : nD YX8_row 83 (.iaload) 1 84 8 := ⟨by decide +kernel, rfl, rfl⟩
theorem d_X8_row_84 : nD YX8_row 84 (.iconst 1) 1 85 8 := ⟨by decide +kernel, rfl, rfl⟩
theorem d_X8_row_85 : nD YX8_row 85 (.iadd) 1 86 8 := ⟨by decide +kernel, rfl, rfl⟩
theorem d_X8_row_86 : nD YX8_row 86 (.iastore) 1 87 8 := ⟨by decide +kernel, rfl, rfl⟩
theorem d_X8_row_87 : nD YX8_row 87 (.aload_n 0) 1 88 8 := ⟨by decide +kernel, rfl, rfl⟩
theorem d_X8_row_88 : nD YX8_row 88 (.iload_n 1) 1 89 8 := ⟨by decide +kernel, rfl, rfl⟩
theorem d_X8_row_89 : nD YX8_row 89 (.iload 4) 2 91 8 := ⟨by decide +kernel, rfl, rfl⟩
theorem d_X8_row_91 : nD YX8_row 91 (.invokevirtual 115) 3 94 8 := ⟨by decide +kernel, rfl, rfl⟩
theorem d_X8_row_94 : nD YX8_row 94 (.iload_n 3) 1 95 8 := ⟨by decide +kernel, rfl, rfl⟩
theorem d_X8_row_95 : nD YX8_row 95 (.ireturn) 1 96 8 := ⟨by decide +kernel, rfl, rfl⟩
theorem d_X8_becomes_0 : nD YX8_becomes 0 (.aload_n 0) 1 1 8 := ⟨by decide +kernel, rfl, rfl⟩
theorem d_X8_becomes_1 : nD YX8_becomes 1 (.getfield 39) 3 4 8 := ⟨by decide +kernel, rfl, rfl⟩
theorem d_X8_becomes_4 : nD YX8_becomes 4 (.iload_n 1) 1 5 8 := ⟨by decide +kernel, rfl, rfl⟩
theorem d_X8_becomes_5 : nD YX8_becomes 5 (.iload_n 2) 1 6 8 := ⟨by decide +kernel, rfl, rfl⟩
theorem d_X8_becomes_6 : nD YX8_becomes 6 (.iastore) 1 7 8 := ⟨by decide +kernel, rfl, rfl⟩
theorem d_X8_becomes_7 : nD YX8_becomes 7 (.aload_n 0) 1 8 8 := ⟨by decide +kernel, rfl, rfl⟩
theorem d_X8_becomes_8 : nD YX8_becomes 8 (.getfield 42) 3 11 8 := ⟨by decide +kernel, rfl, rfl⟩
theorem d_X8_becomes_11 : nD YX8_becomes 11 (.iload_n 1) 1 12 8 := ⟨by decide +kernel, rfl, rfl⟩
theorem d_X8_becomes_12 : nD YX8_becomes 12 (.iload_n 2) 1 13 8 := ⟨by decide +kernel, rfl, rfl⟩
theorem d_X8_becomes_13 : nD YX8_becomes 13 (.ifCond .ne 7) 3 16 8 := ⟨by decide +kernel, rfl, rfl⟩
theorem d_X8_becomes_16 : nD YX8_becomes 16 (.iconst 1) 1 17 8 := ⟨by decide +kernel, rfl, rfl⟩
theorem d_X8_becomes_17 : nD YX8_becomes 17 (.goto 13) 3 20 8 := ⟨by decide +kernel, rfl, rfl⟩
theorem d_X8_becomes_20 : nD YX8_becomes 20 (.iload_n 2) 1 21 8 := ⟨by decide +kernel, rfl, rfl⟩
theorem d_X8_becomes_21 : nD YX8_becomes 21 (.iconst 1) 1 22 8 := ⟨by decide +kernel, rfl, rfl⟩
theorem d_X8_becomes_22 : nD YX8_becomes 22 (.if_icmp .ne 7) 3 25 8 := ⟨by decide +kernel, rfl, rfl⟩
theorem d_X8_becomes_25 : nD YX8_becomes 25 (.iconst 2) 1 26 8 := ⟨by decide +kernel, rfl, rfl⟩
theorem d_X8_becomes_26 : nD YX8_becomes 26 (.goto 4) 3 29 8 := ⟨by decide +kernel, rfl, rfl⟩
theorem d_X8_becomes_29 : nD YX8_becomes 29 (.iconst 0) 1 30 8 := ⟨by decide +kernel, rfl, rfl⟩
theorem d_X8_becomes_30 : nD YX8_becomes 30 (.iastore) 1 31 8 := ⟨by decide +kernel, rfl, rfl⟩
theorem d_X8_becomes_31 : nD YX8_becomes 31 (.return_) 1 32 8 := ⟨by decide +kernel, rfl, rfl⟩
theorem d_X8_kind_0 : nD YX8_kind 0 (.aload_n 0) 1 1 8 := ⟨by decide +kernel, rfl, rfl⟩
theorem d_X8_kind_1 : nD YX8_kind 1 (.iload_n 1) 1 2 8 := ⟨by decide +kernel, rfl, rfl⟩
theorem d_X8_kind_2 : nD YX8_kind 2 (.invokevirtual 91) 3 5 8 := ⟨by decide +kernel, rfl, rfl⟩
theorem d_X8_kind_5 : nD YX8_kind 5 (.ifCond .eq 38) 3 8 8 := ⟨by decide +kernel, rfl, rfl⟩
theorem d_X8_kind_8 : nD YX8_kind 8 (.aload_n 0) 1 9 8 := ⟨by decide +kernel, rfl, rfl⟩
theorem d_X8_kind_9 : nD YX8_kind 9 (.iload_n 1) 1 10 8 := ⟨by decide +kernel, rfl, rfl⟩
theorem d_X8_kind_10 : nD YX8_kind 10 (.aload_n 0) 1 11 8 := ⟨by decide +kernel, rfl, rfl⟩
theorem d_X8_kind_11 : nD YX8_kind 11 (.getfield 13) 3 14 8 := ⟨by decide +kernel, rfl, rfl⟩
theorem d_X8_kind_14 : nD YX8_kind 14 (.iload_n 1) 1 15 8 := ⟨by decide +kernel, rfl, rfl⟩
theorem d_X8_kind_15 : nD YX8_kind 15 (.iaload) 1 16 8 := ⟨by decide +kernel, rfl, rfl⟩
theorem d_X8_kind_16 : nD YX8_kind 16 (.iconst 1) 1 17 8 := ⟨by decide +kernel, rfl, rfl⟩
theorem d_X8_kind_17 : nD YX8_kind 17 (.isub) 1 18 8 := ⟨by decide +kernel, rfl, rfl⟩
theorem d_X8_kind_18 : nD YX8_kind 18 (.iload_n 2) 1 19 8 := ⟨by decide +kernel, rfl, rfl⟩
theorem d_X8_kind_19 : nD YX8_kind 19 (.invokevirtual 118) 3 22 8 := ⟨by decide +kernel, rfl, rfl⟩
theorem d_X8_kind_22 : nD YX8_kind 22 (.ifCond .eq 21) 3 25 8 := ⟨by decide +kernel, rfl, rfl⟩
theorem d_X8_kind_25 : nD YX8_kind 25 (.iload_n 3) 1 26 8 := ⟨by decide +kernel, rfl, rfl⟩
theorem d_X8_kind_26 : nD YX8_kind 26 (.ifCond .lt 17) 3 29 8 := ⟨by decide +kernel, rfl, rfl⟩
theorem d_X8_kind_29 : nD YX8_kind 29 (.iload_n 3) 1 30 8 := ⟨by decide +kernel, rfl, rfl⟩
theorem d_X8_kind_30 : nD YX8_kind 30 (.iconst 2) 1 31 8 := ⟨by decide +kernel, rfl, rfl⟩
theorem d_X8_kind_31 : nD YX8_kind 31 (.if_icmp .gt 12) 3 34 8 := ⟨by decide +kernel, rfl, rfl⟩
theorem d_X8_kind_34 : nD YX8_kind 34 (.iload_n 3) 1 35 8 := ⟨by decide +kernel, rfl, rfl⟩
theorem d_X8_kind_35 : nD YX8_kind 35 (.iconst 2) 1 36 8 := ⟨by decide +kernel, rfl, rfl⟩
theorem d_X8_kind_36 : nD YX8_kind 36 (.if_icmp .ne 9) 3 39 8 := ⟨by decide +kernel, rfl, rfl⟩
theorem d_X8_kind_39 : nD YX8_kind 39 (.iload_n 2) 1 40 8 := ⟨by decide +kernel, rfl, rfl⟩
theorem d_X8_kind_40 : nD YX8_kind 40 (.ifCond .ne 5) 3 43 8 := ⟨by decide +kernel, rfl, rfl⟩
theorem d_X8_kind_43 : nD YX8_kind 43 (.iconst 0) 1 44 8 := ⟨by decide +kernel, rfl, rfl⟩
theorem d_X8_kind_44 : nD YX8_kind 44 (.ireturn) 1 45 8 := ⟨by decide +kernel, rfl, rfl⟩
theorem d_X8_kind_45 : nD YX8_kind 45 (.aload_n 0) 1 46 8 := ⟨by decide +kernel, rfl, rfl⟩
theorem d_X8_kind_46 : nD YX8_kind 46 (.iload_n 1) 1 47 8 := ⟨by decide +kernel, rfl, rfl⟩
theorem d_X8_kind_47 : nD YX8_kind 47 (.aload_n 0) 1 48 8 := ⟨by decide +kernel, rfl, rfl⟩
theorem d_X8_kind_48 : nD YX8_kind 48 (.getfield 13) 3 51 8 := ⟨by decide +kernel, rfl, rfl⟩
theorem d_X8_kind_51 : nD YX8_kind 51 (.iload_n 1) 1 52 8 := ⟨by decide +kernel, rfl, rfl⟩
theorem d_X8_kind_52 : nD YX8_kind 52 (.iaload) 1 53 8 := ⟨by decide +kernel, rfl, rfl⟩
theorem d_X8_kind_53 : nD YX8_kind 53 (.iconst 1) 1 54 8 := ⟨by decide +kernel, rfl, rfl⟩
theorem d_X8_kind_54 : nD YX8_kind 54 (.isub) 1 55 8 := ⟨by decide +kernel, rfl, rfl⟩
theorem d_X8_kind_55 : nD YX8_kind 55 (.iload_n 2) 1 56 8 := ⟨by decide +kernel, rfl, rfl⟩
theorem d_X8_kind_56 : nD YX8_kind 56 (.invokestatic 99) 3 59 8 := ⟨by decide +kernel, rfl, rfl⟩
theorem d_X8_kind_59 : nD YX8_kind 59 (.iload_n 3) 1 60 8 := ⟨by decide +kernel, rfl, rfl⟩
theorem d_X8_kind_60 : nD YX8_kind 60 (.invokevirtual 122) 3 63 8 := ⟨by decide +kernel, rfl, rfl⟩
theorem d_X8_kind_63 : nD YX8_kind 63 (.iconst 1) 1 64 8 := ⟨by decide +kernel, rfl, rfl⟩
theorem d_X8_kind_64 : nD YX8_kind 64 (.ireturn) 1 65 8 := ⟨by decide +kernel, rfl, rfl⟩
theorem d_X8_shaped_0 : nD YX8_shaped 0 (.iload_n 3) 1 1 8 := ⟨by decide +kernel, rfl, rfl⟩
theorem d_X8_shaped_1 : nD YX8_shaped 1 (.iconst 2) 1 2 8 := ⟨by decide +kernel, rfl, rfl⟩
theorem d_X8_shaped_2 : nD YX8_shaped 2 (.if_icmp .ne 14) 3 5 8 := ⟨by decide +kernel, rfl, rfl⟩
theorem d_X8_shaped_5 : nD YX8_shaped 5 (.iload_n 2) 1 6 8 := ⟨by decide +kernel, rfl, rfl⟩
theorem d_X8_shaped_6 : nD YX8_shaped 6 (.iconst 1) 1 7 8 := ⟨by decide +kernel, rfl, rfl⟩
theorem d_X8_shaped_7 : nD YX8_shaped 7 (.if_icmp .ne 9) 3 10 8 := ⟨by decide +kernel, rfl, rfl⟩
theorem d_X8_shaped_10 : nD YX8_shaped 10 (.lload_n 0) 1 11 8 := ⟨by decide +kernel, rfl, rfl⟩
theorem d_X8_shaped_11 : nD YX8_shaped 11 (.lconst 1) 1 12 8 := ⟨by decide +kernel, rfl, rfl⟩
theorem d_X8_shaped_12 : nD YX8_shaped 12 (.lsub) 1 13 8 := ⟨by decide +kernel, rfl, rfl⟩
theorem d_X8_shaped_13 : nD YX8_shaped 13 (.goto 7) 3 16 8 := ⟨by decide +kernel, rfl, rfl⟩
theorem d_X8_shaped_16 : nD YX8_shaped 16 (.lload_n 0) 1 17 8 := ⟨by decide +kernel, rfl, rfl⟩
theorem d_X8_shaped_17 : nD YX8_shaped 17 (.iload_n 2) 1 18 8 := ⟨by decide +kernel, rfl, rfl⟩
theorem d_X8_shaped_18 : nD YX8_shaped 18 (.i2l) 1 19 8 := ⟨by decide +kernel, rfl, rfl⟩
theorem d_X8_shaped_19 : nD YX8_shaped 19 (.ldiv) 1 20 8 := ⟨by decide +kernel, rfl, rfl⟩
theorem d_X8_shaped_20 : nD YX8_shaped 20 (.lreturn) 1 21 8 := ⟨by decide +kernel, rfl, rfl⟩
theorem d_X8_shape_0 : nD YX8_shape 0 (.aload_n 0) 1 1 8 := ⟨by decide +kernel, rfl, rfl⟩
theorem d_X8_shape_1 : nD YX8_shape 1 (.iload_n 1) 1 2 8 := ⟨by decide +kernel, rfl, rfl⟩
theorem d_X8_shape_2 : nD YX8_shape 2 (.invokevirtual 91) 3 5 8 := ⟨by decide +kernel, rfl, rfl⟩
theorem d_X8_shape_5 : nD YX8_shape 5 (.ifCond .eq 37) 3 8 8 := ⟨by decide +kernel, rfl, rfl⟩
theorem d_X8_shape_8 : nD YX8_shape 8 (.iload_n 2) 1 9 8 := ⟨by decide +kernel, rfl, rfl⟩
theorem d_X8_shape_9 : nD YX8_shape 9 (.iconst 1) 1 10 8 := ⟨by decide +kernel, rfl, rfl⟩
theorem d_X8_shape_10 : nD YX8_shape 10 (.if_icmp .lt 32) 3 13 8 := ⟨by decide +kernel, rfl, rfl⟩
theorem d_X8_shape_13 : nD YX8_shape 13 (.iload_n 2) 1 14 8 := ⟨by decide +kernel, rfl, rfl⟩
theorem d_X8_shape_14 : nD YX8_shape 14 (.bipush 19) 2 16 8 := ⟨by decide +kernel, rfl, rfl⟩
theorem d_X8_shape_16 : nD YX8_shape 16 (.if_icmp .gt 26) 3 19 8 := ⟨by decide +kernel, rfl, rfl⟩
theorem d_X8_shape_19 : nD YX8_shape 19 (.iload_n 3) 1 20 8 := ⟨by decide +kernel, rfl, rfl⟩
theorem d_X8_shape_20 : nD YX8_shape 20 (.iconst 1) 1 21 8 := ⟨by decide +kernel, rfl, rfl⟩
theorem d_X8_shape_21 : nD YX8_shape 21 (.if_icmp .lt 21) 3 24 8 := ⟨by decide +kernel, rfl, rfl⟩
theorem d_X8_shape_24 : nD YX8_shape 24 (.iload_n 3) 1 25 8 := ⟨by decide +kernel, rfl, rfl⟩
theorem d_X8_shape_25 : nD YX8_shape 25 (.bipush 24) 2 27 8 := ⟨by decide +kernel, rfl, rfl⟩
theorem d_X8_shape_27 : nD YX8_shape 27 (.if_icmp .gt 15) 3 30 8 := ⟨by decide +kernel, rfl, rfl⟩
theorem d_X8_shape_30 : nD YX8_shape 30 (.iload 4) 2 32 8 := ⟨by decide +kernel, rfl, rfl⟩
theorem d_X8_shape_32 : nD YX8_shape 32 (.iconst 1) 1 33 8 := ⟨by decide +kernel, rfl, rfl⟩
theorem d_X8_shape_33 : nD YX8_shape 33 (.if_icmp .lt 9) 3 36 8 := ⟨by decide +kernel, rfl, rfl⟩
theorem d_X8_shape_36 : nD YX8_shape 36 (.iload 4) 2 38 8 := ⟨by decide +kernel, rfl, rfl⟩
theorem d_X8_shape_38 : nD YX8_shape 38 (.iconst 2) 1 39 8 := ⟨by decide +kernel, rfl, rfl⟩
theorem d_X8_shape_39 : nD YX8_shape 39 (.if_icmp .le 5) 3 42 8 := ⟨by decide +kernel, rfl, rfl⟩
theorem d_X8_shape_42 : nD YX8_shape 42 (.iconst (-1)) 1 43 8 := ⟨by decide +kernel, rfl, rfl⟩
theorem d_X8_shape_43 : nD YX8_shape 43 (.ireturn) 1 44 8 := ⟨by decide +kernel, rfl, rfl⟩
theorem d_X8_shape_44 : nD YX8_shape 44 (.aload_n 0) 1 45 8 := ⟨by decide +kernel, rfl, rfl⟩
theorem d_X8_shape_45 : nD YX8_shape 45 (.getfield 32) 3 48 8 := ⟨by decide +kernel, rfl, rfl⟩
theorem d_X8_shape_48 : nD YX8_shape 48 (.bipush 20) 2 50 8 := ⟨by decide +kernel, rfl, rfl⟩
theorem d_X8_shape_50 : nD YX8_shape 50 (.iload_n 1) 1 51 8 := ⟨by decide +kernel, rfl, rfl⟩
theorem d_X8_shape_51 : nD YX8_shape 51 (.imul) 1 52 8 := ⟨by decide +kernel, rfl, rfl⟩
theorem d_X8_shape_52 : nD YX8_shape 52 (.aload_n 0) 1 53 8 := ⟨by decide +kernel, rfl, rfl⟩
theorem d_X8_shape_53 : nD YX8_shape 53 (.getfield 13) 3 56 8 := ⟨by decide +kernel, rfl, rfl⟩
theorem d_X8_shape_56 : nD YX8_shape 56 (.iload_n 1) 1 57 8 := ⟨by decide +kernel, rfl, rfl⟩
theorem d_X8_shape_57 : nD YX8_shape 57 (.iaload) 1 58 8 := ⟨by decide +kernel, rfl, rfl⟩
theorem d_X8_shape_58 : nD YX8_shape 58 (.iadd) 1 59 8 := ⟨by decide +kernel, rfl, rfl⟩
theorem d_X8_shape_59 : nD YX8_shape 59 (.iconst 1) 1 60 8 := ⟨by decide +kernel, rfl, rfl⟩
theorem d_X8_shape_60 : nD YX8_shape 60 (.isub) 1 61 8 := ⟨by decide +kernel, rfl, rfl⟩
theorem d_X8_shape_61 : nD YX8_shape 61 (.iaload) 1 62 8 := ⟨by decide +kernel, rfl, rfl⟩
theorem d_X8_shape_62 : nD YX8_shape 62 (.i2l) 1 63 8 := ⟨by decide +kernel, rfl, rfl⟩
theorem d_X8_shape_63 : nD YX8_shape 63 (.lstore 5) 2 65 8 := ⟨by decide +kernel, rfl, rfl⟩
theorem d_X8_shape_65 : nD YX8_shape 65 (.lload 5) 2 67 8 := ⟨by decide +kernel, rfl, rfl⟩
theorem d_X8_shape_67 : nD YX8_shape 67 (.lconst 0) 1 68 8 := ⟨by decide +kernel, rfl, rfl⟩
theorem d_X8_shape_68 : nD YX8_shape 68 (.lcmp) 1 69 8 := ⟨by decide +kernel, rfl, rfl⟩
theorem d_X8_shape_69 : nD YX8_shape 69 (.ifCond .eq 16) 3 72 8 := ⟨by decide +kernel, rfl, rfl⟩
theorem d_X8_shape_72 : nD YX8_shape 72 (.aload_n 0) 1 73 8 := ⟨by decide +kernel, rfl, rfl⟩
theorem d_X8_shape_73 : nD YX8_shape 73 (.getfield 13) 3 76 8 := ⟨by decide +kernel, rfl, rfl⟩
theorem d_X8_shape_76 : nD YX8_shape 76 (.iload_n 1) 1 77 8 := ⟨by decide +kernel, rfl, rfl⟩
theorem d_X8_shape_77 : nD YX8_shape 77 (.iaload) 1 78 8 := ⟨by decide +kernel, rfl, rfl⟩
theorem d_X8_shape_78 : nD YX8_shape 78 (.iload_n 2) 1 79 8 := ⟨by decide +kernel, rfl, rfl⟩
theorem d_X8_shape_79 : nD YX8_shape 79 (.iadd) 1 80 8 := ⟨by decide +kernel, rfl, rfl⟩
theorem d_X8_shape_80 : nD YX8_shape 80 (.bipush 20) 2 82 8 := ⟨by decide +kernel, rfl, rfl⟩
theorem d_X8_shape_82 : nD YX8_shape 82 (.if_icmp .le 5) 3 85 8 := ⟨by decide +kernel, rfl, rfl⟩
theorem d_X8_shape_85 : nD YX8_shape 85 (.iconst (-1)) 1 86 8 := ⟨by decide +kernel, rfl, rfl⟩
theorem d_X8_shape_86 : nD YX8_shape 86 (.ireturn) 1 87 8 := ⟨by decide +kernel, rfl, rfl⟩
theorem d_X8_shape_87 : nD YX8_shape 87 (.iconst 0) 1 88 8 := ⟨by decide +kernel, rfl, rfl⟩
theorem d_X8_shape_88 : nD YX8_shape 88 (.istore 7) 2 90 8 := ⟨by decide +kernel, rfl, rfl⟩
theorem d_X8_shape_90 : nD YX8_shape 90 (.iload 7) 2 92 8 := ⟨by decide +kernel, rfl, rfl⟩
theorem d_X8_shape_92 : nD YX8_shape 92 (.iload_n 2) 1 93 8 := ⟨by decide +kernel, rfl, rfl⟩
theorem d_X8_shape_93 : nD YX8_shape 93 (.if_icmp .ge 49) 3 96 8 := ⟨by decide +kernel, rfl, rfl⟩
theorem d_X8_shape_96 : nD YX8_shape 96 (.lload 5) 2 98 8 := ⟨by decide +kernel, rfl, rfl⟩
theorem d_X8_shape_98 : nD YX8_shape 98 (.iload 4) 2 100 8 := ⟨by decide +kernel, rfl, rfl⟩
theorem d_X8_shape_100 : nD YX8_shape 100 (.iconst 1) 1 101 8 := ⟨by decide +kernel, rfl, rfl⟩
theorem d_X8_shape_101 : nD YX8_shape 101 (.if_icmp .ne 13) 3 104 8 := ⟨by decide +kernel, rfl, rfl⟩
theorem d_X8_shape_104 : nD YX8_shape 104 (.lload 5) 2 106 8 := ⟨by decide +kernel, rfl, rfl⟩
theorem d_X8_shape_106 : nD YX8_shape 106 (.iload_n 3) 1 107 8 := ⟨by decide +kernel, rfl, rfl⟩
theorem d_X8_shape_107 : nD YX8_shape 107 (.iconst 1) 1 108 8 := ⟨by decide +kernel, rfl, rfl⟩
theorem d_X8_shape_108 : nD YX8_shape 108 (.invokestatic 125) 3 111 8 := ⟨by decide +kernel, rfl, rfl⟩
theorem d_X8_shape_111 : nD YX8_shape 111 (.goto 11) 3 114 8 := ⟨by decide +kernel, rfl, rfl⟩
theorem d_X8_shape_114 : nD YX8_shape 114 (.lload 5) 2 116 8 := ⟨by decide +kernel, rfl, rfl⟩
theorem d_X8_shape_116 : nD YX8_shape 116 (.iload_n 3) 1 117 8 := ⟨by decide +kernel, rfl, rfl⟩
theorem d_X8_shape_117 : nD YX8_shape 117 (.iconst 2) 1 118 8 := ⟨by decide +kernel, rfl, rfl⟩
theorem d_X8_shape_118 : nD YX8_shape 118 (.invokestatic 125) 3 121 8 := ⟨by decide +kernel, rfl, rfl⟩
theorem d_X8_shape_121 : nD YX8_shape 121 (.lneg) 1 122 8 := ⟨by decide +kernel, rfl, rfl⟩
theorem d_X8_shape_122 : nD YX8_shape 122 (.ladd) 1 123 8 := ⟨by decide +kernel, rfl, rfl⟩
theorem d_X8_shape_123 : nD YX8_shape 123 (.lstore 5) 2 125 8 := ⟨by decide +kernel, rfl, rfl⟩
theorem d_X8_shape_125 : nD YX8_shape 125 (.lload 5) 2 127 8 := ⟨by decide +kernel, rfl, rfl⟩
theorem d_X8_shape_127 : nD YX8_shape 127 (.ldc2_w 129) 3 130 8 := ⟨by decide +kernel, rfl, rfl⟩
theorem d_X8_shape_130 : nD YX8_shape 130 (.lcmp) 1 131 8 := ⟨by decide +kernel, rfl, rfl⟩
theorem d_X8_shape_131 : nD YX8_shape 131 (.ifCond .le 5) 3 134 8 := ⟨by decide +kernel, rfl, rfl⟩
theorem d_X8_shape_134 : nD YX8_shape 134 (.iconst (-1)) 1 135 8 := ⟨by decide +kernel, rfl, rfl⟩
theorem d_X8_shape_135 : nD YX8_shape 135 (.ireturn) 1 136 8 := ⟨by decide +kernel, rfl, rfl⟩
theorem d_X8_shape_136 : nD YX8_shape 136 (.iinc 7 1) 3 139 8 := ⟨by decide +kernel, rfl, rfl⟩
theorem d_X8_shape_139 : nD YX8_shape 139 (.goto (-49)) 3 142 8 := ⟨by decide +kernel, rfl, rfl⟩
theorem d_X8_shape_142 : nD YX8_shape 142 (.iconst 0) 1 143 8 := ⟨by decide +kernel, rfl, rfl⟩
theorem d_X8_shape_143 : nD YX8_shape 143 (.istore 7) 2 145 8 := ⟨by decide +kernel, rfl, rfl⟩
theorem d_X8_shape_145 : nD YX8_shape 145 (.iload 7) 2 147 8 := ⟨by decide +kernel, rfl, rfl⟩
theorem d_X8_shape_147 : nD YX8_shape 147 (.iload_n 2) 1 148 8 := ⟨by decide +kernel, rfl, rfl⟩
theorem d_X8_shape_148 : nD YX8_shape 148 (.if_icmp .ge 90) 3 151 8 := ⟨by decide +kernel, rfl, rfl⟩
theorem d_X8_shape_151 : nD YX8_shape 151 (.aload_n 0) 1 152 8 := ⟨by decide +kernel, rfl, rfl⟩
theorem d_X8_shape_152 : nD YX8_shape 152 (.getfield 13) 3 155 8 := ⟨by decide +kernel, rfl, rfl⟩
theorem d_X8_shape_155 : nD YX8_shape 155 (.iload_n 1) 1 156 8 := ⟨by decide +kernel, rfl, rfl⟩
theorem d_X8_shape_156 : nD YX8_shape 156 (.iaload) 1 157 8 := ⟨by decide +kernel, rfl, rfl⟩
theorem d_X8_shape_157 : nD YX8_shape 157 (.iconst 1) 1 158 8 := ⟨by decide +kernel, rfl, rfl⟩
theorem d_X8_shape_158 : nD YX8_shape 158 (.isub) 1 159 8 := ⟨by decide +kernel, rfl, rfl⟩
theorem d_X8_shape_159 : nD YX8_shape 159 (.istore 8) 2 161 8 := ⟨by decide +kernel, rfl, rfl⟩
theorem d_X8_shape_161 : nD YX8_shape 161 (.iconst 0) 1 162 8 := ⟨by decide +kernel, rfl, rfl⟩
theorem d_X8_shape_162 : nD YX8_shape 162 (.istore 9) 2 164 8 := ⟨by decide +kernel, rfl, rfl⟩
theorem d_X8_shape_164 : nD YX8_shape 164 (.iload 9) 2 166 8 := ⟨by decide +kernel, rfl, rfl⟩
theorem d_X8_shape_166 : nD YX8_shape 166 (.aload_n 0) 1 167 8 := ⟨by decide +kernel, rfl, rfl⟩
theorem d_X8_shape_167 : nD YX8_shape 167 (.getfield 32) 3 170 8 := ⟨by decide +kernel, rfl, rfl⟩
theorem d_X8_shape_170 : nD YX8_shape 170 (.bipush 20) 2 172 8 := ⟨by decide +kernel, rfl, rfl⟩
theorem d_X8_shape_172 : nD YX8_shape 172 (.iload_n 1) 1 173 8 := ⟨by decide +kernel, rfl, rfl⟩
theorem d_X8_shape_173 : nD YX8_shape 173 (.imul) 1 174 8 := ⟨by decide +kernel, rfl, rfl⟩
theorem d_X8_shape_174 : nD YX8_shape 174 (.iload 8) 2 176 8 := ⟨by decide +kernel, rfl, rfl⟩
theorem d_X8_shape_176 : nD YX8_shape 176 (.iadd) 1 177 8 := ⟨by decide +kernel, rfl, rfl⟩
theorem d_X8_shape_177 : nD YX8_shape 177 (.iaload) 1 178 8 := ⟨by decide +kernel, rfl, rfl⟩
theorem d_X8_shape_178 : nD YX8_shape 178 (.if_icmp .ge 47) 3 181 8 := ⟨by decide +kernel, rfl, rfl⟩
theorem d_X8_shape_181 : nD YX8_shape 181 (.aload_n 0) 1 182 8 := ⟨by decide +kernel, rfl, rfl⟩
theorem d_X8_shape_182 : nD YX8_shape 182 (.iload_n 1) 1 183 8 := ⟨by decide +kernel, rfl, rfl⟩
theorem d_X8_shape_183 : nD YX8_shape 183 (.iload 8) 2 185 8 := ⟨by decide +kernel, rfl, rfl⟩
theorem d_X8_shape_185 : nD YX8_shape 185 (.iload 9) 2 187 8 := ⟨by decide +kernel, rfl, rfl⟩
theorem d_X8_shape_187 : nD YX8_shape 187 (.invokestatic 99) 3 190 8 := ⟨by decide +kernel, rfl, rfl⟩
theorem d_X8_shape_190 : nD YX8_shape 190 (.iload 9) 2 192 8 := ⟨by decide +kernel, rfl, rfl⟩
theorem d_X8_shape_192 : nD YX8_shape 192 (.iconst 1) 1 193 8 := ⟨by decide +kernel, rfl, rfl⟩
theorem d_X8_shape_193 : nD YX8_shape 193 (.iadd) 1 194 8 := ⟨by decide +kernel, rfl, rfl⟩
theorem d_X8_shape_194 : nD YX8_shape 194 (.iload_n 3) 1 195 8 := ⟨by decide +kernel, rfl, rfl⟩
theorem d_X8_shape_195 : nD YX8_shape 195 (.irem) 1 196 8 := ⟨by decide +kernel, rfl, rfl⟩
theorem d_X8_shape_196 : nD YX8_shape 196 (.ifCond .ne 19) 3 199 8 := ⟨by decide +kernel, rfl, rfl⟩
theorem d_X8_shape_199 : nD YX8_shape 199 (.iload 4) 2 201 8 := ⟨by decide +kernel, rfl, rfl⟩
theorem d_X8_shape_201 : nD YX8_shape 201 (.iconst 2) 1 202 8 := ⟨by decide +kernel, rfl, rfl⟩
theorem d_X8_shape_202 : nD YX8_shape 202 (.if_icmp .ne 8) 3 205 8 := ⟨by decide +kernel, rfl, rfl⟩
theorem d_X8_shape_205 : nD YX8_shape 205 (.iload 9) 2 207 8 := ⟨by decide +kernel, rfl, rfl⟩
theorem d_X8_shape_207 : nD YX8_shape 207 (.ifCond .eq 8) 3 210 8 := ⟨by decide +kernel, rfl, rfl⟩
theorem d_X8_shape_210 : nD YX8_shape 210 (.iload 4) 2 212 8 := ⟨by decide +kernel, rfl, rfl⟩
theorem d_X8_shape_212 : nD YX8_shape 212 (.goto 4) 3 215 8 := ⟨by decide +kernel, rfl, rfl⟩
theorem d_X8_shape_215 : nD YX8_shape 215 (.iconst 0) 1 216 8 := ⟨by decide +kernel, rfl, rfl⟩
theorem d_X8_shape_216 : nD YX8_shape 216 (.invokevirtual 122) 3 219 8 := ⟨by decide +kernel, rfl, rfl⟩
theorem d_X8_shape_219 : nD YX8_shape 219 (.iinc 9 1) 3 222 8 := ⟨by decide +kernel, rfl, rfl⟩
theorem d_X8_shape_222 : nD YX8_shape 222 (.goto (-58)) 3 225 8 := ⟨by decide +kernel, rfl, rfl⟩
theorem d_X8_shape_225 : nD YX8_shape 225 (.aload_n 0) 1 226 8 := ⟨by decide +kernel, rfl, rfl⟩
theorem d_X8_shape_226 : nD YX8_shape 226 (.iload_n 1) 1 227 8 := ⟨by decide +kernel, rfl, rfl⟩
theorem d_X8_shape_227 : nD YX8_shape 227 (.invokevirtual 131) 3 230 8 := ⟨by decide +kernel, rfl, rfl⟩
theorem d_X8_shape_230 : nD YX8_shape 230 (.istore 9) 2 232 8 := ⟨by decide +kernel, rfl, rfl⟩
theorem d_X8_shape_232 : nD YX8_shape 232 (.iinc 7 1) 3 235 8 := ⟨by decide +kernel, rfl, rfl⟩
theorem d_X8_shape_235 : nD YX8_shape 235 (.goto (-90)) 3 238 8 := ⟨by decide +kernel, rfl, rfl⟩
theorem d_X8_shape_238 : nD YX8_shape 238 (.aload_n 0) 1 239 8 := ⟨by decide +kernel, rfl, rfl⟩
theorem d_X8_shape_239 : nD YX8_shape 239 (.getfield 32) 3 242 8 := ⟨by decide +kernel, rfl, rfl⟩
theorem d_X8_shape_242 : nD YX8_shape 242 (.bipush 20) 2 244 8 := ⟨by decide +kernel, rfl, rfl⟩
theorem d_X8_shape_244 : nD YX8_shape 244 (.iload_n 1) 1 245 8 := ⟨by decide +kernel, rfl, rfl⟩
theorem d_X8_shape_245 : nD YX8_shape 245 (.imul) 1 246 8 := ⟨by decide +kernel, rfl, rfl⟩
theorem d_X8_shape_246 : nD YX8_shape 246 (.aload_n 0) 1 247 8 := ⟨by decide +kernel, rfl, rfl⟩
theorem d_X8_shape_247 : nD YX8_shape 247 (.getfield 13) 3 250 8 := ⟨by decide +kernel, rfl, rfl⟩
theorem d_X8_shape_250 : nD YX8_shape 250 (.iload_n 1) 1 251 8 := ⟨by decide +kernel, rfl, rfl⟩
theorem d_X8_shape_251 : nD YX8_shape 251 (.iaload) 1 252 8 := ⟨by decide +kernel, rfl, rfl⟩
theorem d_X8_shape_252 : nD YX8_shape 252 (.iadd) 1 253 8 := ⟨by decide +kernel, rfl, rfl⟩
theorem d_X8_shape_253 : nD YX8_shape 253 (.iconst 1) 1 254 8 := ⟨by decide +kernel, rfl, rfl⟩
theorem d_X8_shape_254 : nD YX8_shape 254 (.isub) 1 255 8 := ⟨by decide +kernel, rfl, rfl⟩
theorem d_X8_shape_255 : nD YX8_shape 255 (.iaload) 1 256 8 := ⟨by decide +kernel, rfl, rfl⟩
theorem d_X8_shape_256 : nD YX8_shape 256 (.ireturn) 1 257 8 := ⟨by decide +kernel, rfl, rfl⟩
theorem d_X8_ahead_0 : nD YX8_ahead 0 (.iload_n 1) 1 1 8 := ⟨by decide +kernel, rfl, rfl⟩
theorem d_X8_ahead_1 : nD YX8_ahead 1 (.iconst 1) 1 2 8 := ⟨by decide +kernel, rfl, rfl⟩
theorem d_X8_ahead_2 : nD YX8_ahead 2 (.if_icmp .lt 45) 3 5 8 := ⟨by decide +kernel, rfl, rfl⟩
theorem d_X8_ahead_5 : nD YX8_ahead 5 (.iload_n 1) 1 6 8 := ⟨by decide +kernel, rfl, rfl⟩
theorem d_X8_ahead_6 : nD YX8_ahead 6 (.sipush 1000) 3 9 8 := ⟨by decide +kernel, rfl, rfl⟩
theorem d_X8_ahead_9 : nD YX8_ahead 9 (.if_icmp .gt 38) 3 12 8 := ⟨by decide +kernel, rfl, rfl⟩
theorem d_X8_ahead_12 : nD YX8_ahead 12 (.iload_n 2) 1 13 8 := ⟨by decide +kernel, rfl, rfl⟩
theorem d_X8_ahead_13 : nD YX8_ahead 13 (.iconst 1) 1 14 8 := ⟨by decide +kernel, rfl, rfl⟩
theorem d_X8_ahead_14 : nD YX8_ahead 14 (.if_icmp .lt 33) 3 17 8 := ⟨by decide +kernel, rfl, rfl⟩
theorem d_X8_ahead_17 : nD YX8_ahead 17 (.iload_n 2) 1 18 8 := ⟨by decide +kernel, rfl, rfl⟩
theorem d_X8_ahead_18 : nD YX8_ahead 18 (.sipush 1000) 3 21 8 := ⟨by decide +kernel, rfl, rfl⟩
theorem d_X8_ahead_21 : nD YX8_ahead 21 (.if_icmp .gt 26) 3 24 8 := ⟨by decide +kernel, rfl, rfl⟩
theorem d_X8_ahead_24 : nD YX8_ahead 24 (.iload_n 3) 1 25 8 := ⟨by decide +kernel, rfl, rfl⟩
theorem d_X8_ahead_25 : nD YX8_ahead 25 (.iconst 1) 1 26 8 := ⟨by decide +kernel, rfl, rfl⟩
theorem d_X8_ahead_26 : nD YX8_ahead 26 (.if_icmp .lt 21) 3 29 8 := ⟨by decide +kernel, rfl, rfl⟩
theorem d_X8_ahead_29 : nD YX8_ahead 29 (.iload_n 3) 1 30 8 := ⟨by decide +kernel, rfl, rfl⟩
theorem d_X8_ahead_30 : nD YX8_ahead 30 (.bipush 24) 2 32 8 := ⟨by decide +kernel, rfl, rfl⟩
theorem d_X8_ahead_32 : nD YX8_ahead 32 (.if_icmp .gt 15) 3 35 8 := ⟨by decide +kernel, rfl, rfl⟩
theorem d_X8_ahead_35 : nD YX8_ahead 35 (.iload 4) 2 37 8 := ⟨by decide +kernel, rfl, rfl⟩
theorem d_X8_ahead_37 : nD YX8_ahead 37 (.iconst 1) 1 38 8 := ⟨by decide +kernel, rfl, rfl⟩
theorem d_X8_ahead_38 : nD YX8_ahead 38 (.if_icmp .lt 9) 3 41 8 := ⟨by decide +kernel, rfl, rfl⟩
theorem d_X8_ahead_41 : nD YX8_ahead 41 (.iload 4) 2 43 8 := ⟨by decide +kernel, rfl, rfl⟩
theorem d_X8_ahead_43 : nD YX8_ahead 43 (.iconst 2) 1 44 8 := ⟨by decide +kernel, rfl, rfl⟩
theorem d_X8_ahead_44 : nD YX8_ahead 44 (.if_icmp .le 7) 3 47 8 := ⟨by decide +kernel, rfl, rfl⟩
theorem d_X8_ahead_47 : nD YX8_ahead 47 (.ldc2_w 135) 3 50 8 := ⟨by decide +kernel, rfl, rfl⟩
theorem d_X8_ahead_50 : nD YX8_ahead 50 (.lreturn) 1 51 8 := ⟨by decide +kernel, rfl, rfl⟩
theorem d_X8_ahead_51 : nD YX8_ahead 51 (.iload_n 1) 1 52 8 := ⟨by decide +kernel, rfl, rfl⟩
theorem d_X8_ahead_52 : nD YX8_ahead 52 (.i2l) 1 53 8 := ⟨by decide +kernel, rfl, rfl⟩
theorem d_X8_ahead_53 : nD YX8_ahead 53 (.lstore 5) 2 55 8 := ⟨by decide +kernel, rfl, rfl⟩
theorem d_X8_ahead_55 : nD YX8_ahead 55 (.iconst 0) 1 56 8 := ⟨by decide +kernel, rfl, rfl⟩
theorem d_X8_ahead_56 : nD YX8_ahead 56 (.istore 7) 2 58 8 := ⟨by decide +kernel, rfl, rfl⟩
theorem d_X8_ahead_58 : nD YX8_ahead 58 (.iload 7) 2 60 8 := ⟨by decide +kernel, rfl, rfl⟩
theorem d_X8_ahead_60 : nD YX8_ahead 60 (.iload_n 2) 1 61 8 := ⟨by decide +kernel, rfl, rfl⟩
theorem d_X8_ahead_61 : nD YX8_ahead 61 (.if_icmp .ge 51) 3 64 8 := ⟨by decide +kernel, rfl, rfl⟩
theorem d_X8_ahead_64 : nD YX8_ahead 64 (.lload 5) 2 66 8 := ⟨by decide +kernel, rfl, rfl⟩
theorem d_X8_ahead_66 : nD YX8_ahead 66 (.iload 4) 2 68 8 := ⟨by decide +kernel, rfl, rfl⟩
theorem d_X8_ahead_68 : nD YX8_ahead 68 (.iconst 1) 1 69 8 := ⟨by decide +kernel, rfl, rfl⟩
theorem d_X8_ahead_69 : nD YX8_ahead 69 (.if_icmp .ne 13) 3 72 8 := ⟨by decide +kernel, rfl, rfl⟩
theorem d_X8_ahead_72 : nD YX8_ahead 72 (.lload 5) 2 74 8 := ⟨by decide +kernel, rfl, rfl⟩
theorem d_X8_ahead_74 : nD YX8_ahead 74 (.iload_n 3) 1 75 8 := ⟨by decide +kernel, rfl, rfl⟩
theorem d_X8_ahead_75 : nD YX8_ahead 75 (.iconst 1) 1 76 8 := ⟨by decide +kernel, rfl, rfl⟩
theorem d_X8_ahead_76 : nD YX8_ahead 76 (.invokestatic 125) 3 79 8 := ⟨by decide +kernel, rfl, rfl⟩
theorem d_X8_ahead_79 : nD YX8_ahead 79 (.goto 11) 3 82 8 := ⟨by decide +kernel, rfl, rfl⟩
theorem d_X8_ahead_82 : nD YX8_ahead 82 (.lload 5) 2 84 8 := ⟨by decide +kernel, rfl, rfl⟩
theorem d_X8_ahead_84 : nD YX8_ahead 84 (.iload_n 3) 1 85 8 := ⟨by decide +kernel, rfl, rfl⟩
theorem d_X8_ahead_85 : nD YX8_ahead 85 (.iconst 2) 1 86 8 := ⟨by decide +kernel, rfl, rfl⟩
theorem d_X8_ahead_86 : nD YX8_ahead 86 (.invokestatic 125) 3 89 8 := ⟨by decide +kernel, rfl, rfl⟩
theorem d_X8_ahead_89 : nD YX8_ahead 89 (.lneg) 1 90 8 := ⟨by decide +kernel, rfl, rfl⟩
theorem d_X8_ahead_90 : nD YX8_ahead 90 (.ladd) 1 91 8 := ⟨by decide +kernel, rfl, rfl⟩
theorem d_X8_ahead_91 : nD YX8_ahead 91 (.lstore 5) 2 93 8 := ⟨by decide +kernel, rfl, rfl⟩
theorem d_X8_ahead_93 : nD YX8_ahead 93 (.lload 5) 2 95 8 := ⟨by decide +kernel, rfl, rfl⟩
theorem d_X8_ahead_95 : nD YX8_ahead 95 (.ldc2_w 137) 3 98 8 := ⟨by decide +kernel, rfl, rfl⟩
theorem d_X8_ahead_98 : nD YX8_ahead 98 (.lcmp) 1 99 8 := ⟨by decide +kernel, rfl, rfl⟩
theorem d_X8_ahead_99 : nD YX8_ahead 99 (.ifCond .le 7) 3 102 8 := ⟨by decide +kernel, rfl, rfl⟩
theorem d_X8_ahead_102 : nD YX8_ahead 102 (.ldc2_w 135) 3 105 8 := ⟨by decide +kernel, rfl, rfl⟩
theorem d_X8_ahead_105 : nD YX8_ahead 105 (.lreturn) 1 106 8 := ⟨by decide +kernel, rfl, rfl⟩
theorem d_X8_ahead_106 : nD YX8_ahead 106 (.iinc 7 1) 3 109 8 := ⟨by decide +kernel, rfl, rfl⟩
theorem d_X8_ahead_109 : nD YX8_ahead 109 (.goto (-51)) 3 112 8 := ⟨by decide +kernel, rfl, rfl⟩
theorem d_X8_ahead_112 : nD YX8_ahead 112 (.lload 5) 2 114 8 := ⟨by decide +kernel, rfl, rfl⟩
theorem d_X8_ahead_114 : nD YX8_ahead 114 (.lreturn) 1 115 8 := ⟨by decide +kernel, rfl, rfl⟩
theorem d_X8_meshes_0 : nD YX8_meshes 0 (.aload_n 0) 1 1 8 := ⟨by decide +kernel, rfl, rfl⟩
theorem d_X8_meshes_1 : nD YX8_meshes 1 (.iload_n 1) 1 2 8 := ⟨by decide +kernel, rfl, rfl⟩
theorem d_X8_meshes_2 : nD YX8_meshes 2 (.iload_n 2) 1 3 8 := ⟨by decide +kernel, rfl, rfl⟩
theorem d_X8_meshes_3 : nD YX8_meshes 3 (.invokevirtual 95) 3 6 8 := ⟨by decide +kernel, rfl, rfl⟩
theorem d_X8_meshes_6 : nD YX8_meshes 6 (.ifCond .eq 17) 3 9 8 := ⟨by decide +kernel, rfl, rfl⟩
theorem d_X8_meshes_9 : nD YX8_meshes 9 (.aload_n 0) 1 10 8 := ⟨by decide +kernel, rfl, rfl⟩
theorem d_X8_meshes_10 : nD YX8_meshes 10 (.getfield 32) 3 13 8 := ⟨by decide +kernel, rfl, rfl⟩
theorem d_X8_meshes_13 : nD YX8_meshes 13 (.bipush 20) 2 15 8 := ⟨by decide +kernel, rfl, rfl⟩
theorem d_X8_meshes_15 : nD YX8_meshes 15 (.iload_n 1) 1 16 8 := ⟨by decide +kernel, rfl, rfl⟩
theorem d_X8_meshes_16 : nD YX8_meshes 16 (.imul) 1 17 8 := ⟨by decide +kernel, rfl, rfl⟩
theorem d_X8_meshes_17 : nD YX8_meshes 17 (.iload_n 2) 1 18 8 := ⟨by decide +kernel, rfl, rfl⟩
theorem d_X8_meshes_18 : nD YX8_meshes 18 (.iadd) 1 19 8 := ⟨by decide +kernel, rfl, rfl⟩
theorem d_X8_meshes_19 : nD YX8_meshes 19 (.iaload) 1 20 8 := ⟨by decide +kernel, rfl, rfl⟩
theorem d_X8_meshes_20 : nD YX8_meshes 20 (.goto 4) 3 23 8 := ⟨by decide +kernel, rfl, rfl⟩
theorem d_X8_meshes_23 : nD YX8_meshes 23 (.iconst (-1)) 1 24 8 := ⟨by decide +kernel, rfl, rfl⟩
theorem d_X8_meshes_24 : nD YX8_meshes 24 (.ireturn) 1 25 8 := ⟨by decide +kernel, rfl, rfl⟩
theorem d_X8_hangsIn_0 : nD YX8_hangsIn 0 (.aload_n 0) 1 1 8 := ⟨by decide +kernel, rfl, rfl⟩
theorem d_X8_hangsIn_1 : nD YX8_hangsIn 1 (.getfield 45) 3 4 8 := ⟨by decide +kernel, rfl, rfl⟩
theorem d_X8_hangsIn_4 : nD YX8_hangsIn 4 (.iload_n 1) 1 5 8 := ⟨by decide +kernel, rfl, rfl⟩
theorem d_X8_hangsIn_5 : nD YX8_hangsIn 5 (.iaload) 1 6 8 := ⟨by decide +kernel, rfl, rfl⟩
theorem d_X8_hangsIn_6 : nD YX8_hangsIn 6 (.iconst (-1)) 1 7 8 := ⟨by decide +kernel, rfl, rfl⟩
theorem d_X8_hangsIn_7 : nD YX8_hangsIn 7 (.if_icmp .eq 30) 3 10 8 := ⟨by decide +kernel, rfl, rfl⟩
theorem d_X8_hangsIn_10 : nD YX8_hangsIn 10 (.iload_n 2) 1 11 8 := ⟨by decide +kernel, rfl, rfl⟩
theorem d_X8_hangsIn_11 : nD YX8_hangsIn 11 (.aload_n 0) 1 12 8 := ⟨by decide +kernel, rfl, rfl⟩
theorem d_X8_hangsIn_12 : nD YX8_hangsIn 12 (.getfield 45) 3 15 8 := ⟨by decide +kernel, rfl, rfl⟩
theorem d_X8_hangsIn_15 : nD YX8_hangsIn 15 (.iload_n 1) 1 16 8 := ⟨by decide +kernel, rfl, rfl⟩
theorem d_X8_hangsIn_16 : nD YX8_hangsIn 16 (.iaload) 1 17 8 := ⟨by decide +kernel, rfl, rfl⟩
theorem d_X8_hangsIn_17 : nD YX8_hangsIn 17 (.if_icmp .lt 20) 3 20 8 := ⟨by decide +kernel, rfl, rfl⟩
theorem d_X8_hangsIn_20 : nD YX8_hangsIn 20 (.iload_n 2) 1 21 8 := ⟨by decide +kernel, rfl, rfl⟩
theorem d_X8_hangsIn_21 : nD YX8_hangsIn 21 (.aload_n 0) 1 22 8 := ⟨by decide +kernel, rfl, rfl⟩
theorem d_X8_hangsIn_22 : nD YX8_hangsIn 22 (.getfield 45) 3 25 8 := ⟨by decide +kernel, rfl, rfl⟩
theorem d_X8_hangsIn_25 : nD YX8_hangsIn 25 (.iload_n 1) 1 26 8 := ⟨by decide +kernel, rfl, rfl⟩
theorem d_X8_hangsIn_26 : nD YX8_hangsIn 26 (.iaload) 1 27 8 := ⟨by decide +kernel, rfl, rfl⟩
theorem d_X8_hangsIn_27 : nD YX8_hangsIn 27 (.aload_n 0) 1 28 8 := ⟨by decide +kernel, rfl, rfl⟩
theorem d_X8_hangsIn_28 : nD YX8_hangsIn 28 (.getfield 48) 3 31 8 := ⟨by decide +kernel, rfl, rfl⟩
theorem d_X8_hangsIn_31 : nD YX8_hangsIn 31 (.iload_n 1) 1 32 8 := ⟨by decide +kernel, rfl, rfl⟩
theorem d_X8_hangsIn_32 : nD YX8_hangsIn 32 (.iaload) 1 33 8 := ⟨by decide +kernel, rfl, rfl⟩
theorem d_X8_hangsIn_33 : nD YX8_hangsIn 33 (.iadd) 1 34 8 := ⟨by decide +kernel, rfl, rfl⟩
theorem d_X8_hangsIn_34 : nD YX8_hangsIn 34 (.if_icmp .lt 5) 3 37 8 := ⟨by decide +kernel, rfl, rfl⟩
theorem d_X8_hangsIn_37 : nD YX8_hangsIn 37 (.iconst 0) 1 38 8 := ⟨by decide +kernel, rfl, rfl⟩
theorem d_X8_hangsIn_38 : nD YX8_hangsIn 38 (.ireturn) 1 39 8 := ⟨by decide +kernel, rfl, rfl⟩
theorem d_X8_hangsIn_39 : nD YX8_hangsIn 39 (.iload_n 3) 1 40 8 := ⟨by decide +kernel, rfl, rfl⟩
theorem d_X8_hangsIn_40 : nD YX8_hangsIn 40 (.iconst 2) 1 41 8 := ⟨by decide +kernel, rfl, rfl⟩
theorem d_X8_hangsIn_41 : nD YX8_hangsIn 41 (.if_icmp .eq 24) 3 44 8 := ⟨by decide +kernel, rfl, rfl⟩
theorem d_X8_hangsIn_44 : nD YX8_hangsIn 44 (.aload_n 0) 1 45 8 := ⟨by decide +kernel, rfl, rfl⟩
theorem d_X8_hangsIn_45 : nD YX8_hangsIn 45 (.getfield 51) 3 48 8 := ⟨by decide +kernel, rfl, rfl⟩
theorem d_X8_hangsIn_48 : nD YX8_hangsIn 48 (.iload_n 1) 1 49 8 := ⟨by decide +kernel, rfl, rfl⟩
theorem d_X8_hangsIn_49 : nD YX8_hangsIn 49 (.iaload) 1 50 8 := ⟨by decide +kernel, rfl, rfl⟩
theorem d_X8_hangsIn_50 : nD YX8_hangsIn 50 (.iload_n 2) 1 51 8 := ⟨by decide +kernel, rfl, rfl⟩
theorem d_X8_hangsIn_51 : nD YX8_hangsIn 51 (.aload_n 0) 1 52 8 := ⟨by decide +kernel, rfl, rfl⟩
theorem d_X8_hangsIn_52 : nD YX8_hangsIn 52 (.getfield 45) 3 55 8 := ⟨by decide +kernel, rfl, rfl⟩
theorem d_X8_hangsIn_55 : nD YX8_hangsIn 55 (.iload_n 1) 1 56 8 := ⟨by decide +kernel, rfl, rfl⟩
theorem d_X8_hangsIn_56 : nD YX8_hangsIn 56 (.iaload) 1 57 8 := ⟨by decide +kernel, rfl, rfl⟩
theorem d_X8_hangsIn_57 : nD YX8_hangsIn 57 (.isub) 1 58 8 := ⟨by decide +kernel, rfl, rfl⟩
theorem d_X8_hangsIn_58 : nD YX8_hangsIn 58 (.ishr) 1 59 8 := ⟨by decide +kernel, rfl, rfl⟩
theorem d_X8_hangsIn_59 : nD YX8_hangsIn 59 (.iconst 1) 1 60 8 := ⟨by decide +kernel, rfl, rfl⟩
theorem d_X8_hangsIn_60 : nD YX8_hangsIn 60 (.iand) 1 61 8 := ⟨by decide +kernel, rfl, rfl⟩
theorem d_X8_hangsIn_61 : nD YX8_hangsIn 61 (.iload_n 3) 1 62 8 := ⟨by decide +kernel, rfl, rfl⟩
theorem d_X8_hangsIn_62 : nD YX8_hangsIn 62 (.if_icmp .ne 7) 3 65 8 := ⟨by decide +kernel, rfl, rfl⟩
theorem d_X8_hangsIn_65 : nD YX8_hangsIn 65 (.iconst 1) 1 66 8 := ⟨by decide +kernel, rfl, rfl⟩
theorem d_X8_hangsIn_66 : nD YX8_hangsIn 66 (.goto 4) 3 69 8 := ⟨by decide +kernel, rfl, rfl⟩
theorem d_X8_hangsIn_69 : nD YX8_hangsIn 69 (.iconst 0) 1 70 8 := ⟨by decide +kernel, rfl, rfl⟩
theorem d_X8_hangsIn_70 : nD YX8_hangsIn 70 (.ireturn) 1 71 8 := ⟨by decide +kernel, rfl, rfl⟩
theorem d_X8_bits_0 : nD YX8_bits 0 (.iconst 0) 1 1 8 := ⟨by decide +kernel, rfl, rfl⟩
theorem d_X8_bits_1 : nD YX8_bits 1 (.istore_n 1) 1 2 8 := ⟨by decide +kernel, rfl, rfl⟩
theorem d_X8_bits_2 : nD YX8_bits 2 (.iconst 0) 1 3 8 := ⟨by decide +kernel, rfl, rfl⟩
theorem d_X8_bits_3 : nD YX8_bits 3 (.istore_n 2) 1 4 8 := ⟨by decide +kernel, rfl, rfl⟩
theorem d_X8_bits_4 : nD YX8_bits 4 (.iload_n 2) 1 5 8 := ⟨by decide +kernel, rfl, rfl⟩
theorem d_X8_bits_5 : nD YX8_bits 5 (.bipush 24) 2 7 8 := ⟨by decide +kernel, rfl, rfl⟩
theorem d_X8_bits_7 : nD YX8_bits 7 (.if_icmp .ge 17) 3 10 8 := ⟨by decide +kernel, rfl, rfl⟩
theorem d_X8_bits_10 : nD YX8_bits 10 (.iload_n 1) 1 11 8 := ⟨by decide +kernel, rfl, rfl⟩
theorem d_X8_bits_11 : nD YX8_bits 11 (.iload_n 0) 1 12 8 := ⟨by decide +kernel, rfl, rfl⟩
theorem d_X8_bits_12 : nD YX8_bits 12 (.iload_n 2) 1 13 8 := ⟨by decide +kernel, rfl, rfl⟩
theorem d_X8_bits_13 : nD YX8_bits 13 (.ishr) 1 14 8 := ⟨by decide +kernel, rfl, rfl⟩
theorem d_X8_bits_14 : nD YX8_bits 14 (.iconst 1) 1 15 8 := ⟨by decide +kernel, rfl, rfl⟩
theorem d_X8_bits_15 : nD YX8_bits 15 (.iand) 1 16 8 := ⟨by decide +kernel, rfl, rfl⟩
theorem d_X8_bits_16 : nD YX8_bits 16 (.iadd) 1 17 8 := ⟨by decide +kernel, rfl, rfl⟩
theorem d_X8_bits_17 : nD YX8_bits 17 (.istore_n 1) 1 18 8 := ⟨by decide +kernel, rfl, rfl⟩
theorem d_X8_bits_18 : nD YX8_bits 18 (.iinc 2 1) 3 21 8 := ⟨by decide +kernel, rfl, rfl⟩
theorem d_X8_bits_21 : nD YX8_bits 21 (.goto (-17)) 3 24 8 := ⟨by decide +kernel, rfl, rfl⟩
theorem d_X8_bits_24 : nD YX8_bits 24 (.iload_n 1) 1 25 8 := ⟨by decide +kernel, rfl, rfl⟩
theorem d_X8_bits_25 : nD YX8_bits 25 (.ireturn) 1 26 8 := ⟨by decide +kernel, rfl, rfl⟩
theorem d_X8_below_0 : nD YX8_below 0 (.iload_n 2) 1 1 8 := ⟨by decide +kernel, rfl, rfl⟩
theorem d_X8_below_1 : nD YX8_below 1 (.iconst 1) 1 2 8 := ⟨by decide +kernel, rfl, rfl⟩
theorem d_X8_below_2 : nD YX8_below 2 (.iadd) 1 3 8 := ⟨by decide +kernel, rfl, rfl⟩
theorem d_X8_below_3 : nD YX8_below 3 (.aload_n 0) 1 4 8 := ⟨by decide +kernel, rfl, rfl⟩
theorem d_X8_below_4 : nD YX8_below 4 (.getfield 13) 3 7 8 := ⟨by decide +kernel, rfl, rfl⟩
theorem d_X8_below_7 : nD YX8_below 7 (.iload_n 1) 1 8 8 := ⟨by decide +kernel, rfl, rfl⟩
theorem d_X8_below_8 : nD YX8_below 8 (.iaload) 1 9 8 := ⟨by decide +kernel, rfl, rfl⟩
theorem d_X8_below_9 : nD YX8_below 9 (.if_icmp .lt 5) 3 12 8 := ⟨by decide +kernel, rfl, rfl⟩
theorem d_X8_below_12 : nD YX8_below 12 (.iconst 0) 1 13 8 := ⟨by decide +kernel, rfl, rfl⟩
theorem d_X8_below_13 : nD YX8_below 13 (.ireturn) 1 14 8 := ⟨by decide +kernel, rfl, rfl⟩
theorem d_X8_below_14 : nD YX8_below 14 (.iconst 0) 1 15 8 := ⟨by decide +kernel, rfl, rfl⟩
theorem d_X8_below_15 : nD YX8_below 15 (.istore 5) 2 17 8 := ⟨by decide +kernel, rfl, rfl⟩
theorem d_X8_below_17 : nD YX8_below 17 (.iconst 0) 1 18 8 := ⟨by decide +kernel, rfl, rfl⟩
theorem d_X8_below_18 : nD YX8_below 18 (.istore 6) 2 20 8 := ⟨by decide +kernel, rfl, rfl⟩
theorem d_X8_below_20 : nD YX8_below 20 (.iload 6) 2 22 8 := ⟨by decide +kernel, rfl, rfl⟩
theorem d_X8_below_22 : nD YX8_below 22 (.aload_n 0) 1 23 8 := ⟨by decide +kernel, rfl, rfl⟩
theorem d_X8_below_23 : nD YX8_below 23 (.getfield 32) 3 26 8 := ⟨by decide +kernel, rfl, rfl⟩
theorem d_X8_below_26 : nD YX8_below 26 (.bipush 20) 2 28 8 := ⟨by decide +kernel, rfl, rfl⟩
theorem d_X8_below_28 : nD YX8_below 28 (.iload_n 1) 1 29 8 := ⟨by decide +kernel, rfl, rfl⟩
theorem d_X8_below_29 : nD YX8_below 29 (.imul) 1 30 8 := ⟨by decide +kernel, rfl, rfl⟩
theorem d_X8_below_30 : nD YX8_below 30 (.iload_n 2) 1 31 8 := ⟨by decide +kernel, rfl, rfl⟩
theorem d_X8_below_31 : nD YX8_below 31 (.iadd) 1 32 8 := ⟨by decide +kernel, rfl, rfl⟩
theorem d_X8_below_32 : nD YX8_below 32 (.iconst 1) 1 33 8 := ⟨by decide +kernel, rfl, rfl⟩
theorem d_X8_below_33 : nD YX8_below 33 (.iadd) 1 34 8 := ⟨by decide +kernel, rfl, rfl⟩
theorem d_X8_below_34 : nD YX8_below 34 (.iaload) 1 35 8 := ⟨by decide +kernel, rfl, rfl⟩
theorem d_X8_below_35 : nD YX8_below 35 (.if_icmp .ge 31) 3 38 8 := ⟨by decide +kernel, rfl, rfl⟩
theorem d_X8_below_38 : nD YX8_below 38 (.aload_n 0) 1 39 8 := ⟨by decide +kernel, rfl, rfl⟩
theorem d_X8_below_39 : nD YX8_below 39 (.iload_n 1) 1 40 8 := ⟨by decide +kernel, rfl, rfl⟩
theorem d_X8_below_40 : nD YX8_below 40 (.iload_n 2) 1 41 8 := ⟨by decide +kernel, rfl, rfl⟩
theorem d_X8_below_41 : nD YX8_below 41 (.iconst 1) 1 42 8 := ⟨by decide +kernel, rfl, rfl⟩
theorem d_X8_below_42 : nD YX8_below 42 (.iadd) 1 43 8 := ⟨by decide +kernel, rfl, rfl⟩
theorem d_X8_below_43 : nD YX8_below 43 (.iload 6) 2 45 8 := ⟨by decide +kernel, rfl, rfl⟩
theorem d_X8_below_45 : nD YX8_below 45 (.invokestatic 99) 3 48 8 := ⟨by decide +kernel, rfl, rfl⟩
theorem d_X8_below_48 : nD YX8_below 48 (.iload_n 3) 1 49 8 := ⟨by decide +kernel, rfl, rfl⟩
theorem d_X8_below_49 : nD YX8_below 49 (.iload 4) 2 51 8 := ⟨by decide +kernel, rfl, rfl⟩
theorem d_X8_below_51 : nD YX8_below 51 (.invokevirtual 139) 3 54 8 := ⟨by decide +kernel, rfl, rfl⟩
theorem d_X8_below_54 : nD YX8_below 54 (.ifCond .eq 6) 3 57 8 := ⟨by decide +kernel, rfl, rfl⟩
theorem d_X8_below_57 : nD YX8_below 57 (.iinc 5 1) 3 60 8 := ⟨by decide +kernel, rfl, rfl⟩
theorem d_X8_below_60 : nD YX8_below 60 (.iinc 6 1) 3 63 8 := ⟨by decide +kernel, rfl, rfl⟩
theorem d_X8_below_63 : nD YX8_below 63 (.goto (-43)) 3 66 8 := ⟨by decide +kernel, rfl, rfl⟩
theorem d_X8_below_66 : nD YX8_below 66 (.iload 5) 2 68 8 := ⟨by decide +kernel, rfl, rfl⟩
theorem d_X8_below_68 : nD YX8_below 68 (.ireturn) 1 69 8 := ⟨by decide +kernel, rfl, rfl⟩
theorem d_X8_goneAt_0 : nD YX8_goneAt 0 (.aload_n 0) 1 1 8 := ⟨by decide +kernel, rfl, rfl⟩
theorem d_X8_goneAt_1 : nD YX8_goneAt 1 (.getfield 51) 3 4 8 := ⟨by decide +kernel, rfl, rfl⟩
theorem d_X8_goneAt_4 : nD YX8_goneAt 4 (.iload_n 1) 1 5 8 := ⟨by decide +kernel, rfl, rfl⟩
theorem d_X8_goneAt_5 : nD YX8_goneAt 5 (.iload_n 2) 1 6 8 := ⟨by decide +kernel, rfl, rfl⟩
theorem d_X8_goneAt_6 : nD YX8_goneAt 6 (.iload_n 3) 1 7 8 := ⟨by decide +kernel, rfl, rfl⟩
theorem d_X8_goneAt_7 : nD YX8_goneAt 7 (.invokestatic 99) 3 10 8 := ⟨by decide +kernel, rfl, rfl⟩
theorem d_X8_goneAt_10 : nD YX8_goneAt 10 (.iaload) 1 11 8 := ⟨by decide +kernel, rfl, rfl⟩
theorem d_X8_goneAt_11 : nD YX8_goneAt 11 (.invokestatic 142) 3 14 8 := ⟨by decide +kernel, rfl, rfl⟩
theorem d_X8_goneAt_14 : nD YX8_goneAt 14 (.aload_n 0) 1 15 8 := ⟨by decide +kernel, rfl, rfl⟩
theorem d_X8_goneAt_15 : nD YX8_goneAt 15 (.iload_n 1) 1 16 8 := ⟨by decide +kernel, rfl, rfl⟩
theorem d_X8_goneAt_16 : nD YX8_goneAt 16 (.iload_n 2) 1 17 8 := ⟨by decide +kernel, rfl, rfl⟩
theorem d_X8_goneAt_17 : nD YX8_goneAt 17 (.iload_n 3) 1 18 8 := ⟨by decide +kernel, rfl, rfl⟩
theorem d_X8_goneAt_18 : nD YX8_goneAt 18 (.iconst 1) 1 19 8 := ⟨by decide +kernel, rfl, rfl⟩
theorem d_X8_goneAt_19 : nD YX8_goneAt 19 (.invokevirtual 145) 3 22 8 := ⟨by decide +kernel, rfl, rfl⟩
theorem d_X8_goneAt_22 : nD YX8_goneAt 22 (.iadd) 1 23 8 := ⟨by decide +kernel, rfl, rfl⟩
theorem d_X8_goneAt_23 : nD YX8_goneAt 23 (.ireturn) 1 24 8 := ⟨by decide +kernel, rfl, rfl⟩
theorem d_X8_of_0 : nD YX8_of 0 (.aload_n 0) 1 1 8 := ⟨by decide +kernel, rfl, rfl⟩
theorem d_X8_of_1 : nD YX8_of 1 (.iload_n 1) 1 2 8 := ⟨by decide +kernel, rfl, rfl⟩
theorem d_X8_of_2 : nD YX8_of 2 (.iload_n 2) 1 3 8 := ⟨by decide +kernel, rfl, rfl⟩
theorem d_X8_of_3 : nD YX8_of 3 (.iload_n 3) 1 4 8 := ⟨by decide +kernel, rfl, rfl⟩
theorem d_X8_of_4 : nD YX8_of 4 (.invokevirtual 118) 3 7 8 := ⟨by decide +kernel, rfl, rfl⟩
theorem d_X8_of_7 : nD YX8_of 7 (.ifCond .ne 5) 3 10 8 := ⟨by decide +kernel, rfl, rfl⟩
theorem d_X8_of_10 : nD YX8_of 10 (.iconst (-1)) 1 11 8 := ⟨by decide +kernel, rfl, rfl⟩
theorem d_X8_of_11 : nD YX8_of 11 (.ireturn) 1 12 8 := ⟨by decide +kernel, rfl, rfl⟩
theorem d_X8_of_12 : nD YX8_of 12 (.iload_n 1) 1 13 8 := ⟨by decide +kernel, rfl, rfl⟩
theorem d_X8_of_13 : nD YX8_of 13 (.iload_n 2) 1 14 8 := ⟨by decide +kernel, rfl, rfl⟩
theorem d_X8_of_14 : nD YX8_of 14 (.iload_n 3) 1 15 8 := ⟨by decide +kernel, rfl, rfl⟩
theorem d_X8_of_15 : nD YX8_of 15 (.invokestatic 99) 3 18 8 := ⟨by decide +kernel, rfl, rfl⟩
theorem d_X8_of_18 : nD YX8_of 18 (.istore 5) 2 20 8 := ⟨by decide +kernel, rfl, rfl⟩
theorem d_X8_of_20 : nD YX8_of 20 (.iload 4) 2 22 8 := ⟨by decide +kernel, rfl, rfl⟩
theorem d_X8_of_22 : nD YX8_of 22 (.bipush 10) 2 24 8 := ⟨by decide +kernel, rfl, rfl⟩
theorem d_X8_of_24 : nD YX8_of 24 (.if_icmp .lt 36) 3 27 8 := ⟨by decide +kernel, rfl, rfl⟩
theorem d_X8_of_27 : nD YX8_of 27 (.iload 4) 2 29 8 := ⟨by decide +kernel, rfl, rfl⟩
theorem d_X8_of_29 : nD YX8_of 29 (.bipush 10) 2 31 8 := ⟨by decide +kernel, rfl, rfl⟩
theorem d_X8_of_31 : nD YX8_of 31 (.isub) 1 32 8 := ⟨by decide +kernel, rfl, rfl⟩
theorem d_X8_of_32 : nD YX8_of 32 (.aload_n 0) 1 33 8 := ⟨by decide +kernel, rfl, rfl⟩
theorem d_X8_of_33 : nD YX8_of 33 (.getfield 48) 3 36 8 := ⟨by decide +kernel, rfl, rfl⟩
theorem d_X8_of_36 : nD YX8_of 36 (.iload 5) 2 38 8 := ⟨by decide +kernel, rfl, rfl⟩
theorem d_X8_of_38 : nD YX8_of 38 (.iaload) 1 39 8 := ⟨by decide +kernel, rfl, rfl⟩
theorem d_X8_of_39 : nD YX8_of 39 (.if_icmp .ge 19) 3 42 8 := ⟨by decide +kernel, rfl, rfl⟩
theorem d_X8_of_42 : nD YX8_of 42 (.aload_n 0) 1 43 8 := ⟨by decide +kernel, rfl, rfl⟩
theorem d_X8_of_43 : nD YX8_of 43 (.getfield 45) 3 46 8 := ⟨by decide +kernel, rfl, rfl⟩
theorem d_X8_of_46 : nD YX8_of 46 (.iload 5) 2 48 8 := ⟨by decide +kernel, rfl, rfl⟩
theorem d_X8_of_48 : nD YX8_of 48 (.iaload) 1 49 8 := ⟨by decide +kernel, rfl, rfl⟩
theorem d_X8_of_49 : nD YX8_of 49 (.iload 4) 2 51 8 := ⟨by decide +kernel, rfl, rfl⟩
theorem d_X8_of_51 : nD YX8_of 51 (.iadd) 1 52 8 := ⟨by decide +kernel, rfl, rfl⟩
theorem d_X8_of_52 : nD YX8_of 52 (.bipush 10) 2 54 8 := ⟨by decide +kernel, rfl, rfl⟩
theorem d_X8_of_54 : nD YX8_of 54 (.isub) 1 55 8 := ⟨by decide +kernel, rfl, rfl⟩
theorem d_X8_of_55 : nD YX8_of 55 (.goto 4) 3 58 8 := ⟨by decide +kernel, rfl, rfl⟩
theorem d_X8_of_58 : nD YX8_of 58 (.iconst (-1)) 1 59 8 := ⟨by decide +kernel, rfl, rfl⟩
theorem d_X8_of_59 : nD YX8_of 59 (.ireturn) 1 60 8 := ⟨by decide +kernel, rfl, rfl⟩
theorem d_X8_of_60 : nD YX8_of 60 (.iload 4) 2 62 8 := ⟨by decide +kernel, rfl, rfl⟩
theorem d_X8_of_62 : nD YX8_of 62 (.tableswitch 109 0 6 #[42, 50, 58, 66, 77, 85, 101]) 42 104 8 := ⟨by decide +kernel, rfl, rfl⟩
theorem d_X8_of_104 : nD YX8_of 104 (.aload_n 0) 1 105 8 := ⟨by decide +kernel, rfl, rfl⟩
theorem d_X8_of_105 : nD YX8_of 105 (.getfield 39) 3 108 8 := ⟨by decide +kernel, rfl, rfl⟩
theorem d_X8_of_108 : nD YX8_of 108 (.iload 5) 2 110 8 := ⟨by decide +kernel, rfl, rfl⟩
theorem d_X8_of_110 : nD YX8_of 110 (.iaload) 1 111 8 := ⟨by decide +kernel, rfl, rfl⟩
theorem d_X8_of_111 : nD YX8_of 111 (.ireturn) 1 112 8 := ⟨by decide +kernel, rfl, rfl⟩
theorem d_X8_of_112 : nD YX8_of 112 (.aload_n 0) 1 113 8 := ⟨by decide +kernel, rfl, rfl⟩
theorem d_X8_of_113 : nD YX8_of 113 (.getfield 42) 3 116 8 := ⟨by decide +kernel, rfl, rfl⟩
theorem d_X8_of_116 : nD YX8_of 116 (.iload 5) 2 118 8 := ⟨by decide +kernel, rfl, rfl⟩
theorem d_X8_of_118 : nD YX8_of 118 (.iaload) 1 119 8 := ⟨by decide +kernel, rfl, rfl⟩
theorem d_X8_of_119 : nD YX8_of 119 (.ireturn) 1 120 8 := ⟨by decide +kernel, rfl, rfl⟩
theorem d_X8_of_120 : nD YX8_of 120 (.aload_n 0) 1 121 8 := ⟨by decide +kernel, rfl, rfl⟩
theorem d_X8_of_121 : nD YX8_of 121 (.getfield 48) 3 124 8 := ⟨by decide +kernel, rfl, rfl⟩
theorem d_X8_of_124 : nD YX8_of 124 (.iload 5) 2 126 8 := ⟨by decide +kernel, rfl, rfl⟩
theorem d_X8_of_126 : nD YX8_of 126 (.iaload) 1 127 8 := ⟨by decide +kernel, rfl, rfl⟩
theorem d_X8_of_127 : nD YX8_of 127 (.ireturn) 1 128 8 := ⟨by decide +kernel, rfl, rfl⟩
theorem d_X8_of_128 : nD YX8_of 128 (.aload_n 0) 1 129 8 := ⟨by decide +kernel, rfl, rfl⟩
theorem d_X8_of_129 : nD YX8_of 129 (.getfield 51) 3 132 8 := ⟨by decide +kernel, rfl, rfl⟩
theorem d_X8_of_132 : nD YX8_of 132 (.iload 5) 2 134 8 := ⟨by decide +kernel, rfl, rfl⟩
theorem d_X8_of_134 : nD YX8_of 134 (.iaload) 1 135 8 := ⟨by decide +kernel, rfl, rfl⟩
theorem d_X8_of_135 : nD YX8_of 135 (.invokestatic 142) 3 138 8 := ⟨by decide +kernel, rfl, rfl⟩
theorem d_X8_of_138 : nD YX8_of 138 (.ireturn) 1 139 8 := ⟨by decide +kernel, rfl, rfl⟩
theorem d_X8_of_139 : nD YX8_of 139 (.aload_n 0) 1 140 8 := ⟨by decide +kernel, rfl, rfl⟩
theorem d_X8_of_140 : nD YX8_of 140 (.getfield 45) 3 143 8 := ⟨by decide +kernel, rfl, rfl⟩
theorem d_X8_of_143 : nD YX8_of 143 (.iload 5) 2 145 8 := ⟨by decide +kernel, rfl, rfl⟩
theorem d_X8_of_145 : nD YX8_of 145 (.iaload) 1 146 8 := ⟨by decide +kernel, rfl, rfl⟩
theorem d_X8_of_146 : nD YX8_of 146 (.ireturn) 1 147 8 := ⟨by decide +kernel, rfl, rfl⟩
theorem d_X8_of_147 : nD YX8_of 147 (.aload_n 0) 1 148 8 := ⟨by decide +kernel, rfl, rfl⟩
theorem d_X8_of_148 : nD YX8_of 148 (.getfield 54) 3 151 8 := ⟨by decide +kernel, rfl, rfl⟩
theorem d_X8_of_151 : nD YX8_of 151 (.iload 5) 2 153 8 := ⟨by decide +kernel, rfl, rfl⟩
theorem d_X8_of_153 : nD YX8_of 153 (.baload) 1 154 8 := ⟨by decide +kernel, rfl, rfl⟩
theorem d_X8_of_154 : nD YX8_of 154 (.ifCond .eq 7) 3 157 8 := ⟨by decide +kernel, rfl, rfl⟩
theorem d_X8_of_157 : nD YX8_of 157 (.iconst 1) 1 158 8 := ⟨by decide +kernel, rfl, rfl⟩
theorem d_X8_of_158 : nD YX8_of 158 (.goto 4) 3 161 8 := ⟨by decide +kernel, rfl, rfl⟩
theorem d_X8_of_161 : nD YX8_of 161 (.iconst 0) 1 162 8 := ⟨by decide +kernel, rfl, rfl⟩
theorem d_X8_of_162 : nD YX8_of 162 (.ireturn) 1 163 8 := ⟨by decide +kernel, rfl, rfl⟩
theorem d_X8_of_163 : nD YX8_of 163 (.aload_n 0) 1 164 8 := ⟨by decide +kernel, rfl, rfl⟩
theorem d_X8_of_164 : nD YX8_of 164 (.iload_n 1) 1 165 8 := ⟨by decide +kernel, rfl, rfl⟩
theorem d_X8_of_165 : nD YX8_of 165 (.iload_n 2) 1 166 8 := ⟨by decide +kernel, rfl, rfl⟩
theorem d_X8_of_166 : nD YX8_of 166 (.iload_n 3) 1 167 8 := ⟨by decide +kernel, rfl, rfl⟩
theorem d_X8_of_167 : nD YX8_of 167 (.invokevirtual 149) 3 170 8 := ⟨by decide +kernel, rfl, rfl⟩
theorem d_X8_of_170 : nD YX8_of 170 (.ireturn) 1 171 8 := ⟨by decide +kernel, rfl, rfl⟩
theorem d_X8_of_171 : nD YX8_of 171 (.iconst (-1)) 1 172 8 := ⟨by decide +kernel, rfl, rfl⟩
theorem d_X8_of_172 : nD YX8_of 172 (.ireturn) 1 173 8 := ⟨by decide +kernel, rfl, rfl⟩
theorem d_X8_side_0 : nD YX8_side 0 (.aload_n 0) 1 1 8 := ⟨by decide +kernel, rfl, rfl⟩
theorem d_X8_side_1 : nD YX8_side 1 (.iload_n 1) 1 2 8 := ⟨by decide +kernel, rfl, rfl⟩
theorem d_X8_side_2 : nD YX8_side 2 (.iload_n 2) 1 3 8 := ⟨by decide +kernel, rfl, rfl⟩
theorem d_X8_side_3 : nD YX8_side 3 (.iload_n 3) 1 4 8 := ⟨by decide +kernel, rfl, rfl⟩
theorem d_X8_side_4 : nD YX8_side 4 (.invokevirtual 118) 3 7 8 := ⟨by decide +kernel, rfl, rfl⟩
theorem d_X8_side_7 : nD YX8_side 7 (.ifCond .eq 24) 3 10 8 := ⟨by decide +kernel, rfl, rfl⟩
theorem d_X8_side_10 : nD YX8_side 10 (.iload 4) 2 12 8 := ⟨by decide +kernel, rfl, rfl⟩
theorem d_X8_side_12 : nD YX8_side 12 (.ifCond .lt 19) 3 15 8 := ⟨by decide +kernel, rfl, rfl⟩
theorem d_X8_side_15 : nD YX8_side 15 (.iload 4) 2 17 8 := ⟨by decide +kernel, rfl, rfl⟩
theorem d_X8_side_17 : nD YX8_side 17 (.aload_n 0) 1 18 8 := ⟨by decide +kernel, rfl, rfl⟩
theorem d_X8_side_18 : nD YX8_side 18 (.getfield 48) 3 21 8 := ⟨by decide +kernel, rfl, rfl⟩
theorem d_X8_side_21 : nD YX8_side 21 (.iload_n 1) 1 22 8 := ⟨by decide +kernel, rfl, rfl⟩
theorem d_X8_side_22 : nD YX8_side 22 (.iload_n 2) 1 23 8 := ⟨by decide +kernel, rfl, rfl⟩
theorem d_X8_side_23 : nD YX8_side 23 (.iload_n 3) 1 24 8 := ⟨by decide +kernel, rfl, rfl⟩
theorem d_X8_side_24 : nD YX8_side 24 (.invokestatic 99) 3 27 8 := ⟨by decide +kernel, rfl, rfl⟩
theorem d_X8_side_27 : nD YX8_side 27 (.iaload) 1 28 8 := ⟨by decide +kernel, rfl, rfl⟩
theorem d_X8_side_28 : nD YX8_side 28 (.if_icmp .lt 5) 3 31 8 := ⟨by decide +kernel, rfl, rfl⟩
theorem d_X8_side_31 : nD YX8_side 31 (.iconst 0) 1 32 8 := ⟨by decide +kernel, rfl, rfl⟩
theorem d_X8_side_32 : nD YX8_side 32 (.ireturn) 1 33 8 := ⟨by decide +kernel, rfl, rfl⟩
theorem d_X8_side_33 : nD YX8_side 33 (.iload_n 1) 1 34 8 := ⟨by decide +kernel, rfl, rfl⟩
theorem d_X8_side_34 : nD YX8_side 34 (.iload_n 2) 1 35 8 := ⟨by decide +kernel, rfl, rfl⟩
theorem d_X8_side_35 : nD YX8_side 35 (.iload_n 3) 1 36 8 := ⟨by decide +kernel, rfl, rfl⟩
theorem d_X8_side_36 : nD YX8_side 36 (.invokestatic 99) 3 39 8 := ⟨by decide +kernel, rfl, rfl⟩
theorem d_X8_side_39 : nD YX8_side 39 (.istore 6) 2 41 8 := ⟨by decide +kernel, rfl, rfl⟩
theorem d_X8_side_41 : nD YX8_side 41 (.aload_n 0) 1 42 8 := ⟨by decide +kernel, rfl, rfl⟩
theorem d_X8_side_42 : nD YX8_side 42 (.getfield 51) 3 45 8 := ⟨by decide +kernel, rfl, rfl⟩
theorem d_X8_side_45 : nD YX8_side 45 (.iload 6) 2 47 8 := ⟨by decide +kernel, rfl, rfl⟩
theorem d_X8_side_47 : nD YX8_side 47 (.iload 5) 2 49 8 := ⟨by decide +kernel, rfl, rfl⟩
theorem d_X8_side_49 : nD YX8_side 49 (.ifCond .eq 20) 3 52 8 := ⟨by decide +kernel, rfl, rfl⟩
theorem d_X8_side_52 : nD YX8_side 52 (.aload_n 0) 1 53 8 := ⟨by decide +kernel, rfl, rfl⟩
theorem d_X8_side_53 : nD YX8_side 53 (.getfield 51) 3 56 8 := ⟨by decide +kernel, rfl, rfl⟩
theorem d_X8_side_56 : nD YX8_side 56 (.iload 6) 2 58 8 := ⟨by decide +kernel, rfl, rfl⟩
theorem d_X8_side_58 : nD YX8_side 58 (.iaload) 1 59 8 := ⟨by decide +kernel, rfl, rfl⟩
theorem d_X8_side_59 : nD YX8_side 59 (.iconst 1) 1 60 8 := ⟨by decide +kernel, rfl, rfl⟩
theorem d_X8_side_60 : nD YX8_side 60 (.iload 4) 2 62 8 := ⟨by decide +kernel, rfl, rfl⟩
theorem d_X8_side_62 : nD YX8_side 62 (.ishl) 1 63 8 := ⟨by decide +kernel, rfl, rfl⟩
theorem d_X8_side_63 : nD YX8_side 63 (.iconst (-1)) 1 64 8 := ⟨by decide +kernel, rfl, rfl⟩
theorem d_X8_side_64 : nD YX8_side 64 (.ixor) 1 65 8 := ⟨by decide +kernel, rfl, rfl⟩
theorem d_X8_side_65 : nD YX8_side 65 (.iand) 1 66 8 := ⟨by decide +kernel, rfl, rfl⟩
theorem d_X8_side_66 : nD YX8_side 66 (.goto 15) 3 69 8 := ⟨by decide +kernel, rfl, rfl⟩
theorem d_X8_side_69 : nD YX8_side 69 (.aload_n 0) 1 70 8 := ⟨by decide +kernel, rfl, rfl⟩
theorem d_X8_side_70 : nD YX8_side 70 (.getfield 51) 3 73 8 := ⟨by decide +kernel, rfl, rfl⟩
theorem d_X8_side_73 : nD YX8_side 73 (.iload 6) 2 75 8 := ⟨by decide +kernel, rfl, rfl⟩
theorem d_X8_side_75 : nD YX8_side 75 (.iaload) 1 76 8 := ⟨by decide +kernel, rfl, rfl⟩
theorem d_X8_side_76 : nD YX8_side 76 (.iconst 1) 1 77 8 := ⟨by decide +kernel, rfl, rfl⟩
theorem d_X8_side_77 : nD YX8_side 77 (.iload 4) 2 79 8 := ⟨by decide +kernel, rfl, rfl⟩
theorem d_X8_side_79 : nD YX8_side 79 (.ishl) 1 80 8 := ⟨by decide +kernel, rfl, rfl⟩
theorem d_X8_side_80 : nD YX8_side 80 (.ior) 1 81 8 := ⟨by decide +kernel, rfl, rfl⟩
theorem d_X8_side_81 : nD YX8_side 81 (.iastore) 1 82 8 := ⟨by decide +kernel, rfl, rfl⟩
theorem d_X8_side_82 : nD YX8_side 82 (.iconst 1) 1 83 8 := ⟨by decide +kernel, rfl, rfl⟩
theorem d_X8_side_83 : nD YX8_side 83 (.ireturn) 1 84 8 := ⟨by decide +kernel, rfl, rfl⟩
theorem d_X8_cut_0 : nD YX8_cut 0 (.aload_n 0) 1 1 8 := ⟨by decide +kernel, rfl, rfl⟩
theorem d_X8_cut_1 : nD YX8_cut 1 (.iload_n 1) 1 2 8 := ⟨by decide +kernel, rfl, rfl⟩
theorem d_X8_cut_2 : nD YX8_cut 2 (.iload_n 2) 1 3 8 := ⟨by decide +kernel, rfl, rfl⟩
theorem d_X8_cut_3 : nD YX8_cut 3 (.iload_n 3) 1 4 8 := ⟨by decide +kernel, rfl, rfl⟩
theorem d_X8_cut_4 : nD YX8_cut 4 (.invokevirtual 118) 3 7 8 := ⟨by decide +kernel, rfl, rfl⟩
theorem d_X8_cut_7 : nD YX8_cut 7 (.ifCond .ne 5) 3 10 8 := ⟨by decide +kernel, rfl, rfl⟩
theorem d_X8_cut_10 : nD YX8_cut 10 (.iconst (-1)) 1 11 8 := ⟨by decide +kernel, rfl, rfl⟩
theorem d_X8_cut_11 : nD YX8_cut 11 (.ireturn) 1 12 8 := ⟨by decide +kernel, rfl, rfl⟩
theorem d_X8_cut_12 : nD YX8_cut 12 (.iload_n 1) 1 13 8 := ⟨by decide +kernel, rfl, rfl⟩
theorem d_X8_cut_13 : nD YX8_cut 13 (.iload_n 2) 1 14 8 := ⟨by decide +kernel, rfl, rfl⟩
theorem d_X8_cut_14 : nD YX8_cut 14 (.iload_n 3) 1 15 8 := ⟨by decide +kernel, rfl, rfl⟩
theorem d_X8_cut_15 : nD YX8_cut 15 (.invokestatic 99) 3 18 8 := ⟨by decide +kernel, rfl, rfl⟩
theorem d_X8_cut_18 : nD YX8_cut 18 (.istore 4) 2 20 8 := ⟨by decide +kernel, rfl, rfl⟩
theorem d_X8_cut_20 : nD YX8_cut 20 (.aload_n 0) 1 21 8 := ⟨by decide +kernel, rfl, rfl⟩
theorem d_X8_cut_21 : nD YX8_cut 21 (.getfield 48) 3 24 8 := ⟨by decide +kernel, rfl, rfl⟩
theorem d_X8_cut_24 : nD YX8_cut 24 (.iload 4) 2 26 8 := ⟨by decide +kernel, rfl, rfl⟩
theorem d_X8_cut_26 : nD YX8_cut 26 (.iaload) 1 27 8 := ⟨by decide +kernel, rfl, rfl⟩
theorem d_X8_cut_27 : nD YX8_cut 27 (.aload_n 0) 1 28 8 := ⟨by decide +kernel, rfl, rfl⟩
theorem d_X8_cut_28 : nD YX8_cut 28 (.getfield 51) 3 31 8 := ⟨by decide +kernel, rfl, rfl⟩
theorem d_X8_cut_31 : nD YX8_cut 31 (.iload 4) 2 33 8 := ⟨by decide +kernel, rfl, rfl⟩
theorem d_X8_cut_33 : nD YX8_cut 33 (.iaload) 1 34 8 := ⟨by decide +kernel, rfl, rfl⟩
theorem d_X8_cut_34 : nD YX8_cut 34 (.invokestatic 142) 3 37 8 := ⟨by decide +kernel, rfl, rfl⟩
theorem d_X8_cut_37 : nD YX8_cut 37 (.isub) 1 38 8 := ⟨by decide +kernel, rfl, rfl⟩
theorem d_X8_cut_38 : nD YX8_cut 38 (.aload_n 0) 1 39 8 := ⟨by decide +kernel, rfl, rfl⟩
theorem d_X8_cut_39 : nD YX8_cut 39 (.iload_n 1) 1 40 8 := ⟨by decide +kernel, rfl, rfl⟩
theorem d_X8_cut_40 : nD YX8_cut 40 (.iload_n 2) 1 41 8 := ⟨by decide +kernel, rfl, rfl⟩
theorem d_X8_cut_41 : nD YX8_cut 41 (.iload_n 3) 1 42 8 := ⟨by decide +kernel, rfl, rfl⟩
theorem d_X8_cut_42 : nD YX8_cut 42 (.iconst 0) 1 43 8 := ⟨by decide +kernel, rfl, rfl⟩
theorem d_X8_cut_43 : nD YX8_cut 43 (.invokevirtual 145) 3 46 8 := ⟨by decide +kernel, rfl, rfl⟩
theorem d_X8_cut_46 : nD YX8_cut 46 (.iadd) 1 47 8 := ⟨by decide +kernel, rfl, rfl⟩
theorem d_X8_cut_47 : nD YX8_cut 47 (.istore 5) 2 49 8 := ⟨by decide +kernel, rfl, rfl⟩
theorem d_X8_cut_49 : nD YX8_cut 49 (.aload_n 0) 1 50 8 := ⟨by decide +kernel, rfl, rfl⟩
theorem d_X8_cut_50 : nD YX8_cut 50 (.getfield 51) 3 53 8 := ⟨by decide +kernel, rfl, rfl⟩
theorem d_X8_cut_53 : nD YX8_cut 53 (.iload 4) 2 55 8 := ⟨by decide +kernel, rfl, rfl⟩
theorem d_X8_cut_55 : nD YX8_cut 55 (.iconst 1) 1 56 8 := ⟨by decide +kernel, rfl, rfl⟩
theorem d_X8_cut_56 : nD YX8_cut 56 (.aload_n 0) 1 57 8 := ⟨by decide +kernel, rfl, rfl⟩
theorem d_X8_cut_57 : nD YX8_cut 57 (.getfield 48) 3 60 8 := ⟨by decide +kernel, rfl, rfl⟩
theorem d_X8_cut_60 : nD YX8_cut 60 (.iload 4) 2 62 8 := ⟨by decide +kernel, rfl, rfl⟩
theorem d_X8_cut_62 : nD YX8_cut 62 (.iaload) 1 63 8 := ⟨by decide +kernel, rfl, rfl⟩
theorem d_X8_cut_63 : nD YX8_cut 63 (.ishl) 1 64 8 := ⟨by decide +kernel, rfl, rfl⟩
theorem d_X8_cut_64 : nD YX8_cut 64 (.iconst 1) 1 65 8 := ⟨by decide +kernel, rfl, rfl⟩
theorem d_X8_cut_65 : nD YX8_cut 65 (.isub) 1 66 8 := ⟨by decide +kernel, rfl, rfl⟩
theorem d_X8_cut_66 : nD YX8_cut 66 (.iastore) 1 67 8 := ⟨by decide +kernel, rfl, rfl⟩
theorem d_X8_cut_67 : nD YX8_cut 67 (.iload_n 2) 1 68 8 := ⟨by decide +kernel, rfl, rfl⟩
theorem d_X8_cut_68 : nD YX8_cut 68 (.iconst 1) 1 69 8 := ⟨by decide +kernel, rfl, rfl⟩
theorem d_X8_cut_69 : nD YX8_cut 69 (.iadd) 1 70 8 := ⟨by decide +kernel, rfl, rfl⟩
theorem d_X8_cut_70 : nD YX8_cut 70 (.aload_n 0) 1 71 8 := ⟨by decide +kernel, rfl, rfl⟩
theorem d_X8_cut_71 : nD YX8_cut 71 (.getfield 13) 3 74 8 := ⟨by decide +kernel, rfl, rfl⟩
theorem d_X8_cut_74 : nD YX8_cut 74 (.iload_n 1) 1 75 8 := ⟨by decide +kernel, rfl, rfl⟩
theorem d_X8_cut_75 : nD YX8_cut 75 (.iaload) 1 76 8 := ⟨by decide +kernel, rfl, rfl⟩
theorem d_X8_cut_76 : nD YX8_cut 76 (.if_icmp .ge 73) 3 79 8 := ⟨by decide +kernel, rfl, rfl⟩
theorem d_X8_cut_79 : nD YX8_cut 79 (.iconst 0) 1 80 8 := ⟨by decide +kernel, rfl, rfl⟩
theorem d_X8_cut_80 : nD YX8_cut 80 (.istore 6) 2 82 8 := ⟨by decide +kernel, rfl, rfl⟩
theorem d_X8_cut_82 : nD YX8_cut 82 (.iload 6) 2 84 8 := ⟨by decide +kernel, rfl, rfl⟩
theorem d_X8_cut_84 : nD YX8_cut 84 (.aload_n 0) 1 85 8 := ⟨by decide +kernel, rfl, rfl⟩
theorem d_X8_cut_85 : nD YX8_cut 85 (.getfield 32) 3 88 8 := ⟨by decide +kernel, rfl, rfl⟩
theorem d_X8_cut_88 : nD YX8_cut 88 (.bipush 20) 2 90 8 := ⟨by decide +kernel, rfl, rfl⟩
theorem d_X8_cut_90 : nD YX8_cut 90 (.iload_n 1) 1 91 8 := ⟨by decide +kernel, rfl, rfl⟩
theorem d_X8_cut_91 : nD YX8_cut 91 (.imul) 1 92 8 := ⟨by decide +kernel, rfl, rfl⟩
theorem d_X8_cut_92 : nD YX8_cut 92 (.iload_n 2) 1 93 8 := ⟨by decide +kernel, rfl, rfl⟩
theorem d_X8_cut_93 : nD YX8_cut 93 (.iadd) 1 94 8 := ⟨by decide +kernel, rfl, rfl⟩
theorem d_X8_cut_94 : nD YX8_cut 94 (.iconst 1) 1 95 8 := ⟨by decide +kernel, rfl, rfl⟩
theorem d_X8_cut_95 : nD YX8_cut 95 (.iadd) 1 96 8 := ⟨by decide +kernel, rfl, rfl⟩
theorem d_X8_cut_96 : nD YX8_cut 96 (.iaload) 1 97 8 := ⟨by decide +kernel, rfl, rfl⟩
theorem d_X8_cut_97 : nD YX8_cut 97 (.if_icmp .ge 52) 3 100 8 := ⟨by decide +kernel, rfl, rfl⟩
theorem d_X8_cut_100 : nD YX8_cut 100 (.iload_n 1) 1 101 8 := ⟨by decide +kernel, rfl, rfl⟩
theorem d_X8_cut_101 : nD YX8_cut 101 (.iload_n 2) 1 102 8 := ⟨by decide +kernel, rfl, rfl⟩
theorem d_X8_cut_102 : nD YX8_cut 102 (.iconst 1) 1 103 8 := ⟨by decide +kernel, rfl, rfl⟩
theorem d_X8_cut_103 : nD YX8_cut 103 (.iadd) 1 104 8 := ⟨by decide +kernel, rfl, rfl⟩
theorem d_X8_cut_104 : nD YX8_cut 104 (.iload 6) 2 106 8 := ⟨by decide +kernel, rfl, rfl⟩
theorem d_X8_cut_106 : nD YX8_cut 106 (.invokestatic 99) 3 109 8 := ⟨by decide +kernel, rfl, rfl⟩
theorem d_X8_cut_109 : nD YX8_cut 109 (.istore 7) 2 111 8 := ⟨by decide +kernel, rfl, rfl⟩
theorem d_X8_cut_111 : nD YX8_cut 111 (.aload_n 0) 1 112 8 := ⟨by decide +kernel, rfl, rfl⟩
theorem d_X8_cut_112 : nD YX8_cut 112 (.iload 7) 2 114 8 := ⟨by decide +kernel, rfl, rfl⟩
theorem d_X8_cut_114 : nD YX8_cut 114 (.iload_n 3) 1 115 8 := ⟨by decide +kernel, rfl, rfl⟩
theorem d_X8_cut_115 : nD YX8_cut 115 (.iconst 2) 1 116 8 := ⟨by decide +kernel, rfl, rfl⟩
theorem d_X8_cut_116 : nD YX8_cut 116 (.invokevirtual 139) 3 119 8 := ⟨by decide +kernel, rfl, rfl⟩
theorem d_X8_cut_119 : nD YX8_cut 119 (.ifCond .eq 24) 3 122 8 := ⟨by decide +kernel, rfl, rfl⟩
theorem d_X8_cut_122 : nD YX8_cut 122 (.aload_n 0) 1 123 8 := ⟨by decide +kernel, rfl, rfl⟩
theorem d_X8_cut_123 : nD YX8_cut 123 (.getfield 51) 3 126 8 := ⟨by decide +kernel, rfl, rfl⟩
theorem d_X8_cut_126 : nD YX8_cut 126 (.iload 7) 2 128 8 := ⟨by decide +kernel, rfl, rfl⟩
theorem d_X8_cut_128 : nD YX8_cut 128 (.dup2) 1 129 8 := ⟨by decide +kernel, rfl, rfl⟩
theorem d_X8_cut_129 : nD YX8_cut 129 (.iaload) 1 130 8 := ⟨by decide +kernel, rfl, rfl⟩
theorem d_X8_cut_130 : nD YX8_cut 130 (.iconst 1) 1 131 8 := ⟨by decide +kernel, rfl, rfl⟩
theorem d_X8_cut_131 : nD YX8_cut 131 (.iload_n 3) 1 132 8 := ⟨by decide +kernel, rfl, rfl⟩
theorem d_X8_cut_132 : nD YX8_cut 132 (.aload_n 0) 1 133 8 := ⟨by decide +kernel, rfl, rfl⟩
theorem d_X8_cut_133 : nD YX8_cut 133 (.getfield 45) 3 136 8 := ⟨by decide +kernel, rfl, rfl⟩
theorem d_X8_cut_136 : nD YX8_cut 136 (.iload 7) 2 138 8 := ⟨by decide +kernel, rfl, rfl⟩
theorem d_X8_cut_138 : nD YX8_cut 138 (.iaload) 1 139 8 := ⟨by decide +kernel, rfl, rfl⟩
theorem d_X8_cut_139 : nD YX8_cut 139 (.isub) 1 140 8 := ⟨by decide +kernel, rfl, rfl⟩
theorem d_X8_cut_140 : nD YX8_cut 140 (.ishl) 1 141 8 := ⟨by decide +kernel, rfl, rfl⟩
theorem d_X8_cut_141 : nD YX8_cut 141 (.ior) 1 142 8 := ⟨by decide +kernel, rfl, rfl⟩
theorem d_X8_cut_142 : nD YX8_cut 142 (.iastore) 1 143 8 := ⟨by decide +kernel, rfl, rfl⟩
theorem d_X8_cut_143 : nD YX8_cut 143 (.iinc 6 1) 3 146 8 := ⟨by decide +kernel, rfl, rfl⟩
theorem d_X8_cut_146 : nD YX8_cut 146 (.goto (-64)) 3 149 8 := ⟨by decide +kernel, rfl, rfl⟩
theorem d_X8_cut_149 : nD YX8_cut 149 (.iload 5) 2 151 8 := ⟨by decide +kernel, rfl, rfl⟩
theorem d_X8_cut_151 : nD YX8_cut 151 (.ireturn) 1 152 8 := ⟨by decide +kernel, rfl, rfl⟩
theorem d_X8_tear_0 : nD YX8_tear 0 (.aload_n 0) 1 1 8 := ⟨by decide +kernel, rfl, rfl⟩
theorem d_X8_tear_1 : nD YX8_tear 1 (.iload_n 1) 1 2 8 := ⟨by decide +kernel, rfl, rfl⟩
theorem d_X8_tear_2 : nD YX8_tear 2 (.iload_n 2) 1 3 8 := ⟨by decide +kernel, rfl, rfl⟩
theorem d_X8_tear_3 : nD YX8_tear 3 (.invokevirtual 95) 3 6 8 := ⟨by decide +kernel, rfl, rfl⟩
theorem d_X8_tear_6 : nD YX8_tear 6 (.ifCond .eq 17) 3 9 8 := ⟨by decide +kernel, rfl, rfl⟩
theorem d_X8_tear_9 : nD YX8_tear 9 (.aload_n 0) 1 10 8 := ⟨by decide +kernel, rfl, rfl⟩
theorem d_X8_tear_10 : nD YX8_tear 10 (.getfield 35) 3 13 8 := ⟨by decide +kernel, rfl, rfl⟩
theorem d_X8_tear_13 : nD YX8_tear 13 (.bipush 20) 2 15 8 := ⟨by decide +kernel, rfl, rfl⟩
theorem d_X8_tear_15 : nD YX8_tear 15 (.iload_n 1) 1 16 8 := ⟨by decide +kernel, rfl, rfl⟩
theorem d_X8_tear_16 : nD YX8_tear 16 (.imul) 1 17 8 := ⟨by decide +kernel, rfl, rfl⟩
theorem d_X8_tear_17 : nD YX8_tear 17 (.iload_n 2) 1 18 8 := ⟨by decide +kernel, rfl, rfl⟩
theorem d_X8_tear_18 : nD YX8_tear 18 (.iadd) 1 19 8 := ⟨by decide +kernel, rfl, rfl⟩
theorem d_X8_tear_19 : nD YX8_tear 19 (.baload) 1 20 8 := ⟨by decide +kernel, rfl, rfl⟩
theorem d_X8_tear_20 : nD YX8_tear 20 (.ifCond .eq 5) 3 23 8 := ⟨by decide +kernel, rfl, rfl⟩
theorem d_X8_tear_23 : nD YX8_tear 23 (.iconst 0) 1 24 8 := ⟨by decide +kernel, rfl, rfl⟩
theorem d_X8_tear_24 : nD YX8_tear 24 (.ireturn) 1 25 8 := ⟨by decide +kernel, rfl, rfl⟩
theorem d_X8_tear_25 : nD YX8_tear 25 (.aload_n 0) 1 26 8 := ⟨by decide +kernel, rfl, rfl⟩
theorem d_X8_tear_26 : nD YX8_tear 26 (.iload_n 1) 1 27 8 := ⟨by decide +kernel, rfl, rfl⟩
theorem d_X8_tear_27 : nD YX8_tear 27 (.iload_n 2) 1 28 8 := ⟨by decide +kernel, rfl, rfl⟩
theorem d_X8_tear_28 : nD YX8_tear 28 (.invokevirtual 108) 3 31 8 := ⟨by decide +kernel, rfl, rfl⟩
theorem d_X8_tear_31 : nD YX8_tear 31 (.aload_n 0) 1 32 8 := ⟨by decide +kernel, rfl, rfl⟩
theorem d_X8_tear_32 : nD YX8_tear 32 (.getfield 35) 3 35 8 := ⟨by decide +kernel, rfl, rfl⟩
theorem d_X8_tear_35 : nD YX8_tear 35 (.bipush 20) 2 37 8 := ⟨by decide +kernel, rfl, rfl⟩
theorem d_X8_tear_37 : nD YX8_tear 37 (.iload_n 1) 1 38 8 := ⟨by decide +kernel, rfl, rfl⟩
theorem d_X8_tear_38 : nD YX8_tear 38 (.imul) 1 39 8 := ⟨by decide +kernel, rfl, rfl⟩
theorem d_X8_tear_39 : nD YX8_tear 39 (.iload_n 2) 1 40 8 := ⟨by decide +kernel, rfl, rfl⟩
theorem d_X8_tear_40 : nD YX8_tear 40 (.iadd) 1 41 8 := ⟨by decide +kernel, rfl, rfl⟩
theorem d_X8_tear_41 : nD YX8_tear 41 (.iconst 1) 1 42 8 := ⟨by decide +kernel, rfl, rfl⟩
theorem d_X8_tear_42 : nD YX8_tear 42 (.bastore) 1 43 8 := ⟨by decide +kernel, rfl, rfl⟩
theorem d_X8_tear_43 : nD YX8_tear 43 (.iload_n 2) 1 44 8 := ⟨by decide +kernel, rfl, rfl⟩
theorem d_X8_tear_44 : nD YX8_tear 44 (.ifCond .ne 29) 3 47 8 := ⟨by decide +kernel, rfl, rfl⟩
theorem d_X8_tear_47 : nD YX8_tear 47 (.iconst 0) 1 48 8 := ⟨by decide +kernel, rfl, rfl⟩
theorem d_X8_tear_48 : nD YX8_tear 48 (.istore_n 3) 1 49 8 := ⟨by decide +kernel, rfl, rfl⟩
theorem d_X8_tear_49 : nD YX8_tear 49 (.iload_n 3) 1 50 8 := ⟨by decide +kernel, rfl, rfl⟩
theorem d_X8_tear_50 : nD YX8_tear 50 (.bipush 24) 2 52 8 := ⟨by decide +kernel, rfl, rfl⟩
theorem d_X8_tear_52 : nD YX8_tear 52 (.if_icmp .ge 21) 3 55 8 := ⟨by decide +kernel, rfl, rfl⟩
theorem d_X8_tear_55 : nD YX8_tear 55 (.aload_n 0) 1 56 8 := ⟨by decide +kernel, rfl, rfl⟩
theorem d_X8_tear_56 : nD YX8_tear 56 (.getfield 29) 3 59 8 := ⟨by decide +kernel, rfl, rfl⟩
theorem d_X8_tear_59 : nD YX8_tear 59 (.bipush 24) 2 61 8 := ⟨by decide +kernel, rfl, rfl⟩
theorem d_X8_tear_61 : nD YX8_tear 61 (.iload_n 1) 1 62 8 := ⟨by decide +kernel, rfl, rfl⟩
theorem d_X8_tear_62 : nD YX8_tear 62 (.imul) 1 63 8 := ⟨by decide +kernel, rfl, rfl⟩
theorem d_X8_tear_63 : nD YX8_tear 63 (.iload_n 3) 1 64 8 := ⟨by decide +kernel, rfl, rfl⟩
theorem d_X8_tear_64 : nD YX8_tear 64 (.iadd) 1 65 8 := ⟨by decide +kernel, rfl, rfl⟩
theorem d_X8_tear_65 : nD YX8_tear 65 (.iconst 0) 1 66 8 := ⟨by decide +kernel, rfl, rfl⟩
theorem d_X8_tear_66 : nD YX8_tear 66 (.iastore) 1 67 8 := ⟨by decide +kernel, rfl, rfl⟩
theorem d_X8_tear_67 : nD YX8_tear 67 (.iinc 3 1) 3 70 8 := ⟨by decide +kernel, rfl, rfl⟩
theorem d_X8_tear_70 : nD YX8_tear 70 (.goto (-21)) 3 73 8 := ⟨by decide +kernel, rfl, rfl⟩
theorem d_X8_tear_73 : nD YX8_tear 73 (.iload_n 2) 1 74 8 := ⟨by decide +kernel, rfl, rfl⟩
theorem d_X8_tear_74 : nD YX8_tear 74 (.iconst 1) 1 75 8 := ⟨by decide +kernel, rfl, rfl⟩
theorem d_X8_tear_75 : nD YX8_tear 75 (.iadd) 1 76 8 := ⟨by decide +kernel, rfl, rfl⟩
theorem d_X8_tear_76 : nD YX8_tear 76 (.aload_n 0) 1 77 8 := ⟨by decide +kernel, rfl, rfl⟩
theorem d_X8_tear_77 : nD YX8_tear 77 (.getfield 13) 3 80 8 := ⟨by decide +kernel, rfl, rfl⟩
theorem d_X8_tear_80 : nD YX8_tear 80 (.iload_n 1) 1 81 8 := ⟨by decide +kernel, rfl, rfl⟩
theorem d_X8_tear_81 : nD YX8_tear 81 (.iaload) 1 82 8 := ⟨by decide +kernel, rfl, rfl⟩
theorem d_X8_tear_82 : nD YX8_tear 82 (.if_icmp .ne 5) 3 85 8 := ⟨by decide +kernel, rfl, rfl⟩
theorem d_X8_tear_85 : nD YX8_tear 85 (.iconst 1) 1 86 8 := ⟨by decide +kernel, rfl, rfl⟩
theorem d_X8_tear_86 : nD YX8_tear 86 (.ireturn) 1 87 8 := ⟨by decide +kernel, rfl, rfl⟩
theorem d_X8_tear_87 : nD YX8_tear 87 (.iconst 0) 1 88 8 := ⟨by decide +kernel, rfl, rfl⟩
theorem d_X8_tear_88 : nD YX8_tear 88 (.istore_n 3) 1 89 8 := ⟨by decide +kernel, rfl, rfl⟩
theorem d_X8_tear_89 : nD YX8_tear 89 (.iload_n 3) 1 90 8 := ⟨by decide +kernel, rfl, rfl⟩
theorem d_X8_tear_90 : nD YX8_tear 90 (.bipush 24) 2 92 8 := ⟨by decide +kernel, rfl, rfl⟩
theorem d_X8_tear_92 : nD YX8_tear 92 (.if_icmp .ge 43) 3 95 8 := ⟨by decide +kernel, rfl, rfl⟩
theorem d_X8_tear_95 : nD YX8_tear 95 (.iload_n 1) 1 96 8 := ⟨by decide +kernel, rfl, rfl⟩
theorem d_X8_tear_96 : nD YX8_tear 96 (.iload_n 2) 1 97 8 := ⟨by decide +kernel, rfl, rfl⟩
theorem d_X8_tear_97 : nD YX8_tear 97 (.iconst 1) 1 98 8 := ⟨by decide +kernel, rfl, rfl⟩
theorem d_X8_tear_98 : nD YX8_tear 98 (.iadd) 1 99 8 := ⟨by decide +kernel, rfl, rfl⟩
theorem d_X8_tear_99 : nD YX8_tear 99 (.iload_n 3) 1 100 8 := ⟨by decide +kernel, rfl, rfl⟩
theorem d_X8_tear_100 : nD YX8_tear 100 (.invokestatic 99) 3 103 8 := ⟨by decide +kernel, rfl, rfl⟩
theorem d_X8_tear_103 : nD YX8_tear 103 (.istore 4) 2 105 8 := ⟨by decide +kernel, rfl, rfl⟩
theorem d_X8_tear_105 : nD YX8_tear 105 (.aload_n 0) 1 106 8 := ⟨by decide +kernel, rfl, rfl⟩
theorem d_X8_tear_106 : nD YX8_tear 106 (.getfield 45) 3 109 8 := ⟨by decide +kernel, rfl, rfl⟩
theorem d_X8_tear_109 : nD YX8_tear 109 (.iload 4) 2 111 8 := ⟨by decide +kernel, rfl, rfl⟩
theorem d_X8_tear_111 : nD YX8_tear 111 (.iconst (-1)) 1 112 8 := ⟨by decide +kernel, rfl, rfl⟩
theorem d_X8_tear_112 : nD YX8_tear 112 (.iastore) 1 113 8 := ⟨by decide +kernel, rfl, rfl⟩
theorem d_X8_tear_113 : nD YX8_tear 113 (.aload_n 0) 1 114 8 := ⟨by decide +kernel, rfl, rfl⟩
theorem d_X8_tear_114 : nD YX8_tear 114 (.getfield 48) 3 117 8 := ⟨by decide +kernel, rfl, rfl⟩
theorem d_X8_tear_117 : nD YX8_tear 117 (.iload 4) 2 119 8 := ⟨by decide +kernel, rfl, rfl⟩
theorem d_X8_tear_119 : nD YX8_tear 119 (.iconst 0) 1 120 8 := ⟨by decide +kernel, rfl, rfl⟩
theorem d_X8_tear_120 : nD YX8_tear 120 (.iastore) 1 121 8 := ⟨by decide +kernel, rfl, rfl⟩
theorem d_X8_tear_121 : nD YX8_tear 121 (.aload_n 0) 1 122 8 := ⟨by decide +kernel, rfl, rfl⟩
theorem d_X8_tear_122 : nD YX8_tear 122 (.getfield 51) 3 125 8 := ⟨by decide +kernel, rfl, rfl⟩
theorem d_X8_tear_125 : nD YX8_tear 125 (.iload 4) 2 127 8 := ⟨by decide +kernel, rfl, rfl⟩
theorem d_X8_tear_127 : nD YX8_tear 127 (.iconst 0) 1 128 8 := ⟨by decide +kernel, rfl, rfl⟩
theorem d_X8_tear_128 : nD YX8_tear 128 (.iastore) 1 129 8 := ⟨by decide +kernel, rfl, rfl⟩
theorem d_X8_tear_129 : nD YX8_tear 129 (.iinc 3 1) 3 132 8 := ⟨by decide +kernel, rfl, rfl⟩
theorem d_X8_tear_132 : nD YX8_tear 132 (.goto (-43)) 3 135 8 := ⟨by decide +kernel, rfl, rfl⟩
theorem d_X8_tear_135 : nD YX8_tear 135 (.iconst 1) 1 136 8 := ⟨by decide +kernel, rfl, rfl⟩
theorem d_X8_tear_136 : nD YX8_tear 136 (.ireturn) 1 137 8 := ⟨by decide +kernel, rfl, rfl⟩
theorem d_X8_needle_0 : nD YX8_needle 0 (.aload_n 0) 1 1 8 := ⟨by decide +kernel, rfl, rfl⟩
theorem d_X8_needle_1 : nD YX8_needle 1 (.iload_n 1) 1 2 8 := ⟨by decide +kernel, rfl, rfl⟩
theorem d_X8_needle_2 : nD YX8_needle 2 (.iload_n 2) 1 3 8 := ⟨by decide +kernel, rfl, rfl⟩
theorem d_X8_needle_3 : nD YX8_needle 3 (.iload_n 3) 1 4 8 := ⟨by decide +kernel, rfl, rfl⟩
theorem d_X8_needle_4 : nD YX8_needle 4 (.invokevirtual 118) 3 7 8 := ⟨by decide +kernel, rfl, rfl⟩
theorem d_X8_needle_7 : nD YX8_needle 7 (.ifCond .ne 5) 3 10 8 := ⟨by decide +kernel, rfl, rfl⟩
theorem d_X8_needle_10 : nD YX8_needle 10 (.iconst 0) 1 11 8 := ⟨by decide +kernel, rfl, rfl⟩
theorem d_X8_needle_11 : nD YX8_needle 11 (.ireturn) 1 12 8 := ⟨by decide +kernel, rfl, rfl⟩
theorem d_X8_needle_12 : nD YX8_needle 12 (.aload_n 0) 1 13 8 := ⟨by decide +kernel, rfl, rfl⟩
theorem d_X8_needle_13 : nD YX8_needle 13 (.getfield 54) 3 16 8 := ⟨by decide +kernel, rfl, rfl⟩
theorem d_X8_needle_16 : nD YX8_needle 16 (.iload_n 1) 1 17 8 := ⟨by decide +kernel, rfl, rfl⟩
theorem d_X8_needle_17 : nD YX8_needle 17 (.iload_n 2) 1 18 8 := ⟨by decide +kernel, rfl, rfl⟩
theorem d_X8_needle_18 : nD YX8_needle 18 (.iload_n 3) 1 19 8 := ⟨by decide +kernel, rfl, rfl⟩
theorem d_X8_needle_19 : nD YX8_needle 19 (.invokestatic 99) 3 22 8 := ⟨by decide +kernel, rfl, rfl⟩
theorem d_X8_needle_22 : nD YX8_needle 22 (.iload 4) 2 24 8 := ⟨by decide +kernel, rfl, rfl⟩
theorem d_X8_needle_24 : nD YX8_needle 24 (.bastore) 1 25 8 := ⟨by decide +kernel, rfl, rfl⟩
theorem d_X8_needle_25 : nD YX8_needle 25 (.iconst 1) 1 26 8 := ⟨by decide +kernel, rfl, rfl⟩
theorem d_X8_needle_26 : nD YX8_needle 26 (.ireturn) 1 27 8 := ⟨by decide +kernel, rfl, rfl⟩
theorem d_X8_spreads_0 : nD YX8_spreads 0 (.iconst 0) 1 1 8 := ⟨by decide +kernel, rfl, rfl⟩
theorem d_X8_spreads_1 : nD YX8_spreads 1 (.istore 4) 2 3 8 := ⟨by decide +kernel, rfl, rfl⟩
theorem d_X8_spreads_3 : nD YX8_spreads 3 (.iload 4) 2 5 8 := ⟨by decide +kernel, rfl, rfl⟩
theorem d_X8_spreads_5 : nD YX8_spreads 5 (.sipush 480) 3 8 8 := ⟨by decide +kernel, rfl, rfl⟩
theorem d_X8_spreads_8 : nD YX8_spreads 8 (.if_icmp .ge 17) 3 11 8 := ⟨by decide +kernel, rfl, rfl⟩
theorem d_X8_spreads_11 : nD YX8_spreads 11 (.aload_n 0) 1 12 8 := ⟨by decide +kernel, rfl, rfl⟩
theorem d_X8_spreads_12 : nD YX8_spreads 12 (.getfield 60) 3 15 8 := ⟨by decide +kernel, rfl, rfl⟩
theorem d_X8_spreads_15 : nD YX8_spreads 15 (.iload 4) 2 17 8 := ⟨by decide +kernel, rfl, rfl⟩
theorem d_X8_spreads_17 : nD YX8_spreads 17 (.iconst 0) 1 18 8 := ⟨by decide +kernel, rfl, rfl⟩
theorem d_X8_spreads_18 : nD YX8_spreads 18 (.bastore) 1 19 8 := ⟨by decide +kernel, rfl, rfl⟩
theorem d_X8_spreads_19 : nD YX8_spreads 19 (.iinc 4 1) 3 22 8 := ⟨by decide +kernel, rfl, rfl⟩
theorem d_X8_spreads_22 : nD YX8_spreads 22 (.goto (-19)) 3 25 8 := ⟨by decide +kernel, rfl, rfl⟩
theorem d_X8_spreads_25 : nD YX8_spreads 25 (.aload_n 0) 1 26 8 := ⟨by decide +kernel, rfl, rfl⟩
theorem d_X8_spreads_26 : nD YX8_spreads 26 (.iconst 0) 1 27 8 := ⟨by decide +kernel, rfl, rfl⟩
theorem d_X8_spreads_27 : nD YX8_spreads 27 (.putfield 152) 3 30 8 := ⟨by decide +kernel, rfl, rfl⟩
theorem d_X8_spreads_30 : nD YX8_spreads 30 (.aload_n 0) 1 31 8 := ⟨by decide +kernel, rfl, rfl⟩
theorem d_X8_spreads_31 : nD YX8_spreads 31 (.iconst 0) 1 32 8 := ⟨by decide +kernel, rfl, rfl⟩
theorem d_X8_spreads_32 : nD YX8_spreads 32 (.putfield 155) 3 35 8 := ⟨by decide +kernel, rfl, rfl⟩
theorem d_X8_spreads_35 : nD YX8_spreads 35 (.aload_n 0) 1 36 8 := ⟨by decide +kernel, rfl, rfl⟩
theorem d_X8_spreads_36 : nD YX8_spreads 36 (.iload_n 1) 1 37 8 := ⟨by decide +kernel, rfl, rfl⟩
theorem d_X8_spreads_37 : nD YX8_spreads 37 (.iload_n 2) 1 38 8 := ⟨by decide +kernel, rfl, rfl⟩
theorem d_X8_spreads_38 : nD YX8_spreads 38 (.iload_n 3) 1 39 8 := ⟨by decide +kernel, rfl, rfl⟩
theorem d_X8_spreads_39 : nD YX8_spreads 39 (.invokevirtual 149) 3 42 8 := ⟨by decide +kernel, rfl, rfl⟩
theorem d_X8_spreads_42 : nD YX8_spreads 42 (.ifCond .ne 4) 3 45 8 := ⟨by decide +kernel, rfl, rfl⟩
theorem d_X8_spreads_45 : nD YX8_spreads 45 (.return_) 1 46 8 := ⟨by decide +kernel, rfl, rfl⟩
theorem d_X8_spreads_46 : nD YX8_spreads 46 (.iconst 1) 1 47 8 := ⟨by decide +kernel, rfl, rfl⟩
theorem d_X8_spreads_47 : nD YX8_spreads 47 (.istore 4) 2 49 8 := ⟨by decide +kernel, rfl, rfl⟩
theorem d_X8_spreads_49 : nD YX8_spreads 49 (.aload_n 0) 1 50 8 := ⟨by decide +kernel, rfl, rfl⟩
theorem d_X8_spreads_50 : nD YX8_spreads 50 (.getfield 63) 3 53 8 := ⟨by decide +kernel, rfl, rfl⟩
theorem d_X8_spreads_53 : nD YX8_spreads 53 (.iconst 0) 1 54 8 := ⟨by decide +kernel, rfl, rfl⟩
theorem d_X8_spreads_54 : nD YX8_spreads 54 (.bipush 24) 2 56 8 := ⟨by decide +kernel, rfl, rfl⟩
theorem d_X8_spreads_56 : nD YX8_spreads 56 (.iload_n 2) 1 57 8 := ⟨by decide +kernel, rfl, rfl⟩
theorem d_X8_spreads_57 : nD YX8_spreads 57 (.imul) 1 58 8 := ⟨by decide +kernel, rfl, rfl⟩
theorem d_X8_spreads_58 : nD YX8_spreads 58 (.iload_n 3) 1 59 8 := ⟨by decide +kernel, rfl, rfl⟩
theorem d_X8_spreads_59 : nD YX8_spreads 59 (.iadd) 1 60 8 := ⟨by decide +kernel, rfl, rfl⟩
theorem d_X8_spreads_60 : nD YX8_spreads 60 (.iastore) 1 61 8 := ⟨by decide +kernel, rfl, rfl⟩
theorem d_X8_spreads_61 : nD YX8_spreads 61 (.aload_n 0) 1 62 8 := ⟨by decide +kernel, rfl, rfl⟩
theorem d_X8_spreads_62 : nD YX8_spreads 62 (.getfield 60) 3 65 8 := ⟨by decide +kernel, rfl, rfl⟩
theorem d_X8_spreads_65 : nD YX8_spreads 65 (.bipush 24) 2 67 8 := ⟨by decide +kernel, rfl, rfl⟩
theorem d_X8_spreads_67 : nD YX8_spreads 67 (.iload_n 2) 1 68 8 := ⟨by decide +kernel, rfl, rfl⟩
theorem d_X8_spreads_68 : nD YX8_spreads 68 (.imul) 1 69 8 := ⟨by decide +kernel, rfl, rfl⟩
theorem d_X8_spreads_69 : nD YX8_spreads 69 (.iload_n 3) 1 70 8 := ⟨by decide +kernel, rfl, rfl⟩
theorem d_X8_spreads_70 : nD YX8_spreads 70 (.iadd) 1 71 8 := ⟨by decide +kernel, rfl, rfl⟩
theorem d_X8_spreads_71 : nD YX8_spreads 71 (.iconst 1) 1 72 8 := ⟨by decide +kernel, rfl, rfl⟩
theorem d_X8_spreads_72 : nD YX8_spreads 72 (.bastore) 1 73 8 := ⟨by decide +kernel, rfl, rfl⟩
theorem d_X8_spreads_73 : nD YX8_spreads 73 (.iload 4) 2 75 8 := ⟨by decide +kernel, rfl, rfl⟩
theorem d_X8_spreads_75 : nD YX8_spreads 75 (.ifCond .le 269) 3 78 8 := ⟨by decide +kernel, rfl, rfl⟩
theorem d_X8_spreads_78 : nD YX8_spreads 78 (.iinc 4 (-1)) 3 81 8 := ⟨by decide +kernel, rfl, rfl⟩
theorem d_X8_spreads_81 : nD YX8_spreads 81 (.aload_n 0) 1 82 8 := ⟨by decide +kernel, rfl, rfl⟩
theorem d_X8_spreads_82 : nD YX8_spreads 82 (.getfield 63) 3 85 8 := ⟨by decide +kernel, rfl, rfl⟩
theorem d_X8_spreads_85 : nD YX8_spreads 85 (.iload 4) 2 87 8 := ⟨by decide +kernel, rfl, rfl⟩
theorem d_X8_spreads_87 : nD YX8_spreads 87 (.iaload) 1 88 8 := ⟨by decide +kernel, rfl, rfl⟩
theorem d_X8_spreads_88 : nD YX8_spreads 88 (.istore 5) 2 90 8 := ⟨by decide +kernel, rfl, rfl⟩
theorem d_X8_spreads_90 : nD YX8_spreads 90 (.aload_n 0) 1 91 8 := ⟨by decide +kernel, rfl, rfl⟩
theorem d_X8_spreads_91 : nD YX8_spreads 91 (.dup) 1 92 8 := ⟨by decide +kernel, rfl, rfl⟩
theorem d_X8_spreads_92 : nD YX8_spreads 92 (.getfield 152) 3 95 8 := ⟨by decide +kernel, rfl, rfl⟩
theorem d_X8_spreads_95 : nD YX8_spreads 95 (.iconst 1) 1 96 8 := ⟨by decide +kernel, rfl, rfl⟩
theorem d_X8_spreads_96 : nD YX8_spreads 96 (.iadd) 1 97 8 := ⟨by decide +kernel, rfl, rfl⟩
theorem d_X8_spreads_97 : nD YX8_spreads 97 (.putfield 152) 3 100 8 := ⟨by decide +kernel, rfl, rfl⟩
theorem d_X8_spreads_100 : nD YX8_spreads 100 (.iload 5) 2 102 8 := ⟨by decide +kernel, rfl, rfl⟩
theorem d_X8_spreads_102 : nD YX8_spreads 102 (.bipush 24) 2 104 8 := ⟨by decide +kernel, rfl, rfl⟩
theorem d_X8_spreads_104 : nD YX8_spreads 104 (.idiv) 1 105 8 := ⟨by decide +kernel, rfl, rfl⟩
theorem d_X8_spreads_105 : nD YX8_spreads 105 (.istore 6) 2 107 8 := ⟨by decide +kernel, rfl, rfl⟩
theorem d_X8_spreads_107 : nD YX8_spreads 107 (.iload 5) 2 109 8 := ⟨by decide +kernel, rfl, rfl⟩
theorem d_X8_spreads_109 : nD YX8_spreads 109 (.bipush 24) 2 111 8 := ⟨by decide +kernel, rfl, rfl⟩
theorem d_X8_spreads_111 : nD YX8_spreads 111 (.irem) 1 112 8 := ⟨by decide +kernel, rfl, rfl⟩
theorem d_X8_spreads_112 : nD YX8_spreads 112 (.istore 7) 2 114 8 := ⟨by decide +kernel, rfl, rfl⟩
theorem d_X8_spreads_114 : nD YX8_spreads 114 (.iload_n 1) 1 115 8 := ⟨by decide +kernel, rfl, rfl⟩
theorem d_X8_spreads_115 : nD YX8_spreads 115 (.iload 6) 2 117 8 := ⟨by decide +kernel, rfl, rfl⟩
theorem d_X8_spreads_117 : nD YX8_spreads 117 (.iload 7) 2 119 8 := ⟨by decide +kernel, rfl, rfl⟩
theorem d_X8_spreads_119 : nD YX8_spreads 119 (.invokestatic 99) 3 122 8 := ⟨by decide +kernel, rfl, rfl⟩
theorem d_X8_spreads_122 : nD YX8_spreads 122 (.istore 8) 2 124 8 := ⟨by decide +kernel, rfl, rfl⟩
theorem d_X8_spreads_124 : nD YX8_spreads 124 (.aload_n 0) 1 125 8 := ⟨by decide +kernel, rfl, rfl⟩
theorem d_X8_spreads_125 : nD YX8_spreads 125 (.dup) 1 126 8 := ⟨by decide +kernel, rfl, rfl⟩
theorem d_X8_spreads_126 : nD YX8_spreads 126 (.getfield 155) 3 129 8 := ⟨by decide +kernel, rfl, rfl⟩
theorem d_X8_spreads_129 : nD YX8_spreads 129 (.aload_n 0) 1 130 8 := ⟨by decide +kernel, rfl, rfl⟩
theorem d_X8_spreads_130 : nD YX8_spreads 130 (.getfield 51) 3 133 8 := ⟨by decide +kernel, rfl, rfl⟩
theorem d_X8_spreads_133 : nD YX8_spreads 133 (.iload 8) 2 135 8 := ⟨by decide +kernel, rfl, rfl⟩
theorem d_X8_spreads_135 : nD YX8_spreads 135 (.iaload) 1 136 8 := ⟨by decide +kernel, rfl, rfl⟩
theorem d_X8_spreads_136 : nD YX8_spreads 136 (.invokestatic 142) 3 139 8 := ⟨by decide +kernel, rfl, rfl⟩
theorem d_X8_spreads_139 : nD YX8_spreads 139 (.iadd) 1 140 8 := ⟨by decide +kernel, rfl, rfl⟩
theorem d_X8_spreads_140 : nD YX8_spreads 140 (.putfield 155) 3 143 8 := ⟨by decide +kernel, rfl, rfl⟩
theorem d_X8_spreads_143 : nD YX8_spreads 143 (.iconst 0) 1 144 8 := ⟨by decide +kernel, rfl, rfl⟩
theorem d_X8_spreads_144 : nD YX8_spreads 144 (.istore 9) 2 146 8 := ⟨by decide +kernel, rfl, rfl⟩
theorem d_X8_spreads_146 : nD YX8_spreads 146 (.iload 9) 2 148 8 := ⟨by decide +kernel, rfl, rfl⟩
theorem d_X8_spreads_148 : nD YX8_spreads 148 (.aload_n 0) 1 149 8 := ⟨by decide +kernel, rfl, rfl⟩
theorem d_X8_spreads_149 : nD YX8_spreads 149 (.getfield 48) 3 152 8 := ⟨by decide +kernel, rfl, rfl⟩
theorem d_X8_spreads_152 : nD YX8_spreads 152 (.iload 8) 2 154 8 := ⟨by decide +kernel, rfl, rfl⟩
theorem d_X8_spreads_154 : nD YX8_spreads 154 (.iaload) 1 155 8 := ⟨by decide +kernel, rfl, rfl⟩
theorem d_X8_spreads_155 : nD YX8_spreads 155 (.if_icmp .ge 77) 3 158 8 := ⟨by decide +kernel, rfl, rfl⟩
theorem d_X8_spreads_158 : nD YX8_spreads 158 (.bipush 24) 2 160 8 := ⟨by decide +kernel, rfl, rfl⟩
theorem d_X8_spreads_160 : nD YX8_spreads 160 (.iload 6) 2 162 8 := ⟨by decide +kernel, rfl, rfl⟩
theorem d_X8_spreads_162 : nD YX8_spreads 162 (.iconst 1) 1 163 8 := ⟨by decide +kernel, rfl, rfl⟩
theorem d_X8_spreads_163 : nD YX8_spreads 163 (.isub) 1 164 8 := ⟨by decide +kernel, rfl, rfl⟩
theorem d_X8_spreads_164 : nD YX8_spreads 164 (.imul) 1 165 8 := ⟨by decide +kernel, rfl, rfl⟩
theorem d_X8_spreads_165 : nD YX8_spreads 165 (.aload_n 0) 1 166 8 := ⟨by decide +kernel, rfl, rfl⟩
theorem d_X8_spreads_166 : nD YX8_spreads 166 (.getfield 45) 3 169 8 := ⟨by decide +kernel, rfl, rfl⟩
theorem d_X8_spreads_169 : nD YX8_spreads 169 (.iload 8) 2 171 8 := ⟨by decide +kernel, rfl, rfl⟩
theorem d_X8_spreads_171 : nD YX8_spreads 171 (.iaload) 1 172 8 := ⟨by decide +kernel, rfl, rfl⟩
theorem d_X8_spreads_172 : nD YX8_spreads 172 (.iadd) 1 173 8 := ⟨by decide +kernel, rfl, rfl⟩
theorem d_X8_spreads_173 : nD YX8_spreads 173 (.iload 9) 2 175 8 := ⟨by decide +kernel, rfl, rfl⟩
theorem d_X8_spreads_175 : nD YX8_spreads 175 (.iadd) 1 176 8 := ⟨by decide +kernel, rfl, rfl⟩
theorem d_X8_spreads_176 : nD YX8_spreads 176 (.istore 10) 2 178 8 := ⟨by decide +kernel, rfl, rfl⟩
theorem d_X8_spreads_178 : nD YX8_spreads 178 (.aload_n 0) 1 179 8 := ⟨by decide +kernel, rfl, rfl⟩
theorem d_X8_spreads_179 : nD YX8_spreads 179 (.getfield 51) 3 182 8 := ⟨by decide +kernel, rfl, rfl⟩
theorem d_X8_spreads_182 : nD YX8_spreads 182 (.iload 8) 2 184 8 := ⟨by decide +kernel, rfl, rfl⟩
theorem d_X8_spreads_184 : nD YX8_spreads 184 (.iaload) 1 185 8 := ⟨by decide +kernel, rfl, rfl⟩
theorem d_X8_spreads_185 : nD YX8_spreads 185 (.iload 9) 2 187 8 := ⟨by decide +kernel, rfl, rfl⟩
theorem d_X8_spreads_187 : nD YX8_spreads 187 (.ishr) 1 188 8 := ⟨by decide +kernel, rfl, rfl⟩
theorem d_X8_spreads_188 : nD YX8_spreads 188 (.iconst 1) 1 189 8 := ⟨by decide +kernel, rfl, rfl⟩
theorem d_X8_spreads_189 : nD YX8_spreads 189 (.iand) 1 190 8 := ⟨by decide +kernel, rfl, rfl⟩
theorem d_X8_spreads_190 : nD YX8_spreads 190 (.ifCond .eq 36) 3 193 8 := ⟨by decide +kernel, rfl, rfl⟩
theorem d_X8_spreads_193 : nD YX8_spreads 193 (.aload_n 0) 1 194 8 := ⟨by decide +kernel, rfl, rfl⟩
theorem d_X8_spreads_194 : nD YX8_spreads 194 (.getfield 60) 3 197 8 := ⟨by decide +kernel, rfl, rfl⟩
theorem d_X8_spreads_197 : nD YX8_spreads 197 (.iload 10) 2 199 8 := ⟨by decide +kernel, rfl, rfl⟩
theorem d_X8_spreads_199 : nD YX8_spreads 199 (.baload) 1 200 8 := ⟨by decide +kernel, rfl, rfl⟩
theorem d_X8_spreads_200 : nD YX8_spreads 200 (.ifCond .eq 6) 3 203 8 := ⟨by decide +kernel, rfl, rfl⟩
theorem d_X8_spreads_203 : nD YX8_spreads 203 (.goto 23) 3 206 8 := ⟨by decide +kernel, rfl, rfl⟩
theorem d_X8_spreads_206 : nD YX8_spreads 206 (.aload_n 0) 1 207 8 := ⟨by decide +kernel, rfl, rfl⟩
theorem d_X8_spreads_207 : nD YX8_spreads 207 (.getfield 60) 3 210 8 := ⟨by decide +kernel, rfl, rfl⟩
theorem d_X8_spreads_210 : nD YX8_spreads 210 (.iload 10) 2 212 8 := ⟨by decide +kernel, rfl, rfl⟩
theorem d_X8_spreads_212 : nD YX8_spreads 212 (.iconst 1) 1 213 8 := ⟨by decide +kernel, rfl, rfl⟩
theorem d_X8_spreads_213 : nD YX8_spreads 213 (.bastore) 1 214 8 := ⟨by decide +kernel, rfl, rfl⟩
theorem d_X8_spreads_214 : nD YX8_spreads 214 (.aload_n 0) 1 215 8 := ⟨by decide +kernel, rfl, rfl⟩
theorem d_X8_spreads_215 : nD YX8_spreads 215 (.getfield 63) 3 218 8 := ⟨by decide +kernel, rfl, rfl⟩
theorem d_X8_spreads_218 : nD YX8_spreads 218 (.iload 4) 2 220 8 := ⟨by decide +kernel, rfl, rfl⟩
theorem d_X8_spreads_220 : nD YX8_spreads 220 (.iload 10) 2 222 8 := ⟨by decide +kernel, rfl, rfl⟩
theorem d_X8_spreads_222 : nD YX8_spreads 222 (.iastore) 1 223 8 := ⟨by decide +kernel, rfl, rfl⟩
theorem d_X8_spreads_223 : nD YX8_spreads 223 (.iinc 4 1) 3 226 8 := ⟨by decide +kernel, rfl, rfl⟩
theorem d_X8_spreads_226 : nD YX8_spreads 226 (.iinc 9 1) 3 229 8 := ⟨by decide +kernel, rfl, rfl⟩
theorem d_X8_spreads_229 : nD YX8_spreads 229 (.goto (-83)) 3 232 8 := ⟨by decide +kernel, rfl, rfl⟩
theorem d_X8_spreads_232 : nD YX8_spreads 232 (.iload 6) 2 234 8 := ⟨by decide +kernel, rfl, rfl⟩
theorem d_X8_spreads_234 : nD YX8_spreads 234 (.iconst 1) 1 235 8 := ⟨by decide +kernel, rfl, rfl⟩
theorem d_X8_spreads_235 : nD YX8_spreads 235 (.iadd) 1 236 8 := ⟨by decide +kernel, rfl, rfl⟩
theorem d_X8_spreads_236 : nD YX8_spreads 236 (.aload_n 0) 1 237 8 := ⟨by decide +kernel, rfl, rfl⟩
theorem d_X8_spreads_237 : nD YX8_spreads 237 (.getfield 13) 3 240 8 := ⟨by decide +kernel, rfl, rfl⟩
theorem d_X8_spreads_240 : nD YX8_spreads 240 (.iload_n 1) 1 241 8 := ⟨by decide +kernel, rfl, rfl⟩
theorem d_X8_spreads_241 : nD YX8_spreads 241 (.iaload) 1 242 8 := ⟨by decide +kernel, rfl, rfl⟩
theorem d_X8_spreads_242 : nD YX8_spreads 242 (.if_icmp .lt 6) 3 245 8 := ⟨by decide +kernel, rfl, rfl⟩
theorem d_X8_spreads_245 : nD YX8_spreads 245 (.goto (-172)) 3 248 8 := ⟨by decide +kernel, rfl, rfl⟩
theorem d_X8_spreads_248 : nD YX8_spreads 248 (.iconst 0) 1 249 8 := ⟨by decide +kernel, rfl, rfl⟩
theorem d_X8_spreads_249 : nD YX8_spreads 249 (.istore 9) 2 251 8 := ⟨by decide +kernel, rfl, rfl⟩
theorem d_X8_spreads_251 : nD YX8_spreads 251 (.iload 9) 2 253 8 := ⟨by decide +kernel, rfl, rfl⟩
theorem d_X8_spreads_253 : nD YX8_spreads 253 (.aload_n 0) 1 254 8 := ⟨by decide +kernel, rfl, rfl⟩
theorem d_X8_spreads_254 : nD YX8_spreads 254 (.getfield 32) 3 257 8 := ⟨by decide +kernel, rfl, rfl⟩
theorem d_X8_spreads_257 : nD YX8_spreads 257 (.bipush 20) 2 259 8 := ⟨by decide +kernel, rfl, rfl⟩
theorem d_X8_spreads_259 : nD YX8_spreads 259 (.iload_n 1) 1 260 8 := ⟨by decide +kernel, rfl, rfl⟩
theorem d_X8_spreads_260 : nD YX8_spreads 260 (.imul) 1 261 8 := ⟨by decide +kernel, rfl, rfl⟩
theorem d_X8_spreads_261 : nD YX8_spreads 261 (.iload 6) 2 263 8 := ⟨by decide +kernel, rfl, rfl⟩
theorem d_X8_spreads_263 : nD YX8_spreads 263 (.iadd) 1 264 8 := ⟨by decide +kernel, rfl, rfl⟩
theorem d_X8_spreads_264 : nD YX8_spreads 264 (.iconst 1) 1 265 8 := ⟨by decide +kernel, rfl, rfl⟩
theorem d_X8_spreads_265 : nD YX8_spreads 265 (.iadd) 1 266 8 := ⟨by decide +kernel, rfl, rfl⟩
theorem d_X8_spreads_266 : nD YX8_spreads 266 (.iaload) 1 267 8 := ⟨by decide +kernel, rfl, rfl⟩
theorem d_X8_spreads_267 : nD YX8_spreads 267 (.if_icmp .ge 74) 3 270 8 := ⟨by decide +kernel, rfl, rfl⟩
theorem d_X8_spreads_270 : nD YX8_spreads 270 (.bipush 24) 2 272 8 := ⟨by decide +kernel, rfl, rfl⟩
theorem d_X8_spreads_272 : nD YX8_spreads 272 (.iload 6) 2 274 8 := ⟨by decide +kernel, rfl, rfl⟩
theorem d_X8_spreads_274 : nD YX8_spreads 274 (.iconst 1) 1 275 8 := ⟨by decide +kernel, rfl, rfl⟩
theorem d_X8_spreads_275 : nD YX8_spreads 275 (.iadd) 1 276 8 := ⟨by decide +kernel, rfl, rfl⟩
theorem d_X8_spreads_276 : nD YX8_spreads 276 (.imul) 1 277 8 := ⟨by decide +kernel, rfl, rfl⟩
theorem d_X8_spreads_277 : nD YX8_spreads 277 (.iload 9) 2 279 8 := ⟨by decide +kernel, rfl, rfl⟩
theorem d_X8_spreads_279 : nD YX8_spreads 279 (.iadd) 1 280 8 := ⟨by decide +kernel, rfl, rfl⟩
theorem d_X8_spreads_280 : nD YX8_spreads 280 (.istore 10) 2 282 8 := ⟨by decide +kernel, rfl, rfl⟩
theorem d_X8_spreads_282 : nD YX8_spreads 282 (.aload_n 0) 1 283 8 := ⟨by decide +kernel, rfl, rfl⟩
theorem d_X8_spreads_283 : nD YX8_spreads 283 (.getfield 60) 3 286 8 := ⟨by decide +kernel, rfl, rfl⟩
theorem d_X8_spreads_286 : nD YX8_spreads 286 (.iload 10) 2 288 8 := ⟨by decide +kernel, rfl, rfl⟩
theorem d_X8_spreads_288 : nD YX8_spreads 288 (.baload) 1 289 8 := ⟨by decide +kernel, rfl, rfl⟩
theorem d_X8_spreads_289 : nD YX8_spreads 289 (.ifCond .ne 46) 3 292 8 := ⟨by decide +kernel, rfl, rfl⟩
theorem d_X8_spreads_292 : nD YX8_spreads 292 (.aload_n 0) 1 293 8 := ⟨by decide +kernel, rfl, rfl⟩
theorem d_X8_spreads_293 : nD YX8_spreads 293 (.iload_n 1) 1 294 8 := ⟨by decide +kernel, rfl, rfl⟩
theorem d_X8_spreads_294 : nD YX8_spreads 294 (.iload 6) 2 296 8 := ⟨by decide +kernel, rfl, rfl⟩
theorem d_X8_spreads_296 : nD YX8_spreads 296 (.iconst 1) 1 297 8 := ⟨by decide +kernel, rfl, rfl⟩
theorem d_X8_spreads_297 : nD YX8_spreads 297 (.iadd) 1 298 8 := ⟨by decide +kernel, rfl, rfl⟩
theorem d_X8_spreads_298 : nD YX8_spreads 298 (.iload 9) 2 300 8 := ⟨by decide +kernel, rfl, rfl⟩
theorem d_X8_spreads_300 : nD YX8_spreads 300 (.invokestatic 99) 3 303 8 := ⟨by decide +kernel, rfl, rfl⟩
theorem d_X8_spreads_303 : nD YX8_spreads 303 (.iload 7) 2 305 8 := ⟨by decide +kernel, rfl, rfl⟩
theorem d_X8_spreads_305 : nD YX8_spreads 305 (.iconst 1) 1 306 8 := ⟨by decide +kernel, rfl, rfl⟩
theorem d_X8_spreads_306 : nD YX8_spreads 306 (.invokevirtual 139) 3 309 8 := ⟨by decide +kernel, rfl, rfl⟩
theorem d_X8_spreads_309 : nD YX8_spreads 309 (.ifCond .ne 6) 3 312 8 := ⟨by decide +kernel, rfl, rfl⟩
theorem d_X8_spreads_312 : nD YX8_spreads 312 (.goto 23) 3 315 8 := ⟨by decide +kernel, rfl, rfl⟩
theorem d_X8_spreads_315 : nD YX8_spreads 315 (.aload_n 0) 1 316 8 := ⟨by decide +kernel, rfl, rfl⟩
theorem d_X8_spreads_316 : nD YX8_spreads 316 (.getfield 60) 3 319 8 := ⟨by decide +kernel, rfl, rfl⟩
theorem d_X8_spreads_319 : nD YX8_spreads 319 (.iload 10) 2 321 8 := ⟨by decide +kernel, rfl, rfl⟩
theorem d_X8_spreads_321 : nD YX8_spreads 321 (.iconst 1) 1 322 8 := ⟨by decide +kernel, rfl, rfl⟩
theorem d_X8_spreads_322 : nD YX8_spreads 322 (.bastore) 1 323 8 := ⟨by decide +kernel, rfl, rfl⟩
theorem d_X8_spreads_323 : nD YX8_spreads 323 (.aload_n 0) 1 324 8 := ⟨by decide +kernel, rfl, rfl⟩
theorem d_X8_spreads_324 : nD YX8_spreads 324 (.getfield 63) 3 327 8 := ⟨by decide +kernel, rfl, rfl⟩
theorem d_X8_spreads_327 : nD YX8_spreads 327 (.iload 4) 2 329 8 := ⟨by decide +kernel, rfl, rfl⟩
theorem d_X8_spreads_329 : nD YX8_spreads 329 (.iload 10) 2 331 8 := ⟨by decide +kernel, rfl, rfl⟩
theorem d_X8_spreads_331 : nD YX8_spreads 331 (.iastore) 1 332 8 := ⟨by decide +kernel, rfl, rfl⟩
theorem d_X8_spreads_332 : nD YX8_spreads 332 (.iinc 4 1) 3 335 8 := ⟨by decide +kernel, rfl, rfl⟩
theorem d_X8_spreads_335 : nD YX8_spreads 335 (.iinc 9 1) 3 338 8 := ⟨by decide +kernel, rfl, rfl⟩
theorem d_X8_spreads_338 : nD YX8_spreads 338 (.goto (-87)) 3 341 8 := ⟨by decide +kernel, rfl, rfl⟩
theorem d_X8_spreads_341 : nD YX8_spreads 341 (.goto (-268)) 3 344 8 := ⟨by decide +kernel, rfl, rfl⟩
theorem d_X8_spreads_344 : nD YX8_spreads 344 (.return_) 1 345 8 := ⟨by decide +kernel, rfl, rfl⟩
theorem d_X8_oddOnes_0 : nD YX8_oddOnes 0 (.iconst 0) 1 1 8 := ⟨by decide +kernel, rfl, rfl⟩
theorem d_X8_oddOnes_1 : nD YX8_oddOnes 1 (.istore_n 2) 1 2 8 := ⟨by decide +kernel, rfl, rfl⟩
theorem d_X8_oddOnes_2 : nD YX8_oddOnes 2 (.iconst 0) 1 3 8 := ⟨by decide +kernel, rfl, rfl⟩
theorem d_X8_oddOnes_3 : nD YX8_oddOnes 3 (.istore_n 3) 1 4 8 := ⟨by decide +kernel, rfl, rfl⟩
theorem d_X8_oddOnes_4 : nD YX8_oddOnes 4 (.iload_n 3) 1 5 8 := ⟨by decide +kernel, rfl, rfl⟩
theorem d_X8_oddOnes_5 : nD YX8_oddOnes 5 (.sipush 480) 3 8 8 := ⟨by decide +kernel, rfl, rfl⟩
theorem d_X8_oddOnes_8 : nD YX8_oddOnes 8 (.if_icmp .ge 40) 3 11 8 := ⟨by decide +kernel, rfl, rfl⟩
theorem d_X8_oddOnes_11 : nD YX8_oddOnes 11 (.aload_n 0) 1 12 8 := ⟨by decide +kernel, rfl, rfl⟩
theorem d_X8_oddOnes_12 : nD YX8_oddOnes 12 (.getfield 60) 3 15 8 := ⟨by decide +kernel, rfl, rfl⟩
theorem d_X8_oddOnes_15 : nD YX8_oddOnes 15 (.iload_n 3) 1 16 8 := ⟨by decide +kernel, rfl, rfl⟩
theorem d_X8_oddOnes_16 : nD YX8_oddOnes 16 (.baload) 1 17 8 := ⟨by decide +kernel, rfl, rfl⟩
theorem d_X8_oddOnes_17 : nD YX8_oddOnes 17 (.ifCond .eq 25) 3 20 8 := ⟨by decide +kernel, rfl, rfl⟩
theorem d_X8_oddOnes_20 : nD YX8_oddOnes 20 (.aload_n 0) 1 21 8 := ⟨by decide +kernel, rfl, rfl⟩
theorem d_X8_oddOnes_21 : nD YX8_oddOnes 21 (.iload_n 1) 1 22 8 := ⟨by decide +kernel, rfl, rfl⟩
theorem d_X8_oddOnes_22 : nD YX8_oddOnes 22 (.iload_n 3) 1 23 8 := ⟨by decide +kernel, rfl, rfl⟩
theorem d_X8_oddOnes_23 : nD YX8_oddOnes 23 (.bipush 24) 2 25 8 := ⟨by decide +kernel, rfl, rfl⟩
theorem d_X8_oddOnes_25 : nD YX8_oddOnes 25 (.idiv) 1 26 8 := ⟨by decide +kernel, rfl, rfl⟩
theorem d_X8_oddOnes_26 : nD YX8_oddOnes 26 (.iload_n 3) 1 27 8 := ⟨by decide +kernel, rfl, rfl⟩
theorem d_X8_oddOnes_27 : nD YX8_oddOnes 27 (.bipush 24) 2 29 8 := ⟨by decide +kernel, rfl, rfl⟩
theorem d_X8_oddOnes_29 : nD YX8_oddOnes 29 (.irem) 1 30 8 := ⟨by decide +kernel, rfl, rfl⟩
theorem d_X8_oddOnes_30 : nD YX8_oddOnes 30 (.invokevirtual 149) 3 33 8 := ⟨by decide +kernel, rfl, rfl⟩
theorem d_X8_oddOnes_33 : nD YX8_oddOnes 33 (.iconst 2) 1 34 8 := ⟨by decide +kernel, rfl, rfl⟩
theorem d_X8_oddOnes_34 : nD YX8_oddOnes 34 (.irem) 1 35 8 := ⟨by decide +kernel, rfl, rfl⟩
theorem d_X8_oddOnes_35 : nD YX8_oddOnes 35 (.iconst 1) 1 36 8 := ⟨by decide +kernel, rfl, rfl⟩
theorem d_X8_oddOnes_36 : nD YX8_oddOnes 36 (.if_icmp .ne 6) 3 39 8 := ⟨by decide +kernel, rfl, rfl⟩
theorem d_X8_oddOnes_39 : nD YX8_oddOnes 39 (.iinc 2 1) 3 42 8 := ⟨by decide +kernel, rfl, rfl⟩
theorem d_X8_oddOnes_42 : nD YX8_oddOnes 42 (.iinc 3 1) 3 45 8 := ⟨by decide +kernel, rfl, rfl⟩
theorem d_X8_oddOnes_45 : nD YX8_oddOnes 45 (.goto (-41)) 3 48 8 := ⟨by decide +kernel, rfl, rfl⟩
theorem d_X8_oddOnes_48 : nD YX8_oddOnes 48 (.iload_n 2) 1 49 8 := ⟨by decide +kernel, rfl, rfl⟩
theorem d_X8_oddOnes_49 : nD YX8_oddOnes 49 (.ireturn) 1 50 8 := ⟨by decide +kernel, rfl, rfl⟩
theorem d_X8_hole_0 : nD YX8_hole 0 (.aload_n 0) 1 1 8 := ⟨by decide +kernel, rfl, rfl⟩
theorem d_X8_hole_1 : nD YX8_hole 1 (.iload_n 1) 1 2 8 := ⟨by decide +kernel, rfl, rfl⟩
theorem d_X8_hole_2 : nD YX8_hole 2 (.iload_n 2) 1 3 8 := ⟨by decide +kernel, rfl, rfl⟩
theorem d_X8_hole_3 : nD YX8_hole 3 (.iload_n 3) 1 4 8 := ⟨by decide +kernel, rfl, rfl⟩
theorem d_X8_hole_4 : nD YX8_hole 4 (.invokevirtual 118) 3 7 8 := ⟨by decide +kernel, rfl, rfl⟩
theorem d_X8_hole_7 : nD YX8_hole 7 (.ifCond .ne 5) 3 10 8 := ⟨by decide +kernel, rfl, rfl⟩
theorem d_X8_hole_10 : nD YX8_hole 10 (.iconst (-1)) 1 11 8 := ⟨by decide +kernel, rfl, rfl⟩
theorem d_X8_hole_11 : nD YX8_hole 11 (.ireturn) 1 12 8 := ⟨by decide +kernel, rfl, rfl⟩
theorem d_X8_hole_12 : nD YX8_hole 12 (.aload_n 0) 1 13 8 := ⟨by decide +kernel, rfl, rfl⟩
theorem d_X8_hole_13 : nD YX8_hole 13 (.iload_n 1) 1 14 8 := ⟨by decide +kernel, rfl, rfl⟩
theorem d_X8_hole_14 : nD YX8_hole 14 (.iload_n 2) 1 15 8 := ⟨by decide +kernel, rfl, rfl⟩
theorem d_X8_hole_15 : nD YX8_hole 15 (.iload_n 3) 1 16 8 := ⟨by decide +kernel, rfl, rfl⟩
theorem d_X8_hole_16 : nD YX8_hole 16 (.invokevirtual 158) 3 19 8 := ⟨by decide +kernel, rfl, rfl⟩
theorem d_X8_hole_19 : nD YX8_hole 19 (.aload_n 0) 1 20 8 := ⟨by decide +kernel, rfl, rfl⟩
theorem d_X8_hole_20 : nD YX8_hole 20 (.iconst 1) 1 21 8 := ⟨by decide +kernel, rfl, rfl⟩
theorem d_X8_hole_21 : nD YX8_hole 21 (.putfield 162) 3 24 8 := ⟨by decide +kernel, rfl, rfl⟩
theorem d_X8_hole_24 : nD YX8_hole 24 (.aload_n 0) 1 25 8 := ⟨by decide +kernel, rfl, rfl⟩
theorem d_X8_hole_25 : nD YX8_hole 25 (.iconst 0) 1 26 8 := ⟨by decide +kernel, rfl, rfl⟩
theorem d_X8_hole_26 : nD YX8_hole 26 (.putfield 166) 3 29 8 := ⟨by decide +kernel, rfl, rfl⟩
theorem d_X8_hole_29 : nD YX8_hole 29 (.aload_n 0) 1 30 8 := ⟨by decide +kernel, rfl, rfl⟩
theorem d_X8_hole_30 : nD YX8_hole 30 (.aload_n 0) 1 31 8 := ⟨by decide +kernel, rfl, rfl⟩
theorem d_X8_hole_31 : nD YX8_hole 31 (.getfield 155) 3 34 8 := ⟨by decide +kernel, rfl, rfl⟩
theorem d_X8_hole_34 : nD YX8_hole 34 (.putfield 169) 3 37 8 := ⟨by decide +kernel, rfl, rfl⟩
theorem d_X8_hole_37 : nD YX8_hole 37 (.aload_n 0) 1 38 8 := ⟨by decide +kernel, rfl, rfl⟩
theorem d_X8_hole_38 : nD YX8_hole 38 (.aload_n 0) 1 39 8 := ⟨by decide +kernel, rfl, rfl⟩
theorem d_X8_hole_39 : nD YX8_hole 39 (.iload_n 1) 1 40 8 := ⟨by decide +kernel, rfl, rfl⟩
theorem d_X8_hole_40 : nD YX8_hole 40 (.invokevirtual 172) 3 43 8 := ⟨by decide +kernel, rfl, rfl⟩
theorem d_X8_hole_43 : nD YX8_hole 43 (.putfield 175) 3 46 8 := ⟨by decide +kernel, rfl, rfl⟩
theorem d_X8_hole_46 : nD YX8_hole 46 (.iconst 0) 1 47 8 := ⟨by decide +kernel, rfl, rfl⟩
theorem d_X8_hole_47 : nD YX8_hole 47 (.istore 4) 2 49 8 := ⟨by decide +kernel, rfl, rfl⟩
theorem d_X8_hole_49 : nD YX8_hole 49 (.iload 4) 2 51 8 := ⟨by decide +kernel, rfl, rfl⟩
theorem d_X8_hole_51 : nD YX8_hole 51 (.sipush 480) 3 54 8 := ⟨by decide +kernel, rfl, rfl⟩
theorem d_X8_hole_54 : nD YX8_hole 54 (.if_icmp .ge 90) 3 57 8 := ⟨by decide +kernel, rfl, rfl⟩
theorem d_X8_hole_57 : nD YX8_hole 57 (.aload_n 0) 1 58 8 := ⟨by decide +kernel, rfl, rfl⟩
theorem d_X8_hole_58 : nD YX8_hole 58 (.getfield 60) 3 61 8 := ⟨by decide +kernel, rfl, rfl⟩
theorem d_X8_hole_61 : nD YX8_hole 61 (.iload 4) 2 63 8 := ⟨by decide +kernel, rfl, rfl⟩
theorem d_X8_hole_63 : nD YX8_hole 63 (.baload) 1 64 8 := ⟨by decide +kernel, rfl, rfl⟩
theorem d_X8_hole_64 : nD YX8_hole 64 (.ifCond .ne 6) 3 67 8 := ⟨by decide +kernel, rfl, rfl⟩
theorem d_X8_hole_67 : nD YX8_hole 67 (.goto 71) 3 70 8 := ⟨by decide +kernel, rfl, rfl⟩
theorem d_X8_hole_70 : nD YX8_hole 70 (.aload_n 0) 1 71 8 := ⟨by decide +kernel, rfl, rfl⟩
theorem d_X8_hole_71 : nD YX8_hole 71 (.getfield 66) 3 74 8 := ⟨by decide +kernel, rfl, rfl⟩
theorem d_X8_hole_74 : nD YX8_hole 74 (.aload_n 0) 1 75 8 := ⟨by decide +kernel, rfl, rfl⟩
theorem d_X8_hole_75 : nD YX8_hole 75 (.getfield 166) 3 78 8 := ⟨by decide +kernel, rfl, rfl⟩
theorem d_X8_hole_78 : nD YX8_hole 78 (.bipush 100) 2 80 8 := ⟨by decide +kernel, rfl, rfl⟩
theorem d_X8_hole_80 : nD YX8_hole 80 (.iload 4) 2 82 8 := ⟨by decide +kernel, rfl, rfl⟩
theorem d_X8_hole_82 : nD YX8_hole 82 (.bipush 24) 2 84 8 := ⟨by decide +kernel, rfl, rfl⟩
theorem d_X8_hole_84 : nD YX8_hole 84 (.idiv) 1 85 8 := ⟨by decide +kernel, rfl, rfl⟩
theorem d_X8_hole_85 : nD YX8_hole 85 (.imul) 1 86 8 := ⟨by decide +kernel, rfl, rfl⟩
theorem d_X8_hole_86 : nD YX8_hole 86 (.iload 4) 2 88 8 := ⟨by decide +kernel, rfl, rfl⟩
theorem d_X8_hole_88 : nD YX8_hole 88 (.bipush 24) 2 90 8 := ⟨by decide +kernel, rfl, rfl⟩
theorem d_X8_hole_90 : nD YX8_hole 90 (.irem) 1 91 8 := ⟨by decide +kernel, rfl, rfl⟩
theorem d_X8_hole_91 : nD YX8_hole 91 (.iadd) 1 92 8 := ⟨by decide +kernel, rfl, rfl⟩
theorem d_X8_hole_92 : nD YX8_hole 92 (.iastore) 1 93 8 := ⟨by decide +kernel, rfl, rfl⟩
theorem d_X8_hole_93 : nD YX8_hole 93 (.aload_n 0) 1 94 8 := ⟨by decide +kernel, rfl, rfl⟩
theorem d_X8_hole_94 : nD YX8_hole 94 (.getfield 69) 3 97 8 := ⟨by decide +kernel, rfl, rfl⟩
theorem d_X8_hole_97 : nD YX8_hole 97 (.aload_n 0) 1 98 8 := ⟨by decide +kernel, rfl, rfl⟩
theorem d_X8_hole_98 : nD YX8_hole 98 (.getfield 166) 3 101 8 := ⟨by decide +kernel, rfl, rfl⟩
theorem d_X8_hole_101 : nD YX8_hole 101 (.aload_n 0) 1 102 8 := ⟨by decide +kernel, rfl, rfl⟩
theorem d_X8_hole_102 : nD YX8_hole 102 (.iload_n 1) 1 103 8 := ⟨by decide +kernel, rfl, rfl⟩
theorem d_X8_hole_103 : nD YX8_hole 103 (.iload 4) 2 105 8 := ⟨by decide +kernel, rfl, rfl⟩
theorem d_X8_hole_105 : nD YX8_hole 105 (.bipush 24) 2 107 8 := ⟨by decide +kernel, rfl, rfl⟩
theorem d_X8_hole_107 : nD YX8_hole 107 (.idiv) 1 108 8 := ⟨by decide +kernel, rfl, rfl⟩
theorem d_X8_hole_108 : nD YX8_hole 108 (.iload 4) 2 110 8 := ⟨by decide +kernel, rfl, rfl⟩
theorem d_X8_hole_110 : nD YX8_hole 110 (.bipush 24) 2 112 8 := ⟨by decide +kernel, rfl, rfl⟩
theorem d_X8_hole_112 : nD YX8_hole 112 (.irem) 1 113 8 := ⟨by decide +kernel, rfl, rfl⟩
theorem d_X8_hole_113 : nD YX8_hole 113 (.invokevirtual 149) 3 116 8 := ⟨by decide +kernel, rfl, rfl⟩
theorem d_X8_hole_116 : nD YX8_hole 116 (.iconst 2) 1 117 8 := ⟨by decide +kernel, rfl, rfl⟩
theorem d_X8_hole_117 : nD YX8_hole 117 (.irem) 1 118 8 := ⟨by decide +kernel, rfl, rfl⟩
theorem d_X8_hole_118 : nD YX8_hole 118 (.iconst 1) 1 119 8 := ⟨by decide +kernel, rfl, rfl⟩
theorem d_X8_hole_119 : nD YX8_hole 119 (.if_icmp .ne 7) 3 122 8 := ⟨by decide +kernel, rfl, rfl⟩
theorem d_X8_hole_122 : nD YX8_hole 122 (.iconst 1) 1 123 8 := ⟨by decide +kernel, rfl, rfl⟩
theorem d_X8_hole_123 : nD YX8_hole 123 (.goto 4) 3 126 8 := ⟨by decide +kernel, rfl, rfl⟩
theorem d_X8_hole_126 : nD YX8_hole 126 (.iconst 0) 1 127 8 := ⟨by decide +kernel, rfl, rfl⟩
theorem d_X8_hole_127 : nD YX8_hole 127 (.bastore) 1 128 8 := ⟨by decide +kernel, rfl, rfl⟩
theorem d_X8_hole_128 : nD YX8_hole 128 (.aload_n 0) 1 129 8 := ⟨by decide +kernel, rfl, rfl⟩
theorem d_X8_hole_129 : nD YX8_hole 129 (.dup) 1 130 8 := ⟨by decide +kernel, rfl, rfl⟩
theorem d_X8_hole_130 : nD YX8_hole 130 (.getfield 166) 3 133 8 := ⟨by decide +kernel, rfl, rfl⟩
theorem d_X8_hole_133 : nD YX8_hole 133 (.iconst 1) 1 134 8 := ⟨by decide +kernel, rfl, rfl⟩
theorem d_X8_hole_134 : nD YX8_hole 134 (.iadd) 1 135 8 := ⟨by decide +kernel, rfl, rfl⟩
theorem d_X8_hole_135 : nD YX8_hole 135 (.putfield 166) 3 138 8 := ⟨by decide +kernel, rfl, rfl⟩
theorem d_X8_hole_138 : nD YX8_hole 138 (.iinc 4 1) 3 141 8 := ⟨by decide +kernel, rfl, rfl⟩
theorem d_X8_hole_141 : nD YX8_hole 141 (.goto (-92)) 3 144 8 := ⟨by decide +kernel, rfl, rfl⟩
theorem d_X8_hole_144 : nD YX8_hole 144 (.aload_n 0) 1 145 8 := ⟨by decide +kernel, rfl, rfl⟩
theorem d_X8_hole_145 : nD YX8_hole 145 (.getfield 166) 3 148 8 := ⟨by decide +kernel, rfl, rfl⟩
theorem d_X8_hole_148 : nD YX8_hole 148 (.ireturn) 1 149 8 := ⟨by decide +kernel, rfl, rfl⟩
theorem d_X8_twines_0 : nD YX8_twines 0 (.iload_n 0) 1 1 8 := ⟨by decide +kernel, rfl, rfl⟩
theorem d_X8_twines_1 : nD YX8_twines 1 (.ifCond .ne 7) 3 4 8 := ⟨by decide +kernel, rfl, rfl⟩
theorem d_X8_twines_4 : nD YX8_twines 4 (.iconst 0) 1 5 8 := ⟨by decide +kernel, rfl, rfl⟩
theorem d_X8_twines_5 : nD YX8_twines 5 (.goto 14) 3 8 8 := ⟨by decide +kernel, rfl, rfl⟩
theorem d_X8_twines_8 : nD YX8_twines 8 (.iload_n 1) 1 9 8 := ⟨by decide +kernel, rfl, rfl⟩
theorem d_X8_twines_9 : nD YX8_twines 9 (.ifCond .ne 7) 3 12 8 := ⟨by decide +kernel, rfl, rfl⟩
theorem d_X8_twines_12 : nD YX8_twines 12 (.iconst 1) 1 13 8 := ⟨by decide +kernel, rfl, rfl⟩
theorem d_X8_twines_13 : nD YX8_twines 13 (.goto 6) 3 16 8 := ⟨by decide +kernel, rfl, rfl⟩
theorem d_X8_twines_16 : nD YX8_twines 16 (.iload_n 1) 1 17 8 := ⟨by decide +kernel, rfl, rfl⟩
theorem d_X8_twines_17 : nD YX8_twines 17 (.iconst 2) 1 18 8 := ⟨by decide +kernel, rfl, rfl⟩
theorem d_X8_twines_18 : nD YX8_twines 18 (.idiv) 1 19 8 := ⟨by decide +kernel, rfl, rfl⟩
theorem d_X8_twines_19 : nD YX8_twines 19 (.ireturn) 1 20 8 := ⟨by decide +kernel, rfl, rfl⟩
theorem d_X8_edge_0 : nD YX8_edge 0 (.aload_n 0) 1 1 8 := ⟨by decide +kernel, rfl, rfl⟩
theorem d_X8_edge_1 : nD YX8_edge 1 (.getfield 162) 3 4 8 := ⟨by decide +kernel, rfl, rfl⟩
theorem d_X8_edge_4 : nD YX8_edge 4 (.ifCond .ne 5) 3 7 8 := ⟨by decide +kernel, rfl, rfl⟩
theorem d_X8_edge_7 : nD YX8_edge 7 (.iconst (-1)) 1 8 8 := ⟨by decide +kernel, rfl, rfl⟩
theorem d_X8_edge_8 : nD YX8_edge 8 (.ireturn) 1 9 8 := ⟨by decide +kernel, rfl, rfl⟩
theorem d_X8_edge_9 : nD YX8_edge 9 (.iload_n 2) 1 10 8 := ⟨by decide +kernel, rfl, rfl⟩
theorem d_X8_edge_10 : nD YX8_edge 10 (.tableswitch 110 0 4 #[56, 79, 34, 39, 44]) 34 44 8 := ⟨by decide +kernel, rfl, rfl⟩
theorem d_X8_edge_44 : nD YX8_edge 44 (.aload_n 0) 1 45 8 := ⟨by decide +kernel, rfl, rfl⟩
theorem d_X8_edge_45 : nD YX8_edge 45 (.getfield 169) 3 48 8 := ⟨by decide +kernel, rfl, rfl⟩
theorem d_X8_edge_48 : nD YX8_edge 48 (.ireturn) 1 49 8 := ⟨by decide +kernel, rfl, rfl⟩
theorem d_X8_edge_49 : nD YX8_edge 49 (.aload_n 0) 1 50 8 := ⟨by decide +kernel, rfl, rfl⟩
theorem d_X8_edge_50 : nD YX8_edge 50 (.getfield 175) 3 53 8 := ⟨by decide +kernel, rfl, rfl⟩
theorem d_X8_edge_53 : nD YX8_edge 53 (.ireturn) 1 54 8 := ⟨by decide +kernel, rfl, rfl⟩
theorem d_X8_edge_54 : nD YX8_edge 54 (.aload_n 0) 1 55 8 := ⟨by decide +kernel, rfl, rfl⟩
theorem d_X8_edge_55 : nD YX8_edge 55 (.getfield 166) 3 58 8 := ⟨by decide +kernel, rfl, rfl⟩
theorem d_X8_edge_58 : nD YX8_edge 58 (.aload_n 0) 1 59 8 := ⟨by decide +kernel, rfl, rfl⟩
theorem d_X8_edge_59 : nD YX8_edge 59 (.getfield 175) 3 62 8 := ⟨by decide +kernel, rfl, rfl⟩
theorem d_X8_edge_62 : nD YX8_edge 62 (.invokestatic 178) 3 65 8 := ⟨by decide +kernel, rfl, rfl⟩
theorem d_X8_edge_65 : nD YX8_edge 65 (.ireturn) 1 66 8 := ⟨by decide +kernel, rfl, rfl⟩
theorem d_X8_edge_66 : nD YX8_edge 66 (.iload_n 1) 1 67 8 := ⟨by decide +kernel, rfl, rfl⟩
theorem d_X8_edge_67 : nD YX8_edge 67 (.ifCond .lt 20) 3 70 8 := ⟨by decide +kernel, rfl, rfl⟩
theorem d_X8_edge_70 : nD YX8_edge 70 (.iload_n 1) 1 71 8 := ⟨by decide +kernel, rfl, rfl⟩
theorem d_X8_edge_71 : nD YX8_edge 71 (.aload_n 0) 1 72 8 := ⟨by decide +kernel, rfl, rfl⟩
theorem d_X8_edge_72 : nD YX8_edge 72 (.getfield 166) 3 75 8 := ⟨by decide +kernel, rfl, rfl⟩
theorem d_X8_edge_75 : nD YX8_edge 75 (.if_icmp .ge 12) 3 78 8 := ⟨by decide +kernel, rfl, rfl⟩
theorem d_X8_edge_78 : nD YX8_edge 78 (.aload_n 0) 1 79 8 := ⟨by decide +kernel, rfl, rfl⟩
theorem d_X8_edge_79 : nD YX8_edge 79 (.getfield 66) 3 82 8 := ⟨by decide +kernel, rfl, rfl⟩
theorem d_X8_edge_82 : nD YX8_edge 82 (.iload_n 1) 1 83 8 := ⟨by decide +kernel, rfl, rfl⟩
theorem d_X8_edge_83 : nD YX8_edge 83 (.iaload) 1 84 8 := ⟨by decide +kernel, rfl, rfl⟩
theorem d_X8_edge_84 : nD YX8_edge 84 (.goto 4) 3 87 8 := ⟨by decide +kernel, rfl, rfl⟩
theorem d_X8_edge_87 : nD YX8_edge 87 (.iconst (-1)) 1 88 8 := ⟨by decide +kernel, rfl, rfl⟩
theorem d_X8_edge_88 : nD YX8_edge 88 (.ireturn) 1 89 8 := ⟨by decide +kernel, rfl, rfl⟩
theorem d_X8_edge_89 : nD YX8_edge 89 (.iload_n 1) 1 90 8 := ⟨by decide +kernel, rfl, rfl⟩
theorem d_X8_edge_90 : nD YX8_edge 90 (.ifCond .lt 11) 3 93 8 := ⟨by decide +kernel, rfl, rfl⟩
theorem d_X8_edge_93 : nD YX8_edge 93 (.iload_n 1) 1 94 8 := ⟨by decide +kernel, rfl, rfl⟩
theorem d_X8_edge_94 : nD YX8_edge 94 (.aload_n 0) 1 95 8 := ⟨by decide +kernel, rfl, rfl⟩
theorem d_X8_edge_95 : nD YX8_edge 95 (.getfield 166) 3 98 8 := ⟨by decide +kernel, rfl, rfl⟩
theorem d_X8_edge_98 : nD YX8_edge 98 (.if_icmp .lt 7) 3 101 8 := ⟨by decide +kernel, rfl, rfl⟩
theorem d_X8_edge_101 : nD YX8_edge 101 (.iconst (-1)) 1 102 8 := ⟨by decide +kernel, rfl, rfl⟩
theorem d_X8_edge_102 : nD YX8_edge 102 (.goto 17) 3 105 8 := ⟨by decide +kernel, rfl, rfl⟩
theorem d_X8_edge_105 : nD YX8_edge 105 (.aload_n 0) 1 106 8 := ⟨by decide +kernel, rfl, rfl⟩
theorem d_X8_edge_106 : nD YX8_edge 106 (.getfield 69) 3 109 8 := ⟨by decide +kernel, rfl, rfl⟩
theorem d_X8_edge_109 : nD YX8_edge 109 (.iload_n 1) 1 110 8 := ⟨by decide +kernel, rfl, rfl⟩
theorem d_X8_edge_110 : nD YX8_edge 110 (.baload) 1 111 8 := ⟨by decide +kernel, rfl, rfl⟩
theorem d_X8_edge_111 : nD YX8_edge 111 (.ifCond .eq 7) 3 114 8 := ⟨by decide +kernel, rfl, rfl⟩
theorem d_X8_edge_114 : nD YX8_edge 114 (.iconst 1) 1 115 8 := ⟨by decide +kernel, rfl, rfl⟩
theorem d_X8_edge_115 : nD YX8_edge 115 (.goto 4) 3 118 8 := ⟨by decide +kernel, rfl, rfl⟩
theorem d_X8_edge_118 : nD YX8_edge 118 (.iconst 0) 1 119 8 := ⟨by decide +kernel, rfl, rfl⟩
theorem d_X8_edge_119 : nD YX8_edge 119 (.ireturn) 1 120 8 := ⟨by decide +kernel, rfl, rfl⟩
theorem d_X8_edge_120 : nD YX8_edge 120 (.iconst (-1)) 1 121 8 := ⟨by decide +kernel, rfl, rfl⟩
theorem d_X8_edge_121 : nD YX8_edge 121 (.ireturn) 1 122 8 := ⟨by decide +kernel, rfl, rfl⟩
theorem d_X8_isGone_0 : nD YX8_isGone 0 (.iload_n 2) 1 1 8 := ⟨by decide +kernel, rfl, rfl⟩
theorem d_X8_isGone_1 : nD YX8_isGone 1 (.iload_n 3) 1 2 8 := ⟨by decide +kernel, rfl, rfl⟩
theorem d_X8_isGone_2 : nD YX8_isGone 2 (.if_icmp .le 7) 3 5 8 := ⟨by decide +kernel, rfl, rfl⟩
theorem d_X8_isGone_5 : nD YX8_isGone 5 (.iload_n 2) 1 6 8 := ⟨by decide +kernel, rfl, rfl⟩
theorem d_X8_isGone_6 : nD YX8_isGone 6 (.goto 4) 3 9 8 := ⟨by decide +kernel, rfl, rfl⟩
theorem d_X8_isGone_9 : nD YX8_isGone 9 (.iload_n 3) 1 10 8 := ⟨by decide +kernel, rfl, rfl⟩
theorem d_X8_isGone_10 : nD YX8_isGone 10 (.istore 4) 2 12 8 := ⟨by decide +kernel, rfl, rfl⟩
theorem d_X8_isGone_12 : nD YX8_isGone 12 (.iload_n 2) 1 13 8 := ⟨by decide +kernel, rfl, rfl⟩
theorem d_X8_isGone_13 : nD YX8_isGone 13 (.iload_n 3) 1 14 8 := ⟨by decide +kernel, rfl, rfl⟩
theorem d_X8_isGone_14 : nD YX8_isGone 14 (.if_icmp .le 7) 3 17 8 := ⟨by decide +kernel, rfl, rfl⟩
theorem d_X8_isGone_17 : nD YX8_isGone 17 (.iload_n 3) 1 18 8 := ⟨by decide +kernel, rfl, rfl⟩
theorem d_X8_isGone_18 : nD YX8_isGone 18 (.goto 4) 3 21 8 := ⟨by decide +kernel, rfl, rfl⟩
theorem d_X8_isGone_21 : nD YX8_isGone 21 (.iload_n 2) 1 22 8 := ⟨by decide +kernel, rfl, rfl⟩
theorem d_X8_isGone_22 : nD YX8_isGone 22 (.istore 5) 2 24 8 := ⟨by decide +kernel, rfl, rfl⟩
theorem d_X8_isGone_24 : nD YX8_isGone 24 (.iload 4) 2 26 8 := ⟨by decide +kernel, rfl, rfl⟩
theorem d_X8_isGone_26 : nD YX8_isGone 26 (.bipush 24) 2 28 8 := ⟨by decide +kernel, rfl, rfl⟩
theorem d_X8_isGone_28 : nD YX8_isGone 28 (.idiv) 1 29 8 := ⟨by decide +kernel, rfl, rfl⟩
theorem d_X8_isGone_29 : nD YX8_isGone 29 (.iload 5) 2 31 8 := ⟨by decide +kernel, rfl, rfl⟩
theorem d_X8_isGone_31 : nD YX8_isGone 31 (.bipush 24) 2 33 8 := ⟨by decide +kernel, rfl, rfl⟩
theorem d_X8_isGone_33 : nD YX8_isGone 33 (.idiv) 1 34 8 := ⟨by decide +kernel, rfl, rfl⟩
theorem d_X8_isGone_34 : nD YX8_isGone 34 (.iconst 1) 1 35 8 := ⟨by decide +kernel, rfl, rfl⟩
theorem d_X8_isGone_35 : nD YX8_isGone 35 (.iadd) 1 36 8 := ⟨by decide +kernel, rfl, rfl⟩
theorem d_X8_isGone_36 : nD YX8_isGone 36 (.if_icmp .ne 57) 3 39 8 := ⟨by decide +kernel, rfl, rfl⟩
theorem d_X8_isGone_39 : nD YX8_isGone 39 (.iload 4) 2 41 8 := ⟨by decide +kernel, rfl, rfl⟩
theorem d_X8_isGone_41 : nD YX8_isGone 41 (.bipush 24) 2 43 8 := ⟨by decide +kernel, rfl, rfl⟩
theorem d_X8_isGone_43 : nD YX8_isGone 43 (.irem) 1 44 8 := ⟨by decide +kernel, rfl, rfl⟩
theorem d_X8_isGone_44 : nD YX8_isGone 44 (.aload_n 0) 1 45 8 := ⟨by decide +kernel, rfl, rfl⟩
theorem d_X8_isGone_45 : nD YX8_isGone 45 (.getfield 32) 3 48 8 := ⟨by decide +kernel, rfl, rfl⟩
theorem d_X8_isGone_48 : nD YX8_isGone 48 (.bipush 20) 2 50 8 := ⟨by decide +kernel, rfl, rfl⟩
theorem d_X8_isGone_50 : nD YX8_isGone 50 (.iload_n 1) 1 51 8 := ⟨by decide +kernel, rfl, rfl⟩
theorem d_X8_isGone_51 : nD YX8_isGone 51 (.imul) 1 52 8 := ⟨by decide +kernel, rfl, rfl⟩
theorem d_X8_isGone_52 : nD YX8_isGone 52 (.iload 4) 2 54 8 := ⟨by decide +kernel, rfl, rfl⟩
theorem d_X8_isGone_54 : nD YX8_isGone 54 (.bipush 24) 2 56 8 := ⟨by decide +kernel, rfl, rfl⟩
theorem d_X8_isGone_56 : nD YX8_isGone 56 (.idiv) 1 57 8 := ⟨by decide +kernel, rfl, rfl⟩
theorem d_X8_isGone_57 : nD YX8_isGone 57 (.iadd) 1 58 8 := ⟨by decide +kernel, rfl, rfl⟩
theorem d_X8_isGone_58 : nD YX8_isGone 58 (.iaload) 1 59 8 := ⟨by decide +kernel, rfl, rfl⟩
theorem d_X8_isGone_59 : nD YX8_isGone 59 (.if_icmp .ge 34) 3 62 8 := ⟨by decide +kernel, rfl, rfl⟩
theorem d_X8_isGone_62 : nD YX8_isGone 62 (.aload_n 0) 1 63 8 := ⟨by decide +kernel, rfl, rfl⟩
theorem d_X8_isGone_63 : nD YX8_isGone 63 (.iload_n 1) 1 64 8 := ⟨by decide +kernel, rfl, rfl⟩
theorem d_X8_isGone_64 : nD YX8_isGone 64 (.iload 4) 2 66 8 := ⟨by decide +kernel, rfl, rfl⟩
theorem d_X8_isGone_66 : nD YX8_isGone 66 (.bipush 24) 2 68 8 := ⟨by decide +kernel, rfl, rfl⟩
theorem d_X8_isGone_68 : nD YX8_isGone 68 (.idiv) 1 69 8 := ⟨by decide +kernel, rfl, rfl⟩
theorem d_X8_isGone_69 : nD YX8_isGone 69 (.iload 4) 2 71 8 := ⟨by decide +kernel, rfl, rfl⟩
theorem d_X8_isGone_71 : nD YX8_isGone 71 (.bipush 24) 2 73 8 := ⟨by decide +kernel, rfl, rfl⟩
theorem d_X8_isGone_73 : nD YX8_isGone 73 (.irem) 1 74 8 := ⟨by decide +kernel, rfl, rfl⟩
theorem d_X8_isGone_74 : nD YX8_isGone 74 (.invokestatic 99) 3 77 8 := ⟨by decide +kernel, rfl, rfl⟩
theorem d_X8_isGone_77 : nD YX8_isGone 77 (.iload 5) 2 79 8 := ⟨by decide +kernel, rfl, rfl⟩
theorem d_X8_isGone_79 : nD YX8_isGone 79 (.bipush 24) 2 81 8 := ⟨by decide +kernel, rfl, rfl⟩
theorem d_X8_isGone_81 : nD YX8_isGone 81 (.irem) 1 82 8 := ⟨by decide +kernel, rfl, rfl⟩
theorem d_X8_isGone_82 : nD YX8_isGone 82 (.iconst 1) 1 83 8 := ⟨by decide +kernel, rfl, rfl⟩
theorem d_X8_isGone_83 : nD YX8_isGone 83 (.invokevirtual 139) 3 86 8 := ⟨by decide +kernel, rfl, rfl⟩
theorem d_X8_isGone_86 : nD YX8_isGone 86 (.ifCond .eq 7) 3 89 8 := ⟨by decide +kernel, rfl, rfl⟩
theorem d_X8_isGone_89 : nD YX8_isGone 89 (.iconst 1) 1 90 8 := ⟨by decide +kernel, rfl, rfl⟩
theorem d_X8_isGone_90 : nD YX8_isGone 90 (.goto 4) 3 93 8 := ⟨by decide +kernel, rfl, rfl⟩
theorem d_X8_isGone_93 : nD YX8_isGone 93 (.iconst 0) 1 94 8 := ⟨by decide +kernel, rfl, rfl⟩
theorem d_X8_isGone_94 : nD YX8_isGone 94 (.ireturn) 1 95 8 := ⟨by decide +kernel, rfl, rfl⟩
theorem d_X8_ties_0 : nD YX8_ties 0 (.iload_n 2) 1 1 8 := ⟨by decide +kernel, rfl, rfl⟩
theorem d_X8_ties_1 : nD YX8_ties 1 (.iload_n 3) 1 2 8 := ⟨by decide +kernel, rfl, rfl⟩
theorem d_X8_ties_2 : nD YX8_ties 2 (.if_icmp .le 7) 3 5 8 := ⟨by decide +kernel, rfl, rfl⟩
theorem d_X8_ties_5 : nD YX8_ties 5 (.iload_n 2) 1 6 8 := ⟨by decide +kernel, rfl, rfl⟩
theorem d_X8_ties_6 : nD YX8_ties 6 (.goto 4) 3 9 8 := ⟨by decide +kernel, rfl, rfl⟩
theorem d_X8_ties_9 : nD YX8_ties 9 (.iload_n 3) 1 10 8 := ⟨by decide +kernel, rfl, rfl⟩
theorem d_X8_ties_10 : nD YX8_ties 10 (.istore 5) 2 12 8 := ⟨by decide +kernel, rfl, rfl⟩
theorem d_X8_ties_12 : nD YX8_ties 12 (.iload_n 2) 1 13 8 := ⟨by decide +kernel, rfl, rfl⟩
theorem d_X8_ties_13 : nD YX8_ties 13 (.iload_n 3) 1 14 8 := ⟨by decide +kernel, rfl, rfl⟩
theorem d_X8_ties_14 : nD YX8_ties 14 (.if_icmp .le 7) 3 17 8 := ⟨by decide +kernel, rfl, rfl⟩
theorem d_X8_ties_17 : nD YX8_ties 17 (.iload_n 3) 1 18 8 := ⟨by decide +kernel, rfl, rfl⟩
theorem d_X8_ties_18 : nD YX8_ties 18 (.goto 4) 3 21 8 := ⟨by decide +kernel, rfl, rfl⟩
theorem d_X8_ties_21 : nD YX8_ties 21 (.iload_n 2) 1 22 8 := ⟨by decide +kernel, rfl, rfl⟩
theorem d_X8_ties_22 : nD YX8_ties 22 (.istore 6) 2 24 8 := ⟨by decide +kernel, rfl, rfl⟩
theorem d_X8_ties_24 : nD YX8_ties 24 (.iload_n 1) 1 25 8 := ⟨by decide +kernel, rfl, rfl⟩
theorem d_X8_ties_25 : nD YX8_ties 25 (.iload 5) 2 27 8 := ⟨by decide +kernel, rfl, rfl⟩
theorem d_X8_ties_27 : nD YX8_ties 27 (.bipush 24) 2 29 8 := ⟨by decide +kernel, rfl, rfl⟩
theorem d_X8_ties_29 : nD YX8_ties 29 (.idiv) 1 30 8 := ⟨by decide +kernel, rfl, rfl⟩
theorem d_X8_ties_30 : nD YX8_ties 30 (.iload 5) 2 32 8 := ⟨by decide +kernel, rfl, rfl⟩
theorem d_X8_ties_32 : nD YX8_ties 32 (.bipush 24) 2 34 8 := ⟨by decide +kernel, rfl, rfl⟩
theorem d_X8_ties_34 : nD YX8_ties 34 (.irem) 1 35 8 := ⟨by decide +kernel, rfl, rfl⟩
theorem d_X8_ties_35 : nD YX8_ties 35 (.invokestatic 99) 3 38 8 := ⟨by decide +kernel, rfl, rfl⟩
theorem d_X8_ties_38 : nD YX8_ties 38 (.istore 7) 2 40 8 := ⟨by decide +kernel, rfl, rfl⟩
theorem d_X8_ties_40 : nD YX8_ties 40 (.iconst 1) 1 41 8 := ⟨by decide +kernel, rfl, rfl⟩
theorem d_X8_ties_41 : nD YX8_ties 41 (.iload 6) 2 43 8 := ⟨by decide +kernel, rfl, rfl⟩
theorem d_X8_ties_43 : nD YX8_ties 43 (.bipush 24) 2 45 8 := ⟨by decide +kernel, rfl, rfl⟩
theorem d_X8_ties_45 : nD YX8_ties 45 (.irem) 1 46 8 := ⟨by decide +kernel, rfl, rfl⟩
theorem d_X8_ties_46 : nD YX8_ties 46 (.aload_n 0) 1 47 8 := ⟨by decide +kernel, rfl, rfl⟩
theorem d_X8_ties_47 : nD YX8_ties 47 (.getfield 45) 3 50 8 := ⟨by decide +kernel, rfl, rfl⟩
theorem d_X8_ties_50 : nD YX8_ties 50 (.iload 7) 2 52 8 := ⟨by decide +kernel, rfl, rfl⟩
theorem d_X8_ties_52 : nD YX8_ties 52 (.iaload) 1 53 8 := ⟨by decide +kernel, rfl, rfl⟩
theorem d_X8_ties_53 : nD YX8_ties 53 (.isub) 1 54 8 := ⟨by decide +kernel, rfl, rfl⟩
theorem d_X8_ties_54 : nD YX8_ties 54 (.ishl) 1 55 8 := ⟨by decide +kernel, rfl, rfl⟩
theorem d_X8_ties_55 : nD YX8_ties 55 (.istore 8) 2 57 8 := ⟨by decide +kernel, rfl, rfl⟩
theorem d_X8_ties_57 : nD YX8_ties 57 (.aload_n 0) 1 58 8 := ⟨by decide +kernel, rfl, rfl⟩
theorem d_X8_ties_58 : nD YX8_ties 58 (.getfield 51) 3 61 8 := ⟨by decide +kernel, rfl, rfl⟩
theorem d_X8_ties_61 : nD YX8_ties 61 (.iload 7) 2 63 8 := ⟨by decide +kernel, rfl, rfl⟩
theorem d_X8_ties_63 : nD YX8_ties 63 (.iload 4) 2 65 8 := ⟨by decide +kernel, rfl, rfl⟩
theorem d_X8_ties_65 : nD YX8_ties 65 (.ifCond .eq 18) 3 68 8 := ⟨by decide +kernel, rfl, rfl⟩
theorem d_X8_ties_68 : nD YX8_ties 68 (.aload_n 0) 1 69 8 := ⟨by decide +kernel, rfl, rfl⟩
theorem d_X8_ties_69 : nD YX8_ties 69 (.getfield 51) 3 72 8 := ⟨by decide +kernel, rfl, rfl⟩
theorem d_X8_ties_72 : nD YX8_ties 72 (.iload 7) 2 74 8 := ⟨by decide +kernel, rfl, rfl⟩
theorem d_X8_ties_74 : nD YX8_ties 74 (.iaload) 1 75 8 := ⟨by decide +kernel, rfl, rfl⟩
theorem d_X8_ties_75 : nD YX8_ties 75 (.iload 8) 2 77 8 := ⟨by decide +kernel, rfl, rfl⟩
theorem d_X8_ties_77 : nD YX8_ties 77 (.iconst (-1)) 1 78 8 := ⟨by decide +kernel, rfl, rfl⟩
theorem d_X8_ties_78 : nD YX8_ties 78 (.ixor) 1 79 8 := ⟨by decide +kernel, rfl, rfl⟩
theorem d_X8_ties_79 : nD YX8_ties 79 (.iand) 1 80 8 := ⟨by decide +kernel, rfl, rfl⟩
theorem d_X8_ties_80 : nD YX8_ties 80 (.goto 13) 3 83 8 := ⟨by decide +kernel, rfl, rfl⟩
theorem d_X8_ties_83 : nD YX8_ties 83 (.aload_n 0) 1 84 8 := ⟨by decide +kernel, rfl, rfl⟩
theorem d_X8_ties_84 : nD YX8_ties 84 (.getfield 51) 3 87 8 := ⟨by decide +kernel, rfl, rfl⟩
theorem d_X8_ties_87 : nD YX8_ties 87 (.iload 7) 2 89 8 := ⟨by decide +kernel, rfl, rfl⟩
theorem d_X8_ties_89 : nD YX8_ties 89 (.iaload) 1 90 8 := ⟨by decide +kernel, rfl, rfl⟩
theorem d_X8_ties_90 : nD YX8_ties 90 (.iload 8) 2 92 8 := ⟨by decide +kernel, rfl, rfl⟩
theorem d_X8_ties_92 : nD YX8_ties 92 (.ior) 1 93 8 := ⟨by decide +kernel, rfl, rfl⟩
theorem d_X8_ties_93 : nD YX8_ties 93 (.iastore) 1 94 8 := ⟨by decide +kernel, rfl, rfl⟩
theorem d_X8_ties_94 : nD YX8_ties 94 (.return_) 1 95 8 := ⟨by decide +kernel, rfl, rfl⟩
theorem d_X8_reaches_0 : nD YX8_reaches 0 (.aload_n 0) 1 1 8 := ⟨by decide +kernel, rfl, rfl⟩
theorem d_X8_reaches_1 : nD YX8_reaches 1 (.iload_n 1) 1 2 8 := ⟨by decide +kernel, rfl, rfl⟩
theorem d_X8_reaches_2 : nD YX8_reaches 2 (.iload_n 2) 1 3 8 := ⟨by decide +kernel, rfl, rfl⟩
theorem d_X8_reaches_3 : nD YX8_reaches 3 (.bipush 24) 2 5 8 := ⟨by decide +kernel, rfl, rfl⟩
theorem d_X8_reaches_5 : nD YX8_reaches 5 (.idiv) 1 6 8 := ⟨by decide +kernel, rfl, rfl⟩
theorem d_X8_reaches_6 : nD YX8_reaches 6 (.iload_n 2) 1 7 8 := ⟨by decide +kernel, rfl, rfl⟩
theorem d_X8_reaches_7 : nD YX8_reaches 7 (.bipush 24) 2 9 8 := ⟨by decide +kernel, rfl, rfl⟩
theorem d_X8_reaches_9 : nD YX8_reaches 9 (.irem) 1 10 8 := ⟨by decide +kernel, rfl, rfl⟩
theorem d_X8_reaches_10 : nD YX8_reaches 10 (.invokevirtual 158) 3 13 8 := ⟨by decide +kernel, rfl, rfl⟩
theorem d_X8_reaches_13 : nD YX8_reaches 13 (.aload_n 0) 1 14 8 := ⟨by decide +kernel, rfl, rfl⟩
theorem d_X8_reaches_14 : nD YX8_reaches 14 (.getfield 155) 3 17 8 := ⟨by decide +kernel, rfl, rfl⟩
theorem d_X8_reaches_17 : nD YX8_reaches 17 (.iload_n 3) 1 18 8 := ⟨by decide +kernel, rfl, rfl⟩
theorem d_X8_reaches_18 : nD YX8_reaches 18 (.if_icmp .ne 7) 3 21 8 := ⟨by decide +kernel, rfl, rfl⟩
theorem d_X8_reaches_21 : nD YX8_reaches 21 (.iconst 1) 1 22 8 := ⟨by decide +kernel, rfl, rfl⟩
theorem d_X8_reaches_22 : nD YX8_reaches 22 (.goto 4) 3 25 8 := ⟨by decide +kernel, rfl, rfl⟩
theorem d_X8_reaches_25 : nD YX8_reaches 25 (.iconst 0) 1 26 8 := ⟨by decide +kernel, rfl, rfl⟩
theorem d_X8_reaches_26 : nD YX8_reaches 26 (.ireturn) 1 27 8 := ⟨by decide +kernel, rfl, rfl⟩
theorem d_X8_goesOn_0 : nD YX8_goesOn 0 (.iload_n 2) 1 1 8 := ⟨by decide +kernel, rfl, rfl⟩
theorem d_X8_goesOn_1 : nD YX8_goesOn 1 (.bipush 24) 2 3 8 := ⟨by decide +kernel, rfl, rfl⟩
theorem d_X8_goesOn_3 : nD YX8_goesOn 3 (.idiv) 1 4 8 := ⟨by decide +kernel, rfl, rfl⟩
theorem d_X8_goesOn_4 : nD YX8_goesOn 4 (.istore 4) 2 6 8 := ⟨by decide +kernel, rfl, rfl⟩
theorem d_X8_goesOn_6 : nD YX8_goesOn 6 (.aload_n 0) 1 7 8 := ⟨by decide +kernel, rfl, rfl⟩
theorem d_X8_goesOn_7 : nD YX8_goesOn 7 (.iload_n 1) 1 8 8 := ⟨by decide +kernel, rfl, rfl⟩
theorem d_X8_goesOn_8 : nD YX8_goesOn 8 (.iload 4) 2 10 8 := ⟨by decide +kernel, rfl, rfl⟩
theorem d_X8_goesOn_10 : nD YX8_goesOn 10 (.iload_n 2) 1 11 8 := ⟨by decide +kernel, rfl, rfl⟩
theorem d_X8_goesOn_11 : nD YX8_goesOn 11 (.bipush 24) 2 13 8 := ⟨by decide +kernel, rfl, rfl⟩
theorem d_X8_goesOn_13 : nD YX8_goesOn 13 (.irem) 1 14 8 := ⟨by decide +kernel, rfl, rfl⟩
theorem d_X8_goesOn_14 : nD YX8_goesOn 14 (.invokevirtual 149) 3 17 8 := ⟨by decide +kernel, rfl, rfl⟩
theorem d_X8_goesOn_17 : nD YX8_goesOn 17 (.iconst 1) 1 18 8 := ⟨by decide +kernel, rfl, rfl⟩
theorem d_X8_goesOn_18 : nD YX8_goesOn 18 (.if_icmp .ne 7) 3 21 8 := ⟨by decide +kernel, rfl, rfl⟩
theorem d_X8_goesOn_21 : nD YX8_goesOn 21 (.iconst 1) 1 22 8 := ⟨by decide +kernel, rfl, rfl⟩
theorem d_X8_goesOn_22 : nD YX8_goesOn 22 (.goto 4) 3 25 8 := ⟨by decide +kernel, rfl, rfl⟩
theorem d_X8_goesOn_25 : nD YX8_goesOn 25 (.iconst 0) 1 26 8 := ⟨by decide +kernel, rfl, rfl⟩
theorem d_X8_goesOn_26 : nD YX8_goesOn 26 (.istore 5) 2 28 8 := ⟨by decide +kernel, rfl, rfl⟩
theorem d_X8_goesOn_28 : nD YX8_goesOn 28 (.iload 4) 2 30 8 := ⟨by decide +kernel, rfl, rfl⟩
theorem d_X8_goesOn_30 : nD YX8_goesOn 30 (.iconst 1) 1 31 8 := ⟨by decide +kernel, rfl, rfl⟩
theorem d_X8_goesOn_31 : nD YX8_goesOn 31 (.isub) 1 32 8 := ⟨by decide +kernel, rfl, rfl⟩
theorem d_X8_goesOn_32 : nD YX8_goesOn 32 (.istore 6) 2 34 8 := ⟨by decide +kernel, rfl, rfl⟩
end
section
theorem d_X8_goesOn_34 : nD YX8_goesOn 34 (.iload 6) 2 36 8 := ⟨by decide +kernel, rfl, rfl⟩
theorem d_X8_goesOn_36 : nD YX8_goesOn 36 (.iload 4) 2 38 8 := ⟨by decide +kernel, rfl, rfl⟩
theorem d_X8_goesOn_38 : nD YX8_goesOn 38 (.iconst 1) 1 39 8 := ⟨by decide +kernel, rfl, rfl⟩
theorem d_X8_goesOn_39 : nD YX8_goesOn 39 (.iadd) 1 40 8 := ⟨by decide +kernel, rfl, rfl⟩
theorem d_X8_goesOn_40 : nD YX8_goesOn 40 (.if_icmp .gt 117) 3 43 8 := ⟨by decide +kernel, rfl, rfl⟩
theorem d_X8_goesOn_43 : nD YX8_goesOn 43 (.iload 6) 2 45 8 := ⟨by decide +kernel, rfl, rfl⟩
theorem d_X8_goesOn_45 : nD YX8_goesOn 45 (.ifCond .lt 106) 3 48 8 := ⟨by decide +kernel, rfl, rfl⟩
theorem d_X8_goesOn_48 : nD YX8_goesOn 48 (.iload 6) 2 50 8 := ⟨by decide +kernel, rfl, rfl⟩
theorem d_X8_goesOn_50 : nD YX8_goesOn 50 (.aload_n 0) 1 51 8 := ⟨by decide +kernel, rfl, rfl⟩
theorem d_X8_goesOn_51 : nD YX8_goesOn 51 (.getfield 13) 3 54 8 := ⟨by decide +kernel, rfl, rfl⟩
theorem d_X8_goesOn_54 : nD YX8_goesOn 54 (.iload_n 1) 1 55 8 := ⟨by decide +kernel, rfl, rfl⟩
theorem d_X8_goesOn_55 : nD YX8_goesOn 55 (.iaload) 1 56 8 := ⟨by decide +kernel, rfl, rfl⟩
theorem d_X8_goesOn_56 : nD YX8_goesOn 56 (.if_icmp .lt 6) 3 59 8 := ⟨by decide +kernel, rfl, rfl⟩
theorem d_X8_goesOn_59 : nD YX8_goesOn 59 (.goto 92) 3 62 8 := ⟨by decide +kernel, rfl, rfl⟩
theorem d_X8_goesOn_62 : nD YX8_goesOn 62 (.iconst 0) 1 63 8 := ⟨by decide +kernel, rfl, rfl⟩
theorem d_X8_goesOn_63 : nD YX8_goesOn 63 (.istore 7) 2 65 8 := ⟨by decide +kernel, rfl, rfl⟩
theorem d_X8_goesOn_65 : nD YX8_goesOn 65 (.iload 7) 2 67 8 := ⟨by decide +kernel, rfl, rfl⟩
theorem d_X8_goesOn_67 : nD YX8_goesOn 67 (.aload_n 0) 1 68 8 := ⟨by decide +kernel, rfl, rfl⟩
theorem d_X8_goesOn_68 : nD YX8_goesOn 68 (.getfield 32) 3 71 8 := ⟨by decide +kernel, rfl, rfl⟩
theorem d_X8_goesOn_71 : nD YX8_goesOn 71 (.bipush 20) 2 73 8 := ⟨by decide +kernel, rfl, rfl⟩
theorem d_X8_goesOn_73 : nD YX8_goesOn 73 (.iload_n 1) 1 74 8 := ⟨by decide +kernel, rfl, rfl⟩
theorem d_X8_goesOn_74 : nD YX8_goesOn 74 (.imul) 1 75 8 := ⟨by decide +kernel, rfl, rfl⟩
theorem d_X8_goesOn_75 : nD YX8_goesOn 75 (.iload 6) 2 77 8 := ⟨by decide +kernel, rfl, rfl⟩
theorem d_X8_goesOn_77 : nD YX8_goesOn 77 (.iadd) 1 78 8 := ⟨by decide +kernel, rfl, rfl⟩
theorem d_X8_goesOn_78 : nD YX8_goesOn 78 (.iaload) 1 79 8 := ⟨by decide +kernel, rfl, rfl⟩
theorem d_X8_goesOn_79 : nD YX8_goesOn 79 (.if_icmp .ge 72) 3 82 8 := ⟨by decide +kernel, rfl, rfl⟩
theorem d_X8_goesOn_82 : nD YX8_goesOn 82 (.bipush 24) 2 84 8 := ⟨by decide +kernel, rfl, rfl⟩
theorem d_X8_goesOn_84 : nD YX8_goesOn 84 (.iload 6) 2 86 8 := ⟨by decide +kernel, rfl, rfl⟩
theorem d_X8_goesOn_86 : nD YX8_goesOn 86 (.imul) 1 87 8 := ⟨by decide +kernel, rfl, rfl⟩
theorem d_X8_goesOn_87 : nD YX8_goesOn 87 (.iload 7) 2 89 8 := ⟨by decide +kernel, rfl, rfl⟩
theorem d_X8_goesOn_89 : nD YX8_goesOn 89 (.iadd) 1 90 8 := ⟨by decide +kernel, rfl, rfl⟩
theorem d_X8_goesOn_90 : nD YX8_goesOn 90 (.istore 8) 2 92 8 := ⟨by decide +kernel, rfl, rfl⟩
theorem d_X8_goesOn_92 : nD YX8_goesOn 92 (.aload_n 0) 1 93 8 := ⟨by decide +kernel, rfl, rfl⟩
theorem d_X8_goesOn_93 : nD YX8_goesOn 93 (.iload_n 1) 1 94 8 := ⟨by decide +kernel, rfl, rfl⟩
theorem d_X8_goesOn_94 : nD YX8_goesOn 94 (.iload_n 2) 1 95 8 := ⟨by decide +kernel, rfl, rfl⟩
theorem d_X8_goesOn_95 : nD YX8_goesOn 95 (.iload 8) 2 97 8 := ⟨by decide +kernel, rfl, rfl⟩
theorem d_X8_goesOn_97 : nD YX8_goesOn 97 (.invokevirtual 187) 3 100 8 := ⟨by decide +kernel, rfl, rfl⟩
theorem d_X8_goesOn_100 : nD YX8_goesOn 100 (.ifCond .ne 6) 3 103 8 := ⟨by decide +kernel, rfl, rfl⟩
theorem d_X8_goesOn_103 : nD YX8_goesOn 103 (.goto 42) 3 106 8 := ⟨by decide +kernel, rfl, rfl⟩
theorem d_X8_goesOn_106 : nD YX8_goesOn 106 (.aload_n 0) 1 107 8 := ⟨by decide +kernel, rfl, rfl⟩
theorem d_X8_goesOn_107 : nD YX8_goesOn 107 (.iload_n 1) 1 108 8 := ⟨by decide +kernel, rfl, rfl⟩
theorem d_X8_goesOn_108 : nD YX8_goesOn 108 (.iload_n 2) 1 109 8 := ⟨by decide +kernel, rfl, rfl⟩
theorem d_X8_goesOn_109 : nD YX8_goesOn 109 (.iload 8) 2 111 8 := ⟨by decide +kernel, rfl, rfl⟩
theorem d_X8_goesOn_111 : nD YX8_goesOn 111 (.iconst 1) 1 112 8 := ⟨by decide +kernel, rfl, rfl⟩
theorem d_X8_goesOn_112 : nD YX8_goesOn 112 (.invokevirtual 190) 3 115 8 := ⟨by decide +kernel, rfl, rfl⟩
theorem d_X8_goesOn_115 : nD YX8_goesOn 115 (.iload 5) 2 117 8 := ⟨by decide +kernel, rfl, rfl⟩
theorem d_X8_goesOn_117 : nD YX8_goesOn 117 (.ifCond .ne 16) 3 120 8 := ⟨by decide +kernel, rfl, rfl⟩
theorem d_X8_goesOn_120 : nD YX8_goesOn 120 (.aload_n 0) 1 121 8 := ⟨by decide +kernel, rfl, rfl⟩
theorem d_X8_goesOn_121 : nD YX8_goesOn 121 (.iload_n 1) 1 122 8 := ⟨by decide +kernel, rfl, rfl⟩
theorem d_X8_goesOn_122 : nD YX8_goesOn 122 (.iload 8) 2 124 8 := ⟨by decide +kernel, rfl, rfl⟩
theorem d_X8_goesOn_124 : nD YX8_goesOn 124 (.iload_n 3) 1 125 8 := ⟨by decide +kernel, rfl, rfl⟩
theorem d_X8_goesOn_125 : nD YX8_goesOn 125 (.iconst 1) 1 126 8 := ⟨by decide +kernel, rfl, rfl⟩
theorem d_X8_goesOn_126 : nD YX8_goesOn 126 (.isub) 1 127 8 := ⟨by decide +kernel, rfl, rfl⟩
theorem d_X8_goesOn_127 : nD YX8_goesOn 127 (.invokevirtual 194) 3 130 8 := ⟨by decide +kernel, rfl, rfl⟩
theorem d_X8_goesOn_130 : nD YX8_goesOn 130 (.ifCond .eq 6) 3 133 8 := ⟨by decide +kernel, rfl, rfl⟩
theorem d_X8_goesOn_133 : nD YX8_goesOn 133 (.iload 8) 2 135 8 := ⟨by decide +kernel, rfl, rfl⟩
theorem d_X8_goesOn_135 : nD YX8_goesOn 135 (.ireturn) 1 136 8 := ⟨by decide +kernel, rfl, rfl⟩
theorem d_X8_goesOn_136 : nD YX8_goesOn 136 (.aload_n 0) 1 137 8 := ⟨by decide +kernel, rfl, rfl⟩
theorem d_X8_goesOn_137 : nD YX8_goesOn 137 (.iload_n 1) 1 138 8 := ⟨by decide +kernel, rfl, rfl⟩
theorem d_X8_goesOn_138 : nD YX8_goesOn 138 (.iload_n 2) 1 139 8 := ⟨by decide +kernel, rfl, rfl⟩
theorem d_X8_goesOn_139 : nD YX8_goesOn 139 (.iload 8) 2 141 8 := ⟨by decide +kernel, rfl, rfl⟩
theorem d_X8_goesOn_141 : nD YX8_goesOn 141 (.iconst 0) 1 142 8 := ⟨by decide +kernel, rfl, rfl⟩
theorem d_X8_goesOn_142 : nD YX8_goesOn 142 (.invokevirtual 190) 3 145 8 := ⟨by decide +kernel, rfl, rfl⟩
theorem d_X8_goesOn_145 : nD YX8_goesOn 145 (.iinc 7 1) 3 148 8 := ⟨by decide +kernel, rfl, rfl⟩
theorem d_X8_goesOn_148 : nD YX8_goesOn 148 (.goto (-83)) 3 151 8 := ⟨by decide +kernel, rfl, rfl⟩
theorem d_X8_goesOn_151 : nD YX8_goesOn 151 (.iinc 6 2) 3 154 8 := ⟨by decide +kernel, rfl, rfl⟩
theorem d_X8_goesOn_154 : nD YX8_goesOn 154 (.goto (-120)) 3 157 8 := ⟨by decide +kernel, rfl, rfl⟩
theorem d_X8_goesOn_157 : nD YX8_goesOn 157 (.iconst (-1)) 1 158 8 := ⟨by decide +kernel, rfl, rfl⟩
theorem d_X8_goesOn_158 : nD YX8_goesOn 158 (.ireturn) 1 159 8 := ⟨by decide +kernel, rfl, rfl⟩
theorem d_X8_mend_0 : nD YX8_mend 0 (.aload_n 0) 1 1 8 := ⟨by decide +kernel, rfl, rfl⟩
theorem d_X8_mend_1 : nD YX8_mend 1 (.iload_n 1) 1 2 8 := ⟨by decide +kernel, rfl, rfl⟩
theorem d_X8_mend_2 : nD YX8_mend 2 (.iload_n 2) 1 3 8 := ⟨by decide +kernel, rfl, rfl⟩
theorem d_X8_mend_3 : nD YX8_mend 3 (.iload_n 3) 1 4 8 := ⟨by decide +kernel, rfl, rfl⟩
theorem d_X8_mend_4 : nD YX8_mend 4 (.invokevirtual 118) 3 7 8 := ⟨by decide +kernel, rfl, rfl⟩
theorem d_X8_mend_7 : nD YX8_mend 7 (.ifCond .ne 5) 3 10 8 := ⟨by decide +kernel, rfl, rfl⟩
theorem d_X8_mend_10 : nD YX8_mend 10 (.iconst (-1)) 1 11 8 := ⟨by decide +kernel, rfl, rfl⟩
theorem d_X8_mend_11 : nD YX8_mend 11 (.ireturn) 1 12 8 := ⟨by decide +kernel, rfl, rfl⟩
theorem d_X8_mend_12 : nD YX8_mend 12 (.aload_n 0) 1 13 8 := ⟨by decide +kernel, rfl, rfl⟩
theorem d_X8_mend_13 : nD YX8_mend 13 (.iload_n 1) 1 14 8 := ⟨by decide +kernel, rfl, rfl⟩
theorem d_X8_mend_14 : nD YX8_mend 14 (.iload_n 2) 1 15 8 := ⟨by decide +kernel, rfl, rfl⟩
theorem d_X8_mend_15 : nD YX8_mend 15 (.iload_n 3) 1 16 8 := ⟨by decide +kernel, rfl, rfl⟩
theorem d_X8_mend_16 : nD YX8_mend 16 (.invokevirtual 158) 3 19 8 := ⟨by decide +kernel, rfl, rfl⟩
theorem d_X8_mend_19 : nD YX8_mend 19 (.aload_n 0) 1 20 8 := ⟨by decide +kernel, rfl, rfl⟩
theorem d_X8_mend_20 : nD YX8_mend 20 (.getfield 152) 3 23 8 := ⟨by decide +kernel, rfl, rfl⟩
theorem d_X8_mend_23 : nD YX8_mend 23 (.ifCond .ne 5) 3 26 8 := ⟨by decide +kernel, rfl, rfl⟩
theorem d_X8_mend_26 : nD YX8_mend 26 (.iconst 0) 1 27 8 := ⟨by decide +kernel, rfl, rfl⟩
theorem d_X8_mend_27 : nD YX8_mend 27 (.ireturn) 1 28 8 := ⟨by decide +kernel, rfl, rfl⟩
theorem d_X8_mend_28 : nD YX8_mend 28 (.aload_n 0) 1 29 8 := ⟨by decide +kernel, rfl, rfl⟩
theorem d_X8_mend_29 : nD YX8_mend 29 (.iload_n 1) 1 30 8 := ⟨by decide +kernel, rfl, rfl⟩
theorem d_X8_mend_30 : nD YX8_mend 30 (.invokevirtual 172) 3 33 8 := ⟨by decide +kernel, rfl, rfl⟩
theorem d_X8_mend_33 : nD YX8_mend 33 (.istore 4) 2 35 8 := ⟨by decide +kernel, rfl, rfl⟩
theorem d_X8_mend_35 : nD YX8_mend 35 (.aload_n 0) 1 36 8 := ⟨by decide +kernel, rfl, rfl⟩
theorem d_X8_mend_36 : nD YX8_mend 36 (.getfield 152) 3 39 8 := ⟨by decide +kernel, rfl, rfl⟩
theorem d_X8_mend_39 : nD YX8_mend 39 (.iload 4) 2 41 8 := ⟨by decide +kernel, rfl, rfl⟩
theorem d_X8_mend_41 : nD YX8_mend 41 (.invokestatic 178) 3 44 8 := ⟨by decide +kernel, rfl, rfl⟩
theorem d_X8_mend_44 : nD YX8_mend 44 (.istore 5) 2 46 8 := ⟨by decide +kernel, rfl, rfl⟩
theorem d_X8_mend_46 : nD YX8_mend 46 (.iload 5) 2 48 8 := ⟨by decide +kernel, rfl, rfl⟩
theorem d_X8_mend_48 : nD YX8_mend 48 (.iconst 1) 1 49 8 := ⟨by decide +kernel, rfl, rfl⟩
theorem d_X8_mend_49 : nD YX8_mend 49 (.if_icmp .le 6) 3 52 8 := ⟨by decide +kernel, rfl, rfl⟩
theorem d_X8_mend_52 : nD YX8_mend 52 (.iload 5) 2 54 8 := ⟨by decide +kernel, rfl, rfl⟩
theorem d_X8_mend_54 : nD YX8_mend 54 (.ireturn) 1 55 8 := ⟨by decide +kernel, rfl, rfl⟩
theorem d_X8_mend_55 : nD YX8_mend 55 (.iconst 0) 1 56 8 := ⟨by decide +kernel, rfl, rfl⟩
theorem d_X8_mend_56 : nD YX8_mend 56 (.istore 6) 2 58 8 := ⟨by decide +kernel, rfl, rfl⟩
theorem d_X8_mend_58 : nD YX8_mend 58 (.iload 6) 2 60 8 := ⟨by decide +kernel, rfl, rfl⟩
theorem d_X8_mend_60 : nD YX8_mend 60 (.sipush 480) 3 63 8 := ⟨by decide +kernel, rfl, rfl⟩
theorem d_X8_mend_63 : nD YX8_mend 63 (.if_icmp .ge 44) 3 66 8 := ⟨by decide +kernel, rfl, rfl⟩
theorem d_X8_mend_66 : nD YX8_mend 66 (.aload_n 0) 1 67 8 := ⟨by decide +kernel, rfl, rfl⟩
theorem d_X8_mend_67 : nD YX8_mend 67 (.getfield 60) 3 70 8 := ⟨by decide +kernel, rfl, rfl⟩
theorem d_X8_mend_70 : nD YX8_mend 70 (.iload 6) 2 72 8 := ⟨by decide +kernel, rfl, rfl⟩
theorem d_X8_mend_72 : nD YX8_mend 72 (.baload) 1 73 8 := ⟨by decide +kernel, rfl, rfl⟩
theorem d_X8_mend_73 : nD YX8_mend 73 (.ifCond .eq 28) 3 76 8 := ⟨by decide +kernel, rfl, rfl⟩
theorem d_X8_mend_76 : nD YX8_mend 76 (.aload_n 0) 1 77 8 := ⟨by decide +kernel, rfl, rfl⟩
theorem d_X8_mend_77 : nD YX8_mend 77 (.getfield 54) 3 80 8 := ⟨by decide +kernel, rfl, rfl⟩
theorem d_X8_mend_80 : nD YX8_mend 80 (.iload_n 1) 1 81 8 := ⟨by decide +kernel, rfl, rfl⟩
theorem d_X8_mend_81 : nD YX8_mend 81 (.iload 6) 2 83 8 := ⟨by decide +kernel, rfl, rfl⟩
theorem d_X8_mend_83 : nD YX8_mend 83 (.bipush 24) 2 85 8 := ⟨by decide +kernel, rfl, rfl⟩
theorem d_X8_mend_85 : nD YX8_mend 85 (.idiv) 1 86 8 := ⟨by decide +kernel, rfl, rfl⟩
theorem d_X8_mend_86 : nD YX8_mend 86 (.iload 6) 2 88 8 := ⟨by decide +kernel, rfl, rfl⟩
theorem d_X8_mend_88 : nD YX8_mend 88 (.bipush 24) 2 90 8 := ⟨by decide +kernel, rfl, rfl⟩
theorem d_X8_mend_90 : nD YX8_mend 90 (.irem) 1 91 8 := ⟨by decide +kernel, rfl, rfl⟩
theorem d_X8_mend_91 : nD YX8_mend 91 (.invokestatic 99) 3 94 8 := ⟨by decide +kernel, rfl, rfl⟩
theorem d_X8_mend_94 : nD YX8_mend 94 (.baload) 1 95 8 := ⟨by decide +kernel, rfl, rfl⟩
theorem d_X8_mend_95 : nD YX8_mend 95 (.ifCond .eq 6) 3 98 8 := ⟨by decide +kernel, rfl, rfl⟩
theorem d_X8_mend_98 : nD YX8_mend 98 (.bipush (-2)) 2 100 8 := ⟨by decide +kernel, rfl, rfl⟩
theorem d_X8_mend_100 : nD YX8_mend 100 (.ireturn) 1 101 8 := ⟨by decide +kernel, rfl, rfl⟩
theorem d_X8_mend_101 : nD YX8_mend 101 (.iinc 6 1) 3 104 8 := ⟨by decide +kernel, rfl, rfl⟩
theorem d_X8_mend_104 : nD YX8_mend 104 (.goto (-46)) 3 107 8 := ⟨by decide +kernel, rfl, rfl⟩
theorem d_X8_mend_107 : nD YX8_mend 107 (.iconst (-1)) 1 108 8 := ⟨by decide +kernel, rfl, rfl⟩
theorem d_X8_mend_108 : nD YX8_mend 108 (.istore 6) 2 110 8 := ⟨by decide +kernel, rfl, rfl⟩
theorem d_X8_mend_110 : nD YX8_mend 110 (.sipush 479) 3 113 8 := ⟨by decide +kernel, rfl, rfl⟩
theorem d_X8_mend_113 : nD YX8_mend 113 (.istore 7) 2 115 8 := ⟨by decide +kernel, rfl, rfl⟩
theorem d_X8_mend_115 : nD YX8_mend 115 (.iload 7) 2 117 8 := ⟨by decide +kernel, rfl, rfl⟩
theorem d_X8_mend_117 : nD YX8_mend 117 (.ifCond .lt 49) 3 120 8 := ⟨by decide +kernel, rfl, rfl⟩
theorem d_X8_mend_120 : nD YX8_mend 120 (.aload_n 0) 1 121 8 := ⟨by decide +kernel, rfl, rfl⟩
theorem d_X8_mend_121 : nD YX8_mend 121 (.getfield 60) 3 124 8 := ⟨by decide +kernel, rfl, rfl⟩
theorem d_X8_mend_124 : nD YX8_mend 124 (.iload 7) 2 126 8 := ⟨by decide +kernel, rfl, rfl⟩
theorem d_X8_mend_126 : nD YX8_mend 126 (.baload) 1 127 8 := ⟨by decide +kernel, rfl, rfl⟩
theorem d_X8_mend_127 : nD YX8_mend 127 (.ifCond .eq 33) 3 130 8 := ⟨by decide +kernel, rfl, rfl⟩
theorem d_X8_mend_130 : nD YX8_mend 130 (.iload 4) 2 132 8 := ⟨by decide +kernel, rfl, rfl⟩
theorem d_X8_mend_132 : nD YX8_mend 132 (.ifCond .eq 24) 3 135 8 := ⟨by decide +kernel, rfl, rfl⟩
theorem d_X8_mend_135 : nD YX8_mend 135 (.aload_n 0) 1 136 8 := ⟨by decide +kernel, rfl, rfl⟩
theorem d_X8_mend_136 : nD YX8_mend 136 (.iload_n 1) 1 137 8 := ⟨by decide +kernel, rfl, rfl⟩
theorem d_X8_mend_137 : nD YX8_mend 137 (.iload 7) 2 139 8 := ⟨by decide +kernel, rfl, rfl⟩
theorem d_X8_mend_139 : nD YX8_mend 139 (.bipush 24) 2 141 8 := ⟨by decide +kernel, rfl, rfl⟩
theorem d_X8_mend_141 : nD YX8_mend 141 (.idiv) 1 142 8 := ⟨by decide +kernel, rfl, rfl⟩
theorem d_X8_mend_142 : nD YX8_mend 142 (.iload 7) 2 144 8 := ⟨by decide +kernel, rfl, rfl⟩
theorem d_X8_mend_144 : nD YX8_mend 144 (.bipush 24) 2 146 8 := ⟨by decide +kernel, rfl, rfl⟩
theorem d_X8_mend_146 : nD YX8_mend 146 (.irem) 1 147 8 := ⟨by decide +kernel, rfl, rfl⟩
theorem d_X8_mend_147 : nD YX8_mend 147 (.invokevirtual 149) 3 150 8 := ⟨by decide +kernel, rfl, rfl⟩
theorem d_X8_mend_150 : nD YX8_mend 150 (.iconst 2) 1 151 8 := ⟨by decide +kernel, rfl, rfl⟩
theorem d_X8_mend_151 : nD YX8_mend 151 (.irem) 1 152 8 := ⟨by decide +kernel, rfl, rfl⟩
theorem d_X8_mend_152 : nD YX8_mend 152 (.iconst 1) 1 153 8 := ⟨by decide +kernel, rfl, rfl⟩
theorem d_X8_mend_153 : nD YX8_mend 153 (.if_icmp .ne 7) 3 156 8 := ⟨by decide +kernel, rfl, rfl⟩
theorem d_X8_mend_156 : nD YX8_mend 156 (.iload 7) 2 158 8 := ⟨by decide +kernel, rfl, rfl⟩
theorem d_X8_mend_158 : nD YX8_mend 158 (.istore 6) 2 160 8 := ⟨by decide +kernel, rfl, rfl⟩
theorem d_X8_mend_160 : nD YX8_mend 160 (.iinc 7 (-1)) 3 163 8 := ⟨by decide +kernel, rfl, rfl⟩
theorem d_X8_mend_163 : nD YX8_mend 163 (.goto (-48)) 3 166 8 := ⟨by decide +kernel, rfl, rfl⟩
theorem d_X8_mend_166 : nD YX8_mend 166 (.aload_n 0) 1 167 8 := ⟨by decide +kernel, rfl, rfl⟩
theorem d_X8_mend_167 : nD YX8_mend 167 (.getfield 155) 3 170 8 := ⟨by decide +kernel, rfl, rfl⟩
theorem d_X8_mend_170 : nD YX8_mend 170 (.istore 7) 2 172 8 := ⟨by decide +kernel, rfl, rfl⟩
theorem d_X8_mend_172 : nD YX8_mend 172 (.aload_n 0) 1 173 8 := ⟨by decide +kernel, rfl, rfl⟩
theorem d_X8_mend_173 : nD YX8_mend 173 (.iconst 1) 1 174 8 := ⟨by decide +kernel, rfl, rfl⟩
theorem d_X8_mend_174 : nD YX8_mend 174 (.putfield 181) 3 177 8 := ⟨by decide +kernel, rfl, rfl⟩
theorem d_X8_mend_177 : nD YX8_mend 177 (.aload_n 0) 1 178 8 := ⟨by decide +kernel, rfl, rfl⟩
theorem d_X8_mend_178 : nD YX8_mend 178 (.getfield 72) 3 181 8 := ⟨by decide +kernel, rfl, rfl⟩
theorem d_X8_mend_181 : nD YX8_mend 181 (.iconst 0) 1 182 8 := ⟨by decide +kernel, rfl, rfl⟩
theorem d_X8_mend_182 : nD YX8_mend 182 (.bipush 100) 2 184 8 := ⟨by decide +kernel, rfl, rfl⟩
theorem d_X8_mend_184 : nD YX8_mend 184 (.iload 6) 2 186 8 := ⟨by decide +kernel, rfl, rfl⟩
theorem d_X8_mend_186 : nD YX8_mend 186 (.bipush 24) 2 188 8 := ⟨by decide +kernel, rfl, rfl⟩
theorem d_X8_mend_188 : nD YX8_mend 188 (.idiv) 1 189 8 := ⟨by decide +kernel, rfl, rfl⟩
theorem d_X8_mend_189 : nD YX8_mend 189 (.imul) 1 190 8 := ⟨by decide +kernel, rfl, rfl⟩
theorem d_X8_mend_190 : nD YX8_mend 190 (.iload 6) 2 192 8 := ⟨by decide +kernel, rfl, rfl⟩
theorem d_X8_mend_192 : nD YX8_mend 192 (.bipush 24) 2 194 8 := ⟨by decide +kernel, rfl, rfl⟩
theorem d_X8_mend_194 : nD YX8_mend 194 (.irem) 1 195 8 := ⟨by decide +kernel, rfl, rfl⟩
theorem d_X8_mend_195 : nD YX8_mend 195 (.iadd) 1 196 8 := ⟨by decide +kernel, rfl, rfl⟩
theorem d_X8_mend_196 : nD YX8_mend 196 (.iastore) 1 197 8 := ⟨by decide +kernel, rfl, rfl⟩
theorem d_X8_mend_197 : nD YX8_mend 197 (.iload 7) 2 199 8 := ⟨by decide +kernel, rfl, rfl⟩
theorem d_X8_mend_199 : nD YX8_mend 199 (.ifCond .le 53) 3 202 8 := ⟨by decide +kernel, rfl, rfl⟩
theorem d_X8_mend_202 : nD YX8_mend 202 (.aload_n 0) 1 203 8 := ⟨by decide +kernel, rfl, rfl⟩
theorem d_X8_mend_203 : nD YX8_mend 203 (.iload_n 1) 1 204 8 := ⟨by decide +kernel, rfl, rfl⟩
theorem d_X8_mend_204 : nD YX8_mend 204 (.iload 6) 2 206 8 := ⟨by decide +kernel, rfl, rfl⟩
theorem d_X8_mend_206 : nD YX8_mend 206 (.iload 7) 2 208 8 := ⟨by decide +kernel, rfl, rfl⟩
theorem d_X8_mend_208 : nD YX8_mend 208 (.invokevirtual 184) 3 211 8 := ⟨by decide +kernel, rfl, rfl⟩
theorem d_X8_mend_211 : nD YX8_mend 211 (.istore 6) 2 213 8 := ⟨by decide +kernel, rfl, rfl⟩
theorem d_X8_mend_213 : nD YX8_mend 213 (.iinc 7 (-1)) 3 216 8 := ⟨by decide +kernel, rfl, rfl⟩
theorem d_X8_mend_216 : nD YX8_mend 216 (.aload_n 0) 1 217 8 := ⟨by decide +kernel, rfl, rfl⟩
theorem d_X8_mend_217 : nD YX8_mend 217 (.getfield 72) 3 220 8 := ⟨by decide +kernel, rfl, rfl⟩
theorem d_X8_mend_220 : nD YX8_mend 220 (.aload_n 0) 1 221 8 := ⟨by decide +kernel, rfl, rfl⟩
theorem d_X8_mend_221 : nD YX8_mend 221 (.getfield 181) 3 224 8 := ⟨by decide +kernel, rfl, rfl⟩
theorem d_X8_mend_224 : nD YX8_mend 224 (.bipush 100) 2 226 8 := ⟨by decide +kernel, rfl, rfl⟩
theorem d_X8_mend_226 : nD YX8_mend 226 (.iload 6) 2 228 8 := ⟨by decide +kernel, rfl, rfl⟩
theorem d_X8_mend_228 : nD YX8_mend 228 (.bipush 24) 2 230 8 := ⟨by decide +kernel, rfl, rfl⟩
theorem d_X8_mend_230 : nD YX8_mend 230 (.idiv) 1 231 8 := ⟨by decide +kernel, rfl, rfl⟩
theorem d_X8_mend_231 : nD YX8_mend 231 (.imul) 1 232 8 := ⟨by decide +kernel, rfl, rfl⟩
theorem d_X8_mend_232 : nD YX8_mend 232 (.iload 6) 2 234 8 := ⟨by decide +kernel, rfl, rfl⟩
theorem d_X8_mend_234 : nD YX8_mend 234 (.bipush 24) 2 236 8 := ⟨by decide +kernel, rfl, rfl⟩
theorem d_X8_mend_236 : nD YX8_mend 236 (.irem) 1 237 8 := ⟨by decide +kernel, rfl, rfl⟩
theorem d_X8_mend_237 : nD YX8_mend 237 (.iadd) 1 238 8 := ⟨by decide +kernel, rfl, rfl⟩
theorem d_X8_mend_238 : nD YX8_mend 238 (.iastore) 1 239 8 := ⟨by decide +kernel, rfl, rfl⟩
theorem d_X8_mend_239 : nD YX8_mend 239 (.aload_n 0) 1 240 8 := ⟨by decide +kernel, rfl, rfl⟩
theorem d_X8_mend_240 : nD YX8_mend 240 (.dup) 1 241 8 := ⟨by decide +kernel, rfl, rfl⟩
theorem d_X8_mend_241 : nD YX8_mend 241 (.getfield 181) 3 244 8 := ⟨by decide +kernel, rfl, rfl⟩
theorem d_X8_mend_244 : nD YX8_mend 244 (.iconst 1) 1 245 8 := ⟨by decide +kernel, rfl, rfl⟩
theorem d_X8_mend_245 : nD YX8_mend 245 (.iadd) 1 246 8 := ⟨by decide +kernel, rfl, rfl⟩
theorem d_X8_mend_246 : nD YX8_mend 246 (.putfield 181) 3 249 8 := ⟨by decide +kernel, rfl, rfl⟩
theorem d_X8_mend_249 : nD YX8_mend 249 (.goto (-52)) 3 252 8 := ⟨by decide +kernel, rfl, rfl⟩
theorem d_X8_mend_252 : nD YX8_mend 252 (.iconst 1) 1 253 8 := ⟨by decide +kernel, rfl, rfl⟩
theorem d_X8_mend_253 : nD YX8_mend 253 (.ireturn) 1 254 8 := ⟨by decide +kernel, rfl, rfl⟩
theorem d_X8_way_0 : nD YX8_way 0 (.iload_n 1) 1 1 8 := ⟨by decide +kernel, rfl, rfl⟩
theorem d_X8_way_1 : nD YX8_way 1 (.ifCond .lt 20) 3 4 8 := ⟨by decide +kernel, rfl, rfl⟩
theorem d_X8_way_4 : nD YX8_way 4 (.iload_n 1) 1 5 8 := ⟨by decide +kernel, rfl, rfl⟩
theorem d_X8_way_5 : nD YX8_way 5 (.aload_n 0) 1 6 8 := ⟨by decide +kernel, rfl, rfl⟩
theorem d_X8_way_6 : nD YX8_way 6 (.getfield 181) 3 9 8 := ⟨by decide +kernel, rfl, rfl⟩
theorem d_X8_way_9 : nD YX8_way 9 (.if_icmp .ge 12) 3 12 8 := ⟨by decide +kernel, rfl, rfl⟩
theorem d_X8_way_12 : nD YX8_way 12 (.aload_n 0) 1 13 8 := ⟨by decide +kernel, rfl, rfl⟩
theorem d_X8_way_13 : nD YX8_way 13 (.getfield 72) 3 16 8 := ⟨by decide +kernel, rfl, rfl⟩
theorem d_X8_way_16 : nD YX8_way 16 (.iload_n 1) 1 17 8 := ⟨by decide +kernel, rfl, rfl⟩
theorem d_X8_way_17 : nD YX8_way 17 (.iaload) 1 18 8 := ⟨by decide +kernel, rfl, rfl⟩
theorem d_X8_way_18 : nD YX8_way 18 (.goto 4) 3 21 8 := ⟨by decide +kernel, rfl, rfl⟩
theorem d_X8_way_21 : nD YX8_way 21 (.iconst (-1)) 1 22 8 := ⟨by decide +kernel, rfl, rfl⟩
theorem d_X8_way_22 : nD YX8_way 22 (.ireturn) 1 23 8 := ⟨by decide +kernel, rfl, rfl⟩
theorem d_X8_taper_0 : nD YX8_taper 0 (.iload_n 1) 1 1 8 := ⟨by decide +kernel, rfl, rfl⟩
theorem d_X8_taper_1 : nD YX8_taper 1 (.iconst 1) 1 2 8 := ⟨by decide +kernel, rfl, rfl⟩
theorem d_X8_taper_2 : nD YX8_taper 2 (.if_icmp .lt 32) 3 5 8 := ⟨by decide +kernel, rfl, rfl⟩
theorem d_X8_taper_5 : nD YX8_taper 5 (.iload_n 1) 1 6 8 := ⟨by decide +kernel, rfl, rfl⟩
theorem d_X8_taper_6 : nD YX8_taper 6 (.sipush 1000) 3 9 8 := ⟨by decide +kernel, rfl, rfl⟩
theorem d_X8_taper_9 : nD YX8_taper 9 (.if_icmp .gt 25) 3 12 8 := ⟨by decide +kernel, rfl, rfl⟩
theorem d_X8_taper_12 : nD YX8_taper 12 (.iload_n 2) 1 13 8 := ⟨by decide +kernel, rfl, rfl⟩
theorem d_X8_taper_13 : nD YX8_taper 13 (.iconst 1) 1 14 8 := ⟨by decide +kernel, rfl, rfl⟩
theorem d_X8_taper_14 : nD YX8_taper 14 (.if_icmp .lt 20) 3 17 8 := ⟨by decide +kernel, rfl, rfl⟩
theorem d_X8_taper_17 : nD YX8_taper 17 (.iload_n 2) 1 18 8 := ⟨by decide +kernel, rfl, rfl⟩
theorem d_X8_taper_18 : nD YX8_taper 18 (.iload_n 1) 1 19 8 := ⟨by decide +kernel, rfl, rfl⟩
theorem d_X8_taper_19 : nD YX8_taper 19 (.if_icmp .gt 15) 3 22 8 := ⟨by decide +kernel, rfl, rfl⟩
theorem d_X8_taper_22 : nD YX8_taper 22 (.iload_n 3) 1 23 8 := ⟨by decide +kernel, rfl, rfl⟩
theorem d_X8_taper_23 : nD YX8_taper 23 (.iconst 1) 1 24 8 := ⟨by decide +kernel, rfl, rfl⟩
theorem d_X8_taper_24 : nD YX8_taper 24 (.if_icmp .lt 10) 3 27 8 := ⟨by decide +kernel, rfl, rfl⟩
theorem d_X8_taper_27 : nD YX8_taper 27 (.iload_n 3) 1 28 8 := ⟨by decide +kernel, rfl, rfl⟩
theorem d_X8_taper_28 : nD YX8_taper 28 (.sipush 400) 3 31 8 := ⟨by decide +kernel, rfl, rfl⟩
theorem d_X8_taper_31 : nD YX8_taper 31 (.if_icmp .le 5) 3 34 8 := ⟨by decide +kernel, rfl, rfl⟩
theorem d_X8_taper_34 : nD YX8_taper 34 (.iconst (-1)) 1 35 8 := ⟨by decide +kernel, rfl, rfl⟩
theorem d_X8_taper_35 : nD YX8_taper 35 (.ireturn) 1 36 8 := ⟨by decide +kernel, rfl, rfl⟩
theorem d_X8_taper_36 : nD YX8_taper 36 (.iconst 1) 1 37 8 := ⟨by decide +kernel, rfl, rfl⟩
theorem d_X8_taper_37 : nD YX8_taper 37 (.istore 4) 2 39 8 := ⟨by decide +kernel, rfl, rfl⟩
theorem d_X8_taper_39 : nD YX8_taper 39 (.iload 4) 2 41 8 := ⟨by decide +kernel, rfl, rfl⟩
theorem d_X8_taper_41 : nD YX8_taper 41 (.iload_n 3) 1 42 8 := ⟨by decide +kernel, rfl, rfl⟩
theorem d_X8_taper_42 : nD YX8_taper 42 (.if_icmp .gt 73) 3 45 8 := ⟨by decide +kernel, rfl, rfl⟩
theorem d_X8_taper_45 : nD YX8_taper 45 (.iconst 0) 1 46 8 := ⟨by decide +kernel, rfl, rfl⟩
theorem d_X8_taper_46 : nD YX8_taper 46 (.istore 5) 2 48 8 := ⟨by decide +kernel, rfl, rfl⟩
theorem d_X8_taper_48 : nD YX8_taper 48 (.iload 5) 2 50 8 := ⟨by decide +kernel, rfl, rfl⟩
theorem d_X8_taper_50 : nD YX8_taper 50 (.iload_n 1) 1 51 8 := ⟨by decide +kernel, rfl, rfl⟩
theorem d_X8_taper_51 : nD YX8_taper 51 (.iload_n 2) 1 52 8 := ⟨by decide +kernel, rfl, rfl⟩
theorem d_X8_taper_52 : nD YX8_taper 52 (.isub) 1 53 8 := ⟨by decide +kernel, rfl, rfl⟩
theorem d_X8_taper_53 : nD YX8_taper 53 (.if_icmp .gt 56) 3 56 8 := ⟨by decide +kernel, rfl, rfl⟩
theorem d_X8_taper_56 : nD YX8_taper 56 (.iload_n 3) 1 57 8 := ⟨by decide +kernel, rfl, rfl⟩
theorem d_X8_taper_57 : nD YX8_taper 57 (.iload 4) 2 59 8 := ⟨by decide +kernel, rfl, rfl⟩
theorem d_X8_taper_59 : nD YX8_taper 59 (.idiv) 1 60 8 := ⟨by decide +kernel, rfl, rfl⟩
theorem d_X8_taper_60 : nD YX8_taper 60 (.iload 5) 2 62 8 := ⟨by decide +kernel, rfl, rfl⟩
theorem d_X8_taper_62 : nD YX8_taper 62 (.imul) 1 63 8 := ⟨by decide +kernel, rfl, rfl⟩
theorem d_X8_taper_63 : nD YX8_taper 63 (.iload_n 3) 1 64 8 := ⟨by decide +kernel, rfl, rfl⟩
theorem d_X8_taper_64 : nD YX8_taper 64 (.iload 4) 2 66 8 := ⟨by decide +kernel, rfl, rfl⟩
theorem d_X8_taper_66 : nD YX8_taper 66 (.irem) 1 67 8 := ⟨by decide +kernel, rfl, rfl⟩
theorem d_X8_taper_67 : nD YX8_taper 67 (.iload 5) 2 69 8 := ⟨by decide +kernel, rfl, rfl⟩
theorem d_X8_taper_69 : nD YX8_taper 69 (.imul) 1 70 8 := ⟨by decide +kernel, rfl, rfl⟩
theorem d_X8_taper_70 : nD YX8_taper 70 (.iload 4) 2 72 8 := ⟨by decide +kernel, rfl, rfl⟩
theorem d_X8_taper_72 : nD YX8_taper 72 (.idiv) 1 73 8 := ⟨by decide +kernel, rfl, rfl⟩
theorem d_X8_taper_73 : nD YX8_taper 73 (.iadd) 1 74 8 := ⟨by decide +kernel, rfl, rfl⟩
theorem d_X8_taper_74 : nD YX8_taper 74 (.iload_n 1) 1 75 8 := ⟨by decide +kernel, rfl, rfl⟩
theorem d_X8_taper_75 : nD YX8_taper 75 (.iload_n 2) 1 76 8 := ⟨by decide +kernel, rfl, rfl⟩
theorem d_X8_taper_76 : nD YX8_taper 76 (.isub) 1 77 8 := ⟨by decide +kernel, rfl, rfl⟩
theorem d_X8_taper_77 : nD YX8_taper 77 (.if_icmp .eq 6) 3 80 8 := ⟨by decide +kernel, rfl, rfl⟩
theorem d_X8_taper_80 : nD YX8_taper 80 (.goto 23) 3 83 8 := ⟨by decide +kernel, rfl, rfl⟩
theorem d_X8_taper_83 : nD YX8_taper 83 (.aload_n 0) 1 84 8 := ⟨by decide +kernel, rfl, rfl⟩
theorem d_X8_taper_84 : nD YX8_taper 84 (.iload 4) 2 86 8 := ⟨by decide +kernel, rfl, rfl⟩
theorem d_X8_taper_86 : nD YX8_taper 86 (.putfield 197) 3 89 8 := ⟨by decide +kernel, rfl, rfl⟩
theorem d_X8_taper_89 : nD YX8_taper 89 (.aload_n 0) 1 90 8 := ⟨by decide +kernel, rfl, rfl⟩
theorem d_X8_taper_90 : nD YX8_taper 90 (.iload 5) 2 92 8 := ⟨by decide +kernel, rfl, rfl⟩
theorem d_X8_taper_92 : nD YX8_taper 92 (.putfield 200) 3 95 8 := ⟨by decide +kernel, rfl, rfl⟩
theorem d_X8_taper_95 : nD YX8_taper 95 (.aload_n 0) 1 96 8 := ⟨by decide +kernel, rfl, rfl⟩
theorem d_X8_taper_96 : nD YX8_taper 96 (.iload_n 3) 1 97 8 := ⟨by decide +kernel, rfl, rfl⟩
theorem d_X8_taper_97 : nD YX8_taper 97 (.putfield 203) 3 100 8 := ⟨by decide +kernel, rfl, rfl⟩
theorem d_X8_taper_100 : nD YX8_taper 100 (.iload 4) 2 102 8 := ⟨by decide +kernel, rfl, rfl⟩
theorem d_X8_taper_102 : nD YX8_taper 102 (.ireturn) 1 103 8 := ⟨by decide +kernel, rfl, rfl⟩
theorem d_X8_taper_103 : nD YX8_taper 103 (.iinc 5 1) 3 106 8 := ⟨by decide +kernel, rfl, rfl⟩
theorem d_X8_taper_106 : nD YX8_taper 106 (.goto (-58)) 3 109 8 := ⟨by decide +kernel, rfl, rfl⟩
theorem d_X8_taper_109 : nD YX8_taper 109 (.iinc 4 1) 3 112 8 := ⟨by decide +kernel, rfl, rfl⟩
theorem d_X8_taper_112 : nD YX8_taper 112 (.goto (-73)) 3 115 8 := ⟨by decide +kernel, rfl, rfl⟩
theorem d_X8_taper_115 : nD YX8_taper 115 (.iconst (-1)) 1 116 8 := ⟨by decide +kernel, rfl, rfl⟩
theorem d_X8_taper_116 : nD YX8_taper 116 (.ireturn) 1 117 8 := ⟨by decide +kernel, rfl, rfl⟩
theorem d_X8_cycle_0 : nD YX8_cycle 0 (.aload_n 0) 1 1 8 := ⟨by decide +kernel, rfl, rfl⟩
theorem d_X8_cycle_1 : nD YX8_cycle 1 (.getfield 203) 3 4 8 := ⟨by decide +kernel, rfl, rfl⟩
theorem d_X8_cycle_4 : nD YX8_cycle 4 (.ifCond .ne 5) 3 7 8 := ⟨by decide +kernel, rfl, rfl⟩
theorem d_X8_cycle_7 : nD YX8_cycle 7 (.iconst (-1)) 1 8 8 := ⟨by decide +kernel, rfl, rfl⟩
theorem d_X8_cycle_8 : nD YX8_cycle 8 (.ireturn) 1 9 8 := ⟨by decide +kernel, rfl, rfl⟩
theorem d_X8_cycle_9 : nD YX8_cycle 9 (.iload_n 1) 1 10 8 := ⟨by decide +kernel, rfl, rfl⟩
theorem d_X8_cycle_10 : nD YX8_cycle 10 (.tableswitch 60 0 3 #[30, 35, 40, 50]) 30 40 8 := ⟨by decide +kernel, rfl, rfl⟩
theorem d_X8_cycle_40 : nD YX8_cycle 40 (.aload_n 0) 1 41 8 := ⟨by decide +kernel, rfl, rfl⟩
theorem d_X8_cycle_41 : nD YX8_cycle 41 (.getfield 197) 3 44 8 := ⟨by decide +kernel, rfl, rfl⟩
theorem d_X8_cycle_44 : nD YX8_cycle 44 (.ireturn) 1 45 8 := ⟨by decide +kernel, rfl, rfl⟩
theorem d_X8_cycle_45 : nD YX8_cycle 45 (.aload_n 0) 1 46 8 := ⟨by decide +kernel, rfl, rfl⟩
theorem d_X8_cycle_46 : nD YX8_cycle 46 (.getfield 200) 3 49 8 := ⟨by decide +kernel, rfl, rfl⟩
theorem d_X8_cycle_49 : nD YX8_cycle 49 (.ireturn) 1 50 8 := ⟨by decide +kernel, rfl, rfl⟩
theorem d_X8_cycle_50 : nD YX8_cycle 50 (.aload_n 0) 1 51 8 := ⟨by decide +kernel, rfl, rfl⟩
theorem d_X8_cycle_51 : nD YX8_cycle 51 (.getfield 203) 3 54 8 := ⟨by decide +kernel, rfl, rfl⟩
theorem d_X8_cycle_54 : nD YX8_cycle 54 (.aload_n 0) 1 55 8 := ⟨by decide +kernel, rfl, rfl⟩
theorem d_X8_cycle_55 : nD YX8_cycle 55 (.getfield 197) 3 58 8 := ⟨by decide +kernel, rfl, rfl⟩
theorem d_X8_cycle_58 : nD YX8_cycle 58 (.idiv) 1 59 8 := ⟨by decide +kernel, rfl, rfl⟩
theorem d_X8_cycle_59 : nD YX8_cycle 59 (.ireturn) 1 60 8 := ⟨by decide +kernel, rfl, rfl⟩
theorem d_X8_cycle_60 : nD YX8_cycle 60 (.aload_n 0) 1 61 8 := ⟨by decide +kernel, rfl, rfl⟩
theorem d_X8_cycle_61 : nD YX8_cycle 61 (.getfield 203) 3 64 8 := ⟨by decide +kernel, rfl, rfl⟩
theorem d_X8_cycle_64 : nD YX8_cycle 64 (.aload_n 0) 1 65 8 := ⟨by decide +kernel, rfl, rfl⟩
theorem d_X8_cycle_65 : nD YX8_cycle 65 (.getfield 197) 3 68 8 := ⟨by decide +kernel, rfl, rfl⟩
theorem d_X8_cycle_68 : nD YX8_cycle 68 (.irem) 1 69 8 := ⟨by decide +kernel, rfl, rfl⟩
theorem d_X8_cycle_69 : nD YX8_cycle 69 (.ireturn) 1 70 8 := ⟨by decide +kernel, rfl, rfl⟩
theorem d_X8_cycle_70 : nD YX8_cycle 70 (.iconst (-1)) 1 71 8 := ⟨by decide +kernel, rfl, rfl⟩
theorem d_X8_cycle_71 : nD YX8_cycle 71 (.ireturn) 1 72 8 := ⟨by decide +kernel, rfl, rfl⟩
theorem d_X8_copies_0 : nD YX8_copies 0 (.aload_n 0) 1 1 8 := ⟨by decide +kernel, rfl, rfl⟩
theorem d_X8_copies_1 : nD YX8_copies 1 (.getfield 35) 3 4 8 := ⟨by decide +kernel, rfl, rfl⟩
theorem d_X8_copies_4 : nD YX8_copies 4 (.bipush 20) 2 6 8 := ⟨by decide +kernel, rfl, rfl⟩
theorem d_X8_copies_6 : nD YX8_copies 6 (.iload_n 3) 1 7 8 := ⟨by decide +kernel, rfl, rfl⟩
theorem d_X8_copies_7 : nD YX8_copies 7 (.imul) 1 8 8 := ⟨by decide +kernel, rfl, rfl⟩
theorem d_X8_copies_8 : nD YX8_copies 8 (.iload 4) 2 10 8 := ⟨by decide +kernel, rfl, rfl⟩
theorem d_X8_copies_10 : nD YX8_copies 10 (.iadd) 1 11 8 := ⟨by decide +kernel, rfl, rfl⟩
theorem d_X8_copies_11 : nD YX8_copies 11 (.aload_n 0) 1 12 8 := ⟨by decide +kernel, rfl, rfl⟩
theorem d_X8_copies_12 : nD YX8_copies 12 (.getfield 35) 3 15 8 := ⟨by decide +kernel, rfl, rfl⟩
theorem d_X8_copies_15 : nD YX8_copies 15 (.bipush 20) 2 17 8 := ⟨by decide +kernel, rfl, rfl⟩
theorem d_X8_copies_17 : nD YX8_copies 17 (.iload_n 1) 1 18 8 := ⟨by decide +kernel, rfl, rfl⟩
theorem d_X8_copies_18 : nD YX8_copies 18 (.imul) 1 19 8 := ⟨by decide +kernel, rfl, rfl⟩
theorem d_X8_copies_19 : nD YX8_copies 19 (.iload_n 2) 1 20 8 := ⟨by decide +kernel, rfl, rfl⟩
theorem d_X8_copies_20 : nD YX8_copies 20 (.iadd) 1 21 8 := ⟨by decide +kernel, rfl, rfl⟩
theorem d_X8_copies_21 : nD YX8_copies 21 (.baload) 1 22 8 := ⟨by decide +kernel, rfl, rfl⟩
theorem d_X8_copies_22 : nD YX8_copies 22 (.bastore) 1 23 8 := ⟨by decide +kernel, rfl, rfl⟩
theorem d_X8_copies_23 : nD YX8_copies 23 (.aload_n 0) 1 24 8 := ⟨by decide +kernel, rfl, rfl⟩
theorem d_X8_copies_24 : nD YX8_copies 24 (.getfield 32) 3 27 8 := ⟨by decide +kernel, rfl, rfl⟩
theorem d_X8_copies_27 : nD YX8_copies 27 (.bipush 20) 2 29 8 := ⟨by decide +kernel, rfl, rfl⟩
theorem d_X8_copies_29 : nD YX8_copies 29 (.iload_n 3) 1 30 8 := ⟨by decide +kernel, rfl, rfl⟩
theorem d_X8_copies_30 : nD YX8_copies 30 (.imul) 1 31 8 := ⟨by decide +kernel, rfl, rfl⟩
theorem d_X8_copies_31 : nD YX8_copies 31 (.iload 4) 2 33 8 := ⟨by decide +kernel, rfl, rfl⟩
theorem d_X8_copies_33 : nD YX8_copies 33 (.iadd) 1 34 8 := ⟨by decide +kernel, rfl, rfl⟩
theorem d_X8_copies_34 : nD YX8_copies 34 (.aload_n 0) 1 35 8 := ⟨by decide +kernel, rfl, rfl⟩
theorem d_X8_copies_35 : nD YX8_copies 35 (.getfield 32) 3 38 8 := ⟨by decide +kernel, rfl, rfl⟩
theorem d_X8_copies_38 : nD YX8_copies 38 (.bipush 20) 2 40 8 := ⟨by decide +kernel, rfl, rfl⟩
theorem d_X8_copies_40 : nD YX8_copies 40 (.iload_n 1) 1 41 8 := ⟨by decide +kernel, rfl, rfl⟩
theorem d_X8_copies_41 : nD YX8_copies 41 (.imul) 1 42 8 := ⟨by decide +kernel, rfl, rfl⟩
theorem d_X8_copies_42 : nD YX8_copies 42 (.iload_n 2) 1 43 8 := ⟨by decide +kernel, rfl, rfl⟩
theorem d_X8_copies_43 : nD YX8_copies 43 (.iadd) 1 44 8 := ⟨by decide +kernel, rfl, rfl⟩
theorem d_X8_copies_44 : nD YX8_copies 44 (.iaload) 1 45 8 := ⟨by decide +kernel, rfl, rfl⟩
theorem d_X8_copies_45 : nD YX8_copies 45 (.iastore) 1 46 8 := ⟨by decide +kernel, rfl, rfl⟩
theorem d_X8_copies_46 : nD YX8_copies 46 (.iconst 0) 1 47 8 := ⟨by decide +kernel, rfl, rfl⟩
theorem d_X8_copies_47 : nD YX8_copies 47 (.istore 5) 2 49 8 := ⟨by decide +kernel, rfl, rfl⟩
theorem d_X8_copies_49 : nD YX8_copies 49 (.iload 5) 2 51 8 := ⟨by decide +kernel, rfl, rfl⟩
theorem d_X8_copies_51 : nD YX8_copies 51 (.bipush 24) 2 53 8 := ⟨by decide +kernel, rfl, rfl⟩
theorem d_X8_copies_53 : nD YX8_copies 53 (.if_icmp .ge 112) 3 56 8 := ⟨by decide +kernel, rfl, rfl⟩
theorem d_X8_copies_56 : nD YX8_copies 56 (.iload_n 1) 1 57 8 := ⟨by decide +kernel, rfl, rfl⟩
theorem d_X8_copies_57 : nD YX8_copies 57 (.iload_n 2) 1 58 8 := ⟨by decide +kernel, rfl, rfl⟩
theorem d_X8_copies_58 : nD YX8_copies 58 (.iload 5) 2 60 8 := ⟨by decide +kernel, rfl, rfl⟩
theorem d_X8_copies_60 : nD YX8_copies 60 (.invokestatic 99) 3 63 8 := ⟨by decide +kernel, rfl, rfl⟩
theorem d_X8_copies_63 : nD YX8_copies 63 (.istore 6) 2 65 8 := ⟨by decide +kernel, rfl, rfl⟩
theorem d_X8_copies_65 : nD YX8_copies 65 (.iload_n 3) 1 66 8 := ⟨by decide +kernel, rfl, rfl⟩
theorem d_X8_copies_66 : nD YX8_copies 66 (.iload 4) 2 68 8 := ⟨by decide +kernel, rfl, rfl⟩
theorem d_X8_copies_68 : nD YX8_copies 68 (.iload 5) 2 70 8 := ⟨by decide +kernel, rfl, rfl⟩
theorem d_X8_copies_70 : nD YX8_copies 70 (.invokestatic 99) 3 73 8 := ⟨by decide +kernel, rfl, rfl⟩
theorem d_X8_copies_73 : nD YX8_copies 73 (.istore 7) 2 75 8 := ⟨by decide +kernel, rfl, rfl⟩
theorem d_X8_copies_75 : nD YX8_copies 75 (.aload_n 0) 1 76 8 := ⟨by decide +kernel, rfl, rfl⟩
theorem d_X8_copies_76 : nD YX8_copies 76 (.getfield 39) 3 79 8 := ⟨by decide +kernel, rfl, rfl⟩
theorem d_X8_copies_79 : nD YX8_copies 79 (.iload 7) 2 81 8 := ⟨by decide +kernel, rfl, rfl⟩
theorem d_X8_copies_81 : nD YX8_copies 81 (.aload_n 0) 1 82 8 := ⟨by decide +kernel, rfl, rfl⟩
theorem d_X8_copies_82 : nD YX8_copies 82 (.getfield 39) 3 85 8 := ⟨by decide +kernel, rfl, rfl⟩
theorem d_X8_copies_85 : nD YX8_copies 85 (.iload 6) 2 87 8 := ⟨by decide +kernel, rfl, rfl⟩
theorem d_X8_copies_87 : nD YX8_copies 87 (.iaload) 1 88 8 := ⟨by decide +kernel, rfl, rfl⟩
theorem d_X8_copies_88 : nD YX8_copies 88 (.iastore) 1 89 8 := ⟨by decide +kernel, rfl, rfl⟩
theorem d_X8_copies_89 : nD YX8_copies 89 (.aload_n 0) 1 90 8 := ⟨by decide +kernel, rfl, rfl⟩
theorem d_X8_copies_90 : nD YX8_copies 90 (.getfield 42) 3 93 8 := ⟨by decide +kernel, rfl, rfl⟩
theorem d_X8_copies_93 : nD YX8_copies 93 (.iload 7) 2 95 8 := ⟨by decide +kernel, rfl, rfl⟩
theorem d_X8_copies_95 : nD YX8_copies 95 (.aload_n 0) 1 96 8 := ⟨by decide +kernel, rfl, rfl⟩
theorem d_X8_copies_96 : nD YX8_copies 96 (.getfield 42) 3 99 8 := ⟨by decide +kernel, rfl, rfl⟩
theorem d_X8_copies_99 : nD YX8_copies 99 (.iload 6) 2 101 8 := ⟨by decide +kernel, rfl, rfl⟩
theorem d_X8_copies_101 : nD YX8_copies 101 (.iaload) 1 102 8 := ⟨by decide +kernel, rfl, rfl⟩
theorem d_X8_copies_102 : nD YX8_copies 102 (.iastore) 1 103 8 := ⟨by decide +kernel, rfl, rfl⟩
theorem d_X8_copies_103 : nD YX8_copies 103 (.aload_n 0) 1 104 8 := ⟨by decide +kernel, rfl, rfl⟩
theorem d_X8_copies_104 : nD YX8_copies 104 (.getfield 45) 3 107 8 := ⟨by decide +kernel, rfl, rfl⟩
theorem d_X8_copies_107 : nD YX8_copies 107 (.iload 7) 2 109 8 := ⟨by decide +kernel, rfl, rfl⟩
theorem d_X8_copies_109 : nD YX8_copies 109 (.aload_n 0) 1 110 8 := ⟨by decide +kernel, rfl, rfl⟩
theorem d_X8_copies_110 : nD YX8_copies 110 (.getfield 45) 3 113 8 := ⟨by decide +kernel, rfl, rfl⟩
theorem d_X8_copies_113 : nD YX8_copies 113 (.iload 6) 2 115 8 := ⟨by decide +kernel, rfl, rfl⟩
theorem d_X8_copies_115 : nD YX8_copies 115 (.iaload) 1 116 8 := ⟨by decide +kernel, rfl, rfl⟩
theorem d_X8_copies_116 : nD YX8_copies 116 (.iastore) 1 117 8 := ⟨by decide +kernel, rfl, rfl⟩
theorem d_X8_copies_117 : nD YX8_copies 117 (.aload_n 0) 1 118 8 := ⟨by decide +kernel, rfl, rfl⟩
theorem d_X8_copies_118 : nD YX8_copies 118 (.getfield 48) 3 121 8 := ⟨by decide +kernel, rfl, rfl⟩
theorem d_X8_copies_121 : nD YX8_copies 121 (.iload 7) 2 123 8 := ⟨by decide +kernel, rfl, rfl⟩
theorem d_X8_copies_123 : nD YX8_copies 123 (.aload_n 0) 1 124 8 := ⟨by decide +kernel, rfl, rfl⟩
theorem d_X8_copies_124 : nD YX8_copies 124 (.getfield 48) 3 127 8 := ⟨by decide +kernel, rfl, rfl⟩
theorem d_X8_copies_127 : nD YX8_copies 127 (.iload 6) 2 129 8 := ⟨by decide +kernel, rfl, rfl⟩
theorem d_X8_copies_129 : nD YX8_copies 129 (.iaload) 1 130 8 := ⟨by decide +kernel, rfl, rfl⟩
theorem d_X8_copies_130 : nD YX8_copies 130 (.iastore) 1 131 8 := ⟨by decide +kernel, rfl, rfl⟩
theorem d_X8_copies_131 : nD YX8_copies 131 (.aload_n 0) 1 132 8 := ⟨by decide +kernel, rfl, rfl⟩
theorem d_X8_copies_132 : nD YX8_copies 132 (.getfield 51) 3 135 8 := ⟨by decide +kernel, rfl, rfl⟩
theorem d_X8_copies_135 : nD YX8_copies 135 (.iload 7) 2 137 8 := ⟨by decide +kernel, rfl, rfl⟩
theorem d_X8_copies_137 : nD YX8_copies 137 (.aload_n 0) 1 138 8 := ⟨by decide +kernel, rfl, rfl⟩
theorem d_X8_copies_138 : nD YX8_copies 138 (.getfield 51) 3 141 8 := ⟨by decide +kernel, rfl, rfl⟩
theorem d_X8_copies_141 : nD YX8_copies 141 (.iload 6) 2 143 8 := ⟨by decide +kernel, rfl, rfl⟩
theorem d_X8_copies_143 : nD YX8_copies 143 (.iaload) 1 144 8 := ⟨by decide +kernel, rfl, rfl⟩
theorem d_X8_copies_144 : nD YX8_copies 144 (.iastore) 1 145 8 := ⟨by decide +kernel, rfl, rfl⟩
theorem d_X8_copies_145 : nD YX8_copies 145 (.aload_n 0) 1 146 8 := ⟨by decide +kernel, rfl, rfl⟩
theorem d_X8_copies_146 : nD YX8_copies 146 (.getfield 54) 3 149 8 := ⟨by decide +kernel, rfl, rfl⟩
theorem d_X8_copies_149 : nD YX8_copies 149 (.iload 7) 2 151 8 := ⟨by decide +kernel, rfl, rfl⟩
theorem d_X8_copies_151 : nD YX8_copies 151 (.aload_n 0) 1 152 8 := ⟨by decide +kernel, rfl, rfl⟩
theorem d_X8_copies_152 : nD YX8_copies 152 (.getfield 54) 3 155 8 := ⟨by decide +kernel, rfl, rfl⟩
theorem d_X8_copies_155 : nD YX8_copies 155 (.iload 6) 2 157 8 := ⟨by decide +kernel, rfl, rfl⟩
theorem d_X8_copies_157 : nD YX8_copies 157 (.baload) 1 158 8 := ⟨by decide +kernel, rfl, rfl⟩
theorem d_X8_copies_158 : nD YX8_copies 158 (.bastore) 1 159 8 := ⟨by decide +kernel, rfl, rfl⟩
theorem d_X8_copies_159 : nD YX8_copies 159 (.iinc 5 1) 3 162 8 := ⟨by decide +kernel, rfl, rfl⟩
theorem d_X8_copies_162 : nD YX8_copies 162 (.goto (-113)) 3 165 8 := ⟨by decide +kernel, rfl, rfl⟩
theorem d_X8_copies_165 : nD YX8_copies 165 (.return_) 1 166 8 := ⟨by decide +kernel, rfl, rfl⟩
theorem d_X8_sew_0 : nD YX8_sew 0 (.aload_n 0) 1 1 8 := ⟨by decide +kernel, rfl, rfl⟩
theorem d_X8_sew_1 : nD YX8_sew 1 (.iload_n 1) 1 2 8 := ⟨by decide +kernel, rfl, rfl⟩
theorem d_X8_sew_2 : nD YX8_sew 2 (.invokevirtual 91) 3 5 8 := ⟨by decide +kernel, rfl, rfl⟩
theorem d_X8_sew_5 : nD YX8_sew 5 (.ifCond .eq 43) 3 8 8 := ⟨by decide +kernel, rfl, rfl⟩
theorem d_X8_sew_8 : nD YX8_sew 8 (.aload_n 0) 1 9 8 := ⟨by decide +kernel, rfl, rfl⟩
theorem d_X8_sew_9 : nD YX8_sew 9 (.iload_n 2) 1 10 8 := ⟨by decide +kernel, rfl, rfl⟩
theorem d_X8_sew_10 : nD YX8_sew 10 (.invokevirtual 91) 3 13 8 := ⟨by decide +kernel, rfl, rfl⟩
theorem d_X8_sew_13 : nD YX8_sew 13 (.ifCond .eq 35) 3 16 8 := ⟨by decide +kernel, rfl, rfl⟩
theorem d_X8_sew_16 : nD YX8_sew 16 (.iload_n 1) 1 17 8 := ⟨by decide +kernel, rfl, rfl⟩
theorem d_X8_sew_17 : nD YX8_sew 17 (.iload_n 2) 1 18 8 := ⟨by decide +kernel, rfl, rfl⟩
theorem d_X8_sew_18 : nD YX8_sew 18 (.if_icmp .eq 30) 3 21 8 := ⟨by decide +kernel, rfl, rfl⟩
theorem d_X8_sew_21 : nD YX8_sew 21 (.aload_n 0) 1 22 8 := ⟨by decide +kernel, rfl, rfl⟩
theorem d_X8_sew_22 : nD YX8_sew 22 (.getfield 88) 3 25 8 := ⟨by decide +kernel, rfl, rfl⟩
theorem d_X8_sew_25 : nD YX8_sew 25 (.bipush 12) 2 27 8 := ⟨by decide +kernel, rfl, rfl⟩
theorem d_X8_sew_27 : nD YX8_sew 27 (.if_icmp .eq 21) 3 30 8 := ⟨by decide +kernel, rfl, rfl⟩
theorem d_X8_sew_30 : nD YX8_sew 30 (.aload_n 0) 1 31 8 := ⟨by decide +kernel, rfl, rfl⟩
theorem d_X8_sew_31 : nD YX8_sew 31 (.getfield 13) 3 34 8 := ⟨by decide +kernel, rfl, rfl⟩
theorem d_X8_sew_34 : nD YX8_sew 34 (.iload_n 1) 1 35 8 := ⟨by decide +kernel, rfl, rfl⟩
theorem d_X8_sew_35 : nD YX8_sew 35 (.iaload) 1 36 8 := ⟨by decide +kernel, rfl, rfl⟩
theorem d_X8_sew_36 : nD YX8_sew 36 (.aload_n 0) 1 37 8 := ⟨by decide +kernel, rfl, rfl⟩
theorem d_X8_sew_37 : nD YX8_sew 37 (.getfield 13) 3 40 8 := ⟨by decide +kernel, rfl, rfl⟩
theorem d_X8_sew_40 : nD YX8_sew 40 (.iload_n 2) 1 41 8 := ⟨by decide +kernel, rfl, rfl⟩
theorem d_X8_sew_41 : nD YX8_sew 41 (.iaload) 1 42 8 := ⟨by decide +kernel, rfl, rfl⟩
theorem d_X8_sew_42 : nD YX8_sew 42 (.iadd) 1 43 8 := ⟨by decide +kernel, rfl, rfl⟩
theorem d_X8_sew_43 : nD YX8_sew 43 (.bipush 20) 2 45 8 := ⟨by decide +kernel, rfl, rfl⟩
theorem d_X8_sew_45 : nD YX8_sew 45 (.if_icmp .le 5) 3 48 8 := ⟨by decide +kernel, rfl, rfl⟩
theorem d_X8_sew_48 : nD YX8_sew 48 (.iconst (-1)) 1 49 8 := ⟨by decide +kernel, rfl, rfl⟩
theorem d_X8_sew_49 : nD YX8_sew 49 (.ireturn) 1 50 8 := ⟨by decide +kernel, rfl, rfl⟩
theorem d_X8_sew_50 : nD YX8_sew 50 (.aload_n 0) 1 51 8 := ⟨by decide +kernel, rfl, rfl⟩
theorem d_X8_sew_51 : nD YX8_sew 51 (.getfield 32) 3 54 8 := ⟨by decide +kernel, rfl, rfl⟩
theorem d_X8_sew_54 : nD YX8_sew 54 (.bipush 20) 2 56 8 := ⟨by decide +kernel, rfl, rfl⟩
theorem d_X8_sew_56 : nD YX8_sew 56 (.iload_n 1) 1 57 8 := ⟨by decide +kernel, rfl, rfl⟩
theorem d_X8_sew_57 : nD YX8_sew 57 (.imul) 1 58 8 := ⟨by decide +kernel, rfl, rfl⟩
theorem d_X8_sew_58 : nD YX8_sew 58 (.aload_n 0) 1 59 8 := ⟨by decide +kernel, rfl, rfl⟩
theorem d_X8_sew_59 : nD YX8_sew 59 (.getfield 13) 3 62 8 := ⟨by decide +kernel, rfl, rfl⟩
theorem d_X8_sew_62 : nD YX8_sew 62 (.iload_n 1) 1 63 8 := ⟨by decide +kernel, rfl, rfl⟩
theorem d_X8_sew_63 : nD YX8_sew 63 (.iaload) 1 64 8 := ⟨by decide +kernel, rfl, rfl⟩
theorem d_X8_sew_64 : nD YX8_sew 64 (.iadd) 1 65 8 := ⟨by decide +kernel, rfl, rfl⟩
theorem d_X8_sew_65 : nD YX8_sew 65 (.iconst 1) 1 66 8 := ⟨by decide +kernel, rfl, rfl⟩
theorem d_X8_sew_66 : nD YX8_sew 66 (.isub) 1 67 8 := ⟨by decide +kernel, rfl, rfl⟩
theorem d_X8_sew_67 : nD YX8_sew 67 (.iaload) 1 68 8 := ⟨by decide +kernel, rfl, rfl⟩
theorem d_X8_sew_68 : nD YX8_sew 68 (.istore_n 3) 1 69 8 := ⟨by decide +kernel, rfl, rfl⟩
theorem d_X8_sew_69 : nD YX8_sew 69 (.aload_n 0) 1 70 8 := ⟨by decide +kernel, rfl, rfl⟩
theorem d_X8_sew_70 : nD YX8_sew 70 (.getfield 32) 3 73 8 := ⟨by decide +kernel, rfl, rfl⟩
theorem d_X8_sew_73 : nD YX8_sew 73 (.bipush 20) 2 75 8 := ⟨by decide +kernel, rfl, rfl⟩
theorem d_X8_sew_75 : nD YX8_sew 75 (.iload_n 2) 1 76 8 := ⟨by decide +kernel, rfl, rfl⟩
theorem d_X8_sew_76 : nD YX8_sew 76 (.imul) 1 77 8 := ⟨by decide +kernel, rfl, rfl⟩
theorem d_X8_sew_77 : nD YX8_sew 77 (.iaload) 1 78 8 := ⟨by decide +kernel, rfl, rfl⟩
theorem d_X8_sew_78 : nD YX8_sew 78 (.istore 4) 2 80 8 := ⟨by decide +kernel, rfl, rfl⟩
theorem d_X8_sew_80 : nD YX8_sew 80 (.iload_n 3) 1 81 8 := ⟨by decide +kernel, rfl, rfl⟩
theorem d_X8_sew_81 : nD YX8_sew 81 (.ifCond .eq 24) 3 84 8 := ⟨by decide +kernel, rfl, rfl⟩
theorem d_X8_sew_84 : nD YX8_sew 84 (.iload 4) 2 86 8 := ⟨by decide +kernel, rfl, rfl⟩
theorem d_X8_sew_86 : nD YX8_sew 86 (.ifCond .eq 19) 3 89 8 := ⟨by decide +kernel, rfl, rfl⟩
theorem d_X8_sew_89 : nD YX8_sew 89 (.iload_n 3) 1 90 8 := ⟨by decide +kernel, rfl, rfl⟩
theorem d_X8_sew_90 : nD YX8_sew 90 (.iconst 2) 1 91 8 := ⟨by decide +kernel, rfl, rfl⟩
theorem d_X8_sew_91 : nD YX8_sew 91 (.iload 4) 2 93 8 := ⟨by decide +kernel, rfl, rfl⟩
theorem d_X8_sew_93 : nD YX8_sew 93 (.imul) 1 94 8 := ⟨by decide +kernel, rfl, rfl⟩
theorem d_X8_sew_94 : nD YX8_sew 94 (.if_icmp .gt 11) 3 97 8 := ⟨by decide +kernel, rfl, rfl⟩
theorem d_X8_sew_97 : nD YX8_sew 97 (.iload 4) 2 99 8 := ⟨by decide +kernel, rfl, rfl⟩
theorem d_X8_sew_99 : nD YX8_sew 99 (.iconst 2) 1 100 8 := ⟨by decide +kernel, rfl, rfl⟩
theorem d_X8_sew_100 : nD YX8_sew 100 (.iload_n 3) 1 101 8 := ⟨by decide +kernel, rfl, rfl⟩
theorem d_X8_sew_101 : nD YX8_sew 101 (.imul) 1 102 8 := ⟨by decide +kernel, rfl, rfl⟩
theorem d_X8_sew_102 : nD YX8_sew 102 (.if_icmp .le 5) 3 105 8 := ⟨by decide +kernel, rfl, rfl⟩
theorem d_X8_sew_105 : nD YX8_sew 105 (.iconst (-1)) 1 106 8 := ⟨by decide +kernel, rfl, rfl⟩
theorem d_X8_sew_106 : nD YX8_sew 106 (.ireturn) 1 107 8 := ⟨by decide +kernel, rfl, rfl⟩
theorem d_X8_sew_107 : nD YX8_sew 107 (.iload_n 3) 1 108 8 := ⟨by decide +kernel, rfl, rfl⟩
theorem d_X8_sew_108 : nD YX8_sew 108 (.iload 4) 2 110 8 := ⟨by decide +kernel, rfl, rfl⟩
theorem d_X8_sew_110 : nD YX8_sew 110 (.if_icmp .gt 7) 3 113 8 := ⟨by decide +kernel, rfl, rfl⟩
theorem d_X8_sew_113 : nD YX8_sew 113 (.iload_n 3) 1 114 8 := ⟨by decide +kernel, rfl, rfl⟩
theorem d_X8_sew_114 : nD YX8_sew 114 (.goto 5) 3 117 8 := ⟨by decide +kernel, rfl, rfl⟩
theorem d_X8_sew_117 : nD YX8_sew 117 (.iload 4) 2 119 8 := ⟨by decide +kernel, rfl, rfl⟩
theorem d_X8_sew_119 : nD YX8_sew 119 (.istore 5) 2 121 8 := ⟨by decide +kernel, rfl, rfl⟩
theorem d_X8_sew_121 : nD YX8_sew 121 (.iload_n 3) 1 122 8 := ⟨by decide +kernel, rfl, rfl⟩
theorem d_X8_sew_122 : nD YX8_sew 122 (.iload 4) 2 124 8 := ⟨by decide +kernel, rfl, rfl⟩
theorem d_X8_sew_124 : nD YX8_sew 124 (.if_icmp .gt 8) 3 127 8 := ⟨by decide +kernel, rfl, rfl⟩
theorem d_X8_sew_127 : nD YX8_sew 127 (.iload 4) 2 129 8 := ⟨by decide +kernel, rfl, rfl⟩
theorem d_X8_sew_129 : nD YX8_sew 129 (.goto 4) 3 132 8 := ⟨by decide +kernel, rfl, rfl⟩
theorem d_X8_sew_132 : nD YX8_sew 132 (.iload_n 3) 1 133 8 := ⟨by decide +kernel, rfl, rfl⟩
theorem d_X8_sew_133 : nD YX8_sew 133 (.istore 6) 2 135 8 := ⟨by decide +kernel, rfl, rfl⟩
theorem d_X8_sew_135 : nD YX8_sew 135 (.aload_n 0) 1 136 8 := ⟨by decide +kernel, rfl, rfl⟩
theorem d_X8_sew_136 : nD YX8_sew 136 (.iload 5) 2 138 8 := ⟨by decide +kernel, rfl, rfl⟩
theorem d_X8_sew_138 : nD YX8_sew 138 (.putfield 206) 3 141 8 := ⟨by decide +kernel, rfl, rfl⟩
theorem d_X8_sew_141 : nD YX8_sew 141 (.iconst 0) 1 142 8 := ⟨by decide +kernel, rfl, rfl⟩
theorem d_X8_sew_142 : nD YX8_sew 142 (.istore 7) 2 144 8 := ⟨by decide +kernel, rfl, rfl⟩
theorem d_X8_sew_144 : nD YX8_sew 144 (.iload 7) 2 146 8 := ⟨by decide +kernel, rfl, rfl⟩
theorem d_X8_sew_146 : nD YX8_sew 146 (.iload 5) 2 148 8 := ⟨by decide +kernel, rfl, rfl⟩
theorem d_X8_sew_148 : nD YX8_sew 148 (.if_icmp .ge 35) 3 151 8 := ⟨by decide +kernel, rfl, rfl⟩
theorem d_X8_sew_151 : nD YX8_sew 151 (.aload_n 0) 1 152 8 := ⟨by decide +kernel, rfl, rfl⟩
theorem d_X8_sew_152 : nD YX8_sew 152 (.getfield 78) 3 155 8 := ⟨by decide +kernel, rfl, rfl⟩
theorem d_X8_sew_155 : nD YX8_sew 155 (.iload 7) 2 157 8 := ⟨by decide +kernel, rfl, rfl⟩
theorem d_X8_sew_157 : nD YX8_sew 157 (.iload 7) 2 159 8 := ⟨by decide +kernel, rfl, rfl⟩
theorem d_X8_sew_159 : nD YX8_sew 159 (.iconst 1) 1 160 8 := ⟨by decide +kernel, rfl, rfl⟩
theorem d_X8_sew_160 : nD YX8_sew 160 (.iadd) 1 161 8 := ⟨by decide +kernel, rfl, rfl⟩
theorem d_X8_sew_161 : nD YX8_sew 161 (.iload 6) 2 163 8 := ⟨by decide +kernel, rfl, rfl⟩
theorem d_X8_sew_163 : nD YX8_sew 163 (.imul) 1 164 8 := ⟨by decide +kernel, rfl, rfl⟩
theorem d_X8_sew_164 : nD YX8_sew 164 (.iload 5) 2 166 8 := ⟨by decide +kernel, rfl, rfl⟩
theorem d_X8_sew_166 : nD YX8_sew 166 (.idiv) 1 167 8 := ⟨by decide +kernel, rfl, rfl⟩
theorem d_X8_sew_167 : nD YX8_sew 167 (.iload 7) 2 169 8 := ⟨by decide +kernel, rfl, rfl⟩
theorem d_X8_sew_169 : nD YX8_sew 169 (.iload 6) 2 171 8 := ⟨by decide +kernel, rfl, rfl⟩
theorem d_X8_sew_171 : nD YX8_sew 171 (.imul) 1 172 8 := ⟨by decide +kernel, rfl, rfl⟩
theorem d_X8_sew_172 : nD YX8_sew 172 (.iload 5) 2 174 8 := ⟨by decide +kernel, rfl, rfl⟩
theorem d_X8_sew_174 : nD YX8_sew 174 (.idiv) 1 175 8 := ⟨by decide +kernel, rfl, rfl⟩
theorem d_X8_sew_175 : nD YX8_sew 175 (.isub) 1 176 8 := ⟨by decide +kernel, rfl, rfl⟩
theorem d_X8_sew_176 : nD YX8_sew 176 (.iastore) 1 177 8 := ⟨by decide +kernel, rfl, rfl⟩
theorem d_X8_sew_177 : nD YX8_sew 177 (.iinc 7 1) 3 180 8 := ⟨by decide +kernel, rfl, rfl⟩
theorem d_X8_sew_180 : nD YX8_sew 180 (.goto (-36)) 3 183 8 := ⟨by decide +kernel, rfl, rfl⟩
theorem d_X8_sew_183 : nD YX8_sew 183 (.aload_n 0) 1 184 8 := ⟨by decide +kernel, rfl, rfl⟩
theorem d_X8_sew_184 : nD YX8_sew 184 (.aload_n 0) 1 185 8 := ⟨by decide +kernel, rfl, rfl⟩
theorem d_X8_sew_185 : nD YX8_sew 185 (.getfield 17) 3 188 8 := ⟨by decide +kernel, rfl, rfl⟩
theorem d_X8_sew_188 : nD YX8_sew 188 (.iload_n 1) 1 189 8 := ⟨by decide +kernel, rfl, rfl⟩
theorem d_X8_sew_189 : nD YX8_sew 189 (.iaload) 1 190 8 := ⟨by decide +kernel, rfl, rfl⟩
theorem d_X8_sew_190 : nD YX8_sew 190 (.aload_n 0) 1 191 8 := ⟨by decide +kernel, rfl, rfl⟩
theorem d_X8_sew_191 : nD YX8_sew 191 (.getfield 20) 3 194 8 := ⟨by decide +kernel, rfl, rfl⟩
theorem d_X8_sew_194 : nD YX8_sew 194 (.iload_n 1) 1 195 8 := ⟨by decide +kernel, rfl, rfl⟩
theorem d_X8_sew_195 : nD YX8_sew 195 (.iaload) 1 196 8 := ⟨by decide +kernel, rfl, rfl⟩
theorem d_X8_sew_196 : nD YX8_sew 196 (.invokevirtual 104) 3 199 8 := ⟨by decide +kernel, rfl, rfl⟩
theorem d_X8_sew_199 : nD YX8_sew 199 (.istore 7) 2 201 8 := ⟨by decide +kernel, rfl, rfl⟩
theorem d_X8_sew_201 : nD YX8_sew 201 (.aload_n 0) 1 202 8 := ⟨by decide +kernel, rfl, rfl⟩
theorem d_X8_sew_202 : nD YX8_sew 202 (.getfield 23) 3 205 8 := ⟨by decide +kernel, rfl, rfl⟩
theorem d_X8_sew_205 : nD YX8_sew 205 (.iload 7) 2 207 8 := ⟨by decide +kernel, rfl, rfl⟩
theorem d_X8_sew_207 : nD YX8_sew 207 (.aload_n 0) 1 208 8 := ⟨by decide +kernel, rfl, rfl⟩
theorem d_X8_sew_208 : nD YX8_sew 208 (.getfield 23) 3 211 8 := ⟨by decide +kernel, rfl, rfl⟩
theorem d_X8_sew_211 : nD YX8_sew 211 (.iload_n 1) 1 212 8 := ⟨by decide +kernel, rfl, rfl⟩
theorem d_X8_sew_212 : nD YX8_sew 212 (.iaload) 1 213 8 := ⟨by decide +kernel, rfl, rfl⟩
theorem d_X8_sew_213 : nD YX8_sew 213 (.iastore) 1 214 8 := ⟨by decide +kernel, rfl, rfl⟩
theorem d_X8_sew_214 : nD YX8_sew 214 (.aload_n 0) 1 215 8 := ⟨by decide +kernel, rfl, rfl⟩
theorem d_X8_sew_215 : nD YX8_sew 215 (.getfield 26) 3 218 8 := ⟨by decide +kernel, rfl, rfl⟩
theorem d_X8_sew_218 : nD YX8_sew 218 (.iload 7) 2 220 8 := ⟨by decide +kernel, rfl, rfl⟩
theorem d_X8_sew_220 : nD YX8_sew 220 (.aload_n 0) 1 221 8 := ⟨by decide +kernel, rfl, rfl⟩
theorem d_X8_sew_221 : nD YX8_sew 221 (.getfield 26) 3 224 8 := ⟨by decide +kernel, rfl, rfl⟩
theorem d_X8_sew_224 : nD YX8_sew 224 (.iload_n 1) 1 225 8 := ⟨by decide +kernel, rfl, rfl⟩
theorem d_X8_sew_225 : nD YX8_sew 225 (.iaload) 1 226 8 := ⟨by decide +kernel, rfl, rfl⟩
theorem d_X8_sew_226 : nD YX8_sew 226 (.iastore) 1 227 8 := ⟨by decide +kernel, rfl, rfl⟩
theorem d_X8_sew_227 : nD YX8_sew 227 (.iconst 0) 1 228 8 := ⟨by decide +kernel, rfl, rfl⟩
theorem d_X8_sew_228 : nD YX8_sew 228 (.istore 8) 2 230 8 := ⟨by decide +kernel, rfl, rfl⟩
theorem d_X8_sew_230 : nD YX8_sew 230 (.iload 8) 2 232 8 := ⟨by decide +kernel, rfl, rfl⟩
theorem d_X8_sew_232 : nD YX8_sew 232 (.aload_n 0) 1 233 8 := ⟨by decide +kernel, rfl, rfl⟩
theorem d_X8_sew_233 : nD YX8_sew 233 (.getfield 13) 3 236 8 := ⟨by decide +kernel, rfl, rfl⟩
theorem d_X8_sew_236 : nD YX8_sew 236 (.iload_n 1) 1 237 8 := ⟨by decide +kernel, rfl, rfl⟩
theorem d_X8_sew_237 : nD YX8_sew 237 (.iaload) 1 238 8 := ⟨by decide +kernel, rfl, rfl⟩
theorem d_X8_sew_238 : nD YX8_sew 238 (.if_icmp .ge 20) 3 241 8 := ⟨by decide +kernel, rfl, rfl⟩
theorem d_X8_sew_241 : nD YX8_sew 241 (.aload_n 0) 1 242 8 := ⟨by decide +kernel, rfl, rfl⟩
theorem d_X8_sew_242 : nD YX8_sew 242 (.iload_n 1) 1 243 8 := ⟨by decide +kernel, rfl, rfl⟩
theorem d_X8_sew_243 : nD YX8_sew 243 (.iload 8) 2 245 8 := ⟨by decide +kernel, rfl, rfl⟩
theorem d_X8_sew_245 : nD YX8_sew 245 (.iload 7) 2 247 8 := ⟨by decide +kernel, rfl, rfl⟩
theorem d_X8_sew_247 : nD YX8_sew 247 (.iload 8) 2 249 8 := ⟨by decide +kernel, rfl, rfl⟩
theorem d_X8_sew_249 : nD YX8_sew 249 (.invokevirtual 209) 3 252 8 := ⟨by decide +kernel, rfl, rfl⟩
theorem d_X8_sew_252 : nD YX8_sew 252 (.iinc 8 1) 3 255 8 := ⟨by decide +kernel, rfl, rfl⟩
theorem d_X8_sew_255 : nD YX8_sew 255 (.goto (-25)) 3 258 8 := ⟨by decide +kernel, rfl, rfl⟩
theorem d_X8_sew_258 : nD YX8_sew 258 (.iconst 0) 1 259 8 := ⟨by decide +kernel, rfl, rfl⟩
theorem d_X8_sew_259 : nD YX8_sew 259 (.istore 8) 2 261 8 := ⟨by decide +kernel, rfl, rfl⟩
theorem d_X8_sew_261 : nD YX8_sew 261 (.iload 8) 2 263 8 := ⟨by decide +kernel, rfl, rfl⟩
theorem d_X8_sew_263 : nD YX8_sew 263 (.aload_n 0) 1 264 8 := ⟨by decide +kernel, rfl, rfl⟩
theorem d_X8_sew_264 : nD YX8_sew 264 (.getfield 13) 3 267 8 := ⟨by decide +kernel, rfl, rfl⟩
theorem d_X8_sew_267 : nD YX8_sew 267 (.iload_n 2) 1 268 8 := ⟨by decide +kernel, rfl, rfl⟩
theorem d_X8_sew_268 : nD YX8_sew 268 (.iaload) 1 269 8 := ⟨by decide +kernel, rfl, rfl⟩
theorem d_X8_sew_269 : nD YX8_sew 269 (.if_icmp .ge 27) 3 272 8 := ⟨by decide +kernel, rfl, rfl⟩
theorem d_X8_sew_272 : nD YX8_sew 272 (.aload_n 0) 1 273 8 := ⟨by decide +kernel, rfl, rfl⟩
theorem d_X8_sew_273 : nD YX8_sew 273 (.iload_n 2) 1 274 8 := ⟨by decide +kernel, rfl, rfl⟩
theorem d_X8_sew_274 : nD YX8_sew 274 (.iload 8) 2 276 8 := ⟨by decide +kernel, rfl, rfl⟩
theorem d_X8_sew_276 : nD YX8_sew 276 (.iload 7) 2 278 8 := ⟨by decide +kernel, rfl, rfl⟩
theorem d_X8_sew_278 : nD YX8_sew 278 (.aload_n 0) 1 279 8 := ⟨by decide +kernel, rfl, rfl⟩
theorem d_X8_sew_279 : nD YX8_sew 279 (.getfield 13) 3 282 8 := ⟨by decide +kernel, rfl, rfl⟩
theorem d_X8_sew_282 : nD YX8_sew 282 (.iload_n 1) 1 283 8 := ⟨by decide +kernel, rfl, rfl⟩
theorem d_X8_sew_283 : nD YX8_sew 283 (.iaload) 1 284 8 := ⟨by decide +kernel, rfl, rfl⟩
theorem d_X8_sew_284 : nD YX8_sew 284 (.iload 8) 2 286 8 := ⟨by decide +kernel, rfl, rfl⟩
theorem d_X8_sew_286 : nD YX8_sew 286 (.iadd) 1 287 8 := ⟨by decide +kernel, rfl, rfl⟩
theorem d_X8_sew_287 : nD YX8_sew 287 (.invokevirtual 209) 3 290 8 := ⟨by decide +kernel, rfl, rfl⟩
theorem d_X8_sew_290 : nD YX8_sew 290 (.iinc 8 1) 3 293 8 := ⟨by decide +kernel, rfl, rfl⟩
theorem d_X8_sew_293 : nD YX8_sew 293 (.goto (-32)) 3 296 8 := ⟨by decide +kernel, rfl, rfl⟩
theorem d_X8_sew_296 : nD YX8_sew 296 (.aload_n 0) 1 297 8 := ⟨by decide +kernel, rfl, rfl⟩
theorem d_X8_sew_297 : nD YX8_sew 297 (.getfield 13) 3 300 8 := ⟨by decide +kernel, rfl, rfl⟩
theorem d_X8_sew_300 : nD YX8_sew 300 (.iload 7) 2 302 8 := ⟨by decide +kernel, rfl, rfl⟩
theorem d_X8_sew_302 : nD YX8_sew 302 (.aload_n 0) 1 303 8 := ⟨by decide +kernel, rfl, rfl⟩
theorem d_X8_sew_303 : nD YX8_sew 303 (.getfield 13) 3 306 8 := ⟨by decide +kernel, rfl, rfl⟩
theorem d_X8_sew_306 : nD YX8_sew 306 (.iload_n 1) 1 307 8 := ⟨by decide +kernel, rfl, rfl⟩
theorem d_X8_sew_307 : nD YX8_sew 307 (.iaload) 1 308 8 := ⟨by decide +kernel, rfl, rfl⟩
theorem d_X8_sew_308 : nD YX8_sew 308 (.aload_n 0) 1 309 8 := ⟨by decide +kernel, rfl, rfl⟩
theorem d_X8_sew_309 : nD YX8_sew 309 (.getfield 13) 3 312 8 := ⟨by decide +kernel, rfl, rfl⟩
theorem d_X8_sew_312 : nD YX8_sew 312 (.iload_n 2) 1 313 8 := ⟨by decide +kernel, rfl, rfl⟩
theorem d_X8_sew_313 : nD YX8_sew 313 (.iaload) 1 314 8 := ⟨by decide +kernel, rfl, rfl⟩
theorem d_X8_sew_314 : nD YX8_sew 314 (.iadd) 1 315 8 := ⟨by decide +kernel, rfl, rfl⟩
theorem d_X8_sew_315 : nD YX8_sew 315 (.iastore) 1 316 8 := ⟨by decide +kernel, rfl, rfl⟩
theorem d_X8_sew_316 : nD YX8_sew 316 (.aload_n 0) 1 317 8 := ⟨by decide +kernel, rfl, rfl⟩
theorem d_X8_sew_317 : nD YX8_sew 317 (.getfield 13) 3 320 8 := ⟨by decide +kernel, rfl, rfl⟩
theorem d_X8_sew_320 : nD YX8_sew 320 (.iload_n 1) 1 321 8 := ⟨by decide +kernel, rfl, rfl⟩
theorem d_X8_sew_321 : nD YX8_sew 321 (.iaload) 1 322 8 := ⟨by decide +kernel, rfl, rfl⟩
theorem d_X8_sew_322 : nD YX8_sew 322 (.iconst 1) 1 323 8 := ⟨by decide +kernel, rfl, rfl⟩
theorem d_X8_sew_323 : nD YX8_sew 323 (.isub) 1 324 8 := ⟨by decide +kernel, rfl, rfl⟩
theorem d_X8_sew_324 : nD YX8_sew 324 (.istore 8) 2 326 8 := ⟨by decide +kernel, rfl, rfl⟩
theorem d_X8_sew_326 : nD YX8_sew 326 (.iconst 0) 1 327 8 := ⟨by decide +kernel, rfl, rfl⟩
theorem d_X8_sew_327 : nD YX8_sew 327 (.istore 9) 2 329 8 := ⟨by decide +kernel, rfl, rfl⟩
theorem d_X8_sew_329 : nD YX8_sew 329 (.iconst 0) 1 330 8 := ⟨by decide +kernel, rfl, rfl⟩
theorem d_X8_sew_330 : nD YX8_sew 330 (.istore 10) 2 332 8 := ⟨by decide +kernel, rfl, rfl⟩
theorem d_X8_sew_332 : nD YX8_sew 332 (.iload 10) 2 334 8 := ⟨by decide +kernel, rfl, rfl⟩
theorem d_X8_sew_334 : nD YX8_sew 334 (.iload 5) 2 336 8 := ⟨by decide +kernel, rfl, rfl⟩
theorem d_X8_sew_336 : nD YX8_sew 336 (.if_icmp .ge 102) 3 339 8 := ⟨by decide +kernel, rfl, rfl⟩
theorem d_X8_sew_339 : nD YX8_sew 339 (.iload_n 3) 1 340 8 := ⟨by decide +kernel, rfl, rfl⟩
theorem d_X8_sew_340 : nD YX8_sew 340 (.iload 4) 2 342 8 := ⟨by decide +kernel, rfl, rfl⟩
theorem d_X8_sew_342 : nD YX8_sew 342 (.if_icmp .gt 7) 3 345 8 := ⟨by decide +kernel, rfl, rfl⟩
theorem d_X8_sew_345 : nD YX8_sew 345 (.iconst 1) 1 346 8 := ⟨by decide +kernel, rfl, rfl⟩
theorem d_X8_sew_346 : nD YX8_sew 346 (.goto 10) 3 349 8 := ⟨by decide +kernel, rfl, rfl⟩
theorem d_X8_sew_349 : nD YX8_sew 349 (.aload_n 0) 1 350 8 := ⟨by decide +kernel, rfl, rfl⟩
theorem d_X8_sew_350 : nD YX8_sew 350 (.getfield 78) 3 353 8 := ⟨by decide +kernel, rfl, rfl⟩
theorem d_X8_sew_353 : nD YX8_sew 353 (.iload 10) 2 355 8 := ⟨by decide +kernel, rfl, rfl⟩
theorem d_X8_sew_355 : nD YX8_sew 355 (.iaload) 1 356 8 := ⟨by decide +kernel, rfl, rfl⟩
theorem d_X8_sew_356 : nD YX8_sew 356 (.istore 11) 2 358 8 := ⟨by decide +kernel, rfl, rfl⟩
theorem d_X8_sew_358 : nD YX8_sew 358 (.iconst 0) 1 359 8 := ⟨by decide +kernel, rfl, rfl⟩
theorem d_X8_sew_359 : nD YX8_sew 359 (.istore 12) 2 361 8 := ⟨by decide +kernel, rfl, rfl⟩
theorem d_X8_sew_361 : nD YX8_sew 361 (.iload 12) 2 363 8 := ⟨by decide +kernel, rfl, rfl⟩
theorem d_X8_sew_363 : nD YX8_sew 363 (.iload 11) 2 365 8 := ⟨by decide +kernel, rfl, rfl⟩
theorem d_X8_sew_365 : nD YX8_sew 365 (.if_icmp .ge 67) 3 368 8 := ⟨by decide +kernel, rfl, rfl⟩
theorem d_X8_sew_368 : nD YX8_sew 368 (.aload_n 0) 1 369 8 := ⟨by decide +kernel, rfl, rfl⟩
theorem d_X8_sew_369 : nD YX8_sew 369 (.getfield 39) 3 372 8 := ⟨by decide +kernel, rfl, rfl⟩
theorem d_X8_sew_372 : nD YX8_sew 372 (.iload 7) 2 374 8 := ⟨by decide +kernel, rfl, rfl⟩
theorem d_X8_sew_374 : nD YX8_sew 374 (.iload 8) 2 376 8 := ⟨by decide +kernel, rfl, rfl⟩
theorem d_X8_sew_376 : nD YX8_sew 376 (.iload 9) 2 378 8 := ⟨by decide +kernel, rfl, rfl⟩
theorem d_X8_sew_378 : nD YX8_sew 378 (.invokestatic 99) 3 381 8 := ⟨by decide +kernel, rfl, rfl⟩
theorem d_X8_sew_381 : nD YX8_sew 381 (.iconst 3) 1 382 8 := ⟨by decide +kernel, rfl, rfl⟩
theorem d_X8_sew_382 : nD YX8_sew 382 (.iastore) 1 383 8 := ⟨by decide +kernel, rfl, rfl⟩
theorem d_X8_sew_383 : nD YX8_sew 383 (.aload_n 0) 1 384 8 := ⟨by decide +kernel, rfl, rfl⟩
theorem d_X8_sew_384 : nD YX8_sew 384 (.getfield 42) 3 387 8 := ⟨by decide +kernel, rfl, rfl⟩
theorem d_X8_sew_387 : nD YX8_sew 387 (.iload 7) 2 389 8 := ⟨by decide +kernel, rfl, rfl⟩
theorem d_X8_sew_389 : nD YX8_sew 389 (.iload 8) 2 391 8 := ⟨by decide +kernel, rfl, rfl⟩
theorem d_X8_sew_391 : nD YX8_sew 391 (.iload 9) 2 393 8 := ⟨by decide +kernel, rfl, rfl⟩
theorem d_X8_sew_393 : nD YX8_sew 393 (.invokestatic 99) 3 396 8 := ⟨by decide +kernel, rfl, rfl⟩
theorem d_X8_sew_396 : nD YX8_sew 396 (.iload_n 3) 1 397 8 := ⟨by decide +kernel, rfl, rfl⟩
theorem d_X8_sew_397 : nD YX8_sew 397 (.iload 4) 2 399 8 := ⟨by decide +kernel, rfl, rfl⟩
theorem d_X8_sew_399 : nD YX8_sew 399 (.if_icmp .gt 13) 3 402 8 := ⟨by decide +kernel, rfl, rfl⟩
theorem d_X8_sew_402 : nD YX8_sew 402 (.aload_n 0) 1 403 8 := ⟨by decide +kernel, rfl, rfl⟩
theorem d_X8_sew_403 : nD YX8_sew 403 (.getfield 78) 3 406 8 := ⟨by decide +kernel, rfl, rfl⟩
theorem d_X8_sew_406 : nD YX8_sew 406 (.iload 10) 2 408 8 := ⟨by decide +kernel, rfl, rfl⟩
theorem d_X8_sew_408 : nD YX8_sew 408 (.iaload) 1 409 8 := ⟨by decide +kernel, rfl, rfl⟩
theorem d_X8_sew_409 : nD YX8_sew 409 (.goto 13) 3 412 8 := ⟨by decide +kernel, rfl, rfl⟩
theorem d_X8_sew_412 : nD YX8_sew 412 (.iload 12) 2 414 8 := ⟨by decide +kernel, rfl, rfl⟩
theorem d_X8_sew_414 : nD YX8_sew 414 (.ifCond .ne 7) 3 417 8 := ⟨by decide +kernel, rfl, rfl⟩
theorem d_X8_sew_417 : nD YX8_sew 417 (.iconst 1) 1 418 8 := ⟨by decide +kernel, rfl, rfl⟩
theorem d_X8_sew_418 : nD YX8_sew 418 (.goto 4) 3 421 8 := ⟨by decide +kernel, rfl, rfl⟩
theorem d_X8_sew_421 : nD YX8_sew 421 (.iconst 0) 1 422 8 := ⟨by decide +kernel, rfl, rfl⟩
theorem d_X8_sew_422 : nD YX8_sew 422 (.iastore) 1 423 8 := ⟨by decide +kernel, rfl, rfl⟩
theorem d_X8_sew_423 : nD YX8_sew 423 (.iinc 9 1) 3 426 8 := ⟨by decide +kernel, rfl, rfl⟩
theorem d_X8_sew_426 : nD YX8_sew 426 (.iinc 12 1) 3 429 8 := ⟨by decide +kernel, rfl, rfl⟩
theorem d_X8_sew_429 : nD YX8_sew 429 (.goto (-68)) 3 432 8 := ⟨by decide +kernel, rfl, rfl⟩
theorem d_X8_sew_432 : nD YX8_sew 432 (.iinc 10 1) 3 435 8 := ⟨by decide +kernel, rfl, rfl⟩
theorem d_X8_sew_435 : nD YX8_sew 435 (.goto (-103)) 3 438 8 := ⟨by decide +kernel, rfl, rfl⟩
theorem d_X8_sew_438 : nD YX8_sew 438 (.aload_n 0) 1 439 8 := ⟨by decide +kernel, rfl, rfl⟩
theorem d_X8_sew_439 : nD YX8_sew 439 (.iload 7) 2 441 8 := ⟨by decide +kernel, rfl, rfl⟩
theorem d_X8_sew_441 : nD YX8_sew 441 (.iload 8) 2 443 8 := ⟨by decide +kernel, rfl, rfl⟩
theorem d_X8_sew_443 : nD YX8_sew 443 (.iconst 1) 1 444 8 := ⟨by decide +kernel, rfl, rfl⟩
theorem d_X8_sew_444 : nD YX8_sew 444 (.iadd) 1 445 8 := ⟨by decide +kernel, rfl, rfl⟩
theorem d_X8_sew_445 : nD YX8_sew 445 (.invokevirtual 115) 3 448 8 := ⟨by decide +kernel, rfl, rfl⟩
theorem d_X8_sew_448 : nD YX8_sew 448 (.iload 7) 2 450 8 := ⟨by decide +kernel, rfl, rfl⟩
theorem d_X8_sew_450 : nD YX8_sew 450 (.ireturn) 1 451 8 := ⟨by decide +kernel, rfl, rfl⟩
theorem d_X8_match_0 : nD YX8_match 0 (.iload_n 1) 1 1 8 := ⟨by decide +kernel, rfl, rfl⟩
theorem d_X8_match_1 : nD YX8_match 1 (.ifCond .lt 20) 3 4 8 := ⟨by decide +kernel, rfl, rfl⟩
theorem d_X8_match_4 : nD YX8_match 4 (.iload_n 1) 1 5 8 := ⟨by decide +kernel, rfl, rfl⟩
theorem d_X8_match_5 : nD YX8_match 5 (.aload_n 0) 1 6 8 := ⟨by decide +kernel, rfl, rfl⟩
theorem d_X8_match_6 : nD YX8_match 6 (.getfield 206) 3 9 8 := ⟨by decide +kernel, rfl, rfl⟩
theorem d_X8_match_9 : nD YX8_match 9 (.if_icmp .ge 12) 3 12 8 := ⟨by decide +kernel, rfl, rfl⟩
theorem d_X8_match_12 : nD YX8_match 12 (.aload_n 0) 1 13 8 := ⟨by decide +kernel, rfl, rfl⟩
theorem d_X8_match_13 : nD YX8_match 13 (.getfield 78) 3 16 8 := ⟨by decide +kernel, rfl, rfl⟩
theorem d_X8_match_16 : nD YX8_match 16 (.iload_n 1) 1 17 8 := ⟨by decide +kernel, rfl, rfl⟩
theorem d_X8_match_17 : nD YX8_match 17 (.iaload) 1 18 8 := ⟨by decide +kernel, rfl, rfl⟩
theorem d_X8_match_18 : nD YX8_match 18 (.goto 4) 3 21 8 := ⟨by decide +kernel, rfl, rfl⟩
theorem d_X8_match_21 : nD YX8_match 21 (.iconst (-1)) 1 22 8 := ⟨by decide +kernel, rfl, rfl⟩
theorem d_X8_match_22 : nD YX8_match 22 (.ireturn) 1 23 8 := ⟨by decide +kernel, rfl, rfl⟩
theorem d_X8_hang_0 : nD YX8_hang 0 (.aload_n 0) 1 1 8 := ⟨by decide +kernel, rfl, rfl⟩
theorem d_X8_hang_1 : nD YX8_hang 1 (.iload_n 1) 1 2 8 := ⟨by decide +kernel, rfl, rfl⟩
theorem d_X8_hang_2 : nD YX8_hang 2 (.invokevirtual 91) 3 5 8 := ⟨by decide +kernel, rfl, rfl⟩
theorem d_X8_hang_5 : nD YX8_hang 5 (.ifCond .eq 25) 3 8 8 := ⟨by decide +kernel, rfl, rfl⟩
theorem d_X8_hang_8 : nD YX8_hang 8 (.iload_n 3) 1 9 8 := ⟨by decide +kernel, rfl, rfl⟩
theorem d_X8_hang_9 : nD YX8_hang 9 (.iconst 1) 1 10 8 := ⟨by decide +kernel, rfl, rfl⟩
theorem d_X8_hang_10 : nD YX8_hang 10 (.if_icmp .lt 20) 3 13 8 := ⟨by decide +kernel, rfl, rfl⟩
theorem d_X8_hang_13 : nD YX8_hang 13 (.iload_n 3) 1 14 8 := ⟨by decide +kernel, rfl, rfl⟩
theorem d_X8_hang_14 : nD YX8_hang 14 (.sipush 1000) 3 17 8 := ⟨by decide +kernel, rfl, rfl⟩
theorem d_X8_hang_17 : nD YX8_hang 17 (.if_icmp .gt 13) 3 20 8 := ⟨by decide +kernel, rfl, rfl⟩
theorem d_X8_hang_20 : nD YX8_hang 20 (.iload_n 2) 1 21 8 := ⟨by decide +kernel, rfl, rfl⟩
theorem d_X8_hang_21 : nD YX8_hang 21 (.iconst 1) 1 22 8 := ⟨by decide +kernel, rfl, rfl⟩
theorem d_X8_hang_22 : nD YX8_hang 22 (.if_icmp .lt 8) 3 25 8 := ⟨by decide +kernel, rfl, rfl⟩
theorem d_X8_hang_25 : nD YX8_hang 25 (.iload_n 2) 1 26 8 := ⟨by decide +kernel, rfl, rfl⟩
theorem d_X8_hang_26 : nD YX8_hang 26 (.iload_n 3) 1 27 8 := ⟨by decide +kernel, rfl, rfl⟩
theorem d_X8_hang_27 : nD YX8_hang 27 (.if_icmp .le 5) 3 30 8 := ⟨by decide +kernel, rfl, rfl⟩
theorem d_X8_hang_30 : nD YX8_hang 30 (.iconst 0) 1 31 8 := ⟨by decide +kernel, rfl, rfl⟩
theorem d_X8_hang_31 : nD YX8_hang 31 (.ireturn) 1 32 8 := ⟨by decide +kernel, rfl, rfl⟩
theorem d_X8_hang_32 : nD YX8_hang 32 (.aload_n 0) 1 33 8 := ⟨by decide +kernel, rfl, rfl⟩
theorem d_X8_hang_33 : nD YX8_hang 33 (.getfield 23) 3 36 8 := ⟨by decide +kernel, rfl, rfl⟩
theorem d_X8_hang_36 : nD YX8_hang 36 (.iload_n 1) 1 37 8 := ⟨by decide +kernel, rfl, rfl⟩
theorem d_X8_hang_37 : nD YX8_hang 37 (.iload_n 2) 1 38 8 := ⟨by decide +kernel, rfl, rfl⟩
theorem d_X8_hang_38 : nD YX8_hang 38 (.iastore) 1 39 8 := ⟨by decide +kernel, rfl, rfl⟩
theorem d_X8_hang_39 : nD YX8_hang 39 (.aload_n 0) 1 40 8 := ⟨by decide +kernel, rfl, rfl⟩
theorem d_X8_hang_40 : nD YX8_hang 40 (.getfield 26) 3 43 8 := ⟨by decide +kernel, rfl, rfl⟩
theorem d_X8_hang_43 : nD YX8_hang 43 (.iload_n 1) 1 44 8 := ⟨by decide +kernel, rfl, rfl⟩
theorem d_X8_hang_44 : nD YX8_hang 44 (.iload_n 3) 1 45 8 := ⟨by decide +kernel, rfl, rfl⟩
theorem d_X8_hang_45 : nD YX8_hang 45 (.iastore) 1 46 8 := ⟨by decide +kernel, rfl, rfl⟩
theorem d_X8_hang_46 : nD YX8_hang 46 (.iconst 1) 1 47 8 := ⟨by decide +kernel, rfl, rfl⟩
theorem d_X8_hang_47 : nD YX8_hang 47 (.ireturn) 1 48 8 := ⟨by decide +kernel, rfl, rfl⟩
theorem d_X8_parts_0 : nD YX8_parts 0 (.iload_n 1) 1 1 8 := ⟨by decide +kernel, rfl, rfl⟩
theorem d_X8_parts_1 : nD YX8_parts 1 (.iconst (-1)) 1 2 8 := ⟨by decide +kernel, rfl, rfl⟩
theorem d_X8_parts_2 : nD YX8_parts 2 (.if_icmp .lt 9) 3 5 8 := ⟨by decide +kernel, rfl, rfl⟩
theorem d_X8_parts_5 : nD YX8_parts 5 (.iload_n 1) 1 6 8 := ⟨by decide +kernel, rfl, rfl⟩
theorem d_X8_parts_6 : nD YX8_parts 6 (.bipush 101) 2 8 8 := ⟨by decide +kernel, rfl, rfl⟩
theorem d_X8_parts_8 : nD YX8_parts 8 (.if_icmp .le 5) 3 11 8 := ⟨by decide +kernel, rfl, rfl⟩
theorem d_X8_parts_11 : nD YX8_parts 11 (.iconst 0) 1 12 8 := ⟨by decide +kernel, rfl, rfl⟩
theorem d_X8_parts_12 : nD YX8_parts 12 (.ireturn) 1 13 8 := ⟨by decide +kernel, rfl, rfl⟩
theorem d_X8_parts_13 : nD YX8_parts 13 (.aload_n 0) 1 14 8 := ⟨by decide +kernel, rfl, rfl⟩
theorem d_X8_parts_14 : nD YX8_parts 14 (.iload_n 1) 1 15 8 := ⟨by decide +kernel, rfl, rfl⟩
theorem d_X8_parts_15 : nD YX8_parts 15 (.putfield 85) 3 18 8 := ⟨by decide +kernel, rfl, rfl⟩
theorem d_X8_parts_18 : nD YX8_parts 18 (.iconst 0) 1 19 8 := ⟨by decide +kernel, rfl, rfl⟩
theorem d_X8_parts_19 : nD YX8_parts 19 (.istore_n 2) 1 20 8 := ⟨by decide +kernel, rfl, rfl⟩
theorem d_X8_parts_20 : nD YX8_parts 20 (.iload_n 2) 1 21 8 := ⟨by decide +kernel, rfl, rfl⟩
theorem d_X8_parts_21 : nD YX8_parts 21 (.bipush 101) 2 23 8 := ⟨by decide +kernel, rfl, rfl⟩
theorem d_X8_parts_23 : nD YX8_parts 23 (.if_icmp .ge 16) 3 26 8 := ⟨by decide +kernel, rfl, rfl⟩
theorem d_X8_parts_26 : nD YX8_parts 26 (.aload_n 0) 1 27 8 := ⟨by decide +kernel, rfl, rfl⟩
theorem d_X8_parts_27 : nD YX8_parts 27 (.getfield 57) 3 30 8 := ⟨by decide +kernel, rfl, rfl⟩
theorem d_X8_parts_30 : nD YX8_parts 30 (.iload_n 2) 1 31 8 := ⟨by decide +kernel, rfl, rfl⟩
theorem d_X8_parts_31 : nD YX8_parts 31 (.iconst 0) 1 32 8 := ⟨by decide +kernel, rfl, rfl⟩
theorem d_X8_parts_32 : nD YX8_parts 32 (.iastore) 1 33 8 := ⟨by decide +kernel, rfl, rfl⟩
theorem d_X8_parts_33 : nD YX8_parts 33 (.iinc 2 1) 3 36 8 := ⟨by decide +kernel, rfl, rfl⟩
theorem d_X8_parts_36 : nD YX8_parts 36 (.goto (-16)) 3 39 8 := ⟨by decide +kernel, rfl, rfl⟩
theorem d_X8_parts_39 : nD YX8_parts 39 (.iconst 1) 1 40 8 := ⟨by decide +kernel, rfl, rfl⟩
theorem d_X8_parts_40 : nD YX8_parts 40 (.ireturn) 1 41 8 := ⟨by decide +kernel, rfl, rfl⟩
theorem d_X8_part_0 : nD YX8_part 0 (.iload_n 1) 1 1 8 := ⟨by decide +kernel, rfl, rfl⟩
theorem d_X8_part_1 : nD YX8_part 1 (.ifCond .lt 21) 3 4 8 := ⟨by decide +kernel, rfl, rfl⟩
theorem d_X8_part_4 : nD YX8_part 4 (.iload_n 1) 1 5 8 := ⟨by decide +kernel, rfl, rfl⟩
theorem d_X8_part_5 : nD YX8_part 5 (.aload_n 0) 1 6 8 := ⟨by decide +kernel, rfl, rfl⟩
theorem d_X8_part_6 : nD YX8_part 6 (.getfield 85) 3 9 8 := ⟨by decide +kernel, rfl, rfl⟩
theorem d_X8_part_9 : nD YX8_part 9 (.if_icmp .ge 13) 3 12 8 := ⟨by decide +kernel, rfl, rfl⟩
theorem d_X8_part_12 : nD YX8_part 12 (.iload_n 2) 1 13 8 := ⟨by decide +kernel, rfl, rfl⟩
theorem d_X8_part_13 : nD YX8_part 13 (.ifCond .lt 9) 3 16 8 := ⟨by decide +kernel, rfl, rfl⟩
theorem d_X8_part_16 : nD YX8_part 16 (.iload_n 2) 1 17 8 := ⟨by decide +kernel, rfl, rfl⟩
theorem d_X8_part_17 : nD YX8_part 17 (.bipush 100) 2 19 8 := ⟨by decide +kernel, rfl, rfl⟩
theorem d_X8_part_19 : nD YX8_part 19 (.if_icmp .le 5) 3 22 8 := ⟨by decide +kernel, rfl, rfl⟩
theorem d_X8_part_22 : nD YX8_part 22 (.iconst 0) 1 23 8 := ⟨by decide +kernel, rfl, rfl⟩
theorem d_X8_part_23 : nD YX8_part 23 (.ireturn) 1 24 8 := ⟨by decide +kernel, rfl, rfl⟩
theorem d_X8_part_24 : nD YX8_part 24 (.aload_n 0) 1 25 8 := ⟨by decide +kernel, rfl, rfl⟩
theorem d_X8_part_25 : nD YX8_part 25 (.getfield 57) 3 28 8 := ⟨by decide +kernel, rfl, rfl⟩
theorem d_X8_part_28 : nD YX8_part 28 (.iload_n 1) 1 29 8 := ⟨by decide +kernel, rfl, rfl⟩
theorem d_X8_part_29 : nD YX8_part 29 (.iload_n 2) 1 30 8 := ⟨by decide +kernel, rfl, rfl⟩
theorem d_X8_part_30 : nD YX8_part 30 (.iastore) 1 31 8 := ⟨by decide +kernel, rfl, rfl⟩
theorem d_X8_part_31 : nD YX8_part 31 (.iconst 1) 1 32 8 := ⟨by decide +kernel, rfl, rfl⟩
theorem d_X8_part_32 : nD YX8_part 32 (.ireturn) 1 33 8 := ⟨by decide +kernel, rfl, rfl⟩
theorem d_X8_open_0 : nD YX8_open 0 (.aload_n 0) 1 1 8 := ⟨by decide +kernel, rfl, rfl⟩
theorem d_X8_open_1 : nD YX8_open 1 (.iload_n 1) 1 2 8 := ⟨by decide +kernel, rfl, rfl⟩
theorem d_X8_open_2 : nD YX8_open 2 (.invokevirtual 91) 3 5 8 := ⟨by decide +kernel, rfl, rfl⟩
theorem d_X8_open_5 : nD YX8_open 5 (.ifCond .ne 5) 3 8 8 := ⟨by decide +kernel, rfl, rfl⟩
theorem d_X8_open_8 : nD YX8_open 8 (.iconst (-1)) 1 9 8 := ⟨by decide +kernel, rfl, rfl⟩
theorem d_X8_open_9 : nD YX8_open 9 (.ireturn) 1 10 8 := ⟨by decide +kernel, rfl, rfl⟩
theorem d_X8_open_10 : nD YX8_open 10 (.bipush 100) 2 12 8 := ⟨by decide +kernel, rfl, rfl⟩
theorem d_X8_open_12 : nD YX8_open 12 (.aload_n 0) 1 13 8 := ⟨by decide +kernel, rfl, rfl⟩
theorem d_X8_open_13 : nD YX8_open 13 (.getfield 23) 3 16 8 := ⟨by decide +kernel, rfl, rfl⟩
theorem d_X8_open_16 : nD YX8_open 16 (.iload_n 1) 1 17 8 := ⟨by decide +kernel, rfl, rfl⟩
theorem d_X8_open_17 : nD YX8_open 17 (.iaload) 1 18 8 := ⟨by decide +kernel, rfl, rfl⟩
theorem d_X8_open_18 : nD YX8_open 18 (.imul) 1 19 8 := ⟨by decide +kernel, rfl, rfl⟩
theorem d_X8_open_19 : nD YX8_open 19 (.aload_n 0) 1 20 8 := ⟨by decide +kernel, rfl, rfl⟩
theorem d_X8_open_20 : nD YX8_open 20 (.getfield 26) 3 23 8 := ⟨by decide +kernel, rfl, rfl⟩
theorem d_X8_open_23 : nD YX8_open 23 (.iload_n 1) 1 24 8 := ⟨by decide +kernel, rfl, rfl⟩
theorem d_X8_open_24 : nD YX8_open 24 (.iaload) 1 25 8 := ⟨by decide +kernel, rfl, rfl⟩
theorem d_X8_open_25 : nD YX8_open 25 (.idiv) 1 26 8 := ⟨by decide +kernel, rfl, rfl⟩
theorem d_X8_open_26 : nD YX8_open 26 (.istore_n 2) 1 27 8 := ⟨by decide +kernel, rfl, rfl⟩
theorem d_X8_open_27 : nD YX8_open 27 (.iload_n 2) 1 28 8 := ⟨by decide +kernel, rfl, rfl⟩
theorem d_X8_open_28 : nD YX8_open 28 (.aload_n 0) 1 29 8 := ⟨by decide +kernel, rfl, rfl⟩
theorem d_X8_open_29 : nD YX8_open 29 (.getfield 85) 3 32 8 := ⟨by decide +kernel, rfl, rfl⟩
theorem d_X8_open_32 : nD YX8_open 32 (.if_icmp .ge 12) 3 35 8 := ⟨by decide +kernel, rfl, rfl⟩
theorem d_X8_open_35 : nD YX8_open 35 (.aload_n 0) 1 36 8 := ⟨by decide +kernel, rfl, rfl⟩
theorem d_X8_open_36 : nD YX8_open 36 (.getfield 57) 3 39 8 := ⟨by decide +kernel, rfl, rfl⟩
theorem d_X8_open_39 : nD YX8_open 39 (.iload_n 2) 1 40 8 := ⟨by decide +kernel, rfl, rfl⟩
theorem d_X8_open_40 : nD YX8_open 40 (.iaload) 1 41 8 := ⟨by decide +kernel, rfl, rfl⟩
theorem d_X8_open_41 : nD YX8_open 41 (.goto 5) 3 44 8 := ⟨by decide +kernel, rfl, rfl⟩
theorem d_X8_open_44 : nD YX8_open 44 (.bipush (-2)) 2 46 8 := ⟨by decide +kernel, rfl, rfl⟩
theorem d_X8_open_46 : nD YX8_open 46 (.ireturn) 1 47 8 := ⟨by decide +kernel, rfl, rfl⟩
theorem d_X8_slips_0 : nD YX8_slips 0 (.aload_n 0) 1 1 8 := ⟨by decide +kernel, rfl, rfl⟩
theorem d_X8_slips_1 : nD YX8_slips 1 (.iload_n 1) 1 2 8 := ⟨by decide +kernel, rfl, rfl⟩
theorem d_X8_slips_2 : nD YX8_slips 2 (.invokevirtual 91) 3 5 8 := ⟨by decide +kernel, rfl, rfl⟩
theorem d_X8_slips_5 : nD YX8_slips 5 (.ifCond .eq 13) 3 8 8 := ⟨by decide +kernel, rfl, rfl⟩
theorem d_X8_slips_8 : nD YX8_slips 8 (.iload_n 2) 1 9 8 := ⟨by decide +kernel, rfl, rfl⟩
theorem d_X8_slips_9 : nD YX8_slips 9 (.ifCond .lt 9) 3 12 8 := ⟨by decide +kernel, rfl, rfl⟩
theorem d_X8_slips_12 : nD YX8_slips 12 (.iload_n 2) 1 13 8 := ⟨by decide +kernel, rfl, rfl⟩
theorem d_X8_slips_13 : nD YX8_slips 13 (.ldc 103) 2 15 8 := ⟨by decide +kernel, rfl, rfl⟩
theorem d_X8_slips_15 : nD YX8_slips 15 (.if_icmp .le 5) 3 18 8 := ⟨by decide +kernel, rfl, rfl⟩
theorem d_X8_slips_18 : nD YX8_slips 18 (.iconst (-1)) 1 19 8 := ⟨by decide +kernel, rfl, rfl⟩
theorem d_X8_slips_19 : nD YX8_slips 19 (.ireturn) 1 20 8 := ⟨by decide +kernel, rfl, rfl⟩
theorem d_X8_slips_20 : nD YX8_slips 20 (.aload_n 0) 1 21 8 := ⟨by decide +kernel, rfl, rfl⟩
theorem d_X8_slips_21 : nD YX8_slips 21 (.iload_n 1) 1 22 8 := ⟨by decide +kernel, rfl, rfl⟩
theorem d_X8_slips_22 : nD YX8_slips 22 (.invokevirtual 213) 3 25 8 := ⟨by decide +kernel, rfl, rfl⟩
theorem d_X8_slips_25 : nD YX8_slips 25 (.istore_n 3) 1 26 8 := ⟨by decide +kernel, rfl, rfl⟩
theorem d_X8_slips_26 : nD YX8_slips 26 (.iload_n 3) 1 27 8 := ⟨by decide +kernel, rfl, rfl⟩
theorem d_X8_slips_27 : nD YX8_slips 27 (.ifCond .ge 5) 3 30 8 := ⟨by decide +kernel, rfl, rfl⟩
theorem d_X8_slips_30 : nD YX8_slips 30 (.iload_n 3) 1 31 8 := ⟨by decide +kernel, rfl, rfl⟩
theorem d_X8_slips_31 : nD YX8_slips 31 (.ireturn) 1 32 8 := ⟨by decide +kernel, rfl, rfl⟩
theorem d_X8_slips_32 : nD YX8_slips 32 (.bipush 100) 2 34 8 := ⟨by decide +kernel, rfl, rfl⟩
theorem d_X8_slips_34 : nD YX8_slips 34 (.iload_n 2) 1 35 8 := ⟨by decide +kernel, rfl, rfl⟩
theorem d_X8_slips_35 : nD YX8_slips 35 (.imul) 1 36 8 := ⟨by decide +kernel, rfl, rfl⟩
theorem d_X8_slips_36 : nD YX8_slips 36 (.iconst 4) 1 37 8 := ⟨by decide +kernel, rfl, rfl⟩
theorem d_X8_slips_37 : nD YX8_slips 37 (.aload_n 0) 1 38 8 := ⟨by decide +kernel, rfl, rfl⟩
theorem d_X8_slips_38 : nD YX8_slips 38 (.getfield 17) 3 41 8 := ⟨by decide +kernel, rfl, rfl⟩
theorem d_X8_slips_41 : nD YX8_slips 41 (.iload_n 1) 1 42 8 := ⟨by decide +kernel, rfl, rfl⟩
theorem d_X8_slips_42 : nD YX8_slips 42 (.iaload) 1 43 8 := ⟨by decide +kernel, rfl, rfl⟩
theorem d_X8_slips_43 : nD YX8_slips 43 (.imul) 1 44 8 := ⟨by decide +kernel, rfl, rfl⟩
theorem d_X8_slips_44 : nD YX8_slips 44 (.iload_n 3) 1 45 8 := ⟨by decide +kernel, rfl, rfl⟩
theorem d_X8_slips_45 : nD YX8_slips 45 (.imul) 1 46 8 := ⟨by decide +kernel, rfl, rfl⟩
theorem d_X8_slips_46 : nD YX8_slips 46 (.if_icmp .ge 7) 3 49 8 := ⟨by decide +kernel, rfl, rfl⟩
theorem d_X8_slips_49 : nD YX8_slips 49 (.iconst 1) 1 50 8 := ⟨by decide +kernel, rfl, rfl⟩
theorem d_X8_slips_50 : nD YX8_slips 50 (.goto 4) 3 53 8 := ⟨by decide +kernel, rfl, rfl⟩
theorem d_X8_slips_53 : nD YX8_slips 53 (.iconst 0) 1 54 8 := ⟨by decide +kernel, rfl, rfl⟩
theorem d_X8_slips_54 : nD YX8_slips 54 (.ireturn) 1 55 8 := ⟨by decide +kernel, rfl, rfl⟩
theorem d_X8_sixth_0 : nD YX8_sixth 0 (.lconst 1) 1 1 8 := ⟨by decide +kernel, rfl, rfl⟩
theorem d_X8_sixth_1 : nD YX8_sixth 1 (.lstore_n 1) 1 2 8 := ⟨by decide +kernel, rfl, rfl⟩
theorem d_X8_sixth_2 : nD YX8_sixth 2 (.iconst 0) 1 3 8 := ⟨by decide +kernel, rfl, rfl⟩
theorem d_X8_sixth_3 : nD YX8_sixth 3 (.istore_n 3) 1 4 8 := ⟨by decide +kernel, rfl, rfl⟩
theorem d_X8_sixth_4 : nD YX8_sixth 4 (.iload_n 3) 1 5 8 := ⟨by decide +kernel, rfl, rfl⟩
theorem d_X8_sixth_5 : nD YX8_sixth 5 (.iload_n 0) 1 6 8 := ⟨by decide +kernel, rfl, rfl⟩
theorem d_X8_sixth_6 : nD YX8_sixth 6 (.if_icmp .ge 15) 3 9 8 := ⟨by decide +kernel, rfl, rfl⟩
theorem d_X8_sixth_9 : nD YX8_sixth 9 (.lload_n 1) 1 10 8 := ⟨by decide +kernel, rfl, rfl⟩
theorem d_X8_sixth_10 : nD YX8_sixth 10 (.ldc2_w 216) 3 13 8 := ⟨by decide +kernel, rfl, rfl⟩
theorem d_X8_sixth_13 : nD YX8_sixth 13 (.lmul) 1 14 8 := ⟨by decide +kernel, rfl, rfl⟩
theorem d_X8_sixth_14 : nD YX8_sixth 14 (.lstore_n 1) 1 15 8 := ⟨by decide +kernel, rfl, rfl⟩
theorem d_X8_sixth_15 : nD YX8_sixth 15 (.iinc 3 1) 3 18 8 := ⟨by decide +kernel, rfl, rfl⟩
theorem d_X8_sixth_18 : nD YX8_sixth 18 (.goto (-14)) 3 21 8 := ⟨by decide +kernel, rfl, rfl⟩
theorem d_X8_sixth_21 : nD YX8_sixth 21 (.lload_n 1) 1 22 8 := ⟨by decide +kernel, rfl, rfl⟩
theorem d_X8_sixth_22 : nD YX8_sixth 22 (.lreturn) 1 23 8 := ⟨by decide +kernel, rfl, rfl⟩
theorem d_X8_leads_0 : nD YX8_leads 0 (.iconst 0) 1 1 8 := ⟨by decide +kernel, rfl, rfl⟩
theorem d_X8_leads_1 : nD YX8_leads 1 (.istore_n 2) 1 2 8 := ⟨by decide +kernel, rfl, rfl⟩
theorem d_X8_leads_2 : nD YX8_leads 2 (.iload_n 2) 1 3 8 := ⟨by decide +kernel, rfl, rfl⟩
theorem d_X8_leads_3 : nD YX8_leads 3 (.sipush 480) 3 6 8 := ⟨by decide +kernel, rfl, rfl⟩
theorem d_X8_leads_6 : nD YX8_leads 6 (.if_icmp .ge 16) 3 9 8 := ⟨by decide +kernel, rfl, rfl⟩
theorem d_X8_leads_9 : nD YX8_leads 9 (.aload_n 0) 1 10 8 := ⟨by decide +kernel, rfl, rfl⟩
theorem d_X8_leads_10 : nD YX8_leads 10 (.getfield 81) 3 13 8 := ⟨by decide +kernel, rfl, rfl⟩
theorem d_X8_leads_13 : nD YX8_leads 13 (.iload_n 2) 1 14 8 := ⟨by decide +kernel, rfl, rfl⟩
theorem d_X8_leads_14 : nD YX8_leads 14 (.lconst 0) 1 15 8 := ⟨by decide +kernel, rfl, rfl⟩
theorem d_X8_leads_15 : nD YX8_leads 15 (.lastore) 1 16 8 := ⟨by decide +kernel, rfl, rfl⟩
theorem d_X8_leads_16 : nD YX8_leads 16 (.iinc 2 1) 3 19 8 := ⟨by decide +kernel, rfl, rfl⟩
theorem d_X8_leads_19 : nD YX8_leads 19 (.goto (-17)) 3 22 8 := ⟨by decide +kernel, rfl, rfl⟩
theorem d_X8_leads_22 : nD YX8_leads 22 (.aload_n 0) 1 23 8 := ⟨by decide +kernel, rfl, rfl⟩
theorem d_X8_leads_23 : nD YX8_leads 23 (.lconst 0) 1 24 8 := ⟨by decide +kernel, rfl, rfl⟩
theorem d_X8_leads_24 : nD YX8_leads 24 (.putfield 218) 3 27 8 := ⟨by decide +kernel, rfl, rfl⟩
theorem d_X8_leads_27 : nD YX8_leads 27 (.aload_n 0) 1 28 8 := ⟨by decide +kernel, rfl, rfl⟩
theorem d_X8_leads_28 : nD YX8_leads 28 (.lconst 0) 1 29 8 := ⟨by decide +kernel, rfl, rfl⟩
theorem d_X8_leads_29 : nD YX8_leads 29 (.putfield 222) 3 32 8 := ⟨by decide +kernel, rfl, rfl⟩
theorem d_X8_leads_32 : nD YX8_leads 32 (.iconst 0) 1 33 8 := ⟨by decide +kernel, rfl, rfl⟩
theorem d_X8_leads_33 : nD YX8_leads 33 (.istore_n 2) 1 34 8 := ⟨by decide +kernel, rfl, rfl⟩
theorem d_X8_leads_34 : nD YX8_leads 34 (.iload_n 2) 1 35 8 := ⟨by decide +kernel, rfl, rfl⟩
theorem d_X8_leads_35 : nD YX8_leads 35 (.aload_n 0) 1 36 8 := ⟨by decide +kernel, rfl, rfl⟩
theorem d_X8_leads_36 : nD YX8_leads 36 (.getfield 32) 3 39 8 := ⟨by decide +kernel, rfl, rfl⟩
theorem d_X8_leads_39 : nD YX8_leads 39 (.bipush 20) 2 41 8 := ⟨by decide +kernel, rfl, rfl⟩
theorem d_X8_leads_41 : nD YX8_leads 41 (.iload_n 1) 1 42 8 := ⟨by decide +kernel, rfl, rfl⟩
theorem d_X8_leads_42 : nD YX8_leads 42 (.imul) 1 43 8 := ⟨by decide +kernel, rfl, rfl⟩
theorem d_X8_leads_43 : nD YX8_leads 43 (.iaload) 1 44 8 := ⟨by decide +kernel, rfl, rfl⟩
theorem d_X8_leads_44 : nD YX8_leads 44 (.if_icmp .ge 27) 3 47 8 := ⟨by decide +kernel, rfl, rfl⟩
theorem d_X8_leads_47 : nD YX8_leads 47 (.aload_n 0) 1 48 8 := ⟨by decide +kernel, rfl, rfl⟩
theorem d_X8_leads_48 : nD YX8_leads 48 (.getfield 81) 3 51 8 := ⟨by decide +kernel, rfl, rfl⟩
theorem d_X8_leads_51 : nD YX8_leads 51 (.iload_n 2) 1 52 8 := ⟨by decide +kernel, rfl, rfl⟩
theorem d_X8_leads_52 : nD YX8_leads 52 (.aload_n 0) 1 53 8 := ⟨by decide +kernel, rfl, rfl⟩
theorem d_X8_leads_53 : nD YX8_leads 53 (.getfield 29) 3 56 8 := ⟨by decide +kernel, rfl, rfl⟩
theorem d_X8_leads_56 : nD YX8_leads 56 (.bipush 24) 2 58 8 := ⟨by decide +kernel, rfl, rfl⟩
theorem d_X8_leads_58 : nD YX8_leads 58 (.iload_n 1) 1 59 8 := ⟨by decide +kernel, rfl, rfl⟩
theorem d_X8_leads_59 : nD YX8_leads 59 (.imul) 1 60 8 := ⟨by decide +kernel, rfl, rfl⟩
theorem d_X8_leads_60 : nD YX8_leads 60 (.iload_n 2) 1 61 8 := ⟨by decide +kernel, rfl, rfl⟩
theorem d_X8_leads_61 : nD YX8_leads 61 (.iadd) 1 62 8 := ⟨by decide +kernel, rfl, rfl⟩
theorem d_X8_leads_62 : nD YX8_leads 62 (.iaload) 1 63 8 := ⟨by decide +kernel, rfl, rfl⟩
theorem d_X8_leads_63 : nD YX8_leads 63 (.i2l) 1 64 8 := ⟨by decide +kernel, rfl, rfl⟩
theorem d_X8_leads_64 : nD YX8_leads 64 (.lastore) 1 65 8 := ⟨by decide +kernel, rfl, rfl⟩
theorem d_X8_leads_65 : nD YX8_leads 65 (.iinc 2 1) 3 68 8 := ⟨by decide +kernel, rfl, rfl⟩
theorem d_X8_leads_68 : nD YX8_leads 68 (.goto (-34)) 3 71 8 := ⟨by decide +kernel, rfl, rfl⟩
theorem d_X8_leads_71 : nD YX8_leads 71 (.iconst 0) 1 72 8 := ⟨by decide +kernel, rfl, rfl⟩
theorem d_X8_leads_72 : nD YX8_leads 72 (.istore_n 2) 1 73 8 := ⟨by decide +kernel, rfl, rfl⟩
theorem d_X8_leads_73 : nD YX8_leads 73 (.iload_n 2) 1 74 8 := ⟨by decide +kernel, rfl, rfl⟩
theorem d_X8_leads_74 : nD YX8_leads 74 (.aload_n 0) 1 75 8 := ⟨by decide +kernel, rfl, rfl⟩
theorem d_X8_leads_75 : nD YX8_leads 75 (.getfield 13) 3 78 8 := ⟨by decide +kernel, rfl, rfl⟩
theorem d_X8_leads_78 : nD YX8_leads 78 (.iload_n 1) 1 79 8 := ⟨by decide +kernel, rfl, rfl⟩
theorem d_X8_leads_79 : nD YX8_leads 79 (.iaload) 1 80 8 := ⟨by decide +kernel, rfl, rfl⟩
theorem d_X8_leads_80 : nD YX8_leads 80 (.if_icmp .ge 188) 3 83 8 := ⟨by decide +kernel, rfl, rfl⟩
theorem d_X8_leads_83 : nD YX8_leads 83 (.bipush 19) 2 85 8 := ⟨by decide +kernel, rfl, rfl⟩
theorem d_X8_leads_85 : nD YX8_leads 85 (.iload_n 2) 1 86 8 := ⟨by decide +kernel, rfl, rfl⟩
theorem d_X8_leads_86 : nD YX8_leads 86 (.isub) 1 87 8 := ⟨by decide +kernel, rfl, rfl⟩
theorem d_X8_leads_87 : nD YX8_leads 87 (.invokestatic 225) 3 90 8 := ⟨by decide +kernel, rfl, rfl⟩
theorem d_X8_leads_90 : nD YX8_leads 90 (.lstore_n 3) 1 91 8 := ⟨by decide +kernel, rfl, rfl⟩
theorem d_X8_leads_91 : nD YX8_leads 91 (.iconst 0) 1 92 8 := ⟨by decide +kernel, rfl, rfl⟩
theorem d_X8_leads_92 : nD YX8_leads 92 (.istore 5) 2 94 8 := ⟨by decide +kernel, rfl, rfl⟩
theorem d_X8_leads_94 : nD YX8_leads 94 (.iload 5) 2 96 8 := ⟨by decide +kernel, rfl, rfl⟩
theorem d_X8_leads_96 : nD YX8_leads 96 (.aload_n 0) 1 97 8 := ⟨by decide +kernel, rfl, rfl⟩
theorem d_X8_leads_97 : nD YX8_leads 97 (.getfield 32) 3 100 8 := ⟨by decide +kernel, rfl, rfl⟩
theorem d_X8_leads_100 : nD YX8_leads 100 (.bipush 20) 2 102 8 := ⟨by decide +kernel, rfl, rfl⟩
theorem d_X8_leads_102 : nD YX8_leads 102 (.iload_n 1) 1 103 8 := ⟨by decide +kernel, rfl, rfl⟩
theorem d_X8_leads_103 : nD YX8_leads 103 (.imul) 1 104 8 := ⟨by decide +kernel, rfl, rfl⟩
theorem d_X8_leads_104 : nD YX8_leads 104 (.iload_n 2) 1 105 8 := ⟨by decide +kernel, rfl, rfl⟩
theorem d_X8_leads_105 : nD YX8_leads 105 (.iadd) 1 106 8 := ⟨by decide +kernel, rfl, rfl⟩
theorem d_X8_leads_106 : nD YX8_leads 106 (.iaload) 1 107 8 := ⟨by decide +kernel, rfl, rfl⟩
theorem d_X8_leads_107 : nD YX8_leads 107 (.if_icmp .ge 155) 3 110 8 := ⟨by decide +kernel, rfl, rfl⟩
theorem d_X8_leads_110 : nD YX8_leads 110 (.aload_n 0) 1 111 8 := ⟨by decide +kernel, rfl, rfl⟩
theorem d_X8_leads_111 : nD YX8_leads 111 (.getfield 81) 3 114 8 := ⟨by decide +kernel, rfl, rfl⟩
theorem d_X8_leads_114 : nD YX8_leads 114 (.bipush 24) 2 116 8 := ⟨by decide +kernel, rfl, rfl⟩
theorem d_X8_leads_116 : nD YX8_leads 116 (.iload_n 2) 1 117 8 := ⟨by decide +kernel, rfl, rfl⟩
theorem d_X8_leads_117 : nD YX8_leads 117 (.imul) 1 118 8 := ⟨by decide +kernel, rfl, rfl⟩
theorem d_X8_leads_118 : nD YX8_leads 118 (.iload 5) 2 120 8 := ⟨by decide +kernel, rfl, rfl⟩
theorem d_X8_leads_120 : nD YX8_leads 120 (.iadd) 1 121 8 := ⟨by decide +kernel, rfl, rfl⟩
theorem d_X8_leads_121 : nD YX8_leads 121 (.laload) 1 122 8 := ⟨by decide +kernel, rfl, rfl⟩
theorem d_X8_leads_122 : nD YX8_leads 122 (.lstore 6) 2 124 8 := ⟨by decide +kernel, rfl, rfl⟩
theorem d_X8_leads_124 : nD YX8_leads 124 (.iload_n 2) 1 125 8 := ⟨by decide +kernel, rfl, rfl⟩
theorem d_X8_leads_125 : nD YX8_leads 125 (.iconst 1) 1 126 8 := ⟨by decide +kernel, rfl, rfl⟩
theorem d_X8_leads_126 : nD YX8_leads 126 (.iadd) 1 127 8 := ⟨by decide +kernel, rfl, rfl⟩
theorem d_X8_leads_127 : nD YX8_leads 127 (.aload_n 0) 1 128 8 := ⟨by decide +kernel, rfl, rfl⟩
theorem d_X8_leads_128 : nD YX8_leads 128 (.getfield 13) 3 131 8 := ⟨by decide +kernel, rfl, rfl⟩
theorem d_X8_leads_131 : nD YX8_leads 131 (.iload_n 1) 1 132 8 := ⟨by decide +kernel, rfl, rfl⟩
theorem d_X8_leads_132 : nD YX8_leads 132 (.iaload) 1 133 8 := ⟨by decide +kernel, rfl, rfl⟩
theorem d_X8_leads_133 : nD YX8_leads 133 (.if_icmp .ne 19) 3 136 8 := ⟨by decide +kernel, rfl, rfl⟩
theorem d_X8_leads_136 : nD YX8_leads 136 (.aload_n 0) 1 137 8 := ⟨by decide +kernel, rfl, rfl⟩
theorem d_X8_leads_137 : nD YX8_leads 137 (.dup) 1 138 8 := ⟨by decide +kernel, rfl, rfl⟩
theorem d_X8_leads_138 : nD YX8_leads 138 (.getfield 218) 3 141 8 := ⟨by decide +kernel, rfl, rfl⟩
theorem d_X8_leads_141 : nD YX8_leads 141 (.lload 6) 2 143 8 := ⟨by decide +kernel, rfl, rfl⟩
theorem d_X8_leads_143 : nD YX8_leads 143 (.lload_n 3) 1 144 8 := ⟨by decide +kernel, rfl, rfl⟩
theorem d_X8_leads_144 : nD YX8_leads 144 (.lmul) 1 145 8 := ⟨by decide +kernel, rfl, rfl⟩
theorem d_X8_leads_145 : nD YX8_leads 145 (.ladd) 1 146 8 := ⟨by decide +kernel, rfl, rfl⟩
theorem d_X8_leads_146 : nD YX8_leads 146 (.putfield 218) 3 149 8 := ⟨by decide +kernel, rfl, rfl⟩
theorem d_X8_leads_149 : nD YX8_leads 149 (.goto 107) 3 152 8 := ⟨by decide +kernel, rfl, rfl⟩
theorem d_X8_leads_152 : nD YX8_leads 152 (.aload_n 0) 1 153 8 := ⟨by decide +kernel, rfl, rfl⟩
theorem d_X8_leads_153 : nD YX8_leads 153 (.iload_n 1) 1 154 8 := ⟨by decide +kernel, rfl, rfl⟩
theorem d_X8_leads_154 : nD YX8_leads 154 (.iload_n 2) 1 155 8 := ⟨by decide +kernel, rfl, rfl⟩
theorem d_X8_leads_155 : nD YX8_leads 155 (.iload 5) 2 157 8 := ⟨by decide +kernel, rfl, rfl⟩
theorem d_X8_leads_157 : nD YX8_leads 157 (.iconst 0) 1 158 8 := ⟨by decide +kernel, rfl, rfl⟩
theorem d_X8_leads_158 : nD YX8_leads 158 (.invokevirtual 145) 3 161 8 := ⟨by decide +kernel, rfl, rfl⟩
theorem d_X8_leads_161 : nD YX8_leads 161 (.istore 8) 2 163 8 := ⟨by decide +kernel, rfl, rfl⟩
theorem d_X8_leads_163 : nD YX8_leads 163 (.iload 8) 2 165 8 := ⟨by decide +kernel, rfl, rfl⟩
theorem d_X8_leads_165 : nD YX8_leads 165 (.ifCond .ne 19) 3 168 8 := ⟨by decide +kernel, rfl, rfl⟩
theorem d_X8_leads_168 : nD YX8_leads 168 (.aload_n 0) 1 169 8 := ⟨by decide +kernel, rfl, rfl⟩
theorem d_X8_leads_169 : nD YX8_leads 169 (.dup) 1 170 8 := ⟨by decide +kernel, rfl, rfl⟩
theorem d_X8_leads_170 : nD YX8_leads 170 (.getfield 222) 3 173 8 := ⟨by decide +kernel, rfl, rfl⟩
theorem d_X8_leads_173 : nD YX8_leads 173 (.lload 6) 2 175 8 := ⟨by decide +kernel, rfl, rfl⟩
theorem d_X8_leads_175 : nD YX8_leads 175 (.lload_n 3) 1 176 8 := ⟨by decide +kernel, rfl, rfl⟩
theorem d_X8_leads_176 : nD YX8_leads 176 (.lmul) 1 177 8 := ⟨by decide +kernel, rfl, rfl⟩
theorem d_X8_leads_177 : nD YX8_leads 177 (.ladd) 1 178 8 := ⟨by decide +kernel, rfl, rfl⟩
theorem d_X8_leads_178 : nD YX8_leads 178 (.putfield 222) 3 181 8 := ⟨by decide +kernel, rfl, rfl⟩
theorem d_X8_leads_181 : nD YX8_leads 181 (.goto 75) 3 184 8 := ⟨by decide +kernel, rfl, rfl⟩
theorem d_X8_leads_184 : nD YX8_leads 184 (.iconst 0) 1 185 8 := ⟨by decide +kernel, rfl, rfl⟩
theorem d_X8_leads_185 : nD YX8_leads 185 (.istore 9) 2 187 8 := ⟨by decide +kernel, rfl, rfl⟩
theorem d_X8_leads_187 : nD YX8_leads 187 (.iload 9) 2 189 8 := ⟨by decide +kernel, rfl, rfl⟩
theorem d_X8_leads_189 : nD YX8_leads 189 (.aload_n 0) 1 190 8 := ⟨by decide +kernel, rfl, rfl⟩
theorem d_X8_leads_190 : nD YX8_leads 190 (.getfield 32) 3 193 8 := ⟨by decide +kernel, rfl, rfl⟩
theorem d_X8_leads_193 : nD YX8_leads 193 (.bipush 20) 2 195 8 := ⟨by decide +kernel, rfl, rfl⟩
theorem d_X8_leads_195 : nD YX8_leads 195 (.iload_n 1) 1 196 8 := ⟨by decide +kernel, rfl, rfl⟩
theorem d_X8_leads_196 : nD YX8_leads 196 (.imul) 1 197 8 := ⟨by decide +kernel, rfl, rfl⟩
theorem d_X8_leads_197 : nD YX8_leads 197 (.iload_n 2) 1 198 8 := ⟨by decide +kernel, rfl, rfl⟩
theorem d_X8_leads_198 : nD YX8_leads 198 (.iadd) 1 199 8 := ⟨by decide +kernel, rfl, rfl⟩
theorem d_X8_leads_199 : nD YX8_leads 199 (.iconst 1) 1 200 8 := ⟨by decide +kernel, rfl, rfl⟩
theorem d_X8_leads_200 : nD YX8_leads 200 (.iadd) 1 201 8 := ⟨by decide +kernel, rfl, rfl⟩
theorem d_X8_leads_201 : nD YX8_leads 201 (.iaload) 1 202 8 := ⟨by decide +kernel, rfl, rfl⟩
theorem d_X8_leads_202 : nD YX8_leads 202 (.if_icmp .ge 54) 3 205 8 := ⟨by decide +kernel, rfl, rfl⟩
theorem d_X8_leads_205 : nD YX8_leads 205 (.aload_n 0) 1 206 8 := ⟨by decide +kernel, rfl, rfl⟩
theorem d_X8_leads_206 : nD YX8_leads 206 (.iload_n 1) 1 207 8 := ⟨by decide +kernel, rfl, rfl⟩
theorem d_X8_leads_207 : nD YX8_leads 207 (.iload_n 2) 1 208 8 := ⟨by decide +kernel, rfl, rfl⟩
theorem d_X8_leads_208 : nD YX8_leads 208 (.iconst 1) 1 209 8 := ⟨by decide +kernel, rfl, rfl⟩
theorem d_X8_leads_209 : nD YX8_leads 209 (.iadd) 1 210 8 := ⟨by decide +kernel, rfl, rfl⟩
theorem d_X8_leads_210 : nD YX8_leads 210 (.iload 9) 2 212 8 := ⟨by decide +kernel, rfl, rfl⟩
theorem d_X8_leads_212 : nD YX8_leads 212 (.invokestatic 99) 3 215 8 := ⟨by decide +kernel, rfl, rfl⟩
theorem d_X8_leads_215 : nD YX8_leads 215 (.iload 5) 2 217 8 := ⟨by decide +kernel, rfl, rfl⟩
theorem d_X8_leads_217 : nD YX8_leads 217 (.iconst 0) 1 218 8 := ⟨by decide +kernel, rfl, rfl⟩
theorem d_X8_leads_218 : nD YX8_leads 218 (.invokevirtual 139) 3 221 8 := ⟨by decide +kernel, rfl, rfl⟩
theorem d_X8_leads_221 : nD YX8_leads 221 (.ifCond .eq 29) 3 224 8 := ⟨by decide +kernel, rfl, rfl⟩
theorem d_X8_leads_224 : nD YX8_leads 224 (.aload_n 0) 1 225 8 := ⟨by decide +kernel, rfl, rfl⟩
theorem d_X8_leads_225 : nD YX8_leads 225 (.getfield 81) 3 228 8 := ⟨by decide +kernel, rfl, rfl⟩
theorem d_X8_leads_228 : nD YX8_leads 228 (.bipush 24) 2 230 8 := ⟨by decide +kernel, rfl, rfl⟩
theorem d_X8_leads_230 : nD YX8_leads 230 (.iload_n 2) 1 231 8 := ⟨by decide +kernel, rfl, rfl⟩
theorem d_X8_leads_231 : nD YX8_leads 231 (.iconst 1) 1 232 8 := ⟨by decide +kernel, rfl, rfl⟩
theorem d_X8_leads_232 : nD YX8_leads 232 (.iadd) 1 233 8 := ⟨by decide +kernel, rfl, rfl⟩
theorem d_X8_leads_233 : nD YX8_leads 233 (.imul) 1 234 8 := ⟨by decide +kernel, rfl, rfl⟩
theorem d_X8_leads_234 : nD YX8_leads 234 (.iload 9) 2 236 8 := ⟨by decide +kernel, rfl, rfl⟩
theorem d_X8_leads_236 : nD YX8_leads 236 (.iadd) 1 237 8 := ⟨by decide +kernel, rfl, rfl⟩
theorem d_X8_leads_237 : nD YX8_leads 237 (.dup2) 1 238 8 := ⟨by decide +kernel, rfl, rfl⟩
theorem d_X8_leads_238 : nD YX8_leads 238 (.laload) 1 239 8 := ⟨by decide +kernel, rfl, rfl⟩
theorem d_X8_leads_239 : nD YX8_leads 239 (.lload 6) 2 241 8 := ⟨by decide +kernel, rfl, rfl⟩
theorem d_X8_leads_241 : nD YX8_leads 241 (.bipush 6) 2 243 8 := ⟨by decide +kernel, rfl, rfl⟩
theorem d_X8_leads_243 : nD YX8_leads 243 (.iload 8) 2 245 8 := ⟨by decide +kernel, rfl, rfl⟩
theorem d_X8_leads_245 : nD YX8_leads 245 (.idiv) 1 246 8 := ⟨by decide +kernel, rfl, rfl⟩
theorem d_X8_leads_246 : nD YX8_leads 246 (.i2l) 1 247 8 := ⟨by decide +kernel, rfl, rfl⟩
theorem d_X8_leads_247 : nD YX8_leads 247 (.lmul) 1 248 8 := ⟨by decide +kernel, rfl, rfl⟩
theorem d_X8_leads_248 : nD YX8_leads 248 (.ladd) 1 249 8 := ⟨by decide +kernel, rfl, rfl⟩
theorem d_X8_leads_249 : nD YX8_leads 249 (.lastore) 1 250 8 := ⟨by decide +kernel, rfl, rfl⟩
theorem d_X8_leads_250 : nD YX8_leads 250 (.iinc 9 1) 3 253 8 := ⟨by decide +kernel, rfl, rfl⟩
theorem d_X8_leads_253 : nD YX8_leads 253 (.goto (-66)) 3 256 8 := ⟨by decide +kernel, rfl, rfl⟩
theorem d_X8_leads_256 : nD YX8_leads 256 (.iinc 5 1) 3 259 8 := ⟨by decide +kernel, rfl, rfl⟩
theorem d_X8_leads_259 : nD YX8_leads 259 (.goto (-165)) 3 262 8 := ⟨by decide +kernel, rfl, rfl⟩
theorem d_X8_leads_262 : nD YX8_leads 262 (.iinc 2 1) 3 265 8 := ⟨by decide +kernel, rfl, rfl⟩
theorem d_X8_leads_265 : nD YX8_leads 265 (.goto (-192)) 3 268 8 := ⟨by decide +kernel, rfl, rfl⟩
theorem d_X8_leads_268 : nD YX8_leads 268 (.return_) 1 269 8 := ⟨by decide +kernel, rfl, rfl⟩
theorem d_X8_lowest_0 : nD YX8_lowest 0 (.lload_n 0) 1 1 8 := ⟨by decide +kernel, rfl, rfl⟩
theorem d_X8_lowest_1 : nD YX8_lowest 1 (.lstore 5) 2 3 8 := ⟨by decide +kernel, rfl, rfl⟩
theorem d_X8_lowest_3 : nD YX8_lowest 3 (.lload_n 2) 1 4 8 := ⟨by decide +kernel, rfl, rfl⟩
theorem d_X8_lowest_4 : nD YX8_lowest 4 (.lstore 7) 2 6 8 := ⟨by decide +kernel, rfl, rfl⟩
theorem d_X8_lowest_6 : nD YX8_lowest 6 (.lload 5) 2 8 8 := ⟨by decide +kernel, rfl, rfl⟩
theorem d_X8_lowest_8 : nD YX8_lowest 8 (.lconst 0) 1 9 8 := ⟨by decide +kernel, rfl, rfl⟩
theorem d_X8_lowest_9 : nD YX8_lowest 9 (.lcmp) 1 10 8 := ⟨by decide +kernel, rfl, rfl⟩
theorem d_X8_lowest_10 : nD YX8_lowest 10 (.ifCond .eq 21) 3 13 8 := ⟨by decide +kernel, rfl, rfl⟩
theorem d_X8_lowest_13 : nD YX8_lowest 13 (.lload 7) 2 15 8 := ⟨by decide +kernel, rfl, rfl⟩
theorem d_X8_lowest_15 : nD YX8_lowest 15 (.lload 5) 2 17 8 := ⟨by decide +kernel, rfl, rfl⟩
theorem d_X8_lowest_17 : nD YX8_lowest 17 (.lrem) 1 18 8 := ⟨by decide +kernel, rfl, rfl⟩
theorem d_X8_lowest_18 : nD YX8_lowest 18 (.lstore 9) 2 20 8 := ⟨by decide +kernel, rfl, rfl⟩
theorem d_X8_lowest_20 : nD YX8_lowest 20 (.lload 5) 2 22 8 := ⟨by decide +kernel, rfl, rfl⟩
theorem d_X8_lowest_22 : nD YX8_lowest 22 (.lstore 7) 2 24 8 := ⟨by decide +kernel, rfl, rfl⟩
theorem d_X8_lowest_24 : nD YX8_lowest 24 (.lload 9) 2 26 8 := ⟨by decide +kernel, rfl, rfl⟩
theorem d_X8_lowest_26 : nD YX8_lowest 26 (.lstore 5) 2 28 8 := ⟨by decide +kernel, rfl, rfl⟩
theorem d_X8_lowest_28 : nD YX8_lowest 28 (.goto (-22)) 3 31 8 := ⟨by decide +kernel, rfl, rfl⟩
theorem d_X8_lowest_31 : nD YX8_lowest 31 (.iload 4) 2 33 8 := ⟨by decide +kernel, rfl, rfl⟩
theorem d_X8_lowest_33 : nD YX8_lowest 33 (.ifCond .ne 10) 3 36 8 := ⟨by decide +kernel, rfl, rfl⟩
theorem d_X8_lowest_36 : nD YX8_lowest 36 (.lload_n 0) 1 37 8 := ⟨by decide +kernel, rfl, rfl⟩
theorem d_X8_lowest_37 : nD YX8_lowest 37 (.lload 7) 2 39 8 := ⟨by decide +kernel, rfl, rfl⟩
theorem d_X8_lowest_39 : nD YX8_lowest 39 (.ldiv) 1 40 8 := ⟨by decide +kernel, rfl, rfl⟩
theorem d_X8_lowest_40 : nD YX8_lowest 40 (.goto 7) 3 43 8 := ⟨by decide +kernel, rfl, rfl⟩
theorem d_X8_lowest_43 : nD YX8_lowest 43 (.lload_n 2) 1 44 8 := ⟨by decide +kernel, rfl, rfl⟩
theorem d_X8_lowest_44 : nD YX8_lowest 44 (.lload 7) 2 46 8 := ⟨by decide +kernel, rfl, rfl⟩
theorem d_X8_lowest_46 : nD YX8_lowest 46 (.ldiv) 1 47 8 := ⟨by decide +kernel, rfl, rfl⟩
theorem d_X8_lowest_47 : nD YX8_lowest 47 (.lreturn) 1 48 8 := ⟨by decide +kernel, rfl, rfl⟩
theorem d_X8_pull_0 : nD YX8_pull 0 (.aload_n 0) 1 1 8 := ⟨by decide +kernel, rfl, rfl⟩
theorem d_X8_pull_1 : nD YX8_pull 1 (.iload_n 1) 1 2 8 := ⟨by decide +kernel, rfl, rfl⟩
theorem d_X8_pull_2 : nD YX8_pull 2 (.iconst 0) 1 3 8 := ⟨by decide +kernel, rfl, rfl⟩
theorem d_X8_pull_3 : nD YX8_pull 3 (.iload_n 2) 1 4 8 := ⟨by decide +kernel, rfl, rfl⟩
theorem d_X8_pull_4 : nD YX8_pull 4 (.invokevirtual 118) 3 7 8 := ⟨by decide +kernel, rfl, rfl⟩
theorem d_X8_pull_7 : nD YX8_pull 7 (.ifCond .eq 13) 3 10 8 := ⟨by decide +kernel, rfl, rfl⟩
theorem d_X8_pull_10 : nD YX8_pull 10 (.iload_n 3) 1 11 8 := ⟨by decide +kernel, rfl, rfl⟩
theorem d_X8_pull_11 : nD YX8_pull 11 (.ifCond .lt 9) 3 14 8 := ⟨by decide +kernel, rfl, rfl⟩
theorem d_X8_pull_14 : nD YX8_pull 14 (.iload_n 3) 1 15 8 := ⟨by decide +kernel, rfl, rfl⟩
theorem d_X8_pull_15 : nD YX8_pull 15 (.bipush 100) 2 17 8 := ⟨by decide +kernel, rfl, rfl⟩
theorem d_X8_pull_17 : nD YX8_pull 17 (.if_icmp .le 5) 3 20 8 := ⟨by decide +kernel, rfl, rfl⟩
theorem d_X8_pull_20 : nD YX8_pull 20 (.iconst 0) 1 21 8 := ⟨by decide +kernel, rfl, rfl⟩
theorem d_X8_pull_21 : nD YX8_pull 21 (.ireturn) 1 22 8 := ⟨by decide +kernel, rfl, rfl⟩
theorem d_X8_pull_22 : nD YX8_pull 22 (.aload_n 0) 1 23 8 := ⟨by decide +kernel, rfl, rfl⟩
theorem d_X8_pull_23 : nD YX8_pull 23 (.getfield 29) 3 26 8 := ⟨by decide +kernel, rfl, rfl⟩
theorem d_X8_pull_26 : nD YX8_pull 26 (.bipush 24) 2 28 8 := ⟨by decide +kernel, rfl, rfl⟩
theorem d_X8_pull_28 : nD YX8_pull 28 (.iload_n 1) 1 29 8 := ⟨by decide +kernel, rfl, rfl⟩
theorem d_X8_pull_29 : nD YX8_pull 29 (.imul) 1 30 8 := ⟨by decide +kernel, rfl, rfl⟩
theorem d_X8_pull_30 : nD YX8_pull 30 (.iload_n 2) 1 31 8 := ⟨by decide +kernel, rfl, rfl⟩
theorem d_X8_pull_31 : nD YX8_pull 31 (.iadd) 1 32 8 := ⟨by decide +kernel, rfl, rfl⟩
theorem d_X8_pull_32 : nD YX8_pull 32 (.iload_n 3) 1 33 8 := ⟨by decide +kernel, rfl, rfl⟩
theorem d_X8_pull_33 : nD YX8_pull 33 (.iastore) 1 34 8 := ⟨by decide +kernel, rfl, rfl⟩
theorem d_X8_pull_34 : nD YX8_pull 34 (.iconst 1) 1 35 8 := ⟨by decide +kernel, rfl, rfl⟩
theorem d_X8_pull_35 : nD YX8_pull 35 (.ireturn) 1 36 8 := ⟨by decide +kernel, rfl, rfl⟩
theorem d_X8_load_0 : nD YX8_load 0 (.aload_n 0) 1 1 8 := ⟨by decide +kernel, rfl, rfl⟩
theorem d_X8_load_1 : nD YX8_load 1 (.iload_n 1) 1 2 8 := ⟨by decide +kernel, rfl, rfl⟩
theorem d_X8_load_2 : nD YX8_load 2 (.iload_n 2) 1 3 8 := ⟨by decide +kernel, rfl, rfl⟩
theorem d_X8_load_3 : nD YX8_load 3 (.iload_n 3) 1 4 8 := ⟨by decide +kernel, rfl, rfl⟩
theorem d_X8_load_4 : nD YX8_load 4 (.invokevirtual 118) 3 7 8 := ⟨by decide +kernel, rfl, rfl⟩
theorem d_X8_load_7 : nD YX8_load 7 (.ifCond .eq 14) 3 10 8 := ⟨by decide +kernel, rfl, rfl⟩
theorem d_X8_load_10 : nD YX8_load 10 (.iload 4) 2 12 8 := ⟨by decide +kernel, rfl, rfl⟩
theorem d_X8_load_12 : nD YX8_load 12 (.ifCond .lt 9) 3 15 8 := ⟨by decide +kernel, rfl, rfl⟩
theorem d_X8_load_15 : nD YX8_load 15 (.iload 4) 2 17 8 := ⟨by decide +kernel, rfl, rfl⟩
theorem d_X8_load_17 : nD YX8_load 17 (.iconst 1) 1 18 8 := ⟨by decide +kernel, rfl, rfl⟩
theorem d_X8_load_18 : nD YX8_load 18 (.if_icmp .le 7) 3 21 8 := ⟨by decide +kernel, rfl, rfl⟩
theorem d_X8_load_21 : nD YX8_load 21 (.ldc2_w 135) 3 24 8 := ⟨by decide +kernel, rfl, rfl⟩
theorem d_X8_load_24 : nD YX8_load 24 (.lreturn) 1 25 8 := ⟨by decide +kernel, rfl, rfl⟩
theorem d_X8_load_25 : nD YX8_load 25 (.aload_n 0) 1 26 8 := ⟨by decide +kernel, rfl, rfl⟩
theorem d_X8_load_26 : nD YX8_load 26 (.iload_n 1) 1 27 8 := ⟨by decide +kernel, rfl, rfl⟩
theorem d_X8_load_27 : nD YX8_load 27 (.invokevirtual 229) 3 30 8 := ⟨by decide +kernel, rfl, rfl⟩
theorem d_X8_load_30 : nD YX8_load 30 (.aload_n 0) 1 31 8 := ⟨by decide +kernel, rfl, rfl⟩
theorem d_X8_load_31 : nD YX8_load 31 (.getfield 81) 3 34 8 := ⟨by decide +kernel, rfl, rfl⟩
theorem d_X8_load_34 : nD YX8_load 34 (.bipush 24) 2 36 8 := ⟨by decide +kernel, rfl, rfl⟩
theorem d_X8_load_36 : nD YX8_load 36 (.iload_n 2) 1 37 8 := ⟨by decide +kernel, rfl, rfl⟩
theorem d_X8_load_37 : nD YX8_load 37 (.imul) 1 38 8 := ⟨by decide +kernel, rfl, rfl⟩
theorem d_X8_load_38 : nD YX8_load 38 (.iload_n 3) 1 39 8 := ⟨by decide +kernel, rfl, rfl⟩
theorem d_X8_load_39 : nD YX8_load 39 (.iadd) 1 40 8 := ⟨by decide +kernel, rfl, rfl⟩
theorem d_X8_load_40 : nD YX8_load 40 (.laload) 1 41 8 := ⟨by decide +kernel, rfl, rfl⟩
theorem d_X8_load_41 : nD YX8_load 41 (.iload_n 2) 1 42 8 := ⟨by decide +kernel, rfl, rfl⟩
theorem d_X8_load_42 : nD YX8_load 42 (.invokestatic 225) 3 45 8 := ⟨by decide +kernel, rfl, rfl⟩
theorem d_X8_load_45 : nD YX8_load 45 (.iload 4) 2 47 8 := ⟨by decide +kernel, rfl, rfl⟩
theorem d_X8_load_47 : nD YX8_load 47 (.invokestatic 233) 3 50 8 := ⟨by decide +kernel, rfl, rfl⟩
theorem d_X8_load_50 : nD YX8_load 50 (.lreturn) 1 51 8 := ⟨by decide +kernel, rfl, rfl⟩
theorem d_X8_sum_0 : nD YX8_sum 0 (.aload_n 0) 1 1 8 := ⟨by decide +kernel, rfl, rfl⟩
theorem d_X8_sum_1 : nD YX8_sum 1 (.iload_n 1) 1 2 8 := ⟨by decide +kernel, rfl, rfl⟩
theorem d_X8_sum_2 : nD YX8_sum 2 (.invokevirtual 91) 3 5 8 := ⟨by decide +kernel, rfl, rfl⟩
theorem d_X8_sum_5 : nD YX8_sum 5 (.ifCond .eq 21) 3 8 8 := ⟨by decide +kernel, rfl, rfl⟩
theorem d_X8_sum_8 : nD YX8_sum 8 (.iload_n 2) 1 9 8 := ⟨by decide +kernel, rfl, rfl⟩
theorem d_X8_sum_9 : nD YX8_sum 9 (.ifCond .lt 17) 3 12 8 := ⟨by decide +kernel, rfl, rfl⟩
theorem d_X8_sum_12 : nD YX8_sum 12 (.iload_n 2) 1 13 8 := ⟨by decide +kernel, rfl, rfl⟩
theorem d_X8_sum_13 : nD YX8_sum 13 (.iconst 1) 1 14 8 := ⟨by decide +kernel, rfl, rfl⟩
theorem d_X8_sum_14 : nD YX8_sum 14 (.if_icmp .gt 12) 3 17 8 := ⟨by decide +kernel, rfl, rfl⟩
theorem d_X8_sum_17 : nD YX8_sum 17 (.iload_n 3) 1 18 8 := ⟨by decide +kernel, rfl, rfl⟩
theorem d_X8_sum_18 : nD YX8_sum 18 (.ifCond .lt 8) 3 21 8 := ⟨by decide +kernel, rfl, rfl⟩
theorem d_X8_sum_21 : nD YX8_sum 21 (.iload_n 3) 1 22 8 := ⟨by decide +kernel, rfl, rfl⟩
theorem d_X8_sum_22 : nD YX8_sum 22 (.iconst 1) 1 23 8 := ⟨by decide +kernel, rfl, rfl⟩
theorem d_X8_sum_23 : nD YX8_sum 23 (.if_icmp .le 7) 3 26 8 := ⟨by decide +kernel, rfl, rfl⟩
theorem d_X8_sum_26 : nD YX8_sum 26 (.ldc2_w 135) 3 29 8 := ⟨by decide +kernel, rfl, rfl⟩
theorem d_X8_sum_29 : nD YX8_sum 29 (.lreturn) 1 30 8 := ⟨by decide +kernel, rfl, rfl⟩
theorem d_X8_sum_30 : nD YX8_sum 30 (.aload_n 0) 1 31 8 := ⟨by decide +kernel, rfl, rfl⟩
theorem d_X8_sum_31 : nD YX8_sum 31 (.iload_n 1) 1 32 8 := ⟨by decide +kernel, rfl, rfl⟩
theorem d_X8_sum_32 : nD YX8_sum 32 (.invokevirtual 229) 3 35 8 := ⟨by decide +kernel, rfl, rfl⟩
theorem d_X8_sum_35 : nD YX8_sum 35 (.iload_n 2) 1 36 8 := ⟨by decide +kernel, rfl, rfl⟩
theorem d_X8_sum_36 : nD YX8_sum 36 (.ifCond .ne 10) 3 39 8 := ⟨by decide +kernel, rfl, rfl⟩
theorem d_X8_sum_39 : nD YX8_sum 39 (.aload_n 0) 1 40 8 := ⟨by decide +kernel, rfl, rfl⟩
theorem d_X8_sum_40 : nD YX8_sum 40 (.getfield 222) 3 43 8 := ⟨by decide +kernel, rfl, rfl⟩
theorem d_X8_sum_43 : nD YX8_sum 43 (.goto 7) 3 46 8 := ⟨by decide +kernel, rfl, rfl⟩
theorem d_X8_sum_46 : nD YX8_sum 46 (.aload_n 0) 1 47 8 := ⟨by decide +kernel, rfl, rfl⟩
theorem d_X8_sum_47 : nD YX8_sum 47 (.getfield 218) 3 50 8 := ⟨by decide +kernel, rfl, rfl⟩
theorem d_X8_sum_50 : nD YX8_sum 50 (.bipush 19) 2 52 8 := ⟨by decide +kernel, rfl, rfl⟩
theorem d_X8_sum_52 : nD YX8_sum 52 (.invokestatic 225) 3 55 8 := ⟨by decide +kernel, rfl, rfl⟩
theorem d_X8_sum_55 : nD YX8_sum 55 (.iload_n 3) 1 56 8 := ⟨by decide +kernel, rfl, rfl⟩
theorem d_X8_sum_56 : nD YX8_sum 56 (.invokestatic 233) 3 59 8 := ⟨by decide +kernel, rfl, rfl⟩
theorem d_X8_sum_59 : nD YX8_sum 59 (.lreturn) 1 60 8 := ⟨by decide +kernel, rfl, rfl⟩
theorem d_X8_weak_0 : nD YX8_weak 0 (.aload_n 0) 1 1 8 := ⟨by decide +kernel, rfl, rfl⟩
theorem d_X8_weak_1 : nD YX8_weak 1 (.iload_n 1) 1 2 8 := ⟨by decide +kernel, rfl, rfl⟩
theorem d_X8_weak_2 : nD YX8_weak 2 (.invokevirtual 91) 3 5 8 := ⟨by decide +kernel, rfl, rfl⟩
theorem d_X8_weak_5 : nD YX8_weak 5 (.ifCond .ne 5) 3 8 8 := ⟨by decide +kernel, rfl, rfl⟩
theorem d_X8_weak_8 : nD YX8_weak 8 (.iconst (-1)) 1 9 8 := ⟨by decide +kernel, rfl, rfl⟩
theorem d_X8_weak_9 : nD YX8_weak 9 (.ireturn) 1 10 8 := ⟨by decide +kernel, rfl, rfl⟩
theorem d_X8_weak_10 : nD YX8_weak 10 (.aload_n 0) 1 11 8 := ⟨by decide +kernel, rfl, rfl⟩
theorem d_X8_weak_11 : nD YX8_weak 11 (.iload_n 1) 1 12 8 := ⟨by decide +kernel, rfl, rfl⟩
theorem d_X8_weak_12 : nD YX8_weak 12 (.invokevirtual 229) 3 15 8 := ⟨by decide +kernel, rfl, rfl⟩
theorem d_X8_weak_15 : nD YX8_weak 15 (.iconst 0) 1 16 8 := ⟨by decide +kernel, rfl, rfl⟩
theorem d_X8_weak_16 : nD YX8_weak 16 (.istore_n 2) 1 17 8 := ⟨by decide +kernel, rfl, rfl⟩
theorem d_X8_weak_17 : nD YX8_weak 17 (.iload_n 2) 1 18 8 := ⟨by decide +kernel, rfl, rfl⟩
theorem d_X8_weak_18 : nD YX8_weak 18 (.aload_n 0) 1 19 8 := ⟨by decide +kernel, rfl, rfl⟩
theorem d_X8_weak_19 : nD YX8_weak 19 (.getfield 13) 3 22 8 := ⟨by decide +kernel, rfl, rfl⟩
theorem d_X8_weak_22 : nD YX8_weak 22 (.iload_n 1) 1 23 8 := ⟨by decide +kernel, rfl, rfl⟩
theorem d_X8_weak_23 : nD YX8_weak 23 (.iaload) 1 24 8 := ⟨by decide +kernel, rfl, rfl⟩
theorem d_X8_weak_24 : nD YX8_weak 24 (.if_icmp .ge 78) 3 27 8 := ⟨by decide +kernel, rfl, rfl⟩
theorem d_X8_weak_27 : nD YX8_weak 27 (.iconst 0) 1 28 8 := ⟨by decide +kernel, rfl, rfl⟩
theorem d_X8_weak_28 : nD YX8_weak 28 (.istore_n 3) 1 29 8 := ⟨by decide +kernel, rfl, rfl⟩
theorem d_X8_weak_29 : nD YX8_weak 29 (.iload_n 3) 1 30 8 := ⟨by decide +kernel, rfl, rfl⟩
theorem d_X8_weak_30 : nD YX8_weak 30 (.aload_n 0) 1 31 8 := ⟨by decide +kernel, rfl, rfl⟩
theorem d_X8_weak_31 : nD YX8_weak 31 (.getfield 32) 3 34 8 := ⟨by decide +kernel, rfl, rfl⟩
theorem d_X8_weak_34 : nD YX8_weak 34 (.bipush 20) 2 36 8 := ⟨by decide +kernel, rfl, rfl⟩
theorem d_X8_weak_36 : nD YX8_weak 36 (.iload_n 1) 1 37 8 := ⟨by decide +kernel, rfl, rfl⟩
theorem d_X8_weak_37 : nD YX8_weak 37 (.imul) 1 38 8 := ⟨by decide +kernel, rfl, rfl⟩
theorem d_X8_weak_38 : nD YX8_weak 38 (.iload_n 2) 1 39 8 := ⟨by decide +kernel, rfl, rfl⟩
theorem d_X8_weak_39 : nD YX8_weak 39 (.iadd) 1 40 8 := ⟨by decide +kernel, rfl, rfl⟩
theorem d_X8_weak_40 : nD YX8_weak 40 (.iaload) 1 41 8 := ⟨by decide +kernel, rfl, rfl⟩
theorem d_X8_weak_41 : nD YX8_weak 41 (.if_icmp .ge 55) 3 44 8 := ⟨by decide +kernel, rfl, rfl⟩
theorem d_X8_weak_44 : nD YX8_weak 44 (.aload_n 0) 1 45 8 := ⟨by decide +kernel, rfl, rfl⟩
theorem d_X8_weak_45 : nD YX8_weak 45 (.getfield 20) 3 48 8 := ⟨by decide +kernel, rfl, rfl⟩
theorem d_X8_weak_48 : nD YX8_weak 48 (.iload_n 1) 1 49 8 := ⟨by decide +kernel, rfl, rfl⟩
theorem d_X8_weak_49 : nD YX8_weak 49 (.iaload) 1 50 8 := ⟨by decide +kernel, rfl, rfl⟩
theorem d_X8_weak_50 : nD YX8_weak 50 (.sipush 2400) 3 53 8 := ⟨by decide +kernel, rfl, rfl⟩
theorem d_X8_weak_53 : nD YX8_weak 53 (.if_icmp .ge 37) 3 56 8 := ⟨by decide +kernel, rfl, rfl⟩
theorem d_X8_weak_56 : nD YX8_weak 56 (.aload_n 0) 1 57 8 := ⟨by decide +kernel, rfl, rfl⟩
theorem d_X8_weak_57 : nD YX8_weak 57 (.getfield 81) 3 60 8 := ⟨by decide +kernel, rfl, rfl⟩
theorem d_X8_weak_60 : nD YX8_weak 60 (.bipush 24) 2 62 8 := ⟨by decide +kernel, rfl, rfl⟩
theorem d_X8_weak_62 : nD YX8_weak 62 (.iload_n 2) 1 63 8 := ⟨by decide +kernel, rfl, rfl⟩
theorem d_X8_weak_63 : nD YX8_weak 63 (.imul) 1 64 8 := ⟨by decide +kernel, rfl, rfl⟩
theorem d_X8_weak_64 : nD YX8_weak 64 (.iload_n 3) 1 65 8 := ⟨by decide +kernel, rfl, rfl⟩
theorem d_X8_weak_65 : nD YX8_weak 65 (.iadd) 1 66 8 := ⟨by decide +kernel, rfl, rfl⟩
theorem d_X8_weak_66 : nD YX8_weak 66 (.laload) 1 67 8 := ⟨by decide +kernel, rfl, rfl⟩
theorem d_X8_weak_67 : nD YX8_weak 67 (.aload_n 0) 1 68 8 := ⟨by decide +kernel, rfl, rfl⟩
theorem d_X8_weak_68 : nD YX8_weak 68 (.getfield 20) 3 71 8 := ⟨by decide +kernel, rfl, rfl⟩
theorem d_X8_weak_71 : nD YX8_weak 71 (.iload_n 1) 1 72 8 := ⟨by decide +kernel, rfl, rfl⟩
theorem d_X8_weak_72 : nD YX8_weak 72 (.iaload) 1 73 8 := ⟨by decide +kernel, rfl, rfl⟩
theorem d_X8_weak_73 : nD YX8_weak 73 (.i2l) 1 74 8 := ⟨by decide +kernel, rfl, rfl⟩
theorem d_X8_weak_74 : nD YX8_weak 74 (.iload_n 2) 1 75 8 := ⟨by decide +kernel, rfl, rfl⟩
theorem d_X8_weak_75 : nD YX8_weak 75 (.invokestatic 225) 3 78 8 := ⟨by decide +kernel, rfl, rfl⟩
theorem d_X8_weak_78 : nD YX8_weak 78 (.lmul) 1 79 8 := ⟨by decide +kernel, rfl, rfl⟩
theorem d_X8_weak_79 : nD YX8_weak 79 (.lcmp) 1 80 8 := ⟨by decide +kernel, rfl, rfl⟩
theorem d_X8_weak_80 : nD YX8_weak 80 (.ifCond .le 10) 3 83 8 := ⟨by decide +kernel, rfl, rfl⟩
theorem d_X8_weak_83 : nD YX8_weak 83 (.bipush 100) 2 85 8 := ⟨by decide +kernel, rfl, rfl⟩
theorem d_X8_weak_85 : nD YX8_weak 85 (.iload_n 2) 1 86 8 := ⟨by decide +kernel, rfl, rfl⟩
theorem d_X8_weak_86 : nD YX8_weak 86 (.imul) 1 87 8 := ⟨by decide +kernel, rfl, rfl⟩
theorem d_X8_weak_87 : nD YX8_weak 87 (.iload_n 3) 1 88 8 := ⟨by decide +kernel, rfl, rfl⟩
theorem d_X8_weak_88 : nD YX8_weak 88 (.iadd) 1 89 8 := ⟨by decide +kernel, rfl, rfl⟩
theorem d_X8_weak_89 : nD YX8_weak 89 (.ireturn) 1 90 8 := ⟨by decide +kernel, rfl, rfl⟩
theorem d_X8_weak_90 : nD YX8_weak 90 (.iinc 3 1) 3 93 8 := ⟨by decide +kernel, rfl, rfl⟩
theorem d_X8_weak_93 : nD YX8_weak 93 (.goto (-64)) 3 96 8 := ⟨by decide +kernel, rfl, rfl⟩
theorem d_X8_weak_96 : nD YX8_weak 96 (.iinc 2 1) 3 99 8 := ⟨by decide +kernel, rfl, rfl⟩
theorem d_X8_weak_99 : nD YX8_weak 99 (.goto (-82)) 3 102 8 := ⟨by decide +kernel, rfl, rfl⟩
theorem d_X8_weak_102 : nD YX8_weak 102 (.iconst (-1)) 1 103 8 := ⟨by decide +kernel, rfl, rfl⟩
theorem d_X8_weak_103 : nD YX8_weak 103 (.ireturn) 1 104 8 := ⟨by decide +kernel, rfl, rfl⟩
theorem d_X8_count_0 : nD YX8_count 0 (.iload_n 1) 1 1 8 := ⟨by decide +kernel, rfl, rfl⟩
theorem d_X8_count_1 : nD YX8_count 1 (.ifCond .ne 10) 3 4 8 := ⟨by decide +kernel, rfl, rfl⟩
theorem d_X8_count_4 : nD YX8_count 4 (.aload_n 0) 1 5 8 := ⟨by decide +kernel, rfl, rfl⟩
theorem d_X8_count_5 : nD YX8_count 5 (.getfield 88) 3 8 8 := ⟨by decide +kernel, rfl, rfl⟩
theorem d_X8_count_8 : nD YX8_count 8 (.goto 28) 3 11 8 := ⟨by decide +kernel, rfl, rfl⟩
theorem d_X8_count_11 : nD YX8_count 11 (.iload_n 1) 1 12 8 := ⟨by decide +kernel, rfl, rfl⟩
theorem d_X8_count_12 : nD YX8_count 12 (.iconst 1) 1 13 8 := ⟨by decide +kernel, rfl, rfl⟩
theorem d_X8_count_13 : nD YX8_count 13 (.if_icmp .ne 10) 3 16 8 := ⟨by decide +kernel, rfl, rfl⟩
theorem d_X8_count_16 : nD YX8_count 16 (.aload_n 0) 1 17 8 := ⟨by decide +kernel, rfl, rfl⟩
theorem d_X8_count_17 : nD YX8_count 17 (.getfield 85) 3 20 8 := ⟨by decide +kernel, rfl, rfl⟩
theorem d_X8_count_20 : nD YX8_count 20 (.goto 16) 3 23 8 := ⟨by decide +kernel, rfl, rfl⟩
theorem d_X8_count_23 : nD YX8_count 23 (.iload_n 1) 1 24 8 := ⟨by decide +kernel, rfl, rfl⟩
theorem d_X8_count_24 : nD YX8_count 24 (.iconst 2) 1 25 8 := ⟨by decide +kernel, rfl, rfl⟩
theorem d_X8_count_25 : nD YX8_count 25 (.if_icmp .ne 10) 3 28 8 := ⟨by decide +kernel, rfl, rfl⟩
theorem d_X8_count_28 : nD YX8_count 28 (.aload_n 0) 1 29 8 := ⟨by decide +kernel, rfl, rfl⟩
theorem d_X8_count_29 : nD YX8_count 29 (.getfield 181) 3 32 8 := ⟨by decide +kernel, rfl, rfl⟩
theorem d_X8_count_32 : nD YX8_count 32 (.goto 4) 3 35 8 := ⟨by decide +kernel, rfl, rfl⟩
theorem d_X8_count_35 : nD YX8_count 35 (.iconst (-1)) 1 36 8 := ⟨by decide +kernel, rfl, rfl⟩
theorem d_X8_count_36 : nD YX8_count 36 (.ireturn) 1 37 8 := ⟨by decide +kernel, rfl, rfl⟩
theorem d_X8_panelOf_0 : nD YX8_panelOf 0 (.aload_n 0) 1 1 8 := ⟨by decide +kernel, rfl, rfl⟩
theorem d_X8_panelOf_1 : nD YX8_panelOf 1 (.iload_n 1) 1 2 8 := ⟨by decide +kernel, rfl, rfl⟩
theorem d_X8_panelOf_2 : nD YX8_panelOf 2 (.invokevirtual 91) 3 5 8 := ⟨by decide +kernel, rfl, rfl⟩
theorem d_X8_panelOf_5 : nD YX8_panelOf 5 (.ifCond .ne 5) 3 8 8 := ⟨by decide +kernel, rfl, rfl⟩
theorem d_X8_panelOf_8 : nD YX8_panelOf 8 (.iconst (-1)) 1 9 8 := ⟨by decide +kernel, rfl, rfl⟩
theorem d_X8_panelOf_9 : nD YX8_panelOf 9 (.ireturn) 1 10 8 := ⟨by decide +kernel, rfl, rfl⟩
theorem d_X8_panelOf_10 : nD YX8_panelOf 10 (.iload_n 2) 1 11 8 := ⟨by decide +kernel, rfl, rfl⟩
theorem d_X8_panelOf_11 : nD YX8_panelOf 11 (.ifCond .lt 9) 3 14 8 := ⟨by decide +kernel, rfl, rfl⟩
theorem d_X8_panelOf_14 : nD YX8_panelOf 14 (.iload_n 2) 1 15 8 := ⟨by decide +kernel, rfl, rfl⟩
theorem d_X8_panelOf_15 : nD YX8_panelOf 15 (.bipush 8) 2 17 8 := ⟨by decide +kernel, rfl, rfl⟩
theorem d_X8_panelOf_17 : nD YX8_panelOf 17 (.if_icmp .le 5) 3 20 8 := ⟨by decide +kernel, rfl, rfl⟩
theorem d_X8_panelOf_20 : nD YX8_panelOf 20 (.iconst (-1)) 1 21 8 := ⟨by decide +kernel, rfl, rfl⟩
theorem d_X8_panelOf_21 : nD YX8_panelOf 21 (.ireturn) 1 22 8 := ⟨by decide +kernel, rfl, rfl⟩
theorem d_X8_panelOf_22 : nD YX8_panelOf 22 (.iconst 0) 1 23 8 := ⟨by decide +kernel, rfl, rfl⟩
theorem d_X8_panelOf_23 : nD YX8_panelOf 23 (.istore_n 3) 1 24 8 := ⟨by decide +kernel, rfl, rfl⟩
theorem d_X8_panelOf_24 : nD YX8_panelOf 24 (.iconst 0) 1 25 8 := ⟨by decide +kernel, rfl, rfl⟩
theorem d_X8_panelOf_25 : nD YX8_panelOf 25 (.istore 4) 2 27 8 := ⟨by decide +kernel, rfl, rfl⟩
theorem d_X8_panelOf_27 : nD YX8_panelOf 27 (.iconst 0) 1 28 8 := ⟨by decide +kernel, rfl, rfl⟩
theorem d_X8_panelOf_28 : nD YX8_panelOf 28 (.istore 5) 2 30 8 := ⟨by decide +kernel, rfl, rfl⟩
theorem d_X8_panelOf_30 : nD YX8_panelOf 30 (.iconst 0) 1 31 8 := ⟨by decide +kernel, rfl, rfl⟩
theorem d_X8_panelOf_31 : nD YX8_panelOf 31 (.istore 6) 2 33 8 := ⟨by decide +kernel, rfl, rfl⟩
theorem d_X8_panelOf_33 : nD YX8_panelOf 33 (.iconst 0) 1 34 8 := ⟨by decide +kernel, rfl, rfl⟩
theorem d_X8_panelOf_34 : nD YX8_panelOf 34 (.istore 7) 2 36 8 := ⟨by decide +kernel, rfl, rfl⟩
theorem d_X8_panelOf_36 : nD YX8_panelOf 36 (.iload 7) 2 38 8 := ⟨by decide +kernel, rfl, rfl⟩
theorem d_X8_panelOf_38 : nD YX8_panelOf 38 (.aload_n 0) 1 39 8 := ⟨by decide +kernel, rfl, rfl⟩
theorem d_X8_panelOf_39 : nD YX8_panelOf 39 (.getfield 13) 3 42 8 := ⟨by decide +kernel, rfl, rfl⟩
theorem d_X8_panelOf_42 : nD YX8_panelOf 42 (.iload_n 1) 1 43 8 := ⟨by decide +kernel, rfl, rfl⟩
theorem d_X8_panelOf_43 : nD YX8_panelOf 43 (.iaload) 1 44 8 := ⟨by decide +kernel, rfl, rfl⟩
theorem d_X8_panelOf_44 : nD YX8_panelOf 44 (.if_icmp .ge 95) 3 47 8 := ⟨by decide +kernel, rfl, rfl⟩
theorem d_X8_panelOf_47 : nD YX8_panelOf 47 (.iconst 0) 1 48 8 := ⟨by decide +kernel, rfl, rfl⟩
theorem d_X8_panelOf_48 : nD YX8_panelOf 48 (.istore 8) 2 50 8 := ⟨by decide +kernel, rfl, rfl⟩
theorem d_X8_panelOf_50 : nD YX8_panelOf 50 (.iload 8) 2 52 8 := ⟨by decide +kernel, rfl, rfl⟩
theorem d_X8_panelOf_52 : nD YX8_panelOf 52 (.aload_n 0) 1 53 8 := ⟨by decide +kernel, rfl, rfl⟩
theorem d_X8_panelOf_53 : nD YX8_panelOf 53 (.getfield 32) 3 56 8 := ⟨by decide +kernel, rfl, rfl⟩
theorem d_X8_panelOf_56 : nD YX8_panelOf 56 (.bipush 20) 2 58 8 := ⟨by decide +kernel, rfl, rfl⟩
theorem d_X8_panelOf_58 : nD YX8_panelOf 58 (.iload_n 1) 1 59 8 := ⟨by decide +kernel, rfl, rfl⟩
theorem d_X8_panelOf_59 : nD YX8_panelOf 59 (.imul) 1 60 8 := ⟨by decide +kernel, rfl, rfl⟩
theorem d_X8_panelOf_60 : nD YX8_panelOf 60 (.iload 7) 2 62 8 := ⟨by decide +kernel, rfl, rfl⟩
theorem d_X8_panelOf_62 : nD YX8_panelOf 62 (.iadd) 1 63 8 := ⟨by decide +kernel, rfl, rfl⟩
theorem d_X8_panelOf_63 : nD YX8_panelOf 63 (.iaload) 1 64 8 := ⟨by decide +kernel, rfl, rfl⟩
theorem d_X8_panelOf_64 : nD YX8_panelOf 64 (.if_icmp .ge 69) 3 67 8 := ⟨by decide +kernel, rfl, rfl⟩
theorem d_X8_panelOf_67 : nD YX8_panelOf 67 (.iload_n 1) 1 68 8 := ⟨by decide +kernel, rfl, rfl⟩
theorem d_X8_panelOf_68 : nD YX8_panelOf 68 (.iload 7) 2 70 8 := ⟨by decide +kernel, rfl, rfl⟩
theorem d_X8_panelOf_70 : nD YX8_panelOf 70 (.iload 8) 2 72 8 := ⟨by decide +kernel, rfl, rfl⟩
theorem d_X8_panelOf_72 : nD YX8_panelOf 72 (.invokestatic 99) 3 75 8 := ⟨by decide +kernel, rfl, rfl⟩
theorem d_X8_panelOf_75 : nD YX8_panelOf 75 (.istore 9) 2 77 8 := ⟨by decide +kernel, rfl, rfl⟩
theorem d_X8_panelOf_77 : nD YX8_panelOf 77 (.iinc 3 1) 3 80 8 := ⟨by decide +kernel, rfl, rfl⟩
theorem d_X8_panelOf_80 : nD YX8_panelOf 80 (.iload 4) 2 82 8 := ⟨by decide +kernel, rfl, rfl⟩
theorem d_X8_panelOf_82 : nD YX8_panelOf 82 (.aload_n 0) 1 83 8 := ⟨by decide +kernel, rfl, rfl⟩
theorem d_X8_panelOf_83 : nD YX8_panelOf 83 (.getfield 54) 3 86 8 := ⟨by decide +kernel, rfl, rfl⟩
theorem d_X8_panelOf_86 : nD YX8_panelOf 86 (.iload 9) 2 88 8 := ⟨by decide +kernel, rfl, rfl⟩
theorem d_X8_panelOf_88 : nD YX8_panelOf 88 (.baload) 1 89 8 := ⟨by decide +kernel, rfl, rfl⟩
theorem d_X8_panelOf_89 : nD YX8_panelOf 89 (.ifCond .eq 7) 3 92 8 := ⟨by decide +kernel, rfl, rfl⟩
theorem d_X8_panelOf_92 : nD YX8_panelOf 92 (.iconst 1) 1 93 8 := ⟨by decide +kernel, rfl, rfl⟩
theorem d_X8_panelOf_93 : nD YX8_panelOf 93 (.goto 4) 3 96 8 := ⟨by decide +kernel, rfl, rfl⟩
theorem d_X8_panelOf_96 : nD YX8_panelOf 96 (.iconst 0) 1 97 8 := ⟨by decide +kernel, rfl, rfl⟩
theorem d_X8_panelOf_97 : nD YX8_panelOf 97 (.iadd) 1 98 8 := ⟨by decide +kernel, rfl, rfl⟩
theorem d_X8_panelOf_98 : nD YX8_panelOf 98 (.istore 4) 2 100 8 := ⟨by decide +kernel, rfl, rfl⟩
theorem d_X8_panelOf_100 : nD YX8_panelOf 100 (.iload 5) 2 102 8 := ⟨by decide +kernel, rfl, rfl⟩
theorem d_X8_panelOf_102 : nD YX8_panelOf 102 (.aload_n 0) 1 103 8 := ⟨by decide +kernel, rfl, rfl⟩
theorem d_X8_panelOf_103 : nD YX8_panelOf 103 (.getfield 48) 3 106 8 := ⟨by decide +kernel, rfl, rfl⟩
theorem d_X8_panelOf_106 : nD YX8_panelOf 106 (.iload 9) 2 108 8 := ⟨by decide +kernel, rfl, rfl⟩
theorem d_X8_panelOf_108 : nD YX8_panelOf 108 (.iaload) 1 109 8 := ⟨by decide +kernel, rfl, rfl⟩
theorem d_X8_panelOf_109 : nD YX8_panelOf 109 (.iadd) 1 110 8 := ⟨by decide +kernel, rfl, rfl⟩
theorem d_X8_panelOf_110 : nD YX8_panelOf 110 (.istore 5) 2 112 8 := ⟨by decide +kernel, rfl, rfl⟩
theorem d_X8_panelOf_112 : nD YX8_panelOf 112 (.iload 6) 2 114 8 := ⟨by decide +kernel, rfl, rfl⟩
theorem d_X8_panelOf_114 : nD YX8_panelOf 114 (.aload_n 0) 1 115 8 := ⟨by decide +kernel, rfl, rfl⟩
theorem d_X8_panelOf_115 : nD YX8_panelOf 115 (.getfield 51) 3 118 8 := ⟨by decide +kernel, rfl, rfl⟩
theorem d_X8_panelOf_118 : nD YX8_panelOf 118 (.iload 9) 2 120 8 := ⟨by decide +kernel, rfl, rfl⟩
theorem d_X8_panelOf_120 : nD YX8_panelOf 120 (.iaload) 1 121 8 := ⟨by decide +kernel, rfl, rfl⟩
theorem d_X8_panelOf_121 : nD YX8_panelOf 121 (.invokestatic 142) 3 124 8 := ⟨by decide +kernel, rfl, rfl⟩
theorem d_X8_panelOf_124 : nD YX8_panelOf 124 (.iadd) 1 125 8 := ⟨by decide +kernel, rfl, rfl⟩
theorem d_X8_panelOf_125 : nD YX8_panelOf 125 (.istore 6) 2 127 8 := ⟨by decide +kernel, rfl, rfl⟩
theorem d_X8_panelOf_127 : nD YX8_panelOf 127 (.iinc 8 1) 3 130 8 := ⟨by decide +kernel, rfl, rfl⟩
theorem d_X8_panelOf_130 : nD YX8_panelOf 130 (.goto (-80)) 3 133 8 := ⟨by decide +kernel, rfl, rfl⟩
theorem d_X8_panelOf_133 : nD YX8_panelOf 133 (.iinc 7 1) 3 136 8 := ⟨by decide +kernel, rfl, rfl⟩
theorem d_X8_panelOf_136 : nD YX8_panelOf 136 (.goto (-100)) 3 139 8 := ⟨by decide +kernel, rfl, rfl⟩
theorem d_X8_panelOf_139 : nD YX8_panelOf 139 (.iload_n 2) 1 140 8 := ⟨by decide +kernel, rfl, rfl⟩
theorem d_X8_panelOf_140 : nD YX8_panelOf 140 (.tableswitch 91 0 7 #[48, 55, 62, 69, 76, 83, 85, 88]) 48 188 8 := ⟨by decide +kernel, rfl, rfl⟩
theorem d_X8_panelOf_188 : nD YX8_panelOf 188 (.aload_n 0) 1 189 8 := ⟨by decide +kernel, rfl, rfl⟩
theorem d_X8_panelOf_189 : nD YX8_panelOf 189 (.getfield 13) 3 192 8 := ⟨by decide +kernel, rfl, rfl⟩
theorem d_X8_panelOf_192 : nD YX8_panelOf 192 (.iload_n 1) 1 193 8 := ⟨by decide +kernel, rfl, rfl⟩
theorem d_X8_panelOf_193 : nD YX8_panelOf 193 (.iaload) 1 194 8 := ⟨by decide +kernel, rfl, rfl⟩
theorem d_X8_panelOf_194 : nD YX8_panelOf 194 (.ireturn) 1 195 8 := ⟨by decide +kernel, rfl, rfl⟩
theorem d_X8_panelOf_195 : nD YX8_panelOf 195 (.aload_n 0) 1 196 8 := ⟨by decide +kernel, rfl, rfl⟩
theorem d_X8_panelOf_196 : nD YX8_panelOf 196 (.getfield 17) 3 199 8 := ⟨by decide +kernel, rfl, rfl⟩
theorem d_X8_panelOf_199 : nD YX8_panelOf 199 (.iload_n 1) 1 200 8 := ⟨by decide +kernel, rfl, rfl⟩
theorem d_X8_panelOf_200 : nD YX8_panelOf 200 (.iaload) 1 201 8 := ⟨by decide +kernel, rfl, rfl⟩
theorem d_X8_panelOf_201 : nD YX8_panelOf 201 (.ireturn) 1 202 8 := ⟨by decide +kernel, rfl, rfl⟩
theorem d_X8_panelOf_202 : nD YX8_panelOf 202 (.aload_n 0) 1 203 8 := ⟨by decide +kernel, rfl, rfl⟩
theorem d_X8_panelOf_203 : nD YX8_panelOf 203 (.getfield 20) 3 206 8 := ⟨by decide +kernel, rfl, rfl⟩
theorem d_X8_panelOf_206 : nD YX8_panelOf 206 (.iload_n 1) 1 207 8 := ⟨by decide +kernel, rfl, rfl⟩
theorem d_X8_panelOf_207 : nD YX8_panelOf 207 (.iaload) 1 208 8 := ⟨by decide +kernel, rfl, rfl⟩
theorem d_X8_panelOf_208 : nD YX8_panelOf 208 (.ireturn) 1 209 8 := ⟨by decide +kernel, rfl, rfl⟩
theorem d_X8_panelOf_209 : nD YX8_panelOf 209 (.aload_n 0) 1 210 8 := ⟨by decide +kernel, rfl, rfl⟩
theorem d_X8_panelOf_210 : nD YX8_panelOf 210 (.getfield 23) 3 213 8 := ⟨by decide +kernel, rfl, rfl⟩
theorem d_X8_panelOf_213 : nD YX8_panelOf 213 (.iload_n 1) 1 214 8 := ⟨by decide +kernel, rfl, rfl⟩
theorem d_X8_panelOf_214 : nD YX8_panelOf 214 (.iaload) 1 215 8 := ⟨by decide +kernel, rfl, rfl⟩
theorem d_X8_panelOf_215 : nD YX8_panelOf 215 (.ireturn) 1 216 8 := ⟨by decide +kernel, rfl, rfl⟩
theorem d_X8_panelOf_216 : nD YX8_panelOf 216 (.aload_n 0) 1 217 8 := ⟨by decide +kernel, rfl, rfl⟩
theorem d_X8_panelOf_217 : nD YX8_panelOf 217 (.getfield 26) 3 220 8 := ⟨by decide +kernel, rfl, rfl⟩
theorem d_X8_panelOf_220 : nD YX8_panelOf 220 (.iload_n 1) 1 221 8 := ⟨by decide +kernel, rfl, rfl⟩
theorem d_X8_panelOf_221 : nD YX8_panelOf 221 (.iaload) 1 222 8 := ⟨by decide +kernel, rfl, rfl⟩
theorem d_X8_panelOf_222 : nD YX8_panelOf 222 (.ireturn) 1 223 8 := ⟨by decide +kernel, rfl, rfl⟩
theorem d_X8_panelOf_223 : nD YX8_panelOf 223 (.iload_n 3) 1 224 8 := ⟨by decide +kernel, rfl, rfl⟩
theorem d_X8_panelOf_224 : nD YX8_panelOf 224 (.ireturn) 1 225 8 := ⟨by decide +kernel, rfl, rfl⟩
theorem d_X8_panelOf_225 : nD YX8_panelOf 225 (.iload 4) 2 227 8 := ⟨by decide +kernel, rfl, rfl⟩
theorem d_X8_panelOf_227 : nD YX8_panelOf 227 (.ireturn) 1 228 8 := ⟨by decide +kernel, rfl, rfl⟩
theorem d_X8_panelOf_228 : nD YX8_panelOf 228 (.iload 5) 2 230 8 := ⟨by decide +kernel, rfl, rfl⟩
theorem d_X8_panelOf_230 : nD YX8_panelOf 230 (.ireturn) 1 231 8 := ⟨by decide +kernel, rfl, rfl⟩
theorem d_X8_panelOf_231 : nD YX8_panelOf 231 (.iload 6) 2 233 8 := ⟨by decide +kernel, rfl, rfl⟩
theorem d_X8_panelOf_233 : nD YX8_panelOf 233 (.ireturn) 1 234 8 := ⟨by decide +kernel, rfl, rfl⟩
theorem d_L_law_0 : nD YL_law 0 (.new 7) 3 3 9 := ⟨by decide +kernel, rfl, rfl⟩
theorem d_L_law_3 : nD YL_law 3 (.dup) 1 4 9 := ⟨by decide +kernel, rfl, rfl⟩
theorem d_L_law_4 : nD YL_law 4 (.invokespecial 9) 3 7 9 := ⟨by decide +kernel, rfl, rfl⟩
theorem d_L_law_7 : nD YL_law 7 (.astore_n 1) 1 8 9 := ⟨by decide +kernel, rfl, rfl⟩
theorem d_L_law_8 : nD YL_law 8 (.new 10) 3 11 9 := ⟨by decide +kernel, rfl, rfl⟩
theorem d_L_law_11 : nD YL_law 11 (.dup) 1 12 9 := ⟨by decide +kernel, rfl, rfl⟩
theorem d_L_law_12 : nD YL_law 12 (.invokespecial 12) 3 15 9 := ⟨by decide +kernel, rfl, rfl⟩
theorem d_L_law_15 : nD YL_law 15 (.astore_n 2) 1 16 9 := ⟨by decide +kernel, rfl, rfl⟩
theorem d_L_law_16 : nD YL_law 16 (.iconst 0) 1 17 9 := ⟨by decide +kernel, rfl, rfl⟩
theorem d_L_law_17 : nD YL_law 17 (.istore_n 3) 1 18 9 := ⟨by decide +kernel, rfl, rfl⟩
theorem d_L_law_18 : nD YL_law 18 (.iload_n 3) 1 19 9 := ⟨by decide +kernel, rfl, rfl⟩
theorem d_L_law_19 : nD YL_law 19 (.aload_n 0) 1 20 9 := ⟨by decide +kernel, rfl, rfl⟩
theorem d_L_law_20 : nD YL_law 20 (.arraylength) 1 21 9 := ⟨by decide +kernel, rfl, rfl⟩
theorem d_L_law_21 : nD YL_law 21 (.bipush 6) 2 23 9 := ⟨by decide +kernel, rfl, rfl⟩
theorem d_L_law_23 : nD YL_law 23 (.isub) 1 24 9 := ⟨by decide +kernel, rfl, rfl⟩
theorem d_L_law_24 : nD YL_law 24 (.if_icmp .gt 1315) 3 27 9 := ⟨by decide +kernel, rfl, rfl⟩
theorem d_L_law_27 : nD YL_law 27 (.aload_n 0) 1 28 9 := ⟨by decide +kernel, rfl, rfl⟩
theorem d_L_law_28 : nD YL_law 28 (.iload_n 3) 1 29 9 := ⟨by decide +kernel, rfl, rfl⟩
theorem d_L_law_29 : nD YL_law 29 (.iaload) 1 30 9 := ⟨by decide +kernel, rfl, rfl⟩
theorem d_L_law_30 : nD YL_law 30 (.bipush 31) 2 32 9 := ⟨by decide +kernel, rfl, rfl⟩
theorem d_L_law_32 : nD YL_law 32 (.iand) 1 33 9 := ⟨by decide +kernel, rfl, rfl⟩
theorem d_L_law_33 : nD YL_law 33 (.tableswitch 1300 0 29 #[135, 178, 201, 244, 297, 351, 384, 437, 516, 559, 592, 661, 704, 737, 780, 803, 846, 869, 902, 925, 968, 991, 1024, 1047, 1080, 1123, 1177, 1221, 1244, 1267]) 135 168 9 := ⟨by decide +kernel, rfl, rfl⟩
theorem d_L_law_168 : nD YL_law 168 (.aload_n 1) 1 169 9 := ⟨by decide +kernel, rfl, rfl⟩
theorem d_L_law_169 : nD YL_law 169 (.aload_n 0) 1 170 9 := ⟨by decide +kernel, rfl, rfl⟩
theorem d_L_law_170 : nD YL_law 170 (.iload_n 3) 1 171 9 := ⟨by decide +kernel, rfl, rfl⟩
theorem d_L_law_171 : nD YL_law 171 (.iconst 1) 1 172 9 := ⟨by decide +kernel, rfl, rfl⟩
theorem d_L_law_172 : nD YL_law 172 (.iadd) 1 173 9 := ⟨by decide +kernel, rfl, rfl⟩
theorem d_L_law_173 : nD YL_law 173 (.iaload) 1 174 9 := ⟨by decide +kernel, rfl, rfl⟩
theorem d_L_law_174 : nD YL_law 174 (.aload_n 0) 1 175 9 := ⟨by decide +kernel, rfl, rfl⟩
theorem d_L_law_175 : nD YL_law 175 (.iload_n 3) 1 176 9 := ⟨by decide +kernel, rfl, rfl⟩
theorem d_L_law_176 : nD YL_law 176 (.iconst 2) 1 177 9 := ⟨by decide +kernel, rfl, rfl⟩
theorem d_L_law_177 : nD YL_law 177 (.iadd) 1 178 9 := ⟨by decide +kernel, rfl, rfl⟩
theorem d_L_law_178 : nD YL_law 178 (.iaload) 1 179 9 := ⟨by decide +kernel, rfl, rfl⟩
theorem d_L_law_179 : nD YL_law 179 (.aload_n 0) 1 180 9 := ⟨by decide +kernel, rfl, rfl⟩
theorem d_L_law_180 : nD YL_law 180 (.iload_n 3) 1 181 9 := ⟨by decide +kernel, rfl, rfl⟩
theorem d_L_law_181 : nD YL_law 181 (.iconst 3) 1 182 9 := ⟨by decide +kernel, rfl, rfl⟩
theorem d_L_law_182 : nD YL_law 182 (.iadd) 1 183 9 := ⟨by decide +kernel, rfl, rfl⟩
theorem d_L_law_183 : nD YL_law 183 (.iaload) 1 184 9 := ⟨by decide +kernel, rfl, rfl⟩
theorem d_L_law_184 : nD YL_law 184 (.invokevirtual 13) 3 187 9 := ⟨by decide +kernel, rfl, rfl⟩
theorem d_L_law_187 : nD YL_law 187 (.aload_n 2) 1 188 9 := ⟨by decide +kernel, rfl, rfl⟩
theorem d_L_law_188 : nD YL_law 188 (.aload_n 0) 1 189 9 := ⟨by decide +kernel, rfl, rfl⟩
theorem d_L_law_189 : nD YL_law 189 (.iload_n 3) 1 190 9 := ⟨by decide +kernel, rfl, rfl⟩
theorem d_L_law_190 : nD YL_law 190 (.iconst 1) 1 191 9 := ⟨by decide +kernel, rfl, rfl⟩
theorem d_L_law_191 : nD YL_law 191 (.iadd) 1 192 9 := ⟨by decide +kernel, rfl, rfl⟩
theorem d_L_law_192 : nD YL_law 192 (.iaload) 1 193 9 := ⟨by decide +kernel, rfl, rfl⟩
theorem d_L_law_193 : nD YL_law 193 (.aload_n 0) 1 194 9 := ⟨by decide +kernel, rfl, rfl⟩
theorem d_L_law_194 : nD YL_law 194 (.iload_n 3) 1 195 9 := ⟨by decide +kernel, rfl, rfl⟩
theorem d_L_law_195 : nD YL_law 195 (.iconst 2) 1 196 9 := ⟨by decide +kernel, rfl, rfl⟩
theorem d_L_law_196 : nD YL_law 196 (.iadd) 1 197 9 := ⟨by decide +kernel, rfl, rfl⟩
theorem d_L_law_197 : nD YL_law 197 (.iaload) 1 198 9 := ⟨by decide +kernel, rfl, rfl⟩
theorem d_L_law_198 : nD YL_law 198 (.aload_n 0) 1 199 9 := ⟨by decide +kernel, rfl, rfl⟩
theorem d_L_law_199 : nD YL_law 199 (.iload_n 3) 1 200 9 := ⟨by decide +kernel, rfl, rfl⟩
theorem d_L_law_200 : nD YL_law 200 (.iconst 3) 1 201 9 := ⟨by decide +kernel, rfl, rfl⟩
theorem d_L_law_201 : nD YL_law 201 (.iadd) 1 202 9 := ⟨by decide +kernel, rfl, rfl⟩
theorem d_L_law_202 : nD YL_law 202 (.iaload) 1 203 9 := ⟨by decide +kernel, rfl, rfl⟩
theorem d_L_law_203 : nD YL_law 203 (.invokevirtual 17) 3 206 9 := ⟨by decide +kernel, rfl, rfl⟩
theorem d_L_law_206 : nD YL_law 206 (.if_icmp .eq 1127) 3 209 9 := ⟨by decide +kernel, rfl, rfl⟩
theorem d_L_law_209 : nD YL_law 209 (.iconst 0) 1 210 9 := ⟨by decide +kernel, rfl, rfl⟩
theorem d_L_law_210 : nD YL_law 210 (.ireturn) 1 211 9 := ⟨by decide +kernel, rfl, rfl⟩
theorem d_L_law_211 : nD YL_law 211 (.aload_n 1) 1 212 9 := ⟨by decide +kernel, rfl, rfl⟩
theorem d_L_law_212 : nD YL_law 212 (.aload_n 0) 1 213 9 := ⟨by decide +kernel, rfl, rfl⟩
theorem d_L_law_213 : nD YL_law 213 (.iload_n 3) 1 214 9 := ⟨by decide +kernel, rfl, rfl⟩
theorem d_L_law_214 : nD YL_law 214 (.iconst 1) 1 215 9 := ⟨by decide +kernel, rfl, rfl⟩
theorem d_L_law_215 : nD YL_law 215 (.iadd) 1 216 9 := ⟨by decide +kernel, rfl, rfl⟩
theorem d_L_law_216 : nD YL_law 216 (.iaload) 1 217 9 := ⟨by decide +kernel, rfl, rfl⟩
theorem d_L_law_217 : nD YL_law 217 (.invokevirtual 18) 3 220 9 := ⟨by decide +kernel, rfl, rfl⟩
theorem d_L_law_220 : nD YL_law 220 (.aload_n 2) 1 221 9 := ⟨by decide +kernel, rfl, rfl⟩
theorem d_L_law_221 : nD YL_law 221 (.aload_n 0) 1 222 9 := ⟨by decide +kernel, rfl, rfl⟩
theorem d_L_law_222 : nD YL_law 222 (.iload_n 3) 1 223 9 := ⟨by decide +kernel, rfl, rfl⟩
theorem d_L_law_223 : nD YL_law 223 (.iconst 1) 1 224 9 := ⟨by decide +kernel, rfl, rfl⟩
theorem d_L_law_224 : nD YL_law 224 (.iadd) 1 225 9 := ⟨by decide +kernel, rfl, rfl⟩
theorem d_L_law_225 : nD YL_law 225 (.iaload) 1 226 9 := ⟨by decide +kernel, rfl, rfl⟩
theorem d_L_law_226 : nD YL_law 226 (.invokevirtual 22) 3 229 9 := ⟨by decide +kernel, rfl, rfl⟩
theorem d_L_law_229 : nD YL_law 229 (.if_icmp .eq 1104) 3 232 9 := ⟨by decide +kernel, rfl, rfl⟩
theorem d_L_law_232 : nD YL_law 232 (.iconst 0) 1 233 9 := ⟨by decide +kernel, rfl, rfl⟩
theorem d_L_law_233 : nD YL_law 233 (.ireturn) 1 234 9 := ⟨by decide +kernel, rfl, rfl⟩
theorem d_L_law_234 : nD YL_law 234 (.aload_n 1) 1 235 9 := ⟨by decide +kernel, rfl, rfl⟩
theorem d_L_law_235 : nD YL_law 235 (.aload_n 0) 1 236 9 := ⟨by decide +kernel, rfl, rfl⟩
theorem d_L_law_236 : nD YL_law 236 (.iload_n 3) 1 237 9 := ⟨by decide +kernel, rfl, rfl⟩
theorem d_L_law_237 : nD YL_law 237 (.iconst 1) 1 238 9 := ⟨by decide +kernel, rfl, rfl⟩
theorem d_L_law_238 : nD YL_law 238 (.iadd) 1 239 9 := ⟨by decide +kernel, rfl, rfl⟩
theorem d_L_law_239 : nD YL_law 239 (.iaload) 1 240 9 := ⟨by decide +kernel, rfl, rfl⟩
theorem d_L_law_240 : nD YL_law 240 (.aload_n 0) 1 241 9 := ⟨by decide +kernel, rfl, rfl⟩
theorem d_L_law_241 : nD YL_law 241 (.iload_n 3) 1 242 9 := ⟨by decide +kernel, rfl, rfl⟩
theorem d_L_law_242 : nD YL_law 242 (.iconst 2) 1 243 9 := ⟨by decide +kernel, rfl, rfl⟩
theorem d_L_law_243 : nD YL_law 243 (.iadd) 1 244 9 := ⟨by decide +kernel, rfl, rfl⟩
theorem d_L_law_244 : nD YL_law 244 (.iaload) 1 245 9 := ⟨by decide +kernel, rfl, rfl⟩
theorem d_L_law_245 : nD YL_law 245 (.aload_n 0) 1 246 9 := ⟨by decide +kernel, rfl, rfl⟩
theorem d_L_law_246 : nD YL_law 246 (.iload_n 3) 1 247 9 := ⟨by decide +kernel, rfl, rfl⟩
theorem d_L_law_247 : nD YL_law 247 (.iconst 3) 1 248 9 := ⟨by decide +kernel, rfl, rfl⟩
theorem d_L_law_248 : nD YL_law 248 (.iadd) 1 249 9 := ⟨by decide +kernel, rfl, rfl⟩
theorem d_L_law_249 : nD YL_law 249 (.iaload) 1 250 9 := ⟨by decide +kernel, rfl, rfl⟩
theorem d_L_law_250 : nD YL_law 250 (.invokevirtual 23) 3 253 9 := ⟨by decide +kernel, rfl, rfl⟩
theorem d_L_law_253 : nD YL_law 253 (.aload_n 2) 1 254 9 := ⟨by decide +kernel, rfl, rfl⟩
theorem d_L_law_254 : nD YL_law 254 (.aload_n 0) 1 255 9 := ⟨by decide +kernel, rfl, rfl⟩
theorem d_L_law_255 : nD YL_law 255 (.iload_n 3) 1 256 9 := ⟨by decide +kernel, rfl, rfl⟩
theorem d_L_law_256 : nD YL_law 256 (.iconst 1) 1 257 9 := ⟨by decide +kernel, rfl, rfl⟩
theorem d_L_law_257 : nD YL_law 257 (.iadd) 1 258 9 := ⟨by decide +kernel, rfl, rfl⟩
theorem d_L_law_258 : nD YL_law 258 (.iaload) 1 259 9 := ⟨by decide +kernel, rfl, rfl⟩
theorem d_L_law_259 : nD YL_law 259 (.aload_n 0) 1 260 9 := ⟨by decide +kernel, rfl, rfl⟩
theorem d_L_law_260 : nD YL_law 260 (.iload_n 3) 1 261 9 := ⟨by decide +kernel, rfl, rfl⟩
theorem d_L_law_261 : nD YL_law 261 (.iconst 2) 1 262 9 := ⟨by decide +kernel, rfl, rfl⟩
theorem d_L_law_262 : nD YL_law 262 (.iadd) 1 263 9 := ⟨by decide +kernel, rfl, rfl⟩
theorem d_L_law_263 : nD YL_law 263 (.iaload) 1 264 9 := ⟨by decide +kernel, rfl, rfl⟩
theorem d_L_law_264 : nD YL_law 264 (.aload_n 0) 1 265 9 := ⟨by decide +kernel, rfl, rfl⟩
theorem d_L_law_265 : nD YL_law 265 (.iload_n 3) 1 266 9 := ⟨by decide +kernel, rfl, rfl⟩
theorem d_L_law_266 : nD YL_law 266 (.iconst 3) 1 267 9 := ⟨by decide +kernel, rfl, rfl⟩
theorem d_L_law_267 : nD YL_law 267 (.iadd) 1 268 9 := ⟨by decide +kernel, rfl, rfl⟩
theorem d_L_law_268 : nD YL_law 268 (.iaload) 1 269 9 := ⟨by decide +kernel, rfl, rfl⟩
theorem d_L_law_269 : nD YL_law 269 (.invokevirtual 27) 3 272 9 := ⟨by decide +kernel, rfl, rfl⟩
theorem d_L_law_272 : nD YL_law 272 (.if_icmp .eq 1061) 3 275 9 := ⟨by decide +kernel, rfl, rfl⟩
theorem d_L_law_275 : nD YL_law 275 (.iconst 0) 1 276 9 := ⟨by decide +kernel, rfl, rfl⟩
theorem d_L_law_276 : nD YL_law 276 (.ireturn) 1 277 9 := ⟨by decide +kernel, rfl, rfl⟩
theorem d_L_law_277 : nD YL_law 277 (.aload_n 1) 1 278 9 := ⟨by decide +kernel, rfl, rfl⟩
theorem d_L_law_278 : nD YL_law 278 (.aload_n 0) 1 279 9 := ⟨by decide +kernel, rfl, rfl⟩
theorem d_L_law_279 : nD YL_law 279 (.iload_n 3) 1 280 9 := ⟨by decide +kernel, rfl, rfl⟩
theorem d_L_law_280 : nD YL_law 280 (.iconst 1) 1 281 9 := ⟨by decide +kernel, rfl, rfl⟩
theorem d_L_law_281 : nD YL_law 281 (.iadd) 1 282 9 := ⟨by decide +kernel, rfl, rfl⟩
theorem d_L_law_282 : nD YL_law 282 (.iaload) 1 283 9 := ⟨by decide +kernel, rfl, rfl⟩
theorem d_L_law_283 : nD YL_law 283 (.aload_n 0) 1 284 9 := ⟨by decide +kernel, rfl, rfl⟩
theorem d_L_law_284 : nD YL_law 284 (.iload_n 3) 1 285 9 := ⟨by decide +kernel, rfl, rfl⟩
theorem d_L_law_285 : nD YL_law 285 (.iconst 2) 1 286 9 := ⟨by decide +kernel, rfl, rfl⟩
theorem d_L_law_286 : nD YL_law 286 (.iadd) 1 287 9 := ⟨by decide +kernel, rfl, rfl⟩
theorem d_L_law_287 : nD YL_law 287 (.iaload) 1 288 9 := ⟨by decide +kernel, rfl, rfl⟩
theorem d_L_law_288 : nD YL_law 288 (.aload_n 0) 1 289 9 := ⟨by decide +kernel, rfl, rfl⟩
theorem d_L_law_289 : nD YL_law 289 (.iload_n 3) 1 290 9 := ⟨by decide +kernel, rfl, rfl⟩
theorem d_L_law_290 : nD YL_law 290 (.iconst 3) 1 291 9 := ⟨by decide +kernel, rfl, rfl⟩
theorem d_L_law_291 : nD YL_law 291 (.iadd) 1 292 9 := ⟨by decide +kernel, rfl, rfl⟩
theorem d_L_law_292 : nD YL_law 292 (.iaload) 1 293 9 := ⟨by decide +kernel, rfl, rfl⟩
theorem d_L_law_293 : nD YL_law 293 (.aload_n 0) 1 294 9 := ⟨by decide +kernel, rfl, rfl⟩
theorem d_L_law_294 : nD YL_law 294 (.iload_n 3) 1 295 9 := ⟨by decide +kernel, rfl, rfl⟩
theorem d_L_law_295 : nD YL_law 295 (.iconst 4) 1 296 9 := ⟨by decide +kernel, rfl, rfl⟩
theorem d_L_law_296 : nD YL_law 296 (.iadd) 1 297 9 := ⟨by decide +kernel, rfl, rfl⟩
theorem d_L_law_297 : nD YL_law 297 (.iaload) 1 298 9 := ⟨by decide +kernel, rfl, rfl⟩
theorem d_L_law_298 : nD YL_law 298 (.invokevirtual 28) 3 301 9 := ⟨by decide +kernel, rfl, rfl⟩
theorem d_L_law_301 : nD YL_law 301 (.aload_n 2) 1 302 9 := ⟨by decide +kernel, rfl, rfl⟩
theorem d_L_law_302 : nD YL_law 302 (.aload_n 0) 1 303 9 := ⟨by decide +kernel, rfl, rfl⟩
theorem d_L_law_303 : nD YL_law 303 (.iload_n 3) 1 304 9 := ⟨by decide +kernel, rfl, rfl⟩
theorem d_L_law_304 : nD YL_law 304 (.iconst 1) 1 305 9 := ⟨by decide +kernel, rfl, rfl⟩
theorem d_L_law_305 : nD YL_law 305 (.iadd) 1 306 9 := ⟨by decide +kernel, rfl, rfl⟩
theorem d_L_law_306 : nD YL_law 306 (.iaload) 1 307 9 := ⟨by decide +kernel, rfl, rfl⟩
theorem d_L_law_307 : nD YL_law 307 (.aload_n 0) 1 308 9 := ⟨by decide +kernel, rfl, rfl⟩
theorem d_L_law_308 : nD YL_law 308 (.iload_n 3) 1 309 9 := ⟨by decide +kernel, rfl, rfl⟩
theorem d_L_law_309 : nD YL_law 309 (.iconst 2) 1 310 9 := ⟨by decide +kernel, rfl, rfl⟩
theorem d_L_law_310 : nD YL_law 310 (.iadd) 1 311 9 := ⟨by decide +kernel, rfl, rfl⟩
theorem d_L_law_311 : nD YL_law 311 (.iaload) 1 312 9 := ⟨by decide +kernel, rfl, rfl⟩
theorem d_L_law_312 : nD YL_law 312 (.aload_n 0) 1 313 9 := ⟨by decide +kernel, rfl, rfl⟩
theorem d_L_law_313 : nD YL_law 313 (.iload_n 3) 1 314 9 := ⟨by decide +kernel, rfl, rfl⟩
theorem d_L_law_314 : nD YL_law 314 (.iconst 3) 1 315 9 := ⟨by decide +kernel, rfl, rfl⟩
theorem d_L_law_315 : nD YL_law 315 (.iadd) 1 316 9 := ⟨by decide +kernel, rfl, rfl⟩
theorem d_L_law_316 : nD YL_law 316 (.iaload) 1 317 9 := ⟨by decide +kernel, rfl, rfl⟩
theorem d_L_law_317 : nD YL_law 317 (.aload_n 0) 1 318 9 := ⟨by decide +kernel, rfl, rfl⟩
theorem d_L_law_318 : nD YL_law 318 (.iload_n 3) 1 319 9 := ⟨by decide +kernel, rfl, rfl⟩
theorem d_L_law_319 : nD YL_law 319 (.iconst 4) 1 320 9 := ⟨by decide +kernel, rfl, rfl⟩
theorem d_L_law_320 : nD YL_law 320 (.iadd) 1 321 9 := ⟨by decide +kernel, rfl, rfl⟩
theorem d_L_law_321 : nD YL_law 321 (.iaload) 1 322 9 := ⟨by decide +kernel, rfl, rfl⟩
theorem d_L_law_322 : nD YL_law 322 (.invokevirtual 32) 3 325 9 := ⟨by decide +kernel, rfl, rfl⟩
theorem d_L_law_325 : nD YL_law 325 (.if_icmp .eq 1008) 3 328 9 := ⟨by decide +kernel, rfl, rfl⟩
theorem d_L_law_328 : nD YL_law 328 (.iconst 0) 1 329 9 := ⟨by decide +kernel, rfl, rfl⟩
theorem d_L_law_329 : nD YL_law 329 (.ireturn) 1 330 9 := ⟨by decide +kernel, rfl, rfl⟩
theorem d_L_law_330 : nD YL_law 330 (.aload_n 1) 1 331 9 := ⟨by decide +kernel, rfl, rfl⟩
theorem d_L_law_331 : nD YL_law 331 (.aload_n 0) 1 332 9 := ⟨by decide +kernel, rfl, rfl⟩
theorem d_L_law_332 : nD YL_law 332 (.iload_n 3) 1 333 9 := ⟨by decide +kernel, rfl, rfl⟩
theorem d_L_law_333 : nD YL_law 333 (.iconst 1) 1 334 9 := ⟨by decide +kernel, rfl, rfl⟩
theorem d_L_law_334 : nD YL_law 334 (.iadd) 1 335 9 := ⟨by decide +kernel, rfl, rfl⟩
theorem d_L_law_335 : nD YL_law 335 (.iaload) 1 336 9 := ⟨by decide +kernel, rfl, rfl⟩
theorem d_L_law_336 : nD YL_law 336 (.aload_n 0) 1 337 9 := ⟨by decide +kernel, rfl, rfl⟩
theorem d_L_law_337 : nD YL_law 337 (.iload_n 3) 1 338 9 := ⟨by decide +kernel, rfl, rfl⟩
theorem d_L_law_338 : nD YL_law 338 (.iconst 2) 1 339 9 := ⟨by decide +kernel, rfl, rfl⟩
theorem d_L_law_339 : nD YL_law 339 (.iadd) 1 340 9 := ⟨by decide +kernel, rfl, rfl⟩
theorem d_L_law_340 : nD YL_law 340 (.iaload) 1 341 9 := ⟨by decide +kernel, rfl, rfl⟩
theorem d_L_law_341 : nD YL_law 341 (.aload_n 0) 1 342 9 := ⟨by decide +kernel, rfl, rfl⟩
theorem d_L_law_342 : nD YL_law 342 (.iload_n 3) 1 343 9 := ⟨by decide +kernel, rfl, rfl⟩
theorem d_L_law_343 : nD YL_law 343 (.iconst 3) 1 344 9 := ⟨by decide +kernel, rfl, rfl⟩
theorem d_L_law_344 : nD YL_law 344 (.iadd) 1 345 9 := ⟨by decide +kernel, rfl, rfl⟩
theorem d_L_law_345 : nD YL_law 345 (.iaload) 1 346 9 := ⟨by decide +kernel, rfl, rfl⟩
theorem d_L_law_346 : nD YL_law 346 (.aload_n 0) 1 347 9 := ⟨by decide +kernel, rfl, rfl⟩
theorem d_L_law_347 : nD YL_law 347 (.iload_n 3) 1 348 9 := ⟨by decide +kernel, rfl, rfl⟩
theorem d_L_law_348 : nD YL_law 348 (.iconst 4) 1 349 9 := ⟨by decide +kernel, rfl, rfl⟩
theorem d_L_law_349 : nD YL_law 349 (.iadd) 1 350 9 := ⟨by decide +kernel, rfl, rfl⟩
theorem d_L_law_350 : nD YL_law 350 (.iaload) 1 351 9 := ⟨by decide +kernel, rfl, rfl⟩
theorem d_L_law_351 : nD YL_law 351 (.invokevirtual 33) 3 354 9 := ⟨by decide +kernel, rfl, rfl⟩
theorem d_L_law_354 : nD YL_law 354 (.aload_n 2) 1 355 9 := ⟨by decide +kernel, rfl, rfl⟩
theorem d_L_law_355 : nD YL_law 355 (.aload_n 0) 1 356 9 := ⟨by decide +kernel, rfl, rfl⟩
theorem d_L_law_356 : nD YL_law 356 (.iload_n 3) 1 357 9 := ⟨by decide +kernel, rfl, rfl⟩
theorem d_L_law_357 : nD YL_law 357 (.iconst 1) 1 358 9 := ⟨by decide +kernel, rfl, rfl⟩
theorem d_L_law_358 : nD YL_law 358 (.iadd) 1 359 9 := ⟨by decide +kernel, rfl, rfl⟩
theorem d_L_law_359 : nD YL_law 359 (.iaload) 1 360 9 := ⟨by decide +kernel, rfl, rfl⟩
theorem d_L_law_360 : nD YL_law 360 (.aload_n 0) 1 361 9 := ⟨by decide +kernel, rfl, rfl⟩
theorem d_L_law_361 : nD YL_law 361 (.iload_n 3) 1 362 9 := ⟨by decide +kernel, rfl, rfl⟩
theorem d_L_law_362 : nD YL_law 362 (.iconst 2) 1 363 9 := ⟨by decide +kernel, rfl, rfl⟩
theorem d_L_law_363 : nD YL_law 363 (.iadd) 1 364 9 := ⟨by decide +kernel, rfl, rfl⟩
theorem d_L_law_364 : nD YL_law 364 (.iaload) 1 365 9 := ⟨by decide +kernel, rfl, rfl⟩
theorem d_L_law_365 : nD YL_law 365 (.aload_n 0) 1 366 9 := ⟨by decide +kernel, rfl, rfl⟩
theorem d_L_law_366 : nD YL_law 366 (.iload_n 3) 1 367 9 := ⟨by decide +kernel, rfl, rfl⟩
theorem d_L_law_367 : nD YL_law 367 (.iconst 3) 1 368 9 := ⟨by decide +kernel, rfl, rfl⟩
theorem d_L_law_368 : nD YL_law 368 (.iadd) 1 369 9 := ⟨by decide +kernel, rfl, rfl⟩
theorem d_L_law_369 : nD YL_law 369 (.iaload) 1 370 9 := ⟨by decide +kernel, rfl, rfl⟩
theorem d_L_law_370 : nD YL_law 370 (.aload_n 0) 1 371 9 := ⟨by decide +kernel, rfl, rfl⟩
theorem d_L_law_371 : nD YL_law 371 (.iload_n 3) 1 372 9 := ⟨by decide +kernel, rfl, rfl⟩
theorem d_L_law_372 : nD YL_law 372 (.iconst 4) 1 373 9 := ⟨by decide +kernel, rfl, rfl⟩
theorem d_L_law_373 : nD YL_law 373 (.iadd) 1 374 9 := ⟨by decide +kernel, rfl, rfl⟩
theorem d_L_law_374 : nD YL_law 374 (.iaload) 1 375 9 := ⟨by decide +kernel, rfl, rfl⟩
theorem d_L_law_375 : nD YL_law 375 (.invokevirtual 37) 3 378 9 := ⟨by decide +kernel, rfl, rfl⟩
theorem d_L_law_378 : nD YL_law 378 (.lcmp) 1 379 9 := ⟨by decide +kernel, rfl, rfl⟩
theorem d_L_law_379 : nD YL_law 379 (.ifCond .eq 954) 3 382 9 := ⟨by decide +kernel, rfl, rfl⟩
theorem d_L_law_382 : nD YL_law 382 (.iconst 0) 1 383 9 := ⟨by decide +kernel, rfl, rfl⟩
theorem d_L_law_383 : nD YL_law 383 (.ireturn) 1 384 9 := ⟨by decide +kernel, rfl, rfl⟩
theorem d_L_law_384 : nD YL_law 384 (.aload_n 1) 1 385 9 := ⟨by decide +kernel, rfl, rfl⟩
theorem d_L_law_385 : nD YL_law 385 (.aload_n 0) 1 386 9 := ⟨by decide +kernel, rfl, rfl⟩
theorem d_L_law_386 : nD YL_law 386 (.iload_n 3) 1 387 9 := ⟨by decide +kernel, rfl, rfl⟩
theorem d_L_law_387 : nD YL_law 387 (.iconst 1) 1 388 9 := ⟨by decide +kernel, rfl, rfl⟩
theorem d_L_law_388 : nD YL_law 388 (.iadd) 1 389 9 := ⟨by decide +kernel, rfl, rfl⟩
theorem d_L_law_389 : nD YL_law 389 (.iaload) 1 390 9 := ⟨by decide +kernel, rfl, rfl⟩
theorem d_L_law_390 : nD YL_law 390 (.aload_n 0) 1 391 9 := ⟨by decide +kernel, rfl, rfl⟩
theorem d_L_law_391 : nD YL_law 391 (.iload_n 3) 1 392 9 := ⟨by decide +kernel, rfl, rfl⟩
theorem d_L_law_392 : nD YL_law 392 (.iconst 2) 1 393 9 := ⟨by decide +kernel, rfl, rfl⟩
theorem d_L_law_393 : nD YL_law 393 (.iadd) 1 394 9 := ⟨by decide +kernel, rfl, rfl⟩
theorem d_L_law_394 : nD YL_law 394 (.iaload) 1 395 9 := ⟨by decide +kernel, rfl, rfl⟩
theorem d_L_law_395 : nD YL_law 395 (.invokevirtual 38) 3 398 9 := ⟨by decide +kernel, rfl, rfl⟩
theorem d_L_law_398 : nD YL_law 398 (.aload_n 2) 1 399 9 := ⟨by decide +kernel, rfl, rfl⟩
theorem d_L_law_399 : nD YL_law 399 (.aload_n 0) 1 400 9 := ⟨by decide +kernel, rfl, rfl⟩
theorem d_L_law_400 : nD YL_law 400 (.iload_n 3) 1 401 9 := ⟨by decide +kernel, rfl, rfl⟩
theorem d_L_law_401 : nD YL_law 401 (.iconst 1) 1 402 9 := ⟨by decide +kernel, rfl, rfl⟩
theorem d_L_law_402 : nD YL_law 402 (.iadd) 1 403 9 := ⟨by decide +kernel, rfl, rfl⟩
theorem d_L_law_403 : nD YL_law 403 (.iaload) 1 404 9 := ⟨by decide +kernel, rfl, rfl⟩
theorem d_L_law_404 : nD YL_law 404 (.aload_n 0) 1 405 9 := ⟨by decide +kernel, rfl, rfl⟩
theorem d_L_law_405 : nD YL_law 405 (.iload_n 3) 1 406 9 := ⟨by decide +kernel, rfl, rfl⟩
theorem d_L_law_406 : nD YL_law 406 (.iconst 2) 1 407 9 := ⟨by decide +kernel, rfl, rfl⟩
theorem d_L_law_407 : nD YL_law 407 (.iadd) 1 408 9 := ⟨by decide +kernel, rfl, rfl⟩
theorem d_L_law_408 : nD YL_law 408 (.iaload) 1 409 9 := ⟨by decide +kernel, rfl, rfl⟩
theorem d_L_law_409 : nD YL_law 409 (.invokevirtual 42) 3 412 9 := ⟨by decide +kernel, rfl, rfl⟩
theorem d_L_law_412 : nD YL_law 412 (.if_icmp .eq 921) 3 415 9 := ⟨by decide +kernel, rfl, rfl⟩
theorem d_L_law_415 : nD YL_law 415 (.iconst 0) 1 416 9 := ⟨by decide +kernel, rfl, rfl⟩
theorem d_L_law_416 : nD YL_law 416 (.ireturn) 1 417 9 := ⟨by decide +kernel, rfl, rfl⟩
theorem d_L_law_417 : nD YL_law 417 (.aload_n 1) 1 418 9 := ⟨by decide +kernel, rfl, rfl⟩
theorem d_L_law_418 : nD YL_law 418 (.aload_n 0) 1 419 9 := ⟨by decide +kernel, rfl, rfl⟩
theorem d_L_law_419 : nD YL_law 419 (.iload_n 3) 1 420 9 := ⟨by decide +kernel, rfl, rfl⟩
theorem d_L_law_420 : nD YL_law 420 (.iconst 1) 1 421 9 := ⟨by decide +kernel, rfl, rfl⟩
theorem d_L_law_421 : nD YL_law 421 (.iadd) 1 422 9 := ⟨by decide +kernel, rfl, rfl⟩
theorem d_L_law_422 : nD YL_law 422 (.iaload) 1 423 9 := ⟨by decide +kernel, rfl, rfl⟩
theorem d_L_law_423 : nD YL_law 423 (.aload_n 0) 1 424 9 := ⟨by decide +kernel, rfl, rfl⟩
theorem d_L_law_424 : nD YL_law 424 (.iload_n 3) 1 425 9 := ⟨by decide +kernel, rfl, rfl⟩
theorem d_L_law_425 : nD YL_law 425 (.iconst 2) 1 426 9 := ⟨by decide +kernel, rfl, rfl⟩
theorem d_L_law_426 : nD YL_law 426 (.iadd) 1 427 9 := ⟨by decide +kernel, rfl, rfl⟩
theorem d_L_law_427 : nD YL_law 427 (.iaload) 1 428 9 := ⟨by decide +kernel, rfl, rfl⟩
theorem d_L_law_428 : nD YL_law 428 (.aload_n 0) 1 429 9 := ⟨by decide +kernel, rfl, rfl⟩
theorem d_L_law_429 : nD YL_law 429 (.iload_n 3) 1 430 9 := ⟨by decide +kernel, rfl, rfl⟩
theorem d_L_law_430 : nD YL_law 430 (.iconst 3) 1 431 9 := ⟨by decide +kernel, rfl, rfl⟩
theorem d_L_law_431 : nD YL_law 431 (.iadd) 1 432 9 := ⟨by decide +kernel, rfl, rfl⟩
theorem d_L_law_432 : nD YL_law 432 (.iaload) 1 433 9 := ⟨by decide +kernel, rfl, rfl⟩
theorem d_L_law_433 : nD YL_law 433 (.aload_n 0) 1 434 9 := ⟨by decide +kernel, rfl, rfl⟩
theorem d_L_law_434 : nD YL_law 434 (.iload_n 3) 1 435 9 := ⟨by decide +kernel, rfl, rfl⟩
theorem d_L_law_435 : nD YL_law 435 (.iconst 4) 1 436 9 := ⟨by decide +kernel, rfl, rfl⟩
theorem d_L_law_436 : nD YL_law 436 (.iadd) 1 437 9 := ⟨by decide +kernel, rfl, rfl⟩
theorem d_L_law_437 : nD YL_law 437 (.iaload) 1 438 9 := ⟨by decide +kernel, rfl, rfl⟩
theorem d_L_law_438 : nD YL_law 438 (.invokevirtual 43) 3 441 9 := ⟨by decide +kernel, rfl, rfl⟩
theorem d_L_law_441 : nD YL_law 441 (.aload_n 2) 1 442 9 := ⟨by decide +kernel, rfl, rfl⟩
theorem d_L_law_442 : nD YL_law 442 (.aload_n 0) 1 443 9 := ⟨by decide +kernel, rfl, rfl⟩
theorem d_L_law_443 : nD YL_law 443 (.iload_n 3) 1 444 9 := ⟨by decide +kernel, rfl, rfl⟩
theorem d_L_law_444 : nD YL_law 444 (.iconst 1) 1 445 9 := ⟨by decide +kernel, rfl, rfl⟩
theorem d_L_law_445 : nD YL_law 445 (.iadd) 1 446 9 := ⟨by decide +kernel, rfl, rfl⟩
theorem d_L_law_446 : nD YL_law 446 (.iaload) 1 447 9 := ⟨by decide +kernel, rfl, rfl⟩
theorem d_L_law_447 : nD YL_law 447 (.aload_n 0) 1 448 9 := ⟨by decide +kernel, rfl, rfl⟩
theorem d_L_law_448 : nD YL_law 448 (.iload_n 3) 1 449 9 := ⟨by decide +kernel, rfl, rfl⟩
theorem d_L_law_449 : nD YL_law 449 (.iconst 2) 1 450 9 := ⟨by decide +kernel, rfl, rfl⟩
theorem d_L_law_450 : nD YL_law 450 (.iadd) 1 451 9 := ⟨by decide +kernel, rfl, rfl⟩
theorem d_L_law_451 : nD YL_law 451 (.iaload) 1 452 9 := ⟨by decide +kernel, rfl, rfl⟩
theorem d_L_law_452 : nD YL_law 452 (.aload_n 0) 1 453 9 := ⟨by decide +kernel, rfl, rfl⟩
theorem d_L_law_453 : nD YL_law 453 (.iload_n 3) 1 454 9 := ⟨by decide +kernel, rfl, rfl⟩
theorem d_L_law_454 : nD YL_law 454 (.iconst 3) 1 455 9 := ⟨by decide +kernel, rfl, rfl⟩
theorem d_L_law_455 : nD YL_law 455 (.iadd) 1 456 9 := ⟨by decide +kernel, rfl, rfl⟩
theorem d_L_law_456 : nD YL_law 456 (.iaload) 1 457 9 := ⟨by decide +kernel, rfl, rfl⟩
theorem d_L_law_457 : nD YL_law 457 (.aload_n 0) 1 458 9 := ⟨by decide +kernel, rfl, rfl⟩
theorem d_L_law_458 : nD YL_law 458 (.iload_n 3) 1 459 9 := ⟨by decide +kernel, rfl, rfl⟩
theorem d_L_law_459 : nD YL_law 459 (.iconst 4) 1 460 9 := ⟨by decide +kernel, rfl, rfl⟩
theorem d_L_law_460 : nD YL_law 460 (.iadd) 1 461 9 := ⟨by decide +kernel, rfl, rfl⟩
theorem d_L_law_461 : nD YL_law 461 (.iaload) 1 462 9 := ⟨by decide +kernel, rfl, rfl⟩
theorem d_L_law_462 : nD YL_law 462 (.invokevirtual 46) 3 465 9 := ⟨by decide +kernel, rfl, rfl⟩
theorem d_L_law_465 : nD YL_law 465 (.if_icmp .eq 868) 3 468 9 := ⟨by decide +kernel, rfl, rfl⟩
theorem d_L_law_468 : nD YL_law 468 (.iconst 0) 1 469 9 := ⟨by decide +kernel, rfl, rfl⟩
theorem d_L_law_469 : nD YL_law 469 (.ireturn) 1 470 9 := ⟨by decide +kernel, rfl, rfl⟩
theorem d_L_law_470 : nD YL_law 470 (.aload_n 1) 1 471 9 := ⟨by decide +kernel, rfl, rfl⟩
theorem d_L_law_471 : nD YL_law 471 (.aload_n 0) 1 472 9 := ⟨by decide +kernel, rfl, rfl⟩
theorem d_L_law_472 : nD YL_law 472 (.iload_n 3) 1 473 9 := ⟨by decide +kernel, rfl, rfl⟩
theorem d_L_law_473 : nD YL_law 473 (.iconst 1) 1 474 9 := ⟨by decide +kernel, rfl, rfl⟩
theorem d_L_law_474 : nD YL_law 474 (.iadd) 1 475 9 := ⟨by decide +kernel, rfl, rfl⟩
theorem d_L_law_475 : nD YL_law 475 (.iaload) 1 476 9 := ⟨by decide +kernel, rfl, rfl⟩
theorem d_L_law_476 : nD YL_law 476 (.aload_n 0) 1 477 9 := ⟨by decide +kernel, rfl, rfl⟩
theorem d_L_law_477 : nD YL_law 477 (.iload_n 3) 1 478 9 := ⟨by decide +kernel, rfl, rfl⟩
theorem d_L_law_478 : nD YL_law 478 (.iconst 2) 1 479 9 := ⟨by decide +kernel, rfl, rfl⟩
theorem d_L_law_479 : nD YL_law 479 (.iadd) 1 480 9 := ⟨by decide +kernel, rfl, rfl⟩
theorem d_L_law_480 : nD YL_law 480 (.iaload) 1 481 9 := ⟨by decide +kernel, rfl, rfl⟩
theorem d_L_law_481 : nD YL_law 481 (.aload_n 0) 1 482 9 := ⟨by decide +kernel, rfl, rfl⟩
theorem d_L_law_482 : nD YL_law 482 (.iload_n 3) 1 483 9 := ⟨by decide +kernel, rfl, rfl⟩
theorem d_L_law_483 : nD YL_law 483 (.iconst 3) 1 484 9 := ⟨by decide +kernel, rfl, rfl⟩
theorem d_L_law_484 : nD YL_law 484 (.iadd) 1 485 9 := ⟨by decide +kernel, rfl, rfl⟩
theorem d_L_law_485 : nD YL_law 485 (.iaload) 1 486 9 := ⟨by decide +kernel, rfl, rfl⟩
theorem d_L_law_486 : nD YL_law 486 (.aload_n 0) 1 487 9 := ⟨by decide +kernel, rfl, rfl⟩
theorem d_L_law_487 : nD YL_law 487 (.iload_n 3) 1 488 9 := ⟨by decide +kernel, rfl, rfl⟩
theorem d_L_law_488 : nD YL_law 488 (.iconst 4) 1 489 9 := ⟨by decide +kernel, rfl, rfl⟩
theorem d_L_law_489 : nD YL_law 489 (.iadd) 1 490 9 := ⟨by decide +kernel, rfl, rfl⟩
theorem d_L_law_490 : nD YL_law 490 (.iaload) 1 491 9 := ⟨by decide +kernel, rfl, rfl⟩
theorem d_L_law_491 : nD YL_law 491 (.aload_n 0) 1 492 9 := ⟨by decide +kernel, rfl, rfl⟩
theorem d_L_law_492 : nD YL_law 492 (.iload_n 3) 1 493 9 := ⟨by decide +kernel, rfl, rfl⟩
theorem d_L_law_493 : nD YL_law 493 (.iconst 5) 1 494 9 := ⟨by decide +kernel, rfl, rfl⟩
theorem d_L_law_494 : nD YL_law 494 (.iadd) 1 495 9 := ⟨by decide +kernel, rfl, rfl⟩
theorem d_L_law_495 : nD YL_law 495 (.iaload) 1 496 9 := ⟨by decide +kernel, rfl, rfl⟩
theorem d_L_law_496 : nD YL_law 496 (.ifCond .eq 7) 3 499 9 := ⟨by decide +kernel, rfl, rfl⟩
theorem d_L_law_499 : nD YL_law 499 (.iconst 1) 1 500 9 := ⟨by decide +kernel, rfl, rfl⟩
theorem d_L_law_500 : nD YL_law 500 (.goto 4) 3 503 9 := ⟨by decide +kernel, rfl, rfl⟩
theorem d_L_law_503 : nD YL_law 503 (.iconst 0) 1 504 9 := ⟨by decide +kernel, rfl, rfl⟩
theorem d_L_law_504 : nD YL_law 504 (.invokevirtual 47) 3 507 9 := ⟨by decide +kernel, rfl, rfl⟩
theorem d_L_law_507 : nD YL_law 507 (.aload_n 2) 1 508 9 := ⟨by decide +kernel, rfl, rfl⟩
theorem d_L_law_508 : nD YL_law 508 (.aload_n 0) 1 509 9 := ⟨by decide +kernel, rfl, rfl⟩
theorem d_L_law_509 : nD YL_law 509 (.iload_n 3) 1 510 9 := ⟨by decide +kernel, rfl, rfl⟩
theorem d_L_law_510 : nD YL_law 510 (.iconst 1) 1 511 9 := ⟨by decide +kernel, rfl, rfl⟩
theorem d_L_law_511 : nD YL_law 511 (.iadd) 1 512 9 := ⟨by decide +kernel, rfl, rfl⟩
theorem d_L_law_512 : nD YL_law 512 (.iaload) 1 513 9 := ⟨by decide +kernel, rfl, rfl⟩
theorem d_L_law_513 : nD YL_law 513 (.aload_n 0) 1 514 9 := ⟨by decide +kernel, rfl, rfl⟩
theorem d_L_law_514 : nD YL_law 514 (.iload_n 3) 1 515 9 := ⟨by decide +kernel, rfl, rfl⟩
theorem d_L_law_515 : nD YL_law 515 (.iconst 2) 1 516 9 := ⟨by decide +kernel, rfl, rfl⟩
theorem d_L_law_516 : nD YL_law 516 (.iadd) 1 517 9 := ⟨by decide +kernel, rfl, rfl⟩
theorem d_L_law_517 : nD YL_law 517 (.iaload) 1 518 9 := ⟨by decide +kernel, rfl, rfl⟩
theorem d_L_law_518 : nD YL_law 518 (.aload_n 0) 1 519 9 := ⟨by decide +kernel, rfl, rfl⟩
theorem d_L_law_519 : nD YL_law 519 (.iload_n 3) 1 520 9 := ⟨by decide +kernel, rfl, rfl⟩
theorem d_L_law_520 : nD YL_law 520 (.iconst 3) 1 521 9 := ⟨by decide +kernel, rfl, rfl⟩
theorem d_L_law_521 : nD YL_law 521 (.iadd) 1 522 9 := ⟨by decide +kernel, rfl, rfl⟩
theorem d_L_law_522 : nD YL_law 522 (.iaload) 1 523 9 := ⟨by decide +kernel, rfl, rfl⟩
theorem d_L_law_523 : nD YL_law 523 (.aload_n 0) 1 524 9 := ⟨by decide +kernel, rfl, rfl⟩
theorem d_L_law_524 : nD YL_law 524 (.iload_n 3) 1 525 9 := ⟨by decide +kernel, rfl, rfl⟩
theorem d_L_law_525 : nD YL_law 525 (.iconst 4) 1 526 9 := ⟨by decide +kernel, rfl, rfl⟩
theorem d_L_law_526 : nD YL_law 526 (.iadd) 1 527 9 := ⟨by decide +kernel, rfl, rfl⟩
theorem d_L_law_527 : nD YL_law 527 (.iaload) 1 528 9 := ⟨by decide +kernel, rfl, rfl⟩
theorem d_L_law_528 : nD YL_law 528 (.aload_n 0) 1 529 9 := ⟨by decide +kernel, rfl, rfl⟩
theorem d_L_law_529 : nD YL_law 529 (.iload_n 3) 1 530 9 := ⟨by decide +kernel, rfl, rfl⟩
theorem d_L_law_530 : nD YL_law 530 (.iconst 5) 1 531 9 := ⟨by decide +kernel, rfl, rfl⟩
theorem d_L_law_531 : nD YL_law 531 (.iadd) 1 532 9 := ⟨by decide +kernel, rfl, rfl⟩
theorem d_L_law_532 : nD YL_law 532 (.iaload) 1 533 9 := ⟨by decide +kernel, rfl, rfl⟩
theorem d_L_law_533 : nD YL_law 533 (.ifCond .eq 7) 3 536 9 := ⟨by decide +kernel, rfl, rfl⟩
theorem d_L_law_536 : nD YL_law 536 (.iconst 1) 1 537 9 := ⟨by decide +kernel, rfl, rfl⟩
theorem d_L_law_537 : nD YL_law 537 (.goto 4) 3 540 9 := ⟨by decide +kernel, rfl, rfl⟩
theorem d_L_law_540 : nD YL_law 540 (.iconst 0) 1 541 9 := ⟨by decide +kernel, rfl, rfl⟩
theorem d_L_law_541 : nD YL_law 541 (.invokevirtual 51) 3 544 9 := ⟨by decide +kernel, rfl, rfl⟩
theorem d_L_law_544 : nD YL_law 544 (.if_icmp .eq 789) 3 547 9 := ⟨by decide +kernel, rfl, rfl⟩
theorem d_L_law_547 : nD YL_law 547 (.iconst 0) 1 548 9 := ⟨by decide +kernel, rfl, rfl⟩
theorem d_L_law_548 : nD YL_law 548 (.ireturn) 1 549 9 := ⟨by decide +kernel, rfl, rfl⟩
theorem d_L_law_549 : nD YL_law 549 (.aload_n 1) 1 550 9 := ⟨by decide +kernel, rfl, rfl⟩
theorem d_L_law_550 : nD YL_law 550 (.aload_n 0) 1 551 9 := ⟨by decide +kernel, rfl, rfl⟩
theorem d_L_law_551 : nD YL_law 551 (.iload_n 3) 1 552 9 := ⟨by decide +kernel, rfl, rfl⟩
theorem d_L_law_552 : nD YL_law 552 (.iconst 1) 1 553 9 := ⟨by decide +kernel, rfl, rfl⟩
theorem d_L_law_553 : nD YL_law 553 (.iadd) 1 554 9 := ⟨by decide +kernel, rfl, rfl⟩
theorem d_L_law_554 : nD YL_law 554 (.iaload) 1 555 9 := ⟨by decide +kernel, rfl, rfl⟩
theorem d_L_law_555 : nD YL_law 555 (.aload_n 0) 1 556 9 := ⟨by decide +kernel, rfl, rfl⟩
theorem d_L_law_556 : nD YL_law 556 (.iload_n 3) 1 557 9 := ⟨by decide +kernel, rfl, rfl⟩
theorem d_L_law_557 : nD YL_law 557 (.iconst 2) 1 558 9 := ⟨by decide +kernel, rfl, rfl⟩
theorem d_L_law_558 : nD YL_law 558 (.iadd) 1 559 9 := ⟨by decide +kernel, rfl, rfl⟩
theorem d_L_law_559 : nD YL_law 559 (.iaload) 1 560 9 := ⟨by decide +kernel, rfl, rfl⟩
theorem d_L_law_560 : nD YL_law 560 (.aload_n 0) 1 561 9 := ⟨by decide +kernel, rfl, rfl⟩
theorem d_L_law_561 : nD YL_law 561 (.iload_n 3) 1 562 9 := ⟨by decide +kernel, rfl, rfl⟩
theorem d_L_law_562 : nD YL_law 562 (.iconst 3) 1 563 9 := ⟨by decide +kernel, rfl, rfl⟩
theorem d_L_law_563 : nD YL_law 563 (.iadd) 1 564 9 := ⟨by decide +kernel, rfl, rfl⟩
theorem d_L_law_564 : nD YL_law 564 (.iaload) 1 565 9 := ⟨by decide +kernel, rfl, rfl⟩
theorem d_L_law_565 : nD YL_law 565 (.invokevirtual 52) 3 568 9 := ⟨by decide +kernel, rfl, rfl⟩
theorem d_L_law_568 : nD YL_law 568 (.aload_n 2) 1 569 9 := ⟨by decide +kernel, rfl, rfl⟩
theorem d_L_law_569 : nD YL_law 569 (.aload_n 0) 1 570 9 := ⟨by decide +kernel, rfl, rfl⟩
theorem d_L_law_570 : nD YL_law 570 (.iload_n 3) 1 571 9 := ⟨by decide +kernel, rfl, rfl⟩
theorem d_L_law_571 : nD YL_law 571 (.iconst 1) 1 572 9 := ⟨by decide +kernel, rfl, rfl⟩
theorem d_L_law_572 : nD YL_law 572 (.iadd) 1 573 9 := ⟨by decide +kernel, rfl, rfl⟩
theorem d_L_law_573 : nD YL_law 573 (.iaload) 1 574 9 := ⟨by decide +kernel, rfl, rfl⟩
theorem d_L_law_574 : nD YL_law 574 (.aload_n 0) 1 575 9 := ⟨by decide +kernel, rfl, rfl⟩
theorem d_L_law_575 : nD YL_law 575 (.iload_n 3) 1 576 9 := ⟨by decide +kernel, rfl, rfl⟩
theorem d_L_law_576 : nD YL_law 576 (.iconst 2) 1 577 9 := ⟨by decide +kernel, rfl, rfl⟩
theorem d_L_law_577 : nD YL_law 577 (.iadd) 1 578 9 := ⟨by decide +kernel, rfl, rfl⟩
theorem d_L_law_578 : nD YL_law 578 (.iaload) 1 579 9 := ⟨by decide +kernel, rfl, rfl⟩
theorem d_L_law_579 : nD YL_law 579 (.aload_n 0) 1 580 9 := ⟨by decide +kernel, rfl, rfl⟩
theorem d_L_law_580 : nD YL_law 580 (.iload_n 3) 1 581 9 := ⟨by decide +kernel, rfl, rfl⟩
theorem d_L_law_581 : nD YL_law 581 (.iconst 3) 1 582 9 := ⟨by decide +kernel, rfl, rfl⟩
theorem d_L_law_582 : nD YL_law 582 (.iadd) 1 583 9 := ⟨by decide +kernel, rfl, rfl⟩
theorem d_L_law_583 : nD YL_law 583 (.iaload) 1 584 9 := ⟨by decide +kernel, rfl, rfl⟩
theorem d_L_law_584 : nD YL_law 584 (.invokevirtual 55) 3 587 9 := ⟨by decide +kernel, rfl, rfl⟩
theorem d_L_law_587 : nD YL_law 587 (.if_icmp .eq 746) 3 590 9 := ⟨by decide +kernel, rfl, rfl⟩
theorem d_L_law_590 : nD YL_law 590 (.iconst 0) 1 591 9 := ⟨by decide +kernel, rfl, rfl⟩
theorem d_L_law_591 : nD YL_law 591 (.ireturn) 1 592 9 := ⟨by decide +kernel, rfl, rfl⟩
theorem d_L_law_592 : nD YL_law 592 (.aload_n 1) 1 593 9 := ⟨by decide +kernel, rfl, rfl⟩
theorem d_L_law_593 : nD YL_law 593 (.aload_n 0) 1 594 9 := ⟨by decide +kernel, rfl, rfl⟩
theorem d_L_law_594 : nD YL_law 594 (.iload_n 3) 1 595 9 := ⟨by decide +kernel, rfl, rfl⟩
theorem d_L_law_595 : nD YL_law 595 (.iconst 1) 1 596 9 := ⟨by decide +kernel, rfl, rfl⟩
theorem d_L_law_596 : nD YL_law 596 (.iadd) 1 597 9 := ⟨by decide +kernel, rfl, rfl⟩
theorem d_L_law_597 : nD YL_law 597 (.iaload) 1 598 9 := ⟨by decide +kernel, rfl, rfl⟩
theorem d_L_law_598 : nD YL_law 598 (.aload_n 0) 1 599 9 := ⟨by decide +kernel, rfl, rfl⟩
theorem d_L_law_599 : nD YL_law 599 (.iload_n 3) 1 600 9 := ⟨by decide +kernel, rfl, rfl⟩
theorem d_L_law_600 : nD YL_law 600 (.iconst 2) 1 601 9 := ⟨by decide +kernel, rfl, rfl⟩
theorem d_L_law_601 : nD YL_law 601 (.iadd) 1 602 9 := ⟨by decide +kernel, rfl, rfl⟩
theorem d_L_law_602 : nD YL_law 602 (.iaload) 1 603 9 := ⟨by decide +kernel, rfl, rfl⟩
theorem d_L_law_603 : nD YL_law 603 (.invokevirtual 56) 3 606 9 := ⟨by decide +kernel, rfl, rfl⟩
theorem d_L_law_606 : nD YL_law 606 (.aload_n 2) 1 607 9 := ⟨by decide +kernel, rfl, rfl⟩
theorem d_L_law_607 : nD YL_law 607 (.aload_n 0) 1 608 9 := ⟨by decide +kernel, rfl, rfl⟩
theorem d_L_law_608 : nD YL_law 608 (.iload_n 3) 1 609 9 := ⟨by decide +kernel, rfl, rfl⟩
theorem d_L_law_609 : nD YL_law 609 (.iconst 1) 1 610 9 := ⟨by decide +kernel, rfl, rfl⟩
theorem d_L_law_610 : nD YL_law 610 (.iadd) 1 611 9 := ⟨by decide +kernel, rfl, rfl⟩
theorem d_L_law_611 : nD YL_law 611 (.iaload) 1 612 9 := ⟨by decide +kernel, rfl, rfl⟩
theorem d_L_law_612 : nD YL_law 612 (.aload_n 0) 1 613 9 := ⟨by decide +kernel, rfl, rfl⟩
theorem d_L_law_613 : nD YL_law 613 (.iload_n 3) 1 614 9 := ⟨by decide +kernel, rfl, rfl⟩
theorem d_L_law_614 : nD YL_law 614 (.iconst 2) 1 615 9 := ⟨by decide +kernel, rfl, rfl⟩
theorem d_L_law_615 : nD YL_law 615 (.iadd) 1 616 9 := ⟨by decide +kernel, rfl, rfl⟩
theorem d_L_law_616 : nD YL_law 616 (.iaload) 1 617 9 := ⟨by decide +kernel, rfl, rfl⟩
theorem d_L_law_617 : nD YL_law 617 (.invokevirtual 60) 3 620 9 := ⟨by decide +kernel, rfl, rfl⟩
theorem d_L_law_620 : nD YL_law 620 (.if_icmp .eq 713) 3 623 9 := ⟨by decide +kernel, rfl, rfl⟩
theorem d_L_law_623 : nD YL_law 623 (.iconst 0) 1 624 9 := ⟨by decide +kernel, rfl, rfl⟩
theorem d_L_law_624 : nD YL_law 624 (.ireturn) 1 625 9 := ⟨by decide +kernel, rfl, rfl⟩
theorem d_L_law_625 : nD YL_law 625 (.aload_n 1) 1 626 9 := ⟨by decide +kernel, rfl, rfl⟩
theorem d_L_law_626 : nD YL_law 626 (.aload_n 0) 1 627 9 := ⟨by decide +kernel, rfl, rfl⟩
theorem d_L_law_627 : nD YL_law 627 (.iload_n 3) 1 628 9 := ⟨by decide +kernel, rfl, rfl⟩
theorem d_L_law_628 : nD YL_law 628 (.iconst 1) 1 629 9 := ⟨by decide +kernel, rfl, rfl⟩
theorem d_L_law_629 : nD YL_law 629 (.iadd) 1 630 9 := ⟨by decide +kernel, rfl, rfl⟩
theorem d_L_law_630 : nD YL_law 630 (.iaload) 1 631 9 := ⟨by decide +kernel, rfl, rfl⟩
theorem d_L_law_631 : nD YL_law 631 (.aload_n 0) 1 632 9 := ⟨by decide +kernel, rfl, rfl⟩
theorem d_L_law_632 : nD YL_law 632 (.iload_n 3) 1 633 9 := ⟨by decide +kernel, rfl, rfl⟩
theorem d_L_law_633 : nD YL_law 633 (.iconst 2) 1 634 9 := ⟨by decide +kernel, rfl, rfl⟩
theorem d_L_law_634 : nD YL_law 634 (.iadd) 1 635 9 := ⟨by decide +kernel, rfl, rfl⟩
theorem d_L_law_635 : nD YL_law 635 (.iaload) 1 636 9 := ⟨by decide +kernel, rfl, rfl⟩
theorem d_L_law_636 : nD YL_law 636 (.aload_n 0) 1 637 9 := ⟨by decide +kernel, rfl, rfl⟩
theorem d_L_law_637 : nD YL_law 637 (.iload_n 3) 1 638 9 := ⟨by decide +kernel, rfl, rfl⟩
theorem d_L_law_638 : nD YL_law 638 (.iconst 3) 1 639 9 := ⟨by decide +kernel, rfl, rfl⟩
theorem d_L_law_639 : nD YL_law 639 (.iadd) 1 640 9 := ⟨by decide +kernel, rfl, rfl⟩
theorem d_L_law_640 : nD YL_law 640 (.iaload) 1 641 9 := ⟨by decide +kernel, rfl, rfl⟩
theorem d_L_law_641 : nD YL_law 641 (.aload_n 0) 1 642 9 := ⟨by decide +kernel, rfl, rfl⟩
theorem d_L_law_642 : nD YL_law 642 (.iload_n 3) 1 643 9 := ⟨by decide +kernel, rfl, rfl⟩
theorem d_L_law_643 : nD YL_law 643 (.iconst 4) 1 644 9 := ⟨by decide +kernel, rfl, rfl⟩
theorem d_L_law_644 : nD YL_law 644 (.iadd) 1 645 9 := ⟨by decide +kernel, rfl, rfl⟩
theorem d_L_law_645 : nD YL_law 645 (.iaload) 1 646 9 := ⟨by decide +kernel, rfl, rfl⟩
theorem d_L_law_646 : nD YL_law 646 (.ifCond .eq 7) 3 649 9 := ⟨by decide +kernel, rfl, rfl⟩
theorem d_L_law_649 : nD YL_law 649 (.iconst 1) 1 650 9 := ⟨by decide +kernel, rfl, rfl⟩
theorem d_L_law_650 : nD YL_law 650 (.goto 4) 3 653 9 := ⟨by decide +kernel, rfl, rfl⟩
theorem d_L_law_653 : nD YL_law 653 (.iconst 0) 1 654 9 := ⟨by decide +kernel, rfl, rfl⟩
theorem d_L_law_654 : nD YL_law 654 (.invokevirtual 61) 3 657 9 := ⟨by decide +kernel, rfl, rfl⟩
theorem d_L_law_657 : nD YL_law 657 (.aload_n 2) 1 658 9 := ⟨by decide +kernel, rfl, rfl⟩
theorem d_L_law_658 : nD YL_law 658 (.aload_n 0) 1 659 9 := ⟨by decide +kernel, rfl, rfl⟩
theorem d_L_law_659 : nD YL_law 659 (.iload_n 3) 1 660 9 := ⟨by decide +kernel, rfl, rfl⟩
theorem d_L_law_660 : nD YL_law 660 (.iconst 1) 1 661 9 := ⟨by decide +kernel, rfl, rfl⟩
theorem d_L_law_661 : nD YL_law 661 (.iadd) 1 662 9 := ⟨by decide +kernel, rfl, rfl⟩
theorem d_L_law_662 : nD YL_law 662 (.iaload) 1 663 9 := ⟨by decide +kernel, rfl, rfl⟩
theorem d_L_law_663 : nD YL_law 663 (.aload_n 0) 1 664 9 := ⟨by decide +kernel, rfl, rfl⟩
theorem d_L_law_664 : nD YL_law 664 (.iload_n 3) 1 665 9 := ⟨by decide +kernel, rfl, rfl⟩
theorem d_L_law_665 : nD YL_law 665 (.iconst 2) 1 666 9 := ⟨by decide +kernel, rfl, rfl⟩
theorem d_L_law_666 : nD YL_law 666 (.iadd) 1 667 9 := ⟨by decide +kernel, rfl, rfl⟩
theorem d_L_law_667 : nD YL_law 667 (.iaload) 1 668 9 := ⟨by decide +kernel, rfl, rfl⟩
theorem d_L_law_668 : nD YL_law 668 (.aload_n 0) 1 669 9 := ⟨by decide +kernel, rfl, rfl⟩
theorem d_L_law_669 : nD YL_law 669 (.iload_n 3) 1 670 9 := ⟨by decide +kernel, rfl, rfl⟩
theorem d_L_law_670 : nD YL_law 670 (.iconst 3) 1 671 9 := ⟨by decide +kernel, rfl, rfl⟩
theorem d_L_law_671 : nD YL_law 671 (.iadd) 1 672 9 := ⟨by decide +kernel, rfl, rfl⟩
theorem d_L_law_672 : nD YL_law 672 (.iaload) 1 673 9 := ⟨by decide +kernel, rfl, rfl⟩
theorem d_L_law_673 : nD YL_law 673 (.aload_n 0) 1 674 9 := ⟨by decide +kernel, rfl, rfl⟩
theorem d_L_law_674 : nD YL_law 674 (.iload_n 3) 1 675 9 := ⟨by decide +kernel, rfl, rfl⟩
theorem d_L_law_675 : nD YL_law 675 (.iconst 4) 1 676 9 := ⟨by decide +kernel, rfl, rfl⟩
theorem d_L_law_676 : nD YL_law 676 (.iadd) 1 677 9 := ⟨by decide +kernel, rfl, rfl⟩
theorem d_L_law_677 : nD YL_law 677 (.iaload) 1 678 9 := ⟨by decide +kernel, rfl, rfl⟩
theorem d_L_law_678 : nD YL_law 678 (.ifCond .eq 7) 3 681 9 := ⟨by decide +kernel, rfl, rfl⟩
theorem d_L_law_681 : nD YL_law 681 (.iconst 1) 1 682 9 := ⟨by decide +kernel, rfl, rfl⟩
theorem d_L_law_682 : nD YL_law 682 (.goto 4) 3 685 9 := ⟨by decide +kernel, rfl, rfl⟩
theorem d_L_law_685 : nD YL_law 685 (.iconst 0) 1 686 9 := ⟨by decide +kernel, rfl, rfl⟩
theorem d_L_law_686 : nD YL_law 686 (.invokevirtual 65) 3 689 9 := ⟨by decide +kernel, rfl, rfl⟩
theorem d_L_law_689 : nD YL_law 689 (.if_icmp .eq 644) 3 692 9 := ⟨by decide +kernel, rfl, rfl⟩
theorem d_L_law_692 : nD YL_law 692 (.iconst 0) 1 693 9 := ⟨by decide +kernel, rfl, rfl⟩
theorem d_L_law_693 : nD YL_law 693 (.ireturn) 1 694 9 := ⟨by decide +kernel, rfl, rfl⟩
theorem d_L_law_694 : nD YL_law 694 (.aload_n 1) 1 695 9 := ⟨by decide +kernel, rfl, rfl⟩
theorem d_L_law_695 : nD YL_law 695 (.aload_n 0) 1 696 9 := ⟨by decide +kernel, rfl, rfl⟩
theorem d_L_law_696 : nD YL_law 696 (.iload_n 3) 1 697 9 := ⟨by decide +kernel, rfl, rfl⟩
theorem d_L_law_697 : nD YL_law 697 (.iconst 1) 1 698 9 := ⟨by decide +kernel, rfl, rfl⟩
theorem d_L_law_698 : nD YL_law 698 (.iadd) 1 699 9 := ⟨by decide +kernel, rfl, rfl⟩
theorem d_L_law_699 : nD YL_law 699 (.iaload) 1 700 9 := ⟨by decide +kernel, rfl, rfl⟩
theorem d_L_law_700 : nD YL_law 700 (.aload_n 0) 1 701 9 := ⟨by decide +kernel, rfl, rfl⟩
theorem d_L_law_701 : nD YL_law 701 (.iload_n 3) 1 702 9 := ⟨by decide +kernel, rfl, rfl⟩
theorem d_L_law_702 : nD YL_law 702 (.iconst 2) 1 703 9 := ⟨by decide +kernel, rfl, rfl⟩
theorem d_L_law_703 : nD YL_law 703 (.iadd) 1 704 9 := ⟨by decide +kernel, rfl, rfl⟩
theorem d_L_law_704 : nD YL_law 704 (.iaload) 1 705 9 := ⟨by decide +kernel, rfl, rfl⟩
theorem d_L_law_705 : nD YL_law 705 (.aload_n 0) 1 706 9 := ⟨by decide +kernel, rfl, rfl⟩
theorem d_L_law_706 : nD YL_law 706 (.iload_n 3) 1 707 9 := ⟨by decide +kernel, rfl, rfl⟩
theorem d_L_law_707 : nD YL_law 707 (.iconst 3) 1 708 9 := ⟨by decide +kernel, rfl, rfl⟩
theorem d_L_law_708 : nD YL_law 708 (.iadd) 1 709 9 := ⟨by decide +kernel, rfl, rfl⟩
theorem d_L_law_709 : nD YL_law 709 (.iaload) 1 710 9 := ⟨by decide +kernel, rfl, rfl⟩
theorem d_L_law_710 : nD YL_law 710 (.invokevirtual 66) 3 713 9 := ⟨by decide +kernel, rfl, rfl⟩
theorem d_L_law_713 : nD YL_law 713 (.aload_n 2) 1 714 9 := ⟨by decide +kernel, rfl, rfl⟩
theorem d_L_law_714 : nD YL_law 714 (.aload_n 0) 1 715 9 := ⟨by decide +kernel, rfl, rfl⟩
theorem d_L_law_715 : nD YL_law 715 (.iload_n 3) 1 716 9 := ⟨by decide +kernel, rfl, rfl⟩
theorem d_L_law_716 : nD YL_law 716 (.iconst 1) 1 717 9 := ⟨by decide +kernel, rfl, rfl⟩
theorem d_L_law_717 : nD YL_law 717 (.iadd) 1 718 9 := ⟨by decide +kernel, rfl, rfl⟩
theorem d_L_law_718 : nD YL_law 718 (.iaload) 1 719 9 := ⟨by decide +kernel, rfl, rfl⟩
theorem d_L_law_719 : nD YL_law 719 (.aload_n 0) 1 720 9 := ⟨by decide +kernel, rfl, rfl⟩
theorem d_L_law_720 : nD YL_law 720 (.iload_n 3) 1 721 9 := ⟨by decide +kernel, rfl, rfl⟩
theorem d_L_law_721 : nD YL_law 721 (.iconst 2) 1 722 9 := ⟨by decide +kernel, rfl, rfl⟩
theorem d_L_law_722 : nD YL_law 722 (.iadd) 1 723 9 := ⟨by decide +kernel, rfl, rfl⟩
theorem d_L_law_723 : nD YL_law 723 (.iaload) 1 724 9 := ⟨by decide +kernel, rfl, rfl⟩
theorem d_L_law_724 : nD YL_law 724 (.aload_n 0) 1 725 9 := ⟨by decide +kernel, rfl, rfl⟩
theorem d_L_law_725 : nD YL_law 725 (.iload_n 3) 1 726 9 := ⟨by decide +kernel, rfl, rfl⟩
theorem d_L_law_726 : nD YL_law 726 (.iconst 3) 1 727 9 := ⟨by decide +kernel, rfl, rfl⟩
theorem d_L_law_727 : nD YL_law 727 (.iadd) 1 728 9 := ⟨by decide +kernel, rfl, rfl⟩
theorem d_L_law_728 : nD YL_law 728 (.iaload) 1 729 9 := ⟨by decide +kernel, rfl, rfl⟩
theorem d_L_law_729 : nD YL_law 729 (.invokevirtual 69) 3 732 9 := ⟨by decide +kernel, rfl, rfl⟩
theorem d_L_law_732 : nD YL_law 732 (.if_icmp .eq 601) 3 735 9 := ⟨by decide +kernel, rfl, rfl⟩
theorem d_L_law_735 : nD YL_law 735 (.iconst 0) 1 736 9 := ⟨by decide +kernel, rfl, rfl⟩
theorem d_L_law_736 : nD YL_law 736 (.ireturn) 1 737 9 := ⟨by decide +kernel, rfl, rfl⟩
theorem d_L_law_737 : nD YL_law 737 (.aload_n 1) 1 738 9 := ⟨by decide +kernel, rfl, rfl⟩
theorem d_L_law_738 : nD YL_law 738 (.aload_n 0) 1 739 9 := ⟨by decide +kernel, rfl, rfl⟩
theorem d_L_law_739 : nD YL_law 739 (.iload_n 3) 1 740 9 := ⟨by decide +kernel, rfl, rfl⟩
theorem d_L_law_740 : nD YL_law 740 (.iconst 1) 1 741 9 := ⟨by decide +kernel, rfl, rfl⟩
theorem d_L_law_741 : nD YL_law 741 (.iadd) 1 742 9 := ⟨by decide +kernel, rfl, rfl⟩
theorem d_L_law_742 : nD YL_law 742 (.iaload) 1 743 9 := ⟨by decide +kernel, rfl, rfl⟩
theorem d_L_law_743 : nD YL_law 743 (.aload_n 0) 1 744 9 := ⟨by decide +kernel, rfl, rfl⟩
theorem d_L_law_744 : nD YL_law 744 (.iload_n 3) 1 745 9 := ⟨by decide +kernel, rfl, rfl⟩
theorem d_L_law_745 : nD YL_law 745 (.iconst 2) 1 746 9 := ⟨by decide +kernel, rfl, rfl⟩
theorem d_L_law_746 : nD YL_law 746 (.iadd) 1 747 9 := ⟨by decide +kernel, rfl, rfl⟩
theorem d_L_law_747 : nD YL_law 747 (.iaload) 1 748 9 := ⟨by decide +kernel, rfl, rfl⟩
theorem d_L_law_748 : nD YL_law 748 (.invokevirtual 70) 3 751 9 := ⟨by decide +kernel, rfl, rfl⟩
theorem d_L_law_751 : nD YL_law 751 (.aload_n 2) 1 752 9 := ⟨by decide +kernel, rfl, rfl⟩
theorem d_L_law_752 : nD YL_law 752 (.aload_n 0) 1 753 9 := ⟨by decide +kernel, rfl, rfl⟩
theorem d_L_law_753 : nD YL_law 753 (.iload_n 3) 1 754 9 := ⟨by decide +kernel, rfl, rfl⟩
theorem d_L_law_754 : nD YL_law 754 (.iconst 1) 1 755 9 := ⟨by decide +kernel, rfl, rfl⟩
theorem d_L_law_755 : nD YL_law 755 (.iadd) 1 756 9 := ⟨by decide +kernel, rfl, rfl⟩
theorem d_L_law_756 : nD YL_law 756 (.iaload) 1 757 9 := ⟨by decide +kernel, rfl, rfl⟩
theorem d_L_law_757 : nD YL_law 757 (.aload_n 0) 1 758 9 := ⟨by decide +kernel, rfl, rfl⟩
theorem d_L_law_758 : nD YL_law 758 (.iload_n 3) 1 759 9 := ⟨by decide +kernel, rfl, rfl⟩
theorem d_L_law_759 : nD YL_law 759 (.iconst 2) 1 760 9 := ⟨by decide +kernel, rfl, rfl⟩
theorem d_L_law_760 : nD YL_law 760 (.iadd) 1 761 9 := ⟨by decide +kernel, rfl, rfl⟩
theorem d_L_law_761 : nD YL_law 761 (.iaload) 1 762 9 := ⟨by decide +kernel, rfl, rfl⟩
theorem d_L_law_762 : nD YL_law 762 (.invokevirtual 73) 3 765 9 := ⟨by decide +kernel, rfl, rfl⟩
theorem d_L_law_765 : nD YL_law 765 (.if_icmp .eq 568) 3 768 9 := ⟨by decide +kernel, rfl, rfl⟩
theorem d_L_law_768 : nD YL_law 768 (.iconst 0) 1 769 9 := ⟨by decide +kernel, rfl, rfl⟩
theorem d_L_law_769 : nD YL_law 769 (.ireturn) 1 770 9 := ⟨by decide +kernel, rfl, rfl⟩
theorem d_L_law_770 : nD YL_law 770 (.aload_n 1) 1 771 9 := ⟨by decide +kernel, rfl, rfl⟩
theorem d_L_law_771 : nD YL_law 771 (.aload_n 0) 1 772 9 := ⟨by decide +kernel, rfl, rfl⟩
theorem d_L_law_772 : nD YL_law 772 (.iload_n 3) 1 773 9 := ⟨by decide +kernel, rfl, rfl⟩
theorem d_L_law_773 : nD YL_law 773 (.iconst 1) 1 774 9 := ⟨by decide +kernel, rfl, rfl⟩
theorem d_L_law_774 : nD YL_law 774 (.iadd) 1 775 9 := ⟨by decide +kernel, rfl, rfl⟩
theorem d_L_law_775 : nD YL_law 775 (.iaload) 1 776 9 := ⟨by decide +kernel, rfl, rfl⟩
theorem d_L_law_776 : nD YL_law 776 (.aload_n 0) 1 777 9 := ⟨by decide +kernel, rfl, rfl⟩
theorem d_L_law_777 : nD YL_law 777 (.iload_n 3) 1 778 9 := ⟨by decide +kernel, rfl, rfl⟩
theorem d_L_law_778 : nD YL_law 778 (.iconst 2) 1 779 9 := ⟨by decide +kernel, rfl, rfl⟩
theorem d_L_law_779 : nD YL_law 779 (.iadd) 1 780 9 := ⟨by decide +kernel, rfl, rfl⟩
theorem d_L_law_780 : nD YL_law 780 (.iaload) 1 781 9 := ⟨by decide +kernel, rfl, rfl⟩
theorem d_L_law_781 : nD YL_law 781 (.aload_n 0) 1 782 9 := ⟨by decide +kernel, rfl, rfl⟩
theorem d_L_law_782 : nD YL_law 782 (.iload_n 3) 1 783 9 := ⟨by decide +kernel, rfl, rfl⟩
theorem d_L_law_783 : nD YL_law 783 (.iconst 3) 1 784 9 := ⟨by decide +kernel, rfl, rfl⟩
theorem d_L_law_784 : nD YL_law 784 (.iadd) 1 785 9 := ⟨by decide +kernel, rfl, rfl⟩
theorem d_L_law_785 : nD YL_law 785 (.iaload) 1 786 9 := ⟨by decide +kernel, rfl, rfl⟩
theorem d_L_law_786 : nD YL_law 786 (.invokevirtual 74) 3 789 9 := ⟨by decide +kernel, rfl, rfl⟩
theorem d_L_law_789 : nD YL_law 789 (.aload_n 2) 1 790 9 := ⟨by decide +kernel, rfl, rfl⟩
theorem d_L_law_790 : nD YL_law 790 (.aload_n 0) 1 791 9 := ⟨by decide +kernel, rfl, rfl⟩
theorem d_L_law_791 : nD YL_law 791 (.iload_n 3) 1 792 9 := ⟨by decide +kernel, rfl, rfl⟩
theorem d_L_law_792 : nD YL_law 792 (.iconst 1) 1 793 9 := ⟨by decide +kernel, rfl, rfl⟩
theorem d_L_law_793 : nD YL_law 793 (.iadd) 1 794 9 := ⟨by decide +kernel, rfl, rfl⟩
theorem d_L_law_794 : nD YL_law 794 (.iaload) 1 795 9 := ⟨by decide +kernel, rfl, rfl⟩
theorem d_L_law_795 : nD YL_law 795 (.aload_n 0) 1 796 9 := ⟨by decide +kernel, rfl, rfl⟩
theorem d_L_law_796 : nD YL_law 796 (.iload_n 3) 1 797 9 := ⟨by decide +kernel, rfl, rfl⟩
theorem d_L_law_797 : nD YL_law 797 (.iconst 2) 1 798 9 := ⟨by decide +kernel, rfl, rfl⟩
theorem d_L_law_798 : nD YL_law 798 (.iadd) 1 799 9 := ⟨by decide +kernel, rfl, rfl⟩
theorem d_L_law_799 : nD YL_law 799 (.iaload) 1 800 9 := ⟨by decide +kernel, rfl, rfl⟩
theorem d_L_law_800 : nD YL_law 800 (.aload_n 0) 1 801 9 := ⟨by decide +kernel, rfl, rfl⟩
theorem d_L_law_801 : nD YL_law 801 (.iload_n 3) 1 802 9 := ⟨by decide +kernel, rfl, rfl⟩
theorem d_L_law_802 : nD YL_law 802 (.iconst 3) 1 803 9 := ⟨by decide +kernel, rfl, rfl⟩
theorem d_L_law_803 : nD YL_law 803 (.iadd) 1 804 9 := ⟨by decide +kernel, rfl, rfl⟩
theorem d_L_law_804 : nD YL_law 804 (.iaload) 1 805 9 := ⟨by decide +kernel, rfl, rfl⟩
theorem d_L_law_805 : nD YL_law 805 (.invokevirtual 77) 3 808 9 := ⟨by decide +kernel, rfl, rfl⟩
theorem d_L_law_808 : nD YL_law 808 (.if_icmp .eq 525) 3 811 9 := ⟨by decide +kernel, rfl, rfl⟩
theorem d_L_law_811 : nD YL_law 811 (.iconst 0) 1 812 9 := ⟨by decide +kernel, rfl, rfl⟩
theorem d_L_law_812 : nD YL_law 812 (.ireturn) 1 813 9 := ⟨by decide +kernel, rfl, rfl⟩
theorem d_L_law_813 : nD YL_law 813 (.aload_n 1) 1 814 9 := ⟨by decide +kernel, rfl, rfl⟩
theorem d_L_law_814 : nD YL_law 814 (.aload_n 0) 1 815 9 := ⟨by decide +kernel, rfl, rfl⟩
theorem d_L_law_815 : nD YL_law 815 (.iload_n 3) 1 816 9 := ⟨by decide +kernel, rfl, rfl⟩
theorem d_L_law_816 : nD YL_law 816 (.iconst 1) 1 817 9 := ⟨by decide +kernel, rfl, rfl⟩
theorem d_L_law_817 : nD YL_law 817 (.iadd) 1 818 9 := ⟨by decide +kernel, rfl, rfl⟩
theorem d_L_law_818 : nD YL_law 818 (.iaload) 1 819 9 := ⟨by decide +kernel, rfl, rfl⟩
theorem d_L_law_819 : nD YL_law 819 (.invokevirtual 78) 3 822 9 := ⟨by decide +kernel, rfl, rfl⟩
theorem d_L_law_822 : nD YL_law 822 (.aload_n 2) 1 823 9 := ⟨by decide +kernel, rfl, rfl⟩
theorem d_L_law_823 : nD YL_law 823 (.aload_n 0) 1 824 9 := ⟨by decide +kernel, rfl, rfl⟩
theorem d_L_law_824 : nD YL_law 824 (.iload_n 3) 1 825 9 := ⟨by decide +kernel, rfl, rfl⟩
theorem d_L_law_825 : nD YL_law 825 (.iconst 1) 1 826 9 := ⟨by decide +kernel, rfl, rfl⟩
theorem d_L_law_826 : nD YL_law 826 (.iadd) 1 827 9 := ⟨by decide +kernel, rfl, rfl⟩
theorem d_L_law_827 : nD YL_law 827 (.iaload) 1 828 9 := ⟨by decide +kernel, rfl, rfl⟩
theorem d_L_law_828 : nD YL_law 828 (.invokevirtual 81) 3 831 9 := ⟨by decide +kernel, rfl, rfl⟩
theorem d_L_law_831 : nD YL_law 831 (.if_icmp .eq 502) 3 834 9 := ⟨by decide +kernel, rfl, rfl⟩
theorem d_L_law_834 : nD YL_law 834 (.iconst 0) 1 835 9 := ⟨by decide +kernel, rfl, rfl⟩
theorem d_L_law_835 : nD YL_law 835 (.ireturn) 1 836 9 := ⟨by decide +kernel, rfl, rfl⟩
theorem d_L_law_836 : nD YL_law 836 (.aload_n 1) 1 837 9 := ⟨by decide +kernel, rfl, rfl⟩
theorem d_L_law_837 : nD YL_law 837 (.aload_n 0) 1 838 9 := ⟨by decide +kernel, rfl, rfl⟩
theorem d_L_law_838 : nD YL_law 838 (.iload_n 3) 1 839 9 := ⟨by decide +kernel, rfl, rfl⟩
theorem d_L_law_839 : nD YL_law 839 (.iconst 1) 1 840 9 := ⟨by decide +kernel, rfl, rfl⟩
theorem d_L_law_840 : nD YL_law 840 (.iadd) 1 841 9 := ⟨by decide +kernel, rfl, rfl⟩
theorem d_L_law_841 : nD YL_law 841 (.iaload) 1 842 9 := ⟨by decide +kernel, rfl, rfl⟩
theorem d_L_law_842 : nD YL_law 842 (.aload_n 0) 1 843 9 := ⟨by decide +kernel, rfl, rfl⟩
theorem d_L_law_843 : nD YL_law 843 (.iload_n 3) 1 844 9 := ⟨by decide +kernel, rfl, rfl⟩
theorem d_L_law_844 : nD YL_law 844 (.iconst 2) 1 845 9 := ⟨by decide +kernel, rfl, rfl⟩
theorem d_L_law_845 : nD YL_law 845 (.iadd) 1 846 9 := ⟨by decide +kernel, rfl, rfl⟩
theorem d_L_law_846 : nD YL_law 846 (.iaload) 1 847 9 := ⟨by decide +kernel, rfl, rfl⟩
theorem d_L_law_847 : nD YL_law 847 (.aload_n 0) 1 848 9 := ⟨by decide +kernel, rfl, rfl⟩
theorem d_L_law_848 : nD YL_law 848 (.iload_n 3) 1 849 9 := ⟨by decide +kernel, rfl, rfl⟩
theorem d_L_law_849 : nD YL_law 849 (.iconst 3) 1 850 9 := ⟨by decide +kernel, rfl, rfl⟩
theorem d_L_law_850 : nD YL_law 850 (.iadd) 1 851 9 := ⟨by decide +kernel, rfl, rfl⟩
theorem d_L_law_851 : nD YL_law 851 (.iaload) 1 852 9 := ⟨by decide +kernel, rfl, rfl⟩
theorem d_L_law_852 : nD YL_law 852 (.invokevirtual 82) 3 855 9 := ⟨by decide +kernel, rfl, rfl⟩
theorem d_L_law_855 : nD YL_law 855 (.aload_n 2) 1 856 9 := ⟨by decide +kernel, rfl, rfl⟩
theorem d_L_law_856 : nD YL_law 856 (.aload_n 0) 1 857 9 := ⟨by decide +kernel, rfl, rfl⟩
theorem d_L_law_857 : nD YL_law 857 (.iload_n 3) 1 858 9 := ⟨by decide +kernel, rfl, rfl⟩
theorem d_L_law_858 : nD YL_law 858 (.iconst 1) 1 859 9 := ⟨by decide +kernel, rfl, rfl⟩
theorem d_L_law_859 : nD YL_law 859 (.iadd) 1 860 9 := ⟨by decide +kernel, rfl, rfl⟩
theorem d_L_law_860 : nD YL_law 860 (.iaload) 1 861 9 := ⟨by decide +kernel, rfl, rfl⟩
theorem d_L_law_861 : nD YL_law 861 (.aload_n 0) 1 862 9 := ⟨by decide +kernel, rfl, rfl⟩
theorem d_L_law_862 : nD YL_law 862 (.iload_n 3) 1 863 9 := ⟨by decide +kernel, rfl, rfl⟩
theorem d_L_law_863 : nD YL_law 863 (.iconst 2) 1 864 9 := ⟨by decide +kernel, rfl, rfl⟩
theorem d_L_law_864 : nD YL_law 864 (.iadd) 1 865 9 := ⟨by decide +kernel, rfl, rfl⟩
theorem d_L_law_865 : nD YL_law 865 (.iaload) 1 866 9 := ⟨by decide +kernel, rfl, rfl⟩
theorem d_L_law_866 : nD YL_law 866 (.aload_n 0) 1 867 9 := ⟨by decide +kernel, rfl, rfl⟩
theorem d_L_law_867 : nD YL_law 867 (.iload_n 3) 1 868 9 := ⟨by decide +kernel, rfl, rfl⟩
theorem d_L_law_868 : nD YL_law 868 (.iconst 3) 1 869 9 := ⟨by decide +kernel, rfl, rfl⟩
theorem d_L_law_869 : nD YL_law 869 (.iadd) 1 870 9 := ⟨by decide +kernel, rfl, rfl⟩
theorem d_L_law_870 : nD YL_law 870 (.iaload) 1 871 9 := ⟨by decide +kernel, rfl, rfl⟩
theorem d_L_law_871 : nD YL_law 871 (.invokevirtual 85) 3 874 9 := ⟨by decide +kernel, rfl, rfl⟩
theorem d_L_law_874 : nD YL_law 874 (.if_icmp .eq 459) 3 877 9 := ⟨by decide +kernel, rfl, rfl⟩
theorem d_L_law_877 : nD YL_law 877 (.iconst 0) 1 878 9 := ⟨by decide +kernel, rfl, rfl⟩
theorem d_L_law_878 : nD YL_law 878 (.ireturn) 1 879 9 := ⟨by decide +kernel, rfl, rfl⟩
theorem d_L_law_879 : nD YL_law 879 (.aload_n 1) 1 880 9 := ⟨by decide +kernel, rfl, rfl⟩
theorem d_L_law_880 : nD YL_law 880 (.aload_n 0) 1 881 9 := ⟨by decide +kernel, rfl, rfl⟩
theorem d_L_law_881 : nD YL_law 881 (.iload_n 3) 1 882 9 := ⟨by decide +kernel, rfl, rfl⟩
theorem d_L_law_882 : nD YL_law 882 (.iconst 1) 1 883 9 := ⟨by decide +kernel, rfl, rfl⟩
theorem d_L_law_883 : nD YL_law 883 (.iadd) 1 884 9 := ⟨by decide +kernel, rfl, rfl⟩
theorem d_L_law_884 : nD YL_law 884 (.iaload) 1 885 9 := ⟨by decide +kernel, rfl, rfl⟩
theorem d_L_law_885 : nD YL_law 885 (.invokevirtual 86) 3 888 9 := ⟨by decide +kernel, rfl, rfl⟩
theorem d_L_law_888 : nD YL_law 888 (.aload_n 2) 1 889 9 := ⟨by decide +kernel, rfl, rfl⟩
theorem d_L_law_889 : nD YL_law 889 (.aload_n 0) 1 890 9 := ⟨by decide +kernel, rfl, rfl⟩
theorem d_L_law_890 : nD YL_law 890 (.iload_n 3) 1 891 9 := ⟨by decide +kernel, rfl, rfl⟩
theorem d_L_law_891 : nD YL_law 891 (.iconst 1) 1 892 9 := ⟨by decide +kernel, rfl, rfl⟩
theorem d_L_law_892 : nD YL_law 892 (.iadd) 1 893 9 := ⟨by decide +kernel, rfl, rfl⟩
theorem d_L_law_893 : nD YL_law 893 (.iaload) 1 894 9 := ⟨by decide +kernel, rfl, rfl⟩
theorem d_L_law_894 : nD YL_law 894 (.invokevirtual 89) 3 897 9 := ⟨by decide +kernel, rfl, rfl⟩
theorem d_L_law_897 : nD YL_law 897 (.if_icmp .eq 436) 3 900 9 := ⟨by decide +kernel, rfl, rfl⟩
theorem d_L_law_900 : nD YL_law 900 (.iconst 0) 1 901 9 := ⟨by decide +kernel, rfl, rfl⟩
theorem d_L_law_901 : nD YL_law 901 (.ireturn) 1 902 9 := ⟨by decide +kernel, rfl, rfl⟩
theorem d_L_law_902 : nD YL_law 902 (.aload_n 1) 1 903 9 := ⟨by decide +kernel, rfl, rfl⟩
theorem d_L_law_903 : nD YL_law 903 (.aload_n 0) 1 904 9 := ⟨by decide +kernel, rfl, rfl⟩
theorem d_L_law_904 : nD YL_law 904 (.iload_n 3) 1 905 9 := ⟨by decide +kernel, rfl, rfl⟩
theorem d_L_law_905 : nD YL_law 905 (.iconst 1) 1 906 9 := ⟨by decide +kernel, rfl, rfl⟩
theorem d_L_law_906 : nD YL_law 906 (.iadd) 1 907 9 := ⟨by decide +kernel, rfl, rfl⟩
theorem d_L_law_907 : nD YL_law 907 (.iaload) 1 908 9 := ⟨by decide +kernel, rfl, rfl⟩
theorem d_L_law_908 : nD YL_law 908 (.aload_n 0) 1 909 9 := ⟨by decide +kernel, rfl, rfl⟩
theorem d_L_law_909 : nD YL_law 909 (.iload_n 3) 1 910 9 := ⟨by decide +kernel, rfl, rfl⟩
theorem d_L_law_910 : nD YL_law 910 (.iconst 2) 1 911 9 := ⟨by decide +kernel, rfl, rfl⟩
theorem d_L_law_911 : nD YL_law 911 (.iadd) 1 912 9 := ⟨by decide +kernel, rfl, rfl⟩
theorem d_L_law_912 : nD YL_law 912 (.iaload) 1 913 9 := ⟨by decide +kernel, rfl, rfl⟩
theorem d_L_law_913 : nD YL_law 913 (.invokevirtual 90) 3 916 9 := ⟨by decide +kernel, rfl, rfl⟩
theorem d_L_law_916 : nD YL_law 916 (.aload_n 2) 1 917 9 := ⟨by decide +kernel, rfl, rfl⟩
theorem d_L_law_917 : nD YL_law 917 (.aload_n 0) 1 918 9 := ⟨by decide +kernel, rfl, rfl⟩
theorem d_L_law_918 : nD YL_law 918 (.iload_n 3) 1 919 9 := ⟨by decide +kernel, rfl, rfl⟩
theorem d_L_law_919 : nD YL_law 919 (.iconst 1) 1 920 9 := ⟨by decide +kernel, rfl, rfl⟩
theorem d_L_law_920 : nD YL_law 920 (.iadd) 1 921 9 := ⟨by decide +kernel, rfl, rfl⟩
theorem d_L_law_921 : nD YL_law 921 (.iaload) 1 922 9 := ⟨by decide +kernel, rfl, rfl⟩
theorem d_L_law_922 : nD YL_law 922 (.aload_n 0) 1 923 9 := ⟨by decide +kernel, rfl, rfl⟩
theorem d_L_law_923 : nD YL_law 923 (.iload_n 3) 1 924 9 := ⟨by decide +kernel, rfl, rfl⟩
theorem d_L_law_924 : nD YL_law 924 (.iconst 2) 1 925 9 := ⟨by decide +kernel, rfl, rfl⟩
theorem d_L_law_925 : nD YL_law 925 (.iadd) 1 926 9 := ⟨by decide +kernel, rfl, rfl⟩
theorem d_L_law_926 : nD YL_law 926 (.iaload) 1 927 9 := ⟨by decide +kernel, rfl, rfl⟩
theorem d_L_law_927 : nD YL_law 927 (.invokevirtual 93) 3 930 9 := ⟨by decide +kernel, rfl, rfl⟩
theorem d_L_law_930 : nD YL_law 930 (.if_icmp .eq 403) 3 933 9 := ⟨by decide +kernel, rfl, rfl⟩
theorem d_L_law_933 : nD YL_law 933 (.iconst 0) 1 934 9 := ⟨by decide +kernel, rfl, rfl⟩
theorem d_L_law_934 : nD YL_law 934 (.ireturn) 1 935 9 := ⟨by decide +kernel, rfl, rfl⟩
theorem d_L_law_935 : nD YL_law 935 (.aload_n 1) 1 936 9 := ⟨by decide +kernel, rfl, rfl⟩
theorem d_L_law_936 : nD YL_law 936 (.aload_n 0) 1 937 9 := ⟨by decide +kernel, rfl, rfl⟩
theorem d_L_law_937 : nD YL_law 937 (.iload_n 3) 1 938 9 := ⟨by decide +kernel, rfl, rfl⟩
theorem d_L_law_938 : nD YL_law 938 (.iconst 1) 1 939 9 := ⟨by decide +kernel, rfl, rfl⟩
theorem d_L_law_939 : nD YL_law 939 (.iadd) 1 940 9 := ⟨by decide +kernel, rfl, rfl⟩
theorem d_L_law_940 : nD YL_law 940 (.iaload) 1 941 9 := ⟨by decide +kernel, rfl, rfl⟩
theorem d_L_law_941 : nD YL_law 941 (.invokevirtual 94) 3 944 9 := ⟨by decide +kernel, rfl, rfl⟩
theorem d_L_law_944 : nD YL_law 944 (.aload_n 2) 1 945 9 := ⟨by decide +kernel, rfl, rfl⟩
theorem d_L_law_945 : nD YL_law 945 (.aload_n 0) 1 946 9 := ⟨by decide +kernel, rfl, rfl⟩
theorem d_L_law_946 : nD YL_law 946 (.iload_n 3) 1 947 9 := ⟨by decide +kernel, rfl, rfl⟩
theorem d_L_law_947 : nD YL_law 947 (.iconst 1) 1 948 9 := ⟨by decide +kernel, rfl, rfl⟩
theorem d_L_law_948 : nD YL_law 948 (.iadd) 1 949 9 := ⟨by decide +kernel, rfl, rfl⟩
theorem d_L_law_949 : nD YL_law 949 (.iaload) 1 950 9 := ⟨by decide +kernel, rfl, rfl⟩
theorem d_L_law_950 : nD YL_law 950 (.invokevirtual 97) 3 953 9 := ⟨by decide +kernel, rfl, rfl⟩
theorem d_L_law_953 : nD YL_law 953 (.if_icmp .eq 380) 3 956 9 := ⟨by decide +kernel, rfl, rfl⟩
theorem d_L_law_956 : nD YL_law 956 (.iconst 0) 1 957 9 := ⟨by decide +kernel, rfl, rfl⟩
theorem d_L_law_957 : nD YL_law 957 (.ireturn) 1 958 9 := ⟨by decide +kernel, rfl, rfl⟩
theorem d_L_law_958 : nD YL_law 958 (.aload_n 1) 1 959 9 := ⟨by decide +kernel, rfl, rfl⟩
theorem d_L_law_959 : nD YL_law 959 (.aload_n 0) 1 960 9 := ⟨by decide +kernel, rfl, rfl⟩
theorem d_L_law_960 : nD YL_law 960 (.iload_n 3) 1 961 9 := ⟨by decide +kernel, rfl, rfl⟩
theorem d_L_law_961 : nD YL_law 961 (.iconst 1) 1 962 9 := ⟨by decide +kernel, rfl, rfl⟩
theorem d_L_law_962 : nD YL_law 962 (.iadd) 1 963 9 := ⟨by decide +kernel, rfl, rfl⟩
theorem d_L_law_963 : nD YL_law 963 (.iaload) 1 964 9 := ⟨by decide +kernel, rfl, rfl⟩
theorem d_L_law_964 : nD YL_law 964 (.aload_n 0) 1 965 9 := ⟨by decide +kernel, rfl, rfl⟩
theorem d_L_law_965 : nD YL_law 965 (.iload_n 3) 1 966 9 := ⟨by decide +kernel, rfl, rfl⟩
theorem d_L_law_966 : nD YL_law 966 (.iconst 2) 1 967 9 := ⟨by decide +kernel, rfl, rfl⟩
theorem d_L_law_967 : nD YL_law 967 (.iadd) 1 968 9 := ⟨by decide +kernel, rfl, rfl⟩
theorem d_L_law_968 : nD YL_law 968 (.iaload) 1 969 9 := ⟨by decide +kernel, rfl, rfl⟩
theorem d_L_law_969 : nD YL_law 969 (.aload_n 0) 1 970 9 := ⟨by decide +kernel, rfl, rfl⟩
theorem d_L_law_970 : nD YL_law 970 (.iload_n 3) 1 971 9 := ⟨by decide +kernel, rfl, rfl⟩
theorem d_L_law_971 : nD YL_law 971 (.iconst 3) 1 972 9 := ⟨by decide +kernel, rfl, rfl⟩
theorem d_L_law_972 : nD YL_law 972 (.iadd) 1 973 9 := ⟨by decide +kernel, rfl, rfl⟩
theorem d_L_law_973 : nD YL_law 973 (.iaload) 1 974 9 := ⟨by decide +kernel, rfl, rfl⟩
theorem d_L_law_974 : nD YL_law 974 (.invokevirtual 98) 3 977 9 := ⟨by decide +kernel, rfl, rfl⟩
theorem d_L_law_977 : nD YL_law 977 (.aload_n 2) 1 978 9 := ⟨by decide +kernel, rfl, rfl⟩
theorem d_L_law_978 : nD YL_law 978 (.aload_n 0) 1 979 9 := ⟨by decide +kernel, rfl, rfl⟩
theorem d_L_law_979 : nD YL_law 979 (.iload_n 3) 1 980 9 := ⟨by decide +kernel, rfl, rfl⟩
theorem d_L_law_980 : nD YL_law 980 (.iconst 1) 1 981 9 := ⟨by decide +kernel, rfl, rfl⟩
theorem d_L_law_981 : nD YL_law 981 (.iadd) 1 982 9 := ⟨by decide +kernel, rfl, rfl⟩
theorem d_L_law_982 : nD YL_law 982 (.iaload) 1 983 9 := ⟨by decide +kernel, rfl, rfl⟩
theorem d_L_law_983 : nD YL_law 983 (.aload_n 0) 1 984 9 := ⟨by decide +kernel, rfl, rfl⟩
theorem d_L_law_984 : nD YL_law 984 (.iload_n 3) 1 985 9 := ⟨by decide +kernel, rfl, rfl⟩
theorem d_L_law_985 : nD YL_law 985 (.iconst 2) 1 986 9 := ⟨by decide +kernel, rfl, rfl⟩
theorem d_L_law_986 : nD YL_law 986 (.iadd) 1 987 9 := ⟨by decide +kernel, rfl, rfl⟩
theorem d_L_law_987 : nD YL_law 987 (.iaload) 1 988 9 := ⟨by decide +kernel, rfl, rfl⟩
theorem d_L_law_988 : nD YL_law 988 (.aload_n 0) 1 989 9 := ⟨by decide +kernel, rfl, rfl⟩
theorem d_L_law_989 : nD YL_law 989 (.iload_n 3) 1 990 9 := ⟨by decide +kernel, rfl, rfl⟩
theorem d_L_law_990 : nD YL_law 990 (.iconst 3) 1 991 9 := ⟨by decide +kernel, rfl, rfl⟩
theorem d_L_law_991 : nD YL_law 991 (.iadd) 1 992 9 := ⟨by decide +kernel, rfl, rfl⟩
theorem d_L_law_992 : nD YL_law 992 (.iaload) 1 993 9 := ⟨by decide +kernel, rfl, rfl⟩
theorem d_L_law_993 : nD YL_law 993 (.invokevirtual 101) 3 996 9 := ⟨by decide +kernel, rfl, rfl⟩
theorem d_L_law_996 : nD YL_law 996 (.if_icmp .eq 337) 3 999 9 := ⟨by decide +kernel, rfl, rfl⟩
theorem d_L_law_999 : nD YL_law 999 (.iconst 0) 1 1000 9 := ⟨by decide +kernel, rfl, rfl⟩
theorem d_L_law_1000 : nD YL_law 1000 (.ireturn) 1 1001 9 := ⟨by decide +kernel, rfl, rfl⟩
theorem d_L_law_1001 : nD YL_law 1001 (.aload_n 1) 1 1002 9 := ⟨by decide +kernel, rfl, rfl⟩
theorem d_L_law_1002 : nD YL_law 1002 (.aload_n 0) 1 1003 9 := ⟨by decide +kernel, rfl, rfl⟩
theorem d_L_law_1003 : nD YL_law 1003 (.iload_n 3) 1 1004 9 := ⟨by decide +kernel, rfl, rfl⟩
theorem d_L_law_1004 : nD YL_law 1004 (.iconst 1) 1 1005 9 := ⟨by decide +kernel, rfl, rfl⟩
theorem d_L_law_1005 : nD YL_law 1005 (.iadd) 1 1006 9 := ⟨by decide +kernel, rfl, rfl⟩
theorem d_L_law_1006 : nD YL_law 1006 (.iaload) 1 1007 9 := ⟨by decide +kernel, rfl, rfl⟩
theorem d_L_law_1007 : nD YL_law 1007 (.invokevirtual 102) 3 1010 9 := ⟨by decide +kernel, rfl, rfl⟩
theorem d_L_law_1010 : nD YL_law 1010 (.aload_n 2) 1 1011 9 := ⟨by decide +kernel, rfl, rfl⟩
theorem d_L_law_1011 : nD YL_law 1011 (.aload_n 0) 1 1012 9 := ⟨by decide +kernel, rfl, rfl⟩
theorem d_L_law_1012 : nD YL_law 1012 (.iload_n 3) 1 1013 9 := ⟨by decide +kernel, rfl, rfl⟩
theorem d_L_law_1013 : nD YL_law 1013 (.iconst 1) 1 1014 9 := ⟨by decide +kernel, rfl, rfl⟩
theorem d_L_law_1014 : nD YL_law 1014 (.iadd) 1 1015 9 := ⟨by decide +kernel, rfl, rfl⟩
theorem d_L_law_1015 : nD YL_law 1015 (.iaload) 1 1016 9 := ⟨by decide +kernel, rfl, rfl⟩
theorem d_L_law_1016 : nD YL_law 1016 (.invokevirtual 106) 3 1019 9 := ⟨by decide +kernel, rfl, rfl⟩
theorem d_L_law_1019 : nD YL_law 1019 (.if_icmp .eq 314) 3 1022 9 := ⟨by decide +kernel, rfl, rfl⟩
theorem d_L_law_1022 : nD YL_law 1022 (.iconst 0) 1 1023 9 := ⟨by decide +kernel, rfl, rfl⟩
theorem d_L_law_1023 : nD YL_law 1023 (.ireturn) 1 1024 9 := ⟨by decide +kernel, rfl, rfl⟩
theorem d_L_law_1024 : nD YL_law 1024 (.aload_n 1) 1 1025 9 := ⟨by decide +kernel, rfl, rfl⟩
theorem d_L_law_1025 : nD YL_law 1025 (.aload_n 0) 1 1026 9 := ⟨by decide +kernel, rfl, rfl⟩
theorem d_L_law_1026 : nD YL_law 1026 (.iload_n 3) 1 1027 9 := ⟨by decide +kernel, rfl, rfl⟩
theorem d_L_law_1027 : nD YL_law 1027 (.iconst 1) 1 1028 9 := ⟨by decide +kernel, rfl, rfl⟩
theorem d_L_law_1028 : nD YL_law 1028 (.iadd) 1 1029 9 := ⟨by decide +kernel, rfl, rfl⟩
theorem d_L_law_1029 : nD YL_law 1029 (.iaload) 1 1030 9 := ⟨by decide +kernel, rfl, rfl⟩
theorem d_L_law_1030 : nD YL_law 1030 (.aload_n 0) 1 1031 9 := ⟨by decide +kernel, rfl, rfl⟩
theorem d_L_law_1031 : nD YL_law 1031 (.iload_n 3) 1 1032 9 := ⟨by decide +kernel, rfl, rfl⟩
theorem d_L_law_1032 : nD YL_law 1032 (.iconst 2) 1 1033 9 := ⟨by decide +kernel, rfl, rfl⟩
theorem d_L_law_1033 : nD YL_law 1033 (.iadd) 1 1034 9 := ⟨by decide +kernel, rfl, rfl⟩
theorem d_L_law_1034 : nD YL_law 1034 (.iaload) 1 1035 9 := ⟨by decide +kernel, rfl, rfl⟩
theorem d_L_law_1035 : nD YL_law 1035 (.invokevirtual 107) 3 1038 9 := ⟨by decide +kernel, rfl, rfl⟩
theorem d_L_law_1038 : nD YL_law 1038 (.aload_n 2) 1 1039 9 := ⟨by decide +kernel, rfl, rfl⟩
theorem d_L_law_1039 : nD YL_law 1039 (.aload_n 0) 1 1040 9 := ⟨by decide +kernel, rfl, rfl⟩
theorem d_L_law_1040 : nD YL_law 1040 (.iload_n 3) 1 1041 9 := ⟨by decide +kernel, rfl, rfl⟩
theorem d_L_law_1041 : nD YL_law 1041 (.iconst 1) 1 1042 9 := ⟨by decide +kernel, rfl, rfl⟩
theorem d_L_law_1042 : nD YL_law 1042 (.iadd) 1 1043 9 := ⟨by decide +kernel, rfl, rfl⟩
theorem d_L_law_1043 : nD YL_law 1043 (.iaload) 1 1044 9 := ⟨by decide +kernel, rfl, rfl⟩
theorem d_L_law_1044 : nD YL_law 1044 (.aload_n 0) 1 1045 9 := ⟨by decide +kernel, rfl, rfl⟩
theorem d_L_law_1045 : nD YL_law 1045 (.iload_n 3) 1 1046 9 := ⟨by decide +kernel, rfl, rfl⟩
theorem d_L_law_1046 : nD YL_law 1046 (.iconst 2) 1 1047 9 := ⟨by decide +kernel, rfl, rfl⟩
theorem d_L_law_1047 : nD YL_law 1047 (.iadd) 1 1048 9 := ⟨by decide +kernel, rfl, rfl⟩
theorem d_L_law_1048 : nD YL_law 1048 (.iaload) 1 1049 9 := ⟨by decide +kernel, rfl, rfl⟩
theorem d_L_law_1049 : nD YL_law 1049 (.invokevirtual 110) 3 1052 9 := ⟨by decide +kernel, rfl, rfl⟩
theorem d_L_law_1052 : nD YL_law 1052 (.if_icmp .eq 281) 3 1055 9 := ⟨by decide +kernel, rfl, rfl⟩
theorem d_L_law_1055 : nD YL_law 1055 (.iconst 0) 1 1056 9 := ⟨by decide +kernel, rfl, rfl⟩
theorem d_L_law_1056 : nD YL_law 1056 (.ireturn) 1 1057 9 := ⟨by decide +kernel, rfl, rfl⟩
theorem d_L_law_1057 : nD YL_law 1057 (.aload_n 1) 1 1058 9 := ⟨by decide +kernel, rfl, rfl⟩
theorem d_L_law_1058 : nD YL_law 1058 (.aload_n 0) 1 1059 9 := ⟨by decide +kernel, rfl, rfl⟩
theorem d_L_law_1059 : nD YL_law 1059 (.iload_n 3) 1 1060 9 := ⟨by decide +kernel, rfl, rfl⟩
theorem d_L_law_1060 : nD YL_law 1060 (.iconst 1) 1 1061 9 := ⟨by decide +kernel, rfl, rfl⟩
theorem d_L_law_1061 : nD YL_law 1061 (.iadd) 1 1062 9 := ⟨by decide +kernel, rfl, rfl⟩
theorem d_L_law_1062 : nD YL_law 1062 (.iaload) 1 1063 9 := ⟨by decide +kernel, rfl, rfl⟩
theorem d_L_law_1063 : nD YL_law 1063 (.invokevirtual 111) 3 1066 9 := ⟨by decide +kernel, rfl, rfl⟩
theorem d_L_law_1066 : nD YL_law 1066 (.aload_n 2) 1 1067 9 := ⟨by decide +kernel, rfl, rfl⟩
theorem d_L_law_1067 : nD YL_law 1067 (.aload_n 0) 1 1068 9 := ⟨by decide +kernel, rfl, rfl⟩
theorem d_L_law_1068 : nD YL_law 1068 (.iload_n 3) 1 1069 9 := ⟨by decide +kernel, rfl, rfl⟩
theorem d_L_law_1069 : nD YL_law 1069 (.iconst 1) 1 1070 9 := ⟨by decide +kernel, rfl, rfl⟩
theorem d_L_law_1070 : nD YL_law 1070 (.iadd) 1 1071 9 := ⟨by decide +kernel, rfl, rfl⟩
theorem d_L_law_1071 : nD YL_law 1071 (.iaload) 1 1072 9 := ⟨by decide +kernel, rfl, rfl⟩
theorem d_L_law_1072 : nD YL_law 1072 (.invokevirtual 114) 3 1075 9 := ⟨by decide +kernel, rfl, rfl⟩
theorem d_L_law_1075 : nD YL_law 1075 (.if_icmp .eq 258) 3 1078 9 := ⟨by decide +kernel, rfl, rfl⟩
theorem d_L_law_1078 : nD YL_law 1078 (.iconst 0) 1 1079 9 := ⟨by decide +kernel, rfl, rfl⟩
theorem d_L_law_1079 : nD YL_law 1079 (.ireturn) 1 1080 9 := ⟨by decide +kernel, rfl, rfl⟩
theorem d_L_law_1080 : nD YL_law 1080 (.aload_n 1) 1 1081 9 := ⟨by decide +kernel, rfl, rfl⟩
theorem d_L_law_1081 : nD YL_law 1081 (.aload_n 0) 1 1082 9 := ⟨by decide +kernel, rfl, rfl⟩
theorem d_L_law_1082 : nD YL_law 1082 (.iload_n 3) 1 1083 9 := ⟨by decide +kernel, rfl, rfl⟩
theorem d_L_law_1083 : nD YL_law 1083 (.iconst 1) 1 1084 9 := ⟨by decide +kernel, rfl, rfl⟩
theorem d_L_law_1084 : nD YL_law 1084 (.iadd) 1 1085 9 := ⟨by decide +kernel, rfl, rfl⟩
theorem d_L_law_1085 : nD YL_law 1085 (.iaload) 1 1086 9 := ⟨by decide +kernel, rfl, rfl⟩
theorem d_L_law_1086 : nD YL_law 1086 (.aload_n 0) 1 1087 9 := ⟨by decide +kernel, rfl, rfl⟩
theorem d_L_law_1087 : nD YL_law 1087 (.iload_n 3) 1 1088 9 := ⟨by decide +kernel, rfl, rfl⟩
theorem d_L_law_1088 : nD YL_law 1088 (.iconst 2) 1 1089 9 := ⟨by decide +kernel, rfl, rfl⟩
theorem d_L_law_1089 : nD YL_law 1089 (.iadd) 1 1090 9 := ⟨by decide +kernel, rfl, rfl⟩
theorem d_L_law_1090 : nD YL_law 1090 (.iaload) 1 1091 9 := ⟨by decide +kernel, rfl, rfl⟩
theorem d_L_law_1091 : nD YL_law 1091 (.invokevirtual 115) 3 1094 9 := ⟨by decide +kernel, rfl, rfl⟩
theorem d_L_law_1094 : nD YL_law 1094 (.aload_n 2) 1 1095 9 := ⟨by decide +kernel, rfl, rfl⟩
theorem d_L_law_1095 : nD YL_law 1095 (.aload_n 0) 1 1096 9 := ⟨by decide +kernel, rfl, rfl⟩
theorem d_L_law_1096 : nD YL_law 1096 (.iload_n 3) 1 1097 9 := ⟨by decide +kernel, rfl, rfl⟩
theorem d_L_law_1097 : nD YL_law 1097 (.iconst 1) 1 1098 9 := ⟨by decide +kernel, rfl, rfl⟩
theorem d_L_law_1098 : nD YL_law 1098 (.iadd) 1 1099 9 := ⟨by decide +kernel, rfl, rfl⟩
theorem d_L_law_1099 : nD YL_law 1099 (.iaload) 1 1100 9 := ⟨by decide +kernel, rfl, rfl⟩
theorem d_L_law_1100 : nD YL_law 1100 (.aload_n 0) 1 1101 9 := ⟨by decide +kernel, rfl, rfl⟩
theorem d_L_law_1101 : nD YL_law 1101 (.iload_n 3) 1 1102 9 := ⟨by decide +kernel, rfl, rfl⟩
theorem d_L_law_1102 : nD YL_law 1102 (.iconst 2) 1 1103 9 := ⟨by decide +kernel, rfl, rfl⟩
theorem d_L_law_1103 : nD YL_law 1103 (.iadd) 1 1104 9 := ⟨by decide +kernel, rfl, rfl⟩
theorem d_L_law_1104 : nD YL_law 1104 (.iaload) 1 1105 9 := ⟨by decide +kernel, rfl, rfl⟩
theorem d_L_law_1105 : nD YL_law 1105 (.invokevirtual 118) 3 1108 9 := ⟨by decide +kernel, rfl, rfl⟩
theorem d_L_law_1108 : nD YL_law 1108 (.if_icmp .eq 225) 3 1111 9 := ⟨by decide +kernel, rfl, rfl⟩
theorem d_L_law_1111 : nD YL_law 1111 (.iconst 0) 1 1112 9 := ⟨by decide +kernel, rfl, rfl⟩
theorem d_L_law_1112 : nD YL_law 1112 (.ireturn) 1 1113 9 := ⟨by decide +kernel, rfl, rfl⟩
theorem d_L_law_1113 : nD YL_law 1113 (.aload_n 1) 1 1114 9 := ⟨by decide +kernel, rfl, rfl⟩
theorem d_L_law_1114 : nD YL_law 1114 (.aload_n 0) 1 1115 9 := ⟨by decide +kernel, rfl, rfl⟩
theorem d_L_law_1115 : nD YL_law 1115 (.iload_n 3) 1 1116 9 := ⟨by decide +kernel, rfl, rfl⟩
theorem d_L_law_1116 : nD YL_law 1116 (.iconst 1) 1 1117 9 := ⟨by decide +kernel, rfl, rfl⟩
theorem d_L_law_1117 : nD YL_law 1117 (.iadd) 1 1118 9 := ⟨by decide +kernel, rfl, rfl⟩
theorem d_L_law_1118 : nD YL_law 1118 (.iaload) 1 1119 9 := ⟨by decide +kernel, rfl, rfl⟩
theorem d_L_law_1119 : nD YL_law 1119 (.aload_n 0) 1 1120 9 := ⟨by decide +kernel, rfl, rfl⟩
theorem d_L_law_1120 : nD YL_law 1120 (.iload_n 3) 1 1121 9 := ⟨by decide +kernel, rfl, rfl⟩
theorem d_L_law_1121 : nD YL_law 1121 (.iconst 2) 1 1122 9 := ⟨by decide +kernel, rfl, rfl⟩
theorem d_L_law_1122 : nD YL_law 1122 (.iadd) 1 1123 9 := ⟨by decide +kernel, rfl, rfl⟩
theorem d_L_law_1123 : nD YL_law 1123 (.iaload) 1 1124 9 := ⟨by decide +kernel, rfl, rfl⟩
theorem d_L_law_1124 : nD YL_law 1124 (.aload_n 0) 1 1125 9 := ⟨by decide +kernel, rfl, rfl⟩
theorem d_L_law_1125 : nD YL_law 1125 (.iload_n 3) 1 1126 9 := ⟨by decide +kernel, rfl, rfl⟩
theorem d_L_law_1126 : nD YL_law 1126 (.iconst 3) 1 1127 9 := ⟨by decide +kernel, rfl, rfl⟩
theorem d_L_law_1127 : nD YL_law 1127 (.iadd) 1 1128 9 := ⟨by decide +kernel, rfl, rfl⟩
theorem d_L_law_1128 : nD YL_law 1128 (.iaload) 1 1129 9 := ⟨by decide +kernel, rfl, rfl⟩
theorem d_L_law_1129 : nD YL_law 1129 (.invokevirtual 119) 3 1132 9 := ⟨by decide +kernel, rfl, rfl⟩
theorem d_L_law_1132 : nD YL_law 1132 (.aload_n 2) 1 1133 9 := ⟨by decide +kernel, rfl, rfl⟩
theorem d_L_law_1133 : nD YL_law 1133 (.aload_n 0) 1 1134 9 := ⟨by decide +kernel, rfl, rfl⟩
theorem d_L_law_1134 : nD YL_law 1134 (.iload_n 3) 1 1135 9 := ⟨by decide +kernel, rfl, rfl⟩
theorem d_L_law_1135 : nD YL_law 1135 (.iconst 1) 1 1136 9 := ⟨by decide +kernel, rfl, rfl⟩
theorem d_L_law_1136 : nD YL_law 1136 (.iadd) 1 1137 9 := ⟨by decide +kernel, rfl, rfl⟩
theorem d_L_law_1137 : nD YL_law 1137 (.iaload) 1 1138 9 := ⟨by decide +kernel, rfl, rfl⟩
theorem d_L_law_1138 : nD YL_law 1138 (.aload_n 0) 1 1139 9 := ⟨by decide +kernel, rfl, rfl⟩
theorem d_L_law_1139 : nD YL_law 1139 (.iload_n 3) 1 1140 9 := ⟨by decide +kernel, rfl, rfl⟩
theorem d_L_law_1140 : nD YL_law 1140 (.iconst 2) 1 1141 9 := ⟨by decide +kernel, rfl, rfl⟩
theorem d_L_law_1141 : nD YL_law 1141 (.iadd) 1 1142 9 := ⟨by decide +kernel, rfl, rfl⟩
theorem d_L_law_1142 : nD YL_law 1142 (.iaload) 1 1143 9 := ⟨by decide +kernel, rfl, rfl⟩
theorem d_L_law_1143 : nD YL_law 1143 (.aload_n 0) 1 1144 9 := ⟨by decide +kernel, rfl, rfl⟩
theorem d_L_law_1144 : nD YL_law 1144 (.iload_n 3) 1 1145 9 := ⟨by decide +kernel, rfl, rfl⟩
theorem d_L_law_1145 : nD YL_law 1145 (.iconst 3) 1 1146 9 := ⟨by decide +kernel, rfl, rfl⟩
theorem d_L_law_1146 : nD YL_law 1146 (.iadd) 1 1147 9 := ⟨by decide +kernel, rfl, rfl⟩
theorem d_L_law_1147 : nD YL_law 1147 (.iaload) 1 1148 9 := ⟨by decide +kernel, rfl, rfl⟩
theorem d_L_law_1148 : nD YL_law 1148 (.invokevirtual 122) 3 1151 9 := ⟨by decide +kernel, rfl, rfl⟩
theorem d_L_law_1151 : nD YL_law 1151 (.if_icmp .eq 182) 3 1154 9 := ⟨by decide +kernel, rfl, rfl⟩
theorem d_L_law_1154 : nD YL_law 1154 (.iconst 0) 1 1155 9 := ⟨by decide +kernel, rfl, rfl⟩
theorem d_L_law_1155 : nD YL_law 1155 (.ireturn) 1 1156 9 := ⟨by decide +kernel, rfl, rfl⟩
theorem d_L_law_1156 : nD YL_law 1156 (.aload_n 1) 1 1157 9 := ⟨by decide +kernel, rfl, rfl⟩
theorem d_L_law_1157 : nD YL_law 1157 (.aload_n 0) 1 1158 9 := ⟨by decide +kernel, rfl, rfl⟩
theorem d_L_law_1158 : nD YL_law 1158 (.iload_n 3) 1 1159 9 := ⟨by decide +kernel, rfl, rfl⟩
theorem d_L_law_1159 : nD YL_law 1159 (.iconst 1) 1 1160 9 := ⟨by decide +kernel, rfl, rfl⟩
theorem d_L_law_1160 : nD YL_law 1160 (.iadd) 1 1161 9 := ⟨by decide +kernel, rfl, rfl⟩
theorem d_L_law_1161 : nD YL_law 1161 (.iaload) 1 1162 9 := ⟨by decide +kernel, rfl, rfl⟩
theorem d_L_law_1162 : nD YL_law 1162 (.aload_n 0) 1 1163 9 := ⟨by decide +kernel, rfl, rfl⟩
theorem d_L_law_1163 : nD YL_law 1163 (.iload_n 3) 1 1164 9 := ⟨by decide +kernel, rfl, rfl⟩
theorem d_L_law_1164 : nD YL_law 1164 (.iconst 2) 1 1165 9 := ⟨by decide +kernel, rfl, rfl⟩
theorem d_L_law_1165 : nD YL_law 1165 (.iadd) 1 1166 9 := ⟨by decide +kernel, rfl, rfl⟩
theorem d_L_law_1166 : nD YL_law 1166 (.iaload) 1 1167 9 := ⟨by decide +kernel, rfl, rfl⟩
theorem d_L_law_1167 : nD YL_law 1167 (.aload_n 0) 1 1168 9 := ⟨by decide +kernel, rfl, rfl⟩
theorem d_L_law_1168 : nD YL_law 1168 (.iload_n 3) 1 1169 9 := ⟨by decide +kernel, rfl, rfl⟩
theorem d_L_law_1169 : nD YL_law 1169 (.iconst 3) 1 1170 9 := ⟨by decide +kernel, rfl, rfl⟩
theorem d_L_law_1170 : nD YL_law 1170 (.iadd) 1 1171 9 := ⟨by decide +kernel, rfl, rfl⟩
theorem d_L_law_1171 : nD YL_law 1171 (.iaload) 1 1172 9 := ⟨by decide +kernel, rfl, rfl⟩
theorem d_L_law_1172 : nD YL_law 1172 (.aload_n 0) 1 1173 9 := ⟨by decide +kernel, rfl, rfl⟩
theorem d_L_law_1173 : nD YL_law 1173 (.iload_n 3) 1 1174 9 := ⟨by decide +kernel, rfl, rfl⟩
theorem d_L_law_1174 : nD YL_law 1174 (.iconst 4) 1 1175 9 := ⟨by decide +kernel, rfl, rfl⟩
theorem d_L_law_1175 : nD YL_law 1175 (.iadd) 1 1176 9 := ⟨by decide +kernel, rfl, rfl⟩
theorem d_L_law_1176 : nD YL_law 1176 (.iaload) 1 1177 9 := ⟨by decide +kernel, rfl, rfl⟩
theorem d_L_law_1177 : nD YL_law 1177 (.invokevirtual 123) 3 1180 9 := ⟨by decide +kernel, rfl, rfl⟩
theorem d_L_law_1180 : nD YL_law 1180 (.aload_n 2) 1 1181 9 := ⟨by decide +kernel, rfl, rfl⟩
theorem d_L_law_1181 : nD YL_law 1181 (.aload_n 0) 1 1182 9 := ⟨by decide +kernel, rfl, rfl⟩
theorem d_L_law_1182 : nD YL_law 1182 (.iload_n 3) 1 1183 9 := ⟨by decide +kernel, rfl, rfl⟩
theorem d_L_law_1183 : nD YL_law 1183 (.iconst 1) 1 1184 9 := ⟨by decide +kernel, rfl, rfl⟩
theorem d_L_law_1184 : nD YL_law 1184 (.iadd) 1 1185 9 := ⟨by decide +kernel, rfl, rfl⟩
theorem d_L_law_1185 : nD YL_law 1185 (.iaload) 1 1186 9 := ⟨by decide +kernel, rfl, rfl⟩
theorem d_L_law_1186 : nD YL_law 1186 (.aload_n 0) 1 1187 9 := ⟨by decide +kernel, rfl, rfl⟩
theorem d_L_law_1187 : nD YL_law 1187 (.iload_n 3) 1 1188 9 := ⟨by decide +kernel, rfl, rfl⟩
theorem d_L_law_1188 : nD YL_law 1188 (.iconst 2) 1 1189 9 := ⟨by decide +kernel, rfl, rfl⟩
theorem d_L_law_1189 : nD YL_law 1189 (.iadd) 1 1190 9 := ⟨by decide +kernel, rfl, rfl⟩
theorem d_L_law_1190 : nD YL_law 1190 (.iaload) 1 1191 9 := ⟨by decide +kernel, rfl, rfl⟩
theorem d_L_law_1191 : nD YL_law 1191 (.aload_n 0) 1 1192 9 := ⟨by decide +kernel, rfl, rfl⟩
theorem d_L_law_1192 : nD YL_law 1192 (.iload_n 3) 1 1193 9 := ⟨by decide +kernel, rfl, rfl⟩
theorem d_L_law_1193 : nD YL_law 1193 (.iconst 3) 1 1194 9 := ⟨by decide +kernel, rfl, rfl⟩
theorem d_L_law_1194 : nD YL_law 1194 (.iadd) 1 1195 9 := ⟨by decide +kernel, rfl, rfl⟩
theorem d_L_law_1195 : nD YL_law 1195 (.iaload) 1 1196 9 := ⟨by decide +kernel, rfl, rfl⟩
theorem d_L_law_1196 : nD YL_law 1196 (.aload_n 0) 1 1197 9 := ⟨by decide +kernel, rfl, rfl⟩
theorem d_L_law_1197 : nD YL_law 1197 (.iload_n 3) 1 1198 9 := ⟨by decide +kernel, rfl, rfl⟩
theorem d_L_law_1198 : nD YL_law 1198 (.iconst 4) 1 1199 9 := ⟨by decide +kernel, rfl, rfl⟩
theorem d_L_law_1199 : nD YL_law 1199 (.iadd) 1 1200 9 := ⟨by decide +kernel, rfl, rfl⟩
theorem d_L_law_1200 : nD YL_law 1200 (.iaload) 1 1201 9 := ⟨by decide +kernel, rfl, rfl⟩
theorem d_L_law_1201 : nD YL_law 1201 (.invokevirtual 126) 3 1204 9 := ⟨by decide +kernel, rfl, rfl⟩
theorem d_L_law_1204 : nD YL_law 1204 (.lcmp) 1 1205 9 := ⟨by decide +kernel, rfl, rfl⟩
theorem d_L_law_1205 : nD YL_law 1205 (.ifCond .eq 128) 3 1208 9 := ⟨by decide +kernel, rfl, rfl⟩
theorem d_L_law_1208 : nD YL_law 1208 (.iconst 0) 1 1209 9 := ⟨by decide +kernel, rfl, rfl⟩
theorem d_L_law_1209 : nD YL_law 1209 (.ireturn) 1 1210 9 := ⟨by decide +kernel, rfl, rfl⟩
theorem d_L_law_1210 : nD YL_law 1210 (.aload_n 1) 1 1211 9 := ⟨by decide +kernel, rfl, rfl⟩
theorem d_L_law_1211 : nD YL_law 1211 (.aload_n 0) 1 1212 9 := ⟨by decide +kernel, rfl, rfl⟩
theorem d_L_law_1212 : nD YL_law 1212 (.iload_n 3) 1 1213 9 := ⟨by decide +kernel, rfl, rfl⟩
theorem d_L_law_1213 : nD YL_law 1213 (.iconst 1) 1 1214 9 := ⟨by decide +kernel, rfl, rfl⟩
theorem d_L_law_1214 : nD YL_law 1214 (.iadd) 1 1215 9 := ⟨by decide +kernel, rfl, rfl⟩
theorem d_L_law_1215 : nD YL_law 1215 (.iaload) 1 1216 9 := ⟨by decide +kernel, rfl, rfl⟩
theorem d_L_law_1216 : nD YL_law 1216 (.aload_n 0) 1 1217 9 := ⟨by decide +kernel, rfl, rfl⟩
theorem d_L_law_1217 : nD YL_law 1217 (.iload_n 3) 1 1218 9 := ⟨by decide +kernel, rfl, rfl⟩
theorem d_L_law_1218 : nD YL_law 1218 (.iconst 2) 1 1219 9 := ⟨by decide +kernel, rfl, rfl⟩
theorem d_L_law_1219 : nD YL_law 1219 (.iadd) 1 1220 9 := ⟨by decide +kernel, rfl, rfl⟩
theorem d_L_law_1220 : nD YL_law 1220 (.iaload) 1 1221 9 := ⟨by decide +kernel, rfl, rfl⟩
theorem d_L_law_1221 : nD YL_law 1221 (.aload_n 0) 1 1222 9 := ⟨by decide +kernel, rfl, rfl⟩
theorem d_L_law_1222 : nD YL_law 1222 (.iload_n 3) 1 1223 9 := ⟨by decide +kernel, rfl, rfl⟩
theorem d_L_law_1223 : nD YL_law 1223 (.iconst 3) 1 1224 9 := ⟨by decide +kernel, rfl, rfl⟩
theorem d_L_law_1224 : nD YL_law 1224 (.iadd) 1 1225 9 := ⟨by decide +kernel, rfl, rfl⟩
theorem d_L_law_1225 : nD YL_law 1225 (.iaload) 1 1226 9 := ⟨by decide +kernel, rfl, rfl⟩
theorem d_L_law_1226 : nD YL_law 1226 (.invokevirtual 127) 3 1229 9 := ⟨by decide +kernel, rfl, rfl⟩
theorem d_L_law_1229 : nD YL_law 1229 (.aload_n 2) 1 1230 9 := ⟨by decide +kernel, rfl, rfl⟩
theorem d_L_law_1230 : nD YL_law 1230 (.aload_n 0) 1 1231 9 := ⟨by decide +kernel, rfl, rfl⟩
theorem d_L_law_1231 : nD YL_law 1231 (.iload_n 3) 1 1232 9 := ⟨by decide +kernel, rfl, rfl⟩
theorem d_L_law_1232 : nD YL_law 1232 (.iconst 1) 1 1233 9 := ⟨by decide +kernel, rfl, rfl⟩
theorem d_L_law_1233 : nD YL_law 1233 (.iadd) 1 1234 9 := ⟨by decide +kernel, rfl, rfl⟩
theorem d_L_law_1234 : nD YL_law 1234 (.iaload) 1 1235 9 := ⟨by decide +kernel, rfl, rfl⟩
theorem d_L_law_1235 : nD YL_law 1235 (.aload_n 0) 1 1236 9 := ⟨by decide +kernel, rfl, rfl⟩
theorem d_L_law_1236 : nD YL_law 1236 (.iload_n 3) 1 1237 9 := ⟨by decide +kernel, rfl, rfl⟩
theorem d_L_law_1237 : nD YL_law 1237 (.iconst 2) 1 1238 9 := ⟨by decide +kernel, rfl, rfl⟩
theorem d_L_law_1238 : nD YL_law 1238 (.iadd) 1 1239 9 := ⟨by decide +kernel, rfl, rfl⟩
theorem d_L_law_1239 : nD YL_law 1239 (.iaload) 1 1240 9 := ⟨by decide +kernel, rfl, rfl⟩
theorem d_L_law_1240 : nD YL_law 1240 (.aload_n 0) 1 1241 9 := ⟨by decide +kernel, rfl, rfl⟩
theorem d_L_law_1241 : nD YL_law 1241 (.iload_n 3) 1 1242 9 := ⟨by decide +kernel, rfl, rfl⟩
theorem d_L_law_1242 : nD YL_law 1242 (.iconst 3) 1 1243 9 := ⟨by decide +kernel, rfl, rfl⟩
theorem d_L_law_1243 : nD YL_law 1243 (.iadd) 1 1244 9 := ⟨by decide +kernel, rfl, rfl⟩
theorem d_L_law_1244 : nD YL_law 1244 (.iaload) 1 1245 9 := ⟨by decide +kernel, rfl, rfl⟩
theorem d_L_law_1245 : nD YL_law 1245 (.invokevirtual 131) 3 1248 9 := ⟨by decide +kernel, rfl, rfl⟩
theorem d_L_law_1248 : nD YL_law 1248 (.lcmp) 1 1249 9 := ⟨by decide +kernel, rfl, rfl⟩
theorem d_L_law_1249 : nD YL_law 1249 (.ifCond .eq 84) 3 1252 9 := ⟨by decide +kernel, rfl, rfl⟩
theorem d_L_law_1252 : nD YL_law 1252 (.iconst 0) 1 1253 9 := ⟨by decide +kernel, rfl, rfl⟩
theorem d_L_law_1253 : nD YL_law 1253 (.ireturn) 1 1254 9 := ⟨by decide +kernel, rfl, rfl⟩
theorem d_L_law_1254 : nD YL_law 1254 (.aload_n 1) 1 1255 9 := ⟨by decide +kernel, rfl, rfl⟩
theorem d_L_law_1255 : nD YL_law 1255 (.aload_n 0) 1 1256 9 := ⟨by decide +kernel, rfl, rfl⟩
theorem d_L_law_1256 : nD YL_law 1256 (.iload_n 3) 1 1257 9 := ⟨by decide +kernel, rfl, rfl⟩
theorem d_L_law_1257 : nD YL_law 1257 (.iconst 1) 1 1258 9 := ⟨by decide +kernel, rfl, rfl⟩
theorem d_L_law_1258 : nD YL_law 1258 (.iadd) 1 1259 9 := ⟨by decide +kernel, rfl, rfl⟩
theorem d_L_law_1259 : nD YL_law 1259 (.iaload) 1 1260 9 := ⟨by decide +kernel, rfl, rfl⟩
theorem d_L_law_1260 : nD YL_law 1260 (.invokevirtual 132) 3 1263 9 := ⟨by decide +kernel, rfl, rfl⟩
theorem d_L_law_1263 : nD YL_law 1263 (.aload_n 2) 1 1264 9 := ⟨by decide +kernel, rfl, rfl⟩
theorem d_L_law_1264 : nD YL_law 1264 (.aload_n 0) 1 1265 9 := ⟨by decide +kernel, rfl, rfl⟩
theorem d_L_law_1265 : nD YL_law 1265 (.iload_n 3) 1 1266 9 := ⟨by decide +kernel, rfl, rfl⟩
theorem d_L_law_1266 : nD YL_law 1266 (.iconst 1) 1 1267 9 := ⟨by decide +kernel, rfl, rfl⟩
theorem d_L_law_1267 : nD YL_law 1267 (.iadd) 1 1268 9 := ⟨by decide +kernel, rfl, rfl⟩
theorem d_L_law_1268 : nD YL_law 1268 (.iaload) 1 1269 9 := ⟨by decide +kernel, rfl, rfl⟩
theorem d_L_law_1269 : nD YL_law 1269 (.invokevirtual 135) 3 1272 9 := ⟨by decide +kernel, rfl, rfl⟩
theorem d_L_law_1272 : nD YL_law 1272 (.if_icmp .eq 61) 3 1275 9 := ⟨by decide +kernel, rfl, rfl⟩
theorem d_L_law_1275 : nD YL_law 1275 (.iconst 0) 1 1276 9 := ⟨by decide +kernel, rfl, rfl⟩
theorem d_L_law_1276 : nD YL_law 1276 (.ireturn) 1 1277 9 := ⟨by decide +kernel, rfl, rfl⟩
theorem d_L_law_1277 : nD YL_law 1277 (.aload_n 1) 1 1278 9 := ⟨by decide +kernel, rfl, rfl⟩
theorem d_L_law_1278 : nD YL_law 1278 (.aload_n 0) 1 1279 9 := ⟨by decide +kernel, rfl, rfl⟩
theorem d_L_law_1279 : nD YL_law 1279 (.iload_n 3) 1 1280 9 := ⟨by decide +kernel, rfl, rfl⟩
theorem d_L_law_1280 : nD YL_law 1280 (.iconst 1) 1 1281 9 := ⟨by decide +kernel, rfl, rfl⟩
theorem d_L_law_1281 : nD YL_law 1281 (.iadd) 1 1282 9 := ⟨by decide +kernel, rfl, rfl⟩
theorem d_L_law_1282 : nD YL_law 1282 (.iaload) 1 1283 9 := ⟨by decide +kernel, rfl, rfl⟩
theorem d_L_law_1283 : nD YL_law 1283 (.invokevirtual 136) 3 1286 9 := ⟨by decide +kernel, rfl, rfl⟩
theorem d_L_law_1286 : nD YL_law 1286 (.aload_n 2) 1 1287 9 := ⟨by decide +kernel, rfl, rfl⟩
theorem d_L_law_1287 : nD YL_law 1287 (.aload_n 0) 1 1288 9 := ⟨by decide +kernel, rfl, rfl⟩
theorem d_L_law_1288 : nD YL_law 1288 (.iload_n 3) 1 1289 9 := ⟨by decide +kernel, rfl, rfl⟩
theorem d_L_law_1289 : nD YL_law 1289 (.iconst 1) 1 1290 9 := ⟨by decide +kernel, rfl, rfl⟩
theorem d_L_law_1290 : nD YL_law 1290 (.iadd) 1 1291 9 := ⟨by decide +kernel, rfl, rfl⟩
theorem d_L_law_1291 : nD YL_law 1291 (.iaload) 1 1292 9 := ⟨by decide +kernel, rfl, rfl⟩
theorem d_L_law_1292 : nD YL_law 1292 (.invokevirtual 139) 3 1295 9 := ⟨by decide +kernel, rfl, rfl⟩
theorem d_L_law_1295 : nD YL_law 1295 (.if_icmp .eq 38) 3 1298 9 := ⟨by decide +kernel, rfl, rfl⟩
theorem d_L_law_1298 : nD YL_law 1298 (.iconst 0) 1 1299 9 := ⟨by decide +kernel, rfl, rfl⟩
theorem d_L_law_1299 : nD YL_law 1299 (.ireturn) 1 1300 9 := ⟨by decide +kernel, rfl, rfl⟩
theorem d_L_law_1300 : nD YL_law 1300 (.aload_n 1) 1 1301 9 := ⟨by decide +kernel, rfl, rfl⟩
theorem d_L_law_1301 : nD YL_law 1301 (.aload_n 0) 1 1302 9 := ⟨by decide +kernel, rfl, rfl⟩
theorem d_L_law_1302 : nD YL_law 1302 (.iload_n 3) 1 1303 9 := ⟨by decide +kernel, rfl, rfl⟩
theorem d_L_law_1303 : nD YL_law 1303 (.iconst 1) 1 1304 9 := ⟨by decide +kernel, rfl, rfl⟩
theorem d_L_law_1304 : nD YL_law 1304 (.iadd) 1 1305 9 := ⟨by decide +kernel, rfl, rfl⟩
theorem d_L_law_1305 : nD YL_law 1305 (.iaload) 1 1306 9 := ⟨by decide +kernel, rfl, rfl⟩
theorem d_L_law_1306 : nD YL_law 1306 (.aload_n 0) 1 1307 9 := ⟨by decide +kernel, rfl, rfl⟩
theorem d_L_law_1307 : nD YL_law 1307 (.iload_n 3) 1 1308 9 := ⟨by decide +kernel, rfl, rfl⟩
theorem d_L_law_1308 : nD YL_law 1308 (.iconst 2) 1 1309 9 := ⟨by decide +kernel, rfl, rfl⟩
theorem d_L_law_1309 : nD YL_law 1309 (.iadd) 1 1310 9 := ⟨by decide +kernel, rfl, rfl⟩
theorem d_L_law_1310 : nD YL_law 1310 (.iaload) 1 1311 9 := ⟨by decide +kernel, rfl, rfl⟩
theorem d_L_law_1311 : nD YL_law 1311 (.invokevirtual 140) 3 1314 9 := ⟨by decide +kernel, rfl, rfl⟩
theorem d_L_law_1314 : nD YL_law 1314 (.aload_n 2) 1 1315 9 := ⟨by decide +kernel, rfl, rfl⟩
theorem d_L_law_1315 : nD YL_law 1315 (.aload_n 0) 1 1316 9 := ⟨by decide +kernel, rfl, rfl⟩
theorem d_L_law_1316 : nD YL_law 1316 (.iload_n 3) 1 1317 9 := ⟨by decide +kernel, rfl, rfl⟩
theorem d_L_law_1317 : nD YL_law 1317 (.iconst 1) 1 1318 9 := ⟨by decide +kernel, rfl, rfl⟩
theorem d_L_law_1318 : nD YL_law 1318 (.iadd) 1 1319 9 := ⟨by decide +kernel, rfl, rfl⟩
theorem d_L_law_1319 : nD YL_law 1319 (.iaload) 1 1320 9 := ⟨by decide +kernel, rfl, rfl⟩
theorem d_L_law_1320 : nD YL_law 1320 (.aload_n 0) 1 1321 9 := ⟨by decide +kernel, rfl, rfl⟩
theorem d_L_law_1321 : nD YL_law 1321 (.iload_n 3) 1 1322 9 := ⟨by decide +kernel, rfl, rfl⟩
theorem d_L_law_1322 : nD YL_law 1322 (.iconst 2) 1 1323 9 := ⟨by decide +kernel, rfl, rfl⟩
theorem d_L_law_1323 : nD YL_law 1323 (.iadd) 1 1324 9 := ⟨by decide +kernel, rfl, rfl⟩
theorem d_L_law_1324 : nD YL_law 1324 (.iaload) 1 1325 9 := ⟨by decide +kernel, rfl, rfl⟩
theorem d_L_law_1325 : nD YL_law 1325 (.invokevirtual 143) 3 1328 9 := ⟨by decide +kernel, rfl, rfl⟩
theorem d_L_law_1328 : nD YL_law 1328 (.if_icmp .eq 5) 3 1331 9 := ⟨by decide +kernel, rfl, rfl⟩
theorem d_L_law_1331 : nD YL_law 1331 (.iconst 0) 1 1332 9 := ⟨by decide +kernel, rfl, rfl⟩
theorem d_L_law_1332 : nD YL_law 1332 (.ireturn) 1 1333 9 := ⟨by decide +kernel, rfl, rfl⟩
theorem d_L_law_1333 : nD YL_law 1333 (.iinc 3 6) 3 1336 9 := ⟨by decide +kernel, rfl, rfl⟩
theorem d_L_law_1336 : nD YL_law 1336 (.goto (-1318)) 3 1339 9 := ⟨by decide +kernel, rfl, rfl⟩
theorem d_L_law_1339 : nD YL_law 1339 (.iconst 1) 1 1340 9 := ⟨by decide +kernel, rfl, rfl⟩
theorem d_L_law_1340 : nD YL_law 1340 (.ireturn) 1 1341 9 := ⟨by decide +kernel, rfl, rfl⟩
end
section
/-! rows over naturals: an int nI n, a long lN n -/
theorem nI_mul (a b : Nat) : nI a * nI b = nI (a * b) := pk_mul a b
theorem nI_sub {a b : Nat} (h : b ≤ a) : nI a - nI b = nI (a - b) := by
  have : nI a = nI (a - b) + nI b := by rw [nI_add, Nat.sub_add_cancel h]
  rw [this, Int32.add_sub_cancel]
def nB (c : Prop) [Decidable c] : Nat := if c then 1 else 0
theorem nB_T {c : Prop} [Decidable c] (h : c) : nB c = 1 := if_pos h
theorem nB_F {c : Prop} [Decidable c] (h : ¬ c) : nB c = 0 := if_neg h
theorem nB_le (c : Prop) [Decidable c] : nB c ≤ 1 := by unfold nB; split <;> omega
theorem nB_0 {c : Prop} [Decidable c] : nB c = 0 ↔ ¬ c := by unfold nB; split <;> simp [*]
theorem nB_1 {c : Prop} [Decidable c] : nB c = 1 ↔ c := by unfold nB; split <;> simp [*]
theorem nB_nar (c : Prop) [Decidable c] : narrow .boolean (.int (nI (nB c))) = .int (nI (nB c)) := by unfold nB; split <;> rfl
theorem nB_nar1 {v : Nat} (h : v ≤ 1) : narrow .boolean (.int (nI v)) = .int (nI v) := by
  match v, h with
  | 0, _ => rfl
  | 1, _ => rfl
theorem nIz (n : Nat) : (OfNat.ofNat n : Int32) = nI n := rfl
/-- an index of the rows of n places -/
def nIn (k : Int32) (n : Nat) : Prop := 0 ≤ k.toInt ∧ k.toInt < n
theorem nIn_of {k : Int32} {n : Nat} (h : nIn k n) (hn : n < 2 ^ 31) : ∃ j, j < n ∧ k = nI j := by
  refine ⟨k.toInt.toNat, by have := h.1; have := h.2; omega, ?_⟩
  refine Int32.toInt_inj.mp ?_
  rw [nI_toInt (by have := h.1; have := h.2; omega)]
  have := h.1
  omega
theorem nIn_nI {j n : Nat} (hj : j < 2 ^ 31) : nIn (nI j) n ↔ j < n := by
  unfold nIn
  rw [nI_toInt hj]
  omega
section NN
variable {y : nM} {κ : nKp} {cu su pc p2 o : Nat} {ls : List (Option Value)} {st : List Value} {h : nPH}
theorem x_iaddN {a b : Nat} (hd : nD y pc .iadd 1 p2 o) (k : nG y κ cu su p2 ls (.int (nI (a + b)) :: st) h) : nG y κ cu su pc ls (.int (nI b) :: .int (nI a) :: st) h := x_iadd hd (by rw [nI_add]; exact k)
theorem x_isubN {a b : Nat} (hd : nD y pc .isub 1 p2 o) (hle : b ≤ a) (k : nG y κ cu su p2 ls (.int (nI (a - b)) :: st) h) : nG y κ cu su pc ls (.int (nI b) :: .int (nI a) :: st) h := x_isub hd (by rw [nI_sub hle]; exact k)
theorem x_imulN {a b : Nat} (hd : nD y pc .imul 1 p2 o) (k : nG y κ cu su p2 ls (.int (nI (a * b)) :: st) h) : nG y κ cu su pc ls (.int (nI b) :: .int (nI a) :: st) h := x_imul hd (by rw [nI_mul]; exact k)
theorem x_idivN {a b : Nat} (hd : nD y pc .idiv 1 p2 o) (h0 : 0 < b) (ha : a < 2 ^ 31) (hb : b < 2 ^ 31) (k : nG y κ cu su p2 ls (.int (nI (a / b)) :: st) h) : nG y κ cu su pc ls (.int (nI b) :: .int (nI a) :: st) h := x_idiv (nI_ne0 h0 hb) hd (by rw [pk_div ha h0 hb]; exact k)
theorem x_iremN {a b : Nat} (hd : nD y pc .irem 1 p2 o) (h0 : 0 < b) (ha : a < 2 ^ 31) (hb : b < 2 ^ 31) (k : nG y κ cu su p2 ls (.int (nI (a % b)) :: st) h) : nG y κ cu su pc ls (.int (nI b) :: .int (nI a) :: st) h := x_irem (nI_ne0 h0 hb) hd (by rw [pk_rem ha h0 hb]; exact k)
theorem x_laddN {a b : Nat} (hd : nD y pc .ladd 1 p2 o) (k : nG y κ cu su p2 ls (.long (lN (a + b)) :: st) h) : nG y κ cu su pc ls (.long (lN b) :: .long (lN a) :: st) h := x_ladd hd (by rw [lN_add]; exact k)
theorem x_lsubN {a b : Nat} (hd : nD y pc .lsub 1 p2 o) (hle : b ≤ a) (k : nG y κ cu su p2 ls (.long (lN (a - b)) :: st) h) : nG y κ cu su pc ls (.long (lN b) :: .long (lN a) :: st) h := x_lsub hd (by rw [lN_sub hle]; exact k)
theorem x_lmulN {a b : Nat} (hd : nD y pc .lmul 1 p2 o) (k : nG y κ cu su p2 ls (.long (lN (a * b)) :: st) h) : nG y κ cu su pc ls (.long (lN b) :: .long (lN a) :: st) h := x_lmul hd (by rw [lN_mul]; exact k)
theorem x_i2lN {a : Nat} (hd : nD y pc .i2l 1 p2 o) (ha : a < 2 ^ 31) (k : nG y κ cu su p2 ls (.long (lN a) :: st) h) : nG y κ cu su pc ls (.int (nI a) :: st) h := x_i2l hd (by rw [nI_l ha]; exact k)
theorem x_iincN {i : Nat} {n : Int} {m x : Nat} (hd : nD y pc (.iinc i n) 3 p2 o) (hl : ls[i]? = some (some (.int (nI x)))) (hm : Int32.ofInt n = nI m) (hi : i < y.2.2.1) (k : nG y κ cu su p2 (nPut ls i (.int (nI (x + m)))) st h) : nG y κ cu su pc ls st h := x_iinc hd hl hi (by rw [hm, nI_add]; exact k)
theorem x_icmp_eqN {a b : Nat} {off : Int} {tgt : Nat} (hd : nD y pc (.if_icmp .eq off) 3 p2 o) (ht : (pc : Int) + off = (tgt : Int)) (ha : a < 2 ^ 31) (hb : b < 2 ^ 31) (k1 : a = b → nG y κ cu su tgt ls st h) (k2 : ¬ a = b → nG y κ cu su p2 ls st h) : nG y κ cu su pc ls (.int (nI b) :: .int (nI a) :: st) h :=
  x_icmp_eq hd ht (fun q => k1 ((nI_eq (a := a) (b := b) ha hb).mp q)) (fun q => k2 (fun e => q ((nI_eq (a := a) (b := b) ha hb).mpr e)))
theorem x_if_eqN {a : Nat} {off : Int} {tgt : Nat} (hd : nD y pc (.ifCond .eq off) 3 p2 o) (ht : (pc : Int) + off = (tgt : Int)) (ha : a < 2 ^ 31) (k1 : a = 0 → nG y κ cu su tgt ls st h) (k2 : ¬ a = 0 → nG y κ cu su p2 ls st h) : nG y κ cu su pc ls (.int (nI a) :: st) h :=
  x_if_eq hd ht (fun q => k1 ((nI_eq (a := a) (b := 0) ha (by decide)).mp q)) (fun q => k2 (fun e => q ((nI_eq (a := a) (b := 0) ha (by decide)).mpr e)))
theorem x_icmp_neN {a b : Nat} {off : Int} {tgt : Nat} (hd : nD y pc (.if_icmp .ne off) 3 p2 o) (ht : (pc : Int) + off = (tgt : Int)) (ha : a < 2 ^ 31) (hb : b < 2 ^ 31) (k1 : ¬ a = b → nG y κ cu su tgt ls st h) (k2 : a = b → nG y κ cu su p2 ls st h) : nG y κ cu su pc ls (.int (nI b) :: .int (nI a) :: st) h :=
  x_icmp_ne hd ht (fun q => k1 (fun e => q ((nI_eq (a := a) (b := b) ha hb).mpr e))) (fun q => k2 ((nI_eq (a := a) (b := b) ha hb).mp q))
theorem x_if_neN {a : Nat} {off : Int} {tgt : Nat} (hd : nD y pc (.ifCond .ne off) 3 p2 o) (ht : (pc : Int) + off = (tgt : Int)) (ha : a < 2 ^ 31) (k1 : ¬ a = 0 → nG y κ cu su tgt ls st h) (k2 : a = 0 → nG y κ cu su p2 ls st h) : nG y κ cu su pc ls (.int (nI a) :: st) h :=
  x_if_ne hd ht (fun q => k1 (fun e => q ((nI_eq (a := a) (b := 0) ha (by decide)).mpr e))) (fun q => k2 ((nI_eq (a := a) (b := 0) ha (by decide)).mp q))
theorem x_icmp_ltN {a b : Nat} {off : Int} {tgt : Nat} (hd : nD y pc (.if_icmp .lt off) 3 p2 o) (ht : (pc : Int) + off = (tgt : Int)) (ha : a < 2 ^ 31) (hb : b < 2 ^ 31) (k1 : a < b → nG y κ cu su tgt ls st h) (k2 : ¬ a < b → nG y κ cu su p2 ls st h) : nG y κ cu su pc ls (.int (nI b) :: .int (nI a) :: st) h :=
  x_icmp_lt hd ht (fun q => k1 ((nI_ltI (a := a) (b := b) ha hb).mp q)) (fun q => k2 (fun e => q ((nI_ltI (a := a) (b := b) ha hb).mpr e)))
theorem x_if_ltN {a : Nat} {off : Int} {tgt : Nat} (hd : nD y pc (.ifCond .lt off) 3 p2 o) (ht : (pc : Int) + off = (tgt : Int)) (ha : a < 2 ^ 31) (k1 : a < 0 → nG y κ cu su tgt ls st h) (k2 : ¬ a < 0 → nG y κ cu su p2 ls st h) : nG y κ cu su pc ls (.int (nI a) :: st) h :=
  x_if_lt hd ht (fun q => k1 ((nI_ltI (a := a) (b := 0) ha (by decide)).mp q)) (fun q => k2 (fun e => q ((nI_ltI (a := a) (b := 0) ha (by decide)).mpr e)))
theorem x_icmp_geN {a b : Nat} {off : Int} {tgt : Nat} (hd : nD y pc (.if_icmp .ge off) 3 p2 o) (ht : (pc : Int) + off = (tgt : Int)) (ha : a < 2 ^ 31) (hb : b < 2 ^ 31) (k1 : b ≤ a → nG y κ cu su tgt ls st h) (k2 : ¬ b ≤ a → nG y κ cu su p2 ls st h) : nG y κ cu su pc ls (.int (nI b) :: .int (nI a) :: st) h :=
  x_icmp_ge hd ht (fun q => k1 ((nI_leI (a := b) (b := a) hb ha).mp q)) (fun q => k2 (fun e => q ((nI_leI (a := b) (b := a) hb ha).mpr e)))
theorem x_if_geN {a : Nat} {off : Int} {tgt : Nat} (hd : nD y pc (.ifCond .ge off) 3 p2 o) (ht : (pc : Int) + off = (tgt : Int)) (ha : a < 2 ^ 31) (k1 : 0 ≤ a → nG y κ cu su tgt ls st h) (k2 : ¬ 0 ≤ a → nG y κ cu su p2 ls st h) : nG y κ cu su pc ls (.int (nI a) :: st) h :=
  x_if_ge hd ht (fun q => k1 ((nI_leI (a := 0) (b := a) (by decide) ha).mp q)) (fun q => k2 (fun e => q ((nI_leI (a := 0) (b := a) (by decide) ha).mpr e)))
theorem x_icmp_gtN {a b : Nat} {off : Int} {tgt : Nat} (hd : nD y pc (.if_icmp .gt off) 3 p2 o) (ht : (pc : Int) + off = (tgt : Int)) (ha : a < 2 ^ 31) (hb : b < 2 ^ 31) (k1 : b < a → nG y κ cu su tgt ls st h) (k2 : ¬ b < a → nG y κ cu su p2 ls st h) : nG y κ cu su pc ls (.int (nI b) :: .int (nI a) :: st) h :=
  x_icmp_gt hd ht (fun q => k1 ((nI_ltI (a := b) (b := a) hb ha).mp q)) (fun q => k2 (fun e => q ((nI_ltI (a := b) (b := a) hb ha).mpr e)))
theorem x_if_gtN {a : Nat} {off : Int} {tgt : Nat} (hd : nD y pc (.ifCond .gt off) 3 p2 o) (ht : (pc : Int) + off = (tgt : Int)) (ha : a < 2 ^ 31) (k1 : 0 < a → nG y κ cu su tgt ls st h) (k2 : ¬ 0 < a → nG y κ cu su p2 ls st h) : nG y κ cu su pc ls (.int (nI a) :: st) h :=
  x_if_gt hd ht (fun q => k1 ((nI_ltI (a := 0) (b := a) (by decide) ha).mp q)) (fun q => k2 (fun e => q ((nI_ltI (a := 0) (b := a) (by decide) ha).mpr e)))
theorem x_icmp_leN {a b : Nat} {off : Int} {tgt : Nat} (hd : nD y pc (.if_icmp .le off) 3 p2 o) (ht : (pc : Int) + off = (tgt : Int)) (ha : a < 2 ^ 31) (hb : b < 2 ^ 31) (k1 : a ≤ b → nG y κ cu su tgt ls st h) (k2 : ¬ a ≤ b → nG y κ cu su p2 ls st h) : nG y κ cu su pc ls (.int (nI b) :: .int (nI a) :: st) h :=
  x_icmp_le hd ht (fun q => k1 ((nI_leI (a := a) (b := b) ha hb).mp q)) (fun q => k2 (fun e => q ((nI_leI (a := a) (b := b) ha hb).mpr e)))
theorem x_if_leN {a : Nat} {off : Int} {tgt : Nat} (hd : nD y pc (.ifCond .le off) 3 p2 o) (ht : (pc : Int) + off = (tgt : Int)) (ha : a < 2 ^ 31) (k1 : a ≤ 0 → nG y κ cu su tgt ls st h) (k2 : ¬ a ≤ 0 → nG y κ cu su p2 ls st h) : nG y κ cu su pc ls (.int (nI a) :: st) h :=
  x_if_le hd ht (fun q => k1 ((nI_leI (a := a) (b := 0) ha (by decide)).mp q)) (fun q => k2 (fun e => q ((nI_leI (a := a) (b := 0) ha (by decide)).mpr e)))
/-- a call that reads only -/
theorem nRet {mc ms : Nat} {z : nM} {r : Value} {rest : List Value} (e1 : nCe z = 0) (e2 : nSl z = 0) (kk : nG y κ cu su p2 ls (r :: rest) h) : ∀ (v : Option Value) (h2 : nPH), (v = some r ∧ h2 = h) → h2.1 = h.1 → h2.2.1 = h.2.1 → nG y κ (cu + nCe z) (su + nSl z) p2 ls (v.toList ++ rest) h2 := by
  rintro _ _ ⟨rfl, rfl⟩ _ _
  rw [e1, e2]
  exact kk
theorem x_rdV {z : nM} {idx n c b : Nat} {As rest st0 fs : List Value} {r : Value} (hd : nD y pc (.invokevirtual idx) 3 p2 o) (hl : nLk o idx z) (hm : nMo z n) (hv : nVi z) (hz : nRd z (.ref b :: As) h r) (hat : nAt h b = some (nOb c fs)) (hcn : ∃ q : vw_C, vwCl[c]? = some q ∧ q.1 = z.1.cls) (hn : As.length = n) (hro : nRo κ z) (e1 : nCe z = 0) (e2 : nSl z = 0) (hrc : cu ≤ κ.1.cells) (hrs : su ≤ κ.1.slots) (hw : (rest.map fun v => v.category).sum ≤ 8) (hst : As.reverse ++ .ref b :: rest = st0)
    (kk : nG y κ cu su p2 ls (r :: rest) h) : nG y κ cu su pc ls st0 h :=
  x_callV hd hl hm hv hz hat hcn hn hro (by rw [e1]; exact hrc) (by rw [e2]; exact hrs) hw hst (nRet (mc := 0) (ms := 0) e1 e2 kk)
theorem x_rdS {z : nM} {idx n : Nat} {As rest st0 : List Value} {r : Value} (hd : nD y pc (.invokestatic idx) 3 p2 o) (hl : nLk o idx z) (hm : nMo z n) (hv : nSc z) (hz : nRd z As h r) (hn : As.length = n) (hro : nRo κ z) (e1 : nCe z = 0) (e2 : nSl z = 0) (hrc : cu ≤ κ.1.cells) (hrs : su ≤ κ.1.slots) (hw : (rest.map fun v => v.category).sum ≤ 8) (hst : As.reverse ++ rest = st0)
    (kk : nG y κ cu su p2 ls (r :: rest) h) : nG y κ cu su pc ls st0 h :=
  x_callS hd hl hm hv hz hn hro (by rw [e1]; exact hrc) (by rw [e2]; exact hrs) hw hst (nRet (mc := 0) (ms := 0) e1 e2 kk)
theorem x_rdSN {z : nM} {idx n : Nat} {As rest st0 : List Value} {r : Value} (hd : nD y pc (.invokestatic idx) 3 p2 o) (hl : nLn o idx z) (hm : nMo z n) (hv : nSc z) (hz : nRd z As h r) (hn : As.length = n) (hro : nRo κ z) (e1 : nCe z = 0) (e2 : nSl z = 0) (hrc : cu ≤ κ.1.cells) (hrs : su ≤ κ.1.slots) (hw : (rest.map fun v => v.category).sum ≤ 8) (hst : As.reverse ++ rest = st0)
    (kk : nG y κ cu su p2 ls (r :: rest) h) : nG y κ cu su pc ls st0 h :=
  x_callSN hd hl hm hv hz hn hro (by rw [e1]; exact hrc) (by rw [e2]; exact hrs) hw hst (nRet (mc := 0) (ms := 0) e1 e2 kk)
end NN
end
section
/-! OBJECTS: D k i is what field k holds at its place i (0 where it is no array) -/
theorem nAt_eq {h : nPH} {a : Nat} {e : nPC} : nAt (nSt h a e) a = some e := if_pos rfl
theorem nAt_ne {h : nPH} {a q : Nat} {e : nPC} (hq : q ≠ a) : nAt (nSt h a e) q = nAt h q := if_neg hq
theorem nAt_nw {h : nPH} {e : nPC} : nAt (nNw h e) h.2.2.1 = some e := if_pos rfl
theorem nAt_nn {h : nPH} {q : Nat} {e : nPC} (hq : q ≠ h.2.2.1) : nAt (nNw h e) q = nAt h q := if_neg hq
def nV (n : Nat) : Int32 := nI n - 1
theorem nV_s (n : Nat) : nV (n + 1) = nI n := nI_pred n
theorem nV_0 : nV 0 = -1 := by decide
def u2 (D : Nat → Nat → Nat) (k i v : Nat) : Nat → Nat → Nat := fun k2 i2 => if k2 = k ∧ i2 = i then v else D k2 i2
theorem u2_eq (D : Nat → Nat → Nat) (k i v : Nat) : u2 D k i v k i = v := if_pos ⟨rfl, rfl⟩
theorem u2_ne {D : Nat → Nat → Nat} {k i v k2 i2 : Nat} (h : ¬ (k2 = k ∧ i2 = i)) : u2 D k i v k2 i2 = D k2 i2 := if_neg h
theorem u2_up (D : Nat → Nat → Nat) (k j v : Nat) : nUp (fun i => nI (D k i)) j (nI v) = fun i => nI (u2 D k j v k i) := by
  funext i
  by_cases h : i = j <;> simp [nUp, u2, h]
theorem u2_upM (D : Nat → Nat → Nat) (k j v : Nat) : nUp (fun i => nV (D k i)) j (nV v) = fun i => nV (u2 D k j v k i) := by
  funext i
  by_cases h : i = j <;> simp [nUp, u2, h]
theorem u2_upL (D : Nat → Nat → Nat) (k j v : Nat) : nUp (fun i => lN (D k i)) j (lN v) = fun i => lN (u2 D k j v k i) := by
  funext i
  by_cases h : i = j <;> simp [nUp, u2, h]
/-- nothing lies behind the last cell -/
def nWF (h : nPH) : Prop := h.2.1 ≤ h.2.2.1 ∧ ∀ q, h.2.2.1 ≤ q → nAt h q = none
theorem nWF.lt {h : nPH} (H : nWF h) {q : Nat} {e : nPC} (hq : nAt h q = some e) : q < h.2.2.1 := by
  rcases Nat.lt_or_ge q h.2.2.1 with z | z
  · exact z
  · rw [H.2 q z] at hq; cases hq
/-- the same cells but those of S -/
def nFr (S : Nat → Prop) (h h2 : nPH) : Prop := h2.1 = h.1 ∧ h2.2.1 = h.2.1 ∧ h2.2.2.1 = h.2.2.1 ∧ (nWF h → nWF h2) ∧ ∀ q, ¬ S q → nAt h2 q = nAt h q
theorem nFr.rf {S : Nat → Prop} {h : nPH} : nFr S h h := ⟨rfl, rfl, rfl, fun z => z, fun _ _ => rfl⟩
theorem nFr.tr {S : Nat → Prop} {h h2 h3 : nPH} (a : nFr S h h2) (b : nFr S h2 h3) : nFr S h h3 := ⟨b.1.trans a.1, b.2.1.trans a.2.1, b.2.2.1.trans a.2.2.1, fun z => b.2.2.2.1 (a.2.2.2.1 z), fun q hq => (b.2.2.2.2 q hq).trans (a.2.2.2.2 q hq)⟩
theorem nFr.mono {S S2 : Nat → Prop} {h h2 : nPH} (a : nFr S h h2) (hs : ∀ q, S q → S2 q) : nFr S2 h h2 := ⟨a.1, a.2.1, a.2.2.1, a.2.2.2.1, fun q hq => a.2.2.2.2 q (fun z => hq (hs q z))⟩
theorem nFr.one {S : Nat → Prop} {h : nPH} {a : Nat} {e e0 : nPC} (h0 : nAt h a = some e0) (hs : S a) : nFr S h (nSt h a e) := ⟨rfl, rfl, rfl, fun z => ⟨z.1, fun q hq => by
    have : a < h.2.2.1 := z.lt h0
    rw [nAt_ne (show q ≠ a from fun e => by subst e; exact Nat.lt_irrefl _ (Nat.lt_of_lt_of_le this hq))]
    exact z.2 q hq⟩, fun q hq => nAt_ne (fun e => hq (by rw [e]; exact hs))⟩
theorem nFr.st {S : Nat → Prop} {h h2 : nPH} {a : Nat} {e e0 : nPC} (f : nFr S h h2) (h0 : nAt h2 a = some e0) (hs : S a) : nFr S h (nSt h2 a e) := f.tr (nFr.one h0 hs)
abbrev nIv (a n : Nat) : Nat → Prop := fun q => a ≤ q ∧ q < a + n
def l2 (a : Nat) (D : Nat → Nat → Nat) : List Value := [.int (nI (D 0 0)), .int (nI (D 1 0)), .int (nI (D 2 0)), .int (nI (D 3 0)), .ref (a + 1), .int (nI (D 5 0)), .ref (a + 2)]
def o2 (h : nPH) (a : Nat) (D : Nat → Nat → Nat) : Prop := h.2.1 ≤ a ∧ nAt h a = some (nOb 2 [.int (nI (D 0 0)), .int (nI (D 1 0)), .int (nI (D 2 0)), .int (nI (D 3 0)), .ref (a + 1), .int (nI (D 5 0)), .ref (a + 2)]) ∧ nAt h (a + 1) = some (nAr (.object "NetLoft$Row") 20 (fun r => if r < D 5 0 then some (D 4 r) else none)) ∧ nAt h (a + 2) = some (nAi 24 (fun i => nI (D 6 i)))
theorem o2_B {h : nPH} {a : Nat} {D : Nat → Nat → Nat} (H : o2 h a D) : h.2.1 ≤ a := H.1
theorem o2_o {h : nPH} {a : Nat} {D : Nat → Nat → Nat} (H : o2 h a D) : nAt h a = some (nOb 2 [.int (nI (D 0 0)), .int (nI (D 1 0)), .int (nI (D 2 0)), .int (nI (D 3 0)), .ref (a + 1), .int (nI (D 5 0)), .ref (a + 2)]) := H.2.1
theorem o2_4 {h : nPH} {a : Nat} {D : Nat → Nat → Nat} (H : o2 h a D) : nAt h (a + 1) = some (nAr (.object "NetLoft$Row") 20 (fun r => if r < D 5 0 then some (D 4 r) else none)) := H.2.2.1
theorem o2_6 {h : nPH} {a : Nat} {D : Nat → Nat → Nat} (H : o2 h a D) : nAt h (a + 2) = some (nAi 24 (fun i => nI (D 6 i))) := H.2.2.2
theorem o2_kept {h h2 : nPH} {a : Nat} {D : Nat → Nat → Nat} (H : o2 h a D) (hB : h2.2.1 = h.2.1) (hq : ∀ q, a ≤ q → q < a + 3 → nAt h2 q = nAt h q) : o2 h2 a D := ⟨by rw [hB]; exact H.1, (hq a (by omega) (by omega)).trans (o2_o H), (hq (a + 1) (by omega) (by omega)).trans (o2_4 H), (hq (a + 2) (by omega) (by omega)).trans (o2_6 H)⟩
theorem o2_fr {S : Nat → Prop} {h h2 : nPH} {a : Nat} {D : Nat → Nat → Nat} (H : o2 h a D) (f : nFr S h h2) (hs : ∀ q, a ≤ q → q < a + 3 → ¬ S q) : o2 h2 a D := o2_kept H f.2.1 (fun q h1 h3 => f.2.2.2.2 q (hs q h1 h3))
theorem o2_cg {D2 : Nat → Nat → Nat} {h h2 : nPH} {a : Nat} {D : Nat → Nat → Nat} (H : o2 h a D) (e : ∀ k i, D2 k i = D k i) : o2 h a D2 := by
  have : D2 = D := funext fun k => funext fun i => e k i
  rw [this]; exact H
theorem o2_put0 (v : Nat) {h : nPH} {a : Nat} {D : Nat → Nat → Nat} (H : o2 h a D) : o2 (nSt h a (nOb 2 (List.set [.int (nI (D 0 0)), .int (nI (D 1 0)), .int (nI (D 2 0)), .int (nI (D 3 0)), .ref (a + 1), .int (nI (D 5 0)), .ref (a + 2)] 0 (.int (nI v))))) a (u2 D 0 0 v) :=
  ⟨H.1, nAt_eq, (nAt_ne (by omega)).trans (o2_4 (D := D) H), (nAt_ne (by omega)).trans (o2_6 (D := D) H)⟩
theorem o2_put1 (v : Nat) {h : nPH} {a : Nat} {D : Nat → Nat → Nat} (H : o2 h a D) : o2 (nSt h a (nOb 2 (List.set [.int (nI (D 0 0)), .int (nI (D 1 0)), .int (nI (D 2 0)), .int (nI (D 3 0)), .ref (a + 1), .int (nI (D 5 0)), .ref (a + 2)] 1 (.int (nI v))))) a (u2 D 1 0 v) :=
  ⟨H.1, nAt_eq, (nAt_ne (by omega)).trans (o2_4 (D := D) H), (nAt_ne (by omega)).trans (o2_6 (D := D) H)⟩
theorem o2_put2 (v : Nat) {h : nPH} {a : Nat} {D : Nat → Nat → Nat} (H : o2 h a D) : o2 (nSt h a (nOb 2 (List.set [.int (nI (D 0 0)), .int (nI (D 1 0)), .int (nI (D 2 0)), .int (nI (D 3 0)), .ref (a + 1), .int (nI (D 5 0)), .ref (a + 2)] 2 (.int (nI v))))) a (u2 D 2 0 v) :=
  ⟨H.1, nAt_eq, (nAt_ne (by omega)).trans (o2_4 (D := D) H), (nAt_ne (by omega)).trans (o2_6 (D := D) H)⟩
theorem o2_put3 (v : Nat) {h : nPH} {a : Nat} {D : Nat → Nat → Nat} (H : o2 h a D) : o2 (nSt h a (nOb 2 (List.set [.int (nI (D 0 0)), .int (nI (D 1 0)), .int (nI (D 2 0)), .int (nI (D 3 0)), .ref (a + 1), .int (nI (D 5 0)), .ref (a + 2)] 3 (.int (nI v))))) a (u2 D 3 0 v) :=
  ⟨H.1, nAt_eq, (nAt_ne (by omega)).trans (o2_4 (D := D) H), (nAt_ne (by omega)).trans (o2_6 (D := D) H)⟩
theorem o2_ast6 (j v : Nat) {h : nPH} {a : Nat} {D : Nat → Nat → Nat} (H : o2 h a D) : o2 (nSt h (a + 2) (nAi 24 (nUp (fun i => nI (D 6 i)) j (nI v)))) a (u2 D 6 j v) :=
  ⟨H.1, (nAt_ne (by omega)).trans (o2_o (D := D) H), (nAt_ne (by omega)).trans (o2_4 (D := D) H), (nAt_eq.trans (by rw [u2_up]))⟩
def l3 (a : Nat) (D : Nat → Nat → Nat) : List Value := [.int (nI (D 0 0)), .ref (a + 1), .ref (a + 2), .ref (a + 3), .ref (a + 4), .ref (a + 5), .ref (a + 6)]
def o3 (h : nPH) (a : Nat) (D : Nat → Nat → Nat) : Prop := h.2.1 ≤ a ∧ nAt h a = some (nOb 3 [.int (nI (D 0 0)), .ref (a + 1), .ref (a + 2), .ref (a + 3), .ref (a + 4), .ref (a + 5), .ref (a + 6)]) ∧ nAt h (a + 1) = some (nAi 24 (fun i => nI (D 1 i))) ∧ nAt h (a + 2) = some (nAi 24 (fun i => nI (D 2 i))) ∧ nAt h (a + 3) = some (nAi 24 (fun i => nI (D 3 i))) ∧ nAt h (a + 4) = some (nAi 24 (fun i => nI (D 4 i))) ∧ nAt h (a + 5) = some (nAi 24 (fun i => nI (D 5 i))) ∧ nAt h (a + 6) = some (nAi 24 (fun i => nI (D 6 i)))
theorem o3_B {h : nPH} {a : Nat} {D : Nat → Nat → Nat} (H : o3 h a D) : h.2.1 ≤ a := H.1
theorem o3_o {h : nPH} {a : Nat} {D : Nat → Nat → Nat} (H : o3 h a D) : nAt h a = some (nOb 3 [.int (nI (D 0 0)), .ref (a + 1), .ref (a + 2), .ref (a + 3), .ref (a + 4), .ref (a + 5), .ref (a + 6)]) := H.2.1
theorem o3_1 {h : nPH} {a : Nat} {D : Nat → Nat → Nat} (H : o3 h a D) : nAt h (a + 1) = some (nAi 24 (fun i => nI (D 1 i))) := H.2.2.1
theorem o3_2 {h : nPH} {a : Nat} {D : Nat → Nat → Nat} (H : o3 h a D) : nAt h (a + 2) = some (nAi 24 (fun i => nI (D 2 i))) := H.2.2.2.1
theorem o3_3 {h : nPH} {a : Nat} {D : Nat → Nat → Nat} (H : o3 h a D) : nAt h (a + 3) = some (nAi 24 (fun i => nI (D 3 i))) := H.2.2.2.2.1
theorem o3_4 {h : nPH} {a : Nat} {D : Nat → Nat → Nat} (H : o3 h a D) : nAt h (a + 4) = some (nAi 24 (fun i => nI (D 4 i))) := H.2.2.2.2.2.1
theorem o3_5 {h : nPH} {a : Nat} {D : Nat → Nat → Nat} (H : o3 h a D) : nAt h (a + 5) = some (nAi 24 (fun i => nI (D 5 i))) := H.2.2.2.2.2.2.1
theorem o3_6 {h : nPH} {a : Nat} {D : Nat → Nat → Nat} (H : o3 h a D) : nAt h (a + 6) = some (nAi 24 (fun i => nI (D 6 i))) := H.2.2.2.2.2.2.2
theorem o3_kept {h h2 : nPH} {a : Nat} {D : Nat → Nat → Nat} (H : o3 h a D) (hB : h2.2.1 = h.2.1) (hq : ∀ q, a ≤ q → q < a + 7 → nAt h2 q = nAt h q) : o3 h2 a D := ⟨by rw [hB]; exact H.1, (hq a (by omega) (by omega)).trans (o3_o H), (hq (a + 1) (by omega) (by omega)).trans (o3_1 H), (hq (a + 2) (by omega) (by omega)).trans (o3_2 H), (hq (a + 3) (by omega) (by omega)).trans (o3_3 H), (hq (a + 4) (by omega) (by omega)).trans (o3_4 H), (hq (a + 5) (by omega) (by omega)).trans (o3_5 H), (hq (a + 6) (by omega) (by omega)).trans (o3_6 H)⟩
theorem o3_fr {S : Nat → Prop} {h h2 : nPH} {a : Nat} {D : Nat → Nat → Nat} (H : o3 h a D) (f : nFr S h h2) (hs : ∀ q, a ≤ q → q < a + 7 → ¬ S q) : o3 h2 a D := o3_kept H f.2.1 (fun q h1 h3 => f.2.2.2.2 q (hs q h1 h3))
theorem o3_cg {D2 : Nat → Nat → Nat} {h h2 : nPH} {a : Nat} {D : Nat → Nat → Nat} (H : o3 h a D) (e : ∀ k i, D2 k i = D k i) : o3 h a D2 := by
  have : D2 = D := funext fun k => funext fun i => e k i
  rw [this]; exact H
theorem o3_put0 (v : Nat) {h : nPH} {a : Nat} {D : Nat → Nat → Nat} (H : o3 h a D) : o3 (nSt h a (nOb 3 (List.set [.int (nI (D 0 0)), .ref (a + 1), .ref (a + 2), .ref (a + 3), .ref (a + 4), .ref (a + 5), .ref (a + 6)] 0 (.int (nI v))))) a (u2 D 0 0 v) :=
  ⟨H.1, nAt_eq, (nAt_ne (by omega)).trans (o3_1 (D := D) H), (nAt_ne (by omega)).trans (o3_2 (D := D) H), (nAt_ne (by omega)).trans (o3_3 (D := D) H), (nAt_ne (by omega)).trans (o3_4 (D := D) H), (nAt_ne (by omega)).trans (o3_5 (D := D) H), (nAt_ne (by omega)).trans (o3_6 (D := D) H)⟩
theorem o3_ast1 (j v : Nat) {h : nPH} {a : Nat} {D : Nat → Nat → Nat} (H : o3 h a D) : o3 (nSt h (a + 1) (nAi 24 (nUp (fun i => nI (D 1 i)) j (nI v)))) a (u2 D 1 j v) :=
  ⟨H.1, (nAt_ne (by omega)).trans (o3_o (D := D) H), (nAt_eq.trans (by rw [u2_up])), (nAt_ne (by omega)).trans (o3_2 (D := D) H), (nAt_ne (by omega)).trans (o3_3 (D := D) H), (nAt_ne (by omega)).trans (o3_4 (D := D) H), (nAt_ne (by omega)).trans (o3_5 (D := D) H), (nAt_ne (by omega)).trans (o3_6 (D := D) H)⟩
theorem o3_ast2 (j v : Nat) {h : nPH} {a : Nat} {D : Nat → Nat → Nat} (H : o3 h a D) : o3 (nSt h (a + 2) (nAi 24 (nUp (fun i => nI (D 2 i)) j (nI v)))) a (u2 D 2 j v) :=
  ⟨H.1, (nAt_ne (by omega)).trans (o3_o (D := D) H), (nAt_ne (by omega)).trans (o3_1 (D := D) H), (nAt_eq.trans (by rw [u2_up])), (nAt_ne (by omega)).trans (o3_3 (D := D) H), (nAt_ne (by omega)).trans (o3_4 (D := D) H), (nAt_ne (by omega)).trans (o3_5 (D := D) H), (nAt_ne (by omega)).trans (o3_6 (D := D) H)⟩
theorem o3_ast3 (j v : Nat) {h : nPH} {a : Nat} {D : Nat → Nat → Nat} (H : o3 h a D) : o3 (nSt h (a + 3) (nAi 24 (nUp (fun i => nI (D 3 i)) j (nI v)))) a (u2 D 3 j v) :=
  ⟨H.1, (nAt_ne (by omega)).trans (o3_o (D := D) H), (nAt_ne (by omega)).trans (o3_1 (D := D) H), (nAt_ne (by omega)).trans (o3_2 (D := D) H), (nAt_eq.trans (by rw [u2_up])), (nAt_ne (by omega)).trans (o3_4 (D := D) H), (nAt_ne (by omega)).trans (o3_5 (D := D) H), (nAt_ne (by omega)).trans (o3_6 (D := D) H)⟩
theorem o3_ast4 (j v : Nat) {h : nPH} {a : Nat} {D : Nat → Nat → Nat} (H : o3 h a D) : o3 (nSt h (a + 4) (nAi 24 (nUp (fun i => nI (D 4 i)) j (nI v)))) a (u2 D 4 j v) :=
  ⟨H.1, (nAt_ne (by omega)).trans (o3_o (D := D) H), (nAt_ne (by omega)).trans (o3_1 (D := D) H), (nAt_ne (by omega)).trans (o3_2 (D := D) H), (nAt_ne (by omega)).trans (o3_3 (D := D) H), (nAt_eq.trans (by rw [u2_up])), (nAt_ne (by omega)).trans (o3_5 (D := D) H), (nAt_ne (by omega)).trans (o3_6 (D := D) H)⟩
theorem o3_ast5 (j v : Nat) {h : nPH} {a : Nat} {D : Nat → Nat → Nat} (H : o3 h a D) : o3 (nSt h (a + 5) (nAi 24 (nUp (fun i => nI (D 5 i)) j (nI v)))) a (u2 D 5 j v) :=
  ⟨H.1, (nAt_ne (by omega)).trans (o3_o (D := D) H), (nAt_ne (by omega)).trans (o3_1 (D := D) H), (nAt_ne (by omega)).trans (o3_2 (D := D) H), (nAt_ne (by omega)).trans (o3_3 (D := D) H), (nAt_ne (by omega)).trans (o3_4 (D := D) H), (nAt_eq.trans (by rw [u2_up])), (nAt_ne (by omega)).trans (o3_6 (D := D) H)⟩
theorem o3_ast6 (j v : Nat) {h : nPH} {a : Nat} {D : Nat → Nat → Nat} (H : o3 h a D) : o3 (nSt h (a + 6) (nAi 24 (nUp (fun i => nI (D 6 i)) j (nI v)))) a (u2 D 6 j v) :=
  ⟨H.1, (nAt_ne (by omega)).trans (o3_o (D := D) H), (nAt_ne (by omega)).trans (o3_1 (D := D) H), (nAt_ne (by omega)).trans (o3_2 (D := D) H), (nAt_ne (by omega)).trans (o3_3 (D := D) H), (nAt_ne (by omega)).trans (o3_4 (D := D) H), (nAt_ne (by omega)).trans (o3_5 (D := D) H), (nAt_eq.trans (by rw [u2_up]))⟩
def l4 (a : Nat) (D : Nat → Nat → Nat) : List Value := [.int (nI (D 0 0)), .ref (a + 1)]
def o4 (h : nPH) (a : Nat) (D : Nat → Nat → Nat) : Prop := h.2.1 ≤ a ∧ nAt h a = some (nOb 4 [.int (nI (D 0 0)), .ref (a + 1)]) ∧ nAt h (a + 1) = some (nAi 24 (fun i => nI (D 1 i)))
theorem o4_B {h : nPH} {a : Nat} {D : Nat → Nat → Nat} (H : o4 h a D) : h.2.1 ≤ a := H.1
theorem o4_o {h : nPH} {a : Nat} {D : Nat → Nat → Nat} (H : o4 h a D) : nAt h a = some (nOb 4 [.int (nI (D 0 0)), .ref (a + 1)]) := H.2.1
theorem o4_1 {h : nPH} {a : Nat} {D : Nat → Nat → Nat} (H : o4 h a D) : nAt h (a + 1) = some (nAi 24 (fun i => nI (D 1 i))) := H.2.2
theorem o4_kept {h h2 : nPH} {a : Nat} {D : Nat → Nat → Nat} (H : o4 h a D) (hB : h2.2.1 = h.2.1) (hq : ∀ q, a ≤ q → q < a + 2 → nAt h2 q = nAt h q) : o4 h2 a D := ⟨by rw [hB]; exact H.1, (hq a (by omega) (by omega)).trans (o4_o H), (hq (a + 1) (by omega) (by omega)).trans (o4_1 H)⟩
theorem o4_fr {S : Nat → Prop} {h h2 : nPH} {a : Nat} {D : Nat → Nat → Nat} (H : o4 h a D) (f : nFr S h h2) (hs : ∀ q, a ≤ q → q < a + 2 → ¬ S q) : o4 h2 a D := o4_kept H f.2.1 (fun q h1 h3 => f.2.2.2.2 q (hs q h1 h3))
theorem o4_cg {D2 : Nat → Nat → Nat} {h h2 : nPH} {a : Nat} {D : Nat → Nat → Nat} (H : o4 h a D) (e : ∀ k i, D2 k i = D k i) : o4 h a D2 := by
  have : D2 = D := funext fun k => funext fun i => e k i
  rw [this]; exact H
theorem o4_put0 (v : Nat) {h : nPH} {a : Nat} {D : Nat → Nat → Nat} (H : o4 h a D) : o4 (nSt h a (nOb 4 (List.set [.int (nI (D 0 0)), .ref (a + 1)] 0 (.int (nI v))))) a (u2 D 0 0 v) :=
  ⟨H.1, nAt_eq, (nAt_ne (by omega)).trans (o4_1 (D := D) H)⟩
theorem o4_ast1 (j v : Nat) {h : nPH} {a : Nat} {D : Nat → Nat → Nat} (H : o4 h a D) : o4 (nSt h (a + 1) (nAi 24 (nUp (fun i => nI (D 1 i)) j (nI v)))) a (u2 D 1 j v) :=
  ⟨H.1, (nAt_ne (by omega)).trans (o4_o (D := D) H), (nAt_eq.trans (by rw [u2_up]))⟩
def l5 (a : Nat) (D : Nat → Nat → Nat) : List Value := [.int (nI (D 0 0)), .int (nI (D 1 0)), .int (nI (D 2 0))]
def o5 (h : nPH) (a : Nat) (D : Nat → Nat → Nat) : Prop := h.2.1 ≤ a ∧ nAt h a = some (nOb 5 [.int (nI (D 0 0)), .int (nI (D 1 0)), .int (nI (D 2 0))])
theorem o5_B {h : nPH} {a : Nat} {D : Nat → Nat → Nat} (H : o5 h a D) : h.2.1 ≤ a := H.1
theorem o5_o {h : nPH} {a : Nat} {D : Nat → Nat → Nat} (H : o5 h a D) : nAt h a = some (nOb 5 [.int (nI (D 0 0)), .int (nI (D 1 0)), .int (nI (D 2 0))]) := H.2
theorem o5_kept {h h2 : nPH} {a : Nat} {D : Nat → Nat → Nat} (H : o5 h a D) (hB : h2.2.1 = h.2.1) (hq : ∀ q, a ≤ q → q < a + 1 → nAt h2 q = nAt h q) : o5 h2 a D := ⟨by rw [hB]; exact H.1, (hq a (by omega) (by omega)).trans (o5_o H)⟩
theorem o5_fr {S : Nat → Prop} {h h2 : nPH} {a : Nat} {D : Nat → Nat → Nat} (H : o5 h a D) (f : nFr S h h2) (hs : ∀ q, a ≤ q → q < a + 1 → ¬ S q) : o5 h2 a D := o5_kept H f.2.1 (fun q h1 h3 => f.2.2.2.2 q (hs q h1 h3))
theorem o5_cg {D2 : Nat → Nat → Nat} {h h2 : nPH} {a : Nat} {D : Nat → Nat → Nat} (H : o5 h a D) (e : ∀ k i, D2 k i = D k i) : o5 h a D2 := by
  have : D2 = D := funext fun k => funext fun i => e k i
  rw [this]; exact H
theorem o5_put0 (v : Nat) {h : nPH} {a : Nat} {D : Nat → Nat → Nat} (H : o5 h a D) : o5 (nSt h a (nOb 5 (List.set [.int (nI (D 0 0)), .int (nI (D 1 0)), .int (nI (D 2 0))] 0 (.int (nI v))))) a (u2 D 0 0 v) :=
  ⟨H.1, nAt_eq⟩
theorem o5_put1 (v : Nat) {h : nPH} {a : Nat} {D : Nat → Nat → Nat} (H : o5 h a D) : o5 (nSt h a (nOb 5 (List.set [.int (nI (D 0 0)), .int (nI (D 1 0)), .int (nI (D 2 0))] 1 (.int (nI v))))) a (u2 D 1 0 v) :=
  ⟨H.1, nAt_eq⟩
theorem o5_put2 (v : Nat) {h : nPH} {a : Nat} {D : Nat → Nat → Nat} (H : o5 h a D) : o5 (nSt h a (nOb 5 (List.set [.int (nI (D 0 0)), .int (nI (D 1 0)), .int (nI (D 2 0))] 2 (.int (nI v))))) a (u2 D 2 0 v) :=
  ⟨H.1, nAt_eq⟩
def l6 (a : Nat) (D : Nat → Nat → Nat) : List Value := [.int (nI (D 0 0)), .ref (a + 1), .ref (a + 2), .int (nI (D 3 0))]
def o6 (h : nPH) (a : Nat) (D : Nat → Nat → Nat) : Prop := h.2.1 ≤ a ∧ nAt h a = some (nOb 6 [.int (nI (D 0 0)), .ref (a + 1), .ref (a + 2), .int (nI (D 3 0))]) ∧ nAt h (a + 1) = some (nAi 1441 (fun i => nI (D 1 i))) ∧ nAt h (a + 2) = some (nAi 1441 (fun i => nI (D 2 i)))
theorem o6_B {h : nPH} {a : Nat} {D : Nat → Nat → Nat} (H : o6 h a D) : h.2.1 ≤ a := H.1
theorem o6_o {h : nPH} {a : Nat} {D : Nat → Nat → Nat} (H : o6 h a D) : nAt h a = some (nOb 6 [.int (nI (D 0 0)), .ref (a + 1), .ref (a + 2), .int (nI (D 3 0))]) := H.2.1
theorem o6_1 {h : nPH} {a : Nat} {D : Nat → Nat → Nat} (H : o6 h a D) : nAt h (a + 1) = some (nAi 1441 (fun i => nI (D 1 i))) := H.2.2.1
theorem o6_2 {h : nPH} {a : Nat} {D : Nat → Nat → Nat} (H : o6 h a D) : nAt h (a + 2) = some (nAi 1441 (fun i => nI (D 2 i))) := H.2.2.2
theorem o6_kept {h h2 : nPH} {a : Nat} {D : Nat → Nat → Nat} (H : o6 h a D) (hB : h2.2.1 = h.2.1) (hq : ∀ q, a ≤ q → q < a + 3 → nAt h2 q = nAt h q) : o6 h2 a D := ⟨by rw [hB]; exact H.1, (hq a (by omega) (by omega)).trans (o6_o H), (hq (a + 1) (by omega) (by omega)).trans (o6_1 H), (hq (a + 2) (by omega) (by omega)).trans (o6_2 H)⟩
theorem o6_fr {S : Nat → Prop} {h h2 : nPH} {a : Nat} {D : Nat → Nat → Nat} (H : o6 h a D) (f : nFr S h h2) (hs : ∀ q, a ≤ q → q < a + 3 → ¬ S q) : o6 h2 a D := o6_kept H f.2.1 (fun q h1 h3 => f.2.2.2.2 q (hs q h1 h3))
theorem o6_cg {D2 : Nat → Nat → Nat} {h h2 : nPH} {a : Nat} {D : Nat → Nat → Nat} (H : o6 h a D) (e : ∀ k i, D2 k i = D k i) : o6 h a D2 := by
  have : D2 = D := funext fun k => funext fun i => e k i
  rw [this]; exact H
theorem o6_put0 (v : Nat) {h : nPH} {a : Nat} {D : Nat → Nat → Nat} (H : o6 h a D) : o6 (nSt h a (nOb 6 (List.set [.int (nI (D 0 0)), .ref (a + 1), .ref (a + 2), .int (nI (D 3 0))] 0 (.int (nI v))))) a (u2 D 0 0 v) :=
  ⟨H.1, nAt_eq, (nAt_ne (by omega)).trans (o6_1 (D := D) H), (nAt_ne (by omega)).trans (o6_2 (D := D) H)⟩
theorem o6_put3 (v : Nat) {h : nPH} {a : Nat} {D : Nat → Nat → Nat} (H : o6 h a D) : o6 (nSt h a (nOb 6 (List.set [.int (nI (D 0 0)), .ref (a + 1), .ref (a + 2), .int (nI (D 3 0))] 3 (.int (nI v))))) a (u2 D 3 0 v) :=
  ⟨H.1, nAt_eq, (nAt_ne (by omega)).trans (o6_1 (D := D) H), (nAt_ne (by omega)).trans (o6_2 (D := D) H)⟩
theorem o6_ast1 (j v : Nat) {h : nPH} {a : Nat} {D : Nat → Nat → Nat} (H : o6 h a D) : o6 (nSt h (a + 1) (nAi 1441 (nUp (fun i => nI (D 1 i)) j (nI v)))) a (u2 D 1 j v) :=
  ⟨H.1, (nAt_ne (by omega)).trans (o6_o (D := D) H), (nAt_eq.trans (by rw [u2_up])), (nAt_ne (by omega)).trans (o6_2 (D := D) H)⟩
theorem o6_ast2 (j v : Nat) {h : nPH} {a : Nat} {D : Nat → Nat → Nat} (H : o6 h a D) : o6 (nSt h (a + 2) (nAi 1441 (nUp (fun i => nI (D 2 i)) j (nI v)))) a (u2 D 2 j v) :=
  ⟨H.1, (nAt_ne (by omega)).trans (o6_o (D := D) H), (nAt_ne (by omega)).trans (o6_1 (D := D) H), (nAt_eq.trans (by rw [u2_up]))⟩
def l8 (a : Nat) (D : Nat → Nat → Nat) : List Value := [.int (nI (D 0 0)), .int (nI (D 1 0)), .ref (a + 1), .ref (a + 2), .ref (a + 3), .ref (a + 4), .ref (a + 5), .ref (a + 6), .ref (a + 7), .ref (a + 8), .ref (a + 9), .ref (a + 10), .ref (a + 11), .ref (a + 12), .ref (a + 13), .ref (a + 14), .int (nV (D 16 0)), .ref (a + 15), .ref (a + 16), .ref (a + 17), .int (nI (D 20 0)), .int (nI (D 21 0)), .int (nI (D 22 0)), .int (nI (D 23 0)), .int (nI (D 24 0)), .int (nI (D 25 0)), .ref (a + 18), .ref (a + 19), .int (nI (D 28 0)), .ref (a + 20), .ref (a + 21), .int (nI (D 31 0)), .int (nI (D 32 0)), .int (nI (D 33 0)), .int (nI (D 34 0)), .ref (a + 22), .ref (a + 23), .long (lN (D 37 0)), .long (lN (D 38 0))]
def o8 (h : nPH) (a : Nat) (D : Nat → Nat → Nat) : Prop := h.2.1 ≤ a ∧ nAt h a = some (nOb 8 [.int (nI (D 0 0)), .int (nI (D 1 0)), .ref (a + 1), .ref (a + 2), .ref (a + 3), .ref (a + 4), .ref (a + 5), .ref (a + 6), .ref (a + 7), .ref (a + 8), .ref (a + 9), .ref (a + 10), .ref (a + 11), .ref (a + 12), .ref (a + 13), .ref (a + 14), .int (nV (D 16 0)), .ref (a + 15), .ref (a + 16), .ref (a + 17), .int (nI (D 20 0)), .int (nI (D 21 0)), .int (nI (D 22 0)), .int (nI (D 23 0)), .int (nI (D 24 0)), .int (nI (D 25 0)), .ref (a + 18), .ref (a + 19), .int (nI (D 28 0)), .ref (a + 20), .ref (a + 21), .int (nI (D 31 0)), .int (nI (D 32 0)), .int (nI (D 33 0)), .int (nI (D 34 0)), .ref (a + 22), .ref (a + 23), .long (lN (D 37 0)), .long (lN (D 38 0))]) ∧ nAt h (a + 1) = some (nAi 12 (fun i => nI (D 2 i))) ∧ nAt h (a + 2) = some (nAi 12 (fun i => nI (D 3 i))) ∧ nAt h (a + 3) = some (nAi 12 (fun i => nI (D 4 i))) ∧ nAt h (a + 4) = some (nAi 12 (fun i => nI (D 5 i))) ∧ nAt h (a + 5) = some (nAi 12 (fun i => nI (D 6 i))) ∧ nAt h (a + 6) = some (nAi 288 (fun i => nI (D 7 i))) ∧ nAt h (a + 7) = some (nAi 240 (fun i => nI (D 8 i))) ∧ nAt h (a + 8) = some (nAz 240 (fun i => nI (D 9 i))) ∧ nAt h (a + 9) = some (nAi 5760 (fun i => nI (D 10 i))) ∧ nAt h (a + 10) = some (nAi 5760 (fun i => nI (D 11 i))) ∧ nAt h (a + 11) = some (nAi 5760 (fun i => nV (D 12 i))) ∧ nAt h (a + 12) = some (nAi 5760 (fun i => nI (D 13 i))) ∧ nAt h (a + 13) = some (nAi 5760 (fun i => nI (D 14 i))) ∧ nAt h (a + 14) = some (nAz 5760 (fun i => nI (D 15 i))) ∧ nAt h (a + 15) = some (nAi 101 (fun i => nI (D 17 i))) ∧ nAt h (a + 16) = some (nAz 480 (fun i => nI (D 18 i))) ∧ nAt h (a + 17) = some (nAi 480 (fun i => nI (D 19 i))) ∧ nAt h (a + 18) = some (nAi 480 (fun i => nI (D 26 i))) ∧ nAt h (a + 19) = some (nAz 480 (fun i => nI (D 27 i))) ∧ nAt h (a + 20) = some (nAi 1200 (fun i => nI (D 29 i))) ∧ nAt h (a + 21) = some (nAz 480 (fun i => nI (D 30 i))) ∧ nAt h (a + 22) = some (nAi 24 (fun i => nI (D 35 i))) ∧ nAt h (a + 23) = some (nAl 480 (fun i => lN (D 36 i)))
theorem o8_B {h : nPH} {a : Nat} {D : Nat → Nat → Nat} (H : o8 h a D) : h.2.1 ≤ a := H.1
theorem o8_o {h : nPH} {a : Nat} {D : Nat → Nat → Nat} (H : o8 h a D) : nAt h a = some (nOb 8 [.int (nI (D 0 0)), .int (nI (D 1 0)), .ref (a + 1), .ref (a + 2), .ref (a + 3), .ref (a + 4), .ref (a + 5), .ref (a + 6), .ref (a + 7), .ref (a + 8), .ref (a + 9), .ref (a + 10), .ref (a + 11), .ref (a + 12), .ref (a + 13), .ref (a + 14), .int (nV (D 16 0)), .ref (a + 15), .ref (a + 16), .ref (a + 17), .int (nI (D 20 0)), .int (nI (D 21 0)), .int (nI (D 22 0)), .int (nI (D 23 0)), .int (nI (D 24 0)), .int (nI (D 25 0)), .ref (a + 18), .ref (a + 19), .int (nI (D 28 0)), .ref (a + 20), .ref (a + 21), .int (nI (D 31 0)), .int (nI (D 32 0)), .int (nI (D 33 0)), .int (nI (D 34 0)), .ref (a + 22), .ref (a + 23), .long (lN (D 37 0)), .long (lN (D 38 0))]) := H.2.1
theorem o8_2 {h : nPH} {a : Nat} {D : Nat → Nat → Nat} (H : o8 h a D) : nAt h (a + 1) = some (nAi 12 (fun i => nI (D 2 i))) := H.2.2.1
theorem o8_3 {h : nPH} {a : Nat} {D : Nat → Nat → Nat} (H : o8 h a D) : nAt h (a + 2) = some (nAi 12 (fun i => nI (D 3 i))) := H.2.2.2.1
theorem o8_4 {h : nPH} {a : Nat} {D : Nat → Nat → Nat} (H : o8 h a D) : nAt h (a + 3) = some (nAi 12 (fun i => nI (D 4 i))) := H.2.2.2.2.1
theorem o8_5 {h : nPH} {a : Nat} {D : Nat → Nat → Nat} (H : o8 h a D) : nAt h (a + 4) = some (nAi 12 (fun i => nI (D 5 i))) := H.2.2.2.2.2.1
theorem o8_6 {h : nPH} {a : Nat} {D : Nat → Nat → Nat} (H : o8 h a D) : nAt h (a + 5) = some (nAi 12 (fun i => nI (D 6 i))) := H.2.2.2.2.2.2.1
theorem o8_7 {h : nPH} {a : Nat} {D : Nat → Nat → Nat} (H : o8 h a D) : nAt h (a + 6) = some (nAi 288 (fun i => nI (D 7 i))) := H.2.2.2.2.2.2.2.1
theorem o8_8 {h : nPH} {a : Nat} {D : Nat → Nat → Nat} (H : o8 h a D) : nAt h (a + 7) = some (nAi 240 (fun i => nI (D 8 i))) := H.2.2.2.2.2.2.2.2.1
theorem o8_9 {h : nPH} {a : Nat} {D : Nat → Nat → Nat} (H : o8 h a D) : nAt h (a + 8) = some (nAz 240 (fun i => nI (D 9 i))) := H.2.2.2.2.2.2.2.2.2.1
theorem o8_10 {h : nPH} {a : Nat} {D : Nat → Nat → Nat} (H : o8 h a D) : nAt h (a + 9) = some (nAi 5760 (fun i => nI (D 10 i))) := H.2.2.2.2.2.2.2.2.2.2.1
theorem o8_11 {h : nPH} {a : Nat} {D : Nat → Nat → Nat} (H : o8 h a D) : nAt h (a + 10) = some (nAi 5760 (fun i => nI (D 11 i))) := H.2.2.2.2.2.2.2.2.2.2.2.1
theorem o8_12 {h : nPH} {a : Nat} {D : Nat → Nat → Nat} (H : o8 h a D) : nAt h (a + 11) = some (nAi 5760 (fun i => nV (D 12 i))) := H.2.2.2.2.2.2.2.2.2.2.2.2.1
theorem o8_13 {h : nPH} {a : Nat} {D : Nat → Nat → Nat} (H : o8 h a D) : nAt h (a + 12) = some (nAi 5760 (fun i => nI (D 13 i))) := H.2.2.2.2.2.2.2.2.2.2.2.2.2.1
theorem o8_14 {h : nPH} {a : Nat} {D : Nat → Nat → Nat} (H : o8 h a D) : nAt h (a + 13) = some (nAi 5760 (fun i => nI (D 14 i))) := H.2.2.2.2.2.2.2.2.2.2.2.2.2.2.1
theorem o8_15 {h : nPH} {a : Nat} {D : Nat → Nat → Nat} (H : o8 h a D) : nAt h (a + 14) = some (nAz 5760 (fun i => nI (D 15 i))) := H.2.2.2.2.2.2.2.2.2.2.2.2.2.2.2.1
theorem o8_17 {h : nPH} {a : Nat} {D : Nat → Nat → Nat} (H : o8 h a D) : nAt h (a + 15) = some (nAi 101 (fun i => nI (D 17 i))) := H.2.2.2.2.2.2.2.2.2.2.2.2.2.2.2.2.1
theorem o8_18 {h : nPH} {a : Nat} {D : Nat → Nat → Nat} (H : o8 h a D) : nAt h (a + 16) = some (nAz 480 (fun i => nI (D 18 i))) := H.2.2.2.2.2.2.2.2.2.2.2.2.2.2.2.2.2.1
theorem o8_19 {h : nPH} {a : Nat} {D : Nat → Nat → Nat} (H : o8 h a D) : nAt h (a + 17) = some (nAi 480 (fun i => nI (D 19 i))) := H.2.2.2.2.2.2.2.2.2.2.2.2.2.2.2.2.2.2.1
theorem o8_26 {h : nPH} {a : Nat} {D : Nat → Nat → Nat} (H : o8 h a D) : nAt h (a + 18) = some (nAi 480 (fun i => nI (D 26 i))) := H.2.2.2.2.2.2.2.2.2.2.2.2.2.2.2.2.2.2.2.1
theorem o8_27 {h : nPH} {a : Nat} {D : Nat → Nat → Nat} (H : o8 h a D) : nAt h (a + 19) = some (nAz 480 (fun i => nI (D 27 i))) := H.2.2.2.2.2.2.2.2.2.2.2.2.2.2.2.2.2.2.2.2.1
theorem o8_29 {h : nPH} {a : Nat} {D : Nat → Nat → Nat} (H : o8 h a D) : nAt h (a + 20) = some (nAi 1200 (fun i => nI (D 29 i))) := H.2.2.2.2.2.2.2.2.2.2.2.2.2.2.2.2.2.2.2.2.2.1
theorem o8_30 {h : nPH} {a : Nat} {D : Nat → Nat → Nat} (H : o8 h a D) : nAt h (a + 21) = some (nAz 480 (fun i => nI (D 30 i))) := H.2.2.2.2.2.2.2.2.2.2.2.2.2.2.2.2.2.2.2.2.2.2.1
theorem o8_35 {h : nPH} {a : Nat} {D : Nat → Nat → Nat} (H : o8 h a D) : nAt h (a + 22) = some (nAi 24 (fun i => nI (D 35 i))) := H.2.2.2.2.2.2.2.2.2.2.2.2.2.2.2.2.2.2.2.2.2.2.2.1
theorem o8_36 {h : nPH} {a : Nat} {D : Nat → Nat → Nat} (H : o8 h a D) : nAt h (a + 23) = some (nAl 480 (fun i => lN (D 36 i))) := H.2.2.2.2.2.2.2.2.2.2.2.2.2.2.2.2.2.2.2.2.2.2.2.2
theorem o8_kept {h h2 : nPH} {a : Nat} {D : Nat → Nat → Nat} (H : o8 h a D) (hB : h2.2.1 = h.2.1) (hq : ∀ q, a ≤ q → q < a + 24 → nAt h2 q = nAt h q) : o8 h2 a D := ⟨by rw [hB]; exact H.1, (hq a (by omega) (by omega)).trans (o8_o H), (hq (a + 1) (by omega) (by omega)).trans (o8_2 H), (hq (a + 2) (by omega) (by omega)).trans (o8_3 H), (hq (a + 3) (by omega) (by omega)).trans (o8_4 H), (hq (a + 4) (by omega) (by omega)).trans (o8_5 H), (hq (a + 5) (by omega) (by omega)).trans (o8_6 H), (hq (a + 6) (by omega) (by omega)).trans (o8_7 H), (hq (a + 7) (by omega) (by omega)).trans (o8_8 H), (hq (a + 8) (by omega) (by omega)).trans (o8_9 H), (hq (a + 9) (by omega) (by omega)).trans (o8_10 H), (hq (a + 10) (by omega) (by omega)).trans (o8_11 H), (hq (a + 11) (by omega) (by omega)).trans (o8_12 H), (hq (a + 12) (by omega) (by omega)).trans (o8_13 H), (hq (a + 13) (by omega) (by omega)).trans (o8_14 H), (hq (a + 14) (by omega) (by omega)).trans (o8_15 H), (hq (a + 15) (by omega) (by omega)).trans (o8_17 H), (hq (a + 16) (by omega) (by omega)).trans (o8_18 H), (hq (a + 17) (by omega) (by omega)).trans (o8_19 H), (hq (a + 18) (by omega) (by omega)).trans (o8_26 H), (hq (a + 19) (by omega) (by omega)).trans (o8_27 H), (hq (a + 20) (by omega) (by omega)).trans (o8_29 H), (hq (a + 21) (by omega) (by omega)).trans (o8_30 H), (hq (a + 22) (by omega) (by omega)).trans (o8_35 H), (hq (a + 23) (by omega) (by omega)).trans (o8_36 H)⟩
theorem o8_fr {S : Nat → Prop} {h h2 : nPH} {a : Nat} {D : Nat → Nat → Nat} (H : o8 h a D) (f : nFr S h h2) (hs : ∀ q, a ≤ q → q < a + 24 → ¬ S q) : o8 h2 a D := o8_kept H f.2.1 (fun q h1 h3 => f.2.2.2.2 q (hs q h1 h3))
theorem o8_cg {D2 : Nat → Nat → Nat} {h h2 : nPH} {a : Nat} {D : Nat → Nat → Nat} (H : o8 h a D) (e : ∀ k i, D2 k i = D k i) : o8 h a D2 := by
  have : D2 = D := funext fun k => funext fun i => e k i
  rw [this]; exact H
theorem o8_put0 (v : Nat) {h : nPH} {a : Nat} {D : Nat → Nat → Nat} (H : o8 h a D) : o8 (nSt h a (nOb 8 (List.set [.int (nI (D 0 0)), .int (nI (D 1 0)), .ref (a + 1), .ref (a + 2), .ref (a + 3), .ref (a + 4), .ref (a + 5), .ref (a + 6), .ref (a + 7), .ref (a + 8), .ref (a + 9), .ref (a + 10), .ref (a + 11), .ref (a + 12), .ref (a + 13), .ref (a + 14), .int (nV (D 16 0)), .ref (a + 15), .ref (a + 16), .ref (a + 17), .int (nI (D 20 0)), .int (nI (D 21 0)), .int (nI (D 22 0)), .int (nI (D 23 0)), .int (nI (D 24 0)), .int (nI (D 25 0)), .ref (a + 18), .ref (a + 19), .int (nI (D 28 0)), .ref (a + 20), .ref (a + 21), .int (nI (D 31 0)), .int (nI (D 32 0)), .int (nI (D 33 0)), .int (nI (D 34 0)), .ref (a + 22), .ref (a + 23), .long (lN (D 37 0)), .long (lN (D 38 0))] 0 (.int (nI v))))) a (u2 D 0 0 v) :=
  ⟨H.1, nAt_eq, (nAt_ne (by omega)).trans (o8_2 (D := D) H), (nAt_ne (by omega)).trans (o8_3 (D := D) H), (nAt_ne (by omega)).trans (o8_4 (D := D) H), (nAt_ne (by omega)).trans (o8_5 (D := D) H), (nAt_ne (by omega)).trans (o8_6 (D := D) H), (nAt_ne (by omega)).trans (o8_7 (D := D) H), (nAt_ne (by omega)).trans (o8_8 (D := D) H), (nAt_ne (by omega)).trans (o8_9 (D := D) H), (nAt_ne (by omega)).trans (o8_10 (D := D) H), (nAt_ne (by omega)).trans (o8_11 (D := D) H), (nAt_ne (by omega)).trans (o8_12 (D := D) H), (nAt_ne (by omega)).trans (o8_13 (D := D) H), (nAt_ne (by omega)).trans (o8_14 (D := D) H), (nAt_ne (by omega)).trans (o8_15 (D := D) H), (nAt_ne (by omega)).trans (o8_17 (D := D) H), (nAt_ne (by omega)).trans (o8_18 (D := D) H), (nAt_ne (by omega)).trans (o8_19 (D := D) H), (nAt_ne (by omega)).trans (o8_26 (D := D) H), (nAt_ne (by omega)).trans (o8_27 (D := D) H), (nAt_ne (by omega)).trans (o8_29 (D := D) H), (nAt_ne (by omega)).trans (o8_30 (D := D) H), (nAt_ne (by omega)).trans (o8_35 (D := D) H), (nAt_ne (by omega)).trans (o8_36 (D := D) H)⟩
theorem o8_put1 (v : Nat) {h : nPH} {a : Nat} {D : Nat → Nat → Nat} (H : o8 h a D) : o8 (nSt h a (nOb 8 (List.set [.int (nI (D 0 0)), .int (nI (D 1 0)), .ref (a + 1), .ref (a + 2), .ref (a + 3), .ref (a + 4), .ref (a + 5), .ref (a + 6), .ref (a + 7), .ref (a + 8), .ref (a + 9), .ref (a + 10), .ref (a + 11), .ref (a + 12), .ref (a + 13), .ref (a + 14), .int (nV (D 16 0)), .ref (a + 15), .ref (a + 16), .ref (a + 17), .int (nI (D 20 0)), .int (nI (D 21 0)), .int (nI (D 22 0)), .int (nI (D 23 0)), .int (nI (D 24 0)), .int (nI (D 25 0)), .ref (a + 18), .ref (a + 19), .int (nI (D 28 0)), .ref (a + 20), .ref (a + 21), .int (nI (D 31 0)), .int (nI (D 32 0)), .int (nI (D 33 0)), .int (nI (D 34 0)), .ref (a + 22), .ref (a + 23), .long (lN (D 37 0)), .long (lN (D 38 0))] 1 (.int (nI v))))) a (u2 D 1 0 v) :=
  ⟨H.1, nAt_eq, (nAt_ne (by omega)).trans (o8_2 (D := D) H), (nAt_ne (by omega)).trans (o8_3 (D := D) H), (nAt_ne (by omega)).trans (o8_4 (D := D) H), (nAt_ne (by omega)).trans (o8_5 (D := D) H), (nAt_ne (by omega)).trans (o8_6 (D := D) H), (nAt_ne (by omega)).trans (o8_7 (D := D) H), (nAt_ne (by omega)).trans (o8_8 (D := D) H), (nAt_ne (by omega)).trans (o8_9 (D := D) H), (nAt_ne (by omega)).trans (o8_10 (D := D) H), (nAt_ne (by omega)).trans (o8_11 (D := D) H), (nAt_ne (by omega)).trans (o8_12 (D := D) H), (nAt_ne (by omega)).trans (o8_13 (D := D) H), (nAt_ne (by omega)).trans (o8_14 (D := D) H), (nAt_ne (by omega)).trans (o8_15 (D := D) H), (nAt_ne (by omega)).trans (o8_17 (D := D) H), (nAt_ne (by omega)).trans (o8_18 (D := D) H), (nAt_ne (by omega)).trans (o8_19 (D := D) H), (nAt_ne (by omega)).trans (o8_26 (D := D) H), (nAt_ne (by omega)).trans (o8_27 (D := D) H), (nAt_ne (by omega)).trans (o8_29 (D := D) H), (nAt_ne (by omega)).trans (o8_30 (D := D) H), (nAt_ne (by omega)).trans (o8_35 (D := D) H), (nAt_ne (by omega)).trans (o8_36 (D := D) H)⟩
theorem o8_put16 (v : Nat) {h : nPH} {a : Nat} {D : Nat → Nat → Nat} (H : o8 h a D) : o8 (nSt h a (nOb 8 (List.set [.int (nI (D 0 0)), .int (nI (D 1 0)), .ref (a + 1), .ref (a + 2), .ref (a + 3), .ref (a + 4), .ref (a + 5), .ref (a + 6), .ref (a + 7), .ref (a + 8), .ref (a + 9), .ref (a + 10), .ref (a + 11), .ref (a + 12), .ref (a + 13), .ref (a + 14), .int (nV (D 16 0)), .ref (a + 15), .ref (a + 16), .ref (a + 17), .int (nI (D 20 0)), .int (nI (D 21 0)), .int (nI (D 22 0)), .int (nI (D 23 0)), .int (nI (D 24 0)), .int (nI (D 25 0)), .ref (a + 18), .ref (a + 19), .int (nI (D 28 0)), .ref (a + 20), .ref (a + 21), .int (nI (D 31 0)), .int (nI (D 32 0)), .int (nI (D 33 0)), .int (nI (D 34 0)), .ref (a + 22), .ref (a + 23), .long (lN (D 37 0)), .long (lN (D 38 0))] 16 (.int (nV v))))) a (u2 D 16 0 v) :=
  ⟨H.1, nAt_eq, (nAt_ne (by omega)).trans (o8_2 (D := D) H), (nAt_ne (by omega)).trans (o8_3 (D := D) H), (nAt_ne (by omega)).trans (o8_4 (D := D) H), (nAt_ne (by omega)).trans (o8_5 (D := D) H), (nAt_ne (by omega)).trans (o8_6 (D := D) H), (nAt_ne (by omega)).trans (o8_7 (D := D) H), (nAt_ne (by omega)).trans (o8_8 (D := D) H), (nAt_ne (by omega)).trans (o8_9 (D := D) H), (nAt_ne (by omega)).trans (o8_10 (D := D) H), (nAt_ne (by omega)).trans (o8_11 (D := D) H), (nAt_ne (by omega)).trans (o8_12 (D := D) H), (nAt_ne (by omega)).trans (o8_13 (D := D) H), (nAt_ne (by omega)).trans (o8_14 (D := D) H), (nAt_ne (by omega)).trans (o8_15 (D := D) H), (nAt_ne (by omega)).trans (o8_17 (D := D) H), (nAt_ne (by omega)).trans (o8_18 (D := D) H), (nAt_ne (by omega)).trans (o8_19 (D := D) H), (nAt_ne (by omega)).trans (o8_26 (D := D) H), (nAt_ne (by omega)).trans (o8_27 (D := D) H), (nAt_ne (by omega)).trans (o8_29 (D := D) H), (nAt_ne (by omega)).trans (o8_30 (D := D) H), (nAt_ne (by omega)).trans (o8_35 (D := D) H), (nAt_ne (by omega)).trans (o8_36 (D := D) H)⟩
theorem o8_put20 (v : Nat) {h : nPH} {a : Nat} {D : Nat → Nat → Nat} (H : o8 h a D) : o8 (nSt h a (nOb 8 (List.set [.int (nI (D 0 0)), .int (nI (D 1 0)), .ref (a + 1), .ref (a + 2), .ref (a + 3), .ref (a + 4), .ref (a + 5), .ref (a + 6), .ref (a + 7), .ref (a + 8), .ref (a + 9), .ref (a + 10), .ref (a + 11), .ref (a + 12), .ref (a + 13), .ref (a + 14), .int (nV (D 16 0)), .ref (a + 15), .ref (a + 16), .ref (a + 17), .int (nI (D 20 0)), .int (nI (D 21 0)), .int (nI (D 22 0)), .int (nI (D 23 0)), .int (nI (D 24 0)), .int (nI (D 25 0)), .ref (a + 18), .ref (a + 19), .int (nI (D 28 0)), .ref (a + 20), .ref (a + 21), .int (nI (D 31 0)), .int (nI (D 32 0)), .int (nI (D 33 0)), .int (nI (D 34 0)), .ref (a + 22), .ref (a + 23), .long (lN (D 37 0)), .long (lN (D 38 0))] 20 (.int (nI v))))) a (u2 D 20 0 v) :=
  ⟨H.1, nAt_eq, (nAt_ne (by omega)).trans (o8_2 (D := D) H), (nAt_ne (by omega)).trans (o8_3 (D := D) H), (nAt_ne (by omega)).trans (o8_4 (D := D) H), (nAt_ne (by omega)).trans (o8_5 (D := D) H), (nAt_ne (by omega)).trans (o8_6 (D := D) H), (nAt_ne (by omega)).trans (o8_7 (D := D) H), (nAt_ne (by omega)).trans (o8_8 (D := D) H), (nAt_ne (by omega)).trans (o8_9 (D := D) H), (nAt_ne (by omega)).trans (o8_10 (D := D) H), (nAt_ne (by omega)).trans (o8_11 (D := D) H), (nAt_ne (by omega)).trans (o8_12 (D := D) H), (nAt_ne (by omega)).trans (o8_13 (D := D) H), (nAt_ne (by omega)).trans (o8_14 (D := D) H), (nAt_ne (by omega)).trans (o8_15 (D := D) H), (nAt_ne (by omega)).trans (o8_17 (D := D) H), (nAt_ne (by omega)).trans (o8_18 (D := D) H), (nAt_ne (by omega)).trans (o8_19 (D := D) H), (nAt_ne (by omega)).trans (o8_26 (D := D) H), (nAt_ne (by omega)).trans (o8_27 (D := D) H), (nAt_ne (by omega)).trans (o8_29 (D := D) H), (nAt_ne (by omega)).trans (o8_30 (D := D) H), (nAt_ne (by omega)).trans (o8_35 (D := D) H), (nAt_ne (by omega)).trans (o8_36 (D := D) H)⟩
theorem o8_put21 (v : Nat) {h : nPH} {a : Nat} {D : Nat → Nat → Nat} (H : o8 h a D) : o8 (nSt h a (nOb 8 (List.set [.int (nI (D 0 0)), .int (nI (D 1 0)), .ref (a + 1), .ref (a + 2), .ref (a + 3), .ref (a + 4), .ref (a + 5), .ref (a + 6), .ref (a + 7), .ref (a + 8), .ref (a + 9), .ref (a + 10), .ref (a + 11), .ref (a + 12), .ref (a + 13), .ref (a + 14), .int (nV (D 16 0)), .ref (a + 15), .ref (a + 16), .ref (a + 17), .int (nI (D 20 0)), .int (nI (D 21 0)), .int (nI (D 22 0)), .int (nI (D 23 0)), .int (nI (D 24 0)), .int (nI (D 25 0)), .ref (a + 18), .ref (a + 19), .int (nI (D 28 0)), .ref (a + 20), .ref (a + 21), .int (nI (D 31 0)), .int (nI (D 32 0)), .int (nI (D 33 0)), .int (nI (D 34 0)), .ref (a + 22), .ref (a + 23), .long (lN (D 37 0)), .long (lN (D 38 0))] 21 (.int (nI v))))) a (u2 D 21 0 v) :=
  ⟨H.1, nAt_eq, (nAt_ne (by omega)).trans (o8_2 (D := D) H), (nAt_ne (by omega)).trans (o8_3 (D := D) H), (nAt_ne (by omega)).trans (o8_4 (D := D) H), (nAt_ne (by omega)).trans (o8_5 (D := D) H), (nAt_ne (by omega)).trans (o8_6 (D := D) H), (nAt_ne (by omega)).trans (o8_7 (D := D) H), (nAt_ne (by omega)).trans (o8_8 (D := D) H), (nAt_ne (by omega)).trans (o8_9 (D := D) H), (nAt_ne (by omega)).trans (o8_10 (D := D) H), (nAt_ne (by omega)).trans (o8_11 (D := D) H), (nAt_ne (by omega)).trans (o8_12 (D := D) H), (nAt_ne (by omega)).trans (o8_13 (D := D) H), (nAt_ne (by omega)).trans (o8_14 (D := D) H), (nAt_ne (by omega)).trans (o8_15 (D := D) H), (nAt_ne (by omega)).trans (o8_17 (D := D) H), (nAt_ne (by omega)).trans (o8_18 (D := D) H), (nAt_ne (by omega)).trans (o8_19 (D := D) H), (nAt_ne (by omega)).trans (o8_26 (D := D) H), (nAt_ne (by omega)).trans (o8_27 (D := D) H), (nAt_ne (by omega)).trans (o8_29 (D := D) H), (nAt_ne (by omega)).trans (o8_30 (D := D) H), (nAt_ne (by omega)).trans (o8_35 (D := D) H), (nAt_ne (by omega)).trans (o8_36 (D := D) H)⟩
theorem o8_put22 (v : Nat) {h : nPH} {a : Nat} {D : Nat → Nat → Nat} (H : o8 h a D) : o8 (nSt h a (nOb 8 (List.set [.int (nI (D 0 0)), .int (nI (D 1 0)), .ref (a + 1), .ref (a + 2), .ref (a + 3), .ref (a + 4), .ref (a + 5), .ref (a + 6), .ref (a + 7), .ref (a + 8), .ref (a + 9), .ref (a + 10), .ref (a + 11), .ref (a + 12), .ref (a + 13), .ref (a + 14), .int (nV (D 16 0)), .ref (a + 15), .ref (a + 16), .ref (a + 17), .int (nI (D 20 0)), .int (nI (D 21 0)), .int (nI (D 22 0)), .int (nI (D 23 0)), .int (nI (D 24 0)), .int (nI (D 25 0)), .ref (a + 18), .ref (a + 19), .int (nI (D 28 0)), .ref (a + 20), .ref (a + 21), .int (nI (D 31 0)), .int (nI (D 32 0)), .int (nI (D 33 0)), .int (nI (D 34 0)), .ref (a + 22), .ref (a + 23), .long (lN (D 37 0)), .long (lN (D 38 0))] 22 (.int (nI v))))) a (u2 D 22 0 v) :=
  ⟨H.1, nAt_eq, (nAt_ne (by omega)).trans (o8_2 (D := D) H), (nAt_ne (by omega)).trans (o8_3 (D := D) H), (nAt_ne (by omega)).trans (o8_4 (D := D) H), (nAt_ne (by omega)).trans (o8_5 (D := D) H), (nAt_ne (by omega)).trans (o8_6 (D := D) H), (nAt_ne (by omega)).trans (o8_7 (D := D) H), (nAt_ne (by omega)).trans (o8_8 (D := D) H), (nAt_ne (by omega)).trans (o8_9 (D := D) H), (nAt_ne (by omega)).trans (o8_10 (D := D) H), (nAt_ne (by omega)).trans (o8_11 (D := D) H), (nAt_ne (by omega)).trans (o8_12 (D := D) H), (nAt_ne (by omega)).trans (o8_13 (D := D) H), (nAt_ne (by omega)).trans (o8_14 (D := D) H), (nAt_ne (by omega)).trans (o8_15 (D := D) H), (nAt_ne (by omega)).trans (o8_17 (D := D) H), (nAt_ne (by omega)).trans (o8_18 (D := D) H), (nAt_ne (by omega)).trans (o8_19 (D := D) H), (nAt_ne (by omega)).trans (o8_26 (D := D) H), (nAt_ne (by omega)).trans (o8_27 (D := D) H), (nAt_ne (by omega)).trans (o8_29 (D := D) H), (nAt_ne (by omega)).trans (o8_30 (D := D) H), (nAt_ne (by omega)).trans (o8_35 (D := D) H), (nAt_ne (by omega)).trans (o8_36 (D := D) H)⟩
theorem o8_put23 (v : Nat) {h : nPH} {a : Nat} {D : Nat → Nat → Nat} (H : o8 h a D) : o8 (nSt h a (nOb 8 (List.set [.int (nI (D 0 0)), .int (nI (D 1 0)), .ref (a + 1), .ref (a + 2), .ref (a + 3), .ref (a + 4), .ref (a + 5), .ref (a + 6), .ref (a + 7), .ref (a + 8), .ref (a + 9), .ref (a + 10), .ref (a + 11), .ref (a + 12), .ref (a + 13), .ref (a + 14), .int (nV (D 16 0)), .ref (a + 15), .ref (a + 16), .ref (a + 17), .int (nI (D 20 0)), .int (nI (D 21 0)), .int (nI (D 22 0)), .int (nI (D 23 0)), .int (nI (D 24 0)), .int (nI (D 25 0)), .ref (a + 18), .ref (a + 19), .int (nI (D 28 0)), .ref (a + 20), .ref (a + 21), .int (nI (D 31 0)), .int (nI (D 32 0)), .int (nI (D 33 0)), .int (nI (D 34 0)), .ref (a + 22), .ref (a + 23), .long (lN (D 37 0)), .long (lN (D 38 0))] 23 (.int (nI v))))) a (u2 D 23 0 v) :=
  ⟨H.1, nAt_eq, (nAt_ne (by omega)).trans (o8_2 (D := D) H), (nAt_ne (by omega)).trans (o8_3 (D := D) H), (nAt_ne (by omega)).trans (o8_4 (D := D) H), (nAt_ne (by omega)).trans (o8_5 (D := D) H), (nAt_ne (by omega)).trans (o8_6 (D := D) H), (nAt_ne (by omega)).trans (o8_7 (D := D) H), (nAt_ne (by omega)).trans (o8_8 (D := D) H), (nAt_ne (by omega)).trans (o8_9 (D := D) H), (nAt_ne (by omega)).trans (o8_10 (D := D) H), (nAt_ne (by omega)).trans (o8_11 (D := D) H), (nAt_ne (by omega)).trans (o8_12 (D := D) H), (nAt_ne (by omega)).trans (o8_13 (D := D) H), (nAt_ne (by omega)).trans (o8_14 (D := D) H), (nAt_ne (by omega)).trans (o8_15 (D := D) H), (nAt_ne (by omega)).trans (o8_17 (D := D) H), (nAt_ne (by omega)).trans (o8_18 (D := D) H), (nAt_ne (by omega)).trans (o8_19 (D := D) H), (nAt_ne (by omega)).trans (o8_26 (D := D) H), (nAt_ne (by omega)).trans (o8_27 (D := D) H), (nAt_ne (by omega)).trans (o8_29 (D := D) H), (nAt_ne (by omega)).trans (o8_30 (D := D) H), (nAt_ne (by omega)).trans (o8_35 (D := D) H), (nAt_ne (by omega)).trans (o8_36 (D := D) H)⟩
theorem o8_put24 (v : Nat) {h : nPH} {a : Nat} {D : Nat → Nat → Nat} (H : o8 h a D) : o8 (nSt h a (nOb 8 (List.set [.int (nI (D 0 0)), .int (nI (D 1 0)), .ref (a + 1), .ref (a + 2), .ref (a + 3), .ref (a + 4), .ref (a + 5), .ref (a + 6), .ref (a + 7), .ref (a + 8), .ref (a + 9), .ref (a + 10), .ref (a + 11), .ref (a + 12), .ref (a + 13), .ref (a + 14), .int (nV (D 16 0)), .ref (a + 15), .ref (a + 16), .ref (a + 17), .int (nI (D 20 0)), .int (nI (D 21 0)), .int (nI (D 22 0)), .int (nI (D 23 0)), .int (nI (D 24 0)), .int (nI (D 25 0)), .ref (a + 18), .ref (a + 19), .int (nI (D 28 0)), .ref (a + 20), .ref (a + 21), .int (nI (D 31 0)), .int (nI (D 32 0)), .int (nI (D 33 0)), .int (nI (D 34 0)), .ref (a + 22), .ref (a + 23), .long (lN (D 37 0)), .long (lN (D 38 0))] 24 (.int (nI v))))) a (u2 D 24 0 v) :=
  ⟨H.1, nAt_eq, (nAt_ne (by omega)).trans (o8_2 (D := D) H), (nAt_ne (by omega)).trans (o8_3 (D := D) H), (nAt_ne (by omega)).trans (o8_4 (D := D) H), (nAt_ne (by omega)).trans (o8_5 (D := D) H), (nAt_ne (by omega)).trans (o8_6 (D := D) H), (nAt_ne (by omega)).trans (o8_7 (D := D) H), (nAt_ne (by omega)).trans (o8_8 (D := D) H), (nAt_ne (by omega)).trans (o8_9 (D := D) H), (nAt_ne (by omega)).trans (o8_10 (D := D) H), (nAt_ne (by omega)).trans (o8_11 (D := D) H), (nAt_ne (by omega)).trans (o8_12 (D := D) H), (nAt_ne (by omega)).trans (o8_13 (D := D) H), (nAt_ne (by omega)).trans (o8_14 (D := D) H), (nAt_ne (by omega)).trans (o8_15 (D := D) H), (nAt_ne (by omega)).trans (o8_17 (D := D) H), (nAt_ne (by omega)).trans (o8_18 (D := D) H), (nAt_ne (by omega)).trans (o8_19 (D := D) H), (nAt_ne (by omega)).trans (o8_26 (D := D) H), (nAt_ne (by omega)).trans (o8_27 (D := D) H), (nAt_ne (by omega)).trans (o8_29 (D := D) H), (nAt_ne (by omega)).trans (o8_30 (D := D) H), (nAt_ne (by omega)).trans (o8_35 (D := D) H), (nAt_ne (by omega)).trans (o8_36 (D := D) H)⟩
theorem o8_put25 (v : Nat) {h : nPH} {a : Nat} {D : Nat → Nat → Nat} (H : o8 h a D) : o8 (nSt h a (nOb 8 (List.set [.int (nI (D 0 0)), .int (nI (D 1 0)), .ref (a + 1), .ref (a + 2), .ref (a + 3), .ref (a + 4), .ref (a + 5), .ref (a + 6), .ref (a + 7), .ref (a + 8), .ref (a + 9), .ref (a + 10), .ref (a + 11), .ref (a + 12), .ref (a + 13), .ref (a + 14), .int (nV (D 16 0)), .ref (a + 15), .ref (a + 16), .ref (a + 17), .int (nI (D 20 0)), .int (nI (D 21 0)), .int (nI (D 22 0)), .int (nI (D 23 0)), .int (nI (D 24 0)), .int (nI (D 25 0)), .ref (a + 18), .ref (a + 19), .int (nI (D 28 0)), .ref (a + 20), .ref (a + 21), .int (nI (D 31 0)), .int (nI (D 32 0)), .int (nI (D 33 0)), .int (nI (D 34 0)), .ref (a + 22), .ref (a + 23), .long (lN (D 37 0)), .long (lN (D 38 0))] 25 (.int (nI v))))) a (u2 D 25 0 v) :=
  ⟨H.1, nAt_eq, (nAt_ne (by omega)).trans (o8_2 (D := D) H), (nAt_ne (by omega)).trans (o8_3 (D := D) H), (nAt_ne (by omega)).trans (o8_4 (D := D) H), (nAt_ne (by omega)).trans (o8_5 (D := D) H), (nAt_ne (by omega)).trans (o8_6 (D := D) H), (nAt_ne (by omega)).trans (o8_7 (D := D) H), (nAt_ne (by omega)).trans (o8_8 (D := D) H), (nAt_ne (by omega)).trans (o8_9 (D := D) H), (nAt_ne (by omega)).trans (o8_10 (D := D) H), (nAt_ne (by omega)).trans (o8_11 (D := D) H), (nAt_ne (by omega)).trans (o8_12 (D := D) H), (nAt_ne (by omega)).trans (o8_13 (D := D) H), (nAt_ne (by omega)).trans (o8_14 (D := D) H), (nAt_ne (by omega)).trans (o8_15 (D := D) H), (nAt_ne (by omega)).trans (o8_17 (D := D) H), (nAt_ne (by omega)).trans (o8_18 (D := D) H), (nAt_ne (by omega)).trans (o8_19 (D := D) H), (nAt_ne (by omega)).trans (o8_26 (D := D) H), (nAt_ne (by omega)).trans (o8_27 (D := D) H), (nAt_ne (by omega)).trans (o8_29 (D := D) H), (nAt_ne (by omega)).trans (o8_30 (D := D) H), (nAt_ne (by omega)).trans (o8_35 (D := D) H), (nAt_ne (by omega)).trans (o8_36 (D := D) H)⟩
theorem o8_put28 (v : Nat) {h : nPH} {a : Nat} {D : Nat → Nat → Nat} (H : o8 h a D) : o8 (nSt h a (nOb 8 (List.set [.int (nI (D 0 0)), .int (nI (D 1 0)), .ref (a + 1), .ref (a + 2), .ref (a + 3), .ref (a + 4), .ref (a + 5), .ref (a + 6), .ref (a + 7), .ref (a + 8), .ref (a + 9), .ref (a + 10), .ref (a + 11), .ref (a + 12), .ref (a + 13), .ref (a + 14), .int (nV (D 16 0)), .ref (a + 15), .ref (a + 16), .ref (a + 17), .int (nI (D 20 0)), .int (nI (D 21 0)), .int (nI (D 22 0)), .int (nI (D 23 0)), .int (nI (D 24 0)), .int (nI (D 25 0)), .ref (a + 18), .ref (a + 19), .int (nI (D 28 0)), .ref (a + 20), .ref (a + 21), .int (nI (D 31 0)), .int (nI (D 32 0)), .int (nI (D 33 0)), .int (nI (D 34 0)), .ref (a + 22), .ref (a + 23), .long (lN (D 37 0)), .long (lN (D 38 0))] 28 (.int (nI v))))) a (u2 D 28 0 v) :=
  ⟨H.1, nAt_eq, (nAt_ne (by omega)).trans (o8_2 (D := D) H), (nAt_ne (by omega)).trans (o8_3 (D := D) H), (nAt_ne (by omega)).trans (o8_4 (D := D) H), (nAt_ne (by omega)).trans (o8_5 (D := D) H), (nAt_ne (by omega)).trans (o8_6 (D := D) H), (nAt_ne (by omega)).trans (o8_7 (D := D) H), (nAt_ne (by omega)).trans (o8_8 (D := D) H), (nAt_ne (by omega)).trans (o8_9 (D := D) H), (nAt_ne (by omega)).trans (o8_10 (D := D) H), (nAt_ne (by omega)).trans (o8_11 (D := D) H), (nAt_ne (by omega)).trans (o8_12 (D := D) H), (nAt_ne (by omega)).trans (o8_13 (D := D) H), (nAt_ne (by omega)).trans (o8_14 (D := D) H), (nAt_ne (by omega)).trans (o8_15 (D := D) H), (nAt_ne (by omega)).trans (o8_17 (D := D) H), (nAt_ne (by omega)).trans (o8_18 (D := D) H), (nAt_ne (by omega)).trans (o8_19 (D := D) H), (nAt_ne (by omega)).trans (o8_26 (D := D) H), (nAt_ne (by omega)).trans (o8_27 (D := D) H), (nAt_ne (by omega)).trans (o8_29 (D := D) H), (nAt_ne (by omega)).trans (o8_30 (D := D) H), (nAt_ne (by omega)).trans (o8_35 (D := D) H), (nAt_ne (by omega)).trans (o8_36 (D := D) H)⟩
theorem o8_put31 (v : Nat) {h : nPH} {a : Nat} {D : Nat → Nat → Nat} (H : o8 h a D) : o8 (nSt h a (nOb 8 (List.set [.int (nI (D 0 0)), .int (nI (D 1 0)), .ref (a + 1), .ref (a + 2), .ref (a + 3), .ref (a + 4), .ref (a + 5), .ref (a + 6), .ref (a + 7), .ref (a + 8), .ref (a + 9), .ref (a + 10), .ref (a + 11), .ref (a + 12), .ref (a + 13), .ref (a + 14), .int (nV (D 16 0)), .ref (a + 15), .ref (a + 16), .ref (a + 17), .int (nI (D 20 0)), .int (nI (D 21 0)), .int (nI (D 22 0)), .int (nI (D 23 0)), .int (nI (D 24 0)), .int (nI (D 25 0)), .ref (a + 18), .ref (a + 19), .int (nI (D 28 0)), .ref (a + 20), .ref (a + 21), .int (nI (D 31 0)), .int (nI (D 32 0)), .int (nI (D 33 0)), .int (nI (D 34 0)), .ref (a + 22), .ref (a + 23), .long (lN (D 37 0)), .long (lN (D 38 0))] 31 (.int (nI v))))) a (u2 D 31 0 v) :=
  ⟨H.1, nAt_eq, (nAt_ne (by omega)).trans (o8_2 (D := D) H), (nAt_ne (by omega)).trans (o8_3 (D := D) H), (nAt_ne (by omega)).trans (o8_4 (D := D) H), (nAt_ne (by omega)).trans (o8_5 (D := D) H), (nAt_ne (by omega)).trans (o8_6 (D := D) H), (nAt_ne (by omega)).trans (o8_7 (D := D) H), (nAt_ne (by omega)).trans (o8_8 (D := D) H), (nAt_ne (by omega)).trans (o8_9 (D := D) H), (nAt_ne (by omega)).trans (o8_10 (D := D) H), (nAt_ne (by omega)).trans (o8_11 (D := D) H), (nAt_ne (by omega)).trans (o8_12 (D := D) H), (nAt_ne (by omega)).trans (o8_13 (D := D) H), (nAt_ne (by omega)).trans (o8_14 (D := D) H), (nAt_ne (by omega)).trans (o8_15 (D := D) H), (nAt_ne (by omega)).trans (o8_17 (D := D) H), (nAt_ne (by omega)).trans (o8_18 (D := D) H), (nAt_ne (by omega)).trans (o8_19 (D := D) H), (nAt_ne (by omega)).trans (o8_26 (D := D) H), (nAt_ne (by omega)).trans (o8_27 (D := D) H), (nAt_ne (by omega)).trans (o8_29 (D := D) H), (nAt_ne (by omega)).trans (o8_30 (D := D) H), (nAt_ne (by omega)).trans (o8_35 (D := D) H), (nAt_ne (by omega)).trans (o8_36 (D := D) H)⟩
theorem o8_put32 (v : Nat) {h : nPH} {a : Nat} {D : Nat → Nat → Nat} (H : o8 h a D) : o8 (nSt h a (nOb 8 (List.set [.int (nI (D 0 0)), .int (nI (D 1 0)), .ref (a + 1), .ref (a + 2), .ref (a + 3), .ref (a + 4), .ref (a + 5), .ref (a + 6), .ref (a + 7), .ref (a + 8), .ref (a + 9), .ref (a + 10), .ref (a + 11), .ref (a + 12), .ref (a + 13), .ref (a + 14), .int (nV (D 16 0)), .ref (a + 15), .ref (a + 16), .ref (a + 17), .int (nI (D 20 0)), .int (nI (D 21 0)), .int (nI (D 22 0)), .int (nI (D 23 0)), .int (nI (D 24 0)), .int (nI (D 25 0)), .ref (a + 18), .ref (a + 19), .int (nI (D 28 0)), .ref (a + 20), .ref (a + 21), .int (nI (D 31 0)), .int (nI (D 32 0)), .int (nI (D 33 0)), .int (nI (D 34 0)), .ref (a + 22), .ref (a + 23), .long (lN (D 37 0)), .long (lN (D 38 0))] 32 (.int (nI v))))) a (u2 D 32 0 v) :=
  ⟨H.1, nAt_eq, (nAt_ne (by omega)).trans (o8_2 (D := D) H), (nAt_ne (by omega)).trans (o8_3 (D := D) H), (nAt_ne (by omega)).trans (o8_4 (D := D) H), (nAt_ne (by omega)).trans (o8_5 (D := D) H), (nAt_ne (by omega)).trans (o8_6 (D := D) H), (nAt_ne (by omega)).trans (o8_7 (D := D) H), (nAt_ne (by omega)).trans (o8_8 (D := D) H), (nAt_ne (by omega)).trans (o8_9 (D := D) H), (nAt_ne (by omega)).trans (o8_10 (D := D) H), (nAt_ne (by omega)).trans (o8_11 (D := D) H), (nAt_ne (by omega)).trans (o8_12 (D := D) H), (nAt_ne (by omega)).trans (o8_13 (D := D) H), (nAt_ne (by omega)).trans (o8_14 (D := D) H), (nAt_ne (by omega)).trans (o8_15 (D := D) H), (nAt_ne (by omega)).trans (o8_17 (D := D) H), (nAt_ne (by omega)).trans (o8_18 (D := D) H), (nAt_ne (by omega)).trans (o8_19 (D := D) H), (nAt_ne (by omega)).trans (o8_26 (D := D) H), (nAt_ne (by omega)).trans (o8_27 (D := D) H), (nAt_ne (by omega)).trans (o8_29 (D := D) H), (nAt_ne (by omega)).trans (o8_30 (D := D) H), (nAt_ne (by omega)).trans (o8_35 (D := D) H), (nAt_ne (by omega)).trans (o8_36 (D := D) H)⟩
theorem o8_put33 (v : Nat) {h : nPH} {a : Nat} {D : Nat → Nat → Nat} (H : o8 h a D) : o8 (nSt h a (nOb 8 (List.set [.int (nI (D 0 0)), .int (nI (D 1 0)), .ref (a + 1), .ref (a + 2), .ref (a + 3), .ref (a + 4), .ref (a + 5), .ref (a + 6), .ref (a + 7), .ref (a + 8), .ref (a + 9), .ref (a + 10), .ref (a + 11), .ref (a + 12), .ref (a + 13), .ref (a + 14), .int (nV (D 16 0)), .ref (a + 15), .ref (a + 16), .ref (a + 17), .int (nI (D 20 0)), .int (nI (D 21 0)), .int (nI (D 22 0)), .int (nI (D 23 0)), .int (nI (D 24 0)), .int (nI (D 25 0)), .ref (a + 18), .ref (a + 19), .int (nI (D 28 0)), .ref (a + 20), .ref (a + 21), .int (nI (D 31 0)), .int (nI (D 32 0)), .int (nI (D 33 0)), .int (nI (D 34 0)), .ref (a + 22), .ref (a + 23), .long (lN (D 37 0)), .long (lN (D 38 0))] 33 (.int (nI v))))) a (u2 D 33 0 v) :=
  ⟨H.1, nAt_eq, (nAt_ne (by omega)).trans (o8_2 (D := D) H), (nAt_ne (by omega)).trans (o8_3 (D := D) H), (nAt_ne (by omega)).trans (o8_4 (D := D) H), (nAt_ne (by omega)).trans (o8_5 (D := D) H), (nAt_ne (by omega)).trans (o8_6 (D := D) H), (nAt_ne (by omega)).trans (o8_7 (D := D) H), (nAt_ne (by omega)).trans (o8_8 (D := D) H), (nAt_ne (by omega)).trans (o8_9 (D := D) H), (nAt_ne (by omega)).trans (o8_10 (D := D) H), (nAt_ne (by omega)).trans (o8_11 (D := D) H), (nAt_ne (by omega)).trans (o8_12 (D := D) H), (nAt_ne (by omega)).trans (o8_13 (D := D) H), (nAt_ne (by omega)).trans (o8_14 (D := D) H), (nAt_ne (by omega)).trans (o8_15 (D := D) H), (nAt_ne (by omega)).trans (o8_17 (D := D) H), (nAt_ne (by omega)).trans (o8_18 (D := D) H), (nAt_ne (by omega)).trans (o8_19 (D := D) H), (nAt_ne (by omega)).trans (o8_26 (D := D) H), (nAt_ne (by omega)).trans (o8_27 (D := D) H), (nAt_ne (by omega)).trans (o8_29 (D := D) H), (nAt_ne (by omega)).trans (o8_30 (D := D) H), (nAt_ne (by omega)).trans (o8_35 (D := D) H), (nAt_ne (by omega)).trans (o8_36 (D := D) H)⟩
theorem o8_put34 (v : Nat) {h : nPH} {a : Nat} {D : Nat → Nat → Nat} (H : o8 h a D) : o8 (nSt h a (nOb 8 (List.set [.int (nI (D 0 0)), .int (nI (D 1 0)), .ref (a + 1), .ref (a + 2), .ref (a + 3), .ref (a + 4), .ref (a + 5), .ref (a + 6), .ref (a + 7), .ref (a + 8), .ref (a + 9), .ref (a + 10), .ref (a + 11), .ref (a + 12), .ref (a + 13), .ref (a + 14), .int (nV (D 16 0)), .ref (a + 15), .ref (a + 16), .ref (a + 17), .int (nI (D 20 0)), .int (nI (D 21 0)), .int (nI (D 22 0)), .int (nI (D 23 0)), .int (nI (D 24 0)), .int (nI (D 25 0)), .ref (a + 18), .ref (a + 19), .int (nI (D 28 0)), .ref (a + 20), .ref (a + 21), .int (nI (D 31 0)), .int (nI (D 32 0)), .int (nI (D 33 0)), .int (nI (D 34 0)), .ref (a + 22), .ref (a + 23), .long (lN (D 37 0)), .long (lN (D 38 0))] 34 (.int (nI v))))) a (u2 D 34 0 v) :=
  ⟨H.1, nAt_eq, (nAt_ne (by omega)).trans (o8_2 (D := D) H), (nAt_ne (by omega)).trans (o8_3 (D := D) H), (nAt_ne (by omega)).trans (o8_4 (D := D) H), (nAt_ne (by omega)).trans (o8_5 (D := D) H), (nAt_ne (by omega)).trans (o8_6 (D := D) H), (nAt_ne (by omega)).trans (o8_7 (D := D) H), (nAt_ne (by omega)).trans (o8_8 (D := D) H), (nAt_ne (by omega)).trans (o8_9 (D := D) H), (nAt_ne (by omega)).trans (o8_10 (D := D) H), (nAt_ne (by omega)).trans (o8_11 (D := D) H), (nAt_ne (by omega)).trans (o8_12 (D := D) H), (nAt_ne (by omega)).trans (o8_13 (D := D) H), (nAt_ne (by omega)).trans (o8_14 (D := D) H), (nAt_ne (by omega)).trans (o8_15 (D := D) H), (nAt_ne (by omega)).trans (o8_17 (D := D) H), (nAt_ne (by omega)).trans (o8_18 (D := D) H), (nAt_ne (by omega)).trans (o8_19 (D := D) H), (nAt_ne (by omega)).trans (o8_26 (D := D) H), (nAt_ne (by omega)).trans (o8_27 (D := D) H), (nAt_ne (by omega)).trans (o8_29 (D := D) H), (nAt_ne (by omega)).trans (o8_30 (D := D) H), (nAt_ne (by omega)).trans (o8_35 (D := D) H), (nAt_ne (by omega)).trans (o8_36 (D := D) H)⟩
theorem o8_put37 (v : Nat) {h : nPH} {a : Nat} {D : Nat → Nat → Nat} (H : o8 h a D) : o8 (nSt h a (nOb 8 (List.set [.int (nI (D 0 0)), .int (nI (D 1 0)), .ref (a + 1), .ref (a + 2), .ref (a + 3), .ref (a + 4), .ref (a + 5), .ref (a + 6), .ref (a + 7), .ref (a + 8), .ref (a + 9), .ref (a + 10), .ref (a + 11), .ref (a + 12), .ref (a + 13), .ref (a + 14), .int (nV (D 16 0)), .ref (a + 15), .ref (a + 16), .ref (a + 17), .int (nI (D 20 0)), .int (nI (D 21 0)), .int (nI (D 22 0)), .int (nI (D 23 0)), .int (nI (D 24 0)), .int (nI (D 25 0)), .ref (a + 18), .ref (a + 19), .int (nI (D 28 0)), .ref (a + 20), .ref (a + 21), .int (nI (D 31 0)), .int (nI (D 32 0)), .int (nI (D 33 0)), .int (nI (D 34 0)), .ref (a + 22), .ref (a + 23), .long (lN (D 37 0)), .long (lN (D 38 0))] 37 (.long (lN v))))) a (u2 D 37 0 v) :=
  ⟨H.1, nAt_eq, (nAt_ne (by omega)).trans (o8_2 (D := D) H), (nAt_ne (by omega)).trans (o8_3 (D := D) H), (nAt_ne (by omega)).trans (o8_4 (D := D) H), (nAt_ne (by omega)).trans (o8_5 (D := D) H), (nAt_ne (by omega)).trans (o8_6 (D := D) H), (nAt_ne (by omega)).trans (o8_7 (D := D) H), (nAt_ne (by omega)).trans (o8_8 (D := D) H), (nAt_ne (by omega)).trans (o8_9 (D := D) H), (nAt_ne (by omega)).trans (o8_10 (D := D) H), (nAt_ne (by omega)).trans (o8_11 (D := D) H), (nAt_ne (by omega)).trans (o8_12 (D := D) H), (nAt_ne (by omega)).trans (o8_13 (D := D) H), (nAt_ne (by omega)).trans (o8_14 (D := D) H), (nAt_ne (by omega)).trans (o8_15 (D := D) H), (nAt_ne (by omega)).trans (o8_17 (D := D) H), (nAt_ne (by omega)).trans (o8_18 (D := D) H), (nAt_ne (by omega)).trans (o8_19 (D := D) H), (nAt_ne (by omega)).trans (o8_26 (D := D) H), (nAt_ne (by omega)).trans (o8_27 (D := D) H), (nAt_ne (by omega)).trans (o8_29 (D := D) H), (nAt_ne (by omega)).trans (o8_30 (D := D) H), (nAt_ne (by omega)).trans (o8_35 (D := D) H), (nAt_ne (by omega)).trans (o8_36 (D := D) H)⟩
theorem o8_put38 (v : Nat) {h : nPH} {a : Nat} {D : Nat → Nat → Nat} (H : o8 h a D) : o8 (nSt h a (nOb 8 (List.set [.int (nI (D 0 0)), .int (nI (D 1 0)), .ref (a + 1), .ref (a + 2), .ref (a + 3), .ref (a + 4), .ref (a + 5), .ref (a + 6), .ref (a + 7), .ref (a + 8), .ref (a + 9), .ref (a + 10), .ref (a + 11), .ref (a + 12), .ref (a + 13), .ref (a + 14), .int (nV (D 16 0)), .ref (a + 15), .ref (a + 16), .ref (a + 17), .int (nI (D 20 0)), .int (nI (D 21 0)), .int (nI (D 22 0)), .int (nI (D 23 0)), .int (nI (D 24 0)), .int (nI (D 25 0)), .ref (a + 18), .ref (a + 19), .int (nI (D 28 0)), .ref (a + 20), .ref (a + 21), .int (nI (D 31 0)), .int (nI (D 32 0)), .int (nI (D 33 0)), .int (nI (D 34 0)), .ref (a + 22), .ref (a + 23), .long (lN (D 37 0)), .long (lN (D 38 0))] 38 (.long (lN v))))) a (u2 D 38 0 v) :=
  ⟨H.1, nAt_eq, (nAt_ne (by omega)).trans (o8_2 (D := D) H), (nAt_ne (by omega)).trans (o8_3 (D := D) H), (nAt_ne (by omega)).trans (o8_4 (D := D) H), (nAt_ne (by omega)).trans (o8_5 (D := D) H), (nAt_ne (by omega)).trans (o8_6 (D := D) H), (nAt_ne (by omega)).trans (o8_7 (D := D) H), (nAt_ne (by omega)).trans (o8_8 (D := D) H), (nAt_ne (by omega)).trans (o8_9 (D := D) H), (nAt_ne (by omega)).trans (o8_10 (D := D) H), (nAt_ne (by omega)).trans (o8_11 (D := D) H), (nAt_ne (by omega)).trans (o8_12 (D := D) H), (nAt_ne (by omega)).trans (o8_13 (D := D) H), (nAt_ne (by omega)).trans (o8_14 (D := D) H), (nAt_ne (by omega)).trans (o8_15 (D := D) H), (nAt_ne (by omega)).trans (o8_17 (D := D) H), (nAt_ne (by omega)).trans (o8_18 (D := D) H), (nAt_ne (by omega)).trans (o8_19 (D := D) H), (nAt_ne (by omega)).trans (o8_26 (D := D) H), (nAt_ne (by omega)).trans (o8_27 (D := D) H), (nAt_ne (by omega)).trans (o8_29 (D := D) H), (nAt_ne (by omega)).trans (o8_30 (D := D) H), (nAt_ne (by omega)).trans (o8_35 (D := D) H), (nAt_ne (by omega)).trans (o8_36 (D := D) H)⟩
theorem o8_ast2 (j v : Nat) {h : nPH} {a : Nat} {D : Nat → Nat → Nat} (H : o8 h a D) : o8 (nSt h (a + 1) (nAi 12 (nUp (fun i => nI (D 2 i)) j (nI v)))) a (u2 D 2 j v) :=
  ⟨H.1, (nAt_ne (by omega)).trans (o8_o (D := D) H), (nAt_eq.trans (by rw [u2_up])), (nAt_ne (by omega)).trans (o8_3 (D := D) H), (nAt_ne (by omega)).trans (o8_4 (D := D) H), (nAt_ne (by omega)).trans (o8_5 (D := D) H), (nAt_ne (by omega)).trans (o8_6 (D := D) H), (nAt_ne (by omega)).trans (o8_7 (D := D) H), (nAt_ne (by omega)).trans (o8_8 (D := D) H), (nAt_ne (by omega)).trans (o8_9 (D := D) H), (nAt_ne (by omega)).trans (o8_10 (D := D) H), (nAt_ne (by omega)).trans (o8_11 (D := D) H), (nAt_ne (by omega)).trans (o8_12 (D := D) H), (nAt_ne (by omega)).trans (o8_13 (D := D) H), (nAt_ne (by omega)).trans (o8_14 (D := D) H), (nAt_ne (by omega)).trans (o8_15 (D := D) H), (nAt_ne (by omega)).trans (o8_17 (D := D) H), (nAt_ne (by omega)).trans (o8_18 (D := D) H), (nAt_ne (by omega)).trans (o8_19 (D := D) H), (nAt_ne (by omega)).trans (o8_26 (D := D) H), (nAt_ne (by omega)).trans (o8_27 (D := D) H), (nAt_ne (by omega)).trans (o8_29 (D := D) H), (nAt_ne (by omega)).trans (o8_30 (D := D) H), (nAt_ne (by omega)).trans (o8_35 (D := D) H), (nAt_ne (by omega)).trans (o8_36 (D := D) H)⟩
theorem o8_ast3 (j v : Nat) {h : nPH} {a : Nat} {D : Nat → Nat → Nat} (H : o8 h a D) : o8 (nSt h (a + 2) (nAi 12 (nUp (fun i => nI (D 3 i)) j (nI v)))) a (u2 D 3 j v) :=
  ⟨H.1, (nAt_ne (by omega)).trans (o8_o (D := D) H), (nAt_ne (by omega)).trans (o8_2 (D := D) H), (nAt_eq.trans (by rw [u2_up])), (nAt_ne (by omega)).trans (o8_4 (D := D) H), (nAt_ne (by omega)).trans (o8_5 (D := D) H), (nAt_ne (by omega)).trans (o8_6 (D := D) H), (nAt_ne (by omega)).trans (o8_7 (D := D) H), (nAt_ne (by omega)).trans (o8_8 (D := D) H), (nAt_ne (by omega)).trans (o8_9 (D := D) H), (nAt_ne (by omega)).trans (o8_10 (D := D) H), (nAt_ne (by omega)).trans (o8_11 (D := D) H), (nAt_ne (by omega)).trans (o8_12 (D := D) H), (nAt_ne (by omega)).trans (o8_13 (D := D) H), (nAt_ne (by omega)).trans (o8_14 (D := D) H), (nAt_ne (by omega)).trans (o8_15 (D := D) H), (nAt_ne (by omega)).trans (o8_17 (D := D) H), (nAt_ne (by omega)).trans (o8_18 (D := D) H), (nAt_ne (by omega)).trans (o8_19 (D := D) H), (nAt_ne (by omega)).trans (o8_26 (D := D) H), (nAt_ne (by omega)).trans (o8_27 (D := D) H), (nAt_ne (by omega)).trans (o8_29 (D := D) H), (nAt_ne (by omega)).trans (o8_30 (D := D) H), (nAt_ne (by omega)).trans (o8_35 (D := D) H), (nAt_ne (by omega)).trans (o8_36 (D := D) H)⟩
theorem o8_ast4 (j v : Nat) {h : nPH} {a : Nat} {D : Nat → Nat → Nat} (H : o8 h a D) : o8 (nSt h (a + 3) (nAi 12 (nUp (fun i => nI (D 4 i)) j (nI v)))) a (u2 D 4 j v) :=
  ⟨H.1, (nAt_ne (by omega)).trans (o8_o (D := D) H), (nAt_ne (by omega)).trans (o8_2 (D := D) H), (nAt_ne (by omega)).trans (o8_3 (D := D) H), (nAt_eq.trans (by rw [u2_up])), (nAt_ne (by omega)).trans (o8_5 (D := D) H), (nAt_ne (by omega)).trans (o8_6 (D := D) H), (nAt_ne (by omega)).trans (o8_7 (D := D) H), (nAt_ne (by omega)).trans (o8_8 (D := D) H), (nAt_ne (by omega)).trans (o8_9 (D := D) H), (nAt_ne (by omega)).trans (o8_10 (D := D) H), (nAt_ne (by omega)).trans (o8_11 (D := D) H), (nAt_ne (by omega)).trans (o8_12 (D := D) H), (nAt_ne (by omega)).trans (o8_13 (D := D) H), (nAt_ne (by omega)).trans (o8_14 (D := D) H), (nAt_ne (by omega)).trans (o8_15 (D := D) H), (nAt_ne (by omega)).trans (o8_17 (D := D) H), (nAt_ne (by omega)).trans (o8_18 (D := D) H), (nAt_ne (by omega)).trans (o8_19 (D := D) H), (nAt_ne (by omega)).trans (o8_26 (D := D) H), (nAt_ne (by omega)).trans (o8_27 (D := D) H), (nAt_ne (by omega)).trans (o8_29 (D := D) H), (nAt_ne (by omega)).trans (o8_30 (D := D) H), (nAt_ne (by omega)).trans (o8_35 (D := D) H), (nAt_ne (by omega)).trans (o8_36 (D := D) H)⟩
theorem o8_ast5 (j v : Nat) {h : nPH} {a : Nat} {D : Nat → Nat → Nat} (H : o8 h a D) : o8 (nSt h (a + 4) (nAi 12 (nUp (fun i => nI (D 5 i)) j (nI v)))) a (u2 D 5 j v) :=
  ⟨H.1, (nAt_ne (by omega)).trans (o8_o (D := D) H), (nAt_ne (by omega)).trans (o8_2 (D := D) H), (nAt_ne (by omega)).trans (o8_3 (D := D) H), (nAt_ne (by omega)).trans (o8_4 (D := D) H), (nAt_eq.trans (by rw [u2_up])), (nAt_ne (by omega)).trans (o8_6 (D := D) H), (nAt_ne (by omega)).trans (o8_7 (D := D) H), (nAt_ne (by omega)).trans (o8_8 (D := D) H), (nAt_ne (by omega)).trans (o8_9 (D := D) H), (nAt_ne (by omega)).trans (o8_10 (D := D) H), (nAt_ne (by omega)).trans (o8_11 (D := D) H), (nAt_ne (by omega)).trans (o8_12 (D := D) H), (nAt_ne (by omega)).trans (o8_13 (D := D) H), (nAt_ne (by omega)).trans (o8_14 (D := D) H), (nAt_ne (by omega)).trans (o8_15 (D := D) H), (nAt_ne (by omega)).trans (o8_17 (D := D) H), (nAt_ne (by omega)).trans (o8_18 (D := D) H), (nAt_ne (by omega)).trans (o8_19 (D := D) H), (nAt_ne (by omega)).trans (o8_26 (D := D) H), (nAt_ne (by omega)).trans (o8_27 (D := D) H), (nAt_ne (by omega)).trans (o8_29 (D := D) H), (nAt_ne (by omega)).trans (o8_30 (D := D) H), (nAt_ne (by omega)).trans (o8_35 (D := D) H), (nAt_ne (by omega)).trans (o8_36 (D := D) H)⟩
theorem o8_ast6 (j v : Nat) {h : nPH} {a : Nat} {D : Nat → Nat → Nat} (H : o8 h a D) : o8 (nSt h (a + 5) (nAi 12 (nUp (fun i => nI (D 6 i)) j (nI v)))) a (u2 D 6 j v) :=
  ⟨H.1, (nAt_ne (by omega)).trans (o8_o (D := D) H), (nAt_ne (by omega)).trans (o8_2 (D := D) H), (nAt_ne (by omega)).trans (o8_3 (D := D) H), (nAt_ne (by omega)).trans (o8_4 (D := D) H), (nAt_ne (by omega)).trans (o8_5 (D := D) H), (nAt_eq.trans (by rw [u2_up])), (nAt_ne (by omega)).trans (o8_7 (D := D) H), (nAt_ne (by omega)).trans (o8_8 (D := D) H), (nAt_ne (by omega)).trans (o8_9 (D := D) H), (nAt_ne (by omega)).trans (o8_10 (D := D) H), (nAt_ne (by omega)).trans (o8_11 (D := D) H), (nAt_ne (by omega)).trans (o8_12 (D := D) H), (nAt_ne (by omega)).trans (o8_13 (D := D) H), (nAt_ne (by omega)).trans (o8_14 (D := D) H), (nAt_ne (by omega)).trans (o8_15 (D := D) H), (nAt_ne (by omega)).trans (o8_17 (D := D) H), (nAt_ne (by omega)).trans (o8_18 (D := D) H), (nAt_ne (by omega)).trans (o8_19 (D := D) H), (nAt_ne (by omega)).trans (o8_26 (D := D) H), (nAt_ne (by omega)).trans (o8_27 (D := D) H), (nAt_ne (by omega)).trans (o8_29 (D := D) H), (nAt_ne (by omega)).trans (o8_30 (D := D) H), (nAt_ne (by omega)).trans (o8_35 (D := D) H), (nAt_ne (by omega)).trans (o8_36 (D := D) H)⟩
theorem o8_ast7 (j v : Nat) {h : nPH} {a : Nat} {D : Nat → Nat → Nat} (H : o8 h a D) : o8 (nSt h (a + 6) (nAi 288 (nUp (fun i => nI (D 7 i)) j (nI v)))) a (u2 D 7 j v) :=
  ⟨H.1, (nAt_ne (by omega)).trans (o8_o (D := D) H), (nAt_ne (by omega)).trans (o8_2 (D := D) H), (nAt_ne (by omega)).trans (o8_3 (D := D) H), (nAt_ne (by omega)).trans (o8_4 (D := D) H), (nAt_ne (by omega)).trans (o8_5 (D := D) H), (nAt_ne (by omega)).trans (o8_6 (D := D) H), (nAt_eq.trans (by rw [u2_up])), (nAt_ne (by omega)).trans (o8_8 (D := D) H), (nAt_ne (by omega)).trans (o8_9 (D := D) H), (nAt_ne (by omega)).trans (o8_10 (D := D) H), (nAt_ne (by omega)).trans (o8_11 (D := D) H), (nAt_ne (by omega)).trans (o8_12 (D := D) H), (nAt_ne (by omega)).trans (o8_13 (D := D) H), (nAt_ne (by omega)).trans (o8_14 (D := D) H), (nAt_ne (by omega)).trans (o8_15 (D := D) H), (nAt_ne (by omega)).trans (o8_17 (D := D) H), (nAt_ne (by omega)).trans (o8_18 (D := D) H), (nAt_ne (by omega)).trans (o8_19 (D := D) H), (nAt_ne (by omega)).trans (o8_26 (D := D) H), (nAt_ne (by omega)).trans (o8_27 (D := D) H), (nAt_ne (by omega)).trans (o8_29 (D := D) H), (nAt_ne (by omega)).trans (o8_30 (D := D) H), (nAt_ne (by omega)).trans (o8_35 (D := D) H), (nAt_ne (by omega)).trans (o8_36 (D := D) H)⟩
theorem o8_ast8 (j v : Nat) {h : nPH} {a : Nat} {D : Nat → Nat → Nat} (H : o8 h a D) : o8 (nSt h (a + 7) (nAi 240 (nUp (fun i => nI (D 8 i)) j (nI v)))) a (u2 D 8 j v) :=
  ⟨H.1, (nAt_ne (by omega)).trans (o8_o (D := D) H), (nAt_ne (by omega)).trans (o8_2 (D := D) H), (nAt_ne (by omega)).trans (o8_3 (D := D) H), (nAt_ne (by omega)).trans (o8_4 (D := D) H), (nAt_ne (by omega)).trans (o8_5 (D := D) H), (nAt_ne (by omega)).trans (o8_6 (D := D) H), (nAt_ne (by omega)).trans (o8_7 (D := D) H), (nAt_eq.trans (by rw [u2_up])), (nAt_ne (by omega)).trans (o8_9 (D := D) H), (nAt_ne (by omega)).trans (o8_10 (D := D) H), (nAt_ne (by omega)).trans (o8_11 (D := D) H), (nAt_ne (by omega)).trans (o8_12 (D := D) H), (nAt_ne (by omega)).trans (o8_13 (D := D) H), (nAt_ne (by omega)).trans (o8_14 (D := D) H), (nAt_ne (by omega)).trans (o8_15 (D := D) H), (nAt_ne (by omega)).trans (o8_17 (D := D) H), (nAt_ne (by omega)).trans (o8_18 (D := D) H), (nAt_ne (by omega)).trans (o8_19 (D := D) H), (nAt_ne (by omega)).trans (o8_26 (D := D) H), (nAt_ne (by omega)).trans (o8_27 (D := D) H), (nAt_ne (by omega)).trans (o8_29 (D := D) H), (nAt_ne (by omega)).trans (o8_30 (D := D) H), (nAt_ne (by omega)).trans (o8_35 (D := D) H), (nAt_ne (by omega)).trans (o8_36 (D := D) H)⟩
theorem o8_ast9 (j v : Nat) {h : nPH} {a : Nat} {D : Nat → Nat → Nat} (H : o8 h a D) : o8 (nSt h (a + 8) (nAz 240 (nUp (fun i => nI (D 9 i)) j (nI v)))) a (u2 D 9 j v) :=
  ⟨H.1, (nAt_ne (by omega)).trans (o8_o (D := D) H), (nAt_ne (by omega)).trans (o8_2 (D := D) H), (nAt_ne (by omega)).trans (o8_3 (D := D) H), (nAt_ne (by omega)).trans (o8_4 (D := D) H), (nAt_ne (by omega)).trans (o8_5 (D := D) H), (nAt_ne (by omega)).trans (o8_6 (D := D) H), (nAt_ne (by omega)).trans (o8_7 (D := D) H), (nAt_ne (by omega)).trans (o8_8 (D := D) H), (nAt_eq.trans (by rw [u2_up])), (nAt_ne (by omega)).trans (o8_10 (D := D) H), (nAt_ne (by omega)).trans (o8_11 (D := D) H), (nAt_ne (by omega)).trans (o8_12 (D := D) H), (nAt_ne (by omega)).trans (o8_13 (D := D) H), (nAt_ne (by omega)).trans (o8_14 (D := D) H), (nAt_ne (by omega)).trans (o8_15 (D := D) H), (nAt_ne (by omega)).trans (o8_17 (D := D) H), (nAt_ne (by omega)).trans (o8_18 (D := D) H), (nAt_ne (by omega)).trans (o8_19 (D := D) H), (nAt_ne (by omega)).trans (o8_26 (D := D) H), (nAt_ne (by omega)).trans (o8_27 (D := D) H), (nAt_ne (by omega)).trans (o8_29 (D := D) H), (nAt_ne (by omega)).trans (o8_30 (D := D) H), (nAt_ne (by omega)).trans (o8_35 (D := D) H), (nAt_ne (by omega)).trans (o8_36 (D := D) H)⟩
theorem o8_ast10 (j v : Nat) {h : nPH} {a : Nat} {D : Nat → Nat → Nat} (H : o8 h a D) : o8 (nSt h (a + 9) (nAi 5760 (nUp (fun i => nI (D 10 i)) j (nI v)))) a (u2 D 10 j v) :=
  ⟨H.1, (nAt_ne (by omega)).trans (o8_o (D := D) H), (nAt_ne (by omega)).trans (o8_2 (D := D) H), (nAt_ne (by omega)).trans (o8_3 (D := D) H), (nAt_ne (by omega)).trans (o8_4 (D := D) H), (nAt_ne (by omega)).trans (o8_5 (D := D) H), (nAt_ne (by omega)).trans (o8_6 (D := D) H), (nAt_ne (by omega)).trans (o8_7 (D := D) H), (nAt_ne (by omega)).trans (o8_8 (D := D) H), (nAt_ne (by omega)).trans (o8_9 (D := D) H), (nAt_eq.trans (by rw [u2_up])), (nAt_ne (by omega)).trans (o8_11 (D := D) H), (nAt_ne (by omega)).trans (o8_12 (D := D) H), (nAt_ne (by omega)).trans (o8_13 (D := D) H), (nAt_ne (by omega)).trans (o8_14 (D := D) H), (nAt_ne (by omega)).trans (o8_15 (D := D) H), (nAt_ne (by omega)).trans (o8_17 (D := D) H), (nAt_ne (by omega)).trans (o8_18 (D := D) H), (nAt_ne (by omega)).trans (o8_19 (D := D) H), (nAt_ne (by omega)).trans (o8_26 (D := D) H), (nAt_ne (by omega)).trans (o8_27 (D := D) H), (nAt_ne (by omega)).trans (o8_29 (D := D) H), (nAt_ne (by omega)).trans (o8_30 (D := D) H), (nAt_ne (by omega)).trans (o8_35 (D := D) H), (nAt_ne (by omega)).trans (o8_36 (D := D) H)⟩
theorem o8_ast11 (j v : Nat) {h : nPH} {a : Nat} {D : Nat → Nat → Nat} (H : o8 h a D) : o8 (nSt h (a + 10) (nAi 5760 (nUp (fun i => nI (D 11 i)) j (nI v)))) a (u2 D 11 j v) :=
  ⟨H.1, (nAt_ne (by omega)).trans (o8_o (D := D) H), (nAt_ne (by omega)).trans (o8_2 (D := D) H), (nAt_ne (by omega)).trans (o8_3 (D := D) H), (nAt_ne (by omega)).trans (o8_4 (D := D) H), (nAt_ne (by omega)).trans (o8_5 (D := D) H), (nAt_ne (by omega)).trans (o8_6 (D := D) H), (nAt_ne (by omega)).trans (o8_7 (D := D) H), (nAt_ne (by omega)).trans (o8_8 (D := D) H), (nAt_ne (by omega)).trans (o8_9 (D := D) H), (nAt_ne (by omega)).trans (o8_10 (D := D) H), (nAt_eq.trans (by rw [u2_up])), (nAt_ne (by omega)).trans (o8_12 (D := D) H), (nAt_ne (by omega)).trans (o8_13 (D := D) H), (nAt_ne (by omega)).trans (o8_14 (D := D) H), (nAt_ne (by omega)).trans (o8_15 (D := D) H), (nAt_ne (by omega)).trans (o8_17 (D := D) H), (nAt_ne (by omega)).trans (o8_18 (D := D) H), (nAt_ne (by omega)).trans (o8_19 (D := D) H), (nAt_ne (by omega)).trans (o8_26 (D := D) H), (nAt_ne (by omega)).trans (o8_27 (D := D) H), (nAt_ne (by omega)).trans (o8_29 (D := D) H), (nAt_ne (by omega)).trans (o8_30 (D := D) H), (nAt_ne (by omega)).trans (o8_35 (D := D) H), (nAt_ne (by omega)).trans (o8_36 (D := D) H)⟩
theorem o8_ast12 (j v : Nat) {h : nPH} {a : Nat} {D : Nat → Nat → Nat} (H : o8 h a D) : o8 (nSt h (a + 11) (nAi 5760 (nUp (fun i => nV (D 12 i)) j (nV v)))) a (u2 D 12 j v) :=
  ⟨H.1, (nAt_ne (by omega)).trans (o8_o (D := D) H), (nAt_ne (by omega)).trans (o8_2 (D := D) H), (nAt_ne (by omega)).trans (o8_3 (D := D) H), (nAt_ne (by omega)).trans (o8_4 (D := D) H), (nAt_ne (by omega)).trans (o8_5 (D := D) H), (nAt_ne (by omega)).trans (o8_6 (D := D) H), (nAt_ne (by omega)).trans (o8_7 (D := D) H), (nAt_ne (by omega)).trans (o8_8 (D := D) H), (nAt_ne (by omega)).trans (o8_9 (D := D) H), (nAt_ne (by omega)).trans (o8_10 (D := D) H), (nAt_ne (by omega)).trans (o8_11 (D := D) H), (nAt_eq.trans (by rw [u2_upM])), (nAt_ne (by omega)).trans (o8_13 (D := D) H), (nAt_ne (by omega)).trans (o8_14 (D := D) H), (nAt_ne (by omega)).trans (o8_15 (D := D) H), (nAt_ne (by omega)).trans (o8_17 (D := D) H), (nAt_ne (by omega)).trans (o8_18 (D := D) H), (nAt_ne (by omega)).trans (o8_19 (D := D) H), (nAt_ne (by omega)).trans (o8_26 (D := D) H), (nAt_ne (by omega)).trans (o8_27 (D := D) H), (nAt_ne (by omega)).trans (o8_29 (D := D) H), (nAt_ne (by omega)).trans (o8_30 (D := D) H), (nAt_ne (by omega)).trans (o8_35 (D := D) H), (nAt_ne (by omega)).trans (o8_36 (D := D) H)⟩
theorem o8_ast13 (j v : Nat) {h : nPH} {a : Nat} {D : Nat → Nat → Nat} (H : o8 h a D) : o8 (nSt h (a + 12) (nAi 5760 (nUp (fun i => nI (D 13 i)) j (nI v)))) a (u2 D 13 j v) :=
  ⟨H.1, (nAt_ne (by omega)).trans (o8_o (D := D) H), (nAt_ne (by omega)).trans (o8_2 (D := D) H), (nAt_ne (by omega)).trans (o8_3 (D := D) H), (nAt_ne (by omega)).trans (o8_4 (D := D) H), (nAt_ne (by omega)).trans (o8_5 (D := D) H), (nAt_ne (by omega)).trans (o8_6 (D := D) H), (nAt_ne (by omega)).trans (o8_7 (D := D) H), (nAt_ne (by omega)).trans (o8_8 (D := D) H), (nAt_ne (by omega)).trans (o8_9 (D := D) H), (nAt_ne (by omega)).trans (o8_10 (D := D) H), (nAt_ne (by omega)).trans (o8_11 (D := D) H), (nAt_ne (by omega)).trans (o8_12 (D := D) H), (nAt_eq.trans (by rw [u2_up])), (nAt_ne (by omega)).trans (o8_14 (D := D) H), (nAt_ne (by omega)).trans (o8_15 (D := D) H), (nAt_ne (by omega)).trans (o8_17 (D := D) H), (nAt_ne (by omega)).trans (o8_18 (D := D) H), (nAt_ne (by omega)).trans (o8_19 (D := D) H), (nAt_ne (by omega)).trans (o8_26 (D := D) H), (nAt_ne (by omega)).trans (o8_27 (D := D) H), (nAt_ne (by omega)).trans (o8_29 (D := D) H), (nAt_ne (by omega)).trans (o8_30 (D := D) H), (nAt_ne (by omega)).trans (o8_35 (D := D) H), (nAt_ne (by omega)).trans (o8_36 (D := D) H)⟩
theorem o8_ast14 (j v : Nat) {h : nPH} {a : Nat} {D : Nat → Nat → Nat} (H : o8 h a D) : o8 (nSt h (a + 13) (nAi 5760 (nUp (fun i => nI (D 14 i)) j (nI v)))) a (u2 D 14 j v) :=
  ⟨H.1, (nAt_ne (by omega)).trans (o8_o (D := D) H), (nAt_ne (by omega)).trans (o8_2 (D := D) H), (nAt_ne (by omega)).trans (o8_3 (D := D) H), (nAt_ne (by omega)).trans (o8_4 (D := D) H), (nAt_ne (by omega)).trans (o8_5 (D := D) H), (nAt_ne (by omega)).trans (o8_6 (D := D) H), (nAt_ne (by omega)).trans (o8_7 (D := D) H), (nAt_ne (by omega)).trans (o8_8 (D := D) H), (nAt_ne (by omega)).trans (o8_9 (D := D) H), (nAt_ne (by omega)).trans (o8_10 (D := D) H), (nAt_ne (by omega)).trans (o8_11 (D := D) H), (nAt_ne (by omega)).trans (o8_12 (D := D) H), (nAt_ne (by omega)).trans (o8_13 (D := D) H), (nAt_eq.trans (by rw [u2_up])), (nAt_ne (by omega)).trans (o8_15 (D := D) H), (nAt_ne (by omega)).trans (o8_17 (D := D) H), (nAt_ne (by omega)).trans (o8_18 (D := D) H), (nAt_ne (by omega)).trans (o8_19 (D := D) H), (nAt_ne (by omega)).trans (o8_26 (D := D) H), (nAt_ne (by omega)).trans (o8_27 (D := D) H), (nAt_ne (by omega)).trans (o8_29 (D := D) H), (nAt_ne (by omega)).trans (o8_30 (D := D) H), (nAt_ne (by omega)).trans (o8_35 (D := D) H), (nAt_ne (by omega)).trans (o8_36 (D := D) H)⟩
theorem o8_ast15 (j v : Nat) {h : nPH} {a : Nat} {D : Nat → Nat → Nat} (H : o8 h a D) : o8 (nSt h (a + 14) (nAz 5760 (nUp (fun i => nI (D 15 i)) j (nI v)))) a (u2 D 15 j v) :=
  ⟨H.1, (nAt_ne (by omega)).trans (o8_o (D := D) H), (nAt_ne (by omega)).trans (o8_2 (D := D) H), (nAt_ne (by omega)).trans (o8_3 (D := D) H), (nAt_ne (by omega)).trans (o8_4 (D := D) H), (nAt_ne (by omega)).trans (o8_5 (D := D) H), (nAt_ne (by omega)).trans (o8_6 (D := D) H), (nAt_ne (by omega)).trans (o8_7 (D := D) H), (nAt_ne (by omega)).trans (o8_8 (D := D) H), (nAt_ne (by omega)).trans (o8_9 (D := D) H), (nAt_ne (by omega)).trans (o8_10 (D := D) H), (nAt_ne (by omega)).trans (o8_11 (D := D) H), (nAt_ne (by omega)).trans (o8_12 (D := D) H), (nAt_ne (by omega)).trans (o8_13 (D := D) H), (nAt_ne (by omega)).trans (o8_14 (D := D) H), (nAt_eq.trans (by rw [u2_up])), (nAt_ne (by omega)).trans (o8_17 (D := D) H), (nAt_ne (by omega)).trans (o8_18 (D := D) H), (nAt_ne (by omega)).trans (o8_19 (D := D) H), (nAt_ne (by omega)).trans (o8_26 (D := D) H), (nAt_ne (by omega)).trans (o8_27 (D := D) H), (nAt_ne (by omega)).trans (o8_29 (D := D) H), (nAt_ne (by omega)).trans (o8_30 (D := D) H), (nAt_ne (by omega)).trans (o8_35 (D := D) H), (nAt_ne (by omega)).trans (o8_36 (D := D) H)⟩
theorem o8_ast17 (j v : Nat) {h : nPH} {a : Nat} {D : Nat → Nat → Nat} (H : o8 h a D) : o8 (nSt h (a + 15) (nAi 101 (nUp (fun i => nI (D 17 i)) j (nI v)))) a (u2 D 17 j v) :=
  ⟨H.1, (nAt_ne (by omega)).trans (o8_o (D := D) H), (nAt_ne (by omega)).trans (o8_2 (D := D) H), (nAt_ne (by omega)).trans (o8_3 (D := D) H), (nAt_ne (by omega)).trans (o8_4 (D := D) H), (nAt_ne (by omega)).trans (o8_5 (D := D) H), (nAt_ne (by omega)).trans (o8_6 (D := D) H), (nAt_ne (by omega)).trans (o8_7 (D := D) H), (nAt_ne (by omega)).trans (o8_8 (D := D) H), (nAt_ne (by omega)).trans (o8_9 (D := D) H), (nAt_ne (by omega)).trans (o8_10 (D := D) H), (nAt_ne (by omega)).trans (o8_11 (D := D) H), (nAt_ne (by omega)).trans (o8_12 (D := D) H), (nAt_ne (by omega)).trans (o8_13 (D := D) H), (nAt_ne (by omega)).trans (o8_14 (D := D) H), (nAt_ne (by omega)).trans (o8_15 (D := D) H), (nAt_eq.trans (by rw [u2_up])), (nAt_ne (by omega)).trans (o8_18 (D := D) H), (nAt_ne (by omega)).trans (o8_19 (D := D) H), (nAt_ne (by omega)).trans (o8_26 (D := D) H), (nAt_ne (by omega)).trans (o8_27 (D := D) H), (nAt_ne (by omega)).trans (o8_29 (D := D) H), (nAt_ne (by omega)).trans (o8_30 (D := D) H), (nAt_ne (by omega)).trans (o8_35 (D := D) H), (nAt_ne (by omega)).trans (o8_36 (D := D) H)⟩
theorem o8_ast18 (j v : Nat) {h : nPH} {a : Nat} {D : Nat → Nat → Nat} (H : o8 h a D) : o8 (nSt h (a + 16) (nAz 480 (nUp (fun i => nI (D 18 i)) j (nI v)))) a (u2 D 18 j v) :=
  ⟨H.1, (nAt_ne (by omega)).trans (o8_o (D := D) H), (nAt_ne (by omega)).trans (o8_2 (D := D) H), (nAt_ne (by omega)).trans (o8_3 (D := D) H), (nAt_ne (by omega)).trans (o8_4 (D := D) H), (nAt_ne (by omega)).trans (o8_5 (D := D) H), (nAt_ne (by omega)).trans (o8_6 (D := D) H), (nAt_ne (by omega)).trans (o8_7 (D := D) H), (nAt_ne (by omega)).trans (o8_8 (D := D) H), (nAt_ne (by omega)).trans (o8_9 (D := D) H), (nAt_ne (by omega)).trans (o8_10 (D := D) H), (nAt_ne (by omega)).trans (o8_11 (D := D) H), (nAt_ne (by omega)).trans (o8_12 (D := D) H), (nAt_ne (by omega)).trans (o8_13 (D := D) H), (nAt_ne (by omega)).trans (o8_14 (D := D) H), (nAt_ne (by omega)).trans (o8_15 (D := D) H), (nAt_ne (by omega)).trans (o8_17 (D := D) H), (nAt_eq.trans (by rw [u2_up])), (nAt_ne (by omega)).trans (o8_19 (D := D) H), (nAt_ne (by omega)).trans (o8_26 (D := D) H), (nAt_ne (by omega)).trans (o8_27 (D := D) H), (nAt_ne (by omega)).trans (o8_29 (D := D) H), (nAt_ne (by omega)).trans (o8_30 (D := D) H), (nAt_ne (by omega)).trans (o8_35 (D := D) H), (nAt_ne (by omega)).trans (o8_36 (D := D) H)⟩
theorem o8_ast19 (j v : Nat) {h : nPH} {a : Nat} {D : Nat → Nat → Nat} (H : o8 h a D) : o8 (nSt h (a + 17) (nAi 480 (nUp (fun i => nI (D 19 i)) j (nI v)))) a (u2 D 19 j v) :=
  ⟨H.1, (nAt_ne (by omega)).trans (o8_o (D := D) H), (nAt_ne (by omega)).trans (o8_2 (D := D) H), (nAt_ne (by omega)).trans (o8_3 (D := D) H), (nAt_ne (by omega)).trans (o8_4 (D := D) H), (nAt_ne (by omega)).trans (o8_5 (D := D) H), (nAt_ne (by omega)).trans (o8_6 (D := D) H), (nAt_ne (by omega)).trans (o8_7 (D := D) H), (nAt_ne (by omega)).trans (o8_8 (D := D) H), (nAt_ne (by omega)).trans (o8_9 (D := D) H), (nAt_ne (by omega)).trans (o8_10 (D := D) H), (nAt_ne (by omega)).trans (o8_11 (D := D) H), (nAt_ne (by omega)).trans (o8_12 (D := D) H), (nAt_ne (by omega)).trans (o8_13 (D := D) H), (nAt_ne (by omega)).trans (o8_14 (D := D) H), (nAt_ne (by omega)).trans (o8_15 (D := D) H), (nAt_ne (by omega)).trans (o8_17 (D := D) H), (nAt_ne (by omega)).trans (o8_18 (D := D) H), (nAt_eq.trans (by rw [u2_up])), (nAt_ne (by omega)).trans (o8_26 (D := D) H), (nAt_ne (by omega)).trans (o8_27 (D := D) H), (nAt_ne (by omega)).trans (o8_29 (D := D) H), (nAt_ne (by omega)).trans (o8_30 (D := D) H), (nAt_ne (by omega)).trans (o8_35 (D := D) H), (nAt_ne (by omega)).trans (o8_36 (D := D) H)⟩
theorem o8_ast26 (j v : Nat) {h : nPH} {a : Nat} {D : Nat → Nat → Nat} (H : o8 h a D) : o8 (nSt h (a + 18) (nAi 480 (nUp (fun i => nI (D 26 i)) j (nI v)))) a (u2 D 26 j v) :=
  ⟨H.1, (nAt_ne (by omega)).trans (o8_o (D := D) H), (nAt_ne (by omega)).trans (o8_2 (D := D) H), (nAt_ne (by omega)).trans (o8_3 (D := D) H), (nAt_ne (by omega)).trans (o8_4 (D := D) H), (nAt_ne (by omega)).trans (o8_5 (D := D) H), (nAt_ne (by omega)).trans (o8_6 (D := D) H), (nAt_ne (by omega)).trans (o8_7 (D := D) H), (nAt_ne (by omega)).trans (o8_8 (D := D) H), (nAt_ne (by omega)).trans (o8_9 (D := D) H), (nAt_ne (by omega)).trans (o8_10 (D := D) H), (nAt_ne (by omega)).trans (o8_11 (D := D) H), (nAt_ne (by omega)).trans (o8_12 (D := D) H), (nAt_ne (by omega)).trans (o8_13 (D := D) H), (nAt_ne (by omega)).trans (o8_14 (D := D) H), (nAt_ne (by omega)).trans (o8_15 (D := D) H), (nAt_ne (by omega)).trans (o8_17 (D := D) H), (nAt_ne (by omega)).trans (o8_18 (D := D) H), (nAt_ne (by omega)).trans (o8_19 (D := D) H), (nAt_eq.trans (by rw [u2_up])), (nAt_ne (by omega)).trans (o8_27 (D := D) H), (nAt_ne (by omega)).trans (o8_29 (D := D) H), (nAt_ne (by omega)).trans (o8_30 (D := D) H), (nAt_ne (by omega)).trans (o8_35 (D := D) H), (nAt_ne (by omega)).trans (o8_36 (D := D) H)⟩
theorem o8_ast27 (j v : Nat) {h : nPH} {a : Nat} {D : Nat → Nat → Nat} (H : o8 h a D) : o8 (nSt h (a + 19) (nAz 480 (nUp (fun i => nI (D 27 i)) j (nI v)))) a (u2 D 27 j v) :=
  ⟨H.1, (nAt_ne (by omega)).trans (o8_o (D := D) H), (nAt_ne (by omega)).trans (o8_2 (D := D) H), (nAt_ne (by omega)).trans (o8_3 (D := D) H), (nAt_ne (by omega)).trans (o8_4 (D := D) H), (nAt_ne (by omega)).trans (o8_5 (D := D) H), (nAt_ne (by omega)).trans (o8_6 (D := D) H), (nAt_ne (by omega)).trans (o8_7 (D := D) H), (nAt_ne (by omega)).trans (o8_8 (D := D) H), (nAt_ne (by omega)).trans (o8_9 (D := D) H), (nAt_ne (by omega)).trans (o8_10 (D := D) H), (nAt_ne (by omega)).trans (o8_11 (D := D) H), (nAt_ne (by omega)).trans (o8_12 (D := D) H), (nAt_ne (by omega)).trans (o8_13 (D := D) H), (nAt_ne (by omega)).trans (o8_14 (D := D) H), (nAt_ne (by omega)).trans (o8_15 (D := D) H), (nAt_ne (by omega)).trans (o8_17 (D := D) H), (nAt_ne (by omega)).trans (o8_18 (D := D) H), (nAt_ne (by omega)).trans (o8_19 (D := D) H), (nAt_ne (by omega)).trans (o8_26 (D := D) H), (nAt_eq.trans (by rw [u2_up])), (nAt_ne (by omega)).trans (o8_29 (D := D) H), (nAt_ne (by omega)).trans (o8_30 (D := D) H), (nAt_ne (by omega)).trans (o8_35 (D := D) H), (nAt_ne (by omega)).trans (o8_36 (D := D) H)⟩
theorem o8_ast29 (j v : Nat) {h : nPH} {a : Nat} {D : Nat → Nat → Nat} (H : o8 h a D) : o8 (nSt h (a + 20) (nAi 1200 (nUp (fun i => nI (D 29 i)) j (nI v)))) a (u2 D 29 j v) :=
  ⟨H.1, (nAt_ne (by omega)).trans (o8_o (D := D) H), (nAt_ne (by omega)).trans (o8_2 (D := D) H), (nAt_ne (by omega)).trans (o8_3 (D := D) H), (nAt_ne (by omega)).trans (o8_4 (D := D) H), (nAt_ne (by omega)).trans (o8_5 (D := D) H), (nAt_ne (by omega)).trans (o8_6 (D := D) H), (nAt_ne (by omega)).trans (o8_7 (D := D) H), (nAt_ne (by omega)).trans (o8_8 (D := D) H), (nAt_ne (by omega)).trans (o8_9 (D := D) H), (nAt_ne (by omega)).trans (o8_10 (D := D) H), (nAt_ne (by omega)).trans (o8_11 (D := D) H), (nAt_ne (by omega)).trans (o8_12 (D := D) H), (nAt_ne (by omega)).trans (o8_13 (D := D) H), (nAt_ne (by omega)).trans (o8_14 (D := D) H), (nAt_ne (by omega)).trans (o8_15 (D := D) H), (nAt_ne (by omega)).trans (o8_17 (D := D) H), (nAt_ne (by omega)).trans (o8_18 (D := D) H), (nAt_ne (by omega)).trans (o8_19 (D := D) H), (nAt_ne (by omega)).trans (o8_26 (D := D) H), (nAt_ne (by omega)).trans (o8_27 (D := D) H), (nAt_eq.trans (by rw [u2_up])), (nAt_ne (by omega)).trans (o8_30 (D := D) H), (nAt_ne (by omega)).trans (o8_35 (D := D) H), (nAt_ne (by omega)).trans (o8_36 (D := D) H)⟩
theorem o8_ast30 (j v : Nat) {h : nPH} {a : Nat} {D : Nat → Nat → Nat} (H : o8 h a D) : o8 (nSt h (a + 21) (nAz 480 (nUp (fun i => nI (D 30 i)) j (nI v)))) a (u2 D 30 j v) :=
  ⟨H.1, (nAt_ne (by omega)).trans (o8_o (D := D) H), (nAt_ne (by omega)).trans (o8_2 (D := D) H), (nAt_ne (by omega)).trans (o8_3 (D := D) H), (nAt_ne (by omega)).trans (o8_4 (D := D) H), (nAt_ne (by omega)).trans (o8_5 (D := D) H), (nAt_ne (by omega)).trans (o8_6 (D := D) H), (nAt_ne (by omega)).trans (o8_7 (D := D) H), (nAt_ne (by omega)).trans (o8_8 (D := D) H), (nAt_ne (by omega)).trans (o8_9 (D := D) H), (nAt_ne (by omega)).trans (o8_10 (D := D) H), (nAt_ne (by omega)).trans (o8_11 (D := D) H), (nAt_ne (by omega)).trans (o8_12 (D := D) H), (nAt_ne (by omega)).trans (o8_13 (D := D) H), (nAt_ne (by omega)).trans (o8_14 (D := D) H), (nAt_ne (by omega)).trans (o8_15 (D := D) H), (nAt_ne (by omega)).trans (o8_17 (D := D) H), (nAt_ne (by omega)).trans (o8_18 (D := D) H), (nAt_ne (by omega)).trans (o8_19 (D := D) H), (nAt_ne (by omega)).trans (o8_26 (D := D) H), (nAt_ne (by omega)).trans (o8_27 (D := D) H), (nAt_ne (by omega)).trans (o8_29 (D := D) H), (nAt_eq.trans (by rw [u2_up])), (nAt_ne (by omega)).trans (o8_35 (D := D) H), (nAt_ne (by omega)).trans (o8_36 (D := D) H)⟩
theorem o8_ast35 (j v : Nat) {h : nPH} {a : Nat} {D : Nat → Nat → Nat} (H : o8 h a D) : o8 (nSt h (a + 22) (nAi 24 (nUp (fun i => nI (D 35 i)) j (nI v)))) a (u2 D 35 j v) :=
  ⟨H.1, (nAt_ne (by omega)).trans (o8_o (D := D) H), (nAt_ne (by omega)).trans (o8_2 (D := D) H), (nAt_ne (by omega)).trans (o8_3 (D := D) H), (nAt_ne (by omega)).trans (o8_4 (D := D) H), (nAt_ne (by omega)).trans (o8_5 (D := D) H), (nAt_ne (by omega)).trans (o8_6 (D := D) H), (nAt_ne (by omega)).trans (o8_7 (D := D) H), (nAt_ne (by omega)).trans (o8_8 (D := D) H), (nAt_ne (by omega)).trans (o8_9 (D := D) H), (nAt_ne (by omega)).trans (o8_10 (D := D) H), (nAt_ne (by omega)).trans (o8_11 (D := D) H), (nAt_ne (by omega)).trans (o8_12 (D := D) H), (nAt_ne (by omega)).trans (o8_13 (D := D) H), (nAt_ne (by omega)).trans (o8_14 (D := D) H), (nAt_ne (by omega)).trans (o8_15 (D := D) H), (nAt_ne (by omega)).trans (o8_17 (D := D) H), (nAt_ne (by omega)).trans (o8_18 (D := D) H), (nAt_ne (by omega)).trans (o8_19 (D := D) H), (nAt_ne (by omega)).trans (o8_26 (D := D) H), (nAt_ne (by omega)).trans (o8_27 (D := D) H), (nAt_ne (by omega)).trans (o8_29 (D := D) H), (nAt_ne (by omega)).trans (o8_30 (D := D) H), (nAt_eq.trans (by rw [u2_up])), (nAt_ne (by omega)).trans (o8_36 (D := D) H)⟩
theorem o8_ast36 (j v : Nat) {h : nPH} {a : Nat} {D : Nat → Nat → Nat} (H : o8 h a D) : o8 (nSt h (a + 23) (nAl 480 (nUp (fun i => lN (D 36 i)) j (lN v)))) a (u2 D 36 j v) :=
  ⟨H.1, (nAt_ne (by omega)).trans (o8_o (D := D) H), (nAt_ne (by omega)).trans (o8_2 (D := D) H), (nAt_ne (by omega)).trans (o8_3 (D := D) H), (nAt_ne (by omega)).trans (o8_4 (D := D) H), (nAt_ne (by omega)).trans (o8_5 (D := D) H), (nAt_ne (by omega)).trans (o8_6 (D := D) H), (nAt_ne (by omega)).trans (o8_7 (D := D) H), (nAt_ne (by omega)).trans (o8_8 (D := D) H), (nAt_ne (by omega)).trans (o8_9 (D := D) H), (nAt_ne (by omega)).trans (o8_10 (D := D) H), (nAt_ne (by omega)).trans (o8_11 (D := D) H), (nAt_ne (by omega)).trans (o8_12 (D := D) H), (nAt_ne (by omega)).trans (o8_13 (D := D) H), (nAt_ne (by omega)).trans (o8_14 (D := D) H), (nAt_ne (by omega)).trans (o8_15 (D := D) H), (nAt_ne (by omega)).trans (o8_17 (D := D) H), (nAt_ne (by omega)).trans (o8_18 (D := D) H), (nAt_ne (by omega)).trans (o8_19 (D := D) H), (nAt_ne (by omega)).trans (o8_26 (D := D) H), (nAt_ne (by omega)).trans (o8_27 (D := D) H), (nAt_ne (by omega)).trans (o8_29 (D := D) H), (nAt_ne (by omega)).trans (o8_30 (D := D) H), (nAt_ne (by omega)).trans (o8_35 (D := D) H), (nAt_eq.trans (by rw [u2_upL]))⟩
end
