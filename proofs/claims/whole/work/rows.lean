section
/-- a private method of a class that the tables say can be made, by its rows of tables_1 -/
def lw_okq (q : MethodName × Nat) : Prop := (q.1.cls ≠ "java/lang/invoke/MethodHandle" ∧ q.1.cls ≠ "java/lang/invoke/VarHandle") ∧ Cond.instantiable q.1.cls q.2 ∈ tables_1 ∧ Cond.privateMethod q.1 ∈ tables_1 ∧ Cond.instanceMethod q.1 ∈ tables_1
theorem lw_p0 : lw_okq (⟨"NetLoft", "keep", "(LNetLoft$Panel;)I"⟩, 10) := ⟨⟨by decide +kernel, by decide +kernel⟩, List.mem_of_getElem? (i := 14) (by decide +kernel), List.mem_of_getElem? (i := 264) (by decide +kernel), List.mem_of_getElem? (i := 265) (by decide +kernel)⟩
theorem lw_p1 : lw_okq (⟨"NetLoft", "panelAt", "(I)LNetLoft$Panel;"⟩, 10) := ⟨⟨by decide +kernel, by decide +kernel⟩, List.mem_of_getElem? (i := 14) (by decide +kernel), List.mem_of_getElem? (i := 272) (by decide +kernel), List.mem_of_getElem? (i := 273) (by decide +kernel)⟩
theorem lw_p2 : lw_okq (⟨"NetLoft$Row", "shareOf", "(II)I"⟩, 7) := ⟨⟨by decide +kernel, by decide +kernel⟩, List.mem_of_getElem? (i := 215) (by decide +kernel), List.mem_of_getElem? (i := 403) (by decide +kernel), List.mem_of_getElem? (i := 404) (by decide +kernel)⟩
theorem lw_p3 : lw_okq (⟨"NetLoft$Hole", "clear", "()V"⟩, 9) := ⟨⟨by decide +kernel, by decide +kernel⟩, List.mem_of_getElem? (i := 24) (by decide +kernel), List.mem_of_getElem? (i := 458) (by decide +kernel), List.mem_of_getElem? (i := 459) (by decide +kernel)⟩
theorem lw_p4 : lw_okq (⟨"NetLoft$Hole", "reach", "(II)V"⟩, 9) := ⟨⟨by decide +kernel, by decide +kernel⟩, List.mem_of_getElem? (i := 24) (by decide +kernel), List.mem_of_getElem? (i := 463) (by decide +kernel), List.mem_of_getElem? (i := 464) (by decide +kernel)⟩
theorem lw_p5 : lw_okq (⟨"NetLoft$Hole", "reachFrom", "(LNetLoft$Panel;II)V"⟩, 9) := ⟨⟨by decide +kernel, by decide +kernel⟩, List.mem_of_getElem? (i := 24) (by decide +kernel), List.mem_of_getElem? (i := 468) (by decide +kernel), List.mem_of_getElem? (i := 469) (by decide +kernel)⟩
theorem lw_p6 : lw_okq (⟨"NetLoft$Hole", "listReached", "(LNetLoft$Panel;)V"⟩, 9) := ⟨⟨by decide +kernel, by decide +kernel⟩, List.mem_of_getElem? (i := 24) (by decide +kernel), List.mem_of_getElem? (i := 474) (by decide +kernel), List.mem_of_getElem? (i := 475) (by decide +kernel)⟩
theorem lw_p7 : lw_okq (⟨"NetLoft$Way", "goTo", "(I)V"⟩, 4) := ⟨⟨by decide +kernel, by decide +kernel⟩, List.mem_of_getElem? (i := 62) (by decide +kernel), List.mem_of_getElem? (i := 508) (by decide +kernel), List.mem_of_getElem? (i := 509) (by decide +kernel)⟩
theorem lw_p8 : lw_okq (⟨"NetLoft$Way", "goBackFrom", "(I)V"⟩, 4) := ⟨⟨by decide +kernel, by decide +kernel⟩, List.mem_of_getElem? (i := 62) (by decide +kernel), List.mem_of_getElem? (i := 528) (by decide +kernel), List.mem_of_getElem? (i := 529) (by decide +kernel)⟩
theorem lw_p9 : lw_okq (⟨"NetLoft$Seam", "spread", "(II)V"⟩, 2) := ⟨⟨by decide +kernel, by decide +kernel⟩, List.mem_of_getElem? (i := 98) (by decide +kernel), List.mem_of_getElem? (i := 587) (by decide +kernel), List.mem_of_getElem? (i := 588) (by decide +kernel)⟩
theorem lw_p10 : lw_okq (⟨"NetLoft$Seam", "giveOneEach", "(LNetLoft$Row;)V"⟩, 2) := ⟨⟨by decide +kernel, by decide +kernel⟩, List.mem_of_getElem? (i := 98) (by decide +kernel), List.mem_of_getElem? (i := 593) (by decide +kernel), List.mem_of_getElem? (i := 594) (by decide +kernel)⟩
theorem lw_p11 : lw_okq (⟨"NetLoft", "openingOf", "(LNetLoft$Panel;)I"⟩, 10) := ⟨⟨by decide +kernel, by decide +kernel⟩, List.mem_of_getElem? (i := 14) (by decide +kernel), List.mem_of_getElem? (i := 619) (by decide +kernel), List.mem_of_getElem? (i := 620) (by decide +kernel)⟩
theorem lw_p12 : lw_okq (⟨"NetLoft$Loads", "countWholeSides", "(LNetLoft$Row;)V"⟩, 4) := ⟨⟨by decide +kernel, by decide +kernel⟩, List.mem_of_getElem? (i := 113) (by decide +kernel), List.mem_of_getElem? (i := 641) (by decide +kernel), List.mem_of_getElem? (i := 642) (by decide +kernel)⟩
theorem lw_p13 : lw_okq (⟨"NetLoft$Loads", "lose", "(ILNetLoft$Row;)V"⟩, 4) := ⟨⟨by decide +kernel, by decide +kernel⟩, List.mem_of_getElem? (i := 113) (by decide +kernel), List.mem_of_getElem? (i := 646) (by decide +kernel), List.mem_of_getElem? (i := 647) (by decide +kernel)⟩
theorem lw_p14 : lw_okq (⟨"NetLoft$Loads", "handOn", "(ILNetLoft$Row;)V"⟩, 4) := ⟨⟨by decide +kernel, by decide +kernel⟩, List.mem_of_getElem? (i := 113) (by decide +kernel), List.mem_of_getElem? (i := 650) (by decide +kernel), List.mem_of_getElem? (i := 651) (by decide +kernel)⟩
theorem lw_p15 : lw_okq (⟨"NetLoft$Loads", "inAll", "(ILNetLoft$Row;)J"⟩, 4) := ⟨⟨by decide +kernel, by decide +kernel⟩, List.mem_of_getElem? (i := 113) (by decide +kernel), List.mem_of_getElem? (i := 654) (by decide +kernel), List.mem_of_getElem? (i := 655) (by decide +kernel)⟩
def lw_privs_1 : List (MethodName × Nat) := [(⟨"NetLoft", "keep", "(LNetLoft$Panel;)I"⟩, 10), (⟨"NetLoft", "panelAt", "(I)LNetLoft$Panel;"⟩, 10), (⟨"NetLoft$Row", "shareOf", "(II)I"⟩, 7), (⟨"NetLoft$Hole", "clear", "()V"⟩, 9), (⟨"NetLoft$Hole", "reach", "(II)V"⟩, 9), (⟨"NetLoft$Hole", "reachFrom", "(LNetLoft$Panel;II)V"⟩, 9), (⟨"NetLoft$Hole", "listReached", "(LNetLoft$Panel;)V"⟩, 9), (⟨"NetLoft$Way", "goTo", "(I)V"⟩, 4), (⟨"NetLoft$Way", "goBackFrom", "(I)V"⟩, 4), (⟨"NetLoft$Seam", "spread", "(II)V"⟩, 2), (⟨"NetLoft$Seam", "giveOneEach", "(LNetLoft$Row;)V"⟩, 2), (⟨"NetLoft", "openingOf", "(LNetLoft$Panel;)I"⟩, 10), (⟨"NetLoft$Loads", "countWholeSides", "(LNetLoft$Row;)V"⟩, 4), (⟨"NetLoft$Loads", "lose", "(ILNetLoft$Row;)V"⟩, 4), (⟨"NetLoft$Loads", "handOn", "(ILNetLoft$Row;)V"⟩, 4), (⟨"NetLoft$Loads", "inAll", "(ILNetLoft$Row;)J"⟩, 4)]
theorem lw_r1 : ∀ q ∈ lw_privs_1, lw_okq q := List.forall_mem_cons.mpr ⟨lw_p0, List.forall_mem_cons.mpr ⟨lw_p1, List.forall_mem_cons.mpr ⟨lw_p2, List.forall_mem_cons.mpr ⟨lw_p3, List.forall_mem_cons.mpr ⟨lw_p4, List.forall_mem_cons.mpr ⟨lw_p5, List.forall_mem_cons.mpr ⟨lw_p6, List.forall_mem_cons.mpr ⟨lw_p7, List.forall_mem_cons.mpr ⟨lw_p8, List.forall_mem_cons.mpr ⟨lw_p9, List.forall_mem_cons.mpr ⟨lw_p10, List.forall_mem_cons.mpr ⟨lw_p11, List.forall_mem_cons.mpr ⟨lw_p12, List.forall_mem_cons.mpr ⟨lw_p13, List.forall_mem_cons.mpr ⟨lw_p14, List.forall_mem_cons.mpr ⟨lw_p15, fun _ h => absurd h List.not_mem_nil⟩⟩⟩⟩⟩⟩⟩⟩⟩⟩⟩⟩⟩⟩⟩⟩
theorem lw_p16 : lw_okq (⟨"NetLoftModel", "newPanel", "(II)I"⟩, 39) := ⟨⟨by decide +kernel, by decide +kernel⟩, List.mem_of_getElem? (i := 681) (by decide +kernel), List.mem_of_getElem? (i := 810) (by decide +kernel), List.mem_of_getElem? (i := 811) (by decide +kernel)⟩
theorem lw_p17 : lw_okq (⟨"NetLoftModel", "clears", "(II)V"⟩, 39) := ⟨⟨by decide +kernel, by decide +kernel⟩, List.mem_of_getElem? (i := 681) (by decide +kernel), List.mem_of_getElem? (i := 814) (by decide +kernel), List.mem_of_getElem? (i := 815) (by decide +kernel)⟩
theorem lw_p18 : lw_okq (⟨"NetLoftModel", "isPanel", "(I)Z"⟩, 39) := ⟨⟨by decide +kernel, by decide +kernel⟩, List.mem_of_getElem? (i := 681) (by decide +kernel), List.mem_of_getElem? (i := 825) (by decide +kernel), List.mem_of_getElem? (i := 826) (by decide +kernel)⟩
theorem lw_p19 : lw_okq (⟨"NetLoftModel", "given", "(II)I"⟩, 39) := ⟨⟨by decide +kernel, by decide +kernel⟩, List.mem_of_getElem? (i := 681) (by decide +kernel), List.mem_of_getElem? (i := 829) (by decide +kernel), List.mem_of_getElem? (i := 830) (by decide +kernel)⟩
theorem lw_p20 : lw_okq (⟨"NetLoftModel", "hangs", "(II)V"⟩, 39) := ⟨⟨by decide +kernel, by decide +kernel⟩, List.mem_of_getElem? (i := 681) (by decide +kernel), List.mem_of_getElem? (i := 833) (by decide +kernel), List.mem_of_getElem? (i := 834) (by decide +kernel)⟩
theorem lw_p21 : lw_okq (⟨"NetLoftModel", "isKnot", "(III)Z"⟩, 39) := ⟨⟨by decide +kernel, by decide +kernel⟩, List.mem_of_getElem? (i := 681) (by decide +kernel), List.mem_of_getElem? (i := 841) (by decide +kernel), List.mem_of_getElem? (i := 842) (by decide +kernel)⟩
theorem lw_p22 : lw_okq (⟨"NetLoftModel", "isRow", "(II)Z"⟩, 39) := ⟨⟨by decide +kernel, by decide +kernel⟩, List.mem_of_getElem? (i := 681) (by decide +kernel), List.mem_of_getElem? (i := 845) (by decide +kernel), List.mem_of_getElem? (i := 846) (by decide +kernel)⟩
theorem lw_p23 : lw_okq (⟨"NetLoftModel", "becomes", "(II)V"⟩, 39) := ⟨⟨by decide +kernel, by decide +kernel⟩, List.mem_of_getElem? (i := 681) (by decide +kernel), List.mem_of_getElem? (i := 849) (by decide +kernel), List.mem_of_getElem? (i := 850) (by decide +kernel)⟩
theorem lw_p24 : lw_okq (⟨"NetLoftModel", "goneAt", "(III)I"⟩, 39) := ⟨⟨by decide +kernel, by decide +kernel⟩, List.mem_of_getElem? (i := 681) (by decide +kernel), List.mem_of_getElem? (i := 879) (by decide +kernel), List.mem_of_getElem? (i := 880) (by decide +kernel)⟩
theorem lw_p25 : lw_okq (⟨"NetLoftModel", "below", "(IIII)I"⟩, 39) := ⟨⟨by decide +kernel, by decide +kernel⟩, List.mem_of_getElem? (i := 681) (by decide +kernel), List.mem_of_getElem? (i := 883) (by decide +kernel), List.mem_of_getElem? (i := 884) (by decide +kernel)⟩
theorem lw_p26 : lw_okq (⟨"NetLoftModel", "hangsIn", "(III)Z"⟩, 39) := ⟨⟨by decide +kernel, by decide +kernel⟩, List.mem_of_getElem? (i := 681) (by decide +kernel), List.mem_of_getElem? (i := 887) (by decide +kernel), List.mem_of_getElem? (i := 888) (by decide +kernel)⟩
theorem lw_p27 : lw_okq (⟨"NetLoftModel", "spreads", "(III)V"⟩, 39) := ⟨⟨by decide +kernel, by decide +kernel⟩, List.mem_of_getElem? (i := 681) (by decide +kernel), List.mem_of_getElem? (i := 911) (by decide +kernel), List.mem_of_getElem? (i := 912) (by decide +kernel)⟩
theorem lw_p28 : lw_okq (⟨"NetLoftModel", "oddOnes", "(I)I"⟩, 39) := ⟨⟨by decide +kernel, by decide +kernel⟩, List.mem_of_getElem? (i := 681) (by decide +kernel), List.mem_of_getElem? (i := 915) (by decide +kernel), List.mem_of_getElem? (i := 916) (by decide +kernel)⟩
theorem lw_p29 : lw_okq (⟨"NetLoftModel", "goesOn", "(III)I"⟩, 39) := ⟨⟨by decide +kernel, by decide +kernel⟩, List.mem_of_getElem? (i := 681) (by decide +kernel), List.mem_of_getElem? (i := 930) (by decide +kernel), List.mem_of_getElem? (i := 931) (by decide +kernel)⟩
theorem lw_p30 : lw_okq (⟨"NetLoftModel", "isGone", "(III)Z"⟩, 39) := ⟨⟨by decide +kernel, by decide +kernel⟩, List.mem_of_getElem? (i := 681) (by decide +kernel), List.mem_of_getElem? (i := 934) (by decide +kernel), List.mem_of_getElem? (i := 935) (by decide +kernel)⟩
theorem lw_p31 : lw_okq (⟨"NetLoftModel", "ties", "(IIIZ)V"⟩, 39) := ⟨⟨by decide +kernel, by decide +kernel⟩, List.mem_of_getElem? (i := 681) (by decide +kernel), List.mem_of_getElem? (i := 938) (by decide +kernel), List.mem_of_getElem? (i := 939) (by decide +kernel)⟩
def lw_privs_2 : List (MethodName × Nat) := [(⟨"NetLoftModel", "newPanel", "(II)I"⟩, 39), (⟨"NetLoftModel", "clears", "(II)V"⟩, 39), (⟨"NetLoftModel", "isPanel", "(I)Z"⟩, 39), (⟨"NetLoftModel", "given", "(II)I"⟩, 39), (⟨"NetLoftModel", "hangs", "(II)V"⟩, 39), (⟨"NetLoftModel", "isKnot", "(III)Z"⟩, 39), (⟨"NetLoftModel", "isRow", "(II)Z"⟩, 39), (⟨"NetLoftModel", "becomes", "(II)V"⟩, 39), (⟨"NetLoftModel", "goneAt", "(III)I"⟩, 39), (⟨"NetLoftModel", "below", "(IIII)I"⟩, 39), (⟨"NetLoftModel", "hangsIn", "(III)Z"⟩, 39), (⟨"NetLoftModel", "spreads", "(III)V"⟩, 39), (⟨"NetLoftModel", "oddOnes", "(I)I"⟩, 39), (⟨"NetLoftModel", "goesOn", "(III)I"⟩, 39), (⟨"NetLoftModel", "isGone", "(III)Z"⟩, 39), (⟨"NetLoftModel", "ties", "(IIIZ)V"⟩, 39)]
theorem lw_r2 : ∀ q ∈ lw_privs_2, lw_okq q := List.forall_mem_cons.mpr ⟨lw_p16, List.forall_mem_cons.mpr ⟨lw_p17, List.forall_mem_cons.mpr ⟨lw_p18, List.forall_mem_cons.mpr ⟨lw_p19, List.forall_mem_cons.mpr ⟨lw_p20, List.forall_mem_cons.mpr ⟨lw_p21, List.forall_mem_cons.mpr ⟨lw_p22, List.forall_mem_cons.mpr ⟨lw_p23, List.forall_mem_cons.mpr ⟨lw_p24, List.forall_mem_cons.mpr ⟨lw_p25, List.forall_mem_cons.mpr ⟨lw_p26, List.forall_mem_cons.mpr ⟨lw_p27, List.forall_mem_cons.mpr ⟨lw_p28, List.forall_mem_cons.mpr ⟨lw_p29, List.forall_mem_cons.mpr ⟨lw_p30, List.forall_mem_cons.mpr ⟨lw_p31, fun _ h => absurd h List.not_mem_nil⟩⟩⟩⟩⟩⟩⟩⟩⟩⟩⟩⟩⟩⟩⟩⟩
theorem lw_p32 : lw_okq (⟨"NetLoftModel", "reaches", "(III)Z"⟩, 39) := ⟨⟨by decide +kernel, by decide +kernel⟩, List.mem_of_getElem? (i := 681) (by decide +kernel), List.mem_of_getElem? (i := 942) (by decide +kernel), List.mem_of_getElem? (i := 943) (by decide +kernel)⟩
theorem lw_p33 : lw_okq (⟨"NetLoftModel", "copies", "(IIII)V"⟩, 39) := ⟨⟨by decide +kernel, by decide +kernel⟩, List.mem_of_getElem? (i := 681) (by decide +kernel), List.mem_of_getElem? (i := 962) (by decide +kernel), List.mem_of_getElem? (i := 963) (by decide +kernel)⟩
theorem lw_p34 : lw_okq (⟨"NetLoftModel", "leads", "(I)V"⟩, 39) := ⟨⟨by decide +kernel, by decide +kernel⟩, List.mem_of_getElem? (i := 681) (by decide +kernel), List.mem_of_getElem? (i := 999) (by decide +kernel), List.mem_of_getElem? (i := 1000) (by decide +kernel)⟩
def lw_privs_3 : List (MethodName × Nat) := [(⟨"NetLoftModel", "reaches", "(III)Z"⟩, 39), (⟨"NetLoftModel", "copies", "(IIII)V"⟩, 39), (⟨"NetLoftModel", "leads", "(I)V"⟩, 39)]
theorem lw_r3 : ∀ q ∈ lw_privs_3, lw_okq q := List.forall_mem_cons.mpr ⟨lw_p32, List.forall_mem_cons.mpr ⟨lw_p33, List.forall_mem_cons.mpr ⟨lw_p34, fun _ h => absurd h List.not_mem_nil⟩⟩⟩
def lw_privs : List (MethodName × Nat) := lw_privs_1 ++ (lw_privs_2 ++ (lw_privs_3))
def lw_tbl : List Cond := k2_sels lw_privs ++ tables_1
theorem lw_privs_ok : ∀ q ∈ lw_privs, lw_okq q := by
  show ∀ q ∈ lw_privs_1 ++ (lw_privs_2 ++ (lw_privs_3)), lw_okq q
  exact List.forall_mem_append.mpr ⟨lw_r1, List.forall_mem_append.mpr ⟨lw_r2, lw_r3⟩⟩

def RX0 : String := "NetLoft$Hole"
def TX0 : u_T := fun k => match k with
  | 0 => ("NetLoft$Hole", "traced", "Z", false)
  | 1 => ("NetLoft$Hole", "size", "I", false)
  | 2 => ("NetLoft$Hole", "goneSides", "I", false)
  | 3 => ("NetLoft$Hole", "oddOnes", "I", false)
  | 4 => ("NetLoft$Hole", "knots", "[I", true)
  | 5 => ("NetLoft$Hole", "odd", "[I", true)
  | 6 => ("NetLoft$Hole", "reached", "[[I", true)
  | 7 => ("NetLoft$Hole", "queue", "[I", true)
  | _ => ("NetLoft$Hole", "queued", "I", false)
def tyX0 : Nat → FieldType := fun k => match k with
  | 0 => .boolean
  | 1 => .int
  | 2 => .int
  | 3 => .int
  | 4 => .array .int
  | 5 => .array .int
  | 6 => .array (.array .int)
  | 7 => .array .int
  | _ => .int
theorem nmX0 : ∀ a, a < 9 → ∀ b, b < 9 → a ≠ b → (TX0 a).2.1 ≠ (TX0 b).2.1 := by decide +kernel
theorem tyX0_ok : ∀ k, k < 9 → parseFieldDescriptor (TX0 k).2.2.1 = some (tyX0 k) := by decide +kernel
abbrev cX0_init : ByteArray := prog_2_method_1_code
def yX0_init : MethodName := ⟨RX0, "<init>", "()V"⟩
abbrev cX0_trace : ByteArray := prog_2_method_2_code
def yX0_trace : MethodName := ⟨RX0, "trace", "(LNetLoft$Panel;II)V"⟩
abbrev cX0_clear : ByteArray := prog_2_method_3_code
def yX0_clear : MethodName := ⟨RX0, "clear", "()V"⟩
abbrev cX0_reach : ByteArray := prog_2_method_4_code
def yX0_reach : MethodName := ⟨RX0, "reach", "(II)V"⟩
abbrev cX0_reachFrom : ByteArray := prog_2_method_5_code
def yX0_reachFrom : MethodName := ⟨RX0, "reachFrom", "(LNetLoft$Panel;II)V"⟩
abbrev cX0_listReached : ByteArray := prog_2_method_6_code
def yX0_listReached : MethodName := ⟨RX0, "listReached", "(LNetLoft$Panel;)V"⟩
abbrev cX0_twines : ByteArray := prog_2_method_7_code
def yX0_twines : MethodName := ⟨RX0, "twines", "()I"⟩
abbrev cX0_tell : ByteArray := prog_2_method_8_code
def yX0_tell : MethodName := ⟨RX0, "tell", "(II)I"⟩
abbrev cX0_hasNeedle : ByteArray := prog_2_method_9_code
def yX0_hasNeedle : MethodName := ⟨RX0, "hasNeedle", "(LNetLoft$Panel;)Z"⟩
abbrev cX0_beginning : ByteArray := prog_2_method_10_code
def yX0_beginning : MethodName := ⟨RX0, "beginning", "()I"⟩
def RX1 : String := "NetLoft$Loads"
def TX1 : u_T := fun k => match k with
  | 0 => ("NetLoft$Loads", "lost", "J", false)
  | 1 => ("NetLoft$Loads", "foot", "J", false)
  | 2 => ("NetLoft$Loads", "upper", "[[J", true)
  | _ => ("NetLoft$Loads", "wholeSides", "[I", true)
def tyX1 : Nat → FieldType := fun k => match k with
  | 0 => .long
  | 1 => .long
  | 2 => .array (.array .long)
  | _ => .array .int
theorem nmX1 : ∀ a, a < 4 → ∀ b, b < 4 → a ≠ b → (TX1 a).2.1 ≠ (TX1 b).2.1 := by decide +kernel
theorem tyX1_ok : ∀ k, k < 4 → parseFieldDescriptor (TX1 k).2.2.1 = some (tyX1 k) := by decide +kernel
abbrev cX1_init : ByteArray := prog_3_method_1_code
def yX1_init : MethodName := ⟨RX1, "<init>", "()V"⟩
abbrev cX1_leadDown : ByteArray := prog_3_method_2_code
def yX1_leadDown : MethodName := ⟨RX1, "leadDown", "(LNetLoft$Panel;)V"⟩
abbrev cX1_countWholeSides : ByteArray := prog_3_method_3_code
def yX1_countWholeSides : MethodName := ⟨RX1, "countWholeSides", "(LNetLoft$Row;)V"⟩
abbrev cX1_lose : ByteArray := prog_3_method_4_code
def yX1_lose : MethodName := ⟨RX1, "lose", "(ILNetLoft$Row;)V"⟩
abbrev cX1_handOn : ByteArray := prog_3_method_5_code
def yX1_handOn : MethodName := ⟨RX1, "handOn", "(ILNetLoft$Row;)V"⟩
abbrev cX1_inAll : ByteArray := prog_3_method_6_code
def yX1_inAll : MethodName := ⟨RX1, "inAll", "(ILNetLoft$Row;)J"⟩
abbrev cX1_firstAbove : ByteArray := prog_3_method_7_code
def yX1_firstAbove : MethodName := ⟨RX1, "firstAbove", "(LNetLoft$Panel;)I"⟩
abbrev cX1_isAbove : ByteArray := prog_3_method_8_code
def yX1_isAbove : MethodName := ⟨RX1, "isAbove", "(JI)Z"⟩
abbrev cX1_term : ByteArray := prog_3_method_9_code
def yX1_term : MethodName := ⟨RX1, "term", "(JI)J"⟩
abbrev cX1_commonDivisor : ByteArray := prog_3_method_10_code
def yX1_commonDivisor : MethodName := ⟨RX1, "commonDivisor", "(JJ)J"⟩
def RX2 : String := "NetLoft$Panel"
def TX2 : u_T := fun k => match k with
  | 0 => ("NetLoft$Panel", "bar", "I", true)
  | 1 => ("NetLoft$Panel", "strength", "I", true)
  | 2 => ("NetLoft$Panel", "rope", "I", false)
  | 3 => ("NetLoft$Panel", "net", "I", false)
  | 4 => ("NetLoft$Panel", "rows", "[LNetLoft$Row;", true)
  | 5 => ("NetLoft$Panel", "rowCount", "I", false)
  | _ => ("NetLoft$Panel", "pulls", "[I", true)
def tyX2 : Nat → FieldType := fun k => match k with
  | 0 => .int
  | 1 => .int
  | 2 => .int
  | 3 => .int
  | 4 => .array (.object "NetLoft$Row")
  | 5 => .int
  | _ => .array .int
theorem nmX2 : ∀ a, a < 7 → ∀ b, b < 7 → a ≠ b → (TX2 a).2.1 ≠ (TX2 b).2.1 := by decide +kernel
theorem tyX2_ok : ∀ k, k < 7 → parseFieldDescriptor (TX2 k).2.2.1 = some (tyX2 k) := by decide +kernel
abbrev cX2_init : ByteArray := prog_4_method_1_code
def yX2_init : MethodName := ⟨RX2, "<init>", "(II)V"⟩
abbrev cX2_rowAt : ByteArray := prog_4_method_2_code
def yX2_rowAt : MethodName := ⟨RX2, "rowAt", "(I)LNetLoft$Row;"⟩
abbrev cX2_lastRow : ByteArray := prog_4_method_3_code
def yX2_lastRow : MethodName := ⟨RX2, "lastRow", "()LNetLoft$Row;"⟩
abbrev cX2_rowWith : ByteArray := prog_4_method_4_code
def yX2_rowWith : MethodName := ⟨RX2, "rowWith", "(II)LNetLoft$Row;"⟩
abbrev cX2_append : ByteArray := prog_4_method_5_code
def yX2_append : MethodName := ⟨RX2, "append", "(LNetLoft$Row;)V"⟩
abbrev cX2_appendCopies : ByteArray := prog_4_method_6_code
def yX2_appendCopies : MethodName := ⟨RX2, "appendCopies", "(LNetLoft$Panel;)V"⟩
abbrev cX2_hangRow : ByteArray := prog_4_method_7_code
def yX2_hangRow : MethodName := ⟨RX2, "hangRow", "()I"⟩
abbrev cX2_bearsShaping : ByteArray := prog_4_method_8_code
def yX2_bearsShaping : MethodName := ⟨RX2, "bearsShaping", "(III)Z"⟩
abbrev cX2_shapeRows : ByteArray := prog_4_method_9_code
def yX2_shapeRows : MethodName := ⟨RX2, "shapeRows", "(III)I"⟩
abbrev cX2_goneSidesAt : ByteArray := prog_4_method_10_code
def yX2_goneSidesAt : MethodName := ⟨RX2, "goneSidesAt", "(II)I"⟩
abbrev cX2_cutSidesAt : ByteArray := prog_4_method_11_code
def yX2_cutSidesAt : MethodName := ⟨RX2, "cutSidesAt", "(II)I"⟩
abbrev cX2_goneAbove : ByteArray := prog_4_method_12_code
def yX2_goneAbove : MethodName := ⟨RX2, "goneAbove", "(II)I"⟩
abbrev cX2_goneBelow : ByteArray := prog_4_method_13_code
def yX2_goneBelow : MethodName := ⟨RX2, "goneBelow", "(II)I"⟩
abbrev cX2_totalOf : ByteArray := prog_4_method_14_code
def yX2_totalOf : MethodName := ⟨RX2, "totalOf", "(I)I"⟩
def RX3 : String := "NetLoft$Row"
def TX3 : u_T := fun k => match k with
  | 0 => ("NetLoft$Row", "places", "I", false)
  | 1 => ("NetLoft$Row", "kinds", "[I", true)
  | 2 => ("NetLoft$Row", "gives", "[I", true)
  | 3 => ("NetLoft$Row", "needles", "[I", true)
  | 4 => ("NetLoft$Row", "firsts", "[I", true)
  | 5 => ("NetLoft$Row", "sides", "[I", true)
  | _ => ("NetLoft$Row", "gone", "[I", true)
def tyX3 : Nat → FieldType := fun k => match k with
  | 0 => .int
  | 1 => .array .int
  | 2 => .array .int
  | 3 => .array .int
  | 4 => .array .int
  | 5 => .array .int
  | _ => .array .int
theorem nmX3 : ∀ a, a < 7 → ∀ b, b < 7 → a ≠ b → (TX3 a).2.1 ≠ (TX3 b).2.1 := by decide +kernel
theorem tyX3_ok : ∀ k, k < 7 → parseFieldDescriptor (TX3 k).2.2.1 = some (tyX3 k) := by decide +kernel
abbrev cX3_init : ByteArray := prog_5_method_1_code
def yX3_init : MethodName := ⟨RX3, "<init>", "(I)V"⟩
abbrev cX3_copied : ByteArray := prog_5_method_2_code
def yX3_copied : MethodName := ⟨RX3, "copied", "()LNetLoft$Row;"⟩
abbrev cX3_has : ByteArray := prog_5_method_3_code
def yX3_has : MethodName := ⟨RX3, "has", "(I)Z"⟩
abbrev cX3_turn : ByteArray := prog_5_method_4_code
def yX3_turn : MethodName := ⟨RX3, "turn", "(II)V"⟩
abbrev cX3_turnEvery : ByteArray := prog_5_method_5_code
def yX3_turnEvery : MethodName := ⟨RX3, "turnEvery", "(II)V"⟩
abbrev cX3_givenInAll : ByteArray := prog_5_method_6_code
def yX3_givenInAll : MethodName := ⟨RX3, "givenInAll", "()I"⟩
abbrev cX3_giverBehind : ByteArray := prog_5_method_7_code
def yX3_giverBehind : MethodName := ⟨RX3, "giverBehind", "(I)I"⟩
abbrev cX3_hangIn : ByteArray := prog_5_method_8_code
def yX3_hangIn : MethodName := ⟨RX3, "hangIn", "(LNetLoft$Row;)V"⟩
abbrev cX3_hangInNothing : ByteArray := prog_5_method_9_code
def yX3_hangInNothing : MethodName := ⟨RX3, "hangInNothing", "()V"⟩
abbrev cX3_placeOfSide : ByteArray := prog_5_method_10_code
def yX3_placeOfSide : MethodName := ⟨RX3, "placeOfSide", "(II)I"⟩
abbrev cX3_hangsBy : ByteArray := prog_5_method_11_code
def yX3_hangsBy : MethodName := ⟨RX3, "hangsBy", "(II)Z"⟩
abbrev cX3_isGone : ByteArray := prog_5_method_12_code
def yX3_isGone : MethodName := ⟨RX3, "isGone", "(II)Z"⟩
abbrev cX3_sideIsGone : ByteArray := prog_5_method_13_code
def yX3_sideIsGone : MethodName := ⟨RX3, "sideIsGone", "(II)Z"⟩
abbrev cX3_isWhole : ByteArray := prog_5_method_14_code
def yX3_isWhole : MethodName := ⟨RX3, "isWhole", "(II)Z"⟩
abbrev cX3_setSide : ByteArray := prog_5_method_15_code
def yX3_setSide : MethodName := ⟨RX3, "setSide", "(IIZ)V"⟩
abbrev cX3_setSideTo : ByteArray := prog_5_method_16_code
def yX3_setSideTo : MethodName := ⟨RX3, "setSideTo", "(IIZ)V"⟩
abbrev cX3_countOver : ByteArray := prog_5_method_17_code
def yX3_countOver : MethodName := ⟨RX3, "countOver", "(I)I"⟩
abbrev cX3_shareOf : ByteArray := prog_5_method_18_code
def yX3_shareOf : MethodName := ⟨RX3, "shareOf", "(II)I"⟩
def RX4 : String := "NetLoft$Seam"
def TX4 : u_T := fun k => match k with
  | 0 => ("NetLoft$Seam", "size", "I", false)
  | _ => ("NetLoft$Seam", "takes", "[I", true)
def tyX4 : Nat → FieldType := fun k => match k with
  | 0 => .int
  | _ => .array .int
theorem nmX4 : ∀ a, a < 2 → ∀ b, b < 2 → a ≠ b → (TX4 a).2.1 ≠ (TX4 b).2.1 := by decide +kernel
theorem tyX4_ok : ∀ k, k < 2 → parseFieldDescriptor (TX4 k).2.2.1 = some (tyX4 k) := by decide +kernel
abbrev cX4_init : ByteArray := prog_6_method_1_code
def yX4_init : MethodName := ⟨RX4, "<init>", "()V"⟩
abbrev cX4_join : ByteArray := prog_6_method_2_code
def yX4_join : MethodName := ⟨RX4, "join", "(LNetLoft$Row;LNetLoft$Row;)V"⟩
abbrev cX4_spread : ByteArray := prog_6_method_3_code
def yX4_spread : MethodName := ⟨RX4, "spread", "(II)V"⟩
abbrev cX4_giveOneEach : ByteArray := prog_6_method_4_code
def yX4_giveOneEach : MethodName := ⟨RX4, "giveOneEach", "(LNetLoft$Row;)V"⟩
def RX5 : String := "NetLoft$Taper"
def TX5 : u_T := fun k => match k with
  | 0 => ("NetLoft$Taper", "length", "I", false)
  | 1 => ("NetLoft$Taper", "rows", "I", false)
  | _ => ("NetLoft$Taper", "takes", "I", false)
def tyX5 : Nat → FieldType := fun k => match k with
  | 0 => .int
  | 1 => .int
  | _ => .int
theorem nmX5 : ∀ a, a < 3 → ∀ b, b < 3 → a ≠ b → (TX5 a).2.1 ≠ (TX5 b).2.1 := by decide +kernel
theorem tyX5_ok : ∀ k, k < 3 → parseFieldDescriptor (TX5 k).2.2.1 = some (tyX5 k) := by decide +kernel
abbrev cX5_init : ByteArray := prog_7_method_1_code
def yX5_init : MethodName := ⟨RX5, "<init>", "()V"⟩
abbrev cX5_find : ByteArray := prog_7_method_2_code
def yX5_find : MethodName := ⟨RX5, "find", "(II)I"⟩
abbrev cX5_tell : ByteArray := prog_7_method_3_code
def yX5_tell : MethodName := ⟨RX5, "tell", "(I)I"⟩
def RX6 : String := "NetLoft$Way"
def TX6 : u_T := fun k => match k with
  | 0 => ("NetLoft$Way", "size", "I", false)
  | 1 => ("NetLoft$Way", "backwards", "[I", true)
  | 2 => ("NetLoft$Way", "trail", "[I", true)
  | _ => ("NetLoft$Way", "onTrail", "I", false)
def tyX6 : Nat → FieldType := fun k => match k with
  | 0 => .int
  | 1 => .array .int
  | 2 => .array .int
  | _ => .int
theorem nmX6 : ∀ a, a < 4 → ∀ b, b < 4 → a ≠ b → (TX6 a).2.1 ≠ (TX6 b).2.1 := by decide +kernel
theorem tyX6_ok : ∀ k, k < 4 → parseFieldDescriptor (TX6 k).2.2.1 = some (tyX6 k) := by decide +kernel
abbrev cX6_init : ByteArray := prog_8_method_1_code
def yX6_init : MethodName := ⟨RX6, "<init>", "()V"⟩
abbrev cX6_knotAt : ByteArray := prog_8_method_2_code
def yX6_knotAt : MethodName := ⟨RX6, "knotAt", "(I)I"⟩
abbrev cX6_walk : ByteArray := prog_8_method_3_code
def yX6_walk : MethodName := ⟨RX6, "walk", "(LNetLoft$Panel;I)V"⟩
abbrev cX6_goTo : ByteArray := prog_8_method_4_code
def yX6_goTo : MethodName := ⟨RX6, "goTo", "(I)V"⟩
abbrev cX6_goBackFrom : ByteArray := prog_8_method_5_code
def yX6_goBackFrom : MethodName := ⟨RX6, "goBackFrom", "(I)V"⟩
abbrev cX6_mendOneFrom : ByteArray := prog_8_method_6_code
def yX6_mendOneFrom : MethodName := ⟨RX6, "mendOneFrom", "(LNetLoft$Panel;II)I"⟩
abbrev cX6_makeWhole : ByteArray := prog_8_method_7_code
def yX6_makeWhole : MethodName := ⟨RX6, "makeWhole", "(LNetLoft$Row;II)V"⟩
def RX7 : String := "NetLoft"
def TX7 : u_T := fun k => match k with
  | 0 => ("NetLoft", "panels", "[LNetLoft$Panel;", true)
  | 1 => ("NetLoft", "panelCount", "I", false)
  | 2 => ("NetLoft", "partValues", "[I", true)
  | 3 => ("NetLoft", "partCount", "I", false)
  | 4 => ("NetLoft", "holeAtHand", "LNetLoft$Hole;", true)
  | 5 => ("NetLoft", "holeToMend", "LNetLoft$Hole;", true)
  | 6 => ("NetLoft", "wayAtHand", "LNetLoft$Way;", true)
  | 7 => ("NetLoft", "latestTaper", "LNetLoft$Taper;", true)
  | 8 => ("NetLoft", "latestSeam", "LNetLoft$Seam;", true)
  | _ => ("NetLoft", "loads", "LNetLoft$Loads;", true)
def tyX7 : Nat → FieldType := fun k => match k with
  | 0 => .array (.object "NetLoft$Panel")
  | 1 => .int
  | 2 => .array .int
  | 3 => .int
  | 4 => .object "NetLoft$Hole"
  | 5 => .object "NetLoft$Hole"
  | 6 => .object "NetLoft$Way"
  | 7 => .object "NetLoft$Taper"
  | 8 => .object "NetLoft$Seam"
  | _ => .object "NetLoft$Loads"
theorem nmX7 : ∀ a, a < 10 → ∀ b, b < 10 → a ≠ b → (TX7 a).2.1 ≠ (TX7 b).2.1 := by decide +kernel
theorem tyX7_ok : ∀ k, k < 10 → parseFieldDescriptor (TX7 k).2.2.1 = some (tyX7 k) := by decide +kernel
abbrev cX7_init : ByteArray := prog_1_method_1_code
def yX7_init : MethodName := ⟨RX7, "<init>", "()V"⟩
abbrev cX7_panel : ByteArray := prog_1_method_2_code
def yX7_panel : MethodName := ⟨RX7, "panel", "(III)I"⟩
abbrev cX7_row : ByteArray := prog_1_method_3_code
def yX7_row : MethodName := ⟨RX7, "row", "(I)I"⟩
abbrev cX7_kind : ByteArray := prog_1_method_4_code
def yX7_kind : MethodName := ⟨RX7, "kind", "(III)Z"⟩
abbrev cX7_shape : ByteArray := prog_1_method_5_code
def yX7_shape : MethodName := ⟨RX7, "shape", "(IIII)I"⟩
abbrev cX7_ahead : ByteArray := prog_1_method_6_code
def yX7_ahead : MethodName := ⟨RX7, "ahead", "(IIII)J"⟩
abbrev cX7_meshes : ByteArray := prog_1_method_7_code
def yX7_meshes : MethodName := ⟨RX7, "meshes", "(II)I"⟩
abbrev cX7_of : ByteArray := prog_1_method_8_code
def yX7_of : MethodName := ⟨RX7, "of", "(IIII)I"⟩
abbrev cX7_panelOf : ByteArray := prog_1_method_9_code
def yX7_panelOf : MethodName := ⟨RX7, "panelOf", "(II)I"⟩
abbrev cX7_count : ByteArray := prog_1_method_10_code
def yX7_count : MethodName := ⟨RX7, "count", "(I)I"⟩
abbrev cX7_side : ByteArray := prog_1_method_11_code
def yX7_side : MethodName := ⟨RX7, "side", "(IIIIZ)Z"⟩
abbrev cX7_cut : ByteArray := prog_1_method_12_code
def yX7_cut : MethodName := ⟨RX7, "cut", "(III)I"⟩
abbrev cX7_tear : ByteArray := prog_1_method_13_code
def yX7_tear : MethodName := ⟨RX7, "tear", "(II)Z"⟩
abbrev cX7_needle : ByteArray := prog_1_method_14_code
def yX7_needle : MethodName := ⟨RX7, "needle", "(IIIZ)Z"⟩
abbrev cX7_hole : ByteArray := prog_1_method_15_code
def yX7_hole : MethodName := ⟨RX7, "hole", "(III)I"⟩
abbrev cX7_edge : ByteArray := prog_1_method_16_code
def yX7_edge : MethodName := ⟨RX7, "edge", "(II)I"⟩
abbrev cX7_mend : ByteArray := prog_1_method_17_code
def yX7_mend : MethodName := ⟨RX7, "mend", "(III)I"⟩
abbrev cX7_way : ByteArray := prog_1_method_18_code
def yX7_way : MethodName := ⟨RX7, "way", "(I)I"⟩
abbrev cX7_taper : ByteArray := prog_1_method_19_code
def yX7_taper : MethodName := ⟨RX7, "taper", "(III)I"⟩
abbrev cX7_cycle : ByteArray := prog_1_method_20_code
def yX7_cycle : MethodName := ⟨RX7, "cycle", "(I)I"⟩
abbrev cX7_sew : ByteArray := prog_1_method_21_code
def yX7_sew : MethodName := ⟨RX7, "sew", "(II)I"⟩
abbrev cX7_match : ByteArray := prog_1_method_22_code
def yX7_match : MethodName := ⟨RX7, "match", "(I)I"⟩
abbrev cX7_hang : ByteArray := prog_1_method_23_code
def yX7_hang : MethodName := ⟨RX7, "hang", "(III)Z"⟩
abbrev cX7_parts : ByteArray := prog_1_method_24_code
def yX7_parts : MethodName := ⟨RX7, "parts", "(I)Z"⟩
abbrev cX7_part : ByteArray := prog_1_method_25_code
def yX7_part : MethodName := ⟨RX7, "part", "(II)Z"⟩
abbrev cX7_open : ByteArray := prog_1_method_26_code
def yX7_open : MethodName := ⟨RX7, "open", "(I)I"⟩
abbrev cX7_slips : ByteArray := prog_1_method_27_code
def yX7_slips : MethodName := ⟨RX7, "slips", "(II)I"⟩
abbrev cX7_pull : ByteArray := prog_1_method_28_code
def yX7_pull : MethodName := ⟨RX7, "pull", "(III)Z"⟩
abbrev cX7_load : ByteArray := prog_1_method_29_code
def yX7_load : MethodName := ⟨RX7, "load", "(IIII)J"⟩
abbrev cX7_sum : ByteArray := prog_1_method_30_code
def yX7_sum : MethodName := ⟨RX7, "sum", "(III)J"⟩
abbrev cX7_weak : ByteArray := prog_1_method_31_code
def yX7_weak : MethodName := ⟨RX7, "weak", "(I)I"⟩
abbrev cX7_within : ByteArray := prog_1_method_32_code
def yX7_within : MethodName := ⟨RX7, "within", "(III)Z"⟩
abbrev cX7_isRule : ByteArray := prog_1_method_33_code
def yX7_isRule : MethodName := ⟨RX7, "isRule", "(II)Z"⟩
abbrev cX7_shapedPlaces : ByteArray := prog_1_method_34_code
def yX7_shapedPlaces : MethodName := ⟨RX7, "shapedPlaces", "(JII)J"⟩
abbrev cX7_fitTogether : ByteArray := prog_1_method_35_code
def yX7_fitTogether : MethodName := ⟨RX7, "fitTogether", "(LNetLoft$Row;LNetLoft$Row;)Z"⟩
abbrev cX7_panelAt : ByteArray := prog_1_method_36_code
def yX7_panelAt : MethodName := ⟨RX7, "panelAt", "(I)LNetLoft$Panel;"⟩
abbrev cX7_keep : ByteArray := prog_1_method_37_code
def yX7_keep : MethodName := ⟨RX7, "keep", "(LNetLoft$Panel;)I"⟩
abbrev cX7_openingOf : ByteArray := prog_1_method_38_code
def yX7_openingOf : MethodName := ⟨RX7, "openingOf", "(LNetLoft$Panel;)I"⟩
def RX8 : String := "NetLoftModel"
def TX8 : u_T := fun k => match k with
  | 0 => ("NetLoftModel", "thrown", "I", false)
  | 1 => ("NetLoftModel", "panels", "I", false)
  | 2 => ("NetLoftModel", "rows", "[I", true)
  | 3 => ("NetLoftModel", "bar", "[I", true)
  | 4 => ("NetLoftModel", "strength", "[I", true)
  | 5 => ("NetLoftModel", "hangA", "[I", true)
  | 6 => ("NetLoftModel", "hangB", "[I", true)
  | 7 => ("NetLoftModel", "pulls", "[I", true)
  | 8 => ("NetLoftModel", "many", "[I", true)
  | 9 => ("NetLoftModel", "torn", "[Z", true)
  | 10 => ("NetLoftModel", "kind", "[I", true)
  | 11 => ("NetLoftModel", "gives", "[I", true)
  | 12 => ("NetLoftModel", "first", "[I", true)
  | 13 => ("NetLoftModel", "sides", "[I", true)
  | 14 => ("NetLoftModel", "gone", "[I", true)
  | 15 => ("NetLoftModel", "needle", "[Z", true)
  | 16 => ("NetLoftModel", "partMany", "I", false)
  | 17 => ("NetLoftModel", "parts", "[I", true)
  | 18 => ("NetLoftModel", "isIn", "[Z", true)
  | 19 => ("NetLoftModel", "waits", "[I", true)
  | 20 => ("NetLoftModel", "knots", "I", false)
  | 21 => ("NetLoftModel", "lost", "I", false)
  | 22 => ("NetLoftModel", "hasHole", "Z", false)
  | 23 => ("NetLoftModel", "holeKnots", "I", false)
  | 24 => ("NetLoftModel", "holeSides", "I", false)
  | 25 => ("NetLoftModel", "holeOdd", "I", false)
  | 26 => ("NetLoftModel", "holeKnot", "[I", true)
  | 27 => ("NetLoftModel", "holeIsOdd", "[Z", true)
  | 28 => ("NetLoftModel", "wayMany", "I", false)
  | 29 => ("NetLoftModel", "way", "[I", true)
  | 30 => ("NetLoftModel", "met", "[Z", true)
  | 31 => ("NetLoftModel", "taperRows", "I", false)
  | 32 => ("NetLoftModel", "taperTakes", "I", false)
  | 33 => ("NetLoftModel", "taperAll", "I", false)
  | 34 => ("NetLoftModel", "matches", "I", false)
  | 35 => ("NetLoftModel", "match", "[I", true)
  | 36 => ("NetLoftModel", "loads", "[J", true)
  | 37 => ("NetLoftModel", "atFoot", "J", false)
  | _ => ("NetLoftModel", "atLoss", "J", false)
def tyX8 : Nat → FieldType := fun k => match k with
  | 0 => .int
  | 1 => .int
  | 2 => .array .int
  | 3 => .array .int
  | 4 => .array .int
  | 5 => .array .int
  | 6 => .array .int
  | 7 => .array .int
  | 8 => .array .int
  | 9 => .array .boolean
  | 10 => .array .int
  | 11 => .array .int
  | 12 => .array .int
  | 13 => .array .int
  | 14 => .array .int
  | 15 => .array .boolean
  | 16 => .int
  | 17 => .array .int
  | 18 => .array .boolean
  | 19 => .array .int
  | 20 => .int
  | 21 => .int
  | 22 => .boolean
  | 23 => .int
  | 24 => .int
  | 25 => .int
  | 26 => .array .int
  | 27 => .array .boolean
  | 28 => .int
  | 29 => .array .int
  | 30 => .array .boolean
  | 31 => .int
  | 32 => .int
  | 33 => .int
  | 34 => .int
  | 35 => .array .int
  | 36 => .array .long
  | 37 => .long
  | _ => .long
theorem nmX8 : ∀ a, a < 39 → ∀ b, b < 39 → a ≠ b → (TX8 a).2.1 ≠ (TX8 b).2.1 := by decide +kernel
theorem tyX8_ok : ∀ k, k < 39 → parseFieldDescriptor (TX8 k).2.2.1 = some (tyX8 k) := by decide +kernel
abbrev cX8_init : ByteArray := prog_10_method_2_code
def yX8_init : MethodName := ⟨RX8, "<init>", "()V"⟩
abbrev cX8_isPanel : ByteArray := prog_10_method_3_code
def yX8_isPanel : MethodName := ⟨RX8, "isPanel", "(I)Z"⟩
abbrev cX8_isRow : ByteArray := prog_10_method_4_code
def yX8_isRow : MethodName := ⟨RX8, "isRow", "(II)Z"⟩
abbrev cX8_isKnot : ByteArray := prog_10_method_5_code
def yX8_isKnot : MethodName := ⟨RX8, "isKnot", "(III)Z"⟩
abbrev cX8_at : ByteArray := prog_10_method_6_code
def yX8_at : MethodName := ⟨RX8, "at", "(III)I"⟩
abbrev cX8_clears : ByteArray := prog_10_method_7_code
def yX8_clears : MethodName := ⟨RX8, "clears", "(II)V"⟩
abbrev cX8_newPanel : ByteArray := prog_10_method_8_code
def yX8_newPanel : MethodName := ⟨RX8, "newPanel", "(II)I"⟩
abbrev cX8_panel : ByteArray := prog_10_method_9_code
def yX8_panel : MethodName := ⟨RX8, "panel", "(III)I"⟩
abbrev cX8_given : ByteArray := prog_10_method_10_code
def yX8_given : MethodName := ⟨RX8, "given", "(II)I"⟩
abbrev cX8_hangs : ByteArray := prog_10_method_11_code
def yX8_hangs : MethodName := ⟨RX8, "hangs", "(II)V"⟩
abbrev cX8_row : ByteArray := prog_10_method_12_code
def yX8_row : MethodName := ⟨RX8, "row", "(I)I"⟩
abbrev cX8_becomes : ByteArray := prog_10_method_13_code
def yX8_becomes : MethodName := ⟨RX8, "becomes", "(II)V"⟩
abbrev cX8_kind : ByteArray := prog_10_method_14_code
def yX8_kind : MethodName := ⟨RX8, "kind", "(III)Z"⟩
abbrev cX8_shaped : ByteArray := prog_10_method_15_code
def yX8_shaped : MethodName := ⟨RX8, "shaped", "(JII)J"⟩
abbrev cX8_shape : ByteArray := prog_10_method_16_code
def yX8_shape : MethodName := ⟨RX8, "shape", "(IIII)I"⟩
abbrev cX8_ahead : ByteArray := prog_10_method_17_code
def yX8_ahead : MethodName := ⟨RX8, "ahead", "(IIII)J"⟩
abbrev cX8_meshes : ByteArray := prog_10_method_18_code
def yX8_meshes : MethodName := ⟨RX8, "meshes", "(II)I"⟩
abbrev cX8_hangsIn : ByteArray := prog_10_method_19_code
def yX8_hangsIn : MethodName := ⟨RX8, "hangsIn", "(III)Z"⟩
abbrev cX8_bits : ByteArray := prog_10_method_20_code
def yX8_bits : MethodName := ⟨RX8, "bits", "(I)I"⟩
abbrev cX8_below : ByteArray := prog_10_method_21_code
def yX8_below : MethodName := ⟨RX8, "below", "(IIII)I"⟩
abbrev cX8_goneAt : ByteArray := prog_10_method_22_code
def yX8_goneAt : MethodName := ⟨RX8, "goneAt", "(III)I"⟩
abbrev cX8_of : ByteArray := prog_10_method_23_code
def yX8_of : MethodName := ⟨RX8, "of", "(IIII)I"⟩
abbrev cX8_side : ByteArray := prog_10_method_24_code
def yX8_side : MethodName := ⟨RX8, "side", "(IIIIZ)Z"⟩
abbrev cX8_cut : ByteArray := prog_10_method_25_code
def yX8_cut : MethodName := ⟨RX8, "cut", "(III)I"⟩
abbrev cX8_tear : ByteArray := prog_10_method_26_code
def yX8_tear : MethodName := ⟨RX8, "tear", "(II)Z"⟩
abbrev cX8_needle : ByteArray := prog_10_method_27_code
def yX8_needle : MethodName := ⟨RX8, "needle", "(IIIZ)Z"⟩
abbrev cX8_spreads : ByteArray := prog_10_method_28_code
def yX8_spreads : MethodName := ⟨RX8, "spreads", "(III)V"⟩
abbrev cX8_oddOnes : ByteArray := prog_10_method_29_code
def yX8_oddOnes : MethodName := ⟨RX8, "oddOnes", "(I)I"⟩
abbrev cX8_hole : ByteArray := prog_10_method_30_code
def yX8_hole : MethodName := ⟨RX8, "hole", "(III)I"⟩
abbrev cX8_twines : ByteArray := prog_10_method_31_code
def yX8_twines : MethodName := ⟨RX8, "twines", "(II)I"⟩
abbrev cX8_edge : ByteArray := prog_10_method_32_code
def yX8_edge : MethodName := ⟨RX8, "edge", "(II)I"⟩
abbrev cX8_mend : ByteArray := prog_10_method_33_code
def yX8_mend : MethodName := ⟨RX8, "mend", "(III)I"⟩
abbrev cX8_ties : ByteArray := prog_10_method_34_code
def yX8_ties : MethodName := ⟨RX8, "ties", "(IIIZ)V"⟩
abbrev cX8_isGone : ByteArray := prog_10_method_35_code
def yX8_isGone : MethodName := ⟨RX8, "isGone", "(III)Z"⟩
abbrev cX8_goesOn : ByteArray := prog_10_method_36_code
def yX8_goesOn : MethodName := ⟨RX8, "goesOn", "(III)I"⟩
abbrev cX8_reaches : ByteArray := prog_10_method_37_code
def yX8_reaches : MethodName := ⟨RX8, "reaches", "(III)Z"⟩
abbrev cX8_way : ByteArray := prog_10_method_38_code
def yX8_way : MethodName := ⟨RX8, "way", "(I)I"⟩
abbrev cX8_taper : ByteArray := prog_10_method_39_code
def yX8_taper : MethodName := ⟨RX8, "taper", "(III)I"⟩
abbrev cX8_cycle : ByteArray := prog_10_method_40_code
def yX8_cycle : MethodName := ⟨RX8, "cycle", "(I)I"⟩
abbrev cX8_copies : ByteArray := prog_10_method_41_code
def yX8_copies : MethodName := ⟨RX8, "copies", "(IIII)V"⟩
abbrev cX8_sew : ByteArray := prog_10_method_42_code
def yX8_sew : MethodName := ⟨RX8, "sew", "(II)I"⟩
abbrev cX8_match : ByteArray := prog_10_method_43_code
def yX8_match : MethodName := ⟨RX8, "match", "(I)I"⟩
abbrev cX8_hang : ByteArray := prog_10_method_44_code
def yX8_hang : MethodName := ⟨RX8, "hang", "(III)Z"⟩
abbrev cX8_parts : ByteArray := prog_10_method_45_code
def yX8_parts : MethodName := ⟨RX8, "parts", "(I)Z"⟩
abbrev cX8_part : ByteArray := prog_10_method_46_code
def yX8_part : MethodName := ⟨RX8, "part", "(II)Z"⟩
abbrev cX8_open : ByteArray := prog_10_method_47_code
def yX8_open : MethodName := ⟨RX8, "open", "(I)I"⟩
abbrev cX8_slips : ByteArray := prog_10_method_48_code
def yX8_slips : MethodName := ⟨RX8, "slips", "(II)I"⟩
abbrev cX8_sixth : ByteArray := prog_10_method_49_code
def yX8_sixth : MethodName := ⟨RX8, "sixth", "(I)J"⟩
abbrev cX8_leads : ByteArray := prog_10_method_50_code
def yX8_leads : MethodName := ⟨RX8, "leads", "(I)V"⟩
abbrev cX8_lowest : ByteArray := prog_10_method_51_code
def yX8_lowest : MethodName := ⟨RX8, "lowest", "(JJI)J"⟩
abbrev cX8_pull : ByteArray := prog_10_method_52_code
def yX8_pull : MethodName := ⟨RX8, "pull", "(III)Z"⟩
abbrev cX8_load : ByteArray := prog_10_method_53_code
def yX8_load : MethodName := ⟨RX8, "load", "(IIII)J"⟩
abbrev cX8_sum : ByteArray := prog_10_method_54_code
def yX8_sum : MethodName := ⟨RX8, "sum", "(III)J"⟩
abbrev cX8_weak : ByteArray := prog_10_method_55_code
def yX8_weak : MethodName := ⟨RX8, "weak", "(I)I"⟩
abbrev cX8_count : ByteArray := prog_10_method_56_code
def yX8_count : MethodName := ⟨RX8, "count", "(I)I"⟩
abbrev cX8_panelOf : ByteArray := prog_10_method_57_code
def yX8_panelOf : MethodName := ⟨RX8, "panelOf", "(II)I"⟩
def RJ6 : String := "java/lang/Integer"
def TJ6 : u_T := fun k => match k with
  | _ => ("", "", "", false)
def tyJ6 : Nat → FieldType := fun k => match k with
  | _ => .int
theorem nmJ6 : ∀ a, a < 0 → ∀ b, b < 0 → a ≠ b → (TJ6 a).2.1 ≠ (TJ6 b).2.1 := by decide +kernel
theorem tyJ6_ok : ∀ k, k < 0 → parseFieldDescriptor (TJ6 k).2.2.1 = some (tyJ6 k) := by decide +kernel
abbrev cJ6_bitCount_0f7a4 : ByteArray := prog_11_method_49_code
def yJ6_bitCount_0f7a4 : MethodName := ⟨RJ6, "bitCount", "(I)I"⟩
def RJ9 : String := "java/lang/Math"
def TJ9 : u_T := fun k => match k with
  | _ => ("", "", "", false)
def tyJ9 : Nat → FieldType := fun k => match k with
  | _ => .int
theorem nmJ9 : ∀ a, a < 0 → ∀ b, b < 0 → a ≠ b → (TJ9 a).2.1 ≠ (TJ9 b).2.1 := by decide +kernel
theorem tyJ9_ok : ∀ k, k < 0 → parseFieldDescriptor (TJ9 k).2.2.1 = some (tyJ9 k) := by decide +kernel
abbrev cJ9_max_7cf53 : ByteArray := prog_12_method_65_code
def yJ9_max_7cf53 : MethodName := ⟨RJ9, "max", "(II)I"⟩
abbrev cJ9_min_7cf53 : ByteArray := prog_12_method_69_code
def yJ9_min_7cf53 : MethodName := ⟨RJ9, "min", "(II)I"⟩
def RJ10 : String := "java/lang/System"
def TJ10 : u_T := fun k => match k with
  | _ => ("", "", "", false)
def tyJ10 : Nat → FieldType := fun k => match k with
  | _ => .int
theorem nmJ10 : ∀ a, a < 0 → ∀ b, b < 0 → a ≠ b → (TJ10 a).2.1 ≠ (TJ10 b).2.1 := by decide +kernel
theorem tyJ10_ok : ∀ k, k < 0 → parseFieldDescriptor (TJ10 k).2.2.1 = some (tyJ10 k) := by decide +kernel
def RL : String := "NetLoftLaw"
abbrev cL_law : ByteArray := code
def yL_law : MethodName := ⟨RL, "law", "([I)Z"⟩
abbrev vwCl : List vw_C := [(RX0, TX0, 9), (RX1, TX1, 4), (RX2, TX2, 7), (RX3, TX3, 7), (RX4, TX4, 2), (RX5, TX5, 3), (RX6, TX6, 4), (RX7, TX7, 10), (RX8, TX8, 39)]
/-- a method: its name, bytes, number of locals, answer, own class, and the room that it is given: frames, cells, slots, words -/
abbrev nM : Type := MethodName × ByteArray × Nat × Option FieldType × Nat × Nat × Nat × Nat × Nat
def cNm (c : Nat) : String := match c with
  | 0 => RX0
  | 1 => RX1
  | 2 => RX2
  | 3 => RX3
  | 4 => RX4
  | 5 => RX5
  | 6 => RX6
  | 7 => RX7
  | 8 => RX8
  | 9 => RL
  | 10 => RJ6
  | _ => RJ9
def YX0_init : nM := (yX0_init, cX0_init, 1, none, 0, 1, 24, 1940, 20)
def YX0_trace : nM := (yX0_trace, cX0_trace, 5, none, 0, 5, 0, 0, 117)
def YX0_clear : nM := (yX0_clear, cX0_clear, 3, none, 0, 0, 0, 0, 0)
def YX0_reach : nM := (yX0_reach, cX0_reach, 3, none, 0, 1, 0, 0, 22)
def YX0_reachFrom : nM := (yX0_reachFrom, cX0_reachFrom, 7, none, 0, 3, 0, 0, 66)
def YX0_listReached : nM := (yX0_listReached, cX0_listReached, 6, none, 0, 4, 0, 0, 92)
def YX0_twines : nM := (yX0_twines, cX0_twines, 1, (some .int), 0, 0, 0, 0, 0)
def YX0_tell : nM := (yX0_tell, cX0_tell, 3, (some .int), 0, 1, 0, 0, 22)
def YX0_hasNeedle : nM := (yX0_hasNeedle, cX0_hasNeedle, 5, (some .boolean), 0, 3, 0, 0, 66)
def YX0_beginning : nM := (yX0_beginning, cX0_beginning, 2, (some .int), 0, 0, 0, 0, 0)
def YX1_init : nM := (yX1_init, cX1_init, 1, none, 1, 1, 22, 524, 20)
def YX1_leadDown : nM := (yX1_leadDown, cX1_leadDown, 5, none, 1, 2, 0, 0, 47)
def YX1_countWholeSides : nM := (yX1_countWholeSides, cX1_countWholeSides, 5, none, 1, 1, 0, 0, 22)
def YX1_lose : nM := (yX1_lose, cX1_lose, 4, none, 1, 0, 0, 0, 0)
def YX1_handOn : nM := (yX1_handOn, cX1_handOn, 6, none, 1, 1, 0, 0, 22)
def YX1_inAll : nM := (yX1_inAll, cX1_inAll, 6, (some .long), 1, 0, 0, 0, 0)
def YX1_firstAbove : nM := (yX1_firstAbove, cX1_firstAbove, 5, (some .int), 1, 2, 0, 0, 43)
def YX1_isAbove : nM := (yX1_isAbove, cX1_isAbove, 5, (some .boolean), 1, 0, 0, 0, 0)
def YX1_term : nM := (yX1_term, cX1_term, 5, (some .long), 1, 1, 0, 0, 30)
def YX1_commonDivisor : nM := (yX1_commonDivisor, cX1_commonDivisor, 11, (some .long), 1, 0, 0, 0, 0)
def YX2_init : nM := (yX2_init, cX2_init, 3, none, 2, 1, 2, 44, 20)
def YX2_rowAt : nM := (yX2_rowAt, cX2_rowAt, 2, (some (.object "NetLoft$Row")), 2, 1, 0, 0, 22)
def YX2_lastRow : nM := (yX2_lastRow, cX2_lastRow, 1, (some (.object "NetLoft$Row")), 2, 2, 0, 0, 43)
def YX2_rowWith : nM := (yX2_rowWith, cX2_rowWith, 4, (some (.object "NetLoft$Row")), 2, 2, 0, 0, 43)
def YX2_append : nM := (yX2_append, cX2_append, 2, none, 2, 0, 0, 0, 0)
def YX2_appendCopies : nM := (yX2_appendCopies, cX2_appendCopies, 4, none, 2, 3, 140, 3020, 81)
def YX2_hangRow : nM := (yX2_hangRow, cX2_hangRow, 4, (some .int), 2, 3, 7, 151, 63)
def YX2_bearsShaping : nM := (yX2_bearsShaping, cX2_bearsShaping, 8, (some .boolean), 2, 3, 0, 0, 63)
def YX2_shapeRows : nM := (yX2_shapeRows, cX2_shapeRows, 7, (some .int), 2, 4, 133, 2869, 86)
def YX2_goneSidesAt : nM := (yX2_goneSidesAt, cX2_goneSidesAt, 7, (some .int), 2, 3, 0, 0, 66)
def YX2_cutSidesAt : nM := (yX2_cutSidesAt, cX2_cutSidesAt, 7, (some .int), 2, 4, 0, 0, 88)
def YX2_goneAbove : nM := (yX2_goneAbove, cX2_goneAbove, 5, (some .int), 2, 3, 0, 0, 66)
def YX2_goneBelow : nM := (yX2_goneBelow, cX2_goneBelow, 5, (some .int), 2, 3, 0, 0, 66)
def YX2_totalOf : nM := (yX2_totalOf, cX2_totalOf, 5, (some .int), 2, 3, 0, 0, 65)
def YX3_init : nM := (yX3_init, cX3_init, 3, none, 3, 1, 6, 144, 20)
def YX3_copied : nM := (yX3_copied, cX3_copied, 2, (some (.object "NetLoft$Row")), 3, 2, 7, 151, 60)
def YX3_has : nM := (yX3_has, cX3_has, 2, (some .boolean), 3, 1, 0, 0, 22)
def YX3_turn : nM := (yX3_turn, cX3_turn, 3, none, 3, 0, 0, 0, 0)
def YX3_turnEvery : nM := (yX3_turnEvery, cX3_turnEvery, 5, none, 3, 1, 0, 0, 22)
def YX3_givenInAll : nM := (yX3_givenInAll, cX3_givenInAll, 3, (some .int), 3, 0, 0, 0, 0)
def YX3_giverBehind : nM := (yX3_giverBehind, cX3_giverBehind, 3, (some .int), 3, 0, 0, 0, 0)
def YX3_hangIn : nM := (yX3_hangIn, cX3_hangIn, 7, none, 3, 1, 0, 0, 22)
def YX3_hangInNothing : nM := (yX3_hangInNothing, cX3_hangInNothing, 2, none, 3, 0, 0, 0, 0)
def YX3_placeOfSide : nM := (yX3_placeOfSide, cX3_placeOfSide, 3, (some .int), 3, 1, 0, 0, 22)
def YX3_hangsBy : nM := (yX3_hangsBy, cX3_hangsBy, 3, (some .boolean), 3, 1, 0, 0, 22)
def YX3_isGone : nM := (yX3_isGone, cX3_isGone, 3, (some .boolean), 3, 2, 0, 0, 44)
def YX3_sideIsGone : nM := (yX3_sideIsGone, cX3_sideIsGone, 3, (some .boolean), 3, 0, 0, 0, 0)
def YX3_isWhole : nM := (yX3_isWhole, cX3_isWhole, 3, (some .boolean), 3, 3, 0, 0, 66)
def YX3_setSide : nM := (yX3_setSide, cX3_setSide, 4, none, 3, 0, 0, 0, 0)
def YX3_setSideTo : nM := (yX3_setSideTo, cX3_setSideTo, 4, none, 3, 2, 0, 0, 44)
def YX3_countOver : nM := (yX3_countOver, cX3_countOver, 4, (some .int), 3, 2, 0, 0, 42)
def YX3_shareOf : nM := (yX3_shareOf, cX3_shareOf, 3, (some .int), 3, 1, 0, 0, 20)
def YX4_init : nM := (yX4_init, cX4_init, 1, none, 4, 1, 1, 24, 20)
def YX4_join : nM := (yX4_join, cX4_join, 4, none, 4, 3, 0, 0, 66)
def YX4_spread : nM := (yX4_spread, cX4_spread, 4, none, 4, 1, 0, 0, 22)
def YX4_giveOneEach : nM := (yX4_giveOneEach, cX4_giveOneEach, 4, none, 4, 2, 0, 0, 43)
def YX5_init : nM := (yX5_init, cX5_init, 1, none, 5, 1, 0, 0, 20)
def YX5_find : nM := (yX5_find, cX5_find, 5, (some .int), 5, 0, 0, 0, 0)
def YX5_tell : nM := (yX5_tell, cX5_tell, 2, (some .int), 5, 0, 0, 0, 0)
def YX6_init : nM := (yX6_init, cX6_init, 1, none, 6, 1, 2, 2882, 20)
def YX6_knotAt : nM := (yX6_knotAt, cX6_knotAt, 2, (some .int), 6, 1, 0, 0, 22)
def YX6_walk : nM := (yX6_walk, cX6_walk, 6, none, 6, 5, 0, 0, 114)
def YX6_goTo : nM := (yX6_goTo, cX6_goTo, 2, none, 6, 0, 0, 0, 0)
def YX6_goBackFrom : nM := (yX6_goBackFrom, cX6_goBackFrom, 2, none, 6, 0, 0, 0, 0)
def YX6_mendOneFrom : nM := (yX6_mendOneFrom, cX6_mendOneFrom, 5, (some .int), 6, 4, 0, 0, 90)
def YX6_makeWhole : nM := (yX6_makeWhole, cX6_makeWhole, 3, none, 6, 3, 0, 0, 67)
def YX7_init : nM := (yX7_init, cX7_init, 1, none, 7, 2, 81, 7454, 40)
def YX7_panel : nM := (yX7_panel, cX7_panel, 5, (some .int), 7, 2, 10, 202, 42)
def YX7_row : nM := (yX7_row, cX7_row, 3, (some .int), 7, 4, 7, 151, 86)
def YX7_kind : nM := (yX7_kind, cX7_kind, 6, (some .boolean), 7, 3, 0, 0, 63)
def YX7_shape : nM := (yX7_shape, cX7_shape, 6, (some .int), 7, 5, 133, 2869, 112)
def YX7_ahead : nM := (yX7_ahead, cX7_ahead, 8, (some .long), 7, 2, 0, 0, 43)
def YX7_meshes : nM := (yX7_meshes, cX7_meshes, 5, (some .int), 7, 2, 0, 0, 43)
def YX7_of : nM := (yX7_of, cX7_of, 7, (some .int), 7, 4, 0, 0, 92)
def YX7_panelOf : nM := (yX7_panelOf, cX7_panelOf, 4, (some .int), 7, 4, 0, 0, 89)
def YX7_count : nM := (yX7_count, cX7_count, 2, (some .int), 7, 0, 0, 0, 0)
def YX7_side : nM := (yX7_side, cX7_side, 8, (some .boolean), 7, 3, 0, 0, 66)
def YX7_cut : nM := (yX7_cut, cX7_cut, 5, (some .int), 7, 5, 0, 0, 114)
def YX7_tear : nM := (yX7_tear, cX7_tear, 6, (some .boolean), 7, 2, 0, 0, 43)
def YX7_needle : nM := (yX7_needle, cX7_needle, 7, (some .boolean), 7, 3, 0, 0, 66)
def YX7_hole : nM := (yX7_hole, cX7_hole, 5, (some .int), 7, 6, 0, 0, 141)
def YX7_edge : nM := (yX7_edge, cX7_edge, 3, (some .int), 7, 2, 0, 0, 44)
def YX7_mend : nM := (yX7_mend, cX7_mend, 6, (some .int), 7, 6, 0, 0, 141)
def YX7_way : nM := (yX7_way, cX7_way, 2, (some .int), 7, 2, 0, 0, 43)
def YX7_taper : nM := (yX7_taper, cX7_taper, 4, (some .int), 7, 1, 0, 0, 24)
def YX7_cycle : nM := (yX7_cycle, cX7_cycle, 2, (some .int), 7, 1, 0, 0, 21)
def YX7_sew : nM := (yX7_sew, cX7_sew, 6, (some .int), 7, 4, 283, 6091, 104)
def YX7_match : nM := (yX7_match, cX7_match, 2, (some .int), 7, 1, 0, 0, 22)
def YX7_hang : nM := (yX7_hang, cX7_hang, 5, (some .boolean), 7, 2, 0, 0, 43)
def YX7_parts : nM := (yX7_parts, cX7_parts, 3, (some .boolean), 7, 1, 0, 0, 22)
def YX7_part : nM := (yX7_part, cX7_part, 3, (some .boolean), 7, 1, 0, 0, 22)
def YX7_open : nM := (yX7_open, cX7_open, 3, (some .int), 7, 2, 0, 0, 44)
def YX7_slips : nM := (yX7_slips, cX7_slips, 5, (some .int), 7, 2, 0, 0, 44)
def YX7_pull : nM := (yX7_pull, cX7_pull, 5, (some .boolean), 7, 3, 0, 0, 66)
def YX7_load : nM := (yX7_load, cX7_load, 6, (some .long), 7, 3, 0, 0, 71)
def YX7_sum : nM := (yX7_sum, cX7_sum, 5, (some .long), 7, 3, 0, 0, 71)
def YX7_weak : nM := (yX7_weak, cX7_weak, 3, (some .int), 7, 3, 0, 0, 71)
def YX7_within : nM := (yX7_within, cX7_within, 3, (some .boolean), 7, 0, 0, 0, 0)
def YX7_isRule : nM := (yX7_isRule, cX7_isRule, 2, (some .boolean), 7, 1, 0, 0, 22)
def YX7_shapedPlaces : nM := (yX7_shapedPlaces, cX7_shapedPlaces, 6, (some .long), 7, 0, 0, 0, 0)
def YX7_fitTogether : nM := (yX7_fitTogether, cX7_fitTogether, 2, (some .boolean), 7, 0, 0, 0, 0)
def YX7_panelAt : nM := (yX7_panelAt, cX7_panelAt, 2, (some (.object "NetLoft$Panel")), 7, 1, 0, 0, 22)
def YX7_keep : nM := (yX7_keep, cX7_keep, 2, (some .int), 7, 0, 0, 0, 0)
def YX7_openingOf : nM := (yX7_openingOf, cX7_openingOf, 3, (some .int), 7, 1, 0, 0, 22)
def YX8_init : nM := (yX8_init, cX8_init, 1, none, 8, 1, 23, 39593, 20)
def YX8_isPanel : nM := (yX8_isPanel, cX8_isPanel, 2, (some .boolean), 8, 0, 0, 0, 0)
def YX8_isRow : nM := (yX8_isRow, cX8_isRow, 3, (some .boolean), 8, 1, 0, 0, 21)
def YX8_isKnot : nM := (yX8_isKnot, cX8_isKnot, 4, (some .boolean), 8, 2, 0, 0, 43)
def YX8_at : nM := (yX8_at, cX8_at, 3, (some .int), 8, 0, 0, 0, 0)
def YX8_clears : nM := (yX8_clears, cX8_clears, 5, none, 8, 1, 0, 0, 22)
def YX8_newPanel : nM := (yX8_newPanel, cX8_newPanel, 5, (some .int), 8, 0, 0, 0, 0)
def YX8_panel : nM := (yX8_panel, cX8_panel, 5, (some .int), 8, 2, 0, 0, 46)
def YX8_given : nM := (yX8_given, cX8_given, 5, (some .int), 8, 1, 0, 0, 22)
def YX8_hangs : nM := (yX8_hangs, cX8_hangs, 10, none, 8, 1, 0, 0, 22)
def YX8_row : nM := (yX8_row, cX8_row, 5, (some .int), 8, 2, 0, 0, 51)
def YX8_becomes : nM := (yX8_becomes, cX8_becomes, 3, none, 8, 0, 0, 0, 0)
def YX8_kind : nM := (yX8_kind, cX8_kind, 4, (some .boolean), 8, 3, 0, 0, 66)
def YX8_shaped : nM := (yX8_shaped, cX8_shaped, 4, (some .long), 8, 0, 0, 0, 0)
def YX8_shape : nM := (yX8_shape, cX8_shape, 10, (some .int), 8, 3, 0, 0, 75)
def YX8_ahead : nM := (yX8_ahead, cX8_ahead, 8, (some .long), 8, 1, 0, 0, 23)
def YX8_meshes : nM := (yX8_meshes, cX8_meshes, 3, (some .int), 8, 2, 0, 0, 43)
def YX8_hangsIn : nM := (yX8_hangsIn, cX8_hangsIn, 4, (some .boolean), 8, 0, 0, 0, 0)
def YX8_bits : nM := (yX8_bits, cX8_bits, 3, (some .int), 8, 0, 0, 0, 0)
def YX8_below : nM := (yX8_below, cX8_below, 7, (some .int), 8, 1, 0, 0, 23)
def YX8_goneAt : nM := (yX8_goneAt, cX8_goneAt, 4, (some .int), 8, 2, 0, 0, 49)
def YX8_of : nM := (yX8_of, cX8_of, 6, (some .int), 8, 3, 0, 0, 72)
def YX8_side : nM := (yX8_side, cX8_side, 7, (some .boolean), 8, 3, 0, 0, 66)
def YX8_cut : nM := (yX8_cut, cX8_cut, 8, (some .int), 8, 3, 0, 0, 66)
def YX8_tear : nM := (yX8_tear, cX8_tear, 5, (some .boolean), 8, 2, 0, 0, 46)
def YX8_needle : nM := (yX8_needle, cX8_needle, 5, (some .boolean), 8, 3, 0, 0, 66)
def YX8_spreads : nM := (yX8_spreads, cX8_spreads, 11, none, 8, 3, 0, 0, 72)
def YX8_oddOnes : nM := (yX8_oddOnes, cX8_oddOnes, 4, (some .int), 8, 3, 0, 0, 72)
def YX8_hole : nM := (yX8_hole, cX8_hole, 5, (some .int), 8, 4, 0, 0, 102)
def YX8_twines : nM := (yX8_twines, cX8_twines, 2, (some .int), 8, 0, 0, 0, 0)
def YX8_edge : nM := (yX8_edge, cX8_edge, 3, (some .int), 8, 1, 0, 0, 21)
def YX8_mend : nM := (yX8_mend, cX8_mend, 8, (some .int), 8, 6, 0, 0, 153)
def YX8_ties : nM := (yX8_ties, cX8_ties, 9, none, 8, 1, 0, 0, 22)
def YX8_isGone : nM := (yX8_isGone, cX8_isGone, 6, (some .boolean), 8, 1, 0, 0, 23)
def YX8_goesOn : nM := (yX8_goesOn, cX8_goesOn, 9, (some .int), 8, 5, 0, 0, 125)
def YX8_reaches : nM := (yX8_reaches, cX8_reaches, 4, (some .boolean), 8, 4, 0, 0, 102)
def YX8_way : nM := (yX8_way, cX8_way, 2, (some .int), 8, 0, 0, 0, 0)
def YX8_taper : nM := (yX8_taper, cX8_taper, 6, (some .int), 8, 0, 0, 0, 0)
def YX8_cycle : nM := (yX8_cycle, cX8_cycle, 2, (some .int), 8, 0, 0, 0, 0)
def YX8_copies : nM := (yX8_copies, cX8_copies, 8, none, 8, 1, 0, 0, 22)
def YX8_sew : nM := (yX8_sew, cX8_sew, 13, (some .int), 8, 2, 0, 0, 51)
def YX8_match : nM := (yX8_match, cX8_match, 2, (some .int), 8, 0, 0, 0, 0)
def YX8_hang : nM := (yX8_hang, cX8_hang, 4, (some .boolean), 8, 1, 0, 0, 21)
def YX8_parts : nM := (yX8_parts, cX8_parts, 3, (some .boolean), 8, 0, 0, 0, 0)
def YX8_part : nM := (yX8_part, cX8_part, 3, (some .boolean), 8, 0, 0, 0, 0)
def YX8_open : nM := (yX8_open, cX8_open, 3, (some .int), 8, 1, 0, 0, 21)
def YX8_slips : nM := (yX8_slips, cX8_slips, 4, (some .int), 8, 2, 0, 0, 43)
def YX8_sixth : nM := (yX8_sixth, cX8_sixth, 4, (some .long), 8, 0, 0, 0, 0)
def YX8_leads : nM := (yX8_leads, cX8_leads, 10, none, 8, 2, 0, 0, 49)
def YX8_lowest : nM := (yX8_lowest, cX8_lowest, 11, (some .long), 8, 0, 0, 0, 0)
def YX8_pull : nM := (yX8_pull, cX8_pull, 4, (some .boolean), 8, 3, 0, 0, 66)
def YX8_load : nM := (yX8_load, cX8_load, 5, (some .long), 8, 3, 0, 0, 78)
def YX8_sum : nM := (yX8_sum, cX8_sum, 4, (some .long), 8, 3, 0, 0, 78)
def YX8_weak : nM := (yX8_weak, cX8_weak, 4, (some .int), 8, 3, 0, 0, 78)
def YX8_count : nM := (yX8_count, cX8_count, 2, (some .int), 8, 0, 0, 0, 0)
def YX8_panelOf : nM := (yX8_panelOf, cX8_panelOf, 10, (some .int), 8, 1, 0, 0, 22)
def YJ6_bitCount_0f7a4 : nM := (yJ6_bitCount_0f7a4, cJ6_bitCount_0f7a4, 1, (some .int), 10, 0, 0, 0, 0)
def YJ9_max_7cf53 : nM := (yJ9_max_7cf53, cJ9_max_7cf53, 2, (some .int), 11, 0, 0, 0, 0)
def YJ9_min_7cf53 : nM := (yJ9_min_7cf53, cJ9_min_7cf53, 2, (some .int), 11, 0, 0, 0, 0)
def YL_law : nM := (yL_law, cL_law, 4, (some .boolean), 9, 9, 600000, 7302250, 362)
end
section
/-! THE PLAIN WORLD: cells by their address; a walk's judgement over it; a row an instruction. -/
abbrev nPC : Type := (FieldType × vp_A) ⊕ ((Nat × List Value) ⊕ (Nat × (Nat → Int32)))
/-- class slots, first address of its own, next address, cells -/
abbrev nPH : Type := va_G × Nat × Nat × (Nat → Option nPC)
abbrev nAt (h : nPH) (a : Nat) : Option nPC := h.2.2.2 a
def nSt (h : nPH) (a : Nat) (e : nPC) : nPH := (h.1, h.2.1, h.2.2.1, fun q => if q = a then some e else h.2.2.2 q)
def nNw (h : nPH) (e : nPC) : nPH := (h.1, h.2.1, h.2.2.1 + 1, fun q => if q = h.2.2.1 then some e else h.2.2.2 q)
abbrev nOb (c : Nat) (fs : List Value) : nPC := .inr (.inl (c, fs))
abbrev nAi (n : Nat) (f : Nat → Int32) : nPC := .inl (.int, n, .inl f)
abbrev nAz (n : Nat) (f : Nat → Int32) : nPC := .inl (.boolean, n, .inl f)
abbrev nAl (n : Nat) (f : Nat → Int64) : nPC := .inl (.long, n, .inr (.inl f))
abbrev nAr (ty : FieldType) (n : Nat) (f : Nat → Option Nat) : nPC := .inl (ty, n, .inr (.inr (.inr (.inr f))))
def nRC (D : va_G) (U : State) (H : Heap) (a : Nat) : nPC → Prop
  | .inl x => ∃ cA : ClassId, H[a]? = some (vp_cell cA x.2) ∧ ArrOfT U cA x.1 ∧ va_RA U cA x.1
  | .inr (.inl o) => va_at D vwCl (a, .inr o) H
  | .inr (.inr x) => va_X a x.1 x.2 U H
def nRep (h : nPH) (U : State) (H : Heap) : Prop := H.size = h.2.2.1 ∧ ∀ (a : Nat) (e : nPC), h.2.2.2 a = some e → nRC h.1 U H a e
def nWs : List Cond := lw_tbl.filter goodWord
def nNL : List (String × Nat × MethodName × String) := [("NetLoft", 25, yX0_init, "NetLoft"), ("NetLoft", 35, yX6_init, "NetLoft"), ("NetLoft", 42, yX5_init, "NetLoft"), ("NetLoft", 49, yX4_init, "NetLoft"), ("NetLoft", 56, yX1_init, "NetLoft"), ("NetLoft$Panel", 37, yX7_within, "NetLoft"), ("NetLoft$Row", 43, yX7_within, "NetLoft"), ("NetLoft$Panel", 73, yX7_shapedPlaces, "NetLoft"), ("NetLoft$Hole", 64, yX7_within, "NetLoft"), ("NetLoft$Way", 22, yX7_within, "NetLoft"), ("NetLoft$Seam", 56, yX7_within, "NetLoft"), ("NetLoft$Loads", 83, yX7_within, "NetLoft")]
def nAOA (ty : FieldType) (U : State) : Prop := (Cond.arrayOver (.array ty)).before #[] U = true
def nK (D : va_G) (U : State) : Prop := va_K D vwCl [] U ∧ (∀ q ∈ nNL, va_Nw (.methodLinkNest q.1 q.2.1 q.2.2.1 q.2.2.2) U) ∧ va_AO "NetLoft$Panel" U ∧ va_AO "NetLoft$Row" U ∧ nAOA .int U ∧ nAOA .long U
/-- a method at its instruction i of n bytes, the next one at p2, in class o -/
def nD (y : nM) (pc : Nat) (i : Instr) (n p2 o : Nat) : Prop := decode y.2.1 pc = .ok (i, n) ∧ pc + n = p2 ∧ y.2.2.2.2.1 = o
abbrev nKp : Type := Room × (List Frame → Array Value → State → State → Prop)
def nCx (y : nM) (D : va_G) (p : Program) (s : State) (m : MethodId) (args : Array Value) (meth : Method) (c : Code) : Prop :=
  p.tables.exec = Jvm.exec ∧ c.code = y.2.1 ∧ c.maxLocals = y.2.2.1 ∧ s.vm.findClass (cNm y.2.2.2.2.1) = some m.cls ∧ (∀ w ∈ nWs, w.before args s = true) ∧ meth.sig.returnType = y.2.2.2.1 ∧ meth.locks = false ∧ meth.name = y.1.name ∧ nK D s
def nLs (lsA : Array Slot) (n : Nat) (ls : List (Option Value)) : Prop := lsA.size = n ∧ lv_wf lsA ∧ ∀ (i : Nat) (v : Value), ls[i]? = some (some v) → lsA[i]? = some (.val v)
def nG (y : nM) (κ : nKp) (cu su pc : Nat) (ls : List (Option Value)) (st : List Value) (h : nPH) : Prop :=
  ∀ (p : Program) (l : Launch) (e : Env) (s : State) (m : MethodId) (args : Array Value) (below : List Frame) (meth : Method) (c : Code) (H : Heap) (locs : List Loc) (lsA : Array Slot),
    nCx y h.1 p s m args meth c → nRep h s H → nLs lsA y.2.2.1 ls → (∀ q ∈ locs, h.2.1 ≤ q.base) → W p l e κ.1 s m args below meth c H locs cu su (κ.2 below args s) (F0 m pc lsA st)
def nRm (y : nM) : Room := { frames := y.2.2.2.2.2.1, cells := y.2.2.2.2.2.2.1, slots := y.2.2.2.2.2.2.2.1, locals := y.2.2.2.2.2.2.2.2 }
def nPc (h : nPH) (av : List Value) : Array Value → State → Prop := fun v U => v = av.toArray ∧ nRep h U U.heap ∧ nK h.1 U
def nQc (D : va_G) (B : Nat) (Post : Option Value → nPH → Prop) : Array Value → State → Outcome → State → Prop := fun _ _ o t => ∃ (v : Option Value) (h2 : nPH), o = .returned v ∧ Post v h2 ∧ h2.1 = D ∧ h2.2.1 = B ∧ nRep h2 t t.heap
def nWy (y : nM) : List Cond := Cond.code y.1 y.2.1 y.2.2.1 y.2.2.2.1 :: nWs
def nSp (y : nM) (av : List Value) (h : nPH) (Post : Option Value → nPH → Prop) : Prop :=
  ∀ l : Launch, Met l y.1 (nWy y) (nRm y) (nPc h av) (nQc h.1 h.2.1 Post) y.2.2.2.2.2.2.1 y.2.2.2.2.2.2.2.1 (fun q => h.2.1 ≤ q)
def nKy (y : nM) (D : va_G) (B : Nat) (Post : Option Value → nPH → Prop) : nKp := (nRm y, fun below a s => MQ below (nQc D B Post) a s y.2.2.2.2.2.2.1 y.2.2.2.2.2.2.2.1 (fun q => B ≤ q))
/-- read only, with an answer -/
def nRd (y : nM) (av : List Value) (h : nPH) (r : Value) : Prop := nSp y av h (fun v h2 => v = some r ∧ h2 = h)
def nKil (ls : List (Option Value)) (i : Nat) : List (Option Value) := match i with
  | 0 => ls
  | k + 1 => match ls[k]? with
    | some (some (.long _)) => ls.set k none
    | some (some (.double _)) => ls.set k none
    | _ => ls
def nPut (ls : List (Option Value)) (i : Nat) (v : Value) : List (Option Value) := (nKil ls i).set i (some v)
def nPu2 (ls : List (Option Value)) (i : Nat) (v : Value) : List (Option Value) := ((nKil ls i).set i (some v)).set (i + 1) none
def nAs (ls : List (Option Value)) : List (Nat × Value) := ls.zipIdx.filterMap (fun q => q.1.map (fun v => (q.2, v)))
theorem nAs_mem {ls : List (Option Value)} {i : Nat} {v : Value} : (i, v) ∈ nAs ls ↔ ls[i]? = some (some v) := by
  unfold nAs
  rw [List.mem_filterMap]
  constructor
  · rintro ⟨⟨o, j⟩, hm, he⟩
    rw [List.mem_zipIdx_iff_getElem?] at hm
    cases o with
    | none => simp at he
    | some x =>
      simp at he
      obtain ⟨rfl, rfl⟩ := he
      simpa using hm
  · intro h
    exact ⟨(some v, i), by rw [List.mem_zipIdx_iff_getElem?]; simpa using h, rfl⟩
theorem nLs_has {lsA : Array Slot} {n : Nat} {ls : List (Option Value)} (h : nLs lsA n ls) : lv_has lsA n (nAs ls) := ⟨h.1, h.2.1, fun q hq => h.2.2 q.1 q.2 (nAs_mem.mp hq)⟩
theorem nKil_at {ls : List (Option Value)} {i j : Nat} {v : Value} (h : (nKil ls i)[j]? = some (some v)) : ls[j]? = some (some v) ∧ ¬ (j + 1 = i ∧ v.category = 2) := by
  unfold nKil at h
  cases i with
  | zero => exact ⟨h, fun q => by omega⟩
  | succ k =>
    simp only at h
    have key : ∀ (x : Value), ls[k]? = some (some x) → (x.category = 2 → False) → (ls[j]? = some (some v)) → ¬ (j + 1 = k + 1 ∧ v.category = 2) := by
      intro x hx hc hj q
      have : j = k := by omega
      subst this
      rw [hx] at hj
      cases hj
      exact hc q.2
    split at h
    · rename_i x hx
      by_cases hjk : j = k
      · subst hjk
        rw [List.getElem?_set] at h
        simp at h
      · rw [List.getElem?_set_ne (fun e => hjk e.symm)] at h
        exact ⟨h, fun q => hjk (by omega)⟩
    · rename_i x hx
      by_cases hjk : j = k
      · subst hjk
        rw [List.getElem?_set] at h
        simp at h
      · rw [List.getElem?_set_ne (fun e => hjk e.symm)] at h
        exact ⟨h, fun q => hjk (by omega)⟩
    · rename_i h1 h2
      refine ⟨h, fun q => ?_⟩
      have : j = k := by omega
      subst this
      cases v with
      | long x => exact h1 x h
      | double x => exact h2 x h
      | _ => simp [Value.category] at q
theorem nPut_at {ls : List (Option Value)} {i j : Nat} {v w : Value} (h : (nPut ls i v)[j]? = some (some w)) : (j = i ∧ w = v) ∨ (j ≠ i ∧ ls[j]? = some (some w) ∧ ¬ (j + 1 = i ∧ w.category = 2)) := by
  unfold nPut at h
  by_cases hj : j = i
  · subst hj
    rw [List.getElem?_set] at h
    simp only [if_true] at h
    split at h
    · cases h; exact Or.inl ⟨rfl, rfl⟩
    · cases h
  · rw [List.getElem?_set_ne (fun e => hj e.symm)] at h
    exact Or.inr ⟨hj, nKil_at h⟩
theorem nPu2_at {ls : List (Option Value)} {i j : Nat} {v w : Value} (h : (nPu2 ls i v)[j]? = some (some w)) : (j = i ∧ w = v) ∨ (j ≠ i ∧ j ≠ i + 1 ∧ ls[j]? = some (some w) ∧ ¬ (j + 1 = i ∧ w.category = 2)) := by
  unfold nPu2 at h
  by_cases hj : j = i + 1
  · subst hj
    rw [List.getElem?_set] at h
    simp at h
  · rw [List.getElem?_set_ne (fun e => hj e.symm)] at h
    rcases nPut_at (show (nPut ls i v)[j]? = some (some w) from h) with h1 | h1
    · exact Or.inl h1
    · exact Or.inr ⟨h1.1, hj, h1.2⟩
theorem nLs_put {lsA : Array Slot} {n i : Nat} {v : Value} {ls : List (Option Value)} (h : lv_has lsA n ((i, v) :: (nAs ls).filter (fun q => !(q.1 == i) && !(q.1 + 1 == i && q.2.category == 2)))) : nLs lsA n (nPut ls i v) := by
  refine ⟨h.1, h.2.1, fun j w hj => ?_⟩
  rcases nPut_at hj with ⟨rfl, rfl⟩ | ⟨h1, h2, h3⟩
  · exact h.2.2 (_, _) List.mem_cons_self
  · refine h.2.2 (j, w) (List.mem_cons_of_mem _ (List.mem_filter.mpr ⟨nAs_mem.mpr h2, ?_⟩))
    have h4 : (j == i) = false := by simpa using h1
    by_cases q : j + 1 = i
    · have : ¬ w.category = 2 := fun e => h3 ⟨q, e⟩
      simp [h1, this]
    · simp [h1, q]
theorem nLs_pu2 {lsA : Array Slot} {n i : Nat} {v : Value} {ls : List (Option Value)} (h : lv_has lsA n ((i, v) :: (nAs ls).filter (fun q => !(q.1 == i) && (!(q.1 == i + 1) && !(q.1 + 1 == i && q.2.category == 2))))) : nLs lsA n (nPu2 ls i v) := by
  refine ⟨h.1, h.2.1, fun j w hj => ?_⟩
  rcases nPu2_at hj with ⟨rfl, rfl⟩ | ⟨h1, h0, h2, h3⟩
  · exact h.2.2 (_, _) List.mem_cons_self
  · refine h.2.2 (j, w) (List.mem_cons_of_mem _ (List.mem_filter.mpr ⟨nAs_mem.mpr h2, ?_⟩))
    by_cases q : j + 1 = i
    · have : ¬ w.category = 2 := fun e => h3 ⟨q, e⟩
      simp [h1, h0, this]
    · simp [h1, h0, q]
def nSub : List (Option Value) → List (Option Value) → Prop
  | [], _ => True
  | none :: t, u => nSub t u.tail
  | some v :: t, u => u.head? = some (some v) ∧ nSub t u.tail
theorem nSub_at : ∀ {t u : List (Option Value)}, nSub t u → ∀ (i : Nat) (v : Value), t[i]? = some (some v) → u[i]? = some (some v)
  | [], _, _, i, v, h => by simp at h
  | none :: t, u, hs, 0, v, h => by simp at h
  | none :: t, u, hs, i + 1, v, h => by
    have := nSub_at (t := t) (u := u.tail) hs i v (by simpa using h)
    cases u with
    | nil => simp at this
    | cons a u => simpa using this
  | some x :: t, u, hs, 0, v, h => by
    simp at h
    subst h
    cases u with
    | nil => simp [nSub] at hs
    | cons a u => simpa using hs.1
  | some x :: t, u, hs, i + 1, v, h => by
    have := nSub_at (t := t) (u := u.tail) hs.2 i v (by simpa using h)
    cases u with
    | nil => simp at this
    | cons a u => simpa using this
section NG
variable {y : nM} {κ : nKp} {cu su pc p2 o : Nat} {ls : List (Option Value)} {st : List Value} {h : nPH}
theorem nG.sub {ls2 : List (Option Value)} (hs : nSub ls2 ls) (k : nG y κ cu su pc ls2 st h) : nG y κ cu su pc ls st h :=
  fun p l e s m args below meth c H locs lsA C R L F => k p l e s m args below meth c H locs lsA C R ⟨L.1, L.2.1, fun i v hi => L.2.2 i v (nSub_at hs i v hi)⟩ F
theorem nG.eq {ls2 : List (Option Value)} {st2 : List Value} {h2 : nPH} {cu2 su2 : Nat} (e1 : ls = ls2) (e2 : st = st2) (e3 : h = h2) (e4 : cu = cu2) (e5 : su = su2) (k : nG y κ cu2 su2 pc ls2 st2 h2) : nG y κ cu su pc ls st h := by subst e1; subst e2; subst e3; subst e4; subst e5; exact k
theorem nG.wide {cu2 su2 : Nat} (e4 : cu ≤ cu2) (e5 : su ≤ su2) (k : nG y κ cu2 su2 pc ls st h) : nG y κ cu su pc ls st h :=
  fun p l e s m args below meth c H locs lsA C R L F => W.widen e4 e5 (k p l e s m args below meth c H locs lsA C R L F)
theorem x_iconst {n : Int} {v : Int32} (hv : Int32.ofInt n = v) (hd : nD y pc (.iconst n) 1 p2 o) (k : nG y κ cu su p2 ls (.int v :: st) h) : nG y κ cu su pc ls (st) h := by
  intro p l e s m args below meth c H locs lsA C R L F
  obtain ⟨hdg, rfl, -⟩ := hd
  exact lv_iconst C.1 C.2.1 hdg hv (k p l e s m args below meth c H locs lsA C R L F)
theorem x_bipush {n : Int} {v : Int32} (hv : (Int8.ofInt n).toInt32 = v) (hd : nD y pc (.bipush n) 2 p2 o) (k : nG y κ cu su p2 ls (.int v :: st) h) : nG y κ cu su pc ls (st) h := by
  intro p l e s m args below meth c H locs lsA C R L F
  obtain ⟨hdg, rfl, -⟩ := hd
  exact lv_bipush C.1 C.2.1 hdg hv (k p l e s m args below meth c H locs lsA C R L F)
theorem x_sipush {n : Int} {v : Int32} (hv : (Int16.ofInt n).toInt32 = v) (hd : nD y pc (.sipush n) 3 p2 o) (k : nG y κ cu su p2 ls (.int v :: st) h) : nG y κ cu su pc ls (st) h := by
  intro p l e s m args below meth c H locs lsA C R L F
  obtain ⟨hdg, rfl, -⟩ := hd
  exact lv_sipush C.1 C.2.1 hdg hv (k p l e s m args below meth c H locs lsA C R L F)
theorem x_lconst {n : Fin 2} {v : Int64} (hv : Int64.ofNat (n : Nat) = v) (hd : nD y pc (.lconst n) 1 p2 o) (k : nG y κ cu su p2 ls (.long v :: st) h) : nG y κ cu su pc ls (st) h := by
  intro p l e s m args below meth c H locs lsA C R L F
  obtain ⟨hdg, rfl, -⟩ := hd
  exact lv_lconst C.1 C.2.1 hdg hv (k p l e s m args below meth c H locs lsA C R L F)
theorem x_null (hd : nD y pc .aconst_null 1 p2 o) (k : nG y κ cu su p2 ls (.null :: st) h) : nG y κ cu su pc ls (st) h := by
  intro p l e s m args below meth c H locs lsA C R L F
  obtain ⟨hdg, rfl, -⟩ := hd
  exact lv_null C.1 C.2.1 hdg (k p l e s m args below meth c H locs lsA C R L F)
theorem x_iload_n {x : Int32} {i : Fin 4} (hl : ls[i.val]? = some (some (.int x))) (hd : nD y pc (.iload_n i) 1 p2 o) (k : nG y κ cu su p2 ls (.int x :: st) h) : nG y κ cu su pc ls (st) h := by
  intro p l e s m args below meth c H locs lsA C R L F
  obtain ⟨hdg, rfl, -⟩ := hd
  exact lv_iload_n C.1 C.2.1 hdg rfl (L.2.2 _ _ hl) (k p l e s m args below meth c H locs lsA C R L F)
theorem x_iload {x : Int32} {i : Nat} (hl : ls[i]? = some (some (.int x))) (hd : nD y pc (.iload i) 2 p2 o) (k : nG y κ cu su p2 ls (.int x :: st) h) : nG y κ cu su pc ls (st) h := by
  intro p l e s m args below meth c H locs lsA C R L F
  obtain ⟨hdg, rfl, -⟩ := hd
  exact lv_iload C.1 C.2.1 hdg (L.2.2 _ _ hl) (k p l e s m args below meth c H locs lsA C R L F)
theorem x_lload_n {x : Int64} {i : Fin 4} (hl : ls[i.val]? = some (some (.long x))) (hd : nD y pc (.lload_n i) 1 p2 o) (k : nG y κ cu su p2 ls (.long x :: st) h) : nG y κ cu su pc ls (st) h := by
  intro p l e s m args below meth c H locs lsA C R L F
  obtain ⟨hdg, rfl, -⟩ := hd
  exact lv_lload_n C.1 C.2.1 hdg rfl (L.2.2 _ _ hl) (k p l e s m args below meth c H locs lsA C R L F)
theorem x_lload {x : Int64} {i : Nat} (hl : ls[i]? = some (some (.long x))) (hd : nD y pc (.lload i) 2 p2 o) (k : nG y κ cu su p2 ls (.long x :: st) h) : nG y κ cu su pc ls (st) h := by
  intro p l e s m args below meth c H locs lsA C R L F
  obtain ⟨hdg, rfl, -⟩ := hd
  exact lv_lload C.1 C.2.1 hdg (L.2.2 _ _ hl) (k p l e s m args below meth c H locs lsA C R L F)
theorem x_aload_n {x : Nat} {i : Fin 4} (hl : ls[i.val]? = some (some (.ref x))) (hd : nD y pc (.aload_n i) 1 p2 o) (k : nG y κ cu su p2 ls (.ref x :: st) h) : nG y κ cu su pc ls (st) h := by
  intro p l e s m args below meth c H locs lsA C R L F
  obtain ⟨hdg, rfl, -⟩ := hd
  exact lv_aload_n C.1 C.2.1 hdg rfl (L.2.2 _ _ hl) (k p l e s m args below meth c H locs lsA C R L F)
theorem x_aload {x : Nat} {i : Nat} (hl : ls[i]? = some (some (.ref x))) (hd : nD y pc (.aload i) 2 p2 o) (k : nG y κ cu su p2 ls (.ref x :: st) h) : nG y κ cu su pc ls (st) h := by
  intro p l e s m args below meth c H locs lsA C R L F
  obtain ⟨hdg, rfl, -⟩ := hd
  exact lv_aload C.1 C.2.1 hdg (L.2.2 _ _ hl) (k p l e s m args below meth c H locs lsA C R L F)
theorem x_aload_nN {i : Fin 4} (hl : ls[i.val]? = some (some (.null))) (hd : nD y pc (.aload_n i) 1 p2 o) (k : nG y κ cu su p2 ls (.null :: st) h) : nG y κ cu su pc ls (st) h := by
  intro p l e s m args below meth c H locs lsA C R L F
  obtain ⟨hdg, rfl, -⟩ := hd
  exact lv_aload_nN C.1 C.2.1 hdg rfl (L.2.2 _ _ hl) (k p l e s m args below meth c H locs lsA C R L F)
theorem x_aloadN {i : Nat} (hl : ls[i]? = some (some (.null))) (hd : nD y pc (.aload i) 2 p2 o) (k : nG y κ cu su p2 ls (.null :: st) h) : nG y κ cu su pc ls (st) h := by
  intro p l e s m args below meth c H locs lsA C R L F
  obtain ⟨hdg, rfl, -⟩ := hd
  exact lv_aloadN C.1 C.2.1 hdg (L.2.2 _ _ hl) (k p l e s m args below meth c H locs lsA C R L F)
theorem x_iadd {a b : Int32} (hd : nD y pc .iadd 1 p2 o) (k : nG y κ cu su p2 ls (.int (a + b) :: st) h) : nG y κ cu su pc ls (.int b :: .int a :: st) h := by
  intro p l e s m args below meth c H locs lsA C R L F
  obtain ⟨hdg, rfl, -⟩ := hd
  exact lv_iadd C.1 C.2.1 hdg (k p l e s m args below meth c H locs lsA C R L F)
theorem x_isub {a b : Int32} (hd : nD y pc .isub 1 p2 o) (k : nG y κ cu su p2 ls (.int (a - b) :: st) h) : nG y κ cu su pc ls (.int b :: .int a :: st) h := by
  intro p l e s m args below meth c H locs lsA C R L F
  obtain ⟨hdg, rfl, -⟩ := hd
  exact lv_isub C.1 C.2.1 hdg (k p l e s m args below meth c H locs lsA C R L F)
theorem x_imul {a b : Int32} (hd : nD y pc .imul 1 p2 o) (k : nG y κ cu su p2 ls (.int (a * b) :: st) h) : nG y κ cu su pc ls (.int b :: .int a :: st) h := by
  intro p l e s m args below meth c H locs lsA C R L F
  obtain ⟨hdg, rfl, -⟩ := hd
  exact lv_imul C.1 C.2.1 hdg (k p l e s m args below meth c H locs lsA C R L F)
theorem x_iand {a b : Int32} (hd : nD y pc .iand 1 p2 o) (k : nG y κ cu su p2 ls (.int (a &&& b) :: st) h) : nG y κ cu su pc ls (.int b :: .int a :: st) h := by
  intro p l e s m args below meth c H locs lsA C R L F
  obtain ⟨hdg, rfl, -⟩ := hd
  exact lv_iand C.1 C.2.1 hdg (k p l e s m args below meth c H locs lsA C R L F)
theorem x_ior {a b : Int32} (hd : nD y pc .ior 1 p2 o) (k : nG y κ cu su p2 ls (.int (a ||| b) :: st) h) : nG y κ cu su pc ls (.int b :: .int a :: st) h := by
  intro p l e s m args below meth c H locs lsA C R L F
  obtain ⟨hdg, rfl, -⟩ := hd
  exact lv_ior C.1 C.2.1 hdg (k p l e s m args below meth c H locs lsA C R L F)
theorem x_ixor {a b : Int32} (hd : nD y pc .ixor 1 p2 o) (k : nG y κ cu su p2 ls (.int (a ^^^ b) :: st) h) : nG y κ cu su pc ls (.int b :: .int a :: st) h := by
  intro p l e s m args below meth c H locs lsA C R L F
  obtain ⟨hdg, rfl, -⟩ := hd
  exact lv_ixor C.1 C.2.1 hdg (k p l e s m args below meth c H locs lsA C R L F)
theorem x_ishl {a b : Int32} (hd : nD y pc .ishl 1 p2 o) (k : nG y κ cu su p2 ls (.int (a <<< (b &&& 31)) :: st) h) : nG y κ cu su pc ls (.int b :: .int a :: st) h := by
  intro p l e s m args below meth c H locs lsA C R L F
  obtain ⟨hdg, rfl, -⟩ := hd
  exact lv_ishl C.1 C.2.1 hdg (k p l e s m args below meth c H locs lsA C R L F)
theorem x_ishr {a b : Int32} (hd : nD y pc .ishr 1 p2 o) (k : nG y κ cu su p2 ls (.int (a >>> (b &&& 31)) :: st) h) : nG y κ cu su pc ls (.int b :: .int a :: st) h := by
  intro p l e s m args below meth c H locs lsA C R L F
  obtain ⟨hdg, rfl, -⟩ := hd
  exact lv_ishr C.1 C.2.1 hdg (k p l e s m args below meth c H locs lsA C R L F)
theorem x_iushr {a b : Int32} (hd : nD y pc .iushr 1 p2 o) (k : nG y κ cu su p2 ls (.int ((a.toUInt32 >>> (b.toUInt32 &&& Int32.toUInt32 31)).toInt32) :: st) h) : nG y κ cu su pc ls (.int b :: .int a :: st) h := by
  intro p l e s m args below meth c H locs lsA C R L F
  obtain ⟨hdg, rfl, -⟩ := hd
  exact lv_iushr C.1 C.2.1 hdg rfl (k p l e s m args below meth c H locs lsA C R L F)
theorem x_idiv {a b : Int32} (hne : ¬ b = 0) (hd : nD y pc .idiv 1 p2 o) (k : nG y κ cu su p2 ls (.int (a / b) :: st) h) : nG y κ cu su pc ls (.int b :: .int a :: st) h := by
  intro p l e s m args below meth c H locs lsA C R L F
  obtain ⟨hdg, rfl, -⟩ := hd
  exact lv_idiv C.1 C.2.1 hdg hne (k p l e s m args below meth c H locs lsA C R L F)
theorem x_irem {a b : Int32} (hne : ¬ b = 0) (hd : nD y pc .irem 1 p2 o) (k : nG y κ cu su p2 ls (.int (a - a / b * b) :: st) h) : nG y κ cu su pc ls (.int b :: .int a :: st) h := by
  intro p l e s m args below meth c H locs lsA C R L F
  obtain ⟨hdg, rfl, -⟩ := hd
  exact lv_irem C.1 C.2.1 hdg hne (k p l e s m args below meth c H locs lsA C R L F)
theorem x_ladd {a b : Int64} (hd : nD y pc .ladd 1 p2 o) (k : nG y κ cu su p2 ls (.long (a + b) :: st) h) : nG y κ cu su pc ls (.long b :: .long a :: st) h := by
  intro p l e s m args below meth c H locs lsA C R L F
  obtain ⟨hdg, rfl, -⟩ := hd
  exact lv_ladd C.1 C.2.1 hdg (k p l e s m args below meth c H locs lsA C R L F)
theorem x_lsub {a b : Int64} (hd : nD y pc .lsub 1 p2 o) (k : nG y κ cu su p2 ls (.long (a - b) :: st) h) : nG y κ cu su pc ls (.long b :: .long a :: st) h := by
  intro p l e s m args below meth c H locs lsA C R L F
  obtain ⟨hdg, rfl, -⟩ := hd
  exact lv_lsub C.1 C.2.1 hdg (k p l e s m args below meth c H locs lsA C R L F)
theorem x_lmul {a b : Int64} (hd : nD y pc .lmul 1 p2 o) (k : nG y κ cu su p2 ls (.long (a * b) :: st) h) : nG y κ cu su pc ls (.long b :: .long a :: st) h := by
  intro p l e s m args below meth c H locs lsA C R L F
  obtain ⟨hdg, rfl, -⟩ := hd
  exact lv_lmul C.1 C.2.1 hdg (k p l e s m args below meth c H locs lsA C R L F)
theorem x_ldiv {a b : Int64} (hne : ¬ b = 0) (hd : nD y pc .ldiv 1 p2 o) (k : nG y κ cu su p2 ls (.long (a / b) :: st) h) : nG y κ cu su pc ls (.long b :: .long a :: st) h := by
  intro p l e s m args below meth c H locs lsA C R L F
  obtain ⟨hdg, rfl, -⟩ := hd
  exact lv_ldiv C.1 C.2.1 hdg hne (k p l e s m args below meth c H locs lsA C R L F)
theorem x_lrem {a b : Int64} (hne : ¬ b = 0) (hd : nD y pc .lrem 1 p2 o) (k : nG y κ cu su p2 ls (.long (a - a / b * b) :: st) h) : nG y κ cu su pc ls (.long b :: .long a :: st) h := by
  intro p l e s m args below meth c H locs lsA C R L F
  obtain ⟨hdg, rfl, -⟩ := hd
  exact lv_lrem C.1 C.2.1 hdg hne (k p l e s m args below meth c H locs lsA C R L F)
theorem x_lneg {a : Int64} (hd : nD y pc .lneg 1 p2 o) (k : nG y κ cu su p2 ls (.long (-a) :: st) h) : nG y κ cu su pc ls (.long a :: st) h := by
  intro p l e s m args below meth c H locs lsA C R L F
  obtain ⟨hdg, rfl, -⟩ := hd
  exact lv_lneg C.1 C.2.1 hdg (k p l e s m args below meth c H locs lsA C R L F)
theorem x_i2l {a : Int32} (hd : nD y pc .i2l 1 p2 o) (k : nG y κ cu su p2 ls (.long a.toInt64 :: st) h) : nG y κ cu su pc ls (.int a :: st) h := by
  intro p l e s m args below meth c H locs lsA C R L F
  obtain ⟨hdg, rfl, -⟩ := hd
  exact lv_i2l C.1 C.2.1 hdg rfl (k p l e s m args below meth c H locs lsA C R L F)
theorem x_lcmp {a b : Int64} (hd : nD y pc .lcmp 1 p2 o) (k : nG y κ cu su p2 ls (.int (lg_cmp a b) :: st) h) : nG y κ cu su pc ls (.long b :: .long a :: st) h := by
  intro p l e s m args below meth c H locs lsA C R L F
  obtain ⟨hdg, rfl, -⟩ := hd
  exact W.lcmp C.1 C.2.1 hdg (k p l e s m args below meth c H locs lsA C R L F)
theorem x_dup {v : Value} (hv : v.category = 1) (hd : nD y pc .dup 1 p2 o) (k : nG y κ cu su p2 ls (v :: v :: st) h) : nG y κ cu su pc ls (v :: st) h := by
  intro p l e s m args below meth c H locs lsA C R L F
  obtain ⟨hdg, rfl, -⟩ := hd
  exact lv_dup C.1 C.2.1 hdg hv (k p l e s m args below meth c H locs lsA C R L F)
theorem x_dup2 {v v2 : Value} (hv : v.category = 1) (hv2 : v2.category = 1) (hd : nD y pc .dup2 1 p2 o) (k : nG y κ cu su p2 ls (v :: v2 :: v :: v2 :: st) h) : nG y κ cu su pc ls (v :: v2 :: st) h := by
  intro p l e s m args below meth c H locs lsA C R L F
  obtain ⟨hdg, rfl, -⟩ := hd
  exact lv_dup2_11 C.1 C.2.1 hdg hv hv2 (k p l e s m args below meth c H locs lsA C R L F)
theorem x_goto {off : Int} {tgt : Nat} (hd : nD y pc (.goto off) 3 p2 o) (ht : (pc : Int) + off = (tgt : Int)) (k : nG y κ cu su tgt ls st h) : nG y κ cu su pc ls st h := by
  intro p l e s m args below meth c H locs lsA C R L F
  exact lv_goto C.1 C.2.1 hd.1 ht (k p l e s m args below meth c H locs lsA C R L F)
theorem x_icmp_eqT {a b : Int32} {off : Int} {tgt : Nat} (hd : nD y pc (.if_icmp .eq off) 3 p2 o) (ht : (pc : Int) + off = (tgt : Int)) (hc : a = b) (k : nG y κ cu su tgt ls st h) : nG y κ cu su pc ls (.int b :: .int a :: st) h := by
  intro p l e s m args below meth c H locs lsA C R L F
  obtain ⟨hdg, rfl, -⟩ := hd
  exact lv_icmp_eq C.1 C.2.1 hdg ht (fun q => k p l e s m args below meth c H locs lsA C R L F) (fun q => absurd hc q)
theorem x_icmp_eqF {a b : Int32} {off : Int} {tgt : Nat} (hd : nD y pc (.if_icmp .eq off) 3 p2 o) (ht : (pc : Int) + off = (tgt : Int)) (hc : ¬ a = b) (k : nG y κ cu su p2 ls st h) : nG y κ cu su pc ls (.int b :: .int a :: st) h := by
  intro p l e s m args below meth c H locs lsA C R L F
  obtain ⟨hdg, rfl, -⟩ := hd
  exact lv_icmp_eq C.1 C.2.1 hdg ht (fun q => absurd q hc) (fun q => k p l e s m args below meth c H locs lsA C R L F)
theorem x_icmp_eq {a b : Int32} {off : Int} {tgt : Nat} (hd : nD y pc (.if_icmp .eq off) 3 p2 o) (ht : (pc : Int) + off = (tgt : Int)) (k1 : a = b → nG y κ cu su tgt ls st h) (k2 : ¬ a = b → nG y κ cu su p2 ls st h) : nG y κ cu su pc ls (.int b :: .int a :: st) h := by
  by_cases hc : a = b
  · exact x_icmp_eqT hd ht hc (k1 hc)
  · exact x_icmp_eqF hd ht hc (k2 hc)
theorem x_if_eqT {a : Int32} {off : Int} {tgt : Nat} (hd : nD y pc (.ifCond .eq off) 3 p2 o) (ht : (pc : Int) + off = (tgt : Int)) (hc : a = 0) (k : nG y κ cu su tgt ls st h) : nG y κ cu su pc ls (.int a :: st) h := by
  intro p l e s m args below meth c H locs lsA C R L F
  obtain ⟨hdg, rfl, -⟩ := hd
  exact lv_if_eq C.1 C.2.1 hdg ht (fun q => k p l e s m args below meth c H locs lsA C R L F) (fun q => absurd hc q)
theorem x_if_eqF {a : Int32} {off : Int} {tgt : Nat} (hd : nD y pc (.ifCond .eq off) 3 p2 o) (ht : (pc : Int) + off = (tgt : Int)) (hc : ¬ a = 0) (k : nG y κ cu su p2 ls st h) : nG y κ cu su pc ls (.int a :: st) h := by
  intro p l e s m args below meth c H locs lsA C R L F
  obtain ⟨hdg, rfl, -⟩ := hd
  exact lv_if_eq C.1 C.2.1 hdg ht (fun q => absurd q hc) (fun q => k p l e s m args below meth c H locs lsA C R L F)
theorem x_if_eq {a : Int32} {off : Int} {tgt : Nat} (hd : nD y pc (.ifCond .eq off) 3 p2 o) (ht : (pc : Int) + off = (tgt : Int)) (k1 : a = 0 → nG y κ cu su tgt ls st h) (k2 : ¬ a = 0 → nG y κ cu su p2 ls st h) : nG y κ cu su pc ls (.int a :: st) h := by
  by_cases hc : a = 0
  · exact x_if_eqT hd ht hc (k1 hc)
  · exact x_if_eqF hd ht hc (k2 hc)
theorem x_icmp_neT {a b : Int32} {off : Int} {tgt : Nat} (hd : nD y pc (.if_icmp .ne off) 3 p2 o) (ht : (pc : Int) + off = (tgt : Int)) (hc : ¬ a = b) (k : nG y κ cu su tgt ls st h) : nG y κ cu su pc ls (.int b :: .int a :: st) h := by
  intro p l e s m args below meth c H locs lsA C R L F
  obtain ⟨hdg, rfl, -⟩ := hd
  exact lv_icmp_ne C.1 C.2.1 hdg ht (fun q => k p l e s m args below meth c H locs lsA C R L F) (fun q => absurd q hc)
theorem x_icmp_neF {a b : Int32} {off : Int} {tgt : Nat} (hd : nD y pc (.if_icmp .ne off) 3 p2 o) (ht : (pc : Int) + off = (tgt : Int)) (hc : a = b) (k : nG y κ cu su p2 ls st h) : nG y κ cu su pc ls (.int b :: .int a :: st) h := by
  intro p l e s m args below meth c H locs lsA C R L F
  obtain ⟨hdg, rfl, -⟩ := hd
  exact lv_icmp_ne C.1 C.2.1 hdg ht (fun q => absurd hc q) (fun q => k p l e s m args below meth c H locs lsA C R L F)
theorem x_icmp_ne {a b : Int32} {off : Int} {tgt : Nat} (hd : nD y pc (.if_icmp .ne off) 3 p2 o) (ht : (pc : Int) + off = (tgt : Int)) (k1 : ¬ a = b → nG y κ cu su tgt ls st h) (k2 : a = b → nG y κ cu su p2 ls st h) : nG y κ cu su pc ls (.int b :: .int a :: st) h := by
  by_cases hc : ¬ a = b
  · exact x_icmp_neT hd ht hc (k1 hc)
  · exact x_icmp_neF hd ht (Decidable.not_not.mp hc) (k2 (Decidable.not_not.mp hc))
theorem x_if_neT {a : Int32} {off : Int} {tgt : Nat} (hd : nD y pc (.ifCond .ne off) 3 p2 o) (ht : (pc : Int) + off = (tgt : Int)) (hc : ¬ a = 0) (k : nG y κ cu su tgt ls st h) : nG y κ cu su pc ls (.int a :: st) h := by
  intro p l e s m args below meth c H locs lsA C R L F
  obtain ⟨hdg, rfl, -⟩ := hd
  exact lv_if_ne C.1 C.2.1 hdg ht (fun q => k p l e s m args below meth c H locs lsA C R L F) (fun q => absurd q hc)
theorem x_if_neF {a : Int32} {off : Int} {tgt : Nat} (hd : nD y pc (.ifCond .ne off) 3 p2 o) (ht : (pc : Int) + off = (tgt : Int)) (hc : a = 0) (k : nG y κ cu su p2 ls st h) : nG y κ cu su pc ls (.int a :: st) h := by
  intro p l e s m args below meth c H locs lsA C R L F
  obtain ⟨hdg, rfl, -⟩ := hd
  exact lv_if_ne C.1 C.2.1 hdg ht (fun q => absurd hc q) (fun q => k p l e s m args below meth c H locs lsA C R L F)
theorem x_if_ne {a : Int32} {off : Int} {tgt : Nat} (hd : nD y pc (.ifCond .ne off) 3 p2 o) (ht : (pc : Int) + off = (tgt : Int)) (k1 : ¬ a = 0 → nG y κ cu su tgt ls st h) (k2 : a = 0 → nG y κ cu su p2 ls st h) : nG y κ cu su pc ls (.int a :: st) h := by
  by_cases hc : ¬ a = 0
  · exact x_if_neT hd ht hc (k1 hc)
  · exact x_if_neF hd ht (Decidable.not_not.mp hc) (k2 (Decidable.not_not.mp hc))
theorem x_icmp_ltT {a b : Int32} {off : Int} {tgt : Nat} (hd : nD y pc (.if_icmp .lt off) 3 p2 o) (ht : (pc : Int) + off = (tgt : Int)) (hc : a < b) (k : nG y κ cu su tgt ls st h) : nG y κ cu su pc ls (.int b :: .int a :: st) h := by
  intro p l e s m args below meth c H locs lsA C R L F
  obtain ⟨hdg, rfl, -⟩ := hd
  exact lv_icmp_lt C.1 C.2.1 hdg ht (fun q => k p l e s m args below meth c H locs lsA C R L F) (fun q => absurd hc q)
theorem x_icmp_ltF {a b : Int32} {off : Int} {tgt : Nat} (hd : nD y pc (.if_icmp .lt off) 3 p2 o) (ht : (pc : Int) + off = (tgt : Int)) (hc : ¬ a < b) (k : nG y κ cu su p2 ls st h) : nG y κ cu su pc ls (.int b :: .int a :: st) h := by
  intro p l e s m args below meth c H locs lsA C R L F
  obtain ⟨hdg, rfl, -⟩ := hd
  exact lv_icmp_lt C.1 C.2.1 hdg ht (fun q => absurd q hc) (fun q => k p l e s m args below meth c H locs lsA C R L F)
theorem x_icmp_lt {a b : Int32} {off : Int} {tgt : Nat} (hd : nD y pc (.if_icmp .lt off) 3 p2 o) (ht : (pc : Int) + off = (tgt : Int)) (k1 : a < b → nG y κ cu su tgt ls st h) (k2 : ¬ a < b → nG y κ cu su p2 ls st h) : nG y κ cu su pc ls (.int b :: .int a :: st) h := by
  by_cases hc : a < b
  · exact x_icmp_ltT hd ht hc (k1 hc)
  · exact x_icmp_ltF hd ht hc (k2 hc)
theorem x_if_ltT {a : Int32} {off : Int} {tgt : Nat} (hd : nD y pc (.ifCond .lt off) 3 p2 o) (ht : (pc : Int) + off = (tgt : Int)) (hc : a < 0) (k : nG y κ cu su tgt ls st h) : nG y κ cu su pc ls (.int a :: st) h := by
  intro p l e s m args below meth c H locs lsA C R L F
  obtain ⟨hdg, rfl, -⟩ := hd
  exact lv_if_lt C.1 C.2.1 hdg ht (fun q => k p l e s m args below meth c H locs lsA C R L F) (fun q => absurd hc q)
theorem x_if_ltF {a : Int32} {off : Int} {tgt : Nat} (hd : nD y pc (.ifCond .lt off) 3 p2 o) (ht : (pc : Int) + off = (tgt : Int)) (hc : ¬ a < 0) (k : nG y κ cu su p2 ls st h) : nG y κ cu su pc ls (.int a :: st) h := by
  intro p l e s m args below meth c H locs lsA C R L F
  obtain ⟨hdg, rfl, -⟩ := hd
  exact lv_if_lt C.1 C.2.1 hdg ht (fun q => absurd q hc) (fun q => k p l e s m args below meth c H locs lsA C R L F)
theorem x_if_lt {a : Int32} {off : Int} {tgt : Nat} (hd : nD y pc (.ifCond .lt off) 3 p2 o) (ht : (pc : Int) + off = (tgt : Int)) (k1 : a < 0 → nG y κ cu su tgt ls st h) (k2 : ¬ a < 0 → nG y κ cu su p2 ls st h) : nG y κ cu su pc ls (.int a :: st) h := by
  by_cases hc : a < 0
  · exact x_if_ltT hd ht hc (k1 hc)
  · exact x_if_ltF hd ht hc (k2 hc)
theorem x_icmp_geT {a b : Int32} {off : Int} {tgt : Nat} (hd : nD y pc (.if_icmp .ge off) 3 p2 o) (ht : (pc : Int) + off = (tgt : Int)) (hc : b ≤ a) (k : nG y κ cu su tgt ls st h) : nG y κ cu su pc ls (.int b :: .int a :: st) h := by
  intro p l e s m args below meth c H locs lsA C R L F
  obtain ⟨hdg, rfl, -⟩ := hd
  exact lv_icmp_ge C.1 C.2.1 hdg ht (fun q => k p l e s m args below meth c H locs lsA C R L F) (fun q => absurd hc q)
theorem x_icmp_geF {a b : Int32} {off : Int} {tgt : Nat} (hd : nD y pc (.if_icmp .ge off) 3 p2 o) (ht : (pc : Int) + off = (tgt : Int)) (hc : ¬ b ≤ a) (k : nG y κ cu su p2 ls st h) : nG y κ cu su pc ls (.int b :: .int a :: st) h := by
  intro p l e s m args below meth c H locs lsA C R L F
  obtain ⟨hdg, rfl, -⟩ := hd
  exact lv_icmp_ge C.1 C.2.1 hdg ht (fun q => absurd q hc) (fun q => k p l e s m args below meth c H locs lsA C R L F)
theorem x_icmp_ge {a b : Int32} {off : Int} {tgt : Nat} (hd : nD y pc (.if_icmp .ge off) 3 p2 o) (ht : (pc : Int) + off = (tgt : Int)) (k1 : b ≤ a → nG y κ cu su tgt ls st h) (k2 : ¬ b ≤ a → nG y κ cu su p2 ls st h) : nG y κ cu su pc ls (.int b :: .int a :: st) h := by
  by_cases hc : b ≤ a
  · exact x_icmp_geT hd ht hc (k1 hc)
  · exact x_icmp_geF hd ht hc (k2 hc)
theorem x_if_geT {a : Int32} {off : Int} {tgt : Nat} (hd : nD y pc (.ifCond .ge off) 3 p2 o) (ht : (pc : Int) + off = (tgt : Int)) (hc : 0 ≤ a) (k : nG y κ cu su tgt ls st h) : nG y κ cu su pc ls (.int a :: st) h := by
  intro p l e s m args below meth c H locs lsA C R L F
  obtain ⟨hdg, rfl, -⟩ := hd
  exact lv_if_ge C.1 C.2.1 hdg ht (fun q => k p l e s m args below meth c H locs lsA C R L F) (fun q => absurd hc q)
theorem x_if_geF {a : Int32} {off : Int} {tgt : Nat} (hd : nD y pc (.ifCond .ge off) 3 p2 o) (ht : (pc : Int) + off = (tgt : Int)) (hc : ¬ 0 ≤ a) (k : nG y κ cu su p2 ls st h) : nG y κ cu su pc ls (.int a :: st) h := by
  intro p l e s m args below meth c H locs lsA C R L F
  obtain ⟨hdg, rfl, -⟩ := hd
  exact lv_if_ge C.1 C.2.1 hdg ht (fun q => absurd q hc) (fun q => k p l e s m args below meth c H locs lsA C R L F)
theorem x_if_ge {a : Int32} {off : Int} {tgt : Nat} (hd : nD y pc (.ifCond .ge off) 3 p2 o) (ht : (pc : Int) + off = (tgt : Int)) (k1 : 0 ≤ a → nG y κ cu su tgt ls st h) (k2 : ¬ 0 ≤ a → nG y κ cu su p2 ls st h) : nG y κ cu su pc ls (.int a :: st) h := by
  by_cases hc : 0 ≤ a
  · exact x_if_geT hd ht hc (k1 hc)
  · exact x_if_geF hd ht hc (k2 hc)
theorem x_icmp_gtT {a b : Int32} {off : Int} {tgt : Nat} (hd : nD y pc (.if_icmp .gt off) 3 p2 o) (ht : (pc : Int) + off = (tgt : Int)) (hc : b < a) (k : nG y κ cu su tgt ls st h) : nG y κ cu su pc ls (.int b :: .int a :: st) h := by
  intro p l e s m args below meth c H locs lsA C R L F
  obtain ⟨hdg, rfl, -⟩ := hd
  exact lv_icmp_gt C.1 C.2.1 hdg ht (fun q => k p l e s m args below meth c H locs lsA C R L F) (fun q => absurd hc q)
theorem x_icmp_gtF {a b : Int32} {off : Int} {tgt : Nat} (hd : nD y pc (.if_icmp .gt off) 3 p2 o) (ht : (pc : Int) + off = (tgt : Int)) (hc : ¬ b < a) (k : nG y κ cu su p2 ls st h) : nG y κ cu su pc ls (.int b :: .int a :: st) h := by
  intro p l e s m args below meth c H locs lsA C R L F
  obtain ⟨hdg, rfl, -⟩ := hd
  exact lv_icmp_gt C.1 C.2.1 hdg ht (fun q => absurd q hc) (fun q => k p l e s m args below meth c H locs lsA C R L F)
theorem x_icmp_gt {a b : Int32} {off : Int} {tgt : Nat} (hd : nD y pc (.if_icmp .gt off) 3 p2 o) (ht : (pc : Int) + off = (tgt : Int)) (k1 : b < a → nG y κ cu su tgt ls st h) (k2 : ¬ b < a → nG y κ cu su p2 ls st h) : nG y κ cu su pc ls (.int b :: .int a :: st) h := by
  by_cases hc : b < a
  · exact x_icmp_gtT hd ht hc (k1 hc)
  · exact x_icmp_gtF hd ht hc (k2 hc)
theorem x_if_gtT {a : Int32} {off : Int} {tgt : Nat} (hd : nD y pc (.ifCond .gt off) 3 p2 o) (ht : (pc : Int) + off = (tgt : Int)) (hc : 0 < a) (k : nG y κ cu su tgt ls st h) : nG y κ cu su pc ls (.int a :: st) h := by
  intro p l e s m args below meth c H locs lsA C R L F
  obtain ⟨hdg, rfl, -⟩ := hd
  exact lv_if_gt C.1 C.2.1 hdg ht (fun q => k p l e s m args below meth c H locs lsA C R L F) (fun q => absurd hc q)
theorem x_if_gtF {a : Int32} {off : Int} {tgt : Nat} (hd : nD y pc (.ifCond .gt off) 3 p2 o) (ht : (pc : Int) + off = (tgt : Int)) (hc : ¬ 0 < a) (k : nG y κ cu su p2 ls st h) : nG y κ cu su pc ls (.int a :: st) h := by
  intro p l e s m args below meth c H locs lsA C R L F
  obtain ⟨hdg, rfl, -⟩ := hd
  exact lv_if_gt C.1 C.2.1 hdg ht (fun q => absurd q hc) (fun q => k p l e s m args below meth c H locs lsA C R L F)
theorem x_if_gt {a : Int32} {off : Int} {tgt : Nat} (hd : nD y pc (.ifCond .gt off) 3 p2 o) (ht : (pc : Int) + off = (tgt : Int)) (k1 : 0 < a → nG y κ cu su tgt ls st h) (k2 : ¬ 0 < a → nG y κ cu su p2 ls st h) : nG y κ cu su pc ls (.int a :: st) h := by
  by_cases hc : 0 < a
  · exact x_if_gtT hd ht hc (k1 hc)
  · exact x_if_gtF hd ht hc (k2 hc)
theorem x_icmp_leT {a b : Int32} {off : Int} {tgt : Nat} (hd : nD y pc (.if_icmp .le off) 3 p2 o) (ht : (pc : Int) + off = (tgt : Int)) (hc : a ≤ b) (k : nG y κ cu su tgt ls st h) : nG y κ cu su pc ls (.int b :: .int a :: st) h := by
  intro p l e s m args below meth c H locs lsA C R L F
  obtain ⟨hdg, rfl, -⟩ := hd
  exact lv_icmp_le C.1 C.2.1 hdg ht (fun q => k p l e s m args below meth c H locs lsA C R L F) (fun q => absurd hc q)
theorem x_icmp_leF {a b : Int32} {off : Int} {tgt : Nat} (hd : nD y pc (.if_icmp .le off) 3 p2 o) (ht : (pc : Int) + off = (tgt : Int)) (hc : ¬ a ≤ b) (k : nG y κ cu su p2 ls st h) : nG y κ cu su pc ls (.int b :: .int a :: st) h := by
  intro p l e s m args below meth c H locs lsA C R L F
  obtain ⟨hdg, rfl, -⟩ := hd
  exact lv_icmp_le C.1 C.2.1 hdg ht (fun q => absurd q hc) (fun q => k p l e s m args below meth c H locs lsA C R L F)
theorem x_icmp_le {a b : Int32} {off : Int} {tgt : Nat} (hd : nD y pc (.if_icmp .le off) 3 p2 o) (ht : (pc : Int) + off = (tgt : Int)) (k1 : a ≤ b → nG y κ cu su tgt ls st h) (k2 : ¬ a ≤ b → nG y κ cu su p2 ls st h) : nG y κ cu su pc ls (.int b :: .int a :: st) h := by
  by_cases hc : a ≤ b
  · exact x_icmp_leT hd ht hc (k1 hc)
  · exact x_icmp_leF hd ht hc (k2 hc)
theorem x_if_leT {a : Int32} {off : Int} {tgt : Nat} (hd : nD y pc (.ifCond .le off) 3 p2 o) (ht : (pc : Int) + off = (tgt : Int)) (hc : a ≤ 0) (k : nG y κ cu su tgt ls st h) : nG y κ cu su pc ls (.int a :: st) h := by
  intro p l e s m args below meth c H locs lsA C R L F
  obtain ⟨hdg, rfl, -⟩ := hd
  exact lv_if_le C.1 C.2.1 hdg ht (fun q => k p l e s m args below meth c H locs lsA C R L F) (fun q => absurd hc q)
theorem x_if_leF {a : Int32} {off : Int} {tgt : Nat} (hd : nD y pc (.ifCond .le off) 3 p2 o) (ht : (pc : Int) + off = (tgt : Int)) (hc : ¬ a ≤ 0) (k : nG y κ cu su p2 ls st h) : nG y κ cu su pc ls (.int a :: st) h := by
  intro p l e s m args below meth c H locs lsA C R L F
  obtain ⟨hdg, rfl, -⟩ := hd
  exact lv_if_le C.1 C.2.1 hdg ht (fun q => absurd q hc) (fun q => k p l e s m args below meth c H locs lsA C R L F)
theorem x_if_le {a : Int32} {off : Int} {tgt : Nat} (hd : nD y pc (.ifCond .le off) 3 p2 o) (ht : (pc : Int) + off = (tgt : Int)) (k1 : a ≤ 0 → nG y κ cu su tgt ls st h) (k2 : ¬ a ≤ 0 → nG y κ cu su p2 ls st h) : nG y κ cu su pc ls (.int a :: st) h := by
  by_cases hc : a ≤ 0
  · exact x_if_leT hd ht hc (k1 hc)
  · exact x_if_leF hd ht hc (k2 hc)
theorem x_ifnull {x : Nat} {off : Int} (hd : nD y pc (.ifnull off) 3 p2 o) (k : nG y κ cu su p2 ls st h) : nG y κ cu su pc ls (.ref x :: st) h := by
  intro p l e s m args below meth c H locs lsA C R L F
  obtain ⟨hdg, rfl, -⟩ := hd
  exact lv_ifnull C.1 C.2.1 hdg (k p l e s m args below meth c H locs lsA C R L F)
theorem x_ifnullN {off : Int} {tgt : Nat} (hd : nD y pc (.ifnull off) 3 p2 o) (ht : (pc : Int) + off = (tgt : Int)) (k : nG y κ cu su tgt ls st h) : nG y κ cu su pc ls (.null :: st) h := by
  intro p l e s m args below meth c H locs lsA C R L F
  exact lv_ifnullN C.1 C.2.1 hd.1 ht (k p l e s m args below meth c H locs lsA C R L F)
theorem x_ifnonnull {x : Nat} {off : Int} {tgt : Nat} (hd : nD y pc (.ifnonnull off) 3 p2 o) (ht : (pc : Int) + off = (tgt : Int)) (k : nG y κ cu su tgt ls st h) : nG y κ cu su pc ls (.ref x :: st) h := by
  intro p l e s m args below meth c H locs lsA C R L F
  exact lv_ifnonnull C.1 C.2.1 hd.1 ht (k p l e s m args below meth c H locs lsA C R L F)
theorem x_ifnonnullN {off : Int} (hd : nD y pc (.ifnonnull off) 3 p2 o) (k : nG y κ cu su p2 ls st h) : nG y κ cu su pc ls (.null :: st) h := by
  intro p l e s m args below meth c H locs lsA C R L F
  obtain ⟨hdg, rfl, -⟩ := hd
  exact lv_ifnonnullN C.1 C.2.1 hdg (k p l e s m args below meth c H locs lsA C R L F)
theorem x_tableOut {dflt lo hi : Int} {offs : Array Int} {len tgt : Nat} {x : Int32} (hd : nD y pc (.tableswitch dflt lo hi offs) len p2 o) (hc : x.toInt < lo ∨ hi < x.toInt) (ht : (pc : Int) + dflt = (tgt : Int)) (k : nG y κ cu su tgt ls st h) : nG y κ cu su pc ls (.int x :: st) h := by
  intro p l e s m args below meth c H locs lsA C R L F
  exact lv_tableOut C.1 C.2.1 hd.1 hc ht (k p l e s m args below meth c H locs lsA C R L F)
theorem x_tableIn {dflt lo hi off : Int} {offs : Array Int} {len tgt : Nat} {x : Int32} (hd : nD y pc (.tableswitch dflt lo hi offs) len p2 o) (h1 : ¬ x.toInt < lo) (h2 : ¬ hi < x.toInt) (ho : offs[(x.toInt - lo).toNat]? = some off) (ht : (pc : Int) + off = (tgt : Int)) (k : nG y κ cu su tgt ls st h) : nG y κ cu su pc ls (.int x :: st) h := by
  intro p l e s m args below meth c H locs lsA C R L F
  exact lv_tableIn C.1 C.2.1 hd.1 h1 h2 ho ht (k p l e s m args below meth c H locs lsA C R L F)
theorem x_istore_n {x : Int32} {i : Fin 4} (hd : nD y pc (.istore_n i) 1 p2 o) (hi : i.val < y.2.2.1) (k : nG y κ cu su p2 (nPut ls i.val (.int x)) st h) : nG y κ cu su pc ls (.int x :: st) h := by
  intro p l e s m args below meth c H locs lsA C R L F
  obtain ⟨hdg, rfl, -⟩ := hd
  exact lv_istore_n C.1 C.2.1 hdg rfl (nLs_has L) hi rfl (fun l2 h2 => k p l e s m args below meth c H locs l2 C R (nLs_put h2) F)
theorem x_istore {x : Int32} {i : Nat} (hd : nD y pc (.istore i) 2 p2 o) (hi : i < y.2.2.1) (k : nG y κ cu su p2 (nPut ls i (.int x)) st h) : nG y κ cu su pc ls (.int x :: st) h := by
  intro p l e s m args below meth c H locs lsA C R L F
  obtain ⟨hdg, rfl, -⟩ := hd
  exact lv_istore C.1 C.2.1 hdg (nLs_has L) hi rfl (fun l2 h2 => k p l e s m args below meth c H locs l2 C R (nLs_put h2) F)
theorem x_lstore_n {x : Int64} {i : Fin 4} (hd : nD y pc (.lstore_n i) 1 p2 o) (hi : i.val + 1 < y.2.2.1) (k : nG y κ cu su p2 (nPu2 ls i.val (.long x)) st h) : nG y κ cu su pc ls (.long x :: st) h := by
  intro p l e s m args below meth c H locs lsA C R L F
  obtain ⟨hdg, rfl, -⟩ := hd
  exact lv_lstore_n C.1 C.2.1 hdg rfl (nLs_has L) hi rfl (fun l2 h2 => k p l e s m args below meth c H locs l2 C R (nLs_pu2 h2) F)
theorem x_lstore {x : Int64} {i : Nat} (hd : nD y pc (.lstore i) 2 p2 o) (hi : i + 1 < y.2.2.1) (k : nG y κ cu su p2 (nPu2 ls i (.long x)) st h) : nG y κ cu su pc ls (.long x :: st) h := by
  intro p l e s m args below meth c H locs lsA C R L F
  obtain ⟨hdg, rfl, -⟩ := hd
  exact lv_lstore C.1 C.2.1 hdg (nLs_has L) hi rfl (fun l2 h2 => k p l e s m args below meth c H locs l2 C R (nLs_pu2 h2) F)
theorem x_astore_n {x : Nat} {i : Fin 4} (hd : nD y pc (.astore_n i) 1 p2 o) (hi : i.val < y.2.2.1) (k : nG y κ cu su p2 (nPut ls i.val (.ref x)) st h) : nG y κ cu su pc ls (.ref x :: st) h := by
  intro p l e s m args below meth c H locs lsA C R L F
  obtain ⟨hdg, rfl, -⟩ := hd
  exact lv_astore_n C.1 C.2.1 hdg rfl (nLs_has L) hi rfl (fun l2 h2 => k p l e s m args below meth c H locs l2 C R (nLs_put h2) F)
theorem x_astore {x : Nat} {i : Nat} (hd : nD y pc (.astore i) 2 p2 o) (hi : i < y.2.2.1) (k : nG y κ cu su p2 (nPut ls i (.ref x)) st h) : nG y κ cu su pc ls (.ref x :: st) h := by
  intro p l e s m args below meth c H locs lsA C R L F
  obtain ⟨hdg, rfl, -⟩ := hd
  exact lv_astore C.1 C.2.1 hdg (nLs_has L) hi rfl (fun l2 h2 => k p l e s m args below meth c H locs l2 C R (nLs_put h2) F)
theorem x_astore_nN {i : Fin 4} (hd : nD y pc (.astore_n i) 1 p2 o) (hi : i.val < y.2.2.1) (k : nG y κ cu su p2 (nPut ls i.val (.null)) st h) : nG y κ cu su pc ls (.null :: st) h := by
  intro p l e s m args below meth c H locs lsA C R L F
  obtain ⟨hdg, rfl, -⟩ := hd
  exact lv_astore_nN C.1 C.2.1 hdg rfl (nLs_has L) hi rfl (fun l2 h2 => k p l e s m args below meth c H locs l2 C R (nLs_put h2) F)
theorem x_astoreN {i : Nat} (hd : nD y pc (.astore i) 2 p2 o) (hi : i < y.2.2.1) (k : nG y κ cu su p2 (nPut ls i (.null)) st h) : nG y κ cu su pc ls (.null :: st) h := by
  intro p l e s m args below meth c H locs lsA C R L F
  obtain ⟨hdg, rfl, -⟩ := hd
  exact lv_astoreN C.1 C.2.1 hdg (nLs_has L) hi rfl (fun l2 h2 => k p l e s m args below meth c H locs l2 C R (nLs_put h2) F)
theorem x_iinc {i : Nat} {n : Int} {x : Int32} (hd : nD y pc (.iinc i n) 3 p2 o) (hl : ls[i]? = some (some (.int x))) (hi : i < y.2.2.1) (k : nG y κ cu su p2 (nPut ls i (.int (x + Int32.ofInt n))) st h) : nG y κ cu su pc ls st h := by
  intro p l e s m args below meth c H locs lsA C R L F
  obtain ⟨hdg, rfl, -⟩ := hd
  obtain ⟨j, hj⟩ := List.getElem?_of_mem (nAs_mem.mpr hl)
  exact lv_iinc C.1 C.2.1 hdg (nLs_has L) hj rfl hi rfl (fun l2 h2 => k p l e s m args below meth c H locs l2 C R (nLs_put h2) F)
end NG
end
section
/-! THE PLAIN WORLD: rows for cells, calls and ends. -/
def nUp {α : Type} (f : Nat → α) (j : Nat) (v : α) : Nat → α := fun q => if q = j then v else f q
def nIx (i : Int32) (n j : Nat) : Prop := vp_in i n ∧ i.toNatClampNeg = j
theorem nIx_nI {j n : Nat} (h : j < n) (hn : n < 2 ^ 31) : nIx (nI j) n j := ⟨vp_in_nI h (by omega), nI_clamp (by omega)⟩
theorem nRC.kept {D : va_G} {U : State} {H H2 : Heap} {a : Nat} {e : nPC} (h : nRC D U H a e) (hq : H2[a]? = H[a]?) : nRC D U H2 a e := by
  match e, h with
  | .inl x, h =>
    obtain ⟨cA, h1, h2⟩ := h
    exact ⟨cA, hq.trans h1, h2⟩
  | .inr (.inl o), h => exact va_at.kept (q := (a, .inr o)) h hq
  | .inr (.inr x), h => exact va_X.kept (b := a) h hq
theorem nRC.lt {D : va_G} {U : State} {H : Heap} {a : Nat} {e : nPC} (h : nRC D U H a e) : a < H.size := by
  match e, h with
  | .inl x, h =>
    obtain ⟨cA, h1, h2⟩ := h
    exact (Array.getElem?_eq_some_iff.mp h1).1
  | .inr (.inl o), h => exact va_at.lt (q := (a, .inr o)) h
  | .inr (.inr x), h =>
    obtain ⟨scr, h1, -⟩ := h
    exact (Array.getElem?_eq_some_iff.mp h1).1
theorem nRC.moved {D : va_G} {u U : State} {H : Heap} {a : Nat} {e : nPC} (hvm : u.vm.Alike U.vm) (h : nRC D u H a e) : nRC D U H a e := by
  match e, h with
  | .inl x, h =>
    obtain ⟨cA, h1, h2, h3⟩ := h
    exact ⟨cA, h1, arrOfT_moved hvm h2, h3.moved hvm⟩
  | .inr (.inl o), h => exact h
  | .inr (.inr x), h => exact va_X.moved hvm h
theorem nRep.moved {h : nPH} {u U : State} {H : Heap} (hvm : u.vm.Alike U.vm) (R : nRep h u H) : nRep h U H := ⟨R.1, fun a e he => (R.2 a e he).moved hvm⟩
theorem nRep_st {h : nPH} {U : State} {H H2 : Heap} {a : Nat} {e : nPC} (R : nRep h U H) (z : H2.size = H.size) (oq : ∀ q : Nat, q ≠ a → H2[q]? = H[q]?) (he : nRC h.1 U H2 a e) : nRep (nSt h a e) U H2 := by
  refine ⟨z.trans R.1, fun q e2 hq => ?_⟩
  by_cases hqa : q = a
  · subst hqa
    have : some e = some e2 := by simpa [nSt] using hq
    cases this
    exact he
  · have : h.2.2.2 q = some e2 := by simpa [nSt, hqa] using hq
    exact (R.2 q e2 this).kept (oq q hqa)
theorem nRep_nw {h : nPH} {U : State} {H H2 : Heap} {e : nPC} (R : nRep h U H) (z : H2.size = H.size + 1) (oq : ∀ q : Nat, q < H.size → H2[q]? = H[q]?) (he : nRC h.1 U H2 H.size e) : nRep (nNw h e) U H2 := by
  have hz : h.2.2.1 = H.size := R.1.symm
  refine ⟨by show _ = h.2.2.1 + 1; rw [z, hz], fun q e2 hq => ?_⟩
  by_cases hqa : q = h.2.2.1
  · subst hqa
    have : some e = some e2 := by simpa [nNw] using hq
    cases this
    rw [hz]
    exact he
  · have : h.2.2.2 q = some e2 := by simpa [nNw, hqa] using hq
    have h1 := R.2 q e2 this
    exact h1.kept (oq q h1.lt)
theorem nK.moved {D : va_G} {s U : State} (hW : s.WarmedH U.vm) (h : nK D s) : nK D U := by
  obtain ⟨h1, h2, h3, h4, h5, h6⟩ := h
  exact ⟨va_K.moved hW.alike h1, fun q hq => va_Nw.warmM hW (h2 q hq), va_AO.moved hW.alike h3, va_AO.moved hW.alike h4, over_moved hW.alike h5, over_moved hW.alike h6⟩
theorem nK.call {D : va_G} {U : State} (g : JFrame) (mk : MethodId) (a : Array Value) (h : nK D U) : nK D (U.calling g mk a) := by
  obtain ⟨h1, h2, h3, h4, h5, h6⟩ := h
  exact ⟨va_K.moved (u := U) (U := U.calling g mk a) (Vm.Alike.refl U.vm) h1, fun q hq => va_Nw.same rfl (show U.vm = (U.calling g mk a).vm from rfl) (h2 q hq), va_AO.moved (u := U) (U := U.calling g mk a) (Vm.Alike.refl U.vm) h3, va_AO.moved (u := U) (U := U.calling g mk a) (Vm.Alike.refl U.vm) h4, over_moved (u := U) (E := U.calling g mk a) (Vm.Alike.refl U.vm) h5, over_moved (u := U) (E := U.calling g mk a) (Vm.Alike.refl U.vm) h6⟩
theorem nPc_blind (h : nPH) (av : List Value) : FrameBlind (nPc h av) := fun a U g mk q =>
  ⟨q.1, nRep.moved (u := U) (U := U.calling g mk a) (Vm.Alike.refl U.vm) q.2.1, q.2.2.call g mk a⟩
/-- what a field's place says: class c, its field k -/
def nF (o idx c k : Nat) : Prop := ∃ q : vw_C, vwCl[c]? = some q ∧ k < q.2.2 ∧ Cond.fieldLink (cNm o) idx (q.2.1 k).1 (q.2.1 k).2.1 (q.2.1 k).2.2.1 ∈ nWs
def nCo (c : Nat) : Prop := ∀ q : vw_C, vwCl[c]? = some q → (∀ w ∈ u_ws q.1 q.2.1 q.2.2, w ∈ nWs) ∧ (∀ a, a < q.2.2 → ∀ b, b < q.2.2 → a ≠ b → (q.2.1 a).2.1 ≠ (q.2.1 b).2.1) ∧ ∃ ty : Nat → FieldType, ∀ k, k < q.2.2 → parseFieldDescriptor (q.2.1 k).2.2.1 = some (ty k)
/-- a field's type, and whether it is final -/
def nFt (c k : Nat) (ty : FieldType) (fin : Bool) : Prop := ∀ q : vw_C, vwCl[c]? = some q → parseFieldDescriptor (q.2.1 k).2.2.1 = some ty ∧ (q.2.1 k).2.2.2 = fin ∧ (q.2.1 k).1 = cNm c
section NH
variable {y : nM} {κ : nKp} {cu su pc p2 o : Nat} {ls : List (Option Value)} {st : List Value} {h : nPH}
theorem nOne {D : va_G} {H : Heap} {q : Nat × va_E} (hq : va_at D vwCl q H) : va_P D vwCl [q] H := fun k x hx => by
  have hk : k < 1 := (List.getElem?_eq_some_iff.mp hx).1
  rw [show k = 0 by omega] at hx
  cases hx
  exact hq
theorem x_getf (hco : ∀ c, nCo c) {idx c k a : Nat} {fs : List Value} {v : Value} (hd : nD y pc (.getfield idx) 3 p2 o) (hf : nF o idx c k) (hat : nAt h a = some (nOb c fs)) (hv : fs[k]? = some v) (kk : nG y κ cu su p2 ls (v :: st) h) : nG y κ cu su pc ls (.ref a :: st) h := by
  intro p l e s m args below meth cd H locs lsA C R L F
  obtain ⟨hdg, rfl, rfl⟩ := hd
  obtain ⟨q, hq, hk, hl⟩ := hf
  have K := kk p l e s m args below meth cd H locs lsA C R L F
  obtain ⟨hx, hb, hml, hown, hts, hr, hlk, hnm, hK⟩ := C
  exact va_get hx hb hts (hco c q hq).1 hown hK.1 (nOne (q := (a, .inr (c, fs))) (R.2 a _ hat)) 0 rfl hq k hk (hts _ hl) (fun x hx => hx) hv hdg K
theorem nPutAt {D : va_G} {H2 : Heap} {s : State} {c k a : Nat} {fs : List Value} {v : Value} {q : vw_C} {cell : Cell} (hq : vwCl[c]? = some q) (hap : ∀ x y, x < q.2.2 → y < q.2.2 → x ≠ y → (D.2 c) x ≠ (D.2 c) y) (hk : k < q.2.2) (hl : k < fs.length)
    (q2 : cell.cls = D.1 c) (q3 : cell.vm = .none) (q4 : ∀ k, k < q.2.2 → cell.slots[D.2 c k]? = some (vp_V fs k)) (e1 : H2[a]? = some (cell.setSlot (D.2 c k) v)) : nRC D s H2 a (nOb c (fs.set k v)) :=
  ⟨q, hq, t_OB.to (V := updV (vp_V fs) k v) ⟨_, e1, q2, q3, t_set q4 hap hk v⟩ (fun j _ => vp_updV_set hl v j)⟩
theorem x_putf (hco : ∀ c, nCo c) {idx c k a : Nat} {fs : List Value} {v : Value} {ty : FieldType} (hd : nD y pc (.putfield idx) 3 p2 o) (hf : nF o idx c k) (ht : nFt c k ty false) (hat : nAt h a = some (nOb c fs)) (hl : k < fs.length) (hn : narrow ty v = v) (hfit : fits ty v = true) (hB : h.2.1 ≤ a)
    (kk : nG y κ cu su p2 ls st (nSt h a (nOb c (fs.set k v)))) : nG y κ cu su pc ls (v :: .ref a :: st) h := by
  intro p l e s m args below meth cd H locs lsA C R L F
  obtain ⟨hdg, rfl, rfl⟩ := hd
  obtain ⟨q, hq, hk, hl2⟩ := hf
  obtain ⟨ht1, ht2, -⟩ := ht q hq
  have K := fun H2 => kk p l e s m args below meth cd H2 (locs ++ [⟨a, h.1.2 c k⟩]) lsA C
  obtain ⟨hx, hb, hml, hown, hts, hr, hlk, hnm, hK⟩ := C
  obtain ⟨hin, hnmd, ty0, hty⟩ := hco c q hq
  have hap := va_apart (own := q.1) hts hin ty0 hty hnmd hK.1 hq
  obtain ⟨r, h1, cell, q1, q2, q3, q4⟩ := R.2 a _ hat
  have hr0 : r = q := Option.some.inj (h1.symm.trans hq)
  subst hr0
  obtain ⟨hS, hfc, kC, hkC, hkind⟩ := hK.1.1 c _ hq
  obtain ⟨cf, kf, fi, f, hi, hsl⟩ := hS k hk
  have hlay := hts _ (hin _ (u_in_lay hk))
  unfold u_lay at hlay
  rw [if_neg (by rw [ht2]; decide)] at hlay
  have hst := (u_facts hfc hkC (u_lays hts hin hk) hi).1
  have h6 := u_store hfc hkC hkind hlay hi ht1 hn hfit
  refine W.putK hx hb (f := f) ⟨hown, hts _ hl2, ⟨_, _, _, hi⟩, hst⟩ (by rw [q2]; exact h6) q1 q3 (by rw [hsl]; exact k2_hasslot (q4 k hk)) rfl rfl hdg fun H2 e1 e2 e3 => ?_
  rw [hsl] at e1 ⊢
  refine K H2 (nRep_st R e2 e3 (nPutAt hq hap hk hl q2 q3 q4 e1)) L (fun z hz => ?_)
  rcases List.mem_append.mp hz with hz | hz
  · exact F z hz
  · rw [List.mem_singleton.mp hz]
    exact hB
theorem x_putF (hco : ∀ c, nCo c) {idx c k a : Nat} {fs : List Value} {v : Value} {ty : FieldType} (hd : nD y pc (.putfield idx) 3 p2 o) (hf : nF o idx c k) (ht : nFt c k ty true) (hoc : o = c) (hin2 : y.1.name = "<init>") (hat : nAt h a = some (nOb c fs)) (hl : k < fs.length) (hn : narrow ty v = v) (hfit : fits ty v = true) (hB : h.2.1 ≤ a)
    (kk : nG y κ cu su p2 ls st (nSt h a (nOb c (fs.set k v)))) : nG y κ cu su pc ls (v :: .ref a :: st) h := by
  intro p l e s m args below meth cd H locs lsA C R L F
  subst hoc
  obtain ⟨hdg, rfl, rfl⟩ := hd
  obtain ⟨q, hq, hk, hl2⟩ := hf
  obtain ⟨ht1, ht2, ht3⟩ := ht q hq
  have K := fun H2 => kk p l e s m args below meth cd H2 (locs ++ [⟨a, h.1.2 y.2.2.2.2.1 k⟩]) lsA C
  obtain ⟨hx, hb, hml, hown, hts, hr, hlk, hnm, hK⟩ := C
  obtain ⟨hin, hnmd, ty0, hty⟩ := hco _ q hq
  have hap := va_apart (own := q.1) hts hin ty0 hty hnmd hK.1 hq
  obtain ⟨r, h1, cell, q1, q2, q3, q4⟩ := R.2 a _ hat
  have hr0 : r = q := Option.some.inj (h1.symm.trans hq)
  subst hr0
  obtain ⟨hS, hfc, kC, hkC, hkind⟩ := hK.1.1 _ _ hq
  obtain ⟨cf, kf, fi, f, hi, hsl⟩ := hS k hk
  have hlay := hts _ (hin _ (u_in_lay hk))
  unfold u_lay at hlay
  rw [if_pos ht2] at hlay
  have hst := (u_facts hfc hkC (u_lays hts hin hk) hi).1
  have hcf : m.cls = cf := by
    obtain ⟨_, _, c', _, _, _, -, -, hf', -, -, -, hown2, -⟩ := Cond.laysFinal_spec hlay
    have e1 : c' = cf := by have := hi.symm.trans hf'; simp at this; exact this.1.symm
    rw [ht3] at hown2
    rw [← e1]; exact Option.some.inj (hown.symm.trans hown2)
  have h6 := u_fits hfc hkC hkind (Or.inr hlay) hi ht1 hn hfit
  refine W.putFinK hx hb hown (hts _ hl2) hi hst hcf (hnm.trans hin2) (by rw [q2]; exact h6) q1 q3 (by rw [hsl]; exact k2_hasslot (q4 k hk)) rfl rfl hdg fun H2 e1 e2 e3 => ?_
  rw [hsl] at e1 ⊢
  refine K H2 (nRep_st R e2 e3 (nPutAt hq hap hk hl q2 q3 q4 e1)) L (fun z hz => ?_)
  rcases List.mem_append.mp hz with hz | hz
  · exact F z hz
  · rw [List.mem_singleton.mp hz]
    exact hB
theorem x_iaload {a n j : Nat} {f : Nat → Int32} {i : Int32} (hd : nD y pc .iaload 1 p2 o) (hat : nAt h a = some (nAi n f)) (hi : nIx i n j) (kk : nG y κ cu su p2 ls (.int (f j) :: st) h) : nG y κ cu su pc ls (.int i :: .ref a :: st) h := by
  intro p l e s m args below meth cd H locs lsA C R L F
  obtain ⟨hdg, rfl, -⟩ := hd
  obtain ⟨hi, rfl⟩ := hi
  obtain ⟨cA, h1, h2, h3⟩ := R.2 a _ hat
  have hlt : i.toNatClampNeg < n := Nat.not_le.mp fun q => hi (Or.inr q)
  exact W.iald (v := .int (f i.toNatClampNeg)) C.1 C.2.1 h1 (h2 n (fun j => .int (f j))) (fun q => by cases q) (by show ¬ (i < 0 ∨ (arrV _ _ _).slots.size ≤ _); rw [arrV_size]; exact hi) (by show (arrV _ _ _).slots[_]? = _; rw [arrV_read _ _ hlt]) rfl rfl hdg (kk p l e s m args below meth cd H locs lsA C R L F)
theorem x_baload {a n j : Nat} {f : Nat → Int32} {i : Int32} (hd : nD y pc .baload 1 p2 o) (hat : nAt h a = some (nAz n f)) (hi : nIx i n j) (kk : nG y κ cu su p2 ls (.int (f j) :: st) h) : nG y κ cu su pc ls (.int i :: .ref a :: st) h := by
  intro p l e s m args below meth cd H locs lsA C R L F
  obtain ⟨hdg, rfl, -⟩ := hd
  obtain ⟨hi, rfl⟩ := hi
  obtain ⟨cA, h1, h2, h3⟩ := R.2 a _ hat
  have hlt : i.toNatClampNeg < n := Nat.not_le.mp fun q => hi (Or.inr q)
  exact W.zald (v := .int (f i.toNatClampNeg)) C.1 C.2.1 h1 (h2 n (fun j => .int (f j))) (fun q => by cases q) (by show ¬ (i < 0 ∨ (arrV _ _ _).slots.size ≤ _); rw [arrV_size]; exact hi) (by show (arrV _ _ _).slots[_]? = _; rw [arrV_read _ _ hlt]) rfl rfl hdg (kk p l e s m args below meth cd H locs lsA C R L F)
theorem x_laload {a n j : Nat} {f : Nat → Int64} {i : Int32} (hd : nD y pc .laload 1 p2 o) (hat : nAt h a = some (nAl n f)) (hi : nIx i n j) (kk : nG y κ cu su p2 ls (.long (f j) :: st) h) : nG y κ cu su pc ls (.int i :: .ref a :: st) h := by
  intro p l e s m args below meth cd H locs lsA C R L F
  obtain ⟨hdg, rfl, -⟩ := hd
  obtain ⟨hi, rfl⟩ := hi
  obtain ⟨cA, h1, h2, h3⟩ := R.2 a _ hat
  have hlt : i.toNatClampNeg < n := Nat.not_le.mp fun q => hi (Or.inr q)
  exact W.lald (v := .long (f i.toNatClampNeg)) C.1 C.2.1 h1 (h2 n (fun j => .long (f j))) (fun q => by cases q) (by show ¬ (i < 0 ∨ (arrV _ _ _).slots.size ≤ _); rw [arrV_size]; exact hi) (by show (arrV _ _ _).slots[_]? = _; rw [arrV_read _ _ hlt]) rfl rfl hdg (kk p l e s m args below meth cd H locs lsA C R L F)
theorem x_aaloadV {a n j : Nat} {ty : FieldType} {f : Nat → Option Nat} {i : Int32} (hd : nD y pc .aaload 1 p2 o) (hat : nAt h a = some (nAr ty n f)) (hty : ty.isReference = true) (hi : nIx i n j) (kk : nG y κ cu su p2 ls (va_rf (f j) :: st) h) : nG y κ cu su pc ls (.int i :: .ref a :: st) h := by
  intro p l e s m args below meth cd H locs lsA C R L F
  obtain ⟨hdg, rfl, -⟩ := hd
  obtain ⟨hi, rfl⟩ := hi
  obtain ⟨cA, h1, h2, h3⟩ := R.2 a _ hat
  have hlt : i.toNatClampNeg < n := Nat.not_le.mp fun q => hi (Or.inr q)
  exact W.aald (v := va_rf (f i.toNatClampNeg)) (ty := ty) C.1 C.2.1 h1 (h2 n (fun j => va_rf (f j))) hty (fun q => by cases q) (by show ¬ (i < 0 ∨ (arrV _ _ _).slots.size ≤ _); rw [arrV_size]; exact hi) (by show (arrV _ _ _).slots[_]? = _; rw [arrV_read _ _ hlt]) rfl rfl hdg (kk p l e s m args below meth cd H locs lsA C R L F)
theorem x_aaload {a n j b : Nat} {ty : FieldType} {f : Nat → Option Nat} {i : Int32} (hd : nD y pc .aaload 1 p2 o) (hat : nAt h a = some (nAr ty n f)) (hty : ty.isReference = true) (hi : nIx i n j) (hf : f j = some b) (kk : nG y κ cu su p2 ls (.ref b :: st) h) : nG y κ cu su pc ls (.int i :: .ref a :: st) h :=
  x_aaloadV hd hat hty hi (by rw [hf]; exact kk)
theorem nLoc {a i B : Nat} {locs : List Loc} (F : ∀ q ∈ locs, B ≤ q.base) (hB : B ≤ a) : ∀ q ∈ locs ++ [(⟨a, i⟩ : Loc)], B ≤ q.base := fun z hz => by
  rcases List.mem_append.mp hz with hz | hz
  · exact F z hz
  · rw [List.mem_singleton.mp hz]
    exact hB
theorem x_iastore {a n j : Nat} {f : Nat → Int32} {i x : Int32} (hd : nD y pc .iastore 1 p2 o) (hat : nAt h a = some (nAi n f)) (hi : nIx i n j) (hB : h.2.1 ≤ a) (kk : nG y κ cu su p2 ls st (nSt h a (nAi n (nUp f j x)))) : nG y κ cu su pc ls (.int x :: .int i :: .ref a :: st) h := by
  intro p l e s m args below meth cd H locs lsA C R L F
  obtain ⟨hdg, rfl, -⟩ := hd
  obtain ⟨hi, rfl⟩ := hi
  obtain ⟨cA, h1, h2, h3⟩ := R.2 a _ hat
  refine W.iast C.1 C.2.1 h1 (h2 n (fun j => .int (f j))) (fun q => by cases q) (by show ¬ (i < 0 ∨ (arrV _ _ _).slots.size ≤ _); rw [arrV_size]; exact hi) rfl rfl hdg fun H1 e1 z oq => ?_
  refine kk p l e s m args below meth cd H1 _ lsA C (nRep_st R z oq ⟨cA, ?_, h2, h3⟩) L (nLoc F hB)
  rw [e1, vp_cell_i, vp_cell_i, arrV_store]
  congr 2
  funext q
  by_cases hq : q = i.toNatClampNeg <;> simp [updV, nUp, hq]
theorem x_bastore {a n j : Nat} {f : Nat → Int32} {i x z : Int32} (hd : nD y pc .bastore 1 p2 o) (hat : nAt h a = some (nAz n f)) (hi : nIx i n j) (hz : narrow .boolean (.int x) = .int z) (hB : h.2.1 ≤ a) (kk : nG y κ cu su p2 ls st (nSt h a (nAz n (nUp f j z)))) : nG y κ cu su pc ls (.int x :: .int i :: .ref a :: st) h := by
  intro p l e s m args below meth cd H locs lsA C R L F
  obtain ⟨hdg, rfl, -⟩ := hd
  obtain ⟨hi, rfl⟩ := hi
  obtain ⟨cA, h1, h2, h3⟩ := R.2 a _ hat
  refine W.zast C.1 C.2.1 h1 (h2 n (fun j => .int (f j))) (fun q => by cases q) (by show ¬ (i < 0 ∨ (arrV _ _ _).slots.size ≤ _); rw [arrV_size]; exact hi) rfl rfl hdg fun H1 e1 zz oq => ?_
  refine kk p l e s m args below meth cd H1 _ lsA C (nRep_st R zz oq ⟨cA, ?_, h2, h3⟩) L (nLoc F hB)
  rw [e1, hz, vp_cell_i, vp_cell_i, arrV_store]
  congr 2
  funext q
  by_cases hq : q = i.toNatClampNeg <;> simp [updV, nUp, hq]
theorem x_lastore {a n j : Nat} {f : Nat → Int64} {i : Int32} {x : Int64} (hd : nD y pc .lastore 1 p2 o) (hat : nAt h a = some (nAl n f)) (hi : nIx i n j) (hB : h.2.1 ≤ a) (kk : nG y κ cu su p2 ls st (nSt h a (nAl n (nUp f j x)))) : nG y κ cu su pc ls (.long x :: .int i :: .ref a :: st) h := by
  intro p l e s m args below meth cd H locs lsA C R L F
  obtain ⟨hdg, rfl, -⟩ := hd
  obtain ⟨hi, rfl⟩ := hi
  obtain ⟨cA, h1, h2, h3⟩ := R.2 a _ hat
  refine W.last C.1 C.2.1 h1 (h2 n (fun j => .long (f j))) (fun q => by cases q) (by show ¬ (i < 0 ∨ (arrV _ _ _).slots.size ≤ _); rw [arrV_size]; exact hi) rfl rfl hdg fun H1 e1 z oq => ?_
  refine kk p l e s m args below meth cd H1 _ lsA C (nRep_st R z oq ⟨cA, ?_, h2, h3⟩) L (nLoc F hB)
  rw [e1, vp_cell_l, vp_cell_l, arrV_store]
  congr 2
  funext q
  by_cases hq : q = i.toNatClampNeg <;> simp [updV, nUp, hq]
theorem x_aastore {a n j v ci : Nat} {r : vw_C} {vs : List Value} {f : Nat → Option Nat} {i : Int32} (hd : nD y pc .aastore 1 p2 o) (hc : vwCl[ci]? = some r) (hat : nAt h a = some (nAr (.object r.1) n f)) (hv : nAt h v = some (nOb ci vs)) (hi : nIx i n j) (hB : h.2.1 ≤ a) (kk : nG y κ cu su p2 ls st (nSt h a (nAr (.object r.1) n (nUp f j (some v))))) : nG y κ cu su pc ls (.ref v :: .int i :: .ref a :: st) h := by
  intro p l e s m args below meth cd H locs lsA C R L F
  obtain ⟨hdg, rfl, -⟩ := hd
  obtain ⟨hi, rfl⟩ := hi
  obtain ⟨cA, h1, h2, h3⟩ := R.2 a _ hat
  have hlt : i.toNatClampNeg < n := Nat.not_le.mp fun q => hi (Or.inr q)
  have h0 : ¬ i < 0 := fun q => hi (Or.inl q)
  obtain ⟨r', hr', cellV, g1, g2, g3, -⟩ := R.2 v _ hv
  have hcls := (C.2.2.2.2.2.2.2.2.1.1 ci r hc).2
  obtain ⟨kA, comp, k1, k2, k3, -⟩ := id h3
  have hcomp : comp = h.1.1 ci := Option.some.inj (k3.symm.trans hcls.1)
  subst hcomp
  obtain ⟨kC, hkC, -⟩ := hcls.2
  refine W.aast C.1 C.2.1 h1 (fun q h => by cases h) (fun h => by cases h) k1 k2 rfl hkC ⟨h0, by show _ < (arrV _ _ _).slots.size; rw [arrV_size]; exact hlt⟩ g1 (fun q h => by rw [g3] at h; cases h) (by rw [g2]; exact hkC) (by rw [g2]; exact va_assign hcls) rfl rfl hdg fun H1 e1 z oq => ?_
  refine kk p l e s m args below meth cd H1 _ lsA C (nRep_st R z oq ⟨cA, ?_, h2, h3⟩) L (nLoc F hB)
  rw [e1, vp_cell_q, vp_cell_q, arrV_store]
  congr 2
  funext q
  by_cases hq : q = i.toNatClampNeg <;> simp [updV, nUp, hq, va_rf]
theorem x_sld {a n j : Nat} {f : Nat → Int32} {i : Int32} (hd : nD y pc .iaload 1 p2 o) (hat : nAt h a = some (.inr (.inr (n, f)))) (hi : nIx i n j) (kk : nG y κ cu su p2 ls (.int (f j) :: st) h) : nG y κ cu su pc ls (.int i :: .ref a :: st) h := by
  intro p l e s m args below meth cd H locs lsA C R L F
  obtain ⟨hdg, rfl, -⟩ := hd
  obtain ⟨hi, rfl⟩ := hi
  obtain ⟨scr, h1, h2, h3, h4, h5⟩ := R.2 a _ hat
  have hlt : i.toNatClampNeg < n := Nat.not_le.mp fun q => hi (Or.inr q)
  exact W.iald (v := .int (f i.toNatClampNeg)) C.1 C.2.1 h1 h2 h3 (by rw [h4]; exact hi) (h5 _ hlt) rfl rfl hdg (kk p l e s m args below meth cd H locs lsA C R L F)
theorem x_slen {a n : Nat} {f : Nat → Int32} (hd : nD y pc .arraylength 1 p2 o) (hat : nAt h a = some (.inr (.inr (n, f)))) (kk : nG y κ cu su p2 ls (.int (nI n) :: st) h) : nG y κ cu su pc ls (.ref a :: st) h := by
  intro p l e s m args below meth cd H locs lsA C R L F
  obtain ⟨hdg, rfl, -⟩ := hd
  obtain ⟨scr, h1, h2, h3, h4, h5⟩ := R.2 a _ hat
  exact W.alen (n := nI n) C.1 C.2.1 h1 h2 (by rw [h4]; rfl) rfl rfl hdg (kk p l e s m args below meth cd H locs lsA C R L F)
end NH
end
section
/-! THE PLAIN WORLD: what is made, calls, ends, and a method's contract out of its walk. -/
def nN (o idx c N : Nat) : Prop := ∃ q : vw_C, vwCl[c]? = some q ∧ q.2.2 = N ∧ Cond.classLink (cNm o) idx q.1 ∈ nWs ∧ Cond.instantiable q.1 N ∈ nWs ∧ Cond.initialized q.1 ∈ nWs
def nDf (c : Nat) (fs : List Value) : Prop := ∀ q : vw_C, vwCl[c]? = some q → ∃ ty : Nat → FieldType, (∀ k, k < q.2.2 → parseFieldDescriptor (q.2.1 k).2.2.1 = some (ty k)) ∧ ∀ j, j < q.2.2 → defaultValue (ty j) = vp_V fs j
def nMo (z : nM) (n : Nat) : Prop := Cond.code z.1 z.2.1 z.2.2.1 z.2.2.2.1 ∈ nWs ∧ Cond.initialized z.1.cls ∈ nWs ∧ (z.1.cls ≠ "java/lang/invoke/MethodHandle" ∧ z.1.cls ≠ "java/lang/invoke/VarHandle") ∧ (parseMethodDescriptor z.1.desc).map (fun d => d.parameters.length) = some n
def nLk (o idx : Nat) (z : nM) : Prop := Cond.methodLink (cNm o) idx z.1 ∈ nWs
def nLn (o idx : Nat) (z : nM) : Prop := (cNm o, idx, z.1, "NetLoft") ∈ nNL
def nVi (z : nM) : Prop := Cond.instanceMethod z.1 ∈ nWs ∧ Cond.selects z.1.cls z.1 z.1 ∈ nWs
def nSc (z : nM) : Prop := Cond.static z.1 ∈ nWs
def nIi (z : nM) : Prop := Cond.instanceMethod z.1 ∈ nWs ∧ z.1.name = "<init>"
abbrev nCe (z : nM) : Nat := z.2.2.2.2.2.2.1
abbrev nSl (z : nM) : Nat := z.2.2.2.2.2.2.2.1
/-- the room for a call: frames and words -/
def nRo (κ : nKp) (z : nM) : Prop := z.2.2.2.2.2.1 + 1 ≤ κ.1.frames ∧ 8 + (z.2.2.1 + 11) + z.2.2.2.2.2.2.2.2 ≤ κ.1.locals
theorem nWs_good {w : Cond} (h : w ∈ nWs) : (w.onTables && w.keeps) = true ∨ ∃ ty, w = .arrayClass ty := good_of_word (List.mem_filter.mp h).2
theorem nGood {z : nM} {n : Nat} (hm : nMo z n) : GoodIn nWs (nWy z) := fun w hw => by
  rcases List.mem_cons.mp hw with rfl | hw
  · exact ⟨hm.1, nWs_good hm.1⟩
  · exact ⟨hw, nWs_good hw⟩
section NX
variable {y : nM} {κ : nKp} {cu su pc p2 o : Nat} {ls : List (Option Value)} {st : List Value} {h : nPH}
theorem x_new (hco : ∀ c, nCo c) {idx c N : Nat} {fs : List Value} (hd : nD y pc (.new idx) 3 p2 o) (hn : nN o idx c N) (hdf : nDf c fs) (hc : cu + 1 ≤ κ.1.cells) (hs : su + N ≤ κ.1.slots) (kk : nG y κ (cu + 1) (su + N) p2 ls (.ref h.2.2.1 :: st) (nNw h (nOb c fs))) : nG y κ cu su pc ls st h := by
  intro p l e s m args below meth cd H locs lsA C R L F
  obtain ⟨hdg, rfl, rfl⟩ := hd
  obtain ⟨q, hq, rfl, w1, w2, w3⟩ := hn
  obtain ⟨ty, hty, hfs⟩ := hdf q hq
  have K := fun H2 => kk p l e s m args below meth cd H2 locs lsA C
  obtain ⟨hx, hb, hml, hown, hts, hr, hlk, hnm, hK⟩ := C
  have hKn := hK.1.1 c _ hq
  refine W.newcK hx hb hown (hts _ w1) (hts _ w2) (hts _ w3) rfl hdg hc hs hKn.2.1 rfl fun H1 kC hkC e1 z1 o1 => ?_
  have K2 := K H1 (nRep_nw R z1 o1 ⟨q, hq, (u_born ty hts (hco c q hq).1 hKn hkC e1 hty).to hfs⟩) L F
  rw [← R.1] at K2
  exact K2
theorem x_newa {idx N : Nat} {n : Int32} {at_ : ArrayType} {x : vp_A} (hd : nD y pc (.newarray at_) 2 p2 o) (hw : Cond.arrayClass (newarray.typeOf at_) ∈ nWs) (hn : ¬ n < 0) (hN : n.toNatClampNeg = N) (hb : N * componentBytes (newarray.typeOf at_) ≤ 536870912) (hx : ∀ cA : ClassId, vp_cell cA x = arrV cA N (fun _ => defaultValue (newarray.typeOf at_))) (hc : cu + 1 ≤ κ.1.cells) (hs : su + N ≤ κ.1.slots)
    (kk : nG y κ (cu + 1) (su + N) p2 ls (.ref h.2.2.1 :: st) (nNw h (.inl (newarray.typeOf at_, x)))) : nG y κ cu su pc ls (.int n :: st) h := by
  intro p l e s m args below meth cd H locs lsA C R L F
  obtain ⟨hdg, rfl, rfl⟩ := hd
  have K := fun H2 => kk p l e s m args below meth cd H2 locs lsA C
  refine va_newaK C.1 C.2.1 (C.2.2.2.2.1 _ hw) rfl hdg rfl hn hN hb hc hs rfl fun H1 cA e1 z1 o1 hAr hNm => ?_
  have K2 := K H1 (nRep_nw R z1 o1 ⟨cA, e1.trans (congrArg some (hx cA).symm), hAr, by cases at_ <;> exact hNm⟩) L F
  rw [← R.1] at K2
  exact K2
theorem x_newaI {N : Nat} {n : Int32} (hd : nD y pc (.newarray .int) 2 p2 o) (hw : Cond.arrayClass .int ∈ nWs) (hn : ¬ n < 0) (hN : n.toNatClampNeg = N) (hb : N * 4 ≤ 536870912) (hc : cu + 1 ≤ κ.1.cells) (hs : su + N ≤ κ.1.slots) (kk : nG y κ (cu + 1) (su + N) p2 ls (.ref h.2.2.1 :: st) (nNw h (nAi N (fun _ => 0)))) : nG y κ cu su pc ls (.int n :: st) h :=
  x_newa (idx := 0) (x := (N, .inl (fun _ => 0))) hd hw hn hN hb (fun _ => rfl) hc hs kk
theorem x_newaZ {N : Nat} {n : Int32} (hd : nD y pc (.newarray .boolean) 2 p2 o) (hw : Cond.arrayClass .boolean ∈ nWs) (hn : ¬ n < 0) (hN : n.toNatClampNeg = N) (hb : N * 1 ≤ 536870912) (hc : cu + 1 ≤ κ.1.cells) (hs : su + N ≤ κ.1.slots) (kk : nG y κ (cu + 1) (su + N) p2 ls (.ref h.2.2.1 :: st) (nNw h (nAz N (fun _ => 0)))) : nG y κ cu su pc ls (.int n :: st) h :=
  x_newa (idx := 0) (x := (N, .inl (fun _ => 0))) hd hw hn hN hb (fun _ => rfl) hc hs kk
theorem x_newaL {N : Nat} {n : Int32} (hd : nD y pc (.newarray .long) 2 p2 o) (hw : Cond.arrayClass .long ∈ nWs) (hn : ¬ n < 0) (hN : n.toNatClampNeg = N) (hb : N * 8 ≤ 536870912) (hc : cu + 1 ≤ κ.1.cells) (hs : su + N ≤ κ.1.slots) (kk : nG y κ (cu + 1) (su + N) p2 ls (.ref h.2.2.1 :: st) (nNw h (nAl N (fun _ => 0)))) : nG y κ cu su pc ls (.int n :: st) h :=
  x_newa (idx := 0) (x := (N, .inr (.inl (fun _ => 0)))) hd hw hn hN hb (fun _ => rfl) hc hs kk
theorem x_newq {idx N : Nat} {n : Int32} {Cn : String} (hd : nD y pc (.anewarray idx) 3 p2 o) (hw : Cond.classLink (cNm o) idx Cn ∈ nWs) (ho : Cn = "NetLoft$Panel" ∨ Cn = "NetLoft$Row") (hn : ¬ n < 0) (hN : n.toNatClampNeg = N) (hb : N * 4 ≤ 536870912) (hc : cu + 1 ≤ κ.1.cells) (hs : su + N ≤ κ.1.slots) (kk : nG y κ (cu + 1) (su + N) p2 ls (.ref h.2.2.1 :: st) (nNw h (nAr (.object Cn) N (fun _ => none)))) : nG y κ cu su pc ls (.int n :: st) h := by
  intro p l e s m args below meth cd H locs lsA C R L F
  obtain ⟨hdg, rfl, rfl⟩ := hd
  subst hN
  have K := fun H2 => kk p l e s m args below meth cd H2 locs lsA C
  have hov : va_AO Cn s := by
    rcases ho with rfl | rfl
    · exact C.2.2.2.2.2.2.2.2.2.2.1
    · exact C.2.2.2.2.2.2.2.2.2.2.2.1
  refine W.anew C.1 C.2.1 C.2.2.2.1 (C.2.2.2.2.1 _ hw) (va_AO.use hov) rfl hdg rfl hn hb hc hs fun cA kA comp f1 f2 f3 f4 => ?_
  generalize hH1 : H.push ({ cls := cA, slots := Array.replicate n.toNatClampNeg .null, vm := .none } : Cell) = H1
  have z1 : H1.size = H.size + 1 := by rw [← hH1, Array.size_push]
  have e1 : H1[H.size]? = some (arrV cA n.toNatClampNeg (fun _ => .null)) := by rw [← hH1, Array.getElem?_push_size, ← arrV_new]
  have o1 : ∀ q : Nat, q < H.size → H1[q]? = H[q]? := fun q hq => by rw [← hH1, Array.getElem?_push, if_neg (Nat.ne_of_lt hq)]
  have hAr : ArrOfT s cA (.object Cn) := fun N z => ⟨(fun k h => by cases h), kA, f2, comp, f3⟩
  have K2 := K H1 (nRep_nw R z1 o1 ⟨cA, e1, hAr, kA, comp, f2, f3, f4, f1⟩) L F
  rw [← R.1] at K2
  exact K2
theorem nAfter {mc ms : Nat} {st0 rest : List Value} {Post : Option Value → nPH → Prop} {p : Program} {l : Launch} {e : Env} {s : State} {m : MethodId} {args : Array Value} {below : List Frame} {meth : Method} {cd : Code} {H : Heap} {locs : List Loc} {lsA : Array Slot} {aa : Array Value}
    (C : nCx y h.1 p s m args meth cd) (L : nLs lsA y.2.2.1 ls) (F : ∀ q ∈ locs, h.2.1 ≤ q.base)
    (hr : va_Run p l e κ.1 s m args below meth cd H locs cu su mc ms (F0 m pc lsA st0) rest (nQc h.1 h.2.1 Post aa) (fun q => h.2.1 ≤ q))
    (kk : ∀ (v : Option Value) (h2 : nPH), Post v h2 → h2.1 = h.1 → h2.2.1 = h.2.1 → nG y κ (cu + mc) (su + ms) (pc + 3) ls (v.toList ++ rest) h2) : W p l e κ.1 s m args below meth cd H locs cu su (κ.2 below args s) (F0 m pc lsA st0) := by
  intro T hT X
  obtain ⟨v, st₀, t, T', L2, h0, X', hL, e1, e2, ⟨v', h2, hv, hpost, hd1, hb1, hrep⟩, stp⟩ := hr T hT X
  cases hv
  have hal : s.vm.Alike t.vm := by rw [← e2]; exact X'.warmed.alike
  obtain ⟨t2, a1, b1⟩ := kk v h2 hpost hd1 hb1 p l e s m args below meth cd T'.heap (locs ++ L2) lsA (by rw [hd1]; exact C) (by rw [e1]; exact hrep.moved hal.symm) L (fun q hq => by
    rw [hb1]
    rcases List.mem_append.mp hq with hq | hq
    · exact F q hq
    · exact hL q hq) T' rfl X'
  exact ⟨t2, stp t2 a1, b1⟩
theorem nCallB {z : nM} {n idx : Nat} {p : Program} {s : State} {m : MethodId} {args : Array Value} {meth : Method} {cd : Code} (hl : nLk y.2.2.2.2.1 idx z) (hm : nMo z n) (hro : nRo κ z) (C : nCx y h.1 p s m args meth cd) : CallB κ.1 s args (cNm y.2.2.2.2.1) idx z.1 z.2.1 z.2.2.1 z.2.2.2.1 (nWy z) (nRm z) (nCe z) (nSl z) n :=
  callB_of n C.2.2.2.2.1 (nGood hm) rfl rfl rfl (C.2.2.2.2.1 _ hm.2.1) (C.2.2.2.2.1 _ hl) ⟨hm.2.2.1.1, hm.2.2.1.2, hm.2.2.2⟩ hro
theorem nPreS {z : nM} {av : List Value} {Post : Option Value → nPH → Prop} {p : Program} {s : State} {m : MethodId} {args : Array Value} {meth : Method} {cd : Code} {H : Heap} (C : nCx y h.1 p s m args meth cd) (R : nRep h s H) : PreS s H (nPc h av) av :=
  ⟨nPc_blind h av, fun U hU hW => ⟨rfl, by rw [hU]; exact R.moved hW.alike, nK.moved hW C.2.2.2.2.2.2.2.2⟩⟩
theorem x_callV {z : nM} {idx n c b : Nat} {As rest st0 fs : List Value} {Post : Option Value → nPH → Prop} (hd : nD y pc (.invokevirtual idx) 3 p2 o) (hl : nLk o idx z) (hm : nMo z n) (hv : nVi z) (hz : nSp z (.ref b :: As) h Post) (hat : nAt h b = some (nOb c fs)) (hcn : ∃ q : vw_C, vwCl[c]? = some q ∧ q.1 = z.1.cls) (hn : As.length = n) (hro : nRo κ z) (hrc : cu + nCe z ≤ κ.1.cells) (hrs : su + nSl z ≤ κ.1.slots) (hw : (rest.map fun v => v.category).sum ≤ 8) (hst : As.reverse ++ .ref b :: rest = st0)
    (kk : ∀ (v : Option Value) (h2 : nPH), Post v h2 → h2.1 = h.1 → h2.2.1 = h.2.1 → nG y κ (cu + nCe z) (su + nSl z) p2 ls (v.toList ++ rest) h2) : nG y κ cu su pc ls st0 h := by
  intro p l e s m args below meth cd H locs lsA C R L F
  obtain ⟨hdg, rfl, rfl⟩ := hd
  obtain ⟨q, hq, hqc⟩ := hcn
  subst hst
  refine nAfter C L F (va_runV (As := As) (rest := rest) ⟨C.1, C.2.1, C.2.2.1, C.2.2.2.1, C.2.2.2.2.1⟩ (hz l) ⟨nCallB hl hm hro C, C.2.2.2.2.1 _ hv.1, C.2.2.2.2.1 _ hv.2⟩ ⟨nPc_blind h _, ?_, (nPreS (z := z) (Post := Post) C R).2⟩ rfl hn L.1 rfl (lv_room hw) hdg ⟨hrc, hrs⟩) kk
  obtain ⟨r, h1, cell, g1, g2, g3, -⟩ := R.2 b _ hat
  refine ⟨cell, g1, by rw [g3]; rfl, ?_⟩
  rw [g2, ← hqc]
  exact (C.2.2.2.2.2.2.2.2.1.1 c q hq).2.1
theorem x_callS {z : nM} {idx n : Nat} {As rest st0 : List Value} {Post : Option Value → nPH → Prop} (hd : nD y pc (.invokestatic idx) 3 p2 o) (hl : nLk o idx z) (hm : nMo z n) (hv : nSc z) (hz : nSp z As h Post) (hn : As.length = n) (hro : nRo κ z) (hrc : cu + nCe z ≤ κ.1.cells) (hrs : su + nSl z ≤ κ.1.slots) (hw : (rest.map fun v => v.category).sum ≤ 8) (hst : As.reverse ++ rest = st0)
    (kk : ∀ (v : Option Value) (h2 : nPH), Post v h2 → h2.1 = h.1 → h2.2.1 = h.2.1 → nG y κ (cu + nCe z) (su + nSl z) p2 ls (v.toList ++ rest) h2) : nG y κ cu su pc ls st0 h := by
  intro p l e s m args below meth cd H locs lsA C R L F
  obtain ⟨hdg, rfl, rfl⟩ := hd
  subst hst
  exact nAfter C L F (va_runS (As := As) (rest := rest) ⟨C.1, C.2.1, C.2.2.1, C.2.2.2.1, C.2.2.2.2.1⟩ (hz l) ⟨nCallB hl hm hro C, C.2.2.2.2.1 _ hv⟩ (nPreS (z := z) (Post := Post) C R) rfl hn L.1 rfl (lv_room hw) hdg ⟨hrc, hrs⟩) kk
theorem x_callI {z : nM} {idx n b : Nat} {As rest st0 : List Value} {Post : Option Value → nPH → Prop} (hd : nD y pc (.invokespecial idx) 3 p2 o) (hl : nLk o idx z) (hm : nMo z n) (hv : nIi z) (hret : z.2.2.2.1 = none) (hz : nSp z (.ref b :: As) h Post) (hn : As.length = n) (hro : nRo κ z) (hrc : cu + nCe z ≤ κ.1.cells) (hrs : su + nSl z ≤ κ.1.slots) (hw : (rest.map fun v => v.category).sum ≤ 8) (hst : As.reverse ++ .ref b :: rest = st0)
    (kk : ∀ (v : Option Value) (h2 : nPH), Post v h2 → h2.1 = h.1 → h2.2.1 = h.2.1 → nG y κ (cu + nCe z) (su + nSl z) p2 ls (v.toList ++ rest) h2) : nG y κ cu su pc ls st0 h := by
  intro p l e s m args below meth cd H locs lsA C R L F
  obtain ⟨hdg, rfl, rfl⟩ := hd
  subst hst
  have cb := nCallB hl hm hro C
  rw [hret] at cb
  exact nAfter C L F (va_runI (As := As) (rest := rest) ⟨C.1, C.2.1, C.2.2.1, C.2.2.2.1, C.2.2.2.2.1⟩ (hz l) ⟨cb, hv.2, C.2.2.2.2.1 _ hv.1⟩ (nPreS (z := z) (Post := Post) C R) rfl hn L.1 rfl (lv_room hw) hdg ⟨hrc, hrs⟩) kk
theorem x_callSN {z : nM} {idx n : Nat} {As rest st0 : List Value} {Post : Option Value → nPH → Prop} (hd : nD y pc (.invokestatic idx) 3 p2 o) (hl : nLn o idx z) (hm : nMo z n) (hv : nSc z) (hz : nSp z As h Post) (hn : As.length = n) (hro : nRo κ z) (hrc : cu + nCe z ≤ κ.1.cells) (hrs : su + nSl z ≤ κ.1.slots) (hw : (rest.map fun v => v.category).sum ≤ 8) (hst : As.reverse ++ rest = st0)
    (kk : ∀ (v : Option Value) (h2 : nPH), Post v h2 → h2.1 = h.1 → h2.2.1 = h.2.1 → nG y κ (cu + nCe z) (su + nSl z) p2 ls (v.toList ++ rest) h2) : nG y κ cu su pc ls st0 h := by
  intro p l e s m args below meth cd H locs lsA C R L F
  obtain ⟨hdg, rfl, rfl⟩ := hd
  subst hst
  have hN := C.2.2.2.2.2.2.2.2.2.1 _ hl
  exact nAfter C L F (va_runSN (As := As) (rest := rest) ⟨C.1, C.2.1, C.2.2.1, C.2.2.2.1, C.2.2.2.2.1⟩ (hz l) ⟨va_cnB n C.2.2.2.2.1 (nGood hm) rfl rfl rfl hN (C.2.2.2.2.1 _ hm.2.1) ⟨hm.2.2.1.1, hm.2.2.1.2, hm.2.2.2⟩ hro, C.2.2.2.2.1 _ hv, trivial⟩ (nPreS (z := z) (Post := Post) C R) rfl hn L.1 rfl (lv_room hw) hdg ⟨hrc, hrs⟩) kk
theorem x_callIN {z : nM} {idx n b : Nat} {As rest st0 : List Value} {Post : Option Value → nPH → Prop} (hd : nD y pc (.invokespecial idx) 3 p2 o) (hl : nLn o idx z) (hm : nMo z n) (hv : nIi z) (hret : z.2.2.2.1 = none) (hz : nSp z (.ref b :: As) h Post) (hn : As.length = n) (hro : nRo κ z) (hrc : cu + nCe z ≤ κ.1.cells) (hrs : su + nSl z ≤ κ.1.slots) (hw : (rest.map fun v => v.category).sum ≤ 8) (hst : As.reverse ++ .ref b :: rest = st0)
    (kk : ∀ (v : Option Value) (h2 : nPH), Post v h2 → h2.1 = h.1 → h2.2.1 = h.2.1 → nG y κ (cu + nCe z) (su + nSl z) p2 ls (v.toList ++ rest) h2) : nG y κ cu su pc ls st0 h := by
  intro p l e s m args below meth cd H locs lsA C R L F
  obtain ⟨hdg, rfl, rfl⟩ := hd
  subst hst
  have hN := C.2.2.2.2.2.2.2.2.2.1 _ hl
  have cb : va_CN κ.1 s args (cNm y.2.2.2.2.1) idx z.1 "NetLoft" z.2.1 z.2.2.1 z.2.2.2.1 (nWy z) (nRm z) (nCe z) (nSl z) n := va_cnB n C.2.2.2.2.1 (nGood hm) rfl rfl rfl hN (C.2.2.2.2.1 _ hm.2.1) ⟨hm.2.2.1.1, hm.2.2.1.2, hm.2.2.2⟩ hro
  rw [hret] at cb
  exact nAfter C L F (va_runIN (As := As) (rest := rest) ⟨C.1, C.2.1, C.2.2.1, C.2.2.2.1, C.2.2.2.2.1⟩ (hz l) ⟨cb, hv.2, C.2.2.2.2.1 _ hv.1⟩ (nPreS (z := z) (Post := Post) C R) rfl hn L.1 rfl (lv_room hw) hdg ⟨hrc, hrs⟩) kk
theorem x_objI {idx a : Nat} (hob : Cond.instanceMethod Lib.objectInit ∈ nWs ∧ Cond.code Lib.objectInit ⟨#[0xb1]⟩ 1 none ∈ nWs) (hd : nD y pc (.invokespecial idx) 3 p2 o) (hl : Cond.methodLink (cNm o) idx Lib.objectInit ∈ nWs) (hf : 1 ≤ κ.1.frames) (hlo : (st.map fun v => v.category).sum + 12 ≤ κ.1.locals) (kk : nG y κ cu su p2 ls st h) : nG y κ cu su pc ls (.ref a :: st) h := by
  intro p l e s m args below meth cd H locs lsA C R L F
  obtain ⟨hdg, rfl, rfl⟩ := hd
  exact W.objInit C.1 C.2.1 C.2.2.2.1 (C.2.2.2.2.1 _ hl) (C.2.2.2.2.1 _ hob.1) (C.2.2.2.2.1 _ hob.2) rfl (by rw [C.2.2.1]; exact L.1) rfl hdg hf (by show 2 * 0 + _ + 12 ≤ _; omega) (kk p l e s m args below meth cd H locs lsA C R L F)
theorem x_ldc {idx : Nat} {v : Int32} (hd : nD y pc (.ldc idx) 2 p2 o) (hc : Cond.constant (cNm o) idx v ∈ nWs) (kk : nG y κ cu su p2 ls (.int v :: st) h) : nG y κ cu su pc ls st h := by
  intro p l e s m args below meth cd H locs lsA C R L F
  obtain ⟨hdg, rfl, rfl⟩ := hd
  exact lv_ldc C.1 C.2.1 C.2.2.2.1 (C.2.2.2.2.1 _ hc) hdg (kk p l e s m args below meth cd H locs lsA C R L F)
theorem x_ldcw {idx : Nat} {v : Int32} (hd : nD y pc (.ldc_w idx) 3 p2 o) (hc : Cond.constant (cNm o) idx v ∈ nWs) (kk : nG y κ cu su p2 ls (.int v :: st) h) : nG y κ cu su pc ls st h := by
  intro p l e s m args below meth cd H locs lsA C R L F
  obtain ⟨hdg, rfl, rfl⟩ := hd
  exact lv_ldcw C.1 C.2.1 C.2.2.2.1 (C.2.2.2.2.1 _ hc) hdg (kk p l e s m args below meth cd H locs lsA C R L F)
theorem x_ldc2 {idx : Nat} {v : Int64} (hd : nD y pc (.ldc2_w idx) 3 p2 o) (hc : Cond.constantLong (cNm o) idx v ∈ nWs) (kk : nG y κ cu su p2 ls (.long v :: st) h) : nG y κ cu su pc ls st h := by
  intro p l e s m args below meth cd H locs lsA C R L F
  obtain ⟨hdg, rfl, rfl⟩ := hd
  exact lv_ldc2 C.1 C.2.1 C.2.2.2.1 (C.2.2.2.2.1 _ hc) hdg (kk p l e s m args below meth cd H locs lsA C R L F)
theorem x_ireturn {D : va_G} {B : Nat} {Post : Option Value → nPH → Prop} {v : Int32} {ty : FieldType} (hd : nD y pc .ireturn 1 p2 o) (hr : y.2.2.2.1 = some ty) (hn : narrow ty (.int v) = .int v) (hD : h.1 = D) (hB : h.2.1 = B) (hc : cu ≤ nCe y) (hs : su ≤ nSl y) (hp : Post (some (.int v)) h) : nG y (nKy y D B Post) cu su pc ls [.int v] h := by
  intro p l e s m args below meth cd H locs lsA C R L F
  subst hD; subst hB
  refine W.widen hc hs ?_
  have hlk := C.2.2.2.2.2.2.1
  exact W.zret C.1 C.2.1 (C.2.2.2.2.2.1.trans hr) hn (fun t ht hW => ⟨_, h, rfl, hp, rfl, rfl, by rw [ht]; exact R.moved hW.alike⟩) F hd.1 (hlocks := hlk)
theorem x_lreturn {D : va_G} {B : Nat} {Post : Option Value → nPH → Prop} {v : Int64} (hd : nD y pc .lreturn 1 p2 o) (hr : y.2.2.2.1 = some .long) (hD : h.1 = D) (hB : h.2.1 = B) (hc : cu ≤ nCe y) (hs : su ≤ nSl y) (hp : Post (some (.long v)) h) : nG y (nKy y D B Post) cu su pc ls [.long v] h := by
  intro p l e s m args below meth cd H locs lsA C R L F
  subst hD; subst hB
  refine W.widen hc hs ?_
  have hlk := C.2.2.2.2.2.2.1
  exact W.lret C.1 C.2.1 (C.2.2.2.2.2.1.trans hr) (fun t ht hW => ⟨_, h, rfl, hp, rfl, rfl, by rw [ht]; exact R.moved hW.alike⟩) F hd.1 (hlocks := hlk)
theorem x_areturn {D : va_G} {B : Nat} {Post : Option Value → nPH → Prop} {v : Value} {rt : FieldType} (hd : nD y pc .areturn 1 p2 o) (hr : y.2.2.2.1 = some rt) (hrt : (∃ n, rt = .object n) ∨ ∃ t, rt = .array t) (hv : v = .null ∨ ∃ a, v = .ref a) (hD : h.1 = D) (hB : h.2.1 = B) (hc : cu ≤ nCe y) (hs : su ≤ nSl y) (hp : Post (some v) h) : nG y (nKy y D B Post) cu su pc ls [v] h := by
  intro p l e s m args below meth cd H locs lsA C R L F
  subst hD; subst hB
  refine W.widen hc hs ?_
  have hlk := C.2.2.2.2.2.2.1
  exact W.aret C.1 C.2.1 (C.2.2.2.2.2.1.trans hr) hrt hv (fun t ht hW => ⟨_, h, rfl, hp, rfl, rfl, by rw [ht]; exact R.moved hW.alike⟩) F hd.1 (hlocks := hlk)
theorem x_return {D : va_G} {B : Nat} {Post : Option Value → nPH → Prop} (hd : nD y pc .return_ 1 p2 o) (hr : y.2.2.2.1 = none) (hD : h.1 = D) (hB : h.2.1 = B) (hc : cu ≤ nCe y) (hs : su ≤ nSl y) (hp : Post none h) : nG y (nKy y D B Post) cu su pc ls [] h := by
  intro p l e s m args below meth cd H locs lsA C R L F
  subst hD; subst hB
  refine W.widen hc hs ?_
  have hlk := C.2.2.2.2.2.2.1
  exact W.vret C.1 C.2.1 (C.2.2.2.2.2.1.trans hr) (fun t ht hW => ⟨_, h, rfl, hp, rfl, rfl, by rw [ht]; exact R.moved hW.alike⟩) F hd.1 (hlocks := hlk)
end NX
def nEv : List Value → List (Option Value)
  | [] => []
  | v :: vs => if v.category = 2 then some v :: none :: nEv vs else some v :: nEv vs
theorem nEv_at : ∀ (vs : List Value) (n i j : Nat) (v : Value), (nEv vs ++ List.replicate n none)[i]? = some (some v) → (j + i, v) ∈ lv_args j vs
  | [], n, i, j, v, h => by
    simp [nEv, List.getElem?_replicate] at h
  | x :: vs, n, i, j, v, h => by
    unfold nEv at h
    unfold lv_args
    by_cases hc : x.category = 2
    · rw [if_pos hc] at h ⊢
      match i, h with
      | 0, h =>
        simp at h
        subst h
        exact List.mem_cons_self
      | 1, h => simp at h
      | i + 2, h =>
        have := nEv_at vs n i (j + 2) v (by simpa using h)
        rw [show j + (i + 2) = j + 2 + i by omega]
        exact List.mem_cons_of_mem _ this
    · rw [if_neg hc] at h ⊢
      match i, h with
      | 0, h =>
        simp at h
        subst h
        exact List.mem_cons_self
      | i + 1, h =>
        have := nEv_at vs n i (j + 1) v (by simpa using h)
        rw [show j + (i + 1) = j + 1 + i by omega]
        exact List.mem_cons_of_mem _ this
theorem nSp_of {y : nM} {av : List Value} {h : nPH} {Post : Option Value → nPH → Prop} {ls : List (Option Value)} (hpl : plainName y.1.cls = true) (hcn : cNm y.2.2.2.2.1 = y.1.cls) (hlen : (lg_sl av).length ≤ y.2.2.1) (hls : nSub ls (nEv av ++ List.replicate y.2.2.1 none)) (k : nG y (nKy y h.1 h.2.1 Post) 0 0 0 ls [] h) : nSp y av h Post := by
  intro l
  refine Met.ofW (cc := y.2.1) (maxL := y.2.2.1) (ret := y.2.2.2.1) hpl rfl ?_
  intro p e s m args below meth c s₁ B hml hv
  obtain ⟨rfl, hR, hK⟩ := hv
  have hts := atoms_spec (ws := nWy y) B.pre
  have he := lv_entry av (n := y.2.2.1) hlen
  rw [lg_entry_eq]
  refine k p l e s m _ below meth c s.heap [] _ ⟨B.exec, B.bytes, hml, by rw [hcn]; exact findClass_of_methodNamed B.named, fun w hw => hts w (List.mem_cons_of_mem _ hw), B.returns, B.notSynchronized, (name_of_methodNamed B.named B.method).1, hK⟩ hR ⟨he.1, he.2.1, fun i v hi => ?_⟩ (fun q hq => by cases hq)
  have h1 := nEv_at av _ i 0 v (nSub_at hls i v hi)
  rw [Nat.zero_add] at h1
  exact he.2.2 (i, v) h1
theorem nSp.mono {y : nM} {av : List Value} {h : nPH} {P Q : Option Value → nPH → Prop} (hs : nSp y av h P) (hPQ : ∀ v h2, P v h2 → Q v h2) : nSp y av h Q := by
  intro l p e ha hc hk s m args below hf happ hpre hkk
  obtain ⟨k, o, h1, h2, h3, ⟨⟨v, h4, g1, g2, g3⟩, hL⟩⟩ := hs l p e ha hc hk s m args below hf happ hpre hkk
  exact ⟨k, o, h1, h2, h3, ⟨⟨v, h4, g1, hPQ v h4 g2, g3⟩, hL⟩⟩
end
