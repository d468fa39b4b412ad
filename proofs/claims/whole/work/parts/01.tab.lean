/-- a private method of a class that the tables say can be made, by its rows of tables_1 -/
def lw_okq (q : MethodName × Nat) : Prop := (q.1.cls ≠ "java/lang/invoke/MethodHandle" ∧ q.1.cls ≠ "java/lang/invoke/VarHandle") ∧ Cond.instantiable q.1.cls q.2 ∈ tables_1 ∧ Cond.privateMethod q.1 ∈ tables_1 ∧ Cond.instanceMethod q.1 ∈ tables_1
theorem lw_p0 : lw_okq (⟨"NetLoft", "keep", "(LNetLoft$Panel;)I"⟩, 10) := ⟨⟨by decide +kernel, by decide +kernel⟩, List.mem_of_getElem? (i := 14) (by decide +kernel), List.mem_of_getElem? (i := 264) (by decide +kernel), List.mem_of_getElem? (i := 265) (by decide +kernel)⟩
theorem lw_p1 : lw_okq (⟨"NetLoft", "panelAt", "(I)LNetLoft$Panel;"⟩, 10) := ⟨⟨by decide +kernel, by decide +kernel⟩, List.mem_of_getElem? (i := 14) (by decide +kernel), List.mem_of_getElem? (i := 272) (by decide +kernel), List.mem_of_getElem? (i := 273) (by decide +kernel)⟩
theorem lw_p2 : lw_okq (⟨"NetLoft$Row", "shareOf", "(II)I"⟩, 7) := ⟨⟨by decide +kernel, by decide +kernel⟩, List.mem_of_getElem? (i := 215) (by decide +kernel), List.mem_of_getElem? (i := 402) (by decide +kernel), List.mem_of_getElem? (i := 403) (by decide +kernel)⟩
theorem lw_p3 : lw_okq (⟨"NetLoft$Hole", "clear", "()V"⟩, 9) := ⟨⟨by decide +kernel, by decide +kernel⟩, List.mem_of_getElem? (i := 24) (by decide +kernel), List.mem_of_getElem? (i := 457) (by decide +kernel), List.mem_of_getElem? (i := 458) (by decide +kernel)⟩
theorem lw_p4 : lw_okq (⟨"NetLoft$Hole", "reach", "(II)V"⟩, 9) := ⟨⟨by decide +kernel, by decide +kernel⟩, List.mem_of_getElem? (i := 24) (by decide +kernel), List.mem_of_getElem? (i := 462) (by decide +kernel), List.mem_of_getElem? (i := 463) (by decide +kernel)⟩
theorem lw_p5 : lw_okq (⟨"NetLoft$Hole", "reachFrom", "(LNetLoft$Panel;II)V"⟩, 9) := ⟨⟨by decide +kernel, by decide +kernel⟩, List.mem_of_getElem? (i := 24) (by decide +kernel), List.mem_of_getElem? (i := 467) (by decide +kernel), List.mem_of_getElem? (i := 468) (by decide +kernel)⟩
theorem lw_p6 : lw_okq (⟨"NetLoft$Hole", "listReached", "(LNetLoft$Panel;)V"⟩, 9) := ⟨⟨by decide +kernel, by decide +kernel⟩, List.mem_of_getElem? (i := 24) (by decide +kernel), List.mem_of_getElem? (i := 473) (by decide +kernel), List.mem_of_getElem? (i := 474) (by decide +kernel)⟩
theorem lw_p7 : lw_okq (⟨"NetLoft$Way", "goTo", "(I)V"⟩, 4) := ⟨⟨by decide +kernel, by decide +kernel⟩, List.mem_of_getElem? (i := 62) (by decide +kernel), List.mem_of_getElem? (i := 507) (by decide +kernel), List.mem_of_getElem? (i := 508) (by decide +kernel)⟩
theorem lw_p8 : lw_okq (⟨"NetLoft$Way", "goBackFrom", "(I)V"⟩, 4) := ⟨⟨by decide +kernel, by decide +kernel⟩, List.mem_of_getElem? (i := 62) (by decide +kernel), List.mem_of_getElem? (i := 527) (by decide +kernel), List.mem_of_getElem? (i := 528) (by decide +kernel)⟩
theorem lw_p9 : lw_okq (⟨"NetLoft$Seam", "spread", "(II)V"⟩, 2) := ⟨⟨by decide +kernel, by decide +kernel⟩, List.mem_of_getElem? (i := 98) (by decide +kernel), List.mem_of_getElem? (i := 586) (by decide +kernel), List.mem_of_getElem? (i := 587) (by decide +kernel)⟩
theorem lw_p10 : lw_okq (⟨"NetLoft$Seam", "giveOneEach", "(LNetLoft$Row;)V"⟩, 2) := ⟨⟨by decide +kernel, by decide +kernel⟩, List.mem_of_getElem? (i := 98) (by decide +kernel), List.mem_of_getElem? (i := 592) (by decide +kernel), List.mem_of_getElem? (i := 593) (by decide +kernel)⟩
theorem lw_p11 : lw_okq (⟨"NetLoft", "openingOf", "(LNetLoft$Panel;)I"⟩, 10) := ⟨⟨by decide +kernel, by decide +kernel⟩, List.mem_of_getElem? (i := 14) (by decide +kernel), List.mem_of_getElem? (i := 618) (by decide +kernel), List.mem_of_getElem? (i := 619) (by decide +kernel)⟩
theorem lw_p12 : lw_okq (⟨"NetLoft$Loads", "countWholeSides", "(LNetLoft$Row;)V"⟩, 4) := ⟨⟨by decide +kernel, by decide +kernel⟩, List.mem_of_getElem? (i := 113) (by decide +kernel), List.mem_of_getElem? (i := 640) (by decide +kernel), List.mem_of_getElem? (i := 641) (by decide +kernel)⟩
theorem lw_p13 : lw_okq (⟨"NetLoft$Loads", "lose", "(ILNetLoft$Row;)V"⟩, 4) := ⟨⟨by decide +kernel, by decide +kernel⟩, List.mem_of_getElem? (i := 113) (by decide +kernel), List.mem_of_getElem? (i := 650) (by decide +kernel), List.mem_of_getElem? (i := 651) (by decide +kernel)⟩
theorem lw_p14 : lw_okq (⟨"NetLoft$Loads", "handOn", "(ILNetLoft$Row;)V"⟩, 4) := ⟨⟨by decide +kernel, by decide +kernel⟩, List.mem_of_getElem? (i := 113) (by decide +kernel), List.mem_of_getElem? (i := 654) (by decide +kernel), List.mem_of_getElem? (i := 655) (by decide +kernel)⟩
theorem lw_p15 : lw_okq (⟨"NetLoft$Loads", "inAll", "(ILNetLoft$Row;)J"⟩, 4) := ⟨⟨by decide +kernel, by decide +kernel⟩, List.mem_of_getElem? (i := 113) (by decide +kernel), List.mem_of_getElem? (i := 658) (by decide +kernel), List.mem_of_getElem? (i := 659) (by decide +kernel)⟩
def lw_privs_1 : List (MethodName × Nat) := [(⟨"NetLoft", "keep", "(LNetLoft$Panel;)I"⟩, 10), (⟨"NetLoft", "panelAt", "(I)LNetLoft$Panel;"⟩, 10), (⟨"NetLoft$Row", "shareOf", "(II)I"⟩, 7), (⟨"NetLoft$Hole", "clear", "()V"⟩, 9), (⟨"NetLoft$Hole", "reach", "(II)V"⟩, 9), (⟨"NetLoft$Hole", "reachFrom", "(LNetLoft$Panel;II)V"⟩, 9), (⟨"NetLoft$Hole", "listReached", "(LNetLoft$Panel;)V"⟩, 9), (⟨"NetLoft$Way", "goTo", "(I)V"⟩, 4), (⟨"NetLoft$Way", "goBackFrom", "(I)V"⟩, 4), (⟨"NetLoft$Seam", "spread", "(II)V"⟩, 2), (⟨"NetLoft$Seam", "giveOneEach", "(LNetLoft$Row;)V"⟩, 2), (⟨"NetLoft", "openingOf", "(LNetLoft$Panel;)I"⟩, 10), (⟨"NetLoft$Loads", "countWholeSides", "(LNetLoft$Row;)V"⟩, 4), (⟨"NetLoft$Loads", "lose", "(ILNetLoft$Row;)V"⟩, 4), (⟨"NetLoft$Loads", "handOn", "(ILNetLoft$Row;)V"⟩, 4), (⟨"NetLoft$Loads", "inAll", "(ILNetLoft$Row;)J"⟩, 4)]
theorem lw_r1 : ∀ q ∈ lw_privs_1, lw_okq q := List.forall_mem_cons.mpr ⟨lw_p0, List.forall_mem_cons.mpr ⟨lw_p1, List.forall_mem_cons.mpr ⟨lw_p2, List.forall_mem_cons.mpr ⟨lw_p3, List.forall_mem_cons.mpr ⟨lw_p4, List.forall_mem_cons.mpr ⟨lw_p5, List.forall_mem_cons.mpr ⟨lw_p6, List.forall_mem_cons.mpr ⟨lw_p7, List.forall_mem_cons.mpr ⟨lw_p8, List.forall_mem_cons.mpr ⟨lw_p9, List.forall_mem_cons.mpr ⟨lw_p10, List.forall_mem_cons.mpr ⟨lw_p11, List.forall_mem_cons.mpr ⟨lw_p12, List.forall_mem_cons.mpr ⟨lw_p13, List.forall_mem_cons.mpr ⟨lw_p14, List.forall_mem_cons.mpr ⟨lw_p15, fun _ h => absurd h List.not_mem_nil⟩⟩⟩⟩⟩⟩⟩⟩⟩⟩⟩⟩⟩⟩⟩⟩
theorem lw_p16 : lw_okq (⟨"NetLoftModel", "newPanel", "(II)I"⟩, 39) := ⟨⟨by decide +kernel, by decide +kernel⟩, List.mem_of_getElem? (i := 684) (by decide +kernel), List.mem_of_getElem? (i := 813) (by decide +kernel), List.mem_of_getElem? (i := 814) (by decide +kernel)⟩
theorem lw_p17 : lw_okq (⟨"NetLoftModel", "clears", "(II)V"⟩, 39) := ⟨⟨by decide +kernel, by decide +kernel⟩, List.mem_of_getElem? (i := 684) (by decide +kernel), List.mem_of_getElem? (i := 817) (by decide +kernel), List.mem_of_getElem? (i := 818) (by decide +kernel)⟩
theorem lw_p18 : lw_okq (⟨"NetLoftModel", "isPanel", "(I)Z"⟩, 39) := ⟨⟨by decide +kernel, by decide +kernel⟩, List.mem_of_getElem? (i := 684) (by decide +kernel), List.mem_of_getElem? (i := 828) (by decide +kernel), List.mem_of_getElem? (i := 829) (by decide +kernel)⟩
theorem lw_p19 : lw_okq (⟨"NetLoftModel", "given", "(II)I"⟩, 39) := ⟨⟨by decide +kernel, by decide +kernel⟩, List.mem_of_getElem? (i := 684) (by decide +kernel), List.mem_of_getElem? (i := 832) (by decide +kernel), List.mem_of_getElem? (i := 833) (by decide +kernel)⟩
theorem lw_p20 : lw_okq (⟨"NetLoftModel", "hangs", "(II)V"⟩, 39) := ⟨⟨by decide +kernel, by decide +kernel⟩, List.mem_of_getElem? (i := 684) (by decide +kernel), List.mem_of_getElem? (i := 836) (by decide +kernel), List.mem_of_getElem? (i := 837) (by decide +kernel)⟩
theorem lw_p21 : lw_okq (⟨"NetLoftModel", "isKnot", "(III)Z"⟩, 39) := ⟨⟨by decide +kernel, by decide +kernel⟩, List.mem_of_getElem? (i := 684) (by decide +kernel), List.mem_of_getElem? (i := 844) (by decide +kernel), List.mem_of_getElem? (i := 845) (by decide +kernel)⟩
theorem lw_p22 : lw_okq (⟨"NetLoftModel", "isRow", "(II)Z"⟩, 39) := ⟨⟨by decide +kernel, by decide +kernel⟩, List.mem_of_getElem? (i := 684) (by decide +kernel), List.mem_of_getElem? (i := 848) (by decide +kernel), List.mem_of_getElem? (i := 849) (by decide +kernel)⟩
theorem lw_p23 : lw_okq (⟨"NetLoftModel", "becomes", "(II)V"⟩, 39) := ⟨⟨by decide +kernel, by decide +kernel⟩, List.mem_of_getElem? (i := 684) (by decide +kernel), List.mem_of_getElem? (i := 852) (by decide +kernel), List.mem_of_getElem? (i := 853) (by decide +kernel)⟩
theorem lw_p24 : lw_okq (⟨"NetLoftModel", "goneAt", "(III)I"⟩, 39) := ⟨⟨by decide +kernel, by decide +kernel⟩, List.mem_of_getElem? (i := 684) (by decide +kernel), List.mem_of_getElem? (i := 882) (by decide +kernel), List.mem_of_getElem? (i := 883) (by decide +kernel)⟩
theorem lw_p25 : lw_okq (⟨"NetLoftModel", "below", "(IIII)I"⟩, 39) := ⟨⟨by decide +kernel, by decide +kernel⟩, List.mem_of_getElem? (i := 684) (by decide +kernel), List.mem_of_getElem? (i := 886) (by decide +kernel), List.mem_of_getElem? (i := 887) (by decide +kernel)⟩
theorem lw_p26 : lw_okq (⟨"NetLoftModel", "hangsIn", "(III)Z"⟩, 39) := ⟨⟨by decide +kernel, by decide +kernel⟩, List.mem_of_getElem? (i := 684) (by decide +kernel), List.mem_of_getElem? (i := 890) (by decide +kernel), List.mem_of_getElem? (i := 891) (by decide +kernel)⟩
theorem lw_p27 : lw_okq (⟨"NetLoftModel", "spreads", "(III)V"⟩, 39) := ⟨⟨by decide +kernel, by decide +kernel⟩, List.mem_of_getElem? (i := 684) (by decide +kernel), List.mem_of_getElem? (i := 914) (by decide +kernel), List.mem_of_getElem? (i := 915) (by decide +kernel)⟩
theorem lw_p28 : lw_okq (⟨"NetLoftModel", "oddOnes", "(I)I"⟩, 39) := ⟨⟨by decide +kernel, by decide +kernel⟩, List.mem_of_getElem? (i := 684) (by decide +kernel), List.mem_of_getElem? (i := 918) (by decide +kernel), List.mem_of_getElem? (i := 919) (by decide +kernel)⟩
theorem lw_p29 : lw_okq (⟨"NetLoftModel", "goesOn", "(III)I"⟩, 39) := ⟨⟨by decide +kernel, by decide +kernel⟩, List.mem_of_getElem? (i := 684) (by decide +kernel), List.mem_of_getElem? (i := 933) (by decide +kernel), List.mem_of_getElem? (i := 934) (by decide +kernel)⟩
theorem lw_p30 : lw_okq (⟨"NetLoftModel", "isGone", "(III)Z"⟩, 39) := ⟨⟨by decide +kernel, by decide +kernel⟩, List.mem_of_getElem? (i := 684) (by decide +kernel), List.mem_of_getElem? (i := 937) (by decide +kernel), List.mem_of_getElem? (i := 938) (by decide +kernel)⟩
theorem lw_p31 : lw_okq (⟨"NetLoftModel", "ties", "(IIIZ)V"⟩, 39) := ⟨⟨by decide +kernel, by decide +kernel⟩, List.mem_of_getElem? (i := 684) (by decide +kernel), List.mem_of_getElem? (i := 941) (by decide +kernel), List.mem_of_getElem? (i := 942) (by decide +kernel)⟩
def lw_privs_2 : List (MethodName × Nat) := [(⟨"NetLoftModel", "newPanel", "(II)I"⟩, 39), (⟨"NetLoftModel", "clears", "(II)V"⟩, 39), (⟨"NetLoftModel", "isPanel", "(I)Z"⟩, 39), (⟨"NetLoftModel", "given", "(II)I"⟩, 39), (⟨"NetLoftModel", "hangs", "(II)V"⟩, 39), (⟨"NetLoftModel", "isKnot", "(III)Z"⟩, 39), (⟨"NetLoftModel", "isRow", "(II)Z"⟩, 39), (⟨"NetLoftModel", "becomes", "(II)V"⟩, 39), (⟨"NetLoftModel", "goneAt", "(III)I"⟩, 39), (⟨"NetLoftModel", "below", "(IIII)I"⟩, 39), (⟨"NetLoftModel", "hangsIn", "(III)Z"⟩, 39), (⟨"NetLoftModel", "spreads", "(III)V"⟩, 39), (⟨"NetLoftModel", "oddOnes", "(I)I"⟩, 39), (⟨"NetLoftModel", "goesOn", "(III)I"⟩, 39), (⟨"NetLoftModel", "isGone", "(III)Z"⟩, 39), (⟨"NetLoftModel", "ties", "(IIIZ)V"⟩, 39)]
theorem lw_r2 : ∀ q ∈ lw_privs_2, lw_okq q := List.forall_mem_cons.mpr ⟨lw_p16, List.forall_mem_cons.mpr ⟨lw_p17, List.forall_mem_cons.mpr ⟨lw_p18, List.forall_mem_cons.mpr ⟨lw_p19, List.forall_mem_cons.mpr ⟨lw_p20, List.forall_mem_cons.mpr ⟨lw_p21, List.forall_mem_cons.mpr ⟨lw_p22, List.forall_mem_cons.mpr ⟨lw_p23, List.forall_mem_cons.mpr ⟨lw_p24, List.forall_mem_cons.mpr ⟨lw_p25, List.forall_mem_cons.mpr ⟨lw_p26, List.forall_mem_cons.mpr ⟨lw_p27, List.forall_mem_cons.mpr ⟨lw_p28, List.forall_mem_cons.mpr ⟨lw_p29, List.forall_mem_cons.mpr ⟨lw_p30, List.forall_mem_cons.mpr ⟨lw_p31, fun _ h => absurd h List.not_mem_nil⟩⟩⟩⟩⟩⟩⟩⟩⟩⟩⟩⟩⟩⟩⟩⟩
theorem lw_p32 : lw_okq (⟨"NetLoftModel", "reaches", "(III)Z"⟩, 39) := ⟨⟨by decide +kernel, by decide +kernel⟩, List.mem_of_getElem? (i := 684) (by decide +kernel), List.mem_of_getElem? (i := 945) (by decide +kernel), List.mem_of_getElem? (i := 946) (by decide +kernel)⟩
theorem lw_p33 : lw_okq (⟨"NetLoftModel", "copies", "(IIII)V"⟩, 39) := ⟨⟨by decide +kernel, by decide +kernel⟩, List.mem_of_getElem? (i := 684) (by decide +kernel), List.mem_of_getElem? (i := 965) (by decide +kernel), List.mem_of_getElem? (i := 966) (by decide +kernel)⟩
theorem lw_p34 : lw_okq (⟨"NetLoftModel", "leads", "(I)V"⟩, 39) := ⟨⟨by decide +kernel, by decide +kernel⟩, List.mem_of_getElem? (i := 684) (by decide +kernel), List.mem_of_getElem? (i := 1002) (by decide +kernel), List.mem_of_getElem? (i := 1003) (by decide +kernel)⟩
def lw_privs_3 : List (MethodName × Nat) := [(⟨"NetLoftModel", "reaches", "(III)Z"⟩, 39), (⟨"NetLoftModel", "copies", "(IIII)V"⟩, 39), (⟨"NetLoftModel", "leads", "(I)V"⟩, 39)]
theorem lw_r3 : ∀ q ∈ lw_privs_3, lw_okq q := List.forall_mem_cons.mpr ⟨lw_p32, List.forall_mem_cons.mpr ⟨lw_p33, List.forall_mem_cons.mpr ⟨lw_p34, fun _ h => absurd h List.not_mem_nil⟩⟩⟩
def lw_privs : List (MethodName × Nat) := lw_privs_1 ++ (lw_privs_2 ++ (lw_privs_3))
def lw_tbl : List Cond := k2_sels lw_privs ++ tables_1
theorem lw_privs_ok : ∀ q ∈ lw_privs, lw_okq q := by
  show ∀ q ∈ lw_privs_1 ++ (lw_privs_2 ++ (lw_privs_3)), lw_okq q
  exact List.forall_mem_append.mpr ⟨lw_r1, List.forall_mem_append.mpr ⟨lw_r2, lw_r3⟩⟩

def RX0 : String := "NetLoft$Hole"
def TX0 : u_T := fun k => match k with
  | 0 => ("NetLoft$Hole", "traced", "Z", false)
  | 1 => ("NetLoft$Hole", "size", "I", false)
  | 2 => ("NetLoft$Hole", "goneSides", "I", false)
  | 3 => ("NetLoft$Hole", "oddOnes", "I", false)
  | 4 => ("NetLoft$Hole", "knots", "[I", true)
  | 5 => ("NetLoft$Hole", "odd", "[I", true)
  | 6 => ("NetLoft$Hole", "reached", "[[I", true)
  | 7 => ("NetLoft$Hole", "queue", "[I", true)
  | _ => ("NetLoft$Hole", "queued", "I", false)
def tyX0 : Nat → FieldType := fun k => match k with
  | 0 => .boolean
  | 1 => .int
  | 2 => .int
  | 3 => .int
  | 4 => .array .int
  | 5 => .array .int
  | 6 => .array (.array .int)
  | 7 => .array .int
  | _ => .int
theorem nmX0 : ∀ a, a < 9 → ∀ b, b < 9 → a ≠ b → (TX0 a).2.1 ≠ (TX0 b).2.1 := by decide +kernel
theorem tyX0_ok : ∀ k, k < 9 → parseFieldDescriptor (TX0 k).2.2.1 = some (tyX0 k) := by decide +kernel
abbrev cX0_init : ByteArray := prog_2_method_1_code
def yX0_init : MethodName := ⟨RX0, "<init>", "()V"⟩
abbrev cX0_trace : ByteArray := prog_2_method_2_code
def yX0_trace : MethodName := ⟨RX0, "trace", "(LNetLoft$Panel;II)V"⟩
abbrev cX0_clear : ByteArray := prog_2_method_3_code
def yX0_clear : MethodName := ⟨RX0, "clear", "()V"⟩
abbrev cX0_reach : ByteArray := prog_2_method_4_code
def yX0_reach : MethodName := ⟨RX0, "reach", "(II)V"⟩
abbrev cX0_reachFrom : ByteArray := prog_2_method_5_code
def yX0_reachFrom : MethodName := ⟨RX0, "reachFrom", "(LNetLoft$Panel;II)V"⟩
abbrev cX0_listReached : ByteArray := prog_2_method_6_code
def yX0_listReached : MethodName := ⟨RX0, "listReached", "(LNetLoft$Panel;)V"⟩
abbrev cX0_twines : ByteArray := prog_2_method_7_code
def yX0_twines : MethodName := ⟨RX0, "twines", "()I"⟩
abbrev cX0_tell : ByteArray := prog_2_method_8_code
def yX0_tell : MethodName := ⟨RX0, "tell", "(II)I"⟩
abbrev cX0_hasNeedle : ByteArray := prog_2_method_9_code
def yX0_hasNeedle : MethodName := ⟨RX0, "hasNeedle", "(LNetLoft$Panel;)Z"⟩
abbrev cX0_beginning : ByteArray := prog_2_method_10_code
def yX0_beginning : MethodName := ⟨RX0, "beginning", "()I"⟩
def RX1 : String := "NetLoft$Loads"
def TX1 : u_T := fun k => match k with
  | 0 => ("NetLoft$Loads", "lost", "J", false)
  | 1 => ("NetLoft$Loads", "foot", "J", false)
  | 2 => ("NetLoft$Loads", "upper", "[[J", true)
  | _ => ("NetLoft$Loads", "wholeSides", "[I", true)
def tyX1 : Nat → FieldType := fun k => match k with
  | 0 => .long
  | 1 => .long
  | 2 => .array (.array .long)
  | _ => .array .int
theorem nmX1 : ∀ a, a < 4 → ∀ b, b < 4 → a ≠ b → (TX1 a).2.1 ≠ (TX1 b).2.1 := by decide +kernel
theorem tyX1_ok : ∀ k, k < 4 → parseFieldDescriptor (TX1 k).2.2.1 = some (tyX1 k) := by decide +kernel
abbrev cX1_init : ByteArray := prog_3_method_1_code
def yX1_init : MethodName := ⟨RX1, "<init>", "()V"⟩
abbrev cX1_leadDown : ByteArray := prog_3_method_2_code
def yX1_leadDown : MethodName := ⟨RX1, "leadDown", "(LNetLoft$Panel;)V"⟩
abbrev cX1_countWholeSides : ByteArray := prog_3_method_3_code
def yX1_countWholeSides : MethodName := ⟨RX1, "countWholeSides", "(LNetLoft$Row;)V"⟩
abbrev cX1_lose : ByteArray := prog_3_method_4_code
def yX1_lose : MethodName := ⟨RX1, "lose", "(ILNetLoft$Row;)V"⟩
abbrev cX1_handOn : ByteArray := prog_3_method_5_code
def yX1_handOn : MethodName := ⟨RX1, "handOn", "(ILNetLoft$Row;)V"⟩
abbrev cX1_inAll : ByteArray := prog_3_method_6_code
def yX1_inAll : MethodName := ⟨RX1, "inAll", "(ILNetLoft$Row;)J"⟩
abbrev cX1_firstAbove : ByteArray := prog_3_method_7_code
def yX1_firstAbove : MethodName := ⟨RX1, "firstAbove", "(LNetLoft$Panel;)I"⟩
abbrev cX1_isAbove : ByteArray := prog_3_method_8_code
def yX1_isAbove : MethodName := ⟨RX1, "isAbove", "(JI)Z"⟩
abbrev cX1_term : ByteArray := prog_3_method_9_code
def yX1_term : MethodName := ⟨RX1, "term", "(JI)J"⟩
abbrev cX1_commonDivisor : ByteArray := prog_3_method_10_code
def yX1_commonDivisor : MethodName := ⟨RX1, "commonDivisor", "(JJ)J"⟩
def RX2 : String := "NetLoft$Panel"
def TX2 : u_T := fun k => match k with
  | 0 => ("NetLoft$Panel", "bar", "I", true)
  | 1 => ("NetLoft$Panel", "strength", "I", true)
  | 2 => ("NetLoft$Panel", "rope", "I", false)
  | 3 => ("NetLoft$Panel", "net", "I", false)
  | 4 => ("NetLoft$Panel", "rows", "[LNetLoft$Row;", true)
  | 5 => ("NetLoft$Panel", "rowCount", "I", false)
  | _ => ("NetLoft$Panel", "pulls", "[I", true)
def tyX2 : Nat → FieldType := fun k => match k with
  | 0 => .int
  | 1 => .int
  | 2 => .int
  | 3 => .int
  | 4 => .array (.object "NetLoft$Row")
  | 5 => .int
  | _ => .array .int
theorem nmX2 : ∀ a, a < 7 → ∀ b, b < 7 → a ≠ b → (TX2 a).2.1 ≠ (TX2 b).2.1 := by decide +kernel
theorem tyX2_ok : ∀ k, k < 7 → parseFieldDescriptor (TX2 k).2.2.1 = some (tyX2 k) := by decide +kernel
abbrev cX2_init : ByteArray := prog_4_method_1_code
def yX2_init : MethodName := ⟨RX2, "<init>", "(II)V"⟩
abbrev cX2_rowAt : ByteArray := prog_4_method_2_code
def yX2_rowAt : MethodName := ⟨RX2, "rowAt", "(I)LNetLoft$Row;"⟩
abbrev cX2_lastRow : ByteArray := prog_4_method_3_code
def yX2_lastRow : MethodName := ⟨RX2, "lastRow", "()LNetLoft$Row;"⟩
abbrev cX2_rowWith : ByteArray := prog_4_method_4_code
def yX2_rowWith : MethodName := ⟨RX2, "rowWith", "(II)LNetLoft$Row;"⟩
abbrev cX2_append : ByteArray := prog_4_method_5_code
def yX2_append : MethodName := ⟨RX2, "append", "(LNetLoft$Row;)V"⟩
abbrev cX2_appendCopies : ByteArray := prog_4_method_6_code
def yX2_appendCopies : MethodName := ⟨RX2, "appendCopies", "(LNetLoft$Panel;)V"⟩
abbrev cX2_hangRow : ByteArray := prog_4_method_7_code
def yX2_hangRow : MethodName := ⟨RX2, "hangRow", "()I"⟩
abbrev cX2_bearsShaping : ByteArray := prog_4_method_8_code
def yX2_bearsShaping : MethodName := ⟨RX2, "bearsShaping", "(III)Z"⟩
abbrev cX2_shapeRows : ByteArray := prog_4_method_9_code
def yX2_shapeRows : MethodName := ⟨RX2, "shapeRows", "(III)I"⟩
abbrev cX2_goneSidesAt : ByteArray := prog_4_method_10_code
def yX2_goneSidesAt : MethodName := ⟨RX2, "goneSidesAt", "(II)I"⟩
abbrev cX2_cutSidesAt : ByteArray := prog_4_method_11_code
def yX2_cutSidesAt : MethodName := ⟨RX2, "cutSidesAt", "(II)I"⟩
abbrev cX2_goneAbove : ByteArray := prog_4_method_12_code
def yX2_goneAbove : MethodName := ⟨RX2, "goneAbove", "(II)I"⟩
abbrev cX2_goneBelow : ByteArray := prog_4_method_13_code
def yX2_goneBelow : MethodName := ⟨RX2, "goneBelow", "(II)I"⟩
abbrev cX2_totalOf : ByteArray := prog_4_method_14_code
def yX2_totalOf : MethodName := ⟨RX2, "totalOf", "(I)I"⟩
def RX3 : String := "NetLoft$Row"
def TX3 : u_T := fun k => match k with
  | 0 => ("NetLoft$Row", "places", "I", false)
  | 1 => ("NetLoft$Row", "kinds", "[I", true)
  | 2 => ("NetLoft$Row", "gives", "[I", true)
  | 3 => ("NetLoft$Row", "needles", "[I", true)
  | 4 => ("NetLoft$Row", "firsts", "[I", true)
  | 5 => ("NetLoft$Row", "sides", "[I", true)
  | _ => ("NetLoft$Row", "gone", "[I", true)
def tyX3 : Nat → FieldType := fun k => match k with
  | 0 => .int
  | 1 => .array .int
  | 2 => .array .int
  | 3 => .array .int
  | 4 => .array .int
  | 5 => .array .int
  | _ => .array .int
theorem nmX3 : ∀ a, a < 7 → ∀ b, b < 7 → a ≠ b → (TX3 a).2.1 ≠ (TX3 b).2.1 := by decide +kernel
theorem tyX3_ok : ∀ k, k < 7 → parseFieldDescriptor (TX3 k).2.2.1 = some (tyX3 k) := by decide +kernel
abbrev cX3_init : ByteArray := prog_5_method_1_code
def yX3_init : MethodName := ⟨RX3, "<init>", "(I)V"⟩
abbrev cX3_copied : ByteArray := prog_5_method_2_code
def yX3_copied : MethodName := ⟨RX3, "copied", "()LNetLoft$Row;"⟩
abbrev cX3_has : ByteArray := prog_5_method_3_code
def yX3_has : MethodName := ⟨RX3, "has", "(I)Z"⟩
abbrev cX3_turn : ByteArray := prog_5_method_4_code
def yX3_turn : MethodName := ⟨RX3, "turn", "(II)V"⟩
abbrev cX3_turnEvery : ByteArray := prog_5_method_5_code
def yX3_turnEvery : MethodName := ⟨RX3, "turnEvery", "(II)V"⟩
abbrev cX3_givenInAll : ByteArray := prog_5_method_6_code
def yX3_givenInAll : MethodName := ⟨RX3, "givenInAll", "()I"⟩
abbrev cX3_giverBehind : ByteArray := prog_5_method_7_code
def yX3_giverBehind : MethodName := ⟨RX3, "giverBehind", "(I)I"⟩
abbrev cX3_hangIn : ByteArray := prog_5_method_8_code
def yX3_hangIn : MethodName := ⟨RX3, "hangIn", "(LNetLoft$Row;)V"⟩
abbrev cX3_hangInNothing : ByteArray := prog_5_method_9_code
def yX3_hangInNothing : MethodName := ⟨RX3, "hangInNothing", "()V"⟩
abbrev cX3_placeOfSide : ByteArray := prog_5_method_10_code
def yX3_placeOfSide : MethodName := ⟨RX3, "placeOfSide", "(II)I"⟩
abbrev cX3_placeOfWholeSide : ByteArray := prog_5_method_11_code
def yX3_placeOfWholeSide : MethodName := ⟨RX3, "placeOfWholeSide", "(II)I"⟩
abbrev cX3_hangsBy : ByteArray := prog_5_method_12_code
def yX3_hangsBy : MethodName := ⟨RX3, "hangsBy", "(II)Z"⟩
abbrev cX3_isGone : ByteArray := prog_5_method_13_code
def yX3_isGone : MethodName := ⟨RX3, "isGone", "(II)Z"⟩
abbrev cX3_sideIsGone : ByteArray := prog_5_method_14_code
def yX3_sideIsGone : MethodName := ⟨RX3, "sideIsGone", "(II)Z"⟩
abbrev cX3_isWhole : ByteArray := prog_5_method_15_code
def yX3_isWhole : MethodName := ⟨RX3, "isWhole", "(II)Z"⟩
abbrev cX3_setSide : ByteArray := prog_5_method_16_code
def yX3_setSide : MethodName := ⟨RX3, "setSide", "(IIZ)V"⟩
abbrev cX3_setSideTo : ByteArray := prog_5_method_17_code
def yX3_setSideTo : MethodName := ⟨RX3, "setSideTo", "(IIZ)V"⟩
abbrev cX3_countOver : ByteArray := prog_5_method_18_code
def yX3_countOver : MethodName := ⟨RX3, "countOver", "(I)I"⟩
abbrev cX3_shareOf : ByteArray := prog_5_method_19_code
def yX3_shareOf : MethodName := ⟨RX3, "shareOf", "(II)I"⟩
def RX4 : String := "NetLoft$Seam"
def TX4 : u_T := fun k => match k with
  | 0 => ("NetLoft$Seam", "size", "I", false)
  | _ => ("NetLoft$Seam", "takes", "[I", true)
def tyX4 : Nat → FieldType := fun k => match k with
  | 0 => .int
  | _ => .array .int
theorem nmX4 : ∀ a, a < 2 → ∀ b, b < 2 → a ≠ b → (TX4 a).2.1 ≠ (TX4 b).2.1 := by decide +kernel
theorem tyX4_ok : ∀ k, k < 2 → parseFieldDescriptor (TX4 k).2.2.1 = some (tyX4 k) := by decide +kernel
abbrev cX4_init : ByteArray := prog_6_method_1_code
def yX4_init : MethodName := ⟨RX4, "<init>", "()V"⟩
abbrev cX4_join : ByteArray := prog_6_method_2_code
def yX4_join : MethodName := ⟨RX4, "join", "(LNetLoft$Row;LNetLoft$Row;)V"⟩
abbrev cX4_spread : ByteArray := prog_6_method_3_code
def yX4_spread : MethodName := ⟨RX4, "spread", "(II)V"⟩
abbrev cX4_giveOneEach : ByteArray := prog_6_method_4_code
def yX4_giveOneEach : MethodName := ⟨RX4, "giveOneEach", "(LNetLoft$Row;)V"⟩
def RX5 : String := "NetLoft$Taper"
def TX5 : u_T := fun k => match k with
  | 0 => ("NetLoft$Taper", "length", "I", false)
  | 1 => ("NetLoft$Taper", "rows", "I", false)
  | _ => ("NetLoft$Taper", "takes", "I", false)
def tyX5 : Nat → FieldType := fun k => match k with
  | 0 => .int
  | 1 => .int
  | _ => .int
theorem nmX5 : ∀ a, a < 3 → ∀ b, b < 3 → a ≠ b → (TX5 a).2.1 ≠ (TX5 b).2.1 := by decide +kernel
theorem tyX5_ok : ∀ k, k < 3 → parseFieldDescriptor (TX5 k).2.2.1 = some (tyX5 k) := by decide +kernel
abbrev cX5_init : ByteArray := prog_7_method_1_code
def yX5_init : MethodName := ⟨RX5, "<init>", "()V"⟩
abbrev cX5_find : ByteArray := prog_7_method_2_code
def yX5_find : MethodName := ⟨RX5, "find", "(II)I"⟩
abbrev cX5_tell : ByteArray := prog_7_method_3_code
def yX5_tell : MethodName := ⟨RX5, "tell", "(I)I"⟩
def RX6 : String := "NetLoft$Way"
def TX6 : u_T := fun k => match k with
  | 0 => ("NetLoft$Way", "size", "I", false)
  | 1 => ("NetLoft$Way", "backwards", "[I", true)
  | 2 => ("NetLoft$Way", "trail", "[I", true)
  | _ => ("NetLoft$Way", "onTrail", "I", false)
def tyX6 : Nat → FieldType := fun k => match k with
  | 0 => .int
  | 1 => .array .int
  | 2 => .array .int
  | _ => .int
theorem nmX6 : ∀ a, a < 4 → ∀ b, b < 4 → a ≠ b → (TX6 a).2.1 ≠ (TX6 b).2.1 := by decide +kernel
theorem tyX6_ok : ∀ k, k < 4 → parseFieldDescriptor (TX6 k).2.2.1 = some (tyX6 k) := by decide +kernel
abbrev cX6_init : ByteArray := prog_8_method_1_code
def yX6_init : MethodName := ⟨RX6, "<init>", "()V"⟩
abbrev cX6_knotAt : ByteArray := prog_8_method_2_code
def yX6_knotAt : MethodName := ⟨RX6, "knotAt", "(I)I"⟩
abbrev cX6_walk : ByteArray := prog_8_method_3_code
def yX6_walk : MethodName := ⟨RX6, "walk", "(LNetLoft$Panel;I)V"⟩
abbrev cX6_goTo : ByteArray := prog_8_method_4_code
def yX6_goTo : MethodName := ⟨RX6, "goTo", "(I)V"⟩
abbrev cX6_goBackFrom : ByteArray := prog_8_method_5_code
def yX6_goBackFrom : MethodName := ⟨RX6, "goBackFrom", "(I)V"⟩
abbrev cX6_mendOneFrom : ByteArray := prog_8_method_6_code
def yX6_mendOneFrom : MethodName := ⟨RX6, "mendOneFrom", "(LNetLoft$Panel;II)I"⟩
abbrev cX6_makeWhole : ByteArray := prog_8_method_7_code
def yX6_makeWhole : MethodName := ⟨RX6, "makeWhole", "(LNetLoft$Row;II)V"⟩
def RX7 : String := "NetLoft"
def TX7 : u_T := fun k => match k with
  | 0 => ("NetLoft", "panels", "[LNetLoft$Panel;", true)
  | 1 => ("NetLoft", "panelCount", "I", false)
  | 2 => ("NetLoft", "partValues", "[I", true)
  | 3 => ("NetLoft", "partCount", "I", false)
  | 4 => ("NetLoft", "holeAtHand", "LNetLoft$Hole;", true)
  | 5 => ("NetLoft", "holeToMend", "LNetLoft$Hole;", true)
  | 6 => ("NetLoft", "wayAtHand", "LNetLoft$Way;", true)
  | 7 => ("NetLoft", "latestTaper", "LNetLoft$Taper;", true)
  | 8 => ("NetLoft", "latestSeam", "LNetLoft$Seam;", true)
  | _ => ("NetLoft", "loads", "LNetLoft$Loads;", true)
def tyX7 : Nat → FieldType := fun k => match k with
  | 0 => .array (.object "NetLoft$Panel")
  | 1 => .int
  | 2 => .array .int
  | 3 => .int
  | 4 => .object "NetLoft$Hole"
  | 5 => .object "NetLoft$Hole"
  | 6 => .object "NetLoft$Way"
  | 7 => .object "NetLoft$Taper"
  | 8 => .object "NetLoft$Seam"
  | _ => .object "NetLoft$Loads"
theorem nmX7 : ∀ a, a < 10 → ∀ b, b < 10 → a ≠ b → (TX7 a).2.1 ≠ (TX7 b).2.1 := by decide +kernel
theorem tyX7_ok : ∀ k, k < 10 → parseFieldDescriptor (TX7 k).2.2.1 = some (tyX7 k) := by decide +kernel
abbrev cX7_init : ByteArray := prog_1_method_1_code
def yX7_init : MethodName := ⟨RX7, "<init>", "()V"⟩
abbrev cX7_panel : ByteArray := prog_1_method_2_code
def yX7_panel : MethodName := ⟨RX7, "panel", "(III)I"⟩
abbrev cX7_row : ByteArray := prog_1_method_3_code
def yX7_row : MethodName := ⟨RX7, "row", "(I)I"⟩
abbrev cX7_kind : ByteArray := prog_1_method_4_code
def yX7_kind : MethodName := ⟨RX7, "kind", "(III)Z"⟩
abbrev cX7_shape : ByteArray := prog_1_method_5_code
def yX7_shape : MethodName := ⟨RX7, "shape", "(IIII)I"⟩
abbrev cX7_ahead : ByteArray := prog_1_method_6_code
def yX7_ahead : MethodName := ⟨RX7, "ahead", "(IIII)J"⟩
abbrev cX7_meshes : ByteArray := prog_1_method_7_code
def yX7_meshes : MethodName := ⟨RX7, "meshes", "(II)I"⟩
abbrev cX7_of : ByteArray := prog_1_method_8_code
def yX7_of : MethodName := ⟨RX7, "of", "(IIII)I"⟩
abbrev cX7_panelOf : ByteArray := prog_1_method_9_code
def yX7_panelOf : MethodName := ⟨RX7, "panelOf", "(II)I"⟩
abbrev cX7_count : ByteArray := prog_1_method_10_code
def yX7_count : MethodName := ⟨RX7, "count", "(I)I"⟩
abbrev cX7_side : ByteArray := prog_1_method_11_code
def yX7_side : MethodName := ⟨RX7, "side", "(IIIIZ)Z"⟩
abbrev cX7_cut : ByteArray := prog_1_method_12_code
def yX7_cut : MethodName := ⟨RX7, "cut", "(III)I"⟩
abbrev cX7_tear : ByteArray := prog_1_method_13_code
def yX7_tear : MethodName := ⟨RX7, "tear", "(II)Z"⟩
abbrev cX7_needle : ByteArray := prog_1_method_14_code
def yX7_needle : MethodName := ⟨RX7, "needle", "(IIIZ)Z"⟩
abbrev cX7_hole : ByteArray := prog_1_method_15_code
def yX7_hole : MethodName := ⟨RX7, "hole", "(III)I"⟩
abbrev cX7_edge : ByteArray := prog_1_method_16_code
def yX7_edge : MethodName := ⟨RX7, "edge", "(II)I"⟩
abbrev cX7_mend : ByteArray := prog_1_method_17_code
def yX7_mend : MethodName := ⟨RX7, "mend", "(III)I"⟩
abbrev cX7_way : ByteArray := prog_1_method_18_code
def yX7_way : MethodName := ⟨RX7, "way", "(I)I"⟩
abbrev cX7_taper : ByteArray := prog_1_method_19_code
def yX7_taper : MethodName := ⟨RX7, "taper", "(III)I"⟩
abbrev cX7_cycle : ByteArray := prog_1_method_20_code
def yX7_cycle : MethodName := ⟨RX7, "cycle", "(I)I"⟩
abbrev cX7_sew : ByteArray := prog_1_method_21_code
def yX7_sew : MethodName := ⟨RX7, "sew", "(II)I"⟩
abbrev cX7_match : ByteArray := prog_1_method_22_code
def yX7_match : MethodName := ⟨RX7, "match", "(I)I"⟩
abbrev cX7_hang : ByteArray := prog_1_method_23_code
def yX7_hang : MethodName := ⟨RX7, "hang", "(III)Z"⟩
abbrev cX7_parts : ByteArray := prog_1_method_24_code
def yX7_parts : MethodName := ⟨RX7, "parts", "(I)Z"⟩
abbrev cX7_part : ByteArray := prog_1_method_25_code
def yX7_part : MethodName := ⟨RX7, "part", "(II)Z"⟩
abbrev cX7_open : ByteArray := prog_1_method_26_code
def yX7_open : MethodName := ⟨RX7, "open", "(I)I"⟩
abbrev cX7_slips : ByteArray := prog_1_method_27_code
def yX7_slips : MethodName := ⟨RX7, "slips", "(II)I"⟩
abbrev cX7_pull : ByteArray := prog_1_method_28_code
def yX7_pull : MethodName := ⟨RX7, "pull", "(III)Z"⟩
abbrev cX7_load : ByteArray := prog_1_method_29_code
def yX7_load : MethodName := ⟨RX7, "load", "(IIII)J"⟩
abbrev cX7_sum : ByteArray := prog_1_method_30_code
def yX7_sum : MethodName := ⟨RX7, "sum", "(III)J"⟩
abbrev cX7_weak : ByteArray := prog_1_method_31_code
def yX7_weak : MethodName := ⟨RX7, "weak", "(I)I"⟩
abbrev cX7_within : ByteArray := prog_1_method_32_code
def yX7_within : MethodName := ⟨RX7, "within", "(III)Z"⟩
abbrev cX7_isRule : ByteArray := prog_1_method_33_code
def yX7_isRule : MethodName := ⟨RX7, "isRule", "(II)Z"⟩
abbrev cX7_shapedPlaces : ByteArray := prog_1_method_34_code
def yX7_shapedPlaces : MethodName := ⟨RX7, "shapedPlaces", "(JII)J"⟩
abbrev cX7_fitTogether : ByteArray := prog_1_method_35_code
def yX7_fitTogether : MethodName := ⟨RX7, "fitTogether", "(LNetLoft$Row;LNetLoft$Row;)Z"⟩
abbrev cX7_panelAt : ByteArray := prog_1_method_36_code
def yX7_panelAt : MethodName := ⟨RX7, "panelAt", "(I)LNetLoft$Panel;"⟩
abbrev cX7_keep : ByteArray := prog_1_method_37_code
def yX7_keep : MethodName := ⟨RX7, "keep", "(LNetLoft$Panel;)I"⟩
abbrev cX7_openingOf : ByteArray := prog_1_method_38_code
def yX7_openingOf : MethodName := ⟨RX7, "openingOf", "(LNetLoft$Panel;)I"⟩
def RX8 : String := "NetLoftModel"
def TX8 : u_T := fun k => match k with
  | 0 => ("NetLoftModel", "thrown", "I", false)
  | 1 => ("NetLoftModel", "panels", "I", false)
  | 2 => ("NetLoftModel", "rows", "[I", true)
  | 3 => ("NetLoftModel", "bar", "[I", true)
  | 4 => ("NetLoftModel", "strength", "[I", true)
  | 5 => ("NetLoftModel", "hangA", "[I", true)
  | 6 => ("NetLoftModel", "hangB", "[I", true)
  | 7 => ("NetLoftModel", "pulls", "[I", true)
  | 8 => ("NetLoftModel", "many", "[I", true)
  | 9 => ("NetLoftModel", "torn", "[Z", true)
  | 10 => ("NetLoftModel", "kind", "[I", true)
  | 11 => ("NetLoftModel", "gives", "[I", true)
  | 12 => ("NetLoftModel", "first", "[I", true)
  | 13 => ("NetLoftModel", "sides", "[I", true)
  | 14 => ("NetLoftModel", "gone", "[I", true)
  | 15 => ("NetLoftModel", "needle", "[Z", true)
  | 16 => ("NetLoftModel", "partMany", "I", false)
  | 17 => ("NetLoftModel", "parts", "[I", true)
  | 18 => ("NetLoftModel", "isIn", "[Z", true)
  | 19 => ("NetLoftModel", "waits", "[I", true)
  | 20 => ("NetLoftModel", "knots", "I", false)
  | 21 => ("NetLoftModel", "lost", "I", false)
  | 22 => ("NetLoftModel", "hasHole", "Z", false)
  | 23 => ("NetLoftModel", "holeKnots", "I", false)
  | 24 => ("NetLoftModel", "holeSides", "I", false)
  | 25 => ("NetLoftModel", "holeOdd", "I", false)
  | 26 => ("NetLoftModel", "holeKnot", "[I", true)
  | 27 => ("NetLoftModel", "holeIsOdd", "[Z", true)
  | 28 => ("NetLoftModel", "wayMany", "I", false)
  | 29 => ("NetLoftModel", "way", "[I", true)
  | 30 => ("NetLoftModel", "met", "[Z", true)
  | 31 => ("NetLoftModel", "taperRows", "I", false)
  | 32 => ("NetLoftModel", "taperTakes", "I", false)
  | 33 => ("NetLoftModel", "taperAll", "I", false)
  | 34 => ("NetLoftModel", "matches", "I", false)
  | 35 => ("NetLoftModel", "match", "[I", true)
  | 36 => ("NetLoftModel", "loads", "[J", true)
  | 37 => ("NetLoftModel", "atFoot", "J", false)
  | _ => ("NetLoftModel", "atLoss", "J", false)
def tyX8 : Nat → FieldType := fun k => match k with
  | 0 => .int
  | 1 => .int
  | 2 => .array .int
  | 3 => .array .int
  | 4 => .array .int
  | 5 => .array .int
  | 6 => .array .int
  | 7 => .array .int
  | 8 => .array .int
  | 9 => .array .boolean
  | 10 => .array .int
  | 11 => .array .int
  | 12 => .array .int
  | 13 => .array .int
  | 14 => .array .int
  | 15 => .array .boolean
  | 16 => .int
  | 17 => .array .int
  | 18 => .array .boolean
  | 19 => .array .int
  | 20 => .int
  | 21 => .int
  | 22 => .boolean
  | 23 => .int
  | 24 => .int
  | 25 => .int
  | 26 => .array .int
  | 27 => .array .boolean
  | 28 => .int
  | 29 => .array .int
  | 30 => .array .boolean
  | 31 => .int
  | 32 => .int
  | 33 => .int
  | 34 => .int
  | 35 => .array .int
  | 36 => .array .long
  | 37 => .long
  | _ => .long
theorem nmX8 : ∀ a, a < 39 → ∀ b, b < 39 → a ≠ b → (TX8 a).2.1 ≠ (TX8 b).2.1 := by decide +kernel
theorem tyX8_ok : ∀ k, k < 39 → parseFieldDescriptor (TX8 k).2.2.1 = some (tyX8 k) := by decide +kernel
abbrev cX8_init : ByteArray := prog_10_method_2_code
def yX8_init : MethodName := ⟨RX8, "<init>", "()V"⟩
abbrev cX8_isPanel : ByteArray := prog_10_method_3_code
def yX8_isPanel : MethodName := ⟨RX8, "isPanel", "(I)Z"⟩
abbrev cX8_isRow : ByteArray := prog_10_method_4_code
def yX8_isRow : MethodName := ⟨RX8, "isRow", "(II)Z"⟩
abbrev cX8_isKnot : ByteArray := prog_10_method_5_code
def yX8_isKnot : MethodName := ⟨RX8, "isKnot", "(III)Z"⟩
abbrev cX8_at : ByteArray := prog_10_method_6_code
def yX8_at : MethodName := ⟨RX8, "at", "(III)I"⟩
abbrev cX8_clears : ByteArray := prog_10_method_7_code
def yX8_clears : MethodName := ⟨RX8, "clears", "(II)V"⟩
abbrev cX8_newPanel : ByteArray := prog_10_method_8_code
def yX8_newPanel : MethodName := ⟨RX8, "newPanel", "(II)I"⟩
abbrev cX8_panel : ByteArray := prog_10_method_9_code
def yX8_panel : MethodName := ⟨RX8, "panel", "(III)I"⟩
abbrev cX8_given : ByteArray := prog_10_method_10_code
def yX8_given : MethodName := ⟨RX8, "given", "(II)I"⟩
abbrev cX8_hangs : ByteArray := prog_10_method_11_code
def yX8_hangs : MethodName := ⟨RX8, "hangs", "(II)V"⟩
abbrev cX8_row : ByteArray := prog_10_method_12_code
def yX8_row : MethodName := ⟨RX8, "row", "(I)I"⟩
abbrev cX8_becomes : ByteArray := prog_10_method_13_code
def yX8_becomes : MethodName := ⟨RX8, "becomes", "(II)V"⟩
abbrev cX8_kind : ByteArray := prog_10_method_14_code
def yX8_kind : MethodName := ⟨RX8, "kind", "(III)Z"⟩
abbrev cX8_shaped : ByteArray := prog_10_method_15_code
def yX8_shaped : MethodName := ⟨RX8, "shaped", "(JII)J"⟩
abbrev cX8_shape : ByteArray := prog_10_method_16_code
def yX8_shape : MethodName := ⟨RX8, "shape", "(IIII)I"⟩
abbrev cX8_ahead : ByteArray := prog_10_method_17_code
def yX8_ahead : MethodName := ⟨RX8, "ahead", "(IIII)J"⟩
abbrev cX8_meshes : ByteArray := prog_10_method_18_code
def yX8_meshes : MethodName := ⟨RX8, "meshes", "(II)I"⟩
abbrev cX8_hangsIn : ByteArray := prog_10_method_19_code
def yX8_hangsIn : MethodName := ⟨RX8, "hangsIn", "(III)Z"⟩
abbrev cX8_bits : ByteArray := prog_10_method_20_code
def yX8_bits : MethodName := ⟨RX8, "bits", "(I)I"⟩
abbrev cX8_below : ByteArray := prog_10_method_21_code
def yX8_below : MethodName := ⟨RX8, "below", "(IIII)I"⟩
abbrev cX8_goneAt : ByteArray := prog_10_method_22_code
def yX8_goneAt : MethodName := ⟨RX8, "goneAt", "(III)I"⟩
abbrev cX8_of : ByteArray := prog_10_method_23_code
def yX8_of : MethodName := ⟨RX8, "of", "(IIII)I"⟩
abbrev cX8_side : ByteArray := prog_10_method_24_code
def yX8_side : MethodName := ⟨RX8, "side", "(IIIIZ)Z"⟩
abbrev cX8_cut : ByteArray := prog_10_method_25_code
def yX8_cut : MethodName := ⟨RX8, "cut", "(III)I"⟩
abbrev cX8_tear : ByteArray := prog_10_method_26_code
def yX8_tear : MethodName := ⟨RX8, "tear", "(II)Z"⟩
abbrev cX8_needle : ByteArray := prog_10_method_27_code
def yX8_needle : MethodName := ⟨RX8, "needle", "(IIIZ)Z"⟩
abbrev cX8_spreads : ByteArray := prog_10_method_28_code
def yX8_spreads : MethodName := ⟨RX8, "spreads", "(III)V"⟩
abbrev cX8_oddOnes : ByteArray := prog_10_method_29_code
def yX8_oddOnes : MethodName := ⟨RX8, "oddOnes", "(I)I"⟩
abbrev cX8_hole : ByteArray := prog_10_method_30_code
def yX8_hole : MethodName := ⟨RX8, "hole", "(III)I"⟩
abbrev cX8_twines : ByteArray := prog_10_method_31_code
def yX8_twines : MethodName := ⟨RX8, "twines", "(II)I"⟩
abbrev cX8_edge : ByteArray := prog_10_method_32_code
def yX8_edge : MethodName := ⟨RX8, "edge", "(II)I"⟩
abbrev cX8_mend : ByteArray := prog_10_method_33_code
def yX8_mend : MethodName := ⟨RX8, "mend", "(III)I"⟩
abbrev cX8_ties : ByteArray := prog_10_method_34_code
def yX8_ties : MethodName := ⟨RX8, "ties", "(IIIZ)V"⟩
abbrev cX8_isGone : ByteArray := prog_10_method_35_code
def yX8_isGone : MethodName := ⟨RX8, "isGone", "(III)Z"⟩
abbrev cX8_goesOn : ByteArray := prog_10_method_36_code
def yX8_goesOn : MethodName := ⟨RX8, "goesOn", "(III)I"⟩
abbrev cX8_reaches : ByteArray := prog_10_method_37_code
def yX8_reaches : MethodName := ⟨RX8, "reaches", "(III)Z"⟩
abbrev cX8_way : ByteArray := prog_10_method_38_code
def yX8_way : MethodName := ⟨RX8, "way", "(I)I"⟩
abbrev cX8_taper : ByteArray := prog_10_method_39_code
def yX8_taper : MethodName := ⟨RX8, "taper", "(III)I"⟩
abbrev cX8_cycle : ByteArray := prog_10_method_40_code
def yX8_cycle : MethodName := ⟨RX8, "cycle", "(I)I"⟩
abbrev cX8_copies : ByteArray := prog_10_method_41_code
def yX8_copies : MethodName := ⟨RX8, "copies", "(IIII)V"⟩
abbrev cX8_sew : ByteArray := prog_10_method_42_code
def yX8_sew : MethodName := ⟨RX8, "sew", "(II)I"⟩
abbrev cX8_match : ByteArray := prog_10_method_43_code
def yX8_match : MethodName := ⟨RX8, "match", "(I)I"⟩
abbrev cX8_hang : ByteArray := prog_10_method_44_code
def yX8_hang : MethodName := ⟨RX8, "hang", "(III)Z"⟩
abbrev cX8_parts : ByteArray := prog_10_method_45_code
def yX8_parts : MethodName := ⟨RX8, "parts", "(I)Z"⟩
abbrev cX8_part : ByteArray := prog_10_method_46_code
def yX8_part : MethodName := ⟨RX8, "part", "(II)Z"⟩
abbrev cX8_open : ByteArray := prog_10_method_47_code
def yX8_open : MethodName := ⟨RX8, "open", "(I)I"⟩
abbrev cX8_slips : ByteArray := prog_10_method_48_code
def yX8_slips : MethodName := ⟨RX8, "slips", "(II)I"⟩
abbrev cX8_sixth : ByteArray := prog_10_method_49_code
def yX8_sixth : MethodName := ⟨RX8, "sixth", "(I)J"⟩
abbrev cX8_leads : ByteArray := prog_10_method_50_code
def yX8_leads : MethodName := ⟨RX8, "leads", "(I)V"⟩
abbrev cX8_lowest : ByteArray := prog_10_method_51_code
def yX8_lowest : MethodName := ⟨RX8, "lowest", "(JJI)J"⟩
abbrev cX8_pull : ByteArray := prog_10_method_52_code
def yX8_pull : MethodName := ⟨RX8, "pull", "(III)Z"⟩
abbrev cX8_load : ByteArray := prog_10_method_53_code
def yX8_load : MethodName := ⟨RX8, "load", "(IIII)J"⟩
abbrev cX8_sum : ByteArray := prog_10_method_54_code
def yX8_sum : MethodName := ⟨RX8, "sum", "(III)J"⟩
abbrev cX8_weak : ByteArray := prog_10_method_55_code
def yX8_weak : MethodName := ⟨RX8, "weak", "(I)I"⟩
abbrev cX8_count : ByteArray := prog_10_method_56_code
def yX8_count : MethodName := ⟨RX8, "count", "(I)I"⟩
abbrev cX8_panelOf : ByteArray := prog_10_method_57_code
def yX8_panelOf : MethodName := ⟨RX8, "panelOf", "(II)I"⟩
def RJ6 : String := "java/lang/Integer"
def TJ6 : u_T := fun k => match k with
  | _ => ("", "", "", false)
def tyJ6 : Nat → FieldType := fun k => match k with
  | _ => .int
theorem nmJ6 : ∀ a, a < 0 → ∀ b, b < 0 → a ≠ b → (TJ6 a).2.1 ≠ (TJ6 b).2.1 := by decide +kernel
theorem tyJ6_ok : ∀ k, k < 0 → parseFieldDescriptor (TJ6 k).2.2.1 = some (tyJ6 k) := by decide +kernel
abbrev cJ6_bitCount_0f7a4 : ByteArray := prog_11_method_49_code
def yJ6_bitCount_0f7a4 : MethodName := ⟨RJ6, "bitCount", "(I)I"⟩
def RJ9 : String := "java/lang/Math"
def TJ9 : u_T := fun k => match k with
  | _ => ("", "", "", false)
def tyJ9 : Nat → FieldType := fun k => match k with
  | _ => .int
theorem nmJ9 : ∀ a, a < 0 → ∀ b, b < 0 → a ≠ b → (TJ9 a).2.1 ≠ (TJ9 b).2.1 := by decide +kernel
theorem tyJ9_ok : ∀ k, k < 0 → parseFieldDescriptor (TJ9 k).2.2.1 = some (tyJ9 k) := by decide +kernel
abbrev cJ9_max_7cf53 : ByteArray := prog_12_method_65_code
def yJ9_max_7cf53 : MethodName := ⟨RJ9, "max", "(II)I"⟩
abbrev cJ9_min_7cf53 : ByteArray := prog_12_method_69_code
def yJ9_min_7cf53 : MethodName := ⟨RJ9, "min", "(II)I"⟩
def RJ10 : String := "java/lang/System"
def TJ10 : u_T := fun k => match k with
  | _ => ("", "", "", false)
def tyJ10 : Nat → FieldType := fun k => match k with
  | _ => .int
theorem nmJ10 : ∀ a, a < 0 → ∀ b, b < 0 → a ≠ b → (TJ10 a).2.1 ≠ (TJ10 b).2.1 := by decide +kernel
theorem tyJ10_ok : ∀ k, k < 0 → parseFieldDescriptor (TJ10 k).2.2.1 = some (tyJ10 k) := by decide +kernel
def RL : String := "NetLoftLaw"
abbrev cL_law : ByteArray := code
def yL_law : MethodName := ⟨RL, "law", "([I)Z"⟩
abbrev vwCl : List vw_C := [(RX0, TX0, 9), (RX1, TX1, 4), (RX2, TX2, 7), (RX3, TX3, 7), (RX4, TX4, 2), (RX5, TX5, 3), (RX6, TX6, 4), (RX7, TX7, 10), (RX8, TX8, 39)]
/-- a method: its name, bytes, number of locals, answer, own class, and the room that it is given: frames, cells, slots, words -/
abbrev nM : Type := MethodName × ByteArray × Nat × Option FieldType × Nat × Nat × Nat × Nat × Nat
def cNm (c : Nat) : String := match c with
  | 0 => RX0
  | 1 => RX1
  | 2 => RX2
  | 3 => RX3
  | 4 => RX4
  | 5 => RX5
  | 6 => RX6
  | 7 => RX7
  | 8 => RX8
  | 9 => RL
  | 10 => RJ6
  | _ => RJ9
def YX0_init : nM := (yX0_init, cX0_init, 1, none, 0, 1, 24, 1940, 20)
def YX0_trace : nM := (yX0_trace, cX0_trace, 5, none, 0, 5, 0, 0, 117)
def YX0_clear : nM := (yX0_clear, cX0_clear, 3, none, 0, 0, 0, 0, 0)
def YX0_reach : nM := (yX0_reach, cX0_reach, 3, none, 0, 1, 0, 0, 22)
def YX0_reachFrom : nM := (yX0_reachFrom, cX0_reachFrom, 7, none, 0, 3, 0, 0, 66)
def YX0_listReached : nM := (yX0_listReached, cX0_listReached, 6, none, 0, 4, 0, 0, 92)
def YX0_twines : nM := (yX0_twines, cX0_twines, 1, (some .int), 0, 0, 0, 0, 0)
def YX0_tell : nM := (yX0_tell, cX0_tell, 3, (some .int), 0, 1, 0, 0, 22)
def YX0_hasNeedle : nM := (yX0_hasNeedle, cX0_hasNeedle, 5, (some .boolean), 0, 3, 0, 0, 66)
def YX0_beginning : nM := (yX0_beginning, cX0_beginning, 2, (some .int), 0, 0, 0, 0, 0)
def YX1_init : nM := (yX1_init, cX1_init, 1, none, 1, 1, 22, 524, 20)
def YX1_leadDown : nM := (yX1_leadDown, cX1_leadDown, 5, none, 1, 4, 0, 0, 91)
def YX1_countWholeSides : nM := (yX1_countWholeSides, cX1_countWholeSides, 5, none, 1, 3, 0, 0, 66)
def YX1_lose : nM := (yX1_lose, cX1_lose, 4, none, 1, 0, 0, 0, 0)
def YX1_handOn : nM := (yX1_handOn, cX1_handOn, 6, none, 1, 3, 0, 0, 66)
def YX1_inAll : nM := (yX1_inAll, cX1_inAll, 6, (some .long), 1, 0, 0, 0, 0)
def YX1_firstAbove : nM := (yX1_firstAbove, cX1_firstAbove, 5, (some .int), 1, 2, 0, 0, 43)
def YX1_isAbove : nM := (yX1_isAbove, cX1_isAbove, 5, (some .boolean), 1, 0, 0, 0, 0)
def YX1_term : nM := (yX1_term, cX1_term, 5, (some .long), 1, 1, 0, 0, 30)
def YX1_commonDivisor : nM := (yX1_commonDivisor, cX1_commonDivisor, 11, (some .long), 1, 0, 0, 0, 0)
def YX2_init : nM := (yX2_init, cX2_init, 3, none, 2, 1, 2, 44, 20)
def YX2_rowAt : nM := (yX2_rowAt, cX2_rowAt, 2, (some (.object "NetLoft$Row")), 2, 1, 0, 0, 22)
def YX2_lastRow : nM := (yX2_lastRow, cX2_lastRow, 1, (some (.object "NetLoft$Row")), 2, 2, 0, 0, 43)
def YX2_rowWith : nM := (yX2_rowWith, cX2_rowWith, 4, (some (.object "NetLoft$Row")), 2, 2, 0, 0, 43)
def YX2_append : nM := (yX2_append, cX2_append, 2, none, 2, 0, 0, 0, 0)
def YX2_appendCopies : nM := (yX2_appendCopies, cX2_appendCopies, 4, none, 2, 3, 140, 3020, 81)
def YX2_hangRow : nM := (yX2_hangRow, cX2_hangRow, 4, (some .int), 2, 3, 7, 151, 63)
def YX2_bearsShaping : nM := (yX2_bearsShaping, cX2_bearsShaping, 8, (some .boolean), 2, 3, 0, 0, 63)
def YX2_shapeRows : nM := (yX2_shapeRows, cX2_shapeRows, 7, (some .int), 2, 4, 133, 2869, 86)
def YX2_goneSidesAt : nM := (yX2_goneSidesAt, cX2_goneSidesAt, 7, (some .int), 2, 3, 0, 0, 66)
def YX2_cutSidesAt : nM := (yX2_cutSidesAt, cX2_cutSidesAt, 7, (some .int), 2, 4, 0, 0, 88)
def YX2_goneAbove : nM := (yX2_goneAbove, cX2_goneAbove, 5, (some .int), 2, 3, 0, 0, 66)
def YX2_goneBelow : nM := (yX2_goneBelow, cX2_goneBelow, 5, (some .int), 2, 3, 0, 0, 66)
def YX2_totalOf : nM := (yX2_totalOf, cX2_totalOf, 5, (some .int), 2, 3, 0, 0, 65)
def YX3_init : nM := (yX3_init, cX3_init, 3, none, 3, 1, 6, 144, 22)
def YX3_copied : nM := (yX3_copied, cX3_copied, 2, (some (.object "NetLoft$Row")), 3, 2, 7, 151, 60)
def YX3_has : nM := (yX3_has, cX3_has, 2, (some .boolean), 3, 1, 0, 0, 22)
def YX3_turn : nM := (yX3_turn, cX3_turn, 3, none, 3, 0, 0, 0, 0)
def YX3_turnEvery : nM := (yX3_turnEvery, cX3_turnEvery, 5, none, 3, 1, 0, 0, 22)
def YX3_givenInAll : nM := (yX3_givenInAll, cX3_givenInAll, 3, (some .int), 3, 0, 0, 0, 0)
def YX3_giverBehind : nM := (yX3_giverBehind, cX3_giverBehind, 3, (some .int), 3, 0, 0, 0, 0)
def YX3_hangIn : nM := (yX3_hangIn, cX3_hangIn, 7, none, 3, 1, 0, 0, 22)
def YX3_hangInNothing : nM := (yX3_hangInNothing, cX3_hangInNothing, 2, none, 3, 0, 0, 0, 0)
def YX3_placeOfSide : nM := (yX3_placeOfSide, cX3_placeOfSide, 3, (some .int), 3, 1, 0, 0, 22)
def YX3_placeOfWholeSide : nM := (yX3_placeOfWholeSide, cX3_placeOfWholeSide, 3, (some .int), 3, 2, 0, 0, 44)
def YX3_hangsBy : nM := (yX3_hangsBy, cX3_hangsBy, 3, (some .boolean), 3, 1, 0, 0, 22)
def YX3_isGone : nM := (yX3_isGone, cX3_isGone, 3, (some .boolean), 3, 2, 0, 0, 44)
def YX3_sideIsGone : nM := (yX3_sideIsGone, cX3_sideIsGone, 3, (some .boolean), 3, 0, 0, 0, 0)
def YX3_isWhole : nM := (yX3_isWhole, cX3_isWhole, 3, (some .boolean), 3, 3, 0, 0, 66)
def YX3_setSide : nM := (yX3_setSide, cX3_setSide, 4, none, 3, 0, 0, 0, 0)
def YX3_setSideTo : nM := (yX3_setSideTo, cX3_setSideTo, 4, none, 3, 2, 0, 0, 44)
def YX3_countOver : nM := (yX3_countOver, cX3_countOver, 4, (some .int), 3, 2, 0, 0, 42)
def YX3_shareOf : nM := (yX3_shareOf, cX3_shareOf, 3, (some .int), 3, 1, 0, 0, 20)
def YX4_init : nM := (yX4_init, cX4_init, 1, none, 4, 1, 1, 24, 20)
def YX4_join : nM := (yX4_join, cX4_join, 4, none, 4, 3, 0, 0, 66)
def YX4_spread : nM := (yX4_spread, cX4_spread, 4, none, 4, 1, 0, 0, 22)
def YX4_giveOneEach : nM := (yX4_giveOneEach, cX4_giveOneEach, 4, none, 4, 2, 0, 0, 43)
def YX5_init : nM := (yX5_init, cX5_init, 1, none, 5, 1, 0, 0, 20)
def YX5_find : nM := (yX5_find, cX5_find, 5, (some .int), 5, 0, 0, 0, 0)
def YX5_tell : nM := (yX5_tell, cX5_tell, 2, (some .int), 5, 0, 0, 0, 0)
def YX6_init : nM := (yX6_init, cX6_init, 1, none, 6, 1, 2, 2882, 20)
def YX6_knotAt : nM := (yX6_knotAt, cX6_knotAt, 2, (some .int), 6, 1, 0, 0, 22)
def YX6_walk : nM := (yX6_walk, cX6_walk, 6, none, 6, 5, 0, 0, 114)
def YX6_goTo : nM := (yX6_goTo, cX6_goTo, 2, none, 6, 0, 0, 0, 0)
def YX6_goBackFrom : nM := (yX6_goBackFrom, cX6_goBackFrom, 2, none, 6, 0, 0, 0, 0)
def YX6_mendOneFrom : nM := (yX6_mendOneFrom, cX6_mendOneFrom, 5, (some .int), 6, 4, 0, 0, 90)
def YX6_makeWhole : nM := (yX6_makeWhole, cX6_makeWhole, 3, none, 6, 3, 0, 0, 67)
def YX7_init : nM := (yX7_init, cX7_init, 1, none, 7, 2, 81, 7454, 40)
def YX7_panel : nM := (yX7_panel, cX7_panel, 5, (some .int), 7, 2, 10, 202, 44)
def YX7_row : nM := (yX7_row, cX7_row, 3, (some .int), 7, 4, 7, 151, 86)
def YX7_kind : nM := (yX7_kind, cX7_kind, 6, (some .boolean), 7, 3, 0, 0, 63)
def YX7_shape : nM := (yX7_shape, cX7_shape, 6, (some .int), 7, 5, 133, 2869, 112)
def YX7_ahead : nM := (yX7_ahead, cX7_ahead, 8, (some .long), 7, 2, 0, 0, 43)
def YX7_meshes : nM := (yX7_meshes, cX7_meshes, 5, (some .int), 7, 2, 0, 0, 43)
def YX7_of : nM := (yX7_of, cX7_of, 7, (some .int), 7, 4, 0, 0, 92)
def YX7_panelOf : nM := (yX7_panelOf, cX7_panelOf, 4, (some .int), 7, 4, 0, 0, 89)
def YX7_count : nM := (yX7_count, cX7_count, 2, (some .int), 7, 0, 0, 0, 0)
def YX7_side : nM := (yX7_side, cX7_side, 8, (some .boolean), 7, 3, 0, 0, 66)
def YX7_cut : nM := (yX7_cut, cX7_cut, 5, (some .int), 7, 5, 0, 0, 114)
def YX7_tear : nM := (yX7_tear, cX7_tear, 6, (some .boolean), 7, 2, 0, 0, 43)
def YX7_needle : nM := (yX7_needle, cX7_needle, 7, (some .boolean), 7, 3, 0, 0, 66)
def YX7_hole : nM := (yX7_hole, cX7_hole, 5, (some .int), 7, 6, 0, 0, 141)
def YX7_edge : nM := (yX7_edge, cX7_edge, 3, (some .int), 7, 2, 0, 0, 44)
def YX7_mend : nM := (yX7_mend, cX7_mend, 6, (some .int), 7, 6, 0, 0, 141)
def YX7_way : nM := (yX7_way, cX7_way, 2, (some .int), 7, 2, 0, 0, 43)
def YX7_taper : nM := (yX7_taper, cX7_taper, 4, (some .int), 7, 1, 0, 0, 24)
def YX7_cycle : nM := (yX7_cycle, cX7_cycle, 2, (some .int), 7, 1, 0, 0, 21)
def YX7_sew : nM := (yX7_sew, cX7_sew, 6, (some .int), 7, 4, 283, 6091, 104)
def YX7_match : nM := (yX7_match, cX7_match, 2, (some .int), 7, 1, 0, 0, 22)
def YX7_hang : nM := (yX7_hang, cX7_hang, 5, (some .boolean), 7, 2, 0, 0, 43)
def YX7_parts : nM := (yX7_parts, cX7_parts, 3, (some .boolean), 7, 1, 0, 0, 22)
def YX7_part : nM := (yX7_part, cX7_part, 3, (some .boolean), 7, 1, 0, 0, 22)
def YX7_open : nM := (yX7_open, cX7_open, 3, (some .int), 7, 2, 0, 0, 44)
def YX7_slips : nM := (yX7_slips, cX7_slips, 5, (some .int), 7, 2, 0, 0, 44)
def YX7_pull : nM := (yX7_pull, cX7_pull, 5, (some .boolean), 7, 3, 0, 0, 66)
def YX7_load : nM := (yX7_load, cX7_load, 6, (some .long), 7, 5, 0, 0, 115)
def YX7_sum : nM := (yX7_sum, cX7_sum, 5, (some .long), 7, 5, 0, 0, 115)
def YX7_weak : nM := (yX7_weak, cX7_weak, 3, (some .int), 7, 5, 0, 0, 115)
def YX7_within : nM := (yX7_within, cX7_within, 3, (some .boolean), 7, 0, 0, 0, 0)
def YX7_isRule : nM := (yX7_isRule, cX7_isRule, 2, (some .boolean), 7, 1, 0, 0, 22)
def YX7_shapedPlaces : nM := (yX7_shapedPlaces, cX7_shapedPlaces, 6, (some .long), 7, 0, 0, 0, 0)
def YX7_fitTogether : nM := (yX7_fitTogether, cX7_fitTogether, 2, (some .boolean), 7, 0, 0, 0, 0)
def YX7_panelAt : nM := (yX7_panelAt, cX7_panelAt, 2, (some (.object "NetLoft$Panel")), 7, 1, 0, 0, 22)
def YX7_keep : nM := (yX7_keep, cX7_keep, 2, (some .int), 7, 0, 0, 0, 0)
def YX7_openingOf : nM := (yX7_openingOf, cX7_openingOf, 3, (some .int), 7, 1, 0, 0, 22)
def YX8_init : nM := (yX8_init, cX8_init, 1, none, 8, 1, 23, 39593, 20)
def YX8_isPanel : nM := (yX8_isPanel, cX8_isPanel, 2, (some .boolean), 8, 0, 0, 0, 0)
def YX8_isRow : nM := (yX8_isRow, cX8_isRow, 3, (some .boolean), 8, 1, 0, 0, 21)
def YX8_isKnot : nM := (yX8_isKnot, cX8_isKnot, 4, (some .boolean), 8, 2, 0, 0, 43)
def YX8_at : nM := (yX8_at, cX8_at, 3, (some .int), 8, 0, 0, 0, 0)
def YX8_clears : nM := (yX8_clears, cX8_clears, 5, none, 8, 1, 0, 0, 22)
def YX8_newPanel : nM := (yX8_newPanel, cX8_newPanel, 5, (some .int), 8, 0, 0, 0, 0)
def YX8_panel : nM := (yX8_panel, cX8_panel, 5, (some .int), 8, 2, 0, 0, 46)
def YX8_given : nM := (yX8_given, cX8_given, 5, (some .int), 8, 1, 0, 0, 22)
def YX8_hangs : nM := (yX8_hangs, cX8_hangs, 10, none, 8, 1, 0, 0, 22)
def YX8_row : nM := (yX8_row, cX8_row, 5, (some .int), 8, 2, 0, 0, 51)
def YX8_becomes : nM := (yX8_becomes, cX8_becomes, 3, none, 8, 0, 0, 0, 0)
def YX8_kind : nM := (yX8_kind, cX8_kind, 4, (some .boolean), 8, 3, 0, 0, 66)
def YX8_shaped : nM := (yX8_shaped, cX8_shaped, 4, (some .long), 8, 0, 0, 0, 0)
def YX8_shape : nM := (yX8_shape, cX8_shape, 10, (some .int), 8, 3, 0, 0, 75)
def YX8_ahead : nM := (yX8_ahead, cX8_ahead, 8, (some .long), 8, 1, 0, 0, 23)
def YX8_meshes : nM := (yX8_meshes, cX8_meshes, 3, (some .int), 8, 2, 0, 0, 43)
def YX8_hangsIn : nM := (yX8_hangsIn, cX8_hangsIn, 4, (some .boolean), 8, 0, 0, 0, 0)
def YX8_bits : nM := (yX8_bits, cX8_bits, 3, (some .int), 8, 0, 0, 0, 0)
def YX8_below : nM := (yX8_below, cX8_below, 7, (some .int), 8, 1, 0, 0, 23)
def YX8_goneAt : nM := (yX8_goneAt, cX8_goneAt, 4, (some .int), 8, 2, 0, 0, 49)
def YX8_of : nM := (yX8_of, cX8_of, 6, (some .int), 8, 3, 0, 0, 72)
def YX8_side : nM := (yX8_side, cX8_side, 7, (some .boolean), 8, 3, 0, 0, 66)
def YX8_cut : nM := (yX8_cut, cX8_cut, 8, (some .int), 8, 3, 0, 0, 66)
def YX8_tear : nM := (yX8_tear, cX8_tear, 5, (some .boolean), 8, 2, 0, 0, 46)
def YX8_needle : nM := (yX8_needle, cX8_needle, 5, (some .boolean), 8, 3, 0, 0, 66)
def YX8_spreads : nM := (yX8_spreads, cX8_spreads, 11, none, 8, 3, 0, 0, 72)
def YX8_oddOnes : nM := (yX8_oddOnes, cX8_oddOnes, 4, (some .int), 8, 3, 0, 0, 72)
def YX8_hole : nM := (yX8_hole, cX8_hole, 5, (some .int), 8, 4, 0, 0, 102)
def YX8_twines : nM := (yX8_twines, cX8_twines, 2, (some .int), 8, 0, 0, 0, 0)
def YX8_edge : nM := (yX8_edge, cX8_edge, 3, (some .int), 8, 1, 0, 0, 21)
def YX8_mend : nM := (yX8_mend, cX8_mend, 8, (some .int), 8, 6, 0, 0, 153)
def YX8_ties : nM := (yX8_ties, cX8_ties, 9, none, 8, 1, 0, 0, 22)
def YX8_isGone : nM := (yX8_isGone, cX8_isGone, 6, (some .boolean), 8, 1, 0, 0, 23)
def YX8_goesOn : nM := (yX8_goesOn, cX8_goesOn, 9, (some .int), 8, 5, 0, 0, 125)
def YX8_reaches : nM := (yX8_reaches, cX8_reaches, 4, (some .boolean), 8, 4, 0, 0, 102)
def YX8_way : nM := (yX8_way, cX8_way, 2, (some .int), 8, 0, 0, 0, 0)
def YX8_taper : nM := (yX8_taper, cX8_taper, 6, (some .int), 8, 0, 0, 0, 0)
def YX8_cycle : nM := (yX8_cycle, cX8_cycle, 2, (some .int), 8, 0, 0, 0, 0)
def YX8_copies : nM := (yX8_copies, cX8_copies, 8, none, 8, 1, 0, 0, 22)
def YX8_sew : nM := (yX8_sew, cX8_sew, 13, (some .int), 8, 2, 0, 0, 51)
def YX8_match : nM := (yX8_match, cX8_match, 2, (some .int), 8, 0, 0, 0, 0)
def YX8_hang : nM := (yX8_hang, cX8_hang, 4, (some .boolean), 8, 1, 0, 0, 21)
def YX8_parts : nM := (yX8_parts, cX8_parts, 3, (some .boolean), 8, 0, 0, 0, 0)
def YX8_part : nM := (yX8_part, cX8_part, 3, (some .boolean), 8, 0, 0, 0, 0)
def YX8_open : nM := (yX8_open, cX8_open, 3, (some .int), 8, 1, 0, 0, 21)
def YX8_slips : nM := (yX8_slips, cX8_slips, 4, (some .int), 8, 2, 0, 0, 43)
def YX8_sixth : nM := (yX8_sixth, cX8_sixth, 4, (some .long), 8, 0, 0, 0, 0)
def YX8_leads : nM := (yX8_leads, cX8_leads, 10, none, 8, 2, 0, 0, 49)
def YX8_lowest : nM := (yX8_lowest, cX8_lowest, 11, (some .long), 8, 0, 0, 0, 0)
def YX8_pull : nM := (yX8_pull, cX8_pull, 4, (some .boolean), 8, 3, 0, 0, 66)
def YX8_load : nM := (yX8_load, cX8_load, 5, (some .long), 8, 3, 0, 0, 78)
def YX8_sum : nM := (yX8_sum, cX8_sum, 4, (some .long), 8, 3, 0, 0, 78)
def YX8_weak : nM := (yX8_weak, cX8_weak, 4, (some .int), 8, 3, 0, 0, 78)
def YX8_count : nM := (yX8_count, cX8_count, 2, (some .int), 8, 0, 0, 0, 0)
def YX8_panelOf : nM := (yX8_panelOf, cX8_panelOf, 10, (some .int), 8, 1, 0, 0, 22)
def YJ6_bitCount_0f7a4 : nM := (yJ6_bitCount_0f7a4, cJ6_bitCount_0f7a4, 1, (some .int), 10, 0, 0, 0, 0)
def YJ9_max_7cf53 : nM := (yJ9_max_7cf53, cJ9_max_7cf53, 2, (some .int), 11, 0, 0, 0, 0)
def YJ9_min_7cf53 : nM := (yJ9_min_7cf53, cJ9_min_7cf53, 2, (some .int), 11, 0, 0, 0, 0)
def YL_law : nM := (yL_law, cL_law, 4, (some .boolean), 9, 9, 600000, 7302250, 362)
