section
-- ===== PART A: goes FIRST, ahead of the names: the tables' words, and 'selects' of the private methods out of them =====
/-- a private method of a class that the tables say can be made, by its rows of tables_1 -/
def lw_okq (q : MethodName × Nat) : Prop := (q.1.cls ≠ "java/lang/invoke/MethodHandle" ∧ q.1.cls ≠ "java/lang/invoke/VarHandle") ∧ Cond.instantiable q.1.cls q.2 ∈ tables_1 ∧ Cond.privateMethod q.1 ∈ tables_1 ∧ Cond.instanceMethod q.1 ∈ tables_1
theorem lw_p0 : lw_okq (⟨"StepsShared$Day", "begin", "(II)V"⟩, 9) := ⟨⟨by decide +kernel, by decide +kernel⟩, List.mem_of_getElem? (i := 215) (by decide +kernel), List.mem_of_getElem? (i := 221) (by decide +kernel), List.mem_of_getElem? (i := 222) (by decide +kernel)⟩
theorem lw_p1 : lw_okq (⟨"StepsShared$Day", "measure", "()V"⟩, 9) := ⟨⟨by decide +kernel, by decide +kernel⟩, List.mem_of_getElem? (i := 215) (by decide +kernel), List.mem_of_getElem? (i := 231) (by decide +kernel), List.mem_of_getElem? (i := 232) (by decide +kernel)⟩
theorem lw_p2 : lw_okq (⟨"StepsShared", "walkCost", "(II)I"⟩, 12) := ⟨⟨by decide +kernel, by decide +kernel⟩, List.mem_of_getElem? (i := 17) (by decide +kernel), List.mem_of_getElem? (i := 483) (by decide +kernel), List.mem_of_getElem? (i := 484) (by decide +kernel)⟩
theorem lw_p3 : lw_okq (⟨"StepsShared", "splitRow", "(II)Z"⟩, 12) := ⟨⟨by decide +kernel, by decide +kernel⟩, List.mem_of_getElem? (i := 17) (by decide +kernel), List.mem_of_getElem? (i := 548) (by decide +kernel), List.mem_of_getElem? (i := 549) (by decide +kernel)⟩
theorem lw_p4 : lw_okq (⟨"StepsShared", "openTo", "(I)I"⟩, 12) := ⟨⟨by decide +kernel, by decide +kernel⟩, List.mem_of_getElem? (i := 17) (by decide +kernel), List.mem_of_getElem? (i := 560) (by decide +kernel), List.mem_of_getElem? (i := 561) (by decide +kernel)⟩
theorem lw_p5 : lw_okq (⟨"StepsShared$Tours", "goOn", "(LStepsShared$Day;III)V"⟩, 3) := ⟨⟨by decide +kernel, by decide +kernel⟩, List.mem_of_getElem? (i := 106) (by decide +kernel), List.mem_of_getElem? (i := 575) (by decide +kernel), List.mem_of_getElem? (i := 576) (by decide +kernel)⟩
theorem lw_p6 : lw_okq (⟨"StepsShared$Planner", "tryWith", "(IIII)V"⟩, 11) := ⟨⟨by decide +kernel, by decide +kernel⟩, List.mem_of_getElem? (i := 122) (by decide +kernel), List.mem_of_getElem? (i := 610) (by decide +kernel), List.mem_of_getElem? (i := 611) (by decide +kernel)⟩
theorem lw_p7 : lw_okq (⟨"StepsShared$Planner", "isBetter", "(II)Z"⟩, 11) := ⟨⟨by decide +kernel, by decide +kernel⟩, List.mem_of_getElem? (i := 122) (by decide +kernel), List.mem_of_getElem? (i := 614) (by decide +kernel), List.mem_of_getElem? (i := 615) (by decide +kernel)⟩
theorem lw_p8 : lw_okq (⟨"StepsShared$Rows", "clear", "([I)V"⟩, 3) := ⟨⟨by decide +kernel, by decide +kernel⟩, List.mem_of_getElem? (i := 179) (by decide +kernel), List.mem_of_getElem? (i := 663) (by decide +kernel), List.mem_of_getElem? (i := 664) (by decide +kernel)⟩
theorem lw_p9 : lw_okq (⟨"StepsShared$Rows", "goOn", "(LStepsShared$Day;II)V"⟩, 3) := ⟨⟨by decide +kernel, by decide +kernel⟩, List.mem_of_getElem? (i := 179) (by decide +kernel), List.mem_of_getElem? (i := 674) (by decide +kernel), List.mem_of_getElem? (i := 675) (by decide +kernel)⟩
theorem lw_p10 : lw_okq (⟨"StepsShared", "prepareGuess", "(I)V"⟩, 12) := ⟨⟨by decide +kernel, by decide +kernel⟩, List.mem_of_getElem? (i := 17) (by decide +kernel), List.mem_of_getElem? (i := 692) (by decide +kernel), List.mem_of_getElem? (i := 693) (by decide +kernel)⟩
theorem lw_p11 : lw_okq (⟨"StepsSharedModel", "readDay", "()I"⟩, 49) := ⟨⟨by decide +kernel, by decide +kernel⟩, List.mem_of_getElem? (i := 741) (by decide +kernel), List.mem_of_getElem? (i := 913) (by decide +kernel), List.mem_of_getElem? (i := 914) (by decide +kernel)⟩
theorem lw_p12 : lw_okq (⟨"StepsSharedModel", "figure", "(II)I"⟩, 49) := ⟨⟨by decide +kernel, by decide +kernel⟩, List.mem_of_getElem? (i := 741) (by decide +kernel), List.mem_of_getElem? (i := 917) (by decide +kernel), List.mem_of_getElem? (i := 918) (by decide +kernel)⟩
theorem lw_p13 : lw_okq (⟨"StepsSharedModel", "readPart", "()Z"⟩, 49) := ⟨⟨by decide +kernel, by decide +kernel⟩, List.mem_of_getElem? (i := 741) (by decide +kernel), List.mem_of_getElem? (i := 921) (by decide +kernel), List.mem_of_getElem? (i := 922) (by decide +kernel)⟩
theorem lw_p14 : lw_okq (⟨"StepsSharedModel", "hasPair", "()Z"⟩, 49) := ⟨⟨by decide +kernel, by decide +kernel⟩, List.mem_of_getElem? (i := 741) (by decide +kernel), List.mem_of_getElem? (i := 925) (by decide +kernel), List.mem_of_getElem? (i := 926) (by decide +kernel)⟩
theorem lw_p15 : lw_okq (⟨"StepsSharedModel", "hasPartner", "(I)Z"⟩, 49) := ⟨⟨by decide +kernel, by decide +kernel⟩, List.mem_of_getElem? (i := 741) (by decide +kernel), List.mem_of_getElem? (i := 929) (by decide +kernel), List.mem_of_getElem? (i := 930) (by decide +kernel)⟩
def lw_privs_1 : List (MethodName × Nat) := [(⟨"StepsShared$Day", "begin", "(II)V"⟩, 9), (⟨"StepsShared$Day", "measure", "()V"⟩, 9), (⟨"StepsShared", "walkCost", "(II)I"⟩, 12), (⟨"StepsShared", "splitRow", "(II)Z"⟩, 12), (⟨"StepsShared", "openTo", "(I)I"⟩, 12), (⟨"StepsShared$Tours", "goOn", "(LStepsShared$Day;III)V"⟩, 3), (⟨"StepsShared$Planner", "tryWith", "(IIII)V"⟩, 11), (⟨"StepsShared$Planner", "isBetter", "(II)Z"⟩, 11), (⟨"StepsShared$Rows", "clear", "([I)V"⟩, 3), (⟨"StepsShared$Rows", "goOn", "(LStepsShared$Day;II)V"⟩, 3), (⟨"StepsShared", "prepareGuess", "(I)V"⟩, 12), (⟨"StepsSharedModel", "readDay", "()I"⟩, 49), (⟨"StepsSharedModel", "figure", "(II)I"⟩, 49), (⟨"StepsSharedModel", "readPart", "()Z"⟩, 49), (⟨"StepsSharedModel", "hasPair", "()Z"⟩, 49), (⟨"StepsSharedModel", "hasPartner", "(I)Z"⟩, 49)]
theorem lw_r1 : ∀ q ∈ lw_privs_1, lw_okq q := List.forall_mem_cons.mpr ⟨lw_p0, List.forall_mem_cons.mpr ⟨lw_p1, List.forall_mem_cons.mpr ⟨lw_p2, List.forall_mem_cons.mpr ⟨lw_p3, List.forall_mem_cons.mpr ⟨lw_p4, List.forall_mem_cons.mpr ⟨lw_p5, List.forall_mem_cons.mpr ⟨lw_p6, List.forall_mem_cons.mpr ⟨lw_p7, List.forall_mem_cons.mpr ⟨lw_p8, List.forall_mem_cons.mpr ⟨lw_p9, List.forall_mem_cons.mpr ⟨lw_p10, List.forall_mem_cons.mpr ⟨lw_p11, List.forall_mem_cons.mpr ⟨lw_p12, List.forall_mem_cons.mpr ⟨lw_p13, List.forall_mem_cons.mpr ⟨lw_p14, List.forall_mem_cons.mpr ⟨lw_p15, fun _ h => absurd h List.not_mem_nil⟩⟩⟩⟩⟩⟩⟩⟩⟩⟩⟩⟩⟩⟩⟩⟩
theorem lw_p16 : lw_okq (⟨"StepsSharedModel", "readRoad", "()Z"⟩, 49) := ⟨⟨by decide +kernel, by decide +kernel⟩, List.mem_of_getElem? (i := 741) (by decide +kernel), List.mem_of_getElem? (i := 933) (by decide +kernel), List.mem_of_getElem? (i := 934) (by decide +kernel)⟩
theorem lw_p17 : lw_okq (⟨"StepsSharedModel", "readErrand", "()Z"⟩, 49) := ⟨⟨by decide +kernel, by decide +kernel⟩, List.mem_of_getElem? (i := 741) (by decide +kernel), List.mem_of_getElem? (i := 937) (by decide +kernel), List.mem_of_getElem? (i := 938) (by decide +kernel)⟩
theorem lw_p18 : lw_okq (⟨"StepsSharedModel", "worthOf", "(I)I"⟩, 49) := ⟨⟨by decide +kernel, by decide +kernel⟩, List.mem_of_getElem? (i := 741) (by decide +kernel), List.mem_of_getElem? (i := 952) (by decide +kernel), List.mem_of_getElem? (i := 953) (by decide +kernel)⟩
theorem lw_p19 : lw_okq (⟨"StepsSharedModel", "noPlace", "(I)Z"⟩, 49) := ⟨⟨by decide +kernel, by decide +kernel⟩, List.mem_of_getElem? (i := 741) (by decide +kernel), List.mem_of_getElem? (i := 970) (by decide +kernel), List.mem_of_getElem? (i := 971) (by decide +kernel)⟩
theorem lw_p20 : lw_okq (⟨"StepsSharedModel", "noErrand", "(I)Z"⟩, 49) := ⟨⟨by decide +kernel, by decide +kernel⟩, List.mem_of_getElem? (i := 741) (by decide +kernel), List.mem_of_getElem? (i := 978) (by decide +kernel), List.mem_of_getElem? (i := 979) (by decide +kernel)⟩
theorem lw_p21 : lw_okq (⟨"StepsSharedModel", "mayWalk", "(IIII)Z"⟩, 49) := ⟨⟨by decide +kernel, by decide +kernel⟩, List.mem_of_getElem? (i := 741) (by decide +kernel), List.mem_of_getElem? (i := 986) (by decide +kernel), List.mem_of_getElem? (i := 987) (by decide +kernel)⟩
theorem lw_p22 : lw_okq (⟨"StepsSharedModel", "note", "()V"⟩, 49) := ⟨⟨by decide +kernel, by decide +kernel⟩, List.mem_of_getElem? (i := 741) (by decide +kernel), List.mem_of_getElem? (i := 990) (by decide +kernel), List.mem_of_getElem? (i := 991) (by decide +kernel)⟩
theorem lw_p23 : lw_okq (⟨"StepsSharedModel", "layPage", "([II)V"⟩, 49) := ⟨⟨by decide +kernel, by decide +kernel⟩, List.mem_of_getElem? (i := 741) (by decide +kernel), List.mem_of_getElem? (i := 994) (by decide +kernel), List.mem_of_getElem? (i := 995) (by decide +kernel)⟩
theorem lw_p24 : lw_okq (⟨"StepsSharedModel", "canDo", "(II)Z"⟩, 49) := ⟨⟨by decide +kernel, by decide +kernel⟩, List.mem_of_getElem? (i := 741) (by decide +kernel), List.mem_of_getElem? (i := 1006) (by decide +kernel), List.mem_of_getElem? (i := 1007) (by decide +kernel)⟩
theorem lw_p25 : lw_okq (⟨"StepsSharedModel", "takePage", "([II)V"⟩, 49) := ⟨⟨by decide +kernel, by decide +kernel⟩, List.mem_of_getElem? (i := 741) (by decide +kernel), List.mem_of_getElem? (i := 1023) (by decide +kernel), List.mem_of_getElem? (i := 1024) (by decide +kernel)⟩
theorem lw_p26 : lw_okq (⟨"StepsSharedModel", "layTours", "(III)V"⟩, 49) := ⟨⟨by decide +kernel, by decide +kernel⟩, List.mem_of_getElem? (i := 741) (by decide +kernel), List.mem_of_getElem? (i := 1035) (by decide +kernel), List.mem_of_getElem? (i := 1036) (by decide +kernel)⟩
theorem lw_p27 : lw_okq (⟨"StepsSharedModel", "findPlan", "(II)V"⟩, 49) := ⟨⟨by decide +kernel, by decide +kernel⟩, List.mem_of_getElem? (i := 741) (by decide +kernel), List.mem_of_getElem? (i := 1044) (by decide +kernel), List.mem_of_getElem? (i := 1045) (by decide +kernel)⟩
theorem lw_p28 : lw_okq (⟨"StepsSharedModel", "canBoth", "(I)Z"⟩, 49) := ⟨⟨by decide +kernel, by decide +kernel⟩, List.mem_of_getElem? (i := 741) (by decide +kernel), List.mem_of_getElem? (i := 1056) (by decide +kernel), List.mem_of_getElem? (i := 1057) (by decide +kernel)⟩
theorem lw_p29 : lw_okq (⟨"StepsSharedModel", "take", "(III)V"⟩, 49) := ⟨⟨by decide +kernel, by decide +kernel⟩, List.mem_of_getElem? (i := 741) (by decide +kernel), List.mem_of_getElem? (i := 1060) (by decide +kernel), List.mem_of_getElem? (i := 1061) (by decide +kernel)⟩
theorem lw_p30 : lw_okq (⟨"StepsSharedModel", "choose", "(II)Z"⟩, 49) := ⟨⟨by decide +kernel, by decide +kernel⟩, List.mem_of_getElem? (i := 741) (by decide +kernel), List.mem_of_getElem? (i := 1064) (by decide +kernel), List.mem_of_getElem? (i := 1065) (by decide +kernel)⟩
theorem lw_p31 : lw_okq (⟨"StepsSharedModel", "layWays", "(III)V"⟩, 49) := ⟨⟨by decide +kernel, by decide +kernel⟩, List.mem_of_getElem? (i := 741) (by decide +kernel), List.mem_of_getElem? (i := 1075) (by decide +kernel), List.mem_of_getElem? (i := 1076) (by decide +kernel)⟩
def lw_privs_2 : List (MethodName × Nat) := [(⟨"StepsSharedModel", "readRoad", "()Z"⟩, 49), (⟨"StepsSharedModel", "readErrand", "()Z"⟩, 49), (⟨"StepsSharedModel", "worthOf", "(I)I"⟩, 49), (⟨"StepsSharedModel", "noPlace", "(I)Z"⟩, 49), (⟨"StepsSharedModel", "noErrand", "(I)Z"⟩, 49), (⟨"StepsSharedModel", "mayWalk", "(IIII)Z"⟩, 49), (⟨"StepsSharedModel", "note", "()V"⟩, 49), (⟨"StepsSharedModel", "layPage", "([II)V"⟩, 49), (⟨"StepsSharedModel", "canDo", "(II)Z"⟩, 49), (⟨"StepsSharedModel", "takePage", "([II)V"⟩, 49), (⟨"StepsSharedModel", "layTours", "(III)V"⟩, 49), (⟨"StepsSharedModel", "findPlan", "(II)V"⟩, 49), (⟨"StepsSharedModel", "canBoth", "(I)Z"⟩, 49), (⟨"StepsSharedModel", "take", "(III)V"⟩, 49), (⟨"StepsSharedModel", "choose", "(II)Z"⟩, 49), (⟨"StepsSharedModel", "layWays", "(III)V"⟩, 49)]
theorem lw_r2 : ∀ q ∈ lw_privs_2, lw_okq q := List.forall_mem_cons.mpr ⟨lw_p16, List.forall_mem_cons.mpr ⟨lw_p17, List.forall_mem_cons.mpr ⟨lw_p18, List.forall_mem_cons.mpr ⟨lw_p19, List.forall_mem_cons.mpr ⟨lw_p20, List.forall_mem_cons.mpr ⟨lw_p21, List.forall_mem_cons.mpr ⟨lw_p22, List.forall_mem_cons.mpr ⟨lw_p23, List.forall_mem_cons.mpr ⟨lw_p24, List.forall_mem_cons.mpr ⟨lw_p25, List.forall_mem_cons.mpr ⟨lw_p26, List.forall_mem_cons.mpr ⟨lw_p27, List.forall_mem_cons.mpr ⟨lw_p28, List.forall_mem_cons.mpr ⟨lw_p29, List.forall_mem_cons.mpr ⟨lw_p30, List.forall_mem_cons.mpr ⟨lw_p31, fun _ h => absurd h List.not_mem_nil⟩⟩⟩⟩⟩⟩⟩⟩⟩⟩⟩⟩⟩⟩⟩⟩
theorem lw_p32 : lw_okq (⟨"StepsSharedModel", "layAll", "()V"⟩, 49) := ⟨⟨by decide +kernel, by decide +kernel⟩, List.mem_of_getElem? (i := 741) (by decide +kernel), List.mem_of_getElem? (i := 1088) (by decide +kernel), List.mem_of_getElem? (i := 1089) (by decide +kernel)⟩
theorem lw_p33 : lw_okq (⟨"StepsSharedModel", "within", "(II)J"⟩, 49) := ⟨⟨by decide +kernel, by decide +kernel⟩, List.mem_of_getElem? (i := 741) (by decide +kernel), List.mem_of_getElem? (i := 1092) (by decide +kernel), List.mem_of_getElem? (i := 1093) (by decide +kernel)⟩
theorem lw_p34 : lw_okq (⟨"StepsSharedModel", "whole", "()J"⟩, 49) := ⟨⟨by decide +kernel, by decide +kernel⟩, List.mem_of_getElem? (i := 741) (by decide +kernel), List.mem_of_getElem? (i := 1096) (by decide +kernel), List.mem_of_getElem? (i := 1097) (by decide +kernel)⟩
def lw_privs_3 : List (MethodName × Nat) := [(⟨"StepsSharedModel", "layAll", "()V"⟩, 49), (⟨"StepsSharedModel", "within", "(II)J"⟩, 49), (⟨"StepsSharedModel", "whole", "()J"⟩, 49)]
theorem lw_r3 : ∀ q ∈ lw_privs_3, lw_okq q := List.forall_mem_cons.mpr ⟨lw_p32, List.forall_mem_cons.mpr ⟨lw_p33, List.forall_mem_cons.mpr ⟨lw_p34, fun _ h => absurd h List.not_mem_nil⟩⟩⟩
def lw_privs : List (MethodName × Nat) := lw_privs_1 ++ (lw_privs_2 ++ (lw_privs_3))
def lw_tbl : List Cond := k2_sels lw_privs ++ tables_1
theorem lw_privs_ok : ∀ q ∈ lw_privs, lw_okq q := by
  show ∀ q ∈ lw_privs_1 ++ (lw_privs_2 ++ (lw_privs_3)), lw_okq q
  exact List.forall_mem_append.mpr ⟨lw_r1, List.forall_mem_append.mpr ⟨lw_r2, lw_r3⟩⟩
-- ===== end of PART A; then your names; then what follows =====
end
section
def RX0 : String := "StepsShared$Acts"
def TX0 : u_T := fun k => match k with
  | 0 => ("StepsShared$Acts", "before", "[LStepsShared$Standing;", true)
  | 1 => ("StepsShared$Acts", "count", "I", false)
  | _ => ("StepsShared$Acts", "next", "I", false)
def tyX0 : Nat → FieldType := fun k => match k with
  | 0 => .array (.object "StepsShared$Standing")
  | 1 => .int
  | _ => .int
abbrev wsX00 : List Cond := u_ws RX0 TX0 3
theorem nmX0 : ∀ a, a < 3 → ∀ b, b < 3 → a ≠ b → (TX0 a).2.1 ≠ (TX0 b).2.1 := by decide +kernel
theorem tyX0_ok : ∀ k, k < 3 → parseFieldDescriptor (TX0 k).2.2.1 = some (tyX0 k) := by decide +kernel
abbrev cX0_init : ByteArray := prog_2_method_1_code
def yX0_init : MethodName := ⟨RX0, "<init>", "()V"⟩
abbrev cX0_remember : ByteArray := prog_2_method_2_code
def yX0_remember : MethodName := ⟨RX0, "remember", "(LStepsShared$Standing;)V"⟩
abbrev cX0_takeLastBack : ByteArray := prog_2_method_3_code
def yX0_takeLastBack : MethodName := ⟨RX0, "takeLastBack", "(LStepsShared$Standing;)V"⟩
abbrev cX0_forget : ByteArray := prog_2_method_4_code
def yX0_forget : MethodName := ⟨RX0, "forget", "()V"⟩
def RX1 : String := "StepsShared$Day"
def TX1 : u_T := fun k => match k with
  | 0 => ("StepsShared$Day", "places", "I", false)
  | 1 => ("StepsShared$Day", "steps", "I", false)
  | 2 => ("StepsShared$Day", "roads", "I", false)
  | 3 => ("StepsShared$Day", "errands", "I", false)
  | 4 => ("StepsShared$Day", "roadLength", "[I", true)
  | 5 => ("StepsShared$Day", "least", "[I", true)
  | 6 => ("StepsShared$Day", "site", "[I", true)
  | 7 => ("StepsShared$Day", "worth", "[I", true)
  | _ => ("StepsShared$Day", "doer", "[I", true)
def tyX1 : Nat → FieldType := fun k => match k with
  | 0 => .int
  | 1 => .int
  | 2 => .int
  | 3 => .int
  | 4 => .array .int
  | 5 => .array .int
  | 6 => .array .int
  | 7 => .array .int
  | _ => .array .int
abbrev wsX10 : List Cond := u_ws RX1 TX1 9
theorem nmX1 : ∀ a, a < 9 → ∀ b, b < 9 → a ≠ b → (TX1 a).2.1 ≠ (TX1 b).2.1 := by decide +kernel
theorem tyX1_ok : ∀ k, k < 9 → parseFieldDescriptor (TX1 k).2.2.1 = some (tyX1 k) := by decide +kernel
abbrev cX1_init : ByteArray := prog_3_method_1_code
def yX1_init : MethodName := ⟨RX1, "<init>", "()V"⟩
abbrev cX1_begin : ByteArray := prog_3_method_2_code
def yX1_begin : MethodName := ⟨RX1, "begin", "(II)V"⟩
abbrev cX1_isPlace : ByteArray := prog_3_method_3_code
def yX1_isPlace : MethodName := ⟨RX1, "isPlace", "(I)Z"⟩
abbrev cX1_isErrand : ByteArray := prog_3_method_4_code
def yX1_isErrand : MethodName := ⟨RX1, "isErrand", "(I)Z"⟩
abbrev cX1_isFreePair : ByteArray := prog_3_method_5_code
def yX1_isFreePair : MethodName := ⟨RX1, "isFreePair", "(II)Z"⟩
abbrev cX1_hasFreePairAt : ByteArray := prog_3_method_6_code
def yX1_hasFreePairAt : MethodName := ⟨RX1, "hasFreePairAt", "(I)Z"⟩
abbrev cX1_hasRoomForRoad : ByteArray := prog_3_method_7_code
def yX1_hasRoomForRoad : MethodName := ⟨RX1, "hasRoomForRoad", "()Z"⟩
abbrev cX1_hasRoomForErrand : ByteArray := prog_3_method_8_code
def yX1_hasRoomForErrand : MethodName := ⟨RX1, "hasRoomForErrand", "()Z"⟩
abbrev cX1_addRoad : ByteArray := prog_3_method_9_code
def yX1_addRoad : MethodName := ⟨RX1, "addRoad", "(III)V"⟩
abbrev cX1_addErrand : ByteArray := prog_3_method_10_code
def yX1_addErrand : MethodName := ⟨RX1, "addErrand", "(III)V"⟩
abbrev cX1_measure : ByteArray := prog_3_method_11_code
def yX1_measure : MethodName := ⟨RX1, "measure", "()V"⟩
abbrev cX1_farthest : ByteArray := prog_3_method_12_code
def yX1_farthest : MethodName := ⟨RX1, "farthest", "()I"⟩
abbrev cX1_between : ByteArray := prog_3_method_13_code
def yX1_between : MethodName := ⟨RX1, "between", "(II)I"⟩
abbrev cX1_siteOf : ByteArray := prog_3_method_14_code
def yX1_siteOf : MethodName := ⟨RX1, "siteOf", "(I)I"⟩
abbrev cX1_worthOf : ByteArray := prog_3_method_15_code
def yX1_worthOf : MethodName := ⟨RX1, "worthOf", "(I)I"⟩
abbrev cX1_doerOf : ByteArray := prog_3_method_16_code
def yX1_doerOf : MethodName := ⟨RX1, "doerOf", "(I)I"⟩
abbrev cX1_canDo : ByteArray := prog_3_method_17_code
def yX1_canDo : MethodName := ⟨RX1, "canDo", "(II)Z"⟩
abbrev cX1_allErrands : ByteArray := prog_3_method_18_code
def yX1_allErrands : MethodName := ⟨RX1, "allErrands", "()I"⟩
abbrev cX1_allFor : ByteArray := prog_3_method_19_code
def yX1_allFor : MethodName := ⟨RX1, "allFor", "(I)I"⟩
abbrev cX1_worthOfSet : ByteArray := prog_3_method_20_code
def yX1_worthOfSet : MethodName := ⟨RX1, "worthOfSet", "(I)I"⟩
abbrev cX1_placesOfSet : ByteArray := prog_3_method_21_code
def yX1_placesOfSet : MethodName := ⟨RX1, "placesOfSet", "(I)I"⟩
def RX2 : String := "StepsShared$Guess"
def TX2 : u_T := fun k => match k with
  | 0 => ("StepsShared$Guess", "costs", "[I", true)
  | 1 => ("StepsShared$Guess", "weights", "[I", true)
  | 2 => ("StepsShared$Guess", "sets", "I", false)
  | _ => ("StepsShared$Guess", "whole", "I", false)
def tyX2 : Nat → FieldType := fun k => match k with
  | 0 => .array .int
  | 1 => .array .int
  | 2 => .int
  | _ => .int
abbrev wsX20 : List Cond := u_ws RX2 TX2 4
theorem nmX2 : ∀ a, a < 4 → ∀ b, b < 4 → a ≠ b → (TX2 a).2.1 ≠ (TX2 b).2.1 := by decide +kernel
theorem tyX2_ok : ∀ k, k < 4 → parseFieldDescriptor (TX2 k).2.2.1 = some (tyX2 k) := by decide +kernel
abbrev cX2_init : ByteArray := prog_4_method_1_code
def yX2_init : MethodName := ⟨RX2, "<init>", "()V"⟩
abbrev cX2_prepare : ByteArray := prog_4_method_2_code
def yX2_prepare : MethodName := ⟨RX2, "prepare", "(LStepsShared$Day;LStepsShared$Tours;I)V"⟩
abbrev cX2_weightWithin : ByteArray := prog_4_method_3_code
def yX2_weightWithin : MethodName := ⟨RX2, "weightWithin", "(I)I"⟩
abbrev cX2_leastSteps : ByteArray := prog_4_method_4_code
def yX2_leastSteps : MethodName := ⟨RX2, "leastSteps", "(I)I"⟩
def RX3 : String := "StepsShared$Planner"
def TX3 : u_T := fun k => match k with
  | 0 => ("StepsShared$Planner", "herTours", "LStepsShared$Tours;", true)
  | 1 => ("StepsShared$Planner", "hisTours", "LStepsShared$Tours;", true)
  | 2 => ("StepsShared$Planner", "hisSteps", "[I", true)
  | 3 => ("StepsShared$Planner", "worthOf", "[I", true)
  | 4 => ("StepsShared$Planner", "herErrands", "I", false)
  | 5 => ("StepsShared$Planner", "hisErrands", "I", false)
  | 6 => ("StepsShared$Planner", "found", "Z", false)
  | 7 => ("StepsShared$Planner", "worth", "I", false)
  | 8 => ("StepsShared$Planner", "steps", "I", false)
  | 9 => ("StepsShared$Planner", "herSet", "I", false)
  | _ => ("StepsShared$Planner", "hisSet", "I", false)
def tyX3 : Nat → FieldType := fun k => match k with
  | 0 => .object "StepsShared$Tours"
  | 1 => .object "StepsShared$Tours"
  | 2 => .array .int
  | 3 => .array .int
  | 4 => .int
  | 5 => .int
  | 6 => .boolean
  | 7 => .int
  | 8 => .int
  | 9 => .int
  | _ => .int
abbrev wsX30 : List Cond := u_ws RX3 TX3 11
theorem nmX3 : ∀ a, a < 11 → ∀ b, b < 11 → a ≠ b → (TX3 a).2.1 ≠ (TX3 b).2.1 := by decide +kernel
theorem tyX3_ok : ∀ k, k < 11 → parseFieldDescriptor (TX3 k).2.2.1 = some (tyX3 k) := by decide +kernel
abbrev cX3_init : ByteArray := prog_5_method_1_code
def yX3_init : MethodName := ⟨RX3, "<init>", "()V"⟩
abbrev cX3_offer : ByteArray := prog_5_method_2_code
def yX3_offer : MethodName := ⟨RX3, "offer", "(II)V"⟩
abbrev cX3_settle : ByteArray := prog_5_method_3_code
def yX3_settle : MethodName := ⟨RX3, "settle", "(LStepsShared$Day;IIII)V"⟩
abbrev cX3_tryWith : ByteArray := prog_5_method_4_code
def yX3_tryWith : MethodName := ⟨RX3, "tryWith", "(IIII)V"⟩
abbrev cX3_isBetter : ByteArray := prog_5_method_5_code
def yX3_isBetter : MethodName := ⟨RX3, "isBetter", "(II)Z"⟩
abbrev cX3_isPartOf : ByteArray := prog_5_method_6_code
def yX3_isPartOf : MethodName := ⟨RX3, "isPartOf", "(II)Z"⟩
def RX4 : String := "StepsShared$Reader"
def TX4 : u_T := fun k => match k with
  | _ => ("", "", "", false)
def tyX4 : Nat → FieldType := fun k => match k with
  | _ => .int
abbrev wsX40 : List Cond := u_ws RX4 TX4 0
theorem nmX4 : ∀ a, a < 0 → ∀ b, b < 0 → a ≠ b → (TX4 a).2.1 ≠ (TX4 b).2.1 := by decide +kernel
theorem tyX4_ok : ∀ k, k < 0 → parseFieldDescriptor (TX4 k).2.2.1 = some (tyX4 k) := by decide +kernel
abbrev cX4_firstFault : ByteArray := prog_6_method_2_code
def yX4_firstFault : MethodName := ⟨RX4, "firstFault", "(LStepsShared$Text;LStepsShared$Day;)I"⟩
abbrev cX4_headFault : ByteArray := prog_6_method_3_code
def yX4_headFault : MethodName := ⟨RX4, "headFault", "(LStepsShared$Text;)I"⟩
abbrev cX4_fitsHead : ByteArray := prog_6_method_4_code
def yX4_fitsHead : MethodName := ⟨RX4, "fitsHead", "(LStepsShared$Text;I)Z"⟩
abbrev cX4_readRoad : ByteArray := prog_6_method_5_code
def yX4_readRoad : MethodName := ⟨RX4, "readRoad", "(LStepsShared$Text;LStepsShared$Day;I)I"⟩
abbrev cX4_readErrand : ByteArray := prog_6_method_6_code
def yX4_readErrand : MethodName := ⟨RX4, "readErrand", "(LStepsShared$Text;LStepsShared$Day;I)I"⟩
def RX5 : String := "StepsShared$Rows"
def TX5 : u_T := fun k => match k with
  | 0 => ("StepsShared$Rows", "counts", "[I", false)
  | 1 => ("StepsShared$Rows", "longer", "[I", false)
  | _ => ("StepsShared$Rows", "reach", "I", false)
def tyX5 : Nat → FieldType := fun k => match k with
  | 0 => .array .int
  | 1 => .array .int
  | _ => .int
abbrev wsX50 : List Cond := u_ws RX5 TX5 3
theorem nmX5 : ∀ a, a < 3 → ∀ b, b < 3 → a ≠ b → (TX5 a).2.1 ≠ (TX5 b).2.1 := by decide +kernel
theorem tyX5_ok : ∀ k, k < 3 → parseFieldDescriptor (TX5 k).2.2.1 = some (tyX5 k) := by decide +kernel
abbrev cX5_init : ByteArray := prog_7_method_1_code
def yX5_init : MethodName := ⟨RX5, "<init>", "()V"⟩
abbrev cX5_count : ByteArray := prog_7_method_2_code
def yX5_count : MethodName := ⟨RX5, "count", "(LStepsShared$Day;III)V"⟩
abbrev cX5_goOn : ByteArray := prog_7_method_3_code
def yX5_goOn : MethodName := ⟨RX5, "goOn", "(LStepsShared$Day;II)V"⟩
abbrev cX5_clear : ByteArray := prog_7_method_4_code
def yX5_clear : MethodName := ⟨RX5, "clear", "([I)V"⟩
abbrev cX5_endingAt : ByteArray := prog_7_method_5_code
def yX5_endingAt : MethodName := ⟨RX5, "endingAt", "(II)I"⟩
def RX6 : String := "StepsShared$Slots"
def TX6 : u_T := fun k => match k with
  | 0 => ("StepsShared$Slots", "kept", "[LStepsShared$Standing;", true)
  | _ => ("StepsShared$Slots", "full", "[Z", true)
def tyX6 : Nat → FieldType := fun k => match k with
  | 0 => .array (.object "StepsShared$Standing")
  | _ => .array .boolean
abbrev wsX60 : List Cond := u_ws RX6 TX6 2
theorem nmX6 : ∀ a, a < 2 → ∀ b, b < 2 → a ≠ b → (TX6 a).2.1 ≠ (TX6 b).2.1 := by decide +kernel
theorem tyX6_ok : ∀ k, k < 2 → parseFieldDescriptor (TX6 k).2.2.1 = some (tyX6 k) := by decide +kernel
abbrev cX6_init : ByteArray := prog_8_method_1_code
def yX6_init : MethodName := ⟨RX6, "<init>", "()V"⟩
abbrev cX6_holds : ByteArray := prog_8_method_2_code
def yX6_holds : MethodName := ⟨RX6, "holds", "(I)Z"⟩
abbrev cX6_put : ByteArray := prog_8_method_3_code
def yX6_put : MethodName := ⟨RX6, "put", "(ILStepsShared$Standing;)V"⟩
abbrev cX6_fetch : ByteArray := prog_8_method_4_code
def yX6_fetch : MethodName := ⟨RX6, "fetch", "(ILStepsShared$Standing;)V"⟩
abbrev cX6_forget : ByteArray := prog_8_method_5_code
def yX6_forget : MethodName := ⟨RX6, "forget", "()V"⟩
def RX7 : String := "StepsShared$Standing"
def TX7 : u_T := fun k => match k with
  | 0 => ("StepsShared$Standing", "her", "I", false)
  | 1 => ("StepsShared$Standing", "him", "I", false)
  | 2 => ("StepsShared$Standing", "left", "I", false)
  | 3 => ("StepsShared$Standing", "doneSet", "I", false)
  | 4 => ("StepsShared$Standing", "doneByHim", "I", false)
  | 5 => ("StepsShared$Standing", "loanCount", "I", false)
  | _ => ("StepsShared$Standing", "loans", "[I", true)
def tyX7 : Nat → FieldType := fun k => match k with
  | 0 => .int
  | 1 => .int
  | 2 => .int
  | 3 => .int
  | 4 => .int
  | 5 => .int
  | _ => .array .int
abbrev wsX70 : List Cond := u_ws RX7 TX7 7
theorem nmX7 : ∀ a, a < 7 → ∀ b, b < 7 → a ≠ b → (TX7 a).2.1 ≠ (TX7 b).2.1 := by decide +kernel
theorem tyX7_ok : ∀ k, k < 7 → parseFieldDescriptor (TX7 k).2.2.1 = some (tyX7 k) := by decide +kernel
abbrev cX7_init : ByteArray := prog_9_method_1_code
def yX7_init : MethodName := ⟨RX7, "<init>", "()V"⟩
abbrev cX7_begin : ByteArray := prog_9_method_2_code
def yX7_begin : MethodName := ⟨RX7, "begin", "(I)V"⟩
abbrev cX7_copyOf : ByteArray := prog_9_method_3_code
def yX7_copyOf : MethodName := ⟨RX7, "copyOf", "(LStepsShared$Standing;)V"⟩
abbrev cX7_placeOf : ByteArray := prog_9_method_4_code
def yX7_placeOf : MethodName := ⟨RX7, "placeOf", "(I)I"⟩
abbrev cX7_move : ByteArray := prog_9_method_5_code
def yX7_move : MethodName := ⟨RX7, "move", "(II)V"⟩
abbrev cX7_isDone : ByteArray := prog_9_method_6_code
def yX7_isDone : MethodName := ⟨RX7, "isDone", "(I)Z"⟩
abbrev cX7_whoDid : ByteArray := prog_9_method_7_code
def yX7_whoDid : MethodName := ⟨RX7, "whoDid", "(I)I"⟩
abbrev cX7_markDone : ByteArray := prog_9_method_8_code
def yX7_markDone : MethodName := ⟨RX7, "markDone", "(II)V"⟩
abbrev cX7_addLoan : ByteArray := prog_9_method_9_code
def yX7_addLoan : MethodName := ⟨RX7, "addLoan", "(I)V"⟩
abbrev cX7_owedFor : ByteArray := prog_9_method_10_code
def yX7_owedFor : MethodName := ⟨RX7, "owedFor", "(I)I"⟩
abbrev cX7_owedForFirstLoan : ByteArray := prog_9_method_11_code
def yX7_owedForFirstLoan : MethodName := ⟨RX7, "owedForFirstLoan", "()I"⟩
abbrev cX7_owedToThem : ByteArray := prog_9_method_12_code
def yX7_owedToThem : MethodName := ⟨RX7, "owedToThem", "()I"⟩
abbrev cX7_giveFirstLoanBack : ByteArray := prog_9_method_13_code
def yX7_giveFirstLoanBack : MethodName := ⟨RX7, "giveFirstLoanBack", "()V"⟩
def RX8 : String := "StepsShared$Text"
def TX8 : u_T := fun k => match k with
  | 0 => ("StepsShared$Text", "bytes", "[I", true)
  | _ => ("StepsShared$Text", "length", "I", false)
def tyX8 : Nat → FieldType := fun k => match k with
  | 0 => .array .int
  | _ => .int
abbrev wsX80 : List Cond := u_ws RX8 TX8 2
theorem nmX8 : ∀ a, a < 2 → ∀ b, b < 2 → a ≠ b → (TX8 a).2.1 ≠ (TX8 b).2.1 := by decide +kernel
theorem tyX8_ok : ∀ k, k < 2 → parseFieldDescriptor (TX8 k).2.2.1 = some (tyX8 k) := by decide +kernel
abbrev cX8_init : ByteArray := prog_10_method_1_code
def yX8_init : MethodName := ⟨RX8, "<init>", "()V"⟩
abbrev cX8_size : ByteArray := prog_10_method_2_code
def yX8_size : MethodName := ⟨RX8, "size", "()I"⟩
abbrev cX8_empty : ByteArray := prog_10_method_3_code
def yX8_empty : MethodName := ⟨RX8, "empty", "()V"⟩
abbrev cX8_append : ByteArray := prog_10_method_4_code
def yX8_append : MethodName := ⟨RX8, "append", "(IJ)V"⟩
abbrev cX8_signAt : ByteArray := prog_10_method_5_code
def yX8_signAt : MethodName := ⟨RX8, "signAt", "(I)I"⟩
abbrev cX8_figureAt : ByteArray := prog_10_method_6_code
def yX8_figureAt : MethodName := ⟨RX8, "figureAt", "(I)I"⟩
def RX9 : String := "StepsShared$Tours"
def TX9 : u_T := fun k => match k with
  | 0 => ("StepsShared$Tours", "start", "I", false)
  | 1 => ("StepsShared$Tours", "least", "[I", true)
  | _ => ("StepsShared$Tours", "whole", "[I", true)
def tyX9 : Nat → FieldType := fun k => match k with
  | 0 => .int
  | 1 => .array .int
  | _ => .array .int
abbrev wsX90 : List Cond := u_ws RX9 TX9 3
theorem nmX9 : ∀ a, a < 3 → ∀ b, b < 3 → a ≠ b → (TX9 a).2.1 ≠ (TX9 b).2.1 := by decide +kernel
theorem tyX9_ok : ∀ k, k < 3 → parseFieldDescriptor (TX9 k).2.2.1 = some (tyX9 k) := by decide +kernel
abbrev cX9_init : ByteArray := prog_11_method_1_code
def yX9_init : MethodName := ⟨RX9, "<init>", "()V"⟩
abbrev cX9_begin : ByteArray := prog_11_method_2_code
def yX9_begin : MethodName := ⟨RX9, "begin", "(LStepsShared$Day;II)V"⟩
abbrev cX9_goOn : ByteArray := prog_11_method_3_code
def yX9_goOn : MethodName := ⟨RX9, "goOn", "(LStepsShared$Day;III)V"⟩
abbrev cX9_by : ByteArray := prog_11_method_4_code
def yX9_by : MethodName := ⟨RX9, "by", "(I)I"⟩
def RX10 : String := "StepsShared$Turns"
def TX10 : u_T := fun k => match k with
  | _ => ("StepsShared$Turns", "day", "LStepsShared$Day;", false)
def tyX10 : Nat → FieldType := fun k => match k with
  | _ => .object "StepsShared$Day"
abbrev wsX100 : List Cond := u_ws RX10 TX10 1
theorem nmX10 : ∀ a, a < 1 → ∀ b, b < 1 → a ≠ b → (TX10 a).2.1 ≠ (TX10 b).2.1 := by decide +kernel
theorem tyX10_ok : ∀ k, k < 1 → parseFieldDescriptor (TX10 k).2.2.1 = some (tyX10 k) := by decide +kernel
abbrev cX10_init : ByteArray := prog_12_method_1_code
def yX10_init : MethodName := ⟨RX10, "<init>", "()V"⟩
abbrev cX10_begin : ByteArray := prog_12_method_2_code
def yX10_begin : MethodName := ⟨RX10, "begin", "(LStepsShared$Day;)V"⟩
abbrev cX10_share : ByteArray := prog_12_method_3_code
def yX10_share : MethodName := ⟨RX10, "share", "(II)I"⟩
abbrev cX10_homeward : ByteArray := prog_12_method_4_code
def yX10_homeward : MethodName := ⟨RX10, "homeward", "(I)I"⟩
abbrev cX10_play : ByteArray := prog_12_method_5_code
def yX10_play : MethodName := ⟨RX10, "play", "(LStepsShared$Turns;IIIIII)I"⟩
def RX11 : String := "StepsShared"
def TX11 : u_T := fun k => match k with
  | 0 => ("StepsShared", "text", "LStepsShared$Text;", true)
  | 1 => ("StepsShared", "now", "LStepsShared$Standing;", true)
  | 2 => ("StepsShared", "acts", "LStepsShared$Acts;", true)
  | 3 => ("StepsShared", "slots", "LStepsShared$Slots;", true)
  | 4 => ("StepsShared", "tours", "LStepsShared$Tours;", true)
  | 5 => ("StepsShared", "planner", "LStepsShared$Planner;", true)
  | 6 => ("StepsShared", "turns", "LStepsShared$Turns;", true)
  | 7 => ("StepsShared", "rows", "LStepsShared$Rows;", true)
  | 8 => ("StepsShared", "guess", "LStepsShared$Guess;", true)
  | 9 => ("StepsShared", "told", "[I", true)
  | 10 => ("StepsShared", "today", "LStepsShared$Day;", false)
  | _ => ("StepsShared", "draft", "LStepsShared$Day;", false)
def tyX11 : Nat → FieldType := fun k => match k with
  | 0 => .object "StepsShared$Text"
  | 1 => .object "StepsShared$Standing"
  | 2 => .object "StepsShared$Acts"
  | 3 => .object "StepsShared$Slots"
  | 4 => .object "StepsShared$Tours"
  | 5 => .object "StepsShared$Planner"
  | 6 => .object "StepsShared$Turns"
  | 7 => .object "StepsShared$Rows"
  | 8 => .object "StepsShared$Guess"
  | 9 => .array .int
  | 10 => .object "StepsShared$Day"
  | _ => .object "StepsShared$Day"
abbrev wsX110 : List Cond := u_ws RX11 TX11 12
theorem nmX11 : ∀ a, a < 12 → ∀ b, b < 12 → a ≠ b → (TX11 a).2.1 ≠ (TX11 b).2.1 := by decide +kernel
theorem tyX11_ok : ∀ k, k < 12 → parseFieldDescriptor (TX11 k).2.2.1 = some (tyX11 k) := by decide +kernel
abbrev cX11_init : ByteArray := prog_1_method_1_code
def yX11_init : MethodName := ⟨RX11, "<init>", "()V"⟩
abbrev cX11_write : ByteArray := prog_1_method_2_code
def yX11_write : MethodName := ⟨RX11, "write", "(IJ)I"⟩
abbrev cX11_wipe : ByteArray := prog_1_method_3_code
def yX11_wipe : MethodName := ⟨RX11, "wipe", "()I"⟩
abbrev cX11_fault : ByteArray := prog_1_method_4_code
def yX11_fault : MethodName := ⟨RX11, "fault", "()I"⟩
abbrev cX11_day : ByteArray := prog_1_method_5_code
def yX11_day : MethodName := ⟨RX11, "day", "()I"⟩
abbrev cX11_about : ByteArray := prog_1_method_6_code
def yX11_about : MethodName := ⟨RX11, "about", "(I)I"⟩
abbrev cX11_at : ByteArray := prog_1_method_7_code
def yX11_at : MethodName := ⟨RX11, "at", "(I)I"⟩
abbrev cX11_far : ByteArray := prog_1_method_8_code
def yX11_far : MethodName := ⟨RX11, "far", "(II)I"⟩
abbrev cX11_errand : ByteArray := prog_1_method_9_code
def yX11_errand : MethodName := ⟨RX11, "errand", "(II)I"⟩
abbrev cX11_walk : ByteArray := prog_1_method_10_code
def yX11_walk : MethodName := ⟨RX11, "walk", "(II)I"⟩
abbrev cX11_carry : ByteArray := prog_1_method_11_code
def yX11_carry : MethodName := ⟨RX11, "carry", "(II)I"⟩
abbrev cX11_done : ByteArray := prog_1_method_12_code
def yX11_done : MethodName := ⟨RX11, "done", "(II)I"⟩
abbrev cX11_loan : ByteArray := prog_1_method_13_code
def yX11_loan : MethodName := ⟨RX11, "loan", "(IZ)I"⟩
abbrev cX11_back : ByteArray := prog_1_method_14_code
def yX11_back : MethodName := ⟨RX11, "back", "()I"⟩
abbrev cX11_undo : ByteArray := prog_1_method_15_code
def yX11_undo : MethodName := ⟨RX11, "undo", "()I"⟩
abbrev cX11_judge : ByteArray := prog_1_method_16_code
def yX11_judge : MethodName := ⟨RX11, "judge", "(III)I"⟩
abbrev cX11_tour : ByteArray := prog_1_method_17_code
def yX11_tour : MethodName := ⟨RX11, "tour", "(II)I"⟩
abbrev cX11_plan : ByteArray := prog_1_method_18_code
def yX11_plan : MethodName := ⟨RX11, "plan", "(I)I"⟩
abbrev cX11_live : ByteArray := prog_1_method_19_code
def yX11_live : MethodName := ⟨RX11, "live", "()I"⟩
abbrev cX11_byTurns : ByteArray := prog_1_method_20_code
def yX11_byTurns : MethodName := ⟨RX11, "byTurns", "(I)I"⟩
abbrev cX11_ledger : ByteArray := prog_1_method_21_code
def yX11_ledger : MethodName := ⟨RX11, "ledger", "(III)J"⟩
abbrev cX11_ends : ByteArray := prog_1_method_22_code
def yX11_ends : MethodName := ⟨RX11, "ends", "(III)I"⟩
abbrev cX11_chance : ByteArray := prog_1_method_23_code
def yX11_chance : MethodName := ⟨RX11, "chance", "(IIZ)J"⟩
abbrev cX11_spare : ByteArray := prog_1_method_24_code
def yX11_spare : MethodName := ⟨RX11, "spare", "(II)I"⟩
abbrev cX11_keep : ByteArray := prog_1_method_25_code
def yX11_keep : MethodName := ⟨RX11, "keep", "(I)I"⟩
abbrev cX11_again : ByteArray := prog_1_method_26_code
def yX11_again : MethodName := ⟨RX11, "again", "(I)I"⟩
abbrev cX11_isWalker : ByteArray := prog_1_method_27_code
def yX11_isWalker : MethodName := ⟨RX11, "isWalker", "(I)Z"⟩
abbrev cX11_toldSteps : ByteArray := prog_1_method_28_code
def yX11_toldSteps : MethodName := ⟨RX11, "toldSteps", "(I)I"⟩
abbrev cX11_splitRow : ByteArray := prog_1_method_29_code
def yX11_splitRow : MethodName := ⟨RX11, "splitRow", "(II)Z"⟩
abbrev cX11_walkCost : ByteArray := prog_1_method_30_code
def yX11_walkCost : MethodName := ⟨RX11, "walkCost", "(II)I"⟩
abbrev cX11_openTo : ByteArray := prog_1_method_31_code
def yX11_openTo : MethodName := ⟨RX11, "openTo", "(I)I"⟩
abbrev cX11_prepareGuess : ByteArray := prog_1_method_32_code
def yX11_prepareGuess : MethodName := ⟨RX11, "prepareGuess", "(I)V"⟩
abbrev cX11_commonDivisor : ByteArray := prog_1_method_33_code
def yX11_commonDivisor : MethodName := ⟨RX11, "commonDivisor", "(JJ)J"⟩
def RX12 : String := "StepsSharedModel"
def TX12 : u_T := fun k => match k with
  | 0 => ("StepsSharedModel", "thrown", "I", false)
  | 1 => ("StepsSharedModel", "text", "[I", true)
  | 2 => ("StepsSharedModel", "textSize", "I", false)
  | 3 => ("StepsSharedModel", "place", "I", false)
  | 4 => ("StepsSharedModel", "places", "I", false)
  | 5 => ("StepsSharedModel", "steps", "I", false)
  | 6 => ("StepsSharedModel", "roads", "I", false)
  | 7 => ("StepsSharedModel", "far", "[I", true)
  | 8 => ("StepsSharedModel", "errands", "I", false)
  | 9 => ("StepsSharedModel", "where", "[I", true)
  | 10 => ("StepsSharedModel", "worth", "[I", true)
  | 11 => ("StepsSharedModel", "kind", "[I", true)
  | 12 => ("StepsSharedModel", "readPlaces", "I", false)
  | 13 => ("StepsSharedModel", "readSteps", "I", false)
  | 14 => ("StepsSharedModel", "readRoads", "I", false)
  | 15 => ("StepsSharedModel", "readErrands", "I", false)
  | 16 => ("StepsSharedModel", "readFar", "[I", true)
  | 17 => ("StepsSharedModel", "readWhere", "[I", true)
  | 18 => ("StepsSharedModel", "readWorth", "[I", true)
  | 19 => ("StepsSharedModel", "readKind", "[I", true)
  | 20 => ("StepsSharedModel", "at", "[I", true)
  | 21 => ("StepsSharedModel", "left", "I", false)
  | 22 => ("StepsSharedModel", "done", "I", false)
  | 23 => ("StepsSharedModel", "doneByHim", "I", false)
  | 24 => ("StepsSharedModel", "loans", "I", false)
  | 25 => ("StepsSharedModel", "loan", "[I", true)
  | 26 => ("StepsSharedModel", "book", "[I", true)
  | 27 => ("StepsSharedModel", "acts", "I", false)
  | 28 => ("StepsSharedModel", "kept", "[I", true)
  | 29 => ("StepsSharedModel", "isKept", "[Z", true)
  | 30 => ("StepsSharedModel", "tours", "[I", true)
  | 31 => ("StepsSharedModel", "legs", "[I", true)
  | 32 => ("StepsSharedModel", "planWorth", "I", false)
  | 33 => ("StepsSharedModel", "planSteps", "I", false)
  | 34 => ("StepsSharedModel", "planHers", "I", false)
  | 35 => ("StepsSharedModel", "planHis", "I", false)
  | 36 => ("StepsSharedModel", "her", "[I", true)
  | 37 => ("StepsSharedModel", "his", "[I", true)
  | 38 => ("StepsSharedModel", "rest", "[I", true)
  | 39 => ("StepsSharedModel", "gone", "[I", true)
  | 40 => ("StepsSharedModel", "home", "[I", true)
  | 41 => ("StepsSharedModel", "who", "[I", true)
  | 42 => ("StepsSharedModel", "next", "[I", true)
  | 43 => ("StepsSharedModel", "hasHer", "[I", true)
  | 44 => ("StepsSharedModel", "hasHis", "[I", true)
  | 45 => ("StepsSharedModel", "bestHer", "[I", true)
  | 46 => ("StepsSharedModel", "bestHis", "[I", true)
  | 47 => ("StepsSharedModel", "ways", "[J", true)
  | _ => ("StepsSharedModel", "then", "[J", true)
def tyX12 : Nat → FieldType := fun k => match k with
  | 0 => .int
  | 1 => .array .int
  | 2 => .int
  | 3 => .int
  | 4 => .int
  | 5 => .int
  | 6 => .int
  | 7 => .array .int
  | 8 => .int
  | 9 => .array .int
  | 10 => .array .int
  | 11 => .array .int
  | 12 => .int
  | 13 => .int
  | 14 => .int
  | 15 => .int
  | 16 => .array .int
  | 17 => .array .int
  | 18 => .array .int
  | 19 => .array .int
  | 20 => .array .int
  | 21 => .int
  | 22 => .int
  | 23 => .int
  | 24 => .int
  | 25 => .array .int
  | 26 => .array .int
  | 27 => .int
  | 28 => .array .int
  | 29 => .array .boolean
  | 30 => .array .int
  | 31 => .array .int
  | 32 => .int
  | 33 => .int
  | 34 => .int
  | 35 => .int
  | 36 => .array .int
  | 37 => .array .int
  | 38 => .array .int
  | 39 => .array .int
  | 40 => .array .int
  | 41 => .array .int
  | 42 => .array .int
  | 43 => .array .int
  | 44 => .array .int
  | 45 => .array .int
  | 46 => .array .int
  | 47 => .array .long
  | _ => .array .long
abbrev wsX120 : List Cond := u_ws RX12 TX12 49
theorem nmX12 : ∀ a, a < 49 → ∀ b, b < 49 → a ≠ b → (TX12 a).2.1 ≠ (TX12 b).2.1 := by decide +kernel
theorem tyX12_ok : ∀ k, k < 49 → parseFieldDescriptor (TX12 k).2.2.1 = some (tyX12 k) := by decide +kernel
abbrev cX12_init : ByteArray := prog_14_method_1_code
def yX12_init : MethodName := ⟨RX12, "<init>", "()V"⟩
abbrev cX12_in : ByteArray := prog_14_method_3_code
def yX12_in : MethodName := ⟨RX12, "in", "(JJJ)Z"⟩
abbrev cX12_has : ByteArray := prog_14_method_4_code
def yX12_has : MethodName := ⟨RX12, "has", "(II)Z"⟩
abbrev cX12_noPlace : ByteArray := prog_14_method_5_code
def yX12_noPlace : MethodName := ⟨RX12, "noPlace", "(I)Z"⟩
abbrev cX12_noErrand : ByteArray := prog_14_method_6_code
def yX12_noErrand : MethodName := ⟨RX12, "noErrand", "(I)Z"⟩
abbrev cX12_noWalker : ByteArray := prog_14_method_7_code
def yX12_noWalker : MethodName := ⟨RX12, "noWalker", "(I)Z"⟩
abbrev cX12_write : ByteArray := prog_14_method_8_code
def yX12_write : MethodName := ⟨RX12, "write", "(IJ)I"⟩
abbrev cX12_wipe : ByteArray := prog_14_method_9_code
def yX12_wipe : MethodName := ⟨RX12, "wipe", "()I"⟩
abbrev cX12_figure : ByteArray := prog_14_method_10_code
def yX12_figure : MethodName := ⟨RX12, "figure", "(II)I"⟩
abbrev cX12_hasPartner : ByteArray := prog_14_method_11_code
def yX12_hasPartner : MethodName := ⟨RX12, "hasPartner", "(I)Z"⟩
abbrev cX12_hasPair : ByteArray := prog_14_method_12_code
def yX12_hasPair : MethodName := ⟨RX12, "hasPair", "()Z"⟩
abbrev cX12_readRoad : ByteArray := prog_14_method_13_code
def yX12_readRoad : MethodName := ⟨RX12, "readRoad", "()Z"⟩
abbrev cX12_readErrand : ByteArray := prog_14_method_14_code
def yX12_readErrand : MethodName := ⟨RX12, "readErrand", "()Z"⟩
abbrev cX12_readPart : ByteArray := prog_14_method_15_code
def yX12_readPart : MethodName := ⟨RX12, "readPart", "()Z"⟩
abbrev cX12_readDay : ByteArray := prog_14_method_16_code
def yX12_readDay : MethodName := ⟨RX12, "readDay", "()I"⟩
abbrev cX12_fault : ByteArray := prog_14_method_17_code
def yX12_fault : MethodName := ⟨RX12, "fault", "()I"⟩
abbrev cX12_day : ByteArray := prog_14_method_18_code
def yX12_day : MethodName := ⟨RX12, "day", "()I"⟩
abbrev cX12_owed : ByteArray := prog_14_method_19_code
def yX12_owed : MethodName := ⟨RX12, "owed", "(I)I"⟩
abbrev cX12_worthOf : ByteArray := prog_14_method_20_code
def yX12_worthOf : MethodName := ⟨RX12, "worthOf", "(I)I"⟩
abbrev cX12_about : ByteArray := prog_14_method_21_code
def yX12_about : MethodName := ⟨RX12, "about", "(I)I"⟩
abbrev cX12_at : ByteArray := prog_14_method_22_code
def yX12_at : MethodName := ⟨RX12, "at", "(I)I"⟩
abbrev cX12_far : ByteArray := prog_14_method_23_code
def yX12_far : MethodName := ⟨RX12, "far", "(II)I"⟩
abbrev cX12_errand : ByteArray := prog_14_method_24_code
def yX12_errand : MethodName := ⟨RX12, "errand", "(II)I"⟩
abbrev cX12_layPage : ByteArray := prog_14_method_25_code
def yX12_layPage : MethodName := ⟨RX12, "layPage", "([II)V"⟩
abbrev cX12_takePage : ByteArray := prog_14_method_26_code
def yX12_takePage : MethodName := ⟨RX12, "takePage", "([II)V"⟩
abbrev cX12_note : ByteArray := prog_14_method_27_code
def yX12_note : MethodName := ⟨RX12, "note", "()V"⟩
abbrev cX12_mayWalk : ByteArray := prog_14_method_28_code
def yX12_mayWalk : MethodName := ⟨RX12, "mayWalk", "(IIII)Z"⟩
abbrev cX12_walk : ByteArray := prog_14_method_29_code
def yX12_walk : MethodName := ⟨RX12, "walk", "(II)I"⟩
abbrev cX12_carry : ByteArray := prog_14_method_30_code
def yX12_carry : MethodName := ⟨RX12, "carry", "(II)I"⟩
abbrev cX12_canDo : ByteArray := prog_14_method_31_code
def yX12_canDo : MethodName := ⟨RX12, "canDo", "(II)Z"⟩
abbrev cX12_done : ByteArray := prog_14_method_32_code
def yX12_done : MethodName := ⟨RX12, "done", "(II)I"⟩
abbrev cX12_loan : ByteArray := prog_14_method_33_code
def yX12_loan : MethodName := ⟨RX12, "loan", "(IZ)I"⟩
abbrev cX12_back : ByteArray := prog_14_method_34_code
def yX12_back : MethodName := ⟨RX12, "back", "()I"⟩
abbrev cX12_undo : ByteArray := prog_14_method_35_code
def yX12_undo : MethodName := ⟨RX12, "undo", "()I"⟩
abbrev cX12_judge : ByteArray := prog_14_method_36_code
def yX12_judge : MethodName := ⟨RX12, "judge", "(III)I"⟩
abbrev cX12_layTours : ByteArray := prog_14_method_37_code
def yX12_layTours : MethodName := ⟨RX12, "layTours", "(III)V"⟩
abbrev cX12_tour : ByteArray := prog_14_method_38_code
def yX12_tour : MethodName := ⟨RX12, "tour", "(II)I"⟩
abbrev cX12_findPlan : ByteArray := prog_14_method_39_code
def yX12_findPlan : MethodName := ⟨RX12, "findPlan", "(II)V"⟩
abbrev cX12_plan : ByteArray := prog_14_method_40_code
def yX12_plan : MethodName := ⟨RX12, "plan", "(I)I"⟩
abbrev cX12_live : ByteArray := prog_14_method_41_code
def yX12_live : MethodName := ⟨RX12, "live", "()I"⟩
abbrev cX12_canBoth : ByteArray := prog_14_method_42_code
def yX12_canBoth : MethodName := ⟨RX12, "canBoth", "(I)Z"⟩
abbrev cX12_choose : ByteArray := prog_14_method_43_code
def yX12_choose : MethodName := ⟨RX12, "choose", "(II)Z"⟩
abbrev cX12_take : ByteArray := prog_14_method_44_code
def yX12_take : MethodName := ⟨RX12, "take", "(III)V"⟩
abbrev cX12_byTurns : ByteArray := prog_14_method_45_code
def yX12_byTurns : MethodName := ⟨RX12, "byTurns", "(I)I"⟩
abbrev cX12_layWays : ByteArray := prog_14_method_46_code
def yX12_layWays : MethodName := ⟨RX12, "layWays", "(III)V"⟩
abbrev cX12_ledger : ByteArray := prog_14_method_47_code
def yX12_ledger : MethodName := ⟨RX12, "ledger", "(III)J"⟩
abbrev cX12_ends : ByteArray := prog_14_method_48_code
def yX12_ends : MethodName := ⟨RX12, "ends", "(III)I"⟩
abbrev cX12_layAll : ByteArray := prog_14_method_49_code
def yX12_layAll : MethodName := ⟨RX12, "layAll", "()V"⟩
abbrev cX12_within : ByteArray := prog_14_method_50_code
def yX12_within : MethodName := ⟨RX12, "within", "(II)J"⟩
abbrev cX12_divisor : ByteArray := prog_14_method_51_code
def yX12_divisor : MethodName := ⟨RX12, "divisor", "(JJ)J"⟩
abbrev cX12_whole : ByteArray := prog_14_method_52_code
def yX12_whole : MethodName := ⟨RX12, "whole", "()J"⟩
abbrev cX12_chance : ByteArray := prog_14_method_53_code
def yX12_chance : MethodName := ⟨RX12, "chance", "(IIZ)J"⟩
abbrev cX12_spare : ByteArray := prog_14_method_54_code
def yX12_spare : MethodName := ⟨RX12, "spare", "(II)I"⟩
abbrev cX12_keep : ByteArray := prog_14_method_55_code
def yX12_keep : MethodName := ⟨RX12, "keep", "(I)I"⟩
abbrev cX12_again : ByteArray := prog_14_method_56_code
def yX12_again : MethodName := ⟨RX12, "again", "(I)I"⟩
def RJ6 : String := "java/lang/Integer"
def TJ6 : u_T := fun k => match k with
  | _ => ("", "", "", false)
def tyJ6 : Nat → FieldType := fun k => match k with
  | _ => .int
abbrev wsJ60 : List Cond := u_ws RJ6 TJ6 0
theorem nmJ6 : ∀ a, a < 0 → ∀ b, b < 0 → a ≠ b → (TJ6 a).2.1 ≠ (TJ6 b).2.1 := by decide +kernel
theorem tyJ6_ok : ∀ k, k < 0 → parseFieldDescriptor (TJ6 k).2.2.1 = some (tyJ6 k) := by decide +kernel
abbrev cJ6_bitCount_0f7a4 : ByteArray := prog_15_method_49_code
def yJ6_bitCount_0f7a4 : MethodName := ⟨RJ6, "bitCount", "(I)I"⟩
def RJ9 : String := "java/lang/Math"
def TJ9 : u_T := fun k => match k with
  | _ => ("", "", "", false)
def tyJ9 : Nat → FieldType := fun k => match k with
  | _ => .int
abbrev wsJ90 : List Cond := u_ws RJ9 TJ9 0
theorem nmJ9 : ∀ a, a < 0 → ∀ b, b < 0 → a ≠ b → (TJ9 a).2.1 ≠ (TJ9 b).2.1 := by decide +kernel
theorem tyJ9_ok : ∀ k, k < 0 → parseFieldDescriptor (TJ9 k).2.2.1 = some (tyJ9 k) := by decide +kernel
abbrev cJ9_abs_0f7a4 : ByteArray := prog_16_method_59_code
def yJ9_abs_0f7a4 : MethodName := ⟨RJ9, "abs", "(I)I"⟩
abbrev cJ9_max_7cf53 : ByteArray := prog_16_method_65_code
def yJ9_max_7cf53 : MethodName := ⟨RJ9, "max", "(II)I"⟩
abbrev cJ9_min_7cf53 : ByteArray := prog_16_method_69_code
def yJ9_min_7cf53 : MethodName := ⟨RJ9, "min", "(II)I"⟩
def RL : String := "StepsSharedLaw"
abbrev cL_law : ByteArray := code
def yL_law : MethodName := ⟨RL, "law", "([I)Z"⟩
end
section
theorem dX0_init_0 : decode cX0_init 0 = .ok (.aload_n 0, 1) := by decide +kernel
theorem dX0_init_1 : decode cX0_init 1 = .ok (.invokespecial 3, 3) := by decide +kernel
theorem dX0_init_4 : decode cX0_init 4 = .ok (.aload_n 0, 1) := by decide +kernel
theorem dX0_init_5 : decode cX0_init 5 = .ok (.bipush 16, 2) := by decide +kernel
theorem dX0_init_7 : decode cX0_init 7 = .ok (.anewarray 9, 3) := by decide +kernel
theorem dX0_init_10 : decode cX0_init 10 = .ok (.putfield 11, 3) := by decide +kernel
theorem dX0_init_13 : decode cX0_init 13 = .ok (.iconst 0, 1) := by decide +kernel
theorem dX0_init_14 : decode cX0_init 14 = .ok (.istore_n 1, 1) := by decide +kernel
theorem dX0_init_15 : decode cX0_init 15 = .ok (.iload_n 1, 1) := by decide +kernel
theorem dX0_init_16 : decode cX0_init 16 = .ok (.bipush 16, 2) := by decide +kernel
theorem dX0_init_18 : decode cX0_init 18 = .ok (.if_icmp .ge 22, 3) := by decide +kernel
theorem dX0_init_21 : decode cX0_init 21 = .ok (.aload_n 0, 1) := by decide +kernel
theorem dX0_init_22 : decode cX0_init 22 = .ok (.getfield 11, 3) := by decide +kernel
theorem dX0_init_25 : decode cX0_init 25 = .ok (.iload_n 1, 1) := by decide +kernel
theorem dX0_init_26 : decode cX0_init 26 = .ok (.new 9, 3) := by decide +kernel
theorem dX0_init_29 : decode cX0_init 29 = .ok (.dup, 1) := by decide +kernel
theorem dX0_init_30 : decode cX0_init 30 = .ok (.invokespecial 17, 3) := by decide +kernel
theorem dX0_init_33 : decode cX0_init 33 = .ok (.aastore, 1) := by decide +kernel
theorem dX0_init_34 : decode cX0_init 34 = .ok (.iinc 1 1, 3) := by decide +kernel
theorem dX0_init_37 : decode cX0_init 37 = .ok (.goto (-22), 3) := by decide +kernel
theorem dX0_init_40 : decode cX0_init 40 = .ok (.return_, 1) := by decide +kernel
theorem dX0_remember_0 : decode cX0_remember 0 = .ok (.aload_n 0, 1) := by decide +kernel
theorem dX0_remember_1 : decode cX0_remember 1 = .ok (.getfield 11, 3) := by decide +kernel
theorem dX0_remember_4 : decode cX0_remember 4 = .ok (.aload_n 0, 1) := by decide +kernel
theorem dX0_remember_5 : decode cX0_remember 5 = .ok (.getfield 18, 3) := by decide +kernel
theorem dX0_remember_8 : decode cX0_remember 8 = .ok (.bipush 15, 2) := by decide +kernel
theorem dX0_remember_10 : decode cX0_remember 10 = .ok (.iand, 1) := by decide +kernel
theorem dX0_remember_11 : decode cX0_remember 11 = .ok (.aaload, 1) := by decide +kernel
theorem dX0_remember_12 : decode cX0_remember 12 = .ok (.aload_n 1, 1) := by decide +kernel
theorem dX0_remember_13 : decode cX0_remember 13 = .ok (.invokevirtual 22, 3) := by decide +kernel
theorem dX0_remember_16 : decode cX0_remember 16 = .ok (.aload_n 0, 1) := by decide +kernel
theorem dX0_remember_17 : decode cX0_remember 17 = .ok (.aload_n 0, 1) := by decide +kernel
theorem dX0_remember_18 : decode cX0_remember 18 = .ok (.getfield 18, 3) := by decide +kernel
theorem dX0_remember_21 : decode cX0_remember 21 = .ok (.iconst 1, 1) := by decide +kernel
theorem dX0_remember_22 : decode cX0_remember 22 = .ok (.iadd, 1) := by decide +kernel
theorem dX0_remember_23 : decode cX0_remember 23 = .ok (.bipush 15, 2) := by decide +kernel
theorem dX0_remember_25 : decode cX0_remember 25 = .ok (.iand, 1) := by decide +kernel
theorem dX0_remember_26 : decode cX0_remember 26 = .ok (.putfield 18, 3) := by decide +kernel
theorem dX0_remember_29 : decode cX0_remember 29 = .ok (.aload_n 0, 1) := by decide +kernel
theorem dX0_remember_30 : decode cX0_remember 30 = .ok (.getfield 26, 3) := by decide +kernel
theorem dX0_remember_33 : decode cX0_remember 33 = .ok (.bipush 16, 2) := by decide +kernel
theorem dX0_remember_35 : decode cX0_remember 35 = .ok (.if_icmp .ge 13, 3) := by decide +kernel
theorem dX0_remember_38 : decode cX0_remember 38 = .ok (.aload_n 0, 1) := by decide +kernel
theorem dX0_remember_39 : decode cX0_remember 39 = .ok (.dup, 1) := by decide +kernel
theorem dX0_remember_40 : decode cX0_remember 40 = .ok (.getfield 26, 3) := by decide +kernel
theorem dX0_remember_43 : decode cX0_remember 43 = .ok (.iconst 1, 1) := by decide +kernel
theorem dX0_remember_44 : decode cX0_remember 44 = .ok (.iadd, 1) := by decide +kernel
theorem dX0_remember_45 : decode cX0_remember 45 = .ok (.putfield 26, 3) := by decide +kernel
theorem dX0_remember_48 : decode cX0_remember 48 = .ok (.return_, 1) := by decide +kernel
theorem dX0_takeLastBack_0 : decode cX0_takeLastBack 0 = .ok (.aload_n 0, 1) := by decide +kernel
theorem dX0_takeLastBack_1 : decode cX0_takeLastBack 1 = .ok (.getfield 26, 3) := by decide +kernel
theorem dX0_takeLastBack_4 : decode cX0_takeLastBack 4 = .ok (.iconst 1, 1) := by decide +kernel
theorem dX0_takeLastBack_5 : decode cX0_takeLastBack 5 = .ok (.if_icmp .ge 4, 3) := by decide +kernel
theorem dX0_takeLastBack_8 : decode cX0_takeLastBack 8 = .ok (.return_, 1) := by decide +kernel
theorem dX0_takeLastBack_9 : decode cX0_takeLastBack 9 = .ok (.aload_n 0, 1) := by decide +kernel
theorem dX0_takeLastBack_10 : decode cX0_takeLastBack 10 = .ok (.aload_n 0, 1) := by decide +kernel
theorem dX0_takeLastBack_11 : decode cX0_takeLastBack 11 = .ok (.getfield 18, 3) := by decide +kernel
theorem dX0_takeLastBack_14 : decode cX0_takeLastBack 14 = .ok (.iconst 1, 1) := by decide +kernel
theorem dX0_takeLastBack_15 : decode cX0_takeLastBack 15 = .ok (.isub, 1) := by decide +kernel
theorem dX0_takeLastBack_16 : decode cX0_takeLastBack 16 = .ok (.bipush 15, 2) := by decide +kernel
theorem dX0_takeLastBack_18 : decode cX0_takeLastBack 18 = .ok (.iand, 1) := by decide +kernel
theorem dX0_takeLastBack_19 : decode cX0_takeLastBack 19 = .ok (.putfield 18, 3) := by decide +kernel
theorem dX0_takeLastBack_22 : decode cX0_takeLastBack 22 = .ok (.aload_n 1, 1) := by decide +kernel
theorem dX0_takeLastBack_23 : decode cX0_takeLastBack 23 = .ok (.aload_n 0, 1) := by decide +kernel
theorem dX0_takeLastBack_24 : decode cX0_takeLastBack 24 = .ok (.getfield 11, 3) := by decide +kernel
theorem dX0_takeLastBack_27 : decode cX0_takeLastBack 27 = .ok (.aload_n 0, 1) := by decide +kernel
theorem dX0_takeLastBack_28 : decode cX0_takeLastBack 28 = .ok (.getfield 18, 3) := by decide +kernel
theorem dX0_takeLastBack_31 : decode cX0_takeLastBack 31 = .ok (.aaload, 1) := by decide +kernel
theorem dX0_takeLastBack_32 : decode cX0_takeLastBack 32 = .ok (.invokevirtual 22, 3) := by decide +kernel
theorem dX0_takeLastBack_35 : decode cX0_takeLastBack 35 = .ok (.aload_n 0, 1) := by decide +kernel
theorem dX0_takeLastBack_36 : decode cX0_takeLastBack 36 = .ok (.dup, 1) := by decide +kernel
theorem dX0_takeLastBack_37 : decode cX0_takeLastBack 37 = .ok (.getfield 26, 3) := by decide +kernel
theorem dX0_takeLastBack_40 : decode cX0_takeLastBack 40 = .ok (.iconst 1, 1) := by decide +kernel
theorem dX0_takeLastBack_41 : decode cX0_takeLastBack 41 = .ok (.isub, 1) := by decide +kernel
theorem dX0_takeLastBack_42 : decode cX0_takeLastBack 42 = .ok (.putfield 26, 3) := by decide +kernel
theorem dX0_takeLastBack_45 : decode cX0_takeLastBack 45 = .ok (.return_, 1) := by decide +kernel
theorem dX0_forget_0 : decode cX0_forget 0 = .ok (.aload_n 0, 1) := by decide +kernel
theorem dX0_forget_1 : decode cX0_forget 1 = .ok (.iconst 0, 1) := by decide +kernel
theorem dX0_forget_2 : decode cX0_forget 2 = .ok (.putfield 26, 3) := by decide +kernel
theorem dX0_forget_5 : decode cX0_forget 5 = .ok (.aload_n 0, 1) := by decide +kernel
theorem dX0_forget_6 : decode cX0_forget 6 = .ok (.iconst 0, 1) := by decide +kernel
theorem dX0_forget_7 : decode cX0_forget 7 = .ok (.putfield 18, 3) := by decide +kernel
theorem dX0_forget_10 : decode cX0_forget 10 = .ok (.return_, 1) := by decide +kernel
theorem dX1_init_0 : decode cX1_init 0 = .ok (.aload_n 0, 1) := by decide +kernel
theorem dX1_init_1 : decode cX1_init 1 = .ok (.invokespecial 3, 3) := by decide +kernel
theorem dX1_init_4 : decode cX1_init 4 = .ok (.aload_n 0, 1) := by decide +kernel
theorem dX1_init_5 : decode cX1_init 5 = .ok (.bipush 36, 2) := by decide +kernel
theorem dX1_init_7 : decode cX1_init 7 = .ok (.newarray .int, 2) := by decide +kernel
theorem dX1_init_9 : decode cX1_init 9 = .ok (.putfield 9, 3) := by decide +kernel
theorem dX1_init_12 : decode cX1_init 12 = .ok (.aload_n 0, 1) := by decide +kernel
theorem dX1_init_13 : decode cX1_init 13 = .ok (.bipush 36, 2) := by decide +kernel
theorem dX1_init_15 : decode cX1_init 15 = .ok (.newarray .int, 2) := by decide +kernel
theorem dX1_init_17 : decode cX1_init 17 = .ok (.putfield 15, 3) := by decide +kernel
theorem dX1_init_20 : decode cX1_init 20 = .ok (.aload_n 0, 1) := by decide +kernel
theorem dX1_init_21 : decode cX1_init 21 = .ok (.bipush 6, 2) := by decide +kernel
theorem dX1_init_23 : decode cX1_init 23 = .ok (.newarray .int, 2) := by decide +kernel
theorem dX1_init_25 : decode cX1_init 25 = .ok (.putfield 18, 3) := by decide +kernel
theorem dX1_init_28 : decode cX1_init 28 = .ok (.aload_n 0, 1) := by decide +kernel
theorem dX1_init_29 : decode cX1_init 29 = .ok (.bipush 6, 2) := by decide +kernel
theorem dX1_init_31 : decode cX1_init 31 = .ok (.newarray .int, 2) := by decide +kernel
theorem dX1_init_33 : decode cX1_init 33 = .ok (.putfield 21, 3) := by decide +kernel
theorem dX1_init_36 : decode cX1_init 36 = .ok (.aload_n 0, 1) := by decide +kernel
theorem dX1_init_37 : decode cX1_init 37 = .ok (.bipush 6, 2) := by decide +kernel
theorem dX1_init_39 : decode cX1_init 39 = .ok (.newarray .int, 2) := by decide +kernel
theorem dX1_init_41 : decode cX1_init 41 = .ok (.putfield 24, 3) := by decide +kernel
theorem dX1_init_44 : decode cX1_init 44 = .ok (.aload_n 0, 1) := by decide +kernel
theorem dX1_init_45 : decode cX1_init 45 = .ok (.iconst 2, 1) := by decide +kernel
theorem dX1_init_46 : decode cX1_init 46 = .ok (.iconst 0, 1) := by decide +kernel
theorem dX1_init_47 : decode cX1_init 47 = .ok (.invokevirtual 27, 3) := by decide +kernel
theorem dX1_init_50 : decode cX1_init 50 = .ok (.aload_n 0, 1) := by decide +kernel
theorem dX1_init_51 : decode cX1_init 51 = .ok (.invokevirtual 31, 3) := by decide +kernel
theorem dX1_init_54 : decode cX1_init 54 = .ok (.return_, 1) := by decide +kernel
theorem dX1_begin_0 : decode cX1_begin 0 = .ok (.aload_n 0, 1) := by decide +kernel
theorem dX1_begin_1 : decode cX1_begin 1 = .ok (.iconst 2, 1) := by decide +kernel
theorem dX1_begin_2 : decode cX1_begin 2 = .ok (.bipush 6, 2) := by decide +kernel
theorem dX1_begin_4 : decode cX1_begin 4 = .ok (.iload_n 1, 1) := by decide +kernel
theorem dX1_begin_5 : decode cX1_begin 5 = .ok (.invokestatic 34, 3) := by decide +kernel
theorem dX1_begin_8 : decode cX1_begin 8 = .ok (.invokestatic 40, 3) := by decide +kernel
theorem dX1_begin_11 : decode cX1_begin 11 = .ok (.putfield 43, 3) := by decide +kernel
theorem dX1_begin_14 : decode cX1_begin 14 = .ok (.aload_n 0, 1) := by decide +kernel
theorem dX1_begin_15 : decode cX1_begin 15 = .ok (.iload_n 2, 1) := by decide +kernel
theorem dX1_begin_16 : decode cX1_begin 16 = .ok (.putfield 47, 3) := by decide +kernel
theorem dX1_begin_19 : decode cX1_begin 19 = .ok (.aload_n 0, 1) := by decide +kernel
theorem dX1_begin_20 : decode cX1_begin 20 = .ok (.iconst 0, 1) := by decide +kernel
theorem dX1_begin_21 : decode cX1_begin 21 = .ok (.putfield 50, 3) := by decide +kernel
theorem dX1_begin_24 : decode cX1_begin 24 = .ok (.aload_n 0, 1) := by decide +kernel
theorem dX1_begin_25 : decode cX1_begin 25 = .ok (.iconst 0, 1) := by decide +kernel
theorem dX1_begin_26 : decode cX1_begin 26 = .ok (.putfield 53, 3) := by decide +kernel
theorem dX1_begin_29 : decode cX1_begin 29 = .ok (.iconst 0, 1) := by decide +kernel
theorem dX1_begin_30 : decode cX1_begin 30 = .ok (.istore_n 3, 1) := by decide +kernel
theorem dX1_begin_31 : decode cX1_begin 31 = .ok (.iload_n 3, 1) := by decide +kernel
theorem dX1_begin_32 : decode cX1_begin 32 = .ok (.bipush 36, 2) := by decide +kernel
theorem dX1_begin_34 : decode cX1_begin 34 = .ok (.if_icmp .ge 16, 3) := by decide +kernel
theorem dX1_begin_37 : decode cX1_begin 37 = .ok (.aload_n 0, 1) := by decide +kernel
theorem dX1_begin_38 : decode cX1_begin 38 = .ok (.getfield 9, 3) := by decide +kernel
theorem dX1_begin_41 : decode cX1_begin 41 = .ok (.iload_n 3, 1) := by decide +kernel
theorem dX1_begin_42 : decode cX1_begin 42 = .ok (.iconst 0, 1) := by decide +kernel
theorem dX1_begin_43 : decode cX1_begin 43 = .ok (.iastore, 1) := by decide +kernel
theorem dX1_begin_44 : decode cX1_begin 44 = .ok (.iinc 3 1, 3) := by decide +kernel
theorem dX1_begin_47 : decode cX1_begin 47 = .ok (.goto (-16), 3) := by decide +kernel
theorem dX1_begin_50 : decode cX1_begin 50 = .ok (.return_, 1) := by decide +kernel
theorem dX1_isPlace_0 : decode cX1_isPlace 0 = .ok (.iload_n 1, 1) := by decide +kernel
theorem dX1_isPlace_1 : decode cX1_isPlace 1 = .ok (.ifCond .lt 15, 3) := by decide +kernel
theorem dX1_isPlace_4 : decode cX1_isPlace 4 = .ok (.iload_n 1, 1) := by decide +kernel
theorem dX1_isPlace_5 : decode cX1_isPlace 5 = .ok (.aload_n 0, 1) := by decide +kernel
theorem dX1_isPlace_6 : decode cX1_isPlace 6 = .ok (.getfield 43, 3) := by decide +kernel
theorem dX1_isPlace_9 : decode cX1_isPlace 9 = .ok (.if_icmp .ge 7, 3) := by decide +kernel
theorem dX1_isPlace_12 : decode cX1_isPlace 12 = .ok (.iconst 1, 1) := by decide +kernel
theorem dX1_isPlace_13 : decode cX1_isPlace 13 = .ok (.goto 4, 3) := by decide +kernel
theorem dX1_isPlace_16 : decode cX1_isPlace 16 = .ok (.iconst 0, 1) := by decide +kernel
theorem dX1_isPlace_17 : decode cX1_isPlace 17 = .ok (.ireturn, 1) := by decide +kernel
theorem dX1_isErrand_0 : decode cX1_isErrand 0 = .ok (.iload_n 1, 1) := by decide +kernel
theorem dX1_isErrand_1 : decode cX1_isErrand 1 = .ok (.ifCond .lt 15, 3) := by decide +kernel
theorem dX1_isErrand_4 : decode cX1_isErrand 4 = .ok (.iload_n 1, 1) := by decide +kernel
theorem dX1_isErrand_5 : decode cX1_isErrand 5 = .ok (.aload_n 0, 1) := by decide +kernel
theorem dX1_isErrand_6 : decode cX1_isErrand 6 = .ok (.getfield 53, 3) := by decide +kernel
theorem dX1_isErrand_9 : decode cX1_isErrand 9 = .ok (.if_icmp .ge 7, 3) := by decide +kernel
theorem dX1_isErrand_12 : decode cX1_isErrand 12 = .ok (.iconst 1, 1) := by decide +kernel
theorem dX1_isErrand_13 : decode cX1_isErrand 13 = .ok (.goto 4, 3) := by decide +kernel
theorem dX1_isErrand_16 : decode cX1_isErrand 16 = .ok (.iconst 0, 1) := by decide +kernel
theorem dX1_isErrand_17 : decode cX1_isErrand 17 = .ok (.ireturn, 1) := by decide +kernel
theorem dX1_isFreePair_0 : decode cX1_isFreePair 0 = .ok (.aload_n 0, 1) := by decide +kernel
theorem dX1_isFreePair_1 : decode cX1_isFreePair 1 = .ok (.iload_n 1, 1) := by decide +kernel
theorem dX1_isFreePair_2 : decode cX1_isFreePair 2 = .ok (.invokevirtual 56, 3) := by decide +kernel
theorem dX1_isFreePair_5 : decode cX1_isFreePair 5 = .ok (.ifCond .eq 34, 3) := by decide +kernel
theorem dX1_isFreePair_8 : decode cX1_isFreePair 8 = .ok (.aload_n 0, 1) := by decide +kernel
theorem dX1_isFreePair_9 : decode cX1_isFreePair 9 = .ok (.iload_n 2, 1) := by decide +kernel
theorem dX1_isFreePair_10 : decode cX1_isFreePair 10 = .ok (.invokevirtual 56, 3) := by decide +kernel
theorem dX1_isFreePair_13 : decode cX1_isFreePair 13 = .ok (.ifCond .eq 26, 3) := by decide +kernel
theorem dX1_isFreePair_16 : decode cX1_isFreePair 16 = .ok (.iload_n 1, 1) := by decide +kernel
theorem dX1_isFreePair_17 : decode cX1_isFreePair 17 = .ok (.iload_n 2, 1) := by decide +kernel
theorem dX1_isFreePair_18 : decode cX1_isFreePair 18 = .ok (.if_icmp .eq 21, 3) := by decide +kernel
theorem dX1_isFreePair_21 : decode cX1_isFreePair 21 = .ok (.aload_n 0, 1) := by decide +kernel
theorem dX1_isFreePair_22 : decode cX1_isFreePair 22 = .ok (.getfield 9, 3) := by decide +kernel
theorem dX1_isFreePair_25 : decode cX1_isFreePair 25 = .ok (.iload_n 1, 1) := by decide +kernel
theorem dX1_isFreePair_26 : decode cX1_isFreePair 26 = .ok (.bipush 6, 2) := by decide +kernel
theorem dX1_isFreePair_28 : decode cX1_isFreePair 28 = .ok (.imul, 1) := by decide +kernel
theorem dX1_isFreePair_29 : decode cX1_isFreePair 29 = .ok (.iload_n 2, 1) := by decide +kernel
theorem dX1_isFreePair_30 : decode cX1_isFreePair 30 = .ok (.iadd, 1) := by decide +kernel
theorem dX1_isFreePair_31 : decode cX1_isFreePair 31 = .ok (.iaload, 1) := by decide +kernel
theorem dX1_isFreePair_32 : decode cX1_isFreePair 32 = .ok (.ifCond .ne 7, 3) := by decide +kernel
theorem dX1_isFreePair_35 : decode cX1_isFreePair 35 = .ok (.iconst 1, 1) := by decide +kernel
theorem dX1_isFreePair_36 : decode cX1_isFreePair 36 = .ok (.goto 4, 3) := by decide +kernel
theorem dX1_isFreePair_39 : decode cX1_isFreePair 39 = .ok (.iconst 0, 1) := by decide +kernel
theorem dX1_isFreePair_40 : decode cX1_isFreePair 40 = .ok (.ireturn, 1) := by decide +kernel
theorem dX1_hasFreePairAt_0 : decode cX1_hasFreePairAt 0 = .ok (.iconst 0, 1) := by decide +kernel
theorem dX1_hasFreePairAt_1 : decode cX1_hasFreePairAt 1 = .ok (.istore_n 2, 1) := by decide +kernel
theorem dX1_hasFreePairAt_2 : decode cX1_hasFreePairAt 2 = .ok (.iload_n 2, 1) := by decide +kernel
theorem dX1_hasFreePairAt_3 : decode cX1_hasFreePairAt 3 = .ok (.aload_n 0, 1) := by decide +kernel
theorem dX1_hasFreePairAt_4 : decode cX1_hasFreePairAt 4 = .ok (.getfield 43, 3) := by decide +kernel
theorem dX1_hasFreePairAt_7 : decode cX1_hasFreePairAt 7 = .ok (.if_icmp .ge 20, 3) := by decide +kernel
theorem dX1_hasFreePairAt_10 : decode cX1_hasFreePairAt 10 = .ok (.aload_n 0, 1) := by decide +kernel
theorem dX1_hasFreePairAt_11 : decode cX1_hasFreePairAt 11 = .ok (.iload_n 1, 1) := by decide +kernel
theorem dX1_hasFreePairAt_12 : decode cX1_hasFreePairAt 12 = .ok (.iload_n 2, 1) := by decide +kernel
theorem dX1_hasFreePairAt_13 : decode cX1_hasFreePairAt 13 = .ok (.invokevirtual 60, 3) := by decide +kernel
theorem dX1_hasFreePairAt_16 : decode cX1_hasFreePairAt 16 = .ok (.ifCond .eq 5, 3) := by decide +kernel
theorem dX1_hasFreePairAt_19 : decode cX1_hasFreePairAt 19 = .ok (.iconst 1, 1) := by decide +kernel
theorem dX1_hasFreePairAt_20 : decode cX1_hasFreePairAt 20 = .ok (.ireturn, 1) := by decide +kernel
theorem dX1_hasFreePairAt_21 : decode cX1_hasFreePairAt 21 = .ok (.iinc 2 1, 3) := by decide +kernel
theorem dX1_hasFreePairAt_24 : decode cX1_hasFreePairAt 24 = .ok (.goto (-22), 3) := by decide +kernel
theorem dX1_hasFreePairAt_27 : decode cX1_hasFreePairAt 27 = .ok (.iconst 0, 1) := by decide +kernel
theorem dX1_hasFreePairAt_28 : decode cX1_hasFreePairAt 28 = .ok (.ireturn, 1) := by decide +kernel
theorem dX1_hasRoomForRoad_0 : decode cX1_hasRoomForRoad 0 = .ok (.aload_n 0, 1) := by decide +kernel
theorem dX1_hasRoomForRoad_1 : decode cX1_hasRoomForRoad 1 = .ok (.getfield 50, 3) := by decide +kernel
theorem dX1_hasRoomForRoad_4 : decode cX1_hasRoomForRoad 4 = .ok (.bipush 10, 2) := by decide +kernel
theorem dX1_hasRoomForRoad_6 : decode cX1_hasRoomForRoad 6 = .ok (.if_icmp .ge 27, 3) := by decide +kernel
theorem dX1_hasRoomForRoad_9 : decode cX1_hasRoomForRoad 9 = .ok (.aload_n 0, 1) := by decide +kernel
theorem dX1_hasRoomForRoad_10 : decode cX1_hasRoomForRoad 10 = .ok (.getfield 50, 3) := by decide +kernel
theorem dX1_hasRoomForRoad_13 : decode cX1_hasRoomForRoad 13 = .ok (.aload_n 0, 1) := by decide +kernel
theorem dX1_hasRoomForRoad_14 : decode cX1_hasRoomForRoad 14 = .ok (.getfield 43, 3) := by decide +kernel
theorem dX1_hasRoomForRoad_17 : decode cX1_hasRoomForRoad 17 = .ok (.aload_n 0, 1) := by decide +kernel
theorem dX1_hasRoomForRoad_18 : decode cX1_hasRoomForRoad 18 = .ok (.getfield 43, 3) := by decide +kernel
theorem dX1_hasRoomForRoad_21 : decode cX1_hasRoomForRoad 21 = .ok (.iconst 1, 1) := by decide +kernel
theorem dX1_hasRoomForRoad_22 : decode cX1_hasRoomForRoad 22 = .ok (.isub, 1) := by decide +kernel
theorem dX1_hasRoomForRoad_23 : decode cX1_hasRoomForRoad 23 = .ok (.imul, 1) := by decide +kernel
theorem dX1_hasRoomForRoad_24 : decode cX1_hasRoomForRoad 24 = .ok (.iconst 2, 1) := by decide +kernel
theorem dX1_hasRoomForRoad_25 : decode cX1_hasRoomForRoad 25 = .ok (.idiv, 1) := by decide +kernel
theorem dX1_hasRoomForRoad_26 : decode cX1_hasRoomForRoad 26 = .ok (.if_icmp .ge 7, 3) := by decide +kernel
theorem dX1_hasRoomForRoad_29 : decode cX1_hasRoomForRoad 29 = .ok (.iconst 1, 1) := by decide +kernel
theorem dX1_hasRoomForRoad_30 : decode cX1_hasRoomForRoad 30 = .ok (.goto 4, 3) := by decide +kernel
theorem dX1_hasRoomForRoad_33 : decode cX1_hasRoomForRoad 33 = .ok (.iconst 0, 1) := by decide +kernel
theorem dX1_hasRoomForRoad_34 : decode cX1_hasRoomForRoad 34 = .ok (.ireturn, 1) := by decide +kernel
theorem dX1_hasRoomForErrand_0 : decode cX1_hasRoomForErrand 0 = .ok (.aload_n 0, 1) := by decide +kernel
theorem dX1_hasRoomForErrand_1 : decode cX1_hasRoomForErrand 1 = .ok (.getfield 53, 3) := by decide +kernel
theorem dX1_hasRoomForErrand_4 : decode cX1_hasRoomForErrand 4 = .ok (.bipush 6, 2) := by decide +kernel
theorem dX1_hasRoomForErrand_6 : decode cX1_hasRoomForErrand 6 = .ok (.if_icmp .ge 7, 3) := by decide +kernel
theorem dX1_hasRoomForErrand_9 : decode cX1_hasRoomForErrand 9 = .ok (.iconst 1, 1) := by decide +kernel
theorem dX1_hasRoomForErrand_10 : decode cX1_hasRoomForErrand 10 = .ok (.goto 4, 3) := by decide +kernel
theorem dX1_hasRoomForErrand_13 : decode cX1_hasRoomForErrand 13 = .ok (.iconst 0, 1) := by decide +kernel
theorem dX1_hasRoomForErrand_14 : decode cX1_hasRoomForErrand 14 = .ok (.ireturn, 1) := by decide +kernel
theorem dX1_addRoad_0 : decode cX1_addRoad 0 = .ok (.aload_n 0, 1) := by decide +kernel
theorem dX1_addRoad_1 : decode cX1_addRoad 1 = .ok (.iload_n 1, 1) := by decide +kernel
theorem dX1_addRoad_2 : decode cX1_addRoad 2 = .ok (.iload_n 2, 1) := by decide +kernel
theorem dX1_addRoad_3 : decode cX1_addRoad 3 = .ok (.invokevirtual 60, 3) := by decide +kernel
theorem dX1_addRoad_6 : decode cX1_addRoad 6 = .ok (.ifCond .ne 4, 3) := by decide +kernel
theorem dX1_addRoad_9 : decode cX1_addRoad 9 = .ok (.return_, 1) := by decide +kernel
theorem dX1_addRoad_10 : decode cX1_addRoad 10 = .ok (.aload_n 0, 1) := by decide +kernel
theorem dX1_addRoad_11 : decode cX1_addRoad 11 = .ok (.getfield 9, 3) := by decide +kernel
theorem dX1_addRoad_14 : decode cX1_addRoad 14 = .ok (.iload_n 1, 1) := by decide +kernel
theorem dX1_addRoad_15 : decode cX1_addRoad 15 = .ok (.bipush 6, 2) := by decide +kernel
theorem dX1_addRoad_17 : decode cX1_addRoad 17 = .ok (.imul, 1) := by decide +kernel
theorem dX1_addRoad_18 : decode cX1_addRoad 18 = .ok (.iload_n 2, 1) := by decide +kernel
theorem dX1_addRoad_19 : decode cX1_addRoad 19 = .ok (.iadd, 1) := by decide +kernel
theorem dX1_addRoad_20 : decode cX1_addRoad 20 = .ok (.iload_n 3, 1) := by decide +kernel
theorem dX1_addRoad_21 : decode cX1_addRoad 21 = .ok (.iastore, 1) := by decide +kernel
theorem dX1_addRoad_22 : decode cX1_addRoad 22 = .ok (.aload_n 0, 1) := by decide +kernel
theorem dX1_addRoad_23 : decode cX1_addRoad 23 = .ok (.getfield 9, 3) := by decide +kernel
theorem dX1_addRoad_26 : decode cX1_addRoad 26 = .ok (.iload_n 2, 1) := by decide +kernel
theorem dX1_addRoad_27 : decode cX1_addRoad 27 = .ok (.bipush 6, 2) := by decide +kernel
theorem dX1_addRoad_29 : decode cX1_addRoad 29 = .ok (.imul, 1) := by decide +kernel
theorem dX1_addRoad_30 : decode cX1_addRoad 30 = .ok (.iload_n 1, 1) := by decide +kernel
theorem dX1_addRoad_31 : decode cX1_addRoad 31 = .ok (.iadd, 1) := by decide +kernel
theorem dX1_addRoad_32 : decode cX1_addRoad 32 = .ok (.iload_n 3, 1) := by decide +kernel
theorem dX1_addRoad_33 : decode cX1_addRoad 33 = .ok (.iastore, 1) := by decide +kernel
theorem dX1_addRoad_34 : decode cX1_addRoad 34 = .ok (.aload_n 0, 1) := by decide +kernel
theorem dX1_addRoad_35 : decode cX1_addRoad 35 = .ok (.dup, 1) := by decide +kernel
theorem dX1_addRoad_36 : decode cX1_addRoad 36 = .ok (.getfield 50, 3) := by decide +kernel
theorem dX1_addRoad_39 : decode cX1_addRoad 39 = .ok (.iconst 1, 1) := by decide +kernel
theorem dX1_addRoad_40 : decode cX1_addRoad 40 = .ok (.iadd, 1) := by decide +kernel
theorem dX1_addRoad_41 : decode cX1_addRoad 41 = .ok (.putfield 50, 3) := by decide +kernel
theorem dX1_addRoad_44 : decode cX1_addRoad 44 = .ok (.return_, 1) := by decide +kernel
theorem dX1_addErrand_0 : decode cX1_addErrand 0 = .ok (.aload_n 0, 1) := by decide +kernel
theorem dX1_addErrand_1 : decode cX1_addErrand 1 = .ok (.invokevirtual 64, 3) := by decide +kernel
theorem dX1_addErrand_4 : decode cX1_addErrand 4 = .ok (.ifCond .ne 4, 3) := by decide +kernel
theorem dX1_addErrand_7 : decode cX1_addErrand 7 = .ok (.return_, 1) := by decide +kernel
theorem dX1_addErrand_8 : decode cX1_addErrand 8 = .ok (.aload_n 0, 1) := by decide +kernel
theorem dX1_addErrand_9 : decode cX1_addErrand 9 = .ok (.getfield 18, 3) := by decide +kernel
theorem dX1_addErrand_12 : decode cX1_addErrand 12 = .ok (.aload_n 0, 1) := by decide +kernel
theorem dX1_addErrand_13 : decode cX1_addErrand 13 = .ok (.getfield 53, 3) := by decide +kernel
theorem dX1_addErrand_16 : decode cX1_addErrand 16 = .ok (.iload_n 1, 1) := by decide +kernel
theorem dX1_addErrand_17 : decode cX1_addErrand 17 = .ok (.iastore, 1) := by decide +kernel
theorem dX1_addErrand_18 : decode cX1_addErrand 18 = .ok (.aload_n 0, 1) := by decide +kernel
theorem dX1_addErrand_19 : decode cX1_addErrand 19 = .ok (.getfield 21, 3) := by decide +kernel
theorem dX1_addErrand_22 : decode cX1_addErrand 22 = .ok (.aload_n 0, 1) := by decide +kernel
theorem dX1_addErrand_23 : decode cX1_addErrand 23 = .ok (.getfield 53, 3) := by decide +kernel
theorem dX1_addErrand_26 : decode cX1_addErrand 26 = .ok (.iload_n 2, 1) := by decide +kernel
theorem dX1_addErrand_27 : decode cX1_addErrand 27 = .ok (.iastore, 1) := by decide +kernel
theorem dX1_addErrand_28 : decode cX1_addErrand 28 = .ok (.aload_n 0, 1) := by decide +kernel
theorem dX1_addErrand_29 : decode cX1_addErrand 29 = .ok (.getfield 24, 3) := by decide +kernel
theorem dX1_addErrand_32 : decode cX1_addErrand 32 = .ok (.aload_n 0, 1) := by decide +kernel
theorem dX1_addErrand_33 : decode cX1_addErrand 33 = .ok (.getfield 53, 3) := by decide +kernel
theorem dX1_addErrand_36 : decode cX1_addErrand 36 = .ok (.iload_n 3, 1) := by decide +kernel
theorem dX1_addErrand_37 : decode cX1_addErrand 37 = .ok (.iastore, 1) := by decide +kernel
theorem dX1_addErrand_38 : decode cX1_addErrand 38 = .ok (.aload_n 0, 1) := by decide +kernel
theorem dX1_addErrand_39 : decode cX1_addErrand 39 = .ok (.dup, 1) := by decide +kernel
theorem dX1_addErrand_40 : decode cX1_addErrand 40 = .ok (.getfield 53, 3) := by decide +kernel
theorem dX1_addErrand_43 : decode cX1_addErrand 43 = .ok (.iconst 1, 1) := by decide +kernel
theorem dX1_addErrand_44 : decode cX1_addErrand 44 = .ok (.iadd, 1) := by decide +kernel
theorem dX1_addErrand_45 : decode cX1_addErrand 45 = .ok (.putfield 53, 3) := by decide +kernel
theorem dX1_addErrand_48 : decode cX1_addErrand 48 = .ok (.return_, 1) := by decide +kernel
theorem dX1_measure_0 : decode cX1_measure 0 = .ok (.iconst 0, 1) := by decide +kernel
theorem dX1_measure_1 : decode cX1_measure 1 = .ok (.istore_n 1, 1) := by decide +kernel
theorem dX1_measure_2 : decode cX1_measure 2 = .ok (.iload_n 1, 1) := by decide +kernel
theorem dX1_measure_3 : decode cX1_measure 3 = .ok (.bipush 36, 2) := by decide +kernel
theorem dX1_measure_5 : decode cX1_measure 5 = .ok (.if_icmp .ge 35, 3) := by decide +kernel
theorem dX1_measure_8 : decode cX1_measure 8 = .ok (.aload_n 0, 1) := by decide +kernel
theorem dX1_measure_9 : decode cX1_measure 9 = .ok (.getfield 15, 3) := by decide +kernel
theorem dX1_measure_12 : decode cX1_measure 12 = .ok (.iload_n 1, 1) := by decide +kernel
theorem dX1_measure_13 : decode cX1_measure 13 = .ok (.aload_n 0, 1) := by decide +kernel
theorem dX1_measure_14 : decode cX1_measure 14 = .ok (.getfield 9, 3) := by decide +kernel
theorem dX1_measure_17 : decode cX1_measure 17 = .ok (.iload_n 1, 1) := by decide +kernel
theorem dX1_measure_18 : decode cX1_measure 18 = .ok (.iaload, 1) := by decide +kernel
theorem dX1_measure_19 : decode cX1_measure 19 = .ok (.ifCond .le 12, 3) := by decide +kernel
theorem dX1_measure_22 : decode cX1_measure 22 = .ok (.aload_n 0, 1) := by decide +kernel
theorem dX1_measure_23 : decode cX1_measure 23 = .ok (.getfield 9, 3) := by decide +kernel
theorem dX1_measure_26 : decode cX1_measure 26 = .ok (.iload_n 1, 1) := by decide +kernel
theorem dX1_measure_27 : decode cX1_measure 27 = .ok (.iaload, 1) := by decide +kernel
theorem dX1_measure_28 : decode cX1_measure 28 = .ok (.goto 5, 3) := by decide +kernel
theorem dX1_measure_31 : decode cX1_measure 31 = .ok (.ldc 68, 2) := by decide +kernel
theorem dX1_measure_33 : decode cX1_measure 33 = .ok (.iastore, 1) := by decide +kernel
theorem dX1_measure_34 : decode cX1_measure 34 = .ok (.iinc 1 1, 3) := by decide +kernel
theorem dX1_measure_37 : decode cX1_measure 37 = .ok (.goto (-35), 3) := by decide +kernel
theorem dX1_measure_40 : decode cX1_measure 40 = .ok (.iconst 0, 1) := by decide +kernel
theorem dX1_measure_41 : decode cX1_measure 41 = .ok (.istore_n 1, 1) := by decide +kernel
theorem dX1_measure_42 : decode cX1_measure 42 = .ok (.iload_n 1, 1) := by decide +kernel
theorem dX1_measure_43 : decode cX1_measure 43 = .ok (.bipush 6, 2) := by decide +kernel
theorem dX1_measure_45 : decode cX1_measure 45 = .ok (.if_icmp .ge 21, 3) := by decide +kernel
theorem dX1_measure_48 : decode cX1_measure 48 = .ok (.aload_n 0, 1) := by decide +kernel
theorem dX1_measure_49 : decode cX1_measure 49 = .ok (.getfield 15, 3) := by decide +kernel
theorem dX1_measure_52 : decode cX1_measure 52 = .ok (.iload_n 1, 1) := by decide +kernel
theorem dX1_measure_53 : decode cX1_measure 53 = .ok (.bipush 6, 2) := by decide +kernel
theorem dX1_measure_55 : decode cX1_measure 55 = .ok (.imul, 1) := by decide +kernel
theorem dX1_measure_56 : decode cX1_measure 56 = .ok (.iload_n 1, 1) := by decide +kernel
theorem dX1_measure_57 : decode cX1_measure 57 = .ok (.iadd, 1) := by decide +kernel
theorem dX1_measure_58 : decode cX1_measure 58 = .ok (.iconst 0, 1) := by decide +kernel
theorem dX1_measure_59 : decode cX1_measure 59 = .ok (.iastore, 1) := by decide +kernel
theorem dX1_measure_60 : decode cX1_measure 60 = .ok (.iinc 1 1, 3) := by decide +kernel
theorem dX1_measure_63 : decode cX1_measure 63 = .ok (.goto (-21), 3) := by decide +kernel
theorem dX1_measure_66 : decode cX1_measure 66 = .ok (.iconst 0, 1) := by decide +kernel
theorem dX1_measure_67 : decode cX1_measure 67 = .ok (.istore_n 1, 1) := by decide +kernel
theorem dX1_measure_68 : decode cX1_measure 68 = .ok (.iload_n 1, 1) := by decide +kernel
theorem dX1_measure_69 : decode cX1_measure 69 = .ok (.bipush 6, 2) := by decide +kernel
theorem dX1_measure_71 : decode cX1_measure 71 = .ok (.if_icmp .ge 91, 3) := by decide +kernel
theorem dX1_measure_74 : decode cX1_measure 74 = .ok (.iconst 0, 1) := by decide +kernel
theorem dX1_measure_75 : decode cX1_measure 75 = .ok (.istore_n 2, 1) := by decide +kernel
theorem dX1_measure_76 : decode cX1_measure 76 = .ok (.iload_n 2, 1) := by decide +kernel
theorem dX1_measure_77 : decode cX1_measure 77 = .ok (.bipush 6, 2) := by decide +kernel
theorem dX1_measure_79 : decode cX1_measure 79 = .ok (.if_icmp .ge 77, 3) := by decide +kernel
theorem dX1_measure_82 : decode cX1_measure 82 = .ok (.iconst 0, 1) := by decide +kernel
theorem dX1_measure_83 : decode cX1_measure 83 = .ok (.istore_n 3, 1) := by decide +kernel
theorem dX1_measure_84 : decode cX1_measure 84 = .ok (.iload_n 3, 1) := by decide +kernel
theorem dX1_measure_85 : decode cX1_measure 85 = .ok (.bipush 6, 2) := by decide +kernel
theorem dX1_measure_87 : decode cX1_measure 87 = .ok (.if_icmp .ge 63, 3) := by decide +kernel
theorem dX1_measure_90 : decode cX1_measure 90 = .ok (.aload_n 0, 1) := by decide +kernel
theorem dX1_measure_91 : decode cX1_measure 91 = .ok (.getfield 15, 3) := by decide +kernel
theorem dX1_measure_94 : decode cX1_measure 94 = .ok (.iload_n 2, 1) := by decide +kernel
theorem dX1_measure_95 : decode cX1_measure 95 = .ok (.bipush 6, 2) := by decide +kernel
theorem dX1_measure_97 : decode cX1_measure 97 = .ok (.imul, 1) := by decide +kernel
theorem dX1_measure_98 : decode cX1_measure 98 = .ok (.iload_n 1, 1) := by decide +kernel
theorem dX1_measure_99 : decode cX1_measure 99 = .ok (.iadd, 1) := by decide +kernel
theorem dX1_measure_100 : decode cX1_measure 100 = .ok (.iaload, 1) := by decide +kernel
theorem dX1_measure_101 : decode cX1_measure 101 = .ok (.aload_n 0, 1) := by decide +kernel
theorem dX1_measure_102 : decode cX1_measure 102 = .ok (.getfield 15, 3) := by decide +kernel
theorem dX1_measure_105 : decode cX1_measure 105 = .ok (.iload_n 1, 1) := by decide +kernel
theorem dX1_measure_106 : decode cX1_measure 106 = .ok (.bipush 6, 2) := by decide +kernel
theorem dX1_measure_108 : decode cX1_measure 108 = .ok (.imul, 1) := by decide +kernel
theorem dX1_measure_109 : decode cX1_measure 109 = .ok (.iload_n 3, 1) := by decide +kernel
theorem dX1_measure_110 : decode cX1_measure 110 = .ok (.iadd, 1) := by decide +kernel
theorem dX1_measure_111 : decode cX1_measure 111 = .ok (.iaload, 1) := by decide +kernel
theorem dX1_measure_112 : decode cX1_measure 112 = .ok (.iadd, 1) := by decide +kernel
theorem dX1_measure_113 : decode cX1_measure 113 = .ok (.istore 4, 2) := by decide +kernel
theorem dX1_measure_115 : decode cX1_measure 115 = .ok (.iload 4, 2) := by decide +kernel
theorem dX1_measure_117 : decode cX1_measure 117 = .ok (.aload_n 0, 1) := by decide +kernel
theorem dX1_measure_118 : decode cX1_measure 118 = .ok (.getfield 15, 3) := by decide +kernel
theorem dX1_measure_121 : decode cX1_measure 121 = .ok (.iload_n 2, 1) := by decide +kernel
theorem dX1_measure_122 : decode cX1_measure 122 = .ok (.bipush 6, 2) := by decide +kernel
theorem dX1_measure_124 : decode cX1_measure 124 = .ok (.imul, 1) := by decide +kernel
theorem dX1_measure_125 : decode cX1_measure 125 = .ok (.iload_n 3, 1) := by decide +kernel
theorem dX1_measure_126 : decode cX1_measure 126 = .ok (.iadd, 1) := by decide +kernel
theorem dX1_measure_127 : decode cX1_measure 127 = .ok (.iaload, 1) := by decide +kernel
theorem dX1_measure_128 : decode cX1_measure 128 = .ok (.if_icmp .ge 16, 3) := by decide +kernel
theorem dX1_measure_131 : decode cX1_measure 131 = .ok (.aload_n 0, 1) := by decide +kernel
theorem dX1_measure_132 : decode cX1_measure 132 = .ok (.getfield 15, 3) := by decide +kernel
theorem dX1_measure_135 : decode cX1_measure 135 = .ok (.iload_n 2, 1) := by decide +kernel
theorem dX1_measure_136 : decode cX1_measure 136 = .ok (.bipush 6, 2) := by decide +kernel
theorem dX1_measure_138 : decode cX1_measure 138 = .ok (.imul, 1) := by decide +kernel
theorem dX1_measure_139 : decode cX1_measure 139 = .ok (.iload_n 3, 1) := by decide +kernel
theorem dX1_measure_140 : decode cX1_measure 140 = .ok (.iadd, 1) := by decide +kernel
theorem dX1_measure_141 : decode cX1_measure 141 = .ok (.iload 4, 2) := by decide +kernel
theorem dX1_measure_143 : decode cX1_measure 143 = .ok (.iastore, 1) := by decide +kernel
theorem dX1_measure_144 : decode cX1_measure 144 = .ok (.iinc 3 1, 3) := by decide +kernel
theorem dX1_measure_147 : decode cX1_measure 147 = .ok (.goto (-63), 3) := by decide +kernel
theorem dX1_measure_150 : decode cX1_measure 150 = .ok (.iinc 2 1, 3) := by decide +kernel
theorem dX1_measure_153 : decode cX1_measure 153 = .ok (.goto (-77), 3) := by decide +kernel
theorem dX1_measure_156 : decode cX1_measure 156 = .ok (.iinc 1 1, 3) := by decide +kernel
theorem dX1_measure_159 : decode cX1_measure 159 = .ok (.goto (-91), 3) := by decide +kernel
theorem dX1_measure_162 : decode cX1_measure 162 = .ok (.return_, 1) := by decide +kernel
theorem dX1_farthest_0 : decode cX1_farthest 0 = .ok (.iconst 0, 1) := by decide +kernel
theorem dX1_farthest_1 : decode cX1_farthest 1 = .ok (.istore_n 1, 1) := by decide +kernel
theorem dX1_farthest_2 : decode cX1_farthest 2 = .ok (.iconst 0, 1) := by decide +kernel
theorem dX1_farthest_3 : decode cX1_farthest 3 = .ok (.istore_n 2, 1) := by decide +kernel
theorem dX1_farthest_4 : decode cX1_farthest 4 = .ok (.iload_n 2, 1) := by decide +kernel
theorem dX1_farthest_5 : decode cX1_farthest 5 = .ok (.aload_n 0, 1) := by decide +kernel
theorem dX1_farthest_6 : decode cX1_farthest 6 = .ok (.getfield 43, 3) := by decide +kernel
theorem dX1_farthest_9 : decode cX1_farthest 9 = .ok (.if_icmp .ge 47, 3) := by decide +kernel
theorem dX1_farthest_12 : decode cX1_farthest 12 = .ok (.iconst 0, 1) := by decide +kernel
theorem dX1_farthest_13 : decode cX1_farthest 13 = .ok (.istore_n 3, 1) := by decide +kernel
theorem dX1_farthest_14 : decode cX1_farthest 14 = .ok (.iload_n 3, 1) := by decide +kernel
theorem dX1_farthest_15 : decode cX1_farthest 15 = .ok (.aload_n 0, 1) := by decide +kernel
theorem dX1_farthest_16 : decode cX1_farthest 16 = .ok (.getfield 43, 3) := by decide +kernel
theorem dX1_farthest_19 : decode cX1_farthest 19 = .ok (.if_icmp .ge 31, 3) := by decide +kernel
theorem dX1_farthest_22 : decode cX1_farthest 22 = .ok (.aload_n 0, 1) := by decide +kernel
theorem dX1_farthest_23 : decode cX1_farthest 23 = .ok (.iload_n 2, 1) := by decide +kernel
theorem dX1_farthest_24 : decode cX1_farthest 24 = .ok (.iload_n 3, 1) := by decide +kernel
theorem dX1_farthest_25 : decode cX1_farthest 25 = .ok (.invokevirtual 69, 3) := by decide +kernel
theorem dX1_farthest_28 : decode cX1_farthest 28 = .ok (.ldc 68, 2) := by decide +kernel
theorem dX1_farthest_30 : decode cX1_farthest 30 = .ok (.if_icmp .ge 14, 3) := by decide +kernel
theorem dX1_farthest_33 : decode cX1_farthest 33 = .ok (.iload_n 1, 1) := by decide +kernel
theorem dX1_farthest_34 : decode cX1_farthest 34 = .ok (.aload_n 0, 1) := by decide +kernel
theorem dX1_farthest_35 : decode cX1_farthest 35 = .ok (.iload_n 2, 1) := by decide +kernel
theorem dX1_farthest_36 : decode cX1_farthest 36 = .ok (.iload_n 3, 1) := by decide +kernel
theorem dX1_farthest_37 : decode cX1_farthest 37 = .ok (.invokevirtual 69, 3) := by decide +kernel
theorem dX1_farthest_40 : decode cX1_farthest 40 = .ok (.invokestatic 40, 3) := by decide +kernel
theorem dX1_farthest_43 : decode cX1_farthest 43 = .ok (.istore_n 1, 1) := by decide +kernel
theorem dX1_farthest_44 : decode cX1_farthest 44 = .ok (.iinc 3 1, 3) := by decide +kernel
theorem dX1_farthest_47 : decode cX1_farthest 47 = .ok (.goto (-33), 3) := by decide +kernel
theorem dX1_farthest_50 : decode cX1_farthest 50 = .ok (.iinc 2 1, 3) := by decide +kernel
theorem dX1_farthest_53 : decode cX1_farthest 53 = .ok (.goto (-49), 3) := by decide +kernel
theorem dX1_farthest_56 : decode cX1_farthest 56 = .ok (.iload_n 1, 1) := by decide +kernel
theorem dX1_farthest_57 : decode cX1_farthest 57 = .ok (.ireturn, 1) := by decide +kernel
theorem dX1_between_0 : decode cX1_between 0 = .ok (.aload_n 0, 1) := by decide +kernel
theorem dX1_between_1 : decode cX1_between 1 = .ok (.iload_n 1, 1) := by decide +kernel
theorem dX1_between_2 : decode cX1_between 2 = .ok (.invokevirtual 56, 3) := by decide +kernel
theorem dX1_between_5 : decode cX1_between 5 = .ok (.ifCond .eq 25, 3) := by decide +kernel
theorem dX1_between_8 : decode cX1_between 8 = .ok (.aload_n 0, 1) := by decide +kernel
theorem dX1_between_9 : decode cX1_between 9 = .ok (.iload_n 2, 1) := by decide +kernel
theorem dX1_between_10 : decode cX1_between 10 = .ok (.invokevirtual 56, 3) := by decide +kernel
theorem dX1_between_13 : decode cX1_between 13 = .ok (.ifCond .eq 17, 3) := by decide +kernel
theorem dX1_between_16 : decode cX1_between 16 = .ok (.aload_n 0, 1) := by decide +kernel
theorem dX1_between_17 : decode cX1_between 17 = .ok (.getfield 15, 3) := by decide +kernel
theorem dX1_between_20 : decode cX1_between 20 = .ok (.iload_n 1, 1) := by decide +kernel
theorem dX1_between_21 : decode cX1_between 21 = .ok (.bipush 6, 2) := by decide +kernel
theorem dX1_between_23 : decode cX1_between 23 = .ok (.imul, 1) := by decide +kernel
theorem dX1_between_24 : decode cX1_between 24 = .ok (.iload_n 2, 1) := by decide +kernel
theorem dX1_between_25 : decode cX1_between 25 = .ok (.iadd, 1) := by decide +kernel
theorem dX1_between_26 : decode cX1_between 26 = .ok (.iaload, 1) := by decide +kernel
theorem dX1_between_27 : decode cX1_between 27 = .ok (.goto 5, 3) := by decide +kernel
theorem dX1_between_30 : decode cX1_between 30 = .ok (.ldc 68, 2) := by decide +kernel
theorem dX1_between_32 : decode cX1_between 32 = .ok (.ireturn, 1) := by decide +kernel
theorem dX1_siteOf_0 : decode cX1_siteOf 0 = .ok (.aload_n 0, 1) := by decide +kernel
theorem dX1_siteOf_1 : decode cX1_siteOf 1 = .ok (.iload_n 1, 1) := by decide +kernel
theorem dX1_siteOf_2 : decode cX1_siteOf 2 = .ok (.invokevirtual 72, 3) := by decide +kernel
theorem dX1_siteOf_5 : decode cX1_siteOf 5 = .ok (.ifCond .eq 12, 3) := by decide +kernel
theorem dX1_siteOf_8 : decode cX1_siteOf 8 = .ok (.aload_n 0, 1) := by decide +kernel
theorem dX1_siteOf_9 : decode cX1_siteOf 9 = .ok (.getfield 18, 3) := by decide +kernel
theorem dX1_siteOf_12 : decode cX1_siteOf 12 = .ok (.iload_n 1, 1) := by decide +kernel
theorem dX1_siteOf_13 : decode cX1_siteOf 13 = .ok (.iaload, 1) := by decide +kernel
theorem dX1_siteOf_14 : decode cX1_siteOf 14 = .ok (.goto 4, 3) := by decide +kernel
theorem dX1_siteOf_17 : decode cX1_siteOf 17 = .ok (.iconst 0, 1) := by decide +kernel
theorem dX1_siteOf_18 : decode cX1_siteOf 18 = .ok (.ireturn, 1) := by decide +kernel
theorem dX1_worthOf_0 : decode cX1_worthOf 0 = .ok (.aload_n 0, 1) := by decide +kernel
theorem dX1_worthOf_1 : decode cX1_worthOf 1 = .ok (.iload_n 1, 1) := by decide +kernel
theorem dX1_worthOf_2 : decode cX1_worthOf 2 = .ok (.invokevirtual 72, 3) := by decide +kernel
theorem dX1_worthOf_5 : decode cX1_worthOf 5 = .ok (.ifCond .eq 12, 3) := by decide +kernel
theorem dX1_worthOf_8 : decode cX1_worthOf 8 = .ok (.aload_n 0, 1) := by decide +kernel
theorem dX1_worthOf_9 : decode cX1_worthOf 9 = .ok (.getfield 21, 3) := by decide +kernel
theorem dX1_worthOf_12 : decode cX1_worthOf 12 = .ok (.iload_n 1, 1) := by decide +kernel
theorem dX1_worthOf_13 : decode cX1_worthOf 13 = .ok (.iaload, 1) := by decide +kernel
theorem dX1_worthOf_14 : decode cX1_worthOf 14 = .ok (.goto 4, 3) := by decide +kernel
theorem dX1_worthOf_17 : decode cX1_worthOf 17 = .ok (.iconst 0, 1) := by decide +kernel
theorem dX1_worthOf_18 : decode cX1_worthOf 18 = .ok (.ireturn, 1) := by decide +kernel
theorem dX1_doerOf_0 : decode cX1_doerOf 0 = .ok (.aload_n 0, 1) := by decide +kernel
theorem dX1_doerOf_1 : decode cX1_doerOf 1 = .ok (.iload_n 1, 1) := by decide +kernel
theorem dX1_doerOf_2 : decode cX1_doerOf 2 = .ok (.invokevirtual 72, 3) := by decide +kernel
theorem dX1_doerOf_5 : decode cX1_doerOf 5 = .ok (.ifCond .eq 12, 3) := by decide +kernel
theorem dX1_doerOf_8 : decode cX1_doerOf 8 = .ok (.aload_n 0, 1) := by decide +kernel
theorem dX1_doerOf_9 : decode cX1_doerOf 9 = .ok (.getfield 24, 3) := by decide +kernel
theorem dX1_doerOf_12 : decode cX1_doerOf 12 = .ok (.iload_n 1, 1) := by decide +kernel
theorem dX1_doerOf_13 : decode cX1_doerOf 13 = .ok (.iaload, 1) := by decide +kernel
theorem dX1_doerOf_14 : decode cX1_doerOf 14 = .ok (.goto 4, 3) := by decide +kernel
theorem dX1_doerOf_17 : decode cX1_doerOf 17 = .ok (.iconst 2, 1) := by decide +kernel
theorem dX1_doerOf_18 : decode cX1_doerOf 18 = .ok (.ireturn, 1) := by decide +kernel
theorem dX1_canDo_0 : decode cX1_canDo 0 = .ok (.aload_n 0, 1) := by decide +kernel
theorem dX1_canDo_1 : decode cX1_canDo 1 = .ok (.iload_n 2, 1) := by decide +kernel
theorem dX1_canDo_2 : decode cX1_canDo 2 = .ok (.invokevirtual 72, 3) := by decide +kernel
theorem dX1_canDo_5 : decode cX1_canDo 5 = .ok (.ifCond .eq 27, 3) := by decide +kernel
theorem dX1_canDo_8 : decode cX1_canDo 8 = .ok (.aload_n 0, 1) := by decide +kernel
theorem dX1_canDo_9 : decode cX1_canDo 9 = .ok (.getfield 24, 3) := by decide +kernel
theorem dX1_canDo_12 : decode cX1_canDo 12 = .ok (.iload_n 2, 1) := by decide +kernel
theorem dX1_canDo_13 : decode cX1_canDo 13 = .ok (.iaload, 1) := by decide +kernel
theorem dX1_canDo_14 : decode cX1_canDo 14 = .ok (.iconst 2, 1) := by decide +kernel
theorem dX1_canDo_15 : decode cX1_canDo 15 = .ok (.if_icmp .eq 13, 3) := by decide +kernel
theorem dX1_canDo_18 : decode cX1_canDo 18 = .ok (.aload_n 0, 1) := by decide +kernel
theorem dX1_canDo_19 : decode cX1_canDo 19 = .ok (.getfield 24, 3) := by decide +kernel
theorem dX1_canDo_22 : decode cX1_canDo 22 = .ok (.iload_n 2, 1) := by decide +kernel
theorem dX1_canDo_23 : decode cX1_canDo 23 = .ok (.iaload, 1) := by decide +kernel
theorem dX1_canDo_24 : decode cX1_canDo 24 = .ok (.iload_n 1, 1) := by decide +kernel
theorem dX1_canDo_25 : decode cX1_canDo 25 = .ok (.if_icmp .ne 7, 3) := by decide +kernel
theorem dX1_canDo_28 : decode cX1_canDo 28 = .ok (.iconst 1, 1) := by decide +kernel
theorem dX1_canDo_29 : decode cX1_canDo 29 = .ok (.goto 4, 3) := by decide +kernel
theorem dX1_canDo_32 : decode cX1_canDo 32 = .ok (.iconst 0, 1) := by decide +kernel
theorem dX1_canDo_33 : decode cX1_canDo 33 = .ok (.ireturn, 1) := by decide +kernel
theorem dX1_allErrands_0 : decode cX1_allErrands 0 = .ok (.iconst 1, 1) := by decide +kernel
theorem dX1_allErrands_1 : decode cX1_allErrands 1 = .ok (.aload_n 0, 1) := by decide +kernel
theorem dX1_allErrands_2 : decode cX1_allErrands 2 = .ok (.getfield 53, 3) := by decide +kernel
theorem dX1_allErrands_5 : decode cX1_allErrands 5 = .ok (.ishl, 1) := by decide +kernel
theorem dX1_allErrands_6 : decode cX1_allErrands 6 = .ok (.iconst 1, 1) := by decide +kernel
theorem dX1_allErrands_7 : decode cX1_allErrands 7 = .ok (.isub, 1) := by decide +kernel
theorem dX1_allErrands_8 : decode cX1_allErrands 8 = .ok (.ireturn, 1) := by decide +kernel
theorem dX1_allFor_0 : decode cX1_allFor 0 = .ok (.iconst 0, 1) := by decide +kernel
theorem dX1_allFor_1 : decode cX1_allFor 1 = .ok (.istore_n 2, 1) := by decide +kernel
theorem dX1_allFor_2 : decode cX1_allFor 2 = .ok (.iconst 0, 1) := by decide +kernel
theorem dX1_allFor_3 : decode cX1_allFor 3 = .ok (.istore_n 3, 1) := by decide +kernel
theorem dX1_allFor_4 : decode cX1_allFor 4 = .ok (.iload_n 3, 1) := by decide +kernel
theorem dX1_allFor_5 : decode cX1_allFor 5 = .ok (.aload_n 0, 1) := by decide +kernel
theorem dX1_allFor_6 : decode cX1_allFor 6 = .ok (.getfield 53, 3) := by decide +kernel
theorem dX1_allFor_9 : decode cX1_allFor 9 = .ok (.if_icmp .ge 24, 3) := by decide +kernel
theorem dX1_allFor_12 : decode cX1_allFor 12 = .ok (.aload_n 0, 1) := by decide +kernel
theorem dX1_allFor_13 : decode cX1_allFor 13 = .ok (.iload_n 1, 1) := by decide +kernel
theorem dX1_allFor_14 : decode cX1_allFor 14 = .ok (.iload_n 3, 1) := by decide +kernel
theorem dX1_allFor_15 : decode cX1_allFor 15 = .ok (.invokevirtual 75, 3) := by decide +kernel
theorem dX1_allFor_18 : decode cX1_allFor 18 = .ok (.ifCond .eq 9, 3) := by decide +kernel
theorem dX1_allFor_21 : decode cX1_allFor 21 = .ok (.iload_n 2, 1) := by decide +kernel
theorem dX1_allFor_22 : decode cX1_allFor 22 = .ok (.iconst 1, 1) := by decide +kernel
theorem dX1_allFor_23 : decode cX1_allFor 23 = .ok (.iload_n 3, 1) := by decide +kernel
theorem dX1_allFor_24 : decode cX1_allFor 24 = .ok (.ishl, 1) := by decide +kernel
theorem dX1_allFor_25 : decode cX1_allFor 25 = .ok (.ior, 1) := by decide +kernel
theorem dX1_allFor_26 : decode cX1_allFor 26 = .ok (.istore_n 2, 1) := by decide +kernel
theorem dX1_allFor_27 : decode cX1_allFor 27 = .ok (.iinc 3 1, 3) := by decide +kernel
theorem dX1_allFor_30 : decode cX1_allFor 30 = .ok (.goto (-26), 3) := by decide +kernel
theorem dX1_allFor_33 : decode cX1_allFor 33 = .ok (.iload_n 2, 1) := by decide +kernel
theorem dX1_allFor_34 : decode cX1_allFor 34 = .ok (.ireturn, 1) := by decide +kernel
theorem dX1_worthOfSet_0 : decode cX1_worthOfSet 0 = .ok (.iconst 0, 1) := by decide +kernel
theorem dX1_worthOfSet_1 : decode cX1_worthOfSet 1 = .ok (.istore_n 2, 1) := by decide +kernel
theorem dX1_worthOfSet_2 : decode cX1_worthOfSet 2 = .ok (.iconst 0, 1) := by decide +kernel
theorem dX1_worthOfSet_3 : decode cX1_worthOfSet 3 = .ok (.istore_n 3, 1) := by decide +kernel
theorem dX1_worthOfSet_4 : decode cX1_worthOfSet 4 = .ok (.iload_n 3, 1) := by decide +kernel
theorem dX1_worthOfSet_5 : decode cX1_worthOfSet 5 = .ok (.aload_n 0, 1) := by decide +kernel
theorem dX1_worthOfSet_6 : decode cX1_worthOfSet 6 = .ok (.getfield 53, 3) := by decide +kernel
theorem dX1_worthOfSet_9 : decode cX1_worthOfSet 9 = .ok (.if_icmp .ge 26, 3) := by decide +kernel
theorem dX1_worthOfSet_12 : decode cX1_worthOfSet 12 = .ok (.iload_n 1, 1) := by decide +kernel
theorem dX1_worthOfSet_13 : decode cX1_worthOfSet 13 = .ok (.iload_n 3, 1) := by decide +kernel
theorem dX1_worthOfSet_14 : decode cX1_worthOfSet 14 = .ok (.ishr, 1) := by decide +kernel
theorem dX1_worthOfSet_15 : decode cX1_worthOfSet 15 = .ok (.iconst 1, 1) := by decide +kernel
theorem dX1_worthOfSet_16 : decode cX1_worthOfSet 16 = .ok (.iand, 1) := by decide +kernel
theorem dX1_worthOfSet_17 : decode cX1_worthOfSet 17 = .ok (.iconst 1, 1) := by decide +kernel
theorem dX1_worthOfSet_18 : decode cX1_worthOfSet 18 = .ok (.if_icmp .ne 11, 3) := by decide +kernel
theorem dX1_worthOfSet_21 : decode cX1_worthOfSet 21 = .ok (.iload_n 2, 1) := by decide +kernel
theorem dX1_worthOfSet_22 : decode cX1_worthOfSet 22 = .ok (.aload_n 0, 1) := by decide +kernel
theorem dX1_worthOfSet_23 : decode cX1_worthOfSet 23 = .ok (.iload_n 3, 1) := by decide +kernel
theorem dX1_worthOfSet_24 : decode cX1_worthOfSet 24 = .ok (.invokevirtual 78, 3) := by decide +kernel
theorem dX1_worthOfSet_27 : decode cX1_worthOfSet 27 = .ok (.iadd, 1) := by decide +kernel
theorem dX1_worthOfSet_28 : decode cX1_worthOfSet 28 = .ok (.istore_n 2, 1) := by decide +kernel
theorem dX1_worthOfSet_29 : decode cX1_worthOfSet 29 = .ok (.iinc 3 1, 3) := by decide +kernel
theorem dX1_worthOfSet_32 : decode cX1_worthOfSet 32 = .ok (.goto (-28), 3) := by decide +kernel
theorem dX1_worthOfSet_35 : decode cX1_worthOfSet 35 = .ok (.iload_n 2, 1) := by decide +kernel
theorem dX1_worthOfSet_36 : decode cX1_worthOfSet 36 = .ok (.ireturn, 1) := by decide +kernel
theorem dX1_placesOfSet_0 : decode cX1_placesOfSet 0 = .ok (.iconst 0, 1) := by decide +kernel
theorem dX1_placesOfSet_1 : decode cX1_placesOfSet 1 = .ok (.istore_n 2, 1) := by decide +kernel
theorem dX1_placesOfSet_2 : decode cX1_placesOfSet 2 = .ok (.iconst 0, 1) := by decide +kernel
theorem dX1_placesOfSet_3 : decode cX1_placesOfSet 3 = .ok (.istore_n 3, 1) := by decide +kernel
theorem dX1_placesOfSet_4 : decode cX1_placesOfSet 4 = .ok (.iload_n 3, 1) := by decide +kernel
theorem dX1_placesOfSet_5 : decode cX1_placesOfSet 5 = .ok (.aload_n 0, 1) := by decide +kernel
theorem dX1_placesOfSet_6 : decode cX1_placesOfSet 6 = .ok (.getfield 53, 3) := by decide +kernel
theorem dX1_placesOfSet_9 : decode cX1_placesOfSet 9 = .ok (.if_icmp .ge 28, 3) := by decide +kernel
theorem dX1_placesOfSet_12 : decode cX1_placesOfSet 12 = .ok (.iload_n 1, 1) := by decide +kernel
theorem dX1_placesOfSet_13 : decode cX1_placesOfSet 13 = .ok (.iload_n 3, 1) := by decide +kernel
theorem dX1_placesOfSet_14 : decode cX1_placesOfSet 14 = .ok (.ishr, 1) := by decide +kernel
theorem dX1_placesOfSet_15 : decode cX1_placesOfSet 15 = .ok (.iconst 1, 1) := by decide +kernel
theorem dX1_placesOfSet_16 : decode cX1_placesOfSet 16 = .ok (.iand, 1) := by decide +kernel
theorem dX1_placesOfSet_17 : decode cX1_placesOfSet 17 = .ok (.iconst 1, 1) := by decide +kernel
theorem dX1_placesOfSet_18 : decode cX1_placesOfSet 18 = .ok (.if_icmp .ne 13, 3) := by decide +kernel
theorem dX1_placesOfSet_21 : decode cX1_placesOfSet 21 = .ok (.iload_n 2, 1) := by decide +kernel
theorem dX1_placesOfSet_22 : decode cX1_placesOfSet 22 = .ok (.iconst 1, 1) := by decide +kernel
theorem dX1_placesOfSet_23 : decode cX1_placesOfSet 23 = .ok (.aload_n 0, 1) := by decide +kernel
theorem dX1_placesOfSet_24 : decode cX1_placesOfSet 24 = .ok (.iload_n 3, 1) := by decide +kernel
theorem dX1_placesOfSet_25 : decode cX1_placesOfSet 25 = .ok (.invokevirtual 82, 3) := by decide +kernel
theorem dX1_placesOfSet_28 : decode cX1_placesOfSet 28 = .ok (.ishl, 1) := by decide +kernel
theorem dX1_placesOfSet_29 : decode cX1_placesOfSet 29 = .ok (.ior, 1) := by decide +kernel
theorem dX1_placesOfSet_30 : decode cX1_placesOfSet 30 = .ok (.istore_n 2, 1) := by decide +kernel
theorem dX1_placesOfSet_31 : decode cX1_placesOfSet 31 = .ok (.iinc 3 1, 3) := by decide +kernel
theorem dX1_placesOfSet_34 : decode cX1_placesOfSet 34 = .ok (.goto (-30), 3) := by decide +kernel
theorem dX1_placesOfSet_37 : decode cX1_placesOfSet 37 = .ok (.iload_n 2, 1) := by decide +kernel
theorem dX1_placesOfSet_38 : decode cX1_placesOfSet 38 = .ok (.ireturn, 1) := by decide +kernel
theorem dX2_init_0 : decode cX2_init 0 = .ok (.aload_n 0, 1) := by decide +kernel
theorem dX2_init_1 : decode cX2_init 1 = .ok (.invokespecial 3, 3) := by decide +kernel
theorem dX2_init_4 : decode cX2_init 4 = .ok (.aload_n 0, 1) := by decide +kernel
theorem dX2_init_5 : decode cX2_init 5 = .ok (.bipush 64, 2) := by decide +kernel
theorem dX2_init_7 : decode cX2_init 7 = .ok (.newarray .int, 2) := by decide +kernel
theorem dX2_init_9 : decode cX2_init 9 = .ok (.putfield 9, 3) := by decide +kernel
theorem dX2_init_12 : decode cX2_init 12 = .ok (.aload_n 0, 1) := by decide +kernel
theorem dX2_init_13 : decode cX2_init 13 = .ok (.bipush 64, 2) := by decide +kernel
theorem dX2_init_15 : decode cX2_init 15 = .ok (.newarray .int, 2) := by decide +kernel
theorem dX2_init_17 : decode cX2_init 17 = .ok (.putfield 15, 3) := by decide +kernel
theorem dX2_init_20 : decode cX2_init 20 = .ok (.return_, 1) := by decide +kernel
theorem dX2_prepare_0 : decode cX2_prepare 0 = .ok (.aload_n 0, 1) := by decide +kernel
theorem dX2_prepare_1 : decode cX2_prepare 1 = .ok (.iconst 1, 1) := by decide +kernel
theorem dX2_prepare_2 : decode cX2_prepare 2 = .ok (.aload_n 1, 1) := by decide +kernel
theorem dX2_prepare_3 : decode cX2_prepare 3 = .ok (.getfield 18, 3) := by decide +kernel
theorem dX2_prepare_6 : decode cX2_prepare 6 = .ok (.ishl, 1) := by decide +kernel
theorem dX2_prepare_7 : decode cX2_prepare 7 = .ok (.putfield 24, 3) := by decide +kernel
theorem dX2_prepare_10 : decode cX2_prepare 10 = .ok (.aload_n 0, 1) := by decide +kernel
theorem dX2_prepare_11 : decode cX2_prepare 11 = .ok (.iconst 1, 1) := by decide +kernel
theorem dX2_prepare_12 : decode cX2_prepare 12 = .ok (.putfield 27, 3) := by decide +kernel
theorem dX2_prepare_15 : decode cX2_prepare 15 = .ok (.iconst 0, 1) := by decide +kernel
theorem dX2_prepare_16 : decode cX2_prepare 16 = .ok (.istore 4, 2) := by decide +kernel
theorem dX2_prepare_18 : decode cX2_prepare 18 = .ok (.iload 4, 2) := by decide +kernel
theorem dX2_prepare_20 : decode cX2_prepare 20 = .ok (.aload_n 1, 1) := by decide +kernel
theorem dX2_prepare_21 : decode cX2_prepare 21 = .ok (.getfield 18, 3) := by decide +kernel
theorem dX2_prepare_24 : decode cX2_prepare 24 = .ok (.if_icmp .ge 20, 3) := by decide +kernel
theorem dX2_prepare_27 : decode cX2_prepare 27 = .ok (.aload_n 0, 1) := by decide +kernel
theorem dX2_prepare_28 : decode cX2_prepare 28 = .ok (.dup, 1) := by decide +kernel
theorem dX2_prepare_29 : decode cX2_prepare 29 = .ok (.getfield 27, 3) := by decide +kernel
theorem dX2_prepare_32 : decode cX2_prepare 32 = .ok (.bipush 10, 2) := by decide +kernel
theorem dX2_prepare_34 : decode cX2_prepare 34 = .ok (.imul, 1) := by decide +kernel
theorem dX2_prepare_35 : decode cX2_prepare 35 = .ok (.putfield 27, 3) := by decide +kernel
theorem dX2_prepare_38 : decode cX2_prepare 38 = .ok (.iinc 4 1, 3) := by decide +kernel
theorem dX2_prepare_41 : decode cX2_prepare 41 = .ok (.goto (-23), 3) := by decide +kernel
theorem dX2_prepare_44 : decode cX2_prepare 44 = .ok (.iconst 0, 1) := by decide +kernel
theorem dX2_prepare_45 : decode cX2_prepare 45 = .ok (.istore 4, 2) := by decide +kernel
theorem dX2_prepare_47 : decode cX2_prepare 47 = .ok (.iload 4, 2) := by decide +kernel
theorem dX2_prepare_49 : decode cX2_prepare 49 = .ok (.aload_n 0, 1) := by decide +kernel
theorem dX2_prepare_50 : decode cX2_prepare 50 = .ok (.getfield 24, 3) := by decide +kernel
theorem dX2_prepare_53 : decode cX2_prepare 53 = .ok (.if_icmp .ge 80, 3) := by decide +kernel
theorem dX2_prepare_56 : decode cX2_prepare 56 = .ok (.aload_n 0, 1) := by decide +kernel
theorem dX2_prepare_57 : decode cX2_prepare 57 = .ok (.getfield 9, 3) := by decide +kernel
theorem dX2_prepare_60 : decode cX2_prepare 60 = .ok (.iload 4, 2) := by decide +kernel
theorem dX2_prepare_62 : decode cX2_prepare 62 = .ok (.aload_n 2, 1) := by decide +kernel
theorem dX2_prepare_63 : decode cX2_prepare 63 = .ok (.aload_n 1, 1) := by decide +kernel
theorem dX2_prepare_64 : decode cX2_prepare 64 = .ok (.iload 4, 2) := by decide +kernel
theorem dX2_prepare_66 : decode cX2_prepare 66 = .ok (.invokevirtual 30, 3) := by decide +kernel
theorem dX2_prepare_69 : decode cX2_prepare 69 = .ok (.invokevirtual 34, 3) := by decide +kernel
theorem dX2_prepare_72 : decode cX2_prepare 72 = .ok (.iastore, 1) := by decide +kernel
theorem dX2_prepare_73 : decode cX2_prepare 73 = .ok (.iconst 1, 1) := by decide +kernel
theorem dX2_prepare_74 : decode cX2_prepare 74 = .ok (.istore 5, 2) := by decide +kernel
theorem dX2_prepare_76 : decode cX2_prepare 76 = .ok (.iconst 0, 1) := by decide +kernel
theorem dX2_prepare_77 : decode cX2_prepare 77 = .ok (.istore 6, 2) := by decide +kernel
theorem dX2_prepare_79 : decode cX2_prepare 79 = .ok (.iload 6, 2) := by decide +kernel
theorem dX2_prepare_81 : decode cX2_prepare 81 = .ok (.aload_n 1, 1) := by decide +kernel
theorem dX2_prepare_82 : decode cX2_prepare 82 = .ok (.getfield 18, 3) := by decide +kernel
theorem dX2_prepare_85 : decode cX2_prepare 85 = .ok (.if_icmp .ge 33, 3) := by decide +kernel
theorem dX2_prepare_88 : decode cX2_prepare 88 = .ok (.iload 5, 2) := by decide +kernel
theorem dX2_prepare_90 : decode cX2_prepare 90 = .ok (.iload 4, 2) := by decide +kernel
theorem dX2_prepare_92 : decode cX2_prepare 92 = .ok (.iload 6, 2) := by decide +kernel
theorem dX2_prepare_94 : decode cX2_prepare 94 = .ok (.ishr, 1) := by decide +kernel
theorem dX2_prepare_95 : decode cX2_prepare 95 = .ok (.iconst 1, 1) := by decide +kernel
theorem dX2_prepare_96 : decode cX2_prepare 96 = .ok (.iand, 1) := by decide +kernel
theorem dX2_prepare_97 : decode cX2_prepare 97 = .ok (.iconst 1, 1) := by decide +kernel
theorem dX2_prepare_98 : decode cX2_prepare 98 = .ok (.if_icmp .ne 7, 3) := by decide +kernel
theorem dX2_prepare_101 : decode cX2_prepare 101 = .ok (.iload_n 3, 1) := by decide +kernel
theorem dX2_prepare_102 : decode cX2_prepare 102 = .ok (.goto 7, 3) := by decide +kernel
theorem dX2_prepare_105 : decode cX2_prepare 105 = .ok (.bipush 10, 2) := by decide +kernel
theorem dX2_prepare_107 : decode cX2_prepare 107 = .ok (.iload_n 3, 1) := by decide +kernel
theorem dX2_prepare_108 : decode cX2_prepare 108 = .ok (.isub, 1) := by decide +kernel
theorem dX2_prepare_109 : decode cX2_prepare 109 = .ok (.imul, 1) := by decide +kernel
theorem dX2_prepare_110 : decode cX2_prepare 110 = .ok (.istore 5, 2) := by decide +kernel
theorem dX2_prepare_112 : decode cX2_prepare 112 = .ok (.iinc 6 1, 3) := by decide +kernel
theorem dX2_prepare_115 : decode cX2_prepare 115 = .ok (.goto (-36), 3) := by decide +kernel
theorem dX2_prepare_118 : decode cX2_prepare 118 = .ok (.aload_n 0, 1) := by decide +kernel
theorem dX2_prepare_119 : decode cX2_prepare 119 = .ok (.getfield 15, 3) := by decide +kernel
theorem dX2_prepare_122 : decode cX2_prepare 122 = .ok (.iload 4, 2) := by decide +kernel
theorem dX2_prepare_124 : decode cX2_prepare 124 = .ok (.iload 5, 2) := by decide +kernel
theorem dX2_prepare_126 : decode cX2_prepare 126 = .ok (.iastore, 1) := by decide +kernel
theorem dX2_prepare_127 : decode cX2_prepare 127 = .ok (.iinc 4 1, 3) := by decide +kernel
theorem dX2_prepare_130 : decode cX2_prepare 130 = .ok (.goto (-83), 3) := by decide +kernel
theorem dX2_prepare_133 : decode cX2_prepare 133 = .ok (.return_, 1) := by decide +kernel
theorem dX2_weightWithin_0 : decode cX2_weightWithin 0 = .ok (.iconst 0, 1) := by decide +kernel
theorem dX2_weightWithin_1 : decode cX2_weightWithin 1 = .ok (.istore_n 2, 1) := by decide +kernel
theorem dX2_weightWithin_2 : decode cX2_weightWithin 2 = .ok (.iconst 0, 1) := by decide +kernel
theorem dX2_weightWithin_3 : decode cX2_weightWithin 3 = .ok (.istore_n 3, 1) := by decide +kernel
theorem dX2_weightWithin_4 : decode cX2_weightWithin 4 = .ok (.iload_n 3, 1) := by decide +kernel
theorem dX2_weightWithin_5 : decode cX2_weightWithin 5 = .ok (.aload_n 0, 1) := by decide +kernel
theorem dX2_weightWithin_6 : decode cX2_weightWithin 6 = .ok (.getfield 24, 3) := by decide +kernel
theorem dX2_weightWithin_9 : decode cX2_weightWithin 9 = .ok (.if_icmp .ge 28, 3) := by decide +kernel
theorem dX2_weightWithin_12 : decode cX2_weightWithin 12 = .ok (.aload_n 0, 1) := by decide +kernel
theorem dX2_weightWithin_13 : decode cX2_weightWithin 13 = .ok (.getfield 9, 3) := by decide +kernel
theorem dX2_weightWithin_16 : decode cX2_weightWithin 16 = .ok (.iload_n 3, 1) := by decide +kernel
theorem dX2_weightWithin_17 : decode cX2_weightWithin 17 = .ok (.iaload, 1) := by decide +kernel
theorem dX2_weightWithin_18 : decode cX2_weightWithin 18 = .ok (.iload_n 1, 1) := by decide +kernel
theorem dX2_weightWithin_19 : decode cX2_weightWithin 19 = .ok (.if_icmp .gt 12, 3) := by decide +kernel
theorem dX2_weightWithin_22 : decode cX2_weightWithin 22 = .ok (.iload_n 2, 1) := by decide +kernel
theorem dX2_weightWithin_23 : decode cX2_weightWithin 23 = .ok (.aload_n 0, 1) := by decide +kernel
theorem dX2_weightWithin_24 : decode cX2_weightWithin 24 = .ok (.getfield 15, 3) := by decide +kernel
theorem dX2_weightWithin_27 : decode cX2_weightWithin 27 = .ok (.iload_n 3, 1) := by decide +kernel
theorem dX2_weightWithin_28 : decode cX2_weightWithin 28 = .ok (.iaload, 1) := by decide +kernel
theorem dX2_weightWithin_29 : decode cX2_weightWithin 29 = .ok (.iadd, 1) := by decide +kernel
theorem dX2_weightWithin_30 : decode cX2_weightWithin 30 = .ok (.istore_n 2, 1) := by decide +kernel
theorem dX2_weightWithin_31 : decode cX2_weightWithin 31 = .ok (.iinc 3 1, 3) := by decide +kernel
theorem dX2_weightWithin_34 : decode cX2_weightWithin 34 = .ok (.goto (-30), 3) := by decide +kernel
theorem dX2_weightWithin_37 : decode cX2_weightWithin 37 = .ok (.iload_n 2, 1) := by decide +kernel
theorem dX2_weightWithin_38 : decode cX2_weightWithin 38 = .ok (.ireturn, 1) := by decide +kernel
theorem dX2_leastSteps_0 : decode cX2_leastSteps 0 = .ok (.bipush (-9), 2) := by decide +kernel
theorem dX2_leastSteps_2 : decode cX2_leastSteps 2 = .ok (.istore_n 2, 1) := by decide +kernel
theorem dX2_leastSteps_3 : decode cX2_leastSteps 3 = .ok (.iconst 0, 1) := by decide +kernel
theorem dX2_leastSteps_4 : decode cX2_leastSteps 4 = .ok (.istore_n 3, 1) := by decide +kernel
theorem dX2_leastSteps_5 : decode cX2_leastSteps 5 = .ok (.iload_n 3, 1) := by decide +kernel
theorem dX2_leastSteps_6 : decode cX2_leastSteps 6 = .ok (.aload_n 0, 1) := by decide +kernel
theorem dX2_leastSteps_7 : decode cX2_leastSteps 7 = .ok (.getfield 24, 3) := by decide +kernel
theorem dX2_leastSteps_10 : decode cX2_leastSteps 10 = .ok (.if_icmp .ge 75, 3) := by decide +kernel
theorem dX2_leastSteps_13 : decode cX2_leastSteps 13 = .ok (.aload_n 0, 1) := by decide +kernel
theorem dX2_leastSteps_14 : decode cX2_leastSteps 14 = .ok (.getfield 9, 3) := by decide +kernel
theorem dX2_leastSteps_17 : decode cX2_leastSteps 17 = .ok (.iload_n 3, 1) := by decide +kernel
theorem dX2_leastSteps_18 : decode cX2_leastSteps 18 = .ok (.iaload, 1) := by decide +kernel
theorem dX2_leastSteps_19 : decode cX2_leastSteps 19 = .ok (.istore 4, 2) := by decide +kernel
theorem dX2_leastSteps_21 : decode cX2_leastSteps 21 = .ok (.iload 4, 2) := by decide +kernel
theorem dX2_leastSteps_23 : decode cX2_leastSteps 23 = .ok (.sipush 999, 3) := by decide +kernel
theorem dX2_leastSteps_26 : decode cX2_leastSteps 26 = .ok (.if_icmp .gt 19, 3) := by decide +kernel
theorem dX2_leastSteps_29 : decode cX2_leastSteps 29 = .ok (.iload_n 2, 1) := by decide +kernel
theorem dX2_leastSteps_30 : decode cX2_leastSteps 30 = .ok (.bipush (-9), 2) := by decide +kernel
theorem dX2_leastSteps_32 : decode cX2_leastSteps 32 = .ok (.if_icmp .eq 9, 3) := by decide +kernel
theorem dX2_leastSteps_35 : decode cX2_leastSteps 35 = .ok (.iload 4, 2) := by decide +kernel
theorem dX2_leastSteps_37 : decode cX2_leastSteps 37 = .ok (.iload_n 2, 1) := by decide +kernel
theorem dX2_leastSteps_38 : decode cX2_leastSteps 38 = .ok (.if_icmp .ge 7, 3) := by decide +kernel
theorem dX2_leastSteps_41 : decode cX2_leastSteps 41 = .ok (.iconst 1, 1) := by decide +kernel
theorem dX2_leastSteps_42 : decode cX2_leastSteps 42 = .ok (.goto 4, 3) := by decide +kernel
theorem dX2_leastSteps_45 : decode cX2_leastSteps 45 = .ok (.iconst 0, 1) := by decide +kernel
theorem dX2_leastSteps_46 : decode cX2_leastSteps 46 = .ok (.istore 5, 2) := by decide +kernel
theorem dX2_leastSteps_48 : decode cX2_leastSteps 48 = .ok (.iload 5, 2) := by decide +kernel
theorem dX2_leastSteps_50 : decode cX2_leastSteps 50 = .ok (.ifCond .eq 29, 3) := by decide +kernel
theorem dX2_leastSteps_53 : decode cX2_leastSteps 53 = .ok (.ldc2_w 39, 3) := by decide +kernel
theorem dX2_leastSteps_56 : decode cX2_leastSteps 56 = .ok (.aload_n 0, 1) := by decide +kernel
theorem dX2_leastSteps_57 : decode cX2_leastSteps 57 = .ok (.iload 4, 2) := by decide +kernel
theorem dX2_leastSteps_59 : decode cX2_leastSteps 59 = .ok (.invokevirtual 41, 3) := by decide +kernel
theorem dX2_leastSteps_62 : decode cX2_leastSteps 62 = .ok (.i2l, 1) := by decide +kernel
theorem dX2_leastSteps_63 : decode cX2_leastSteps 63 = .ok (.lmul, 1) := by decide +kernel
theorem dX2_leastSteps_64 : decode cX2_leastSteps 64 = .ok (.iload_n 1, 1) := by decide +kernel
theorem dX2_leastSteps_65 : decode cX2_leastSteps 65 = .ok (.i2l, 1) := by decide +kernel
theorem dX2_leastSteps_66 : decode cX2_leastSteps 66 = .ok (.aload_n 0, 1) := by decide +kernel
theorem dX2_leastSteps_67 : decode cX2_leastSteps 67 = .ok (.getfield 27, 3) := by decide +kernel
theorem dX2_leastSteps_70 : decode cX2_leastSteps 70 = .ok (.i2l, 1) := by decide +kernel
theorem dX2_leastSteps_71 : decode cX2_leastSteps 71 = .ok (.lmul, 1) := by decide +kernel
theorem dX2_leastSteps_72 : decode cX2_leastSteps 72 = .ok (.lcmp, 1) := by decide +kernel
theorem dX2_leastSteps_73 : decode cX2_leastSteps 73 = .ok (.ifCond .lt 6, 3) := by decide +kernel
theorem dX2_leastSteps_76 : decode cX2_leastSteps 76 = .ok (.iload 4, 2) := by decide +kernel
theorem dX2_leastSteps_78 : decode cX2_leastSteps 78 = .ok (.istore_n 2, 1) := by decide +kernel
theorem dX2_leastSteps_79 : decode cX2_leastSteps 79 = .ok (.iinc 3 1, 3) := by decide +kernel
theorem dX2_leastSteps_82 : decode cX2_leastSteps 82 = .ok (.goto (-77), 3) := by decide +kernel
theorem dX2_leastSteps_85 : decode cX2_leastSteps 85 = .ok (.iload_n 2, 1) := by decide +kernel
theorem dX2_leastSteps_86 : decode cX2_leastSteps 86 = .ok (.ireturn, 1) := by decide +kernel
theorem dX3_init_0 : decode cX3_init 0 = .ok (.aload_n 0, 1) := by decide +kernel
theorem dX3_init_1 : decode cX3_init 1 = .ok (.invokespecial 3, 3) := by decide +kernel
theorem dX3_init_4 : decode cX3_init 4 = .ok (.aload_n 0, 1) := by decide +kernel
theorem dX3_init_5 : decode cX3_init 5 = .ok (.new 9, 3) := by decide +kernel
theorem dX3_init_8 : decode cX3_init 8 = .ok (.dup, 1) := by decide +kernel
theorem dX3_init_9 : decode cX3_init 9 = .ok (.invokespecial 11, 3) := by decide +kernel
theorem dX3_init_12 : decode cX3_init 12 = .ok (.putfield 12, 3) := by decide +kernel
theorem dX3_init_15 : decode cX3_init 15 = .ok (.aload_n 0, 1) := by decide +kernel
theorem dX3_init_16 : decode cX3_init 16 = .ok (.new 9, 3) := by decide +kernel
theorem dX3_init_19 : decode cX3_init 19 = .ok (.dup, 1) := by decide +kernel
theorem dX3_init_20 : decode cX3_init 20 = .ok (.invokespecial 11, 3) := by decide +kernel
theorem dX3_init_23 : decode cX3_init 23 = .ok (.putfield 18, 3) := by decide +kernel
theorem dX3_init_26 : decode cX3_init 26 = .ok (.aload_n 0, 1) := by decide +kernel
theorem dX3_init_27 : decode cX3_init 27 = .ok (.bipush 64, 2) := by decide +kernel
theorem dX3_init_29 : decode cX3_init 29 = .ok (.newarray .int, 2) := by decide +kernel
theorem dX3_init_31 : decode cX3_init 31 = .ok (.putfield 21, 3) := by decide +kernel
theorem dX3_init_34 : decode cX3_init 34 = .ok (.aload_n 0, 1) := by decide +kernel
theorem dX3_init_35 : decode cX3_init 35 = .ok (.bipush 64, 2) := by decide +kernel
theorem dX3_init_37 : decode cX3_init 37 = .ok (.newarray .int, 2) := by decide +kernel
theorem dX3_init_39 : decode cX3_init 39 = .ok (.putfield 25, 3) := by decide +kernel
theorem dX3_init_42 : decode cX3_init 42 = .ok (.return_, 1) := by decide +kernel
theorem dX3_offer_0 : decode cX3_offer 0 = .ok (.aload_n 0, 1) := by decide +kernel
theorem dX3_offer_1 : decode cX3_offer 1 = .ok (.iload_n 1, 1) := by decide +kernel
theorem dX3_offer_2 : decode cX3_offer 2 = .ok (.putfield 28, 3) := by decide +kernel
theorem dX3_offer_5 : decode cX3_offer 5 = .ok (.aload_n 0, 1) := by decide +kernel
theorem dX3_offer_6 : decode cX3_offer 6 = .ok (.iload_n 2, 1) := by decide +kernel
theorem dX3_offer_7 : decode cX3_offer 7 = .ok (.putfield 32, 3) := by decide +kernel
theorem dX3_offer_10 : decode cX3_offer 10 = .ok (.return_, 1) := by decide +kernel
theorem dX3_settle_0 : decode cX3_settle 0 = .ok (.aload_n 0, 1) := by decide +kernel
theorem dX3_settle_1 : decode cX3_settle 1 = .ok (.getfield 12, 3) := by decide +kernel
theorem dX3_settle_4 : decode cX3_settle 4 = .ok (.aload_n 1, 1) := by decide +kernel
theorem dX3_settle_5 : decode cX3_settle 5 = .ok (.iload_n 2, 1) := by decide +kernel
theorem dX3_settle_6 : decode cX3_settle 6 = .ok (.iload 4, 2) := by decide +kernel
theorem dX3_settle_8 : decode cX3_settle 8 = .ok (.invokevirtual 35, 3) := by decide +kernel
theorem dX3_settle_11 : decode cX3_settle 11 = .ok (.aload_n 0, 1) := by decide +kernel
theorem dX3_settle_12 : decode cX3_settle 12 = .ok (.getfield 18, 3) := by decide +kernel
theorem dX3_settle_15 : decode cX3_settle 15 = .ok (.aload_n 1, 1) := by decide +kernel
theorem dX3_settle_16 : decode cX3_settle 16 = .ok (.iload_n 3, 1) := by decide +kernel
theorem dX3_settle_17 : decode cX3_settle 17 = .ok (.iload 4, 2) := by decide +kernel
theorem dX3_settle_19 : decode cX3_settle 19 = .ok (.invokevirtual 35, 3) := by decide +kernel
theorem dX3_settle_22 : decode cX3_settle 22 = .ok (.aload_n 0, 1) := by decide +kernel
theorem dX3_settle_23 : decode cX3_settle 23 = .ok (.iconst 0, 1) := by decide +kernel
theorem dX3_settle_24 : decode cX3_settle 24 = .ok (.putfield 39, 3) := by decide +kernel
theorem dX3_settle_27 : decode cX3_settle 27 = .ok (.iconst 1, 1) := by decide +kernel
theorem dX3_settle_28 : decode cX3_settle 28 = .ok (.aload_n 1, 1) := by decide +kernel
theorem dX3_settle_29 : decode cX3_settle 29 = .ok (.getfield 43, 3) := by decide +kernel
theorem dX3_settle_32 : decode cX3_settle 32 = .ok (.ishl, 1) := by decide +kernel
theorem dX3_settle_33 : decode cX3_settle 33 = .ok (.istore 6, 2) := by decide +kernel
theorem dX3_settle_35 : decode cX3_settle 35 = .ok (.iconst 0, 1) := by decide +kernel
theorem dX3_settle_36 : decode cX3_settle 36 = .ok (.istore 7, 2) := by decide +kernel
theorem dX3_settle_38 : decode cX3_settle 38 = .ok (.iload 7, 2) := by decide +kernel
theorem dX3_settle_40 : decode cX3_settle 40 = .ok (.iload 6, 2) := by decide +kernel
theorem dX3_settle_42 : decode cX3_settle 42 = .ok (.if_icmp .ge 59, 3) := by decide +kernel
theorem dX3_settle_45 : decode cX3_settle 45 = .ok (.aload_n 0, 1) := by decide +kernel
theorem dX3_settle_46 : decode cX3_settle 46 = .ok (.getfield 25, 3) := by decide +kernel
theorem dX3_settle_49 : decode cX3_settle 49 = .ok (.iload 7, 2) := by decide +kernel
theorem dX3_settle_51 : decode cX3_settle 51 = .ok (.aload_n 1, 1) := by decide +kernel
theorem dX3_settle_52 : decode cX3_settle 52 = .ok (.iload 7, 2) := by decide +kernel
theorem dX3_settle_54 : decode cX3_settle 54 = .ok (.invokevirtual 48, 3) := by decide +kernel
theorem dX3_settle_57 : decode cX3_settle 57 = .ok (.iastore, 1) := by decide +kernel
theorem dX3_settle_58 : decode cX3_settle 58 = .ok (.aload_n 0, 1) := by decide +kernel
theorem dX3_settle_59 : decode cX3_settle 59 = .ok (.getfield 21, 3) := by decide +kernel
theorem dX3_settle_62 : decode cX3_settle 62 = .ok (.iload 7, 2) := by decide +kernel
theorem dX3_settle_64 : decode cX3_settle 64 = .ok (.iload 7, 2) := by decide +kernel
theorem dX3_settle_66 : decode cX3_settle 66 = .ok (.aload_n 0, 1) := by decide +kernel
theorem dX3_settle_67 : decode cX3_settle 67 = .ok (.getfield 32, 3) := by decide +kernel
theorem dX3_settle_70 : decode cX3_settle 70 = .ok (.invokestatic 52, 3) := by decide +kernel
theorem dX3_settle_73 : decode cX3_settle 73 = .ok (.ifCond .eq 19, 3) := by decide +kernel
theorem dX3_settle_76 : decode cX3_settle 76 = .ok (.aload_n 0, 1) := by decide +kernel
theorem dX3_settle_77 : decode cX3_settle 77 = .ok (.getfield 18, 3) := by decide +kernel
theorem dX3_settle_80 : decode cX3_settle 80 = .ok (.aload_n 1, 1) := by decide +kernel
theorem dX3_settle_81 : decode cX3_settle 81 = .ok (.iload 7, 2) := by decide +kernel
theorem dX3_settle_83 : decode cX3_settle 83 = .ok (.invokevirtual 56, 3) := by decide +kernel
theorem dX3_settle_86 : decode cX3_settle 86 = .ok (.invokevirtual 59, 3) := by decide +kernel
theorem dX3_settle_89 : decode cX3_settle 89 = .ok (.goto 5, 3) := by decide +kernel
theorem dX3_settle_92 : decode cX3_settle 92 = .ok (.ldc 62, 2) := by decide +kernel
theorem dX3_settle_94 : decode cX3_settle 94 = .ok (.iastore, 1) := by decide +kernel
theorem dX3_settle_95 : decode cX3_settle 95 = .ok (.iinc 7 1, 3) := by decide +kernel
theorem dX3_settle_98 : decode cX3_settle 98 = .ok (.goto (-60), 3) := by decide +kernel
theorem dX3_settle_101 : decode cX3_settle 101 = .ok (.iconst 0, 1) := by decide +kernel
theorem dX3_settle_102 : decode cX3_settle 102 = .ok (.istore 7, 2) := by decide +kernel
theorem dX3_settle_104 : decode cX3_settle 104 = .ok (.iload 7, 2) := by decide +kernel
theorem dX3_settle_106 : decode cX3_settle 106 = .ok (.iload 6, 2) := by decide +kernel
theorem dX3_settle_108 : decode cX3_settle 108 = .ok (.if_icmp .ge 55, 3) := by decide +kernel
theorem dX3_settle_111 : decode cX3_settle 111 = .ok (.iload 7, 2) := by decide +kernel
theorem dX3_settle_113 : decode cX3_settle 113 = .ok (.aload_n 0, 1) := by decide +kernel
theorem dX3_settle_114 : decode cX3_settle 114 = .ok (.getfield 28, 3) := by decide +kernel
theorem dX3_settle_117 : decode cX3_settle 117 = .ok (.invokestatic 52, 3) := by decide +kernel
theorem dX3_settle_120 : decode cX3_settle 120 = .ok (.ifCond .eq 37, 3) := by decide +kernel
theorem dX3_settle_123 : decode cX3_settle 123 = .ok (.aload_n 0, 1) := by decide +kernel
theorem dX3_settle_124 : decode cX3_settle 124 = .ok (.getfield 12, 3) := by decide +kernel
theorem dX3_settle_127 : decode cX3_settle 127 = .ok (.aload_n 1, 1) := by decide +kernel
theorem dX3_settle_128 : decode cX3_settle 128 = .ok (.iload 7, 2) := by decide +kernel
theorem dX3_settle_130 : decode cX3_settle 130 = .ok (.invokevirtual 56, 3) := by decide +kernel
theorem dX3_settle_133 : decode cX3_settle 133 = .ok (.invokevirtual 59, 3) := by decide +kernel
theorem dX3_settle_136 : decode cX3_settle 136 = .ok (.istore 8, 2) := by decide +kernel
theorem dX3_settle_138 : decode cX3_settle 138 = .ok (.iload 8, 2) := by decide +kernel
theorem dX3_settle_140 : decode cX3_settle 140 = .ok (.iload 5, 2) := by decide +kernel
theorem dX3_settle_142 : decode cX3_settle 142 = .ok (.if_icmp .gt 15, 3) := by decide +kernel
theorem dX3_settle_145 : decode cX3_settle 145 = .ok (.aload_n 0, 1) := by decide +kernel
theorem dX3_settle_146 : decode cX3_settle 146 = .ok (.iload 7, 2) := by decide +kernel
theorem dX3_settle_148 : decode cX3_settle 148 = .ok (.iload 8, 2) := by decide +kernel
theorem dX3_settle_150 : decode cX3_settle 150 = .ok (.iload 6, 2) := by decide +kernel
theorem dX3_settle_152 : decode cX3_settle 152 = .ok (.iload 5, 2) := by decide +kernel
theorem dX3_settle_154 : decode cX3_settle 154 = .ok (.invokevirtual 63, 3) := by decide +kernel
theorem dX3_settle_157 : decode cX3_settle 157 = .ok (.iinc 7 1, 3) := by decide +kernel
theorem dX3_settle_160 : decode cX3_settle 160 = .ok (.goto (-56), 3) := by decide +kernel
theorem dX3_settle_163 : decode cX3_settle 163 = .ok (.return_, 1) := by decide +kernel
theorem dX3_tryWith_0 : decode cX3_tryWith 0 = .ok (.iconst 0, 1) := by decide +kernel
theorem dX3_tryWith_1 : decode cX3_tryWith 1 = .ok (.istore 5, 2) := by decide +kernel
theorem dX3_tryWith_3 : decode cX3_tryWith 3 = .ok (.iload 5, 2) := by decide +kernel
theorem dX3_tryWith_5 : decode cX3_tryWith 5 = .ok (.iload_n 3, 1) := by decide +kernel
theorem dX3_tryWith_6 : decode cX3_tryWith 6 = .ok (.if_icmp .ge 87, 3) := by decide +kernel
theorem dX3_tryWith_9 : decode cX3_tryWith 9 = .ok (.iload_n 2, 1) := by decide +kernel
theorem dX3_tryWith_10 : decode cX3_tryWith 10 = .ok (.aload_n 0, 1) := by decide +kernel
theorem dX3_tryWith_11 : decode cX3_tryWith 11 = .ok (.getfield 21, 3) := by decide +kernel
theorem dX3_tryWith_14 : decode cX3_tryWith 14 = .ok (.iload 5, 2) := by decide +kernel
theorem dX3_tryWith_16 : decode cX3_tryWith 16 = .ok (.iaload, 1) := by decide +kernel
theorem dX3_tryWith_17 : decode cX3_tryWith 17 = .ok (.iadd, 1) := by decide +kernel
theorem dX3_tryWith_18 : decode cX3_tryWith 18 = .ok (.istore 6, 2) := by decide +kernel
theorem dX3_tryWith_20 : decode cX3_tryWith 20 = .ok (.iload_n 1, 1) := by decide +kernel
theorem dX3_tryWith_21 : decode cX3_tryWith 21 = .ok (.iload 5, 2) := by decide +kernel
theorem dX3_tryWith_23 : decode cX3_tryWith 23 = .ok (.iand, 1) := by decide +kernel
theorem dX3_tryWith_24 : decode cX3_tryWith 24 = .ok (.ifCond .ne 63, 3) := by decide +kernel
theorem dX3_tryWith_27 : decode cX3_tryWith 27 = .ok (.iload 6, 2) := by decide +kernel
theorem dX3_tryWith_29 : decode cX3_tryWith 29 = .ok (.iload 4, 2) := by decide +kernel
theorem dX3_tryWith_31 : decode cX3_tryWith 31 = .ok (.if_icmp .gt 56, 3) := by decide +kernel
theorem dX3_tryWith_34 : decode cX3_tryWith 34 = .ok (.aload_n 0, 1) := by decide +kernel
theorem dX3_tryWith_35 : decode cX3_tryWith 35 = .ok (.aload_n 0, 1) := by decide +kernel
theorem dX3_tryWith_36 : decode cX3_tryWith 36 = .ok (.getfield 25, 3) := by decide +kernel
theorem dX3_tryWith_39 : decode cX3_tryWith 39 = .ok (.iload_n 1, 1) := by decide +kernel
theorem dX3_tryWith_40 : decode cX3_tryWith 40 = .ok (.iload 5, 2) := by decide +kernel
theorem dX3_tryWith_42 : decode cX3_tryWith 42 = .ok (.ior, 1) := by decide +kernel
theorem dX3_tryWith_43 : decode cX3_tryWith 43 = .ok (.iaload, 1) := by decide +kernel
theorem dX3_tryWith_44 : decode cX3_tryWith 44 = .ok (.iload 6, 2) := by decide +kernel
theorem dX3_tryWith_46 : decode cX3_tryWith 46 = .ok (.invokevirtual 67, 3) := by decide +kernel
theorem dX3_tryWith_49 : decode cX3_tryWith 49 = .ok (.ifCond .eq 38, 3) := by decide +kernel
theorem dX3_tryWith_52 : decode cX3_tryWith 52 = .ok (.aload_n 0, 1) := by decide +kernel
theorem dX3_tryWith_53 : decode cX3_tryWith 53 = .ok (.iconst 1, 1) := by decide +kernel
theorem dX3_tryWith_54 : decode cX3_tryWith 54 = .ok (.putfield 39, 3) := by decide +kernel
theorem dX3_tryWith_57 : decode cX3_tryWith 57 = .ok (.aload_n 0, 1) := by decide +kernel
theorem dX3_tryWith_58 : decode cX3_tryWith 58 = .ok (.aload_n 0, 1) := by decide +kernel
theorem dX3_tryWith_59 : decode cX3_tryWith 59 = .ok (.getfield 25, 3) := by decide +kernel
theorem dX3_tryWith_62 : decode cX3_tryWith 62 = .ok (.iload_n 1, 1) := by decide +kernel
theorem dX3_tryWith_63 : decode cX3_tryWith 63 = .ok (.iload 5, 2) := by decide +kernel
theorem dX3_tryWith_65 : decode cX3_tryWith 65 = .ok (.ior, 1) := by decide +kernel
theorem dX3_tryWith_66 : decode cX3_tryWith 66 = .ok (.iaload, 1) := by decide +kernel
theorem dX3_tryWith_67 : decode cX3_tryWith 67 = .ok (.putfield 70, 3) := by decide +kernel
theorem dX3_tryWith_70 : decode cX3_tryWith 70 = .ok (.aload_n 0, 1) := by decide +kernel
theorem dX3_tryWith_71 : decode cX3_tryWith 71 = .ok (.iload 6, 2) := by decide +kernel
theorem dX3_tryWith_73 : decode cX3_tryWith 73 = .ok (.putfield 73, 3) := by decide +kernel
theorem dX3_tryWith_76 : decode cX3_tryWith 76 = .ok (.aload_n 0, 1) := by decide +kernel
theorem dX3_tryWith_77 : decode cX3_tryWith 77 = .ok (.iload_n 1, 1) := by decide +kernel
theorem dX3_tryWith_78 : decode cX3_tryWith 78 = .ok (.putfield 76, 3) := by decide +kernel
theorem dX3_tryWith_81 : decode cX3_tryWith 81 = .ok (.aload_n 0, 1) := by decide +kernel
theorem dX3_tryWith_82 : decode cX3_tryWith 82 = .ok (.iload 5, 2) := by decide +kernel
theorem dX3_tryWith_84 : decode cX3_tryWith 84 = .ok (.putfield 79, 3) := by decide +kernel
theorem dX3_tryWith_87 : decode cX3_tryWith 87 = .ok (.iinc 5 1, 3) := by decide +kernel
theorem dX3_tryWith_90 : decode cX3_tryWith 90 = .ok (.goto (-87), 3) := by decide +kernel
theorem dX3_tryWith_93 : decode cX3_tryWith 93 = .ok (.return_, 1) := by decide +kernel
theorem dX3_isBetter_0 : decode cX3_isBetter 0 = .ok (.aload_n 0, 1) := by decide +kernel
theorem dX3_isBetter_1 : decode cX3_isBetter 1 = .ok (.getfield 39, 3) := by decide +kernel
theorem dX3_isBetter_4 : decode cX3_isBetter 4 = .ok (.ifCond .eq 11, 3) := by decide +kernel
theorem dX3_isBetter_7 : decode cX3_isBetter 7 = .ok (.iload_n 1, 1) := by decide +kernel
theorem dX3_isBetter_8 : decode cX3_isBetter 8 = .ok (.aload_n 0, 1) := by decide +kernel
theorem dX3_isBetter_9 : decode cX3_isBetter 9 = .ok (.getfield 70, 3) := by decide +kernel
theorem dX3_isBetter_12 : decode cX3_isBetter 12 = .ok (.if_icmp .le 5, 3) := by decide +kernel
theorem dX3_isBetter_15 : decode cX3_isBetter 15 = .ok (.iconst 1, 1) := by decide +kernel
theorem dX3_isBetter_16 : decode cX3_isBetter 16 = .ok (.ireturn, 1) := by decide +kernel
theorem dX3_isBetter_17 : decode cX3_isBetter 17 = .ok (.iload_n 1, 1) := by decide +kernel
theorem dX3_isBetter_18 : decode cX3_isBetter 18 = .ok (.aload_n 0, 1) := by decide +kernel
theorem dX3_isBetter_19 : decode cX3_isBetter 19 = .ok (.getfield 70, 3) := by decide +kernel
theorem dX3_isBetter_22 : decode cX3_isBetter 22 = .ok (.if_icmp .ne 15, 3) := by decide +kernel
theorem dX3_isBetter_25 : decode cX3_isBetter 25 = .ok (.iload_n 2, 1) := by decide +kernel
theorem dX3_isBetter_26 : decode cX3_isBetter 26 = .ok (.aload_n 0, 1) := by decide +kernel
theorem dX3_isBetter_27 : decode cX3_isBetter 27 = .ok (.getfield 73, 3) := by decide +kernel
theorem dX3_isBetter_30 : decode cX3_isBetter 30 = .ok (.if_icmp .ge 7, 3) := by decide +kernel
theorem dX3_isBetter_33 : decode cX3_isBetter 33 = .ok (.iconst 1, 1) := by decide +kernel
theorem dX3_isBetter_34 : decode cX3_isBetter 34 = .ok (.goto 4, 3) := by decide +kernel
theorem dX3_isBetter_37 : decode cX3_isBetter 37 = .ok (.iconst 0, 1) := by decide +kernel
theorem dX3_isBetter_38 : decode cX3_isBetter 38 = .ok (.ireturn, 1) := by decide +kernel
theorem dX3_isPartOf_0 : decode cX3_isPartOf 0 = .ok (.iload_n 0, 1) := by decide +kernel
theorem dX3_isPartOf_1 : decode cX3_isPartOf 1 = .ok (.iload_n 1, 1) := by decide +kernel
theorem dX3_isPartOf_2 : decode cX3_isPartOf 2 = .ok (.iconst (-1), 1) := by decide +kernel
theorem dX3_isPartOf_3 : decode cX3_isPartOf 3 = .ok (.ixor, 1) := by decide +kernel
theorem dX3_isPartOf_4 : decode cX3_isPartOf 4 = .ok (.iand, 1) := by decide +kernel
theorem dX3_isPartOf_5 : decode cX3_isPartOf 5 = .ok (.ifCond .ne 7, 3) := by decide +kernel
theorem dX3_isPartOf_8 : decode cX3_isPartOf 8 = .ok (.iconst 1, 1) := by decide +kernel
theorem dX3_isPartOf_9 : decode cX3_isPartOf 9 = .ok (.goto 4, 3) := by decide +kernel
theorem dX3_isPartOf_12 : decode cX3_isPartOf 12 = .ok (.iconst 0, 1) := by decide +kernel
theorem dX3_isPartOf_13 : decode cX3_isPartOf 13 = .ok (.ireturn, 1) := by decide +kernel
theorem dX4_firstFault_0 : decode cX4_firstFault 0 = .ok (.aload_n 0, 1) := by decide +kernel
theorem dX4_firstFault_1 : decode cX4_firstFault 1 = .ok (.invokevirtual 9, 3) := by decide +kernel
theorem dX4_firstFault_4 : decode cX4_firstFault 4 = .ok (.istore_n 2, 1) := by decide +kernel
theorem dX4_firstFault_5 : decode cX4_firstFault 5 = .ok (.aload_n 0, 1) := by decide +kernel
theorem dX4_firstFault_6 : decode cX4_firstFault 6 = .ok (.invokestatic 15, 3) := by decide +kernel
theorem dX4_firstFault_9 : decode cX4_firstFault 9 = .ok (.istore_n 3, 1) := by decide +kernel
theorem dX4_firstFault_10 : decode cX4_firstFault 10 = .ok (.iload_n 3, 1) := by decide +kernel
theorem dX4_firstFault_11 : decode cX4_firstFault 11 = .ok (.bipush (-9), 2) := by decide +kernel
theorem dX4_firstFault_13 : decode cX4_firstFault 13 = .ok (.if_icmp .eq 5, 3) := by decide +kernel
theorem dX4_firstFault_16 : decode cX4_firstFault 16 = .ok (.iload_n 3, 1) := by decide +kernel
theorem dX4_firstFault_17 : decode cX4_firstFault 17 = .ok (.ireturn, 1) := by decide +kernel
theorem dX4_firstFault_18 : decode cX4_firstFault 18 = .ok (.aload_n 0, 1) := by decide +kernel
theorem dX4_firstFault_19 : decode cX4_firstFault 19 = .ok (.iconst 1, 1) := by decide +kernel
theorem dX4_firstFault_20 : decode cX4_firstFault 20 = .ok (.invokevirtual 21, 3) := by decide +kernel
theorem dX4_firstFault_23 : decode cX4_firstFault 23 = .ok (.bipush 100, 2) := by decide +kernel
theorem dX4_firstFault_25 : decode cX4_firstFault 25 = .ok (.imul, 1) := by decide +kernel
theorem dX4_firstFault_26 : decode cX4_firstFault 26 = .ok (.aload_n 0, 1) := by decide +kernel
theorem dX4_firstFault_27 : decode cX4_firstFault 27 = .ok (.iconst 2, 1) := by decide +kernel
theorem dX4_firstFault_28 : decode cX4_firstFault 28 = .ok (.invokevirtual 21, 3) := by decide +kernel
theorem dX4_firstFault_31 : decode cX4_firstFault 31 = .ok (.bipush 10, 2) := by decide +kernel
theorem dX4_firstFault_33 : decode cX4_firstFault 33 = .ok (.imul, 1) := by decide +kernel
theorem dX4_firstFault_34 : decode cX4_firstFault 34 = .ok (.iadd, 1) := by decide +kernel
theorem dX4_firstFault_35 : decode cX4_firstFault 35 = .ok (.aload_n 0, 1) := by decide +kernel
theorem dX4_firstFault_36 : decode cX4_firstFault 36 = .ok (.iconst 3, 1) := by decide +kernel
theorem dX4_firstFault_37 : decode cX4_firstFault 37 = .ok (.invokevirtual 21, 3) := by decide +kernel
theorem dX4_firstFault_40 : decode cX4_firstFault 40 = .ok (.iadd, 1) := by decide +kernel
theorem dX4_firstFault_41 : decode cX4_firstFault 41 = .ok (.istore 4, 2) := by decide +kernel
theorem dX4_firstFault_43 : decode cX4_firstFault 43 = .ok (.aload_n 1, 1) := by decide +kernel
theorem dX4_firstFault_44 : decode cX4_firstFault 44 = .ok (.aload_n 0, 1) := by decide +kernel
theorem dX4_firstFault_45 : decode cX4_firstFault 45 = .ok (.iconst 4, 1) := by decide +kernel
theorem dX4_firstFault_46 : decode cX4_firstFault 46 = .ok (.invokevirtual 21, 3) := by decide +kernel
theorem dX4_firstFault_49 : decode cX4_firstFault 49 = .ok (.iload 4, 2) := by decide +kernel
theorem dX4_firstFault_51 : decode cX4_firstFault 51 = .ok (.invokevirtual 25, 3) := by decide +kernel
theorem dX4_firstFault_54 : decode cX4_firstFault 54 = .ok (.iconst 5, 1) := by decide +kernel
theorem dX4_firstFault_55 : decode cX4_firstFault 55 = .ok (.istore 5, 2) := by decide +kernel
theorem dX4_firstFault_57 : decode cX4_firstFault 57 = .ok (.iconst 5, 1) := by decide +kernel
theorem dX4_firstFault_58 : decode cX4_firstFault 58 = .ok (.istore 6, 2) := by decide +kernel
theorem dX4_firstFault_60 : decode cX4_firstFault 60 = .ok (.iload 6, 2) := by decide +kernel
theorem dX4_firstFault_62 : decode cX4_firstFault 62 = .ok (.iload_n 2, 1) := by decide +kernel
theorem dX4_firstFault_63 : decode cX4_firstFault 63 = .ok (.if_icmp .ge 74, 3) := by decide +kernel
theorem dX4_firstFault_66 : decode cX4_firstFault 66 = .ok (.aload_n 0, 1) := by decide +kernel
theorem dX4_firstFault_67 : decode cX4_firstFault 67 = .ok (.iload 6, 2) := by decide +kernel
theorem dX4_firstFault_69 : decode cX4_firstFault 69 = .ok (.invokevirtual 31, 3) := by decide +kernel
theorem dX4_firstFault_72 : decode cX4_firstFault 72 = .ok (.bipush 82, 2) := by decide +kernel
theorem dX4_firstFault_74 : decode cX4_firstFault 74 = .ok (.if_icmp .ne 7, 3) := by decide +kernel
theorem dX4_firstFault_77 : decode cX4_firstFault 77 = .ok (.iconst 1, 1) := by decide +kernel
theorem dX4_firstFault_78 : decode cX4_firstFault 78 = .ok (.goto 4, 3) := by decide +kernel
theorem dX4_firstFault_81 : decode cX4_firstFault 81 = .ok (.iconst 0, 1) := by decide +kernel
theorem dX4_firstFault_82 : decode cX4_firstFault 82 = .ok (.istore 7, 2) := by decide +kernel
theorem dX4_firstFault_84 : decode cX4_firstFault 84 = .ok (.iload 7, 2) := by decide +kernel
theorem dX4_firstFault_86 : decode cX4_firstFault 86 = .ok (.ifCond .eq 7, 3) := by decide +kernel
theorem dX4_firstFault_89 : decode cX4_firstFault 89 = .ok (.iconst 5, 1) := by decide +kernel
theorem dX4_firstFault_90 : decode cX4_firstFault 90 = .ok (.goto 4, 3) := by decide +kernel
theorem dX4_firstFault_93 : decode cX4_firstFault 93 = .ok (.iconst 4, 1) := by decide +kernel
theorem dX4_firstFault_94 : decode cX4_firstFault 94 = .ok (.istore 5, 2) := by decide +kernel
theorem dX4_firstFault_96 : decode cX4_firstFault 96 = .ok (.iload 7, 2) := by decide +kernel
theorem dX4_firstFault_98 : decode cX4_firstFault 98 = .ok (.ifCond .eq 13, 3) := by decide +kernel
theorem dX4_firstFault_101 : decode cX4_firstFault 101 = .ok (.aload_n 0, 1) := by decide +kernel
theorem dX4_firstFault_102 : decode cX4_firstFault 102 = .ok (.aload_n 1, 1) := by decide +kernel
theorem dX4_firstFault_103 : decode cX4_firstFault 103 = .ok (.iload 6, 2) := by decide +kernel
theorem dX4_firstFault_105 : decode cX4_firstFault 105 = .ok (.invokestatic 34, 3) := by decide +kernel
theorem dX4_firstFault_108 : decode cX4_firstFault 108 = .ok (.goto 10, 3) := by decide +kernel
theorem dX4_firstFault_111 : decode cX4_firstFault 111 = .ok (.aload_n 0, 1) := by decide +kernel
theorem dX4_firstFault_112 : decode cX4_firstFault 112 = .ok (.aload_n 1, 1) := by decide +kernel
theorem dX4_firstFault_113 : decode cX4_firstFault 113 = .ok (.iload 6, 2) := by decide +kernel
theorem dX4_firstFault_115 : decode cX4_firstFault 115 = .ok (.invokestatic 38, 3) := by decide +kernel
theorem dX4_firstFault_118 : decode cX4_firstFault 118 = .ok (.istore_n 3, 1) := by decide +kernel
theorem dX4_firstFault_119 : decode cX4_firstFault 119 = .ok (.iload_n 3, 1) := by decide +kernel
theorem dX4_firstFault_120 : decode cX4_firstFault 120 = .ok (.bipush (-9), 2) := by decide +kernel
theorem dX4_firstFault_122 : decode cX4_firstFault 122 = .ok (.if_icmp .eq 5, 3) := by decide +kernel
theorem dX4_firstFault_125 : decode cX4_firstFault 125 = .ok (.iload_n 3, 1) := by decide +kernel
theorem dX4_firstFault_126 : decode cX4_firstFault 126 = .ok (.ireturn, 1) := by decide +kernel
theorem dX4_firstFault_127 : decode cX4_firstFault 127 = .ok (.iload 6, 2) := by decide +kernel
theorem dX4_firstFault_129 : decode cX4_firstFault 129 = .ok (.iload 5, 2) := by decide +kernel
theorem dX4_firstFault_131 : decode cX4_firstFault 131 = .ok (.iadd, 1) := by decide +kernel
theorem dX4_firstFault_132 : decode cX4_firstFault 132 = .ok (.istore 6, 2) := by decide +kernel
theorem dX4_firstFault_134 : decode cX4_firstFault 134 = .ok (.goto (-74), 3) := by decide +kernel
theorem dX4_firstFault_137 : decode cX4_firstFault 137 = .ok (.bipush (-9), 2) := by decide +kernel
theorem dX4_firstFault_139 : decode cX4_firstFault 139 = .ok (.ireturn, 1) := by decide +kernel
theorem dX4_headFault_0 : decode cX4_headFault 0 = .ok (.iconst 0, 1) := by decide +kernel
theorem dX4_headFault_1 : decode cX4_headFault 1 = .ok (.istore_n 1, 1) := by decide +kernel
theorem dX4_headFault_2 : decode cX4_headFault 2 = .ok (.iload_n 1, 1) := by decide +kernel
theorem dX4_headFault_3 : decode cX4_headFault 3 = .ok (.iconst 5, 1) := by decide +kernel
theorem dX4_headFault_4 : decode cX4_headFault 4 = .ok (.if_icmp .ge 19, 3) := by decide +kernel
theorem dX4_headFault_7 : decode cX4_headFault 7 = .ok (.aload_n 0, 1) := by decide +kernel
theorem dX4_headFault_8 : decode cX4_headFault 8 = .ok (.iload_n 1, 1) := by decide +kernel
theorem dX4_headFault_9 : decode cX4_headFault 9 = .ok (.invokestatic 41, 3) := by decide +kernel
theorem dX4_headFault_12 : decode cX4_headFault 12 = .ok (.ifCond .ne 5, 3) := by decide +kernel
theorem dX4_headFault_15 : decode cX4_headFault 15 = .ok (.iload_n 1, 1) := by decide +kernel
theorem dX4_headFault_16 : decode cX4_headFault 16 = .ok (.ireturn, 1) := by decide +kernel
theorem dX4_headFault_17 : decode cX4_headFault 17 = .ok (.iinc 1 1, 3) := by decide +kernel
theorem dX4_headFault_20 : decode cX4_headFault 20 = .ok (.goto (-18), 3) := by decide +kernel
theorem dX4_headFault_23 : decode cX4_headFault 23 = .ok (.bipush (-9), 2) := by decide +kernel
theorem dX4_headFault_25 : decode cX4_headFault 25 = .ok (.ireturn, 1) := by decide +kernel
theorem dX4_fitsHead_0 : decode cX4_fitsHead 0 = .ok (.iload_n 1, 1) := by decide +kernel
theorem dX4_fitsHead_1 : decode cX4_fitsHead 1 = .ok (.ifCond .ne 19, 3) := by decide +kernel
theorem dX4_fitsHead_4 : decode cX4_fitsHead 4 = .ok (.aload_n 0, 1) := by decide +kernel
theorem dX4_fitsHead_5 : decode cX4_fitsHead 5 = .ok (.iconst 0, 1) := by decide +kernel
theorem dX4_fitsHead_6 : decode cX4_fitsHead 6 = .ok (.invokevirtual 31, 3) := by decide +kernel
theorem dX4_fitsHead_9 : decode cX4_fitsHead 9 = .ok (.bipush 86, 2) := by decide +kernel
theorem dX4_fitsHead_11 : decode cX4_fitsHead 11 = .ok (.if_icmp .ne 7, 3) := by decide +kernel
theorem dX4_fitsHead_14 : decode cX4_fitsHead 14 = .ok (.iconst 1, 1) := by decide +kernel
theorem dX4_fitsHead_15 : decode cX4_fitsHead 15 = .ok (.goto 4, 3) := by decide +kernel
theorem dX4_fitsHead_18 : decode cX4_fitsHead 18 = .ok (.iconst 0, 1) := by decide +kernel
theorem dX4_fitsHead_19 : decode cX4_fitsHead 19 = .ok (.ireturn, 1) := by decide +kernel
theorem dX4_fitsHead_20 : decode cX4_fitsHead 20 = .ok (.aload_n 0, 1) := by decide +kernel
theorem dX4_fitsHead_21 : decode cX4_fitsHead 21 = .ok (.iload_n 1, 1) := by decide +kernel
theorem dX4_fitsHead_22 : decode cX4_fitsHead 22 = .ok (.invokevirtual 21, 3) := by decide +kernel
theorem dX4_fitsHead_25 : decode cX4_fitsHead 25 = .ok (.istore_n 2, 1) := by decide +kernel
theorem dX4_fitsHead_26 : decode cX4_fitsHead 26 = .ok (.iload_n 1, 1) := by decide +kernel
theorem dX4_fitsHead_27 : decode cX4_fitsHead 27 = .ok (.iconst 4, 1) := by decide +kernel
theorem dX4_fitsHead_28 : decode cX4_fitsHead 28 = .ok (.if_icmp .ge 13, 3) := by decide +kernel
theorem dX4_fitsHead_31 : decode cX4_fitsHead 31 = .ok (.iload_n 2, 1) := by decide +kernel
theorem dX4_fitsHead_32 : decode cX4_fitsHead 32 = .ok (.ifCond .lt 7, 3) := by decide +kernel
theorem dX4_fitsHead_35 : decode cX4_fitsHead 35 = .ok (.iconst 1, 1) := by decide +kernel
theorem dX4_fitsHead_36 : decode cX4_fitsHead 36 = .ok (.goto 4, 3) := by decide +kernel
theorem dX4_fitsHead_39 : decode cX4_fitsHead 39 = .ok (.iconst 0, 1) := by decide +kernel
theorem dX4_fitsHead_40 : decode cX4_fitsHead 40 = .ok (.ireturn, 1) := by decide +kernel
theorem dX4_fitsHead_41 : decode cX4_fitsHead 41 = .ok (.iload_n 2, 1) := by decide +kernel
theorem dX4_fitsHead_42 : decode cX4_fitsHead 42 = .ok (.iconst 2, 1) := by decide +kernel
theorem dX4_fitsHead_43 : decode cX4_fitsHead 43 = .ok (.if_icmp .lt 13, 3) := by decide +kernel
theorem dX4_fitsHead_46 : decode cX4_fitsHead 46 = .ok (.iload_n 2, 1) := by decide +kernel
theorem dX4_fitsHead_47 : decode cX4_fitsHead 47 = .ok (.bipush 6, 2) := by decide +kernel
theorem dX4_fitsHead_49 : decode cX4_fitsHead 49 = .ok (.if_icmp .gt 7, 3) := by decide +kernel
theorem dX4_fitsHead_52 : decode cX4_fitsHead 52 = .ok (.iconst 1, 1) := by decide +kernel
theorem dX4_fitsHead_53 : decode cX4_fitsHead 53 = .ok (.goto 4, 3) := by decide +kernel
theorem dX4_fitsHead_56 : decode cX4_fitsHead 56 = .ok (.iconst 0, 1) := by decide +kernel
theorem dX4_fitsHead_57 : decode cX4_fitsHead 57 = .ok (.ireturn, 1) := by decide +kernel
theorem dX4_readRoad_0 : decode cX4_readRoad 0 = .ok (.aload_n 1, 1) := by decide +kernel
theorem dX4_readRoad_1 : decode cX4_readRoad 1 = .ok (.invokevirtual 45, 3) := by decide +kernel
theorem dX4_readRoad_4 : decode cX4_readRoad 4 = .ok (.ifCond .ne 5, 3) := by decide +kernel
theorem dX4_readRoad_7 : decode cX4_readRoad 7 = .ok (.iload_n 2, 1) := by decide +kernel
theorem dX4_readRoad_8 : decode cX4_readRoad 8 = .ok (.ireturn, 1) := by decide +kernel
theorem dX4_readRoad_9 : decode cX4_readRoad 9 = .ok (.aload_n 0, 1) := by decide +kernel
theorem dX4_readRoad_10 : decode cX4_readRoad 10 = .ok (.iload_n 2, 1) := by decide +kernel
theorem dX4_readRoad_11 : decode cX4_readRoad 11 = .ok (.iconst 1, 1) := by decide +kernel
theorem dX4_readRoad_12 : decode cX4_readRoad 12 = .ok (.iadd, 1) := by decide +kernel
theorem dX4_readRoad_13 : decode cX4_readRoad 13 = .ok (.invokevirtual 21, 3) := by decide +kernel
theorem dX4_readRoad_16 : decode cX4_readRoad 16 = .ok (.istore_n 3, 1) := by decide +kernel
theorem dX4_readRoad_17 : decode cX4_readRoad 17 = .ok (.aload_n 1, 1) := by decide +kernel
theorem dX4_readRoad_18 : decode cX4_readRoad 18 = .ok (.iload_n 3, 1) := by decide +kernel
theorem dX4_readRoad_19 : decode cX4_readRoad 19 = .ok (.invokevirtual 49, 3) := by decide +kernel
theorem dX4_readRoad_22 : decode cX4_readRoad 22 = .ok (.ifCond .ne 7, 3) := by decide +kernel
theorem dX4_readRoad_25 : decode cX4_readRoad 25 = .ok (.iload_n 2, 1) := by decide +kernel
theorem dX4_readRoad_26 : decode cX4_readRoad 26 = .ok (.iconst 1, 1) := by decide +kernel
theorem dX4_readRoad_27 : decode cX4_readRoad 27 = .ok (.iadd, 1) := by decide +kernel
theorem dX4_readRoad_28 : decode cX4_readRoad 28 = .ok (.ireturn, 1) := by decide +kernel
theorem dX4_readRoad_29 : decode cX4_readRoad 29 = .ok (.aload_n 0, 1) := by decide +kernel
theorem dX4_readRoad_30 : decode cX4_readRoad 30 = .ok (.iload_n 2, 1) := by decide +kernel
theorem dX4_readRoad_31 : decode cX4_readRoad 31 = .ok (.iconst 2, 1) := by decide +kernel
theorem dX4_readRoad_32 : decode cX4_readRoad 32 = .ok (.iadd, 1) := by decide +kernel
theorem dX4_readRoad_33 : decode cX4_readRoad 33 = .ok (.invokevirtual 21, 3) := by decide +kernel
theorem dX4_readRoad_36 : decode cX4_readRoad 36 = .ok (.istore 4, 2) := by decide +kernel
theorem dX4_readRoad_38 : decode cX4_readRoad 38 = .ok (.aload_n 1, 1) := by decide +kernel
theorem dX4_readRoad_39 : decode cX4_readRoad 39 = .ok (.iload_n 3, 1) := by decide +kernel
theorem dX4_readRoad_40 : decode cX4_readRoad 40 = .ok (.iload 4, 2) := by decide +kernel
theorem dX4_readRoad_42 : decode cX4_readRoad 42 = .ok (.invokevirtual 53, 3) := by decide +kernel
theorem dX4_readRoad_45 : decode cX4_readRoad 45 = .ok (.ifCond .ne 7, 3) := by decide +kernel
theorem dX4_readRoad_48 : decode cX4_readRoad 48 = .ok (.iload_n 2, 1) := by decide +kernel
theorem dX4_readRoad_49 : decode cX4_readRoad 49 = .ok (.iconst 2, 1) := by decide +kernel
theorem dX4_readRoad_50 : decode cX4_readRoad 50 = .ok (.iadd, 1) := by decide +kernel
theorem dX4_readRoad_51 : decode cX4_readRoad 51 = .ok (.ireturn, 1) := by decide +kernel
theorem dX4_readRoad_52 : decode cX4_readRoad 52 = .ok (.aload_n 0, 1) := by decide +kernel
theorem dX4_readRoad_53 : decode cX4_readRoad 53 = .ok (.iload_n 2, 1) := by decide +kernel
theorem dX4_readRoad_54 : decode cX4_readRoad 54 = .ok (.iconst 3, 1) := by decide +kernel
theorem dX4_readRoad_55 : decode cX4_readRoad 55 = .ok (.iadd, 1) := by decide +kernel
theorem dX4_readRoad_56 : decode cX4_readRoad 56 = .ok (.invokevirtual 21, 3) := by decide +kernel
theorem dX4_readRoad_59 : decode cX4_readRoad 59 = .ok (.istore 5, 2) := by decide +kernel
theorem dX4_readRoad_61 : decode cX4_readRoad 61 = .ok (.iload 5, 2) := by decide +kernel
theorem dX4_readRoad_63 : decode cX4_readRoad 63 = .ok (.ifCond .ge 7, 3) := by decide +kernel
theorem dX4_readRoad_66 : decode cX4_readRoad 66 = .ok (.iload_n 2, 1) := by decide +kernel
theorem dX4_readRoad_67 : decode cX4_readRoad 67 = .ok (.iconst 3, 1) := by decide +kernel
theorem dX4_readRoad_68 : decode cX4_readRoad 68 = .ok (.iadd, 1) := by decide +kernel
theorem dX4_readRoad_69 : decode cX4_readRoad 69 = .ok (.ireturn, 1) := by decide +kernel
theorem dX4_readRoad_70 : decode cX4_readRoad 70 = .ok (.aload_n 0, 1) := by decide +kernel
theorem dX4_readRoad_71 : decode cX4_readRoad 71 = .ok (.iload_n 2, 1) := by decide +kernel
theorem dX4_readRoad_72 : decode cX4_readRoad 72 = .ok (.iconst 4, 1) := by decide +kernel
theorem dX4_readRoad_73 : decode cX4_readRoad 73 = .ok (.iadd, 1) := by decide +kernel
theorem dX4_readRoad_74 : decode cX4_readRoad 74 = .ok (.invokevirtual 21, 3) := by decide +kernel
theorem dX4_readRoad_77 : decode cX4_readRoad 77 = .ok (.istore 6, 2) := by decide +kernel
theorem dX4_readRoad_79 : decode cX4_readRoad 79 = .ok (.iload 6, 2) := by decide +kernel
theorem dX4_readRoad_81 : decode cX4_readRoad 81 = .ok (.ifCond .lt 11, 3) := by decide +kernel
theorem dX4_readRoad_84 : decode cX4_readRoad 84 = .ok (.iload 5, 2) := by decide +kernel
theorem dX4_readRoad_86 : decode cX4_readRoad 86 = .ok (.iload 6, 2) := by decide +kernel
theorem dX4_readRoad_88 : decode cX4_readRoad 88 = .ok (.iadd, 1) := by decide +kernel
theorem dX4_readRoad_89 : decode cX4_readRoad 89 = .ok (.ifCond .ne 7, 3) := by decide +kernel
theorem dX4_readRoad_92 : decode cX4_readRoad 92 = .ok (.iload_n 2, 1) := by decide +kernel
theorem dX4_readRoad_93 : decode cX4_readRoad 93 = .ok (.iconst 4, 1) := by decide +kernel
theorem dX4_readRoad_94 : decode cX4_readRoad 94 = .ok (.iadd, 1) := by decide +kernel
theorem dX4_readRoad_95 : decode cX4_readRoad 95 = .ok (.ireturn, 1) := by decide +kernel
theorem dX4_readRoad_96 : decode cX4_readRoad 96 = .ok (.aload_n 1, 1) := by decide +kernel
theorem dX4_readRoad_97 : decode cX4_readRoad 97 = .ok (.iload_n 3, 1) := by decide +kernel
theorem dX4_readRoad_98 : decode cX4_readRoad 98 = .ok (.iload 4, 2) := by decide +kernel
theorem dX4_readRoad_100 : decode cX4_readRoad 100 = .ok (.iload 5, 2) := by decide +kernel
theorem dX4_readRoad_102 : decode cX4_readRoad 102 = .ok (.bipush 10, 2) := by decide +kernel
theorem dX4_readRoad_104 : decode cX4_readRoad 104 = .ok (.imul, 1) := by decide +kernel
theorem dX4_readRoad_105 : decode cX4_readRoad 105 = .ok (.iload 6, 2) := by decide +kernel
theorem dX4_readRoad_107 : decode cX4_readRoad 107 = .ok (.iadd, 1) := by decide +kernel
theorem dX4_readRoad_108 : decode cX4_readRoad 108 = .ok (.invokevirtual 57, 3) := by decide +kernel
theorem dX4_readRoad_111 : decode cX4_readRoad 111 = .ok (.bipush (-9), 2) := by decide +kernel
theorem dX4_readRoad_113 : decode cX4_readRoad 113 = .ok (.ireturn, 1) := by decide +kernel
theorem dX4_readErrand_0 : decode cX4_readErrand 0 = .ok (.aload_n 0, 1) := by decide +kernel
theorem dX4_readErrand_1 : decode cX4_readErrand 1 = .ok (.iload_n 2, 1) := by decide +kernel
theorem dX4_readErrand_2 : decode cX4_readErrand 2 = .ok (.invokevirtual 31, 3) := by decide +kernel
theorem dX4_readErrand_5 : decode cX4_readErrand 5 = .ok (.bipush 69, 2) := by decide +kernel
theorem dX4_readErrand_7 : decode cX4_readErrand 7 = .ok (.if_icmp .ne 10, 3) := by decide +kernel
theorem dX4_readErrand_10 : decode cX4_readErrand 10 = .ok (.aload_n 1, 1) := by decide +kernel
theorem dX4_readErrand_11 : decode cX4_readErrand 11 = .ok (.invokevirtual 61, 3) := by decide +kernel
theorem dX4_readErrand_14 : decode cX4_readErrand 14 = .ok (.ifCond .ne 5, 3) := by decide +kernel
theorem dX4_readErrand_17 : decode cX4_readErrand 17 = .ok (.iload_n 2, 1) := by decide +kernel
theorem dX4_readErrand_18 : decode cX4_readErrand 18 = .ok (.ireturn, 1) := by decide +kernel
theorem dX4_readErrand_19 : decode cX4_readErrand 19 = .ok (.aload_n 0, 1) := by decide +kernel
theorem dX4_readErrand_20 : decode cX4_readErrand 20 = .ok (.iload_n 2, 1) := by decide +kernel
theorem dX4_readErrand_21 : decode cX4_readErrand 21 = .ok (.iconst 1, 1) := by decide +kernel
theorem dX4_readErrand_22 : decode cX4_readErrand 22 = .ok (.iadd, 1) := by decide +kernel
theorem dX4_readErrand_23 : decode cX4_readErrand 23 = .ok (.invokevirtual 21, 3) := by decide +kernel
theorem dX4_readErrand_26 : decode cX4_readErrand 26 = .ok (.istore_n 3, 1) := by decide +kernel
theorem dX4_readErrand_27 : decode cX4_readErrand 27 = .ok (.aload_n 1, 1) := by decide +kernel
theorem dX4_readErrand_28 : decode cX4_readErrand 28 = .ok (.iload_n 3, 1) := by decide +kernel
theorem dX4_readErrand_29 : decode cX4_readErrand 29 = .ok (.invokevirtual 64, 3) := by decide +kernel
theorem dX4_readErrand_32 : decode cX4_readErrand 32 = .ok (.ifCond .ne 7, 3) := by decide +kernel
theorem dX4_readErrand_35 : decode cX4_readErrand 35 = .ok (.iload_n 2, 1) := by decide +kernel
theorem dX4_readErrand_36 : decode cX4_readErrand 36 = .ok (.iconst 1, 1) := by decide +kernel
theorem dX4_readErrand_37 : decode cX4_readErrand 37 = .ok (.iadd, 1) := by decide +kernel
theorem dX4_readErrand_38 : decode cX4_readErrand 38 = .ok (.ireturn, 1) := by decide +kernel
theorem dX4_readErrand_39 : decode cX4_readErrand 39 = .ok (.aload_n 0, 1) := by decide +kernel
theorem dX4_readErrand_40 : decode cX4_readErrand 40 = .ok (.iload_n 2, 1) := by decide +kernel
theorem dX4_readErrand_41 : decode cX4_readErrand 41 = .ok (.iconst 2, 1) := by decide +kernel
theorem dX4_readErrand_42 : decode cX4_readErrand 42 = .ok (.iadd, 1) := by decide +kernel
theorem dX4_readErrand_43 : decode cX4_readErrand 43 = .ok (.invokevirtual 21, 3) := by decide +kernel
theorem dX4_readErrand_46 : decode cX4_readErrand 46 = .ok (.istore 4, 2) := by decide +kernel
theorem dX4_readErrand_48 : decode cX4_readErrand 48 = .ok (.iload 4, 2) := by decide +kernel
theorem dX4_readErrand_50 : decode cX4_readErrand 50 = .ok (.ifCond .ge 7, 3) := by decide +kernel
theorem dX4_readErrand_53 : decode cX4_readErrand 53 = .ok (.iload_n 2, 1) := by decide +kernel
theorem dX4_readErrand_54 : decode cX4_readErrand 54 = .ok (.iconst 2, 1) := by decide +kernel
theorem dX4_readErrand_55 : decode cX4_readErrand 55 = .ok (.iadd, 1) := by decide +kernel
theorem dX4_readErrand_56 : decode cX4_readErrand 56 = .ok (.ireturn, 1) := by decide +kernel
theorem dX4_readErrand_57 : decode cX4_readErrand 57 = .ok (.aload_n 0, 1) := by decide +kernel
theorem dX4_readErrand_58 : decode cX4_readErrand 58 = .ok (.iload_n 2, 1) := by decide +kernel
theorem dX4_readErrand_59 : decode cX4_readErrand 59 = .ok (.iconst 3, 1) := by decide +kernel
theorem dX4_readErrand_60 : decode cX4_readErrand 60 = .ok (.iadd, 1) := by decide +kernel
theorem dX4_readErrand_61 : decode cX4_readErrand 61 = .ok (.invokevirtual 21, 3) := by decide +kernel
theorem dX4_readErrand_64 : decode cX4_readErrand 64 = .ok (.istore 5, 2) := by decide +kernel
theorem dX4_readErrand_66 : decode cX4_readErrand 66 = .ok (.iload 5, 2) := by decide +kernel
theorem dX4_readErrand_68 : decode cX4_readErrand 68 = .ok (.ifCond .lt 9, 3) := by decide +kernel
theorem dX4_readErrand_71 : decode cX4_readErrand 71 = .ok (.iload 5, 2) := by decide +kernel
theorem dX4_readErrand_73 : decode cX4_readErrand 73 = .ok (.iconst 2, 1) := by decide +kernel
theorem dX4_readErrand_74 : decode cX4_readErrand 74 = .ok (.if_icmp .le 7, 3) := by decide +kernel
theorem dX4_readErrand_77 : decode cX4_readErrand 77 = .ok (.iload_n 2, 1) := by decide +kernel
theorem dX4_readErrand_78 : decode cX4_readErrand 78 = .ok (.iconst 3, 1) := by decide +kernel
theorem dX4_readErrand_79 : decode cX4_readErrand 79 = .ok (.iadd, 1) := by decide +kernel
theorem dX4_readErrand_80 : decode cX4_readErrand 80 = .ok (.ireturn, 1) := by decide +kernel
theorem dX4_readErrand_81 : decode cX4_readErrand 81 = .ok (.aload_n 1, 1) := by decide +kernel
theorem dX4_readErrand_82 : decode cX4_readErrand 82 = .ok (.iload_n 3, 1) := by decide +kernel
theorem dX4_readErrand_83 : decode cX4_readErrand 83 = .ok (.iload 4, 2) := by decide +kernel
theorem dX4_readErrand_85 : decode cX4_readErrand 85 = .ok (.iload 5, 2) := by decide +kernel
theorem dX4_readErrand_87 : decode cX4_readErrand 87 = .ok (.invokevirtual 67, 3) := by decide +kernel
theorem dX4_readErrand_90 : decode cX4_readErrand 90 = .ok (.bipush (-9), 2) := by decide +kernel
theorem dX4_readErrand_92 : decode cX4_readErrand 92 = .ok (.ireturn, 1) := by decide +kernel
theorem dX5_init_0 : decode cX5_init 0 = .ok (.aload_n 0, 1) := by decide +kernel
theorem dX5_init_1 : decode cX5_init 1 = .ok (.invokespecial 3, 3) := by decide +kernel
theorem dX5_init_4 : decode cX5_init 4 = .ok (.aload_n 0, 1) := by decide +kernel
theorem dX5_init_5 : decode cX5_init 5 = .ok (.sipush 6000, 3) := by decide +kernel
theorem dX5_init_8 : decode cX5_init 8 = .ok (.newarray .int, 2) := by decide +kernel
theorem dX5_init_10 : decode cX5_init 10 = .ok (.putfield 11, 3) := by decide +kernel
theorem dX5_init_13 : decode cX5_init 13 = .ok (.aload_n 0, 1) := by decide +kernel
theorem dX5_init_14 : decode cX5_init 14 = .ok (.sipush 6000, 3) := by decide +kernel
theorem dX5_init_17 : decode cX5_init 17 = .ok (.newarray .int, 2) := by decide +kernel
theorem dX5_init_19 : decode cX5_init 19 = .ok (.putfield 15, 3) := by decide +kernel
theorem dX5_init_22 : decode cX5_init 22 = .ok (.return_, 1) := by decide +kernel
theorem dX5_count_0 : decode cX5_count 0 = .ok (.aload_n 0, 1) := by decide +kernel
theorem dX5_count_1 : decode cX5_count 1 = .ok (.iconst 0, 1) := by decide +kernel
theorem dX5_count_2 : decode cX5_count 2 = .ok (.putfield 18, 3) := by decide +kernel
theorem dX5_count_5 : decode cX5_count 5 = .ok (.aload_n 0, 1) := by decide +kernel
theorem dX5_count_6 : decode cX5_count 6 = .ok (.aload_n 0, 1) := by decide +kernel
theorem dX5_count_7 : decode cX5_count 7 = .ok (.getfield 11, 3) := by decide +kernel
theorem dX5_count_10 : decode cX5_count 10 = .ok (.invokevirtual 22, 3) := by decide +kernel
theorem dX5_count_13 : decode cX5_count 13 = .ok (.aload_n 1, 1) := by decide +kernel
theorem dX5_count_14 : decode cX5_count 14 = .ok (.iload_n 2, 1) := by decide +kernel
theorem dX5_count_15 : decode cX5_count 15 = .ok (.invokevirtual 26, 3) := by decide +kernel
theorem dX5_count_18 : decode cX5_count 18 = .ok (.ifCond .eq 14, 3) := by decide +kernel
theorem dX5_count_21 : decode cX5_count 21 = .ok (.aload_n 0, 1) := by decide +kernel
theorem dX5_count_22 : decode cX5_count 22 = .ok (.getfield 11, 3) := by decide +kernel
theorem dX5_count_25 : decode cX5_count 25 = .ok (.iload_n 2, 1) := by decide +kernel
theorem dX5_count_26 : decode cX5_count 26 = .ok (.sipush 1000, 3) := by decide +kernel
theorem dX5_count_29 : decode cX5_count 29 = .ok (.imul, 1) := by decide +kernel
theorem dX5_count_30 : decode cX5_count 30 = .ok (.iconst 1, 1) := by decide +kernel
theorem dX5_count_31 : decode cX5_count 31 = .ok (.iastore, 1) := by decide +kernel
theorem dX5_count_32 : decode cX5_count 32 = .ok (.iconst 0, 1) := by decide +kernel
theorem dX5_count_33 : decode cX5_count 33 = .ok (.istore 5, 2) := by decide +kernel
theorem dX5_count_35 : decode cX5_count 35 = .ok (.iload 5, 2) := by decide +kernel
theorem dX5_count_37 : decode cX5_count 37 = .ok (.iload_n 3, 1) := by decide +kernel
theorem dX5_count_38 : decode cX5_count 38 = .ok (.if_icmp .ge 99, 3) := by decide +kernel
theorem dX5_count_41 : decode cX5_count 41 = .ok (.iload 5, 2) := by decide +kernel
theorem dX5_count_43 : decode cX5_count 43 = .ok (.bipush 8, 2) := by decide +kernel
theorem dX5_count_45 : decode cX5_count 45 = .ok (.if_icmp .ge 92, 3) := by decide +kernel
theorem dX5_count_48 : decode cX5_count 48 = .ok (.aload_n 0, 1) := by decide +kernel
theorem dX5_count_49 : decode cX5_count 49 = .ok (.getfield 18, 3) := by decide +kernel
theorem dX5_count_52 : decode cX5_count 52 = .ok (.istore 6, 2) := by decide +kernel
theorem dX5_count_54 : decode cX5_count 54 = .ok (.aload_n 0, 1) := by decide +kernel
theorem dX5_count_55 : decode cX5_count 55 = .ok (.iload 4, 2) := by decide +kernel
theorem dX5_count_57 : decode cX5_count 57 = .ok (.sipush 999, 3) := by decide +kernel
theorem dX5_count_60 : decode cX5_count 60 = .ok (.invokestatic 32, 3) := by decide +kernel
theorem dX5_count_63 : decode cX5_count 63 = .ok (.iload 6, 2) := by decide +kernel
theorem dX5_count_65 : decode cX5_count 65 = .ok (.aload_n 1, 1) := by decide +kernel
theorem dX5_count_66 : decode cX5_count 66 = .ok (.invokevirtual 38, 3) := by decide +kernel
theorem dX5_count_69 : decode cX5_count 69 = .ok (.iadd, 1) := by decide +kernel
theorem dX5_count_70 : decode cX5_count 70 = .ok (.invokestatic 32, 3) := by decide +kernel
theorem dX5_count_73 : decode cX5_count 73 = .ok (.putfield 18, 3) := by decide +kernel
theorem dX5_count_76 : decode cX5_count 76 = .ok (.aload_n 0, 1) := by decide +kernel
theorem dX5_count_77 : decode cX5_count 77 = .ok (.aload_n 0, 1) := by decide +kernel
theorem dX5_count_78 : decode cX5_count 78 = .ok (.getfield 15, 3) := by decide +kernel
theorem dX5_count_81 : decode cX5_count 81 = .ok (.invokevirtual 22, 3) := by decide +kernel
theorem dX5_count_84 : decode cX5_count 84 = .ok (.iconst 0, 1) := by decide +kernel
theorem dX5_count_85 : decode cX5_count 85 = .ok (.istore 7, 2) := by decide +kernel
theorem dX5_count_87 : decode cX5_count 87 = .ok (.iload 7, 2) := by decide +kernel
theorem dX5_count_89 : decode cX5_count 89 = .ok (.aload_n 1, 1) := by decide +kernel
theorem dX5_count_90 : decode cX5_count 90 = .ok (.getfield 42, 3) := by decide +kernel
theorem dX5_count_93 : decode cX5_count 93 = .ok (.if_icmp .ge 18, 3) := by decide +kernel
theorem dX5_count_96 : decode cX5_count 96 = .ok (.aload_n 0, 1) := by decide +kernel
theorem dX5_count_97 : decode cX5_count 97 = .ok (.aload_n 1, 1) := by decide +kernel
theorem dX5_count_98 : decode cX5_count 98 = .ok (.iload 7, 2) := by decide +kernel
theorem dX5_count_100 : decode cX5_count 100 = .ok (.iload 6, 2) := by decide +kernel
theorem dX5_count_102 : decode cX5_count 102 = .ok (.invokevirtual 45, 3) := by decide +kernel
theorem dX5_count_105 : decode cX5_count 105 = .ok (.iinc 7 1, 3) := by decide +kernel
theorem dX5_count_108 : decode cX5_count 108 = .ok (.goto (-21), 3) := by decide +kernel
theorem dX5_count_111 : decode cX5_count 111 = .ok (.aload_n 0, 1) := by decide +kernel
theorem dX5_count_112 : decode cX5_count 112 = .ok (.getfield 11, 3) := by decide +kernel
theorem dX5_count_115 : decode cX5_count 115 = .ok (.astore 7, 2) := by decide +kernel
theorem dX5_count_117 : decode cX5_count 117 = .ok (.aload_n 0, 1) := by decide +kernel
theorem dX5_count_118 : decode cX5_count 118 = .ok (.aload_n 0, 1) := by decide +kernel
theorem dX5_count_119 : decode cX5_count 119 = .ok (.getfield 15, 3) := by decide +kernel
theorem dX5_count_122 : decode cX5_count 122 = .ok (.putfield 11, 3) := by decide +kernel
theorem dX5_count_125 : decode cX5_count 125 = .ok (.aload_n 0, 1) := by decide +kernel
theorem dX5_count_126 : decode cX5_count 126 = .ok (.aload 7, 2) := by decide +kernel
theorem dX5_count_128 : decode cX5_count 128 = .ok (.putfield 15, 3) := by decide +kernel
theorem dX5_count_131 : decode cX5_count 131 = .ok (.iinc 5 1, 3) := by decide +kernel
theorem dX5_count_134 : decode cX5_count 134 = .ok (.goto (-99), 3) := by decide +kernel
theorem dX5_count_137 : decode cX5_count 137 = .ok (.return_, 1) := by decide +kernel
theorem dX5_goOn_0 : decode cX5_goOn 0 = .ok (.iconst 0, 1) := by decide +kernel
theorem dX5_goOn_1 : decode cX5_goOn 1 = .ok (.istore 4, 2) := by decide +kernel
theorem dX5_goOn_3 : decode cX5_goOn 3 = .ok (.iload 4, 2) := by decide +kernel
theorem dX5_goOn_5 : decode cX5_goOn 5 = .ok (.aload_n 1, 1) := by decide +kernel
theorem dX5_goOn_6 : decode cX5_goOn 6 = .ok (.getfield 42, 3) := by decide +kernel
theorem dX5_goOn_9 : decode cX5_goOn 9 = .ok (.if_icmp .ge 91, 3) := by decide +kernel
theorem dX5_goOn_12 : decode cX5_goOn 12 = .ok (.aload_n 1, 1) := by decide +kernel
theorem dX5_goOn_13 : decode cX5_goOn 13 = .ok (.iload_n 2, 1) := by decide +kernel
theorem dX5_goOn_14 : decode cX5_goOn 14 = .ok (.iload 4, 2) := by decide +kernel
theorem dX5_goOn_16 : decode cX5_goOn 16 = .ok (.invokevirtual 49, 3) := by decide +kernel
theorem dX5_goOn_19 : decode cX5_goOn 19 = .ok (.istore 5, 2) := by decide +kernel
theorem dX5_goOn_21 : decode cX5_goOn 21 = .ok (.iload 4, 2) := by decide +kernel
theorem dX5_goOn_23 : decode cX5_goOn 23 = .ok (.iload_n 2, 1) := by decide +kernel
theorem dX5_goOn_24 : decode cX5_goOn 24 = .ok (.if_icmp .eq 70, 3) := by decide +kernel
theorem dX5_goOn_27 : decode cX5_goOn 27 = .ok (.iload 5, 2) := by decide +kernel
theorem dX5_goOn_29 : decode cX5_goOn 29 = .ok (.ldc 52, 2) := by decide +kernel
theorem dX5_goOn_31 : decode cX5_goOn 31 = .ok (.if_icmp .ge 63, 3) := by decide +kernel
theorem dX5_goOn_34 : decode cX5_goOn 34 = .ok (.iconst 0, 1) := by decide +kernel
theorem dX5_goOn_35 : decode cX5_goOn 35 = .ok (.istore 6, 2) := by decide +kernel
theorem dX5_goOn_37 : decode cX5_goOn 37 = .ok (.iload 6, 2) := by decide +kernel
theorem dX5_goOn_39 : decode cX5_goOn 39 = .ok (.iload_n 3, 1) := by decide +kernel
theorem dX5_goOn_40 : decode cX5_goOn 40 = .ok (.if_icmp .gt 54, 3) := by decide +kernel
theorem dX5_goOn_43 : decode cX5_goOn 43 = .ok (.iload 6, 2) := by decide +kernel
theorem dX5_goOn_45 : decode cX5_goOn 45 = .ok (.iload 5, 2) := by decide +kernel
theorem dX5_goOn_47 : decode cX5_goOn 47 = .ok (.iadd, 1) := by decide +kernel
theorem dX5_goOn_48 : decode cX5_goOn 48 = .ok (.aload_n 0, 1) := by decide +kernel
theorem dX5_goOn_49 : decode cX5_goOn 49 = .ok (.getfield 18, 3) := by decide +kernel
theorem dX5_goOn_52 : decode cX5_goOn 52 = .ok (.if_icmp .gt 42, 3) := by decide +kernel
theorem dX5_goOn_55 : decode cX5_goOn 55 = .ok (.aload_n 0, 1) := by decide +kernel
theorem dX5_goOn_56 : decode cX5_goOn 56 = .ok (.getfield 15, 3) := by decide +kernel
theorem dX5_goOn_59 : decode cX5_goOn 59 = .ok (.iload 4, 2) := by decide +kernel
theorem dX5_goOn_61 : decode cX5_goOn 61 = .ok (.sipush 1000, 3) := by decide +kernel
theorem dX5_goOn_64 : decode cX5_goOn 64 = .ok (.imul, 1) := by decide +kernel
theorem dX5_goOn_65 : decode cX5_goOn 65 = .ok (.iload 6, 2) := by decide +kernel
theorem dX5_goOn_67 : decode cX5_goOn 67 = .ok (.iadd, 1) := by decide +kernel
theorem dX5_goOn_68 : decode cX5_goOn 68 = .ok (.iload 5, 2) := by decide +kernel
theorem dX5_goOn_70 : decode cX5_goOn 70 = .ok (.iadd, 1) := by decide +kernel
theorem dX5_goOn_71 : decode cX5_goOn 71 = .ok (.dup2, 1) := by decide +kernel
theorem dX5_goOn_72 : decode cX5_goOn 72 = .ok (.iaload, 1) := by decide +kernel
theorem dX5_goOn_73 : decode cX5_goOn 73 = .ok (.aload_n 0, 1) := by decide +kernel
theorem dX5_goOn_74 : decode cX5_goOn 74 = .ok (.getfield 11, 3) := by decide +kernel
theorem dX5_goOn_77 : decode cX5_goOn 77 = .ok (.iload_n 2, 1) := by decide +kernel
theorem dX5_goOn_78 : decode cX5_goOn 78 = .ok (.sipush 1000, 3) := by decide +kernel
theorem dX5_goOn_81 : decode cX5_goOn 81 = .ok (.imul, 1) := by decide +kernel
theorem dX5_goOn_82 : decode cX5_goOn 82 = .ok (.iload 6, 2) := by decide +kernel
theorem dX5_goOn_84 : decode cX5_goOn 84 = .ok (.iadd, 1) := by decide +kernel
theorem dX5_goOn_85 : decode cX5_goOn 85 = .ok (.iaload, 1) := by decide +kernel
theorem dX5_goOn_86 : decode cX5_goOn 86 = .ok (.iadd, 1) := by decide +kernel
theorem dX5_goOn_87 : decode cX5_goOn 87 = .ok (.iastore, 1) := by decide +kernel
theorem dX5_goOn_88 : decode cX5_goOn 88 = .ok (.iinc 6 1, 3) := by decide +kernel
theorem dX5_goOn_91 : decode cX5_goOn 91 = .ok (.goto (-54), 3) := by decide +kernel
theorem dX5_goOn_94 : decode cX5_goOn 94 = .ok (.iinc 4 1, 3) := by decide +kernel
theorem dX5_goOn_97 : decode cX5_goOn 97 = .ok (.goto (-94), 3) := by decide +kernel
theorem dX5_goOn_100 : decode cX5_goOn 100 = .ok (.return_, 1) := by decide +kernel
theorem dX5_clear_0 : decode cX5_clear 0 = .ok (.iconst 0, 1) := by decide +kernel
theorem dX5_clear_1 : decode cX5_clear 1 = .ok (.istore_n 2, 1) := by decide +kernel
theorem dX5_clear_2 : decode cX5_clear 2 = .ok (.iload_n 2, 1) := by decide +kernel
theorem dX5_clear_3 : decode cX5_clear 3 = .ok (.bipush 6, 2) := by decide +kernel
theorem dX5_clear_5 : decode cX5_clear 5 = .ok (.if_icmp .ge 35, 3) := by decide +kernel
theorem dX5_clear_8 : decode cX5_clear 8 = .ok (.iconst 0, 1) := by decide +kernel
theorem dX5_clear_9 : decode cX5_clear 9 = .ok (.istore_n 3, 1) := by decide +kernel
theorem dX5_clear_10 : decode cX5_clear 10 = .ok (.iload_n 3, 1) := by decide +kernel
theorem dX5_clear_11 : decode cX5_clear 11 = .ok (.aload_n 0, 1) := by decide +kernel
theorem dX5_clear_12 : decode cX5_clear 12 = .ok (.getfield 18, 3) := by decide +kernel
theorem dX5_clear_15 : decode cX5_clear 15 = .ok (.if_icmp .gt 19, 3) := by decide +kernel
theorem dX5_clear_18 : decode cX5_clear 18 = .ok (.aload_n 1, 1) := by decide +kernel
theorem dX5_clear_19 : decode cX5_clear 19 = .ok (.iload_n 2, 1) := by decide +kernel
theorem dX5_clear_20 : decode cX5_clear 20 = .ok (.sipush 1000, 3) := by decide +kernel
theorem dX5_clear_23 : decode cX5_clear 23 = .ok (.imul, 1) := by decide +kernel
theorem dX5_clear_24 : decode cX5_clear 24 = .ok (.iload_n 3, 1) := by decide +kernel
theorem dX5_clear_25 : decode cX5_clear 25 = .ok (.iadd, 1) := by decide +kernel
theorem dX5_clear_26 : decode cX5_clear 26 = .ok (.iconst 0, 1) := by decide +kernel
theorem dX5_clear_27 : decode cX5_clear 27 = .ok (.iastore, 1) := by decide +kernel
theorem dX5_clear_28 : decode cX5_clear 28 = .ok (.iinc 3 1, 3) := by decide +kernel
theorem dX5_clear_31 : decode cX5_clear 31 = .ok (.goto (-21), 3) := by decide +kernel
theorem dX5_clear_34 : decode cX5_clear 34 = .ok (.iinc 2 1, 3) := by decide +kernel
theorem dX5_clear_37 : decode cX5_clear 37 = .ok (.goto (-35), 3) := by decide +kernel
theorem dX5_clear_40 : decode cX5_clear 40 = .ok (.return_, 1) := by decide +kernel
theorem dX5_endingAt_0 : decode cX5_endingAt 0 = .ok (.iload_n 1, 1) := by decide +kernel
theorem dX5_endingAt_1 : decode cX5_endingAt 1 = .ok (.ifCond .lt 21, 3) := by decide +kernel
theorem dX5_endingAt_4 : decode cX5_endingAt 4 = .ok (.iload_n 1, 1) := by decide +kernel
theorem dX5_endingAt_5 : decode cX5_endingAt 5 = .ok (.bipush 6, 2) := by decide +kernel
theorem dX5_endingAt_7 : decode cX5_endingAt 7 = .ok (.if_icmp .ge 15, 3) := by decide +kernel
theorem dX5_endingAt_10 : decode cX5_endingAt 10 = .ok (.iload_n 2, 1) := by decide +kernel
theorem dX5_endingAt_11 : decode cX5_endingAt 11 = .ok (.ifCond .lt 11, 3) := by decide +kernel
theorem dX5_endingAt_14 : decode cX5_endingAt 14 = .ok (.iload_n 2, 1) := by decide +kernel
theorem dX5_endingAt_15 : decode cX5_endingAt 15 = .ok (.aload_n 0, 1) := by decide +kernel
theorem dX5_endingAt_16 : decode cX5_endingAt 16 = .ok (.getfield 18, 3) := by decide +kernel
theorem dX5_endingAt_19 : decode cX5_endingAt 19 = .ok (.if_icmp .le 5, 3) := by decide +kernel
theorem dX5_endingAt_22 : decode cX5_endingAt 22 = .ok (.iconst 0, 1) := by decide +kernel
theorem dX5_endingAt_23 : decode cX5_endingAt 23 = .ok (.ireturn, 1) := by decide +kernel
theorem dX5_endingAt_24 : decode cX5_endingAt 24 = .ok (.aload_n 0, 1) := by decide +kernel
theorem dX5_endingAt_25 : decode cX5_endingAt 25 = .ok (.getfield 11, 3) := by decide +kernel
theorem dX5_endingAt_28 : decode cX5_endingAt 28 = .ok (.iload_n 1, 1) := by decide +kernel
theorem dX5_endingAt_29 : decode cX5_endingAt 29 = .ok (.sipush 1000, 3) := by decide +kernel
theorem dX5_endingAt_32 : decode cX5_endingAt 32 = .ok (.imul, 1) := by decide +kernel
theorem dX5_endingAt_33 : decode cX5_endingAt 33 = .ok (.iload_n 2, 1) := by decide +kernel
theorem dX5_endingAt_34 : decode cX5_endingAt 34 = .ok (.iadd, 1) := by decide +kernel
theorem dX5_endingAt_35 : decode cX5_endingAt 35 = .ok (.iaload, 1) := by decide +kernel
theorem dX5_endingAt_36 : decode cX5_endingAt 36 = .ok (.ireturn, 1) := by decide +kernel
theorem dX6_init_0 : decode cX6_init 0 = .ok (.aload_n 0, 1) := by decide +kernel
theorem dX6_init_1 : decode cX6_init 1 = .ok (.invokespecial 3, 3) := by decide +kernel
theorem dX6_init_4 : decode cX6_init 4 = .ok (.aload_n 0, 1) := by decide +kernel
theorem dX6_init_5 : decode cX6_init 5 = .ok (.iconst 2, 1) := by decide +kernel
theorem dX6_init_6 : decode cX6_init 6 = .ok (.anewarray 9, 3) := by decide +kernel
theorem dX6_init_9 : decode cX6_init 9 = .ok (.putfield 11, 3) := by decide +kernel
theorem dX6_init_12 : decode cX6_init 12 = .ok (.aload_n 0, 1) := by decide +kernel
theorem dX6_init_13 : decode cX6_init 13 = .ok (.iconst 2, 1) := by decide +kernel
theorem dX6_init_14 : decode cX6_init 14 = .ok (.newarray .boolean, 2) := by decide +kernel
theorem dX6_init_16 : decode cX6_init 16 = .ok (.putfield 17, 3) := by decide +kernel
theorem dX6_init_19 : decode cX6_init 19 = .ok (.iconst 0, 1) := by decide +kernel
theorem dX6_init_20 : decode cX6_init 20 = .ok (.istore_n 1, 1) := by decide +kernel
theorem dX6_init_21 : decode cX6_init 21 = .ok (.iload_n 1, 1) := by decide +kernel
theorem dX6_init_22 : decode cX6_init 22 = .ok (.iconst 2, 1) := by decide +kernel
theorem dX6_init_23 : decode cX6_init 23 = .ok (.if_icmp .ge 22, 3) := by decide +kernel
theorem dX6_init_26 : decode cX6_init 26 = .ok (.aload_n 0, 1) := by decide +kernel
theorem dX6_init_27 : decode cX6_init 27 = .ok (.getfield 11, 3) := by decide +kernel
theorem dX6_init_30 : decode cX6_init 30 = .ok (.iload_n 1, 1) := by decide +kernel
theorem dX6_init_31 : decode cX6_init 31 = .ok (.new 9, 3) := by decide +kernel
theorem dX6_init_34 : decode cX6_init 34 = .ok (.dup, 1) := by decide +kernel
theorem dX6_init_35 : decode cX6_init 35 = .ok (.invokespecial 21, 3) := by decide +kernel
theorem dX6_init_38 : decode cX6_init 38 = .ok (.aastore, 1) := by decide +kernel
theorem dX6_init_39 : decode cX6_init 39 = .ok (.iinc 1 1, 3) := by decide +kernel
theorem dX6_init_42 : decode cX6_init 42 = .ok (.goto (-21), 3) := by decide +kernel
theorem dX6_init_45 : decode cX6_init 45 = .ok (.return_, 1) := by decide +kernel
theorem dX6_holds_0 : decode cX6_holds 0 = .ok (.iload_n 1, 1) := by decide +kernel
theorem dX6_holds_1 : decode cX6_holds 1 = .ok (.ifCond .lt 21, 3) := by decide +kernel
theorem dX6_holds_4 : decode cX6_holds 4 = .ok (.iload_n 1, 1) := by decide +kernel
theorem dX6_holds_5 : decode cX6_holds 5 = .ok (.iconst 2, 1) := by decide +kernel
theorem dX6_holds_6 : decode cX6_holds 6 = .ok (.if_icmp .ge 16, 3) := by decide +kernel
theorem dX6_holds_9 : decode cX6_holds 9 = .ok (.aload_n 0, 1) := by decide +kernel
theorem dX6_holds_10 : decode cX6_holds 10 = .ok (.getfield 17, 3) := by decide +kernel
theorem dX6_holds_13 : decode cX6_holds 13 = .ok (.iload_n 1, 1) := by decide +kernel
theorem dX6_holds_14 : decode cX6_holds 14 = .ok (.baload, 1) := by decide +kernel
theorem dX6_holds_15 : decode cX6_holds 15 = .ok (.ifCond .eq 7, 3) := by decide +kernel
theorem dX6_holds_18 : decode cX6_holds 18 = .ok (.iconst 1, 1) := by decide +kernel
theorem dX6_holds_19 : decode cX6_holds 19 = .ok (.goto 4, 3) := by decide +kernel
theorem dX6_holds_22 : decode cX6_holds 22 = .ok (.iconst 0, 1) := by decide +kernel
theorem dX6_holds_23 : decode cX6_holds 23 = .ok (.ireturn, 1) := by decide +kernel
theorem dX6_put_0 : decode cX6_put 0 = .ok (.iload_n 1, 1) := by decide +kernel
theorem dX6_put_1 : decode cX6_put 1 = .ok (.ifCond .lt 8, 3) := by decide +kernel
theorem dX6_put_4 : decode cX6_put 4 = .ok (.iload_n 1, 1) := by decide +kernel
theorem dX6_put_5 : decode cX6_put 5 = .ok (.iconst 2, 1) := by decide +kernel
theorem dX6_put_6 : decode cX6_put 6 = .ok (.if_icmp .lt 4, 3) := by decide +kernel
theorem dX6_put_9 : decode cX6_put 9 = .ok (.return_, 1) := by decide +kernel
theorem dX6_put_10 : decode cX6_put 10 = .ok (.aload_n 0, 1) := by decide +kernel
theorem dX6_put_11 : decode cX6_put 11 = .ok (.getfield 11, 3) := by decide +kernel
theorem dX6_put_14 : decode cX6_put 14 = .ok (.iload_n 1, 1) := by decide +kernel
theorem dX6_put_15 : decode cX6_put 15 = .ok (.aaload, 1) := by decide +kernel
theorem dX6_put_16 : decode cX6_put 16 = .ok (.aload_n 2, 1) := by decide +kernel
theorem dX6_put_17 : decode cX6_put 17 = .ok (.invokevirtual 22, 3) := by decide +kernel
theorem dX6_put_20 : decode cX6_put 20 = .ok (.aload_n 0, 1) := by decide +kernel
theorem dX6_put_21 : decode cX6_put 21 = .ok (.getfield 17, 3) := by decide +kernel
theorem dX6_put_24 : decode cX6_put 24 = .ok (.iload_n 1, 1) := by decide +kernel
theorem dX6_put_25 : decode cX6_put 25 = .ok (.iconst 1, 1) := by decide +kernel
theorem dX6_put_26 : decode cX6_put 26 = .ok (.bastore, 1) := by decide +kernel
theorem dX6_put_27 : decode cX6_put 27 = .ok (.return_, 1) := by decide +kernel
theorem dX6_fetch_0 : decode cX6_fetch 0 = .ok (.aload_n 0, 1) := by decide +kernel
theorem dX6_fetch_1 : decode cX6_fetch 1 = .ok (.iload_n 1, 1) := by decide +kernel
theorem dX6_fetch_2 : decode cX6_fetch 2 = .ok (.invokevirtual 26, 3) := by decide +kernel
theorem dX6_fetch_5 : decode cX6_fetch 5 = .ok (.ifCond .eq 13, 3) := by decide +kernel
theorem dX6_fetch_8 : decode cX6_fetch 8 = .ok (.aload_n 2, 1) := by decide +kernel
theorem dX6_fetch_9 : decode cX6_fetch 9 = .ok (.aload_n 0, 1) := by decide +kernel
theorem dX6_fetch_10 : decode cX6_fetch 10 = .ok (.getfield 11, 3) := by decide +kernel
theorem dX6_fetch_13 : decode cX6_fetch 13 = .ok (.iload_n 1, 1) := by decide +kernel
theorem dX6_fetch_14 : decode cX6_fetch 14 = .ok (.aaload, 1) := by decide +kernel
theorem dX6_fetch_15 : decode cX6_fetch 15 = .ok (.invokevirtual 22, 3) := by decide +kernel
theorem dX6_fetch_18 : decode cX6_fetch 18 = .ok (.return_, 1) := by decide +kernel
theorem dX6_forget_0 : decode cX6_forget 0 = .ok (.iconst 0, 1) := by decide +kernel
theorem dX6_forget_1 : decode cX6_forget 1 = .ok (.istore_n 1, 1) := by decide +kernel
theorem dX6_forget_2 : decode cX6_forget 2 = .ok (.iload_n 1, 1) := by decide +kernel
theorem dX6_forget_3 : decode cX6_forget 3 = .ok (.iconst 2, 1) := by decide +kernel
theorem dX6_forget_4 : decode cX6_forget 4 = .ok (.if_icmp .ge 16, 3) := by decide +kernel
theorem dX6_forget_7 : decode cX6_forget 7 = .ok (.aload_n 0, 1) := by decide +kernel
theorem dX6_forget_8 : decode cX6_forget 8 = .ok (.getfield 17, 3) := by decide +kernel
theorem dX6_forget_11 : decode cX6_forget 11 = .ok (.iload_n 1, 1) := by decide +kernel
theorem dX6_forget_12 : decode cX6_forget 12 = .ok (.iconst 0, 1) := by decide +kernel
theorem dX6_forget_13 : decode cX6_forget 13 = .ok (.bastore, 1) := by decide +kernel
theorem dX6_forget_14 : decode cX6_forget 14 = .ok (.iinc 1 1, 3) := by decide +kernel
theorem dX6_forget_17 : decode cX6_forget 17 = .ok (.goto (-15), 3) := by decide +kernel
theorem dX6_forget_20 : decode cX6_forget 20 = .ok (.return_, 1) := by decide +kernel
theorem dX7_init_0 : decode cX7_init 0 = .ok (.aload_n 0, 1) := by decide +kernel
theorem dX7_init_1 : decode cX7_init 1 = .ok (.invokespecial 3, 3) := by decide +kernel
theorem dX7_init_4 : decode cX7_init 4 = .ok (.aload_n 0, 1) := by decide +kernel
theorem dX7_init_5 : decode cX7_init 5 = .ok (.bipush 8, 2) := by decide +kernel
theorem dX7_init_7 : decode cX7_init 7 = .ok (.newarray .int, 2) := by decide +kernel
theorem dX7_init_9 : decode cX7_init 9 = .ok (.putfield 9, 3) := by decide +kernel
theorem dX7_init_12 : decode cX7_init 12 = .ok (.return_, 1) := by decide +kernel
theorem dX7_begin_0 : decode cX7_begin 0 = .ok (.aload_n 0, 1) := by decide +kernel
theorem dX7_begin_1 : decode cX7_begin 1 = .ok (.iconst 0, 1) := by decide +kernel
theorem dX7_begin_2 : decode cX7_begin 2 = .ok (.putfield 15, 3) := by decide +kernel
theorem dX7_begin_5 : decode cX7_begin 5 = .ok (.aload_n 0, 1) := by decide +kernel
theorem dX7_begin_6 : decode cX7_begin 6 = .ok (.iconst 0, 1) := by decide +kernel
theorem dX7_begin_7 : decode cX7_begin 7 = .ok (.putfield 19, 3) := by decide +kernel
theorem dX7_begin_10 : decode cX7_begin 10 = .ok (.aload_n 0, 1) := by decide +kernel
theorem dX7_begin_11 : decode cX7_begin 11 = .ok (.iload_n 1, 1) := by decide +kernel
theorem dX7_begin_12 : decode cX7_begin 12 = .ok (.putfield 22, 3) := by decide +kernel
theorem dX7_begin_15 : decode cX7_begin 15 = .ok (.aload_n 0, 1) := by decide +kernel
theorem dX7_begin_16 : decode cX7_begin 16 = .ok (.iconst 0, 1) := by decide +kernel
theorem dX7_begin_17 : decode cX7_begin 17 = .ok (.putfield 25, 3) := by decide +kernel
theorem dX7_begin_20 : decode cX7_begin 20 = .ok (.aload_n 0, 1) := by decide +kernel
theorem dX7_begin_21 : decode cX7_begin 21 = .ok (.iconst 0, 1) := by decide +kernel
theorem dX7_begin_22 : decode cX7_begin 22 = .ok (.putfield 28, 3) := by decide +kernel
theorem dX7_begin_25 : decode cX7_begin 25 = .ok (.aload_n 0, 1) := by decide +kernel
theorem dX7_begin_26 : decode cX7_begin 26 = .ok (.iconst 0, 1) := by decide +kernel
theorem dX7_begin_27 : decode cX7_begin 27 = .ok (.putfield 31, 3) := by decide +kernel
theorem dX7_begin_30 : decode cX7_begin 30 = .ok (.return_, 1) := by decide +kernel
theorem dX7_copyOf_0 : decode cX7_copyOf 0 = .ok (.aload_n 0, 1) := by decide +kernel
theorem dX7_copyOf_1 : decode cX7_copyOf 1 = .ok (.aload_n 1, 1) := by decide +kernel
theorem dX7_copyOf_2 : decode cX7_copyOf 2 = .ok (.getfield 15, 3) := by decide +kernel
theorem dX7_copyOf_5 : decode cX7_copyOf 5 = .ok (.putfield 15, 3) := by decide +kernel
theorem dX7_copyOf_8 : decode cX7_copyOf 8 = .ok (.aload_n 0, 1) := by decide +kernel
theorem dX7_copyOf_9 : decode cX7_copyOf 9 = .ok (.aload_n 1, 1) := by decide +kernel
theorem dX7_copyOf_10 : decode cX7_copyOf 10 = .ok (.getfield 19, 3) := by decide +kernel
theorem dX7_copyOf_13 : decode cX7_copyOf 13 = .ok (.putfield 19, 3) := by decide +kernel
theorem dX7_copyOf_16 : decode cX7_copyOf 16 = .ok (.aload_n 0, 1) := by decide +kernel
theorem dX7_copyOf_17 : decode cX7_copyOf 17 = .ok (.aload_n 1, 1) := by decide +kernel
theorem dX7_copyOf_18 : decode cX7_copyOf 18 = .ok (.getfield 22, 3) := by decide +kernel
theorem dX7_copyOf_21 : decode cX7_copyOf 21 = .ok (.putfield 22, 3) := by decide +kernel
theorem dX7_copyOf_24 : decode cX7_copyOf 24 = .ok (.aload_n 0, 1) := by decide +kernel
theorem dX7_copyOf_25 : decode cX7_copyOf 25 = .ok (.aload_n 1, 1) := by decide +kernel
theorem dX7_copyOf_26 : decode cX7_copyOf 26 = .ok (.getfield 25, 3) := by decide +kernel
theorem dX7_copyOf_29 : decode cX7_copyOf 29 = .ok (.putfield 25, 3) := by decide +kernel
theorem dX7_copyOf_32 : decode cX7_copyOf 32 = .ok (.aload_n 0, 1) := by decide +kernel
theorem dX7_copyOf_33 : decode cX7_copyOf 33 = .ok (.aload_n 1, 1) := by decide +kernel
theorem dX7_copyOf_34 : decode cX7_copyOf 34 = .ok (.getfield 28, 3) := by decide +kernel
theorem dX7_copyOf_37 : decode cX7_copyOf 37 = .ok (.putfield 28, 3) := by decide +kernel
theorem dX7_copyOf_40 : decode cX7_copyOf 40 = .ok (.aload_n 0, 1) := by decide +kernel
theorem dX7_copyOf_41 : decode cX7_copyOf 41 = .ok (.aload_n 1, 1) := by decide +kernel
theorem dX7_copyOf_42 : decode cX7_copyOf 42 = .ok (.getfield 31, 3) := by decide +kernel
theorem dX7_copyOf_45 : decode cX7_copyOf 45 = .ok (.putfield 31, 3) := by decide +kernel
theorem dX7_copyOf_48 : decode cX7_copyOf 48 = .ok (.iconst 0, 1) := by decide +kernel
theorem dX7_copyOf_49 : decode cX7_copyOf 49 = .ok (.istore_n 2, 1) := by decide +kernel
theorem dX7_copyOf_50 : decode cX7_copyOf 50 = .ok (.iload_n 2, 1) := by decide +kernel
theorem dX7_copyOf_51 : decode cX7_copyOf 51 = .ok (.bipush 8, 2) := by decide +kernel
theorem dX7_copyOf_53 : decode cX7_copyOf 53 = .ok (.if_icmp .ge 21, 3) := by decide +kernel
theorem dX7_copyOf_56 : decode cX7_copyOf 56 = .ok (.aload_n 0, 1) := by decide +kernel
theorem dX7_copyOf_57 : decode cX7_copyOf 57 = .ok (.getfield 9, 3) := by decide +kernel
theorem dX7_copyOf_60 : decode cX7_copyOf 60 = .ok (.iload_n 2, 1) := by decide +kernel
theorem dX7_copyOf_61 : decode cX7_copyOf 61 = .ok (.aload_n 1, 1) := by decide +kernel
theorem dX7_copyOf_62 : decode cX7_copyOf 62 = .ok (.getfield 9, 3) := by decide +kernel
theorem dX7_copyOf_65 : decode cX7_copyOf 65 = .ok (.iload_n 2, 1) := by decide +kernel
theorem dX7_copyOf_66 : decode cX7_copyOf 66 = .ok (.iaload, 1) := by decide +kernel
theorem dX7_copyOf_67 : decode cX7_copyOf 67 = .ok (.iastore, 1) := by decide +kernel
theorem dX7_copyOf_68 : decode cX7_copyOf 68 = .ok (.iinc 2 1, 3) := by decide +kernel
theorem dX7_copyOf_71 : decode cX7_copyOf 71 = .ok (.goto (-21), 3) := by decide +kernel
theorem dX7_copyOf_74 : decode cX7_copyOf 74 = .ok (.return_, 1) := by decide +kernel
theorem dX7_placeOf_0 : decode cX7_placeOf 0 = .ok (.iload_n 1, 1) := by decide +kernel
theorem dX7_placeOf_1 : decode cX7_placeOf 1 = .ok (.ifCond .ne 10, 3) := by decide +kernel
theorem dX7_placeOf_4 : decode cX7_placeOf 4 = .ok (.aload_n 0, 1) := by decide +kernel
theorem dX7_placeOf_5 : decode cX7_placeOf 5 = .ok (.getfield 15, 3) := by decide +kernel
theorem dX7_placeOf_8 : decode cX7_placeOf 8 = .ok (.goto 7, 3) := by decide +kernel
theorem dX7_placeOf_11 : decode cX7_placeOf 11 = .ok (.aload_n 0, 1) := by decide +kernel
theorem dX7_placeOf_12 : decode cX7_placeOf 12 = .ok (.getfield 19, 3) := by decide +kernel
theorem dX7_placeOf_15 : decode cX7_placeOf 15 = .ok (.ireturn, 1) := by decide +kernel
theorem dX7_move_0 : decode cX7_move 0 = .ok (.iload_n 1, 1) := by decide +kernel
theorem dX7_move_1 : decode cX7_move 1 = .ok (.ifCond .ne 11, 3) := by decide +kernel
theorem dX7_move_4 : decode cX7_move 4 = .ok (.aload_n 0, 1) := by decide +kernel
theorem dX7_move_5 : decode cX7_move 5 = .ok (.iload_n 2, 1) := by decide +kernel
theorem dX7_move_6 : decode cX7_move 6 = .ok (.putfield 15, 3) := by decide +kernel
theorem dX7_move_9 : decode cX7_move 9 = .ok (.goto 8, 3) := by decide +kernel
theorem dX7_move_12 : decode cX7_move 12 = .ok (.aload_n 0, 1) := by decide +kernel
theorem dX7_move_13 : decode cX7_move 13 = .ok (.iload_n 2, 1) := by decide +kernel
theorem dX7_move_14 : decode cX7_move 14 = .ok (.putfield 19, 3) := by decide +kernel
theorem dX7_move_17 : decode cX7_move 17 = .ok (.return_, 1) := by decide +kernel
theorem dX7_isDone_0 : decode cX7_isDone 0 = .ok (.aload_n 0, 1) := by decide +kernel
theorem dX7_isDone_1 : decode cX7_isDone 1 = .ok (.getfield 25, 3) := by decide +kernel
theorem dX7_isDone_4 : decode cX7_isDone 4 = .ok (.iload_n 1, 1) := by decide +kernel
theorem dX7_isDone_5 : decode cX7_isDone 5 = .ok (.ishr, 1) := by decide +kernel
theorem dX7_isDone_6 : decode cX7_isDone 6 = .ok (.iconst 1, 1) := by decide +kernel
theorem dX7_isDone_7 : decode cX7_isDone 7 = .ok (.iand, 1) := by decide +kernel
theorem dX7_isDone_8 : decode cX7_isDone 8 = .ok (.iconst 1, 1) := by decide +kernel
theorem dX7_isDone_9 : decode cX7_isDone 9 = .ok (.if_icmp .ne 7, 3) := by decide +kernel
theorem dX7_isDone_12 : decode cX7_isDone 12 = .ok (.iconst 1, 1) := by decide +kernel
theorem dX7_isDone_13 : decode cX7_isDone 13 = .ok (.goto 4, 3) := by decide +kernel
theorem dX7_isDone_16 : decode cX7_isDone 16 = .ok (.iconst 0, 1) := by decide +kernel
theorem dX7_isDone_17 : decode cX7_isDone 17 = .ok (.ireturn, 1) := by decide +kernel
theorem dX7_whoDid_0 : decode cX7_whoDid 0 = .ok (.aload_n 0, 1) := by decide +kernel
theorem dX7_whoDid_1 : decode cX7_whoDid 1 = .ok (.getfield 28, 3) := by decide +kernel
theorem dX7_whoDid_4 : decode cX7_whoDid 4 = .ok (.iload_n 1, 1) := by decide +kernel
theorem dX7_whoDid_5 : decode cX7_whoDid 5 = .ok (.ishr, 1) := by decide +kernel
theorem dX7_whoDid_6 : decode cX7_whoDid 6 = .ok (.iconst 1, 1) := by decide +kernel
theorem dX7_whoDid_7 : decode cX7_whoDid 7 = .ok (.iand, 1) := by decide +kernel
theorem dX7_whoDid_8 : decode cX7_whoDid 8 = .ok (.iconst 1, 1) := by decide +kernel
theorem dX7_whoDid_9 : decode cX7_whoDid 9 = .ok (.if_icmp .ne 7, 3) := by decide +kernel
theorem dX7_whoDid_12 : decode cX7_whoDid 12 = .ok (.iconst 1, 1) := by decide +kernel
theorem dX7_whoDid_13 : decode cX7_whoDid 13 = .ok (.goto 4, 3) := by decide +kernel
theorem dX7_whoDid_16 : decode cX7_whoDid 16 = .ok (.iconst 0, 1) := by decide +kernel
theorem dX7_whoDid_17 : decode cX7_whoDid 17 = .ok (.ireturn, 1) := by decide +kernel
theorem dX7_markDone_0 : decode cX7_markDone 0 = .ok (.aload_n 0, 1) := by decide +kernel
theorem dX7_markDone_1 : decode cX7_markDone 1 = .ok (.dup, 1) := by decide +kernel
theorem dX7_markDone_2 : decode cX7_markDone 2 = .ok (.getfield 25, 3) := by decide +kernel
theorem dX7_markDone_5 : decode cX7_markDone 5 = .ok (.iconst 1, 1) := by decide +kernel
theorem dX7_markDone_6 : decode cX7_markDone 6 = .ok (.iload_n 2, 1) := by decide +kernel
theorem dX7_markDone_7 : decode cX7_markDone 7 = .ok (.ishl, 1) := by decide +kernel
theorem dX7_markDone_8 : decode cX7_markDone 8 = .ok (.ior, 1) := by decide +kernel
theorem dX7_markDone_9 : decode cX7_markDone 9 = .ok (.putfield 25, 3) := by decide +kernel
theorem dX7_markDone_12 : decode cX7_markDone 12 = .ok (.iload_n 1, 1) := by decide +kernel
theorem dX7_markDone_13 : decode cX7_markDone 13 = .ok (.iconst 1, 1) := by decide +kernel
theorem dX7_markDone_14 : decode cX7_markDone 14 = .ok (.if_icmp .ne 15, 3) := by decide +kernel
theorem dX7_markDone_17 : decode cX7_markDone 17 = .ok (.aload_n 0, 1) := by decide +kernel
theorem dX7_markDone_18 : decode cX7_markDone 18 = .ok (.dup, 1) := by decide +kernel
theorem dX7_markDone_19 : decode cX7_markDone 19 = .ok (.getfield 28, 3) := by decide +kernel
theorem dX7_markDone_22 : decode cX7_markDone 22 = .ok (.iconst 1, 1) := by decide +kernel
theorem dX7_markDone_23 : decode cX7_markDone 23 = .ok (.iload_n 2, 1) := by decide +kernel
theorem dX7_markDone_24 : decode cX7_markDone 24 = .ok (.ishl, 1) := by decide +kernel
theorem dX7_markDone_25 : decode cX7_markDone 25 = .ok (.ior, 1) := by decide +kernel
theorem dX7_markDone_26 : decode cX7_markDone 26 = .ok (.putfield 28, 3) := by decide +kernel
theorem dX7_markDone_29 : decode cX7_markDone 29 = .ok (.return_, 1) := by decide +kernel
theorem dX7_addLoan_0 : decode cX7_addLoan 0 = .ok (.aload_n 0, 1) := by decide +kernel
theorem dX7_addLoan_1 : decode cX7_addLoan 1 = .ok (.getfield 31, 3) := by decide +kernel
theorem dX7_addLoan_4 : decode cX7_addLoan 4 = .ok (.ifCond .lt 12, 3) := by decide +kernel
theorem dX7_addLoan_7 : decode cX7_addLoan 7 = .ok (.aload_n 0, 1) := by decide +kernel
theorem dX7_addLoan_8 : decode cX7_addLoan 8 = .ok (.getfield 31, 3) := by decide +kernel
theorem dX7_addLoan_11 : decode cX7_addLoan 11 = .ok (.bipush 8, 2) := by decide +kernel
theorem dX7_addLoan_13 : decode cX7_addLoan 13 = .ok (.if_icmp .lt 4, 3) := by decide +kernel
theorem dX7_addLoan_16 : decode cX7_addLoan 16 = .ok (.return_, 1) := by decide +kernel
theorem dX7_addLoan_17 : decode cX7_addLoan 17 = .ok (.aload_n 0, 1) := by decide +kernel
theorem dX7_addLoan_18 : decode cX7_addLoan 18 = .ok (.getfield 9, 3) := by decide +kernel
theorem dX7_addLoan_21 : decode cX7_addLoan 21 = .ok (.aload_n 0, 1) := by decide +kernel
theorem dX7_addLoan_22 : decode cX7_addLoan 22 = .ok (.getfield 31, 3) := by decide +kernel
theorem dX7_addLoan_25 : decode cX7_addLoan 25 = .ok (.iload_n 1, 1) := by decide +kernel
theorem dX7_addLoan_26 : decode cX7_addLoan 26 = .ok (.iastore, 1) := by decide +kernel
theorem dX7_addLoan_27 : decode cX7_addLoan 27 = .ok (.aload_n 0, 1) := by decide +kernel
theorem dX7_addLoan_28 : decode cX7_addLoan 28 = .ok (.dup, 1) := by decide +kernel
theorem dX7_addLoan_29 : decode cX7_addLoan 29 = .ok (.getfield 31, 3) := by decide +kernel
theorem dX7_addLoan_32 : decode cX7_addLoan 32 = .ok (.iconst 1, 1) := by decide +kernel
theorem dX7_addLoan_33 : decode cX7_addLoan 33 = .ok (.iadd, 1) := by decide +kernel
theorem dX7_addLoan_34 : decode cX7_addLoan 34 = .ok (.putfield 31, 3) := by decide +kernel
theorem dX7_addLoan_37 : decode cX7_addLoan 37 = .ok (.aload_n 0, 1) := by decide +kernel
theorem dX7_addLoan_38 : decode cX7_addLoan 38 = .ok (.dup, 1) := by decide +kernel
theorem dX7_addLoan_39 : decode cX7_addLoan 39 = .ok (.getfield 22, 3) := by decide +kernel
theorem dX7_addLoan_42 : decode cX7_addLoan 42 = .ok (.iload_n 1, 1) := by decide +kernel
theorem dX7_addLoan_43 : decode cX7_addLoan 43 = .ok (.isub, 1) := by decide +kernel
theorem dX7_addLoan_44 : decode cX7_addLoan 44 = .ok (.putfield 22, 3) := by decide +kernel
theorem dX7_addLoan_47 : decode cX7_addLoan 47 = .ok (.return_, 1) := by decide +kernel
theorem dX7_owedFor_0 : decode cX7_owedFor 0 = .ok (.iload_n 0, 1) := by decide +kernel
theorem dX7_owedFor_1 : decode cX7_owedFor 1 = .ok (.invokestatic 34, 3) := by decide +kernel
theorem dX7_owedFor_4 : decode cX7_owedFor 4 = .ok (.istore_n 1, 1) := by decide +kernel
theorem dX7_owedFor_5 : decode cX7_owedFor 5 = .ok (.iload_n 1, 1) := by decide +kernel
theorem dX7_owedFor_6 : decode cX7_owedFor 6 = .ok (.iload_n 1, 1) := by decide +kernel
theorem dX7_owedFor_7 : decode cX7_owedFor 7 = .ok (.bipush 9, 2) := by decide +kernel
theorem dX7_owedFor_9 : decode cX7_owedFor 9 = .ok (.iadd, 1) := by decide +kernel
theorem dX7_owedFor_10 : decode cX7_owedFor 10 = .ok (.bipush 10, 2) := by decide +kernel
theorem dX7_owedFor_12 : decode cX7_owedFor 12 = .ok (.idiv, 1) := by decide +kernel
theorem dX7_owedFor_13 : decode cX7_owedFor 13 = .ok (.iadd, 1) := by decide +kernel
theorem dX7_owedFor_14 : decode cX7_owedFor 14 = .ok (.istore_n 2, 1) := by decide +kernel
theorem dX7_owedFor_15 : decode cX7_owedFor 15 = .ok (.iload_n 0, 1) := by decide +kernel
theorem dX7_owedFor_16 : decode cX7_owedFor 16 = .ok (.ifCond .ge 8, 3) := by decide +kernel
theorem dX7_owedFor_19 : decode cX7_owedFor 19 = .ok (.iload_n 2, 1) := by decide +kernel
theorem dX7_owedFor_20 : decode cX7_owedFor 20 = .ok (.ineg, 1) := by decide +kernel
theorem dX7_owedFor_21 : decode cX7_owedFor 21 = .ok (.goto 4, 3) := by decide +kernel
theorem dX7_owedFor_24 : decode cX7_owedFor 24 = .ok (.iload_n 2, 1) := by decide +kernel
theorem dX7_owedFor_25 : decode cX7_owedFor 25 = .ok (.ireturn, 1) := by decide +kernel
theorem dX7_owedForFirstLoan_0 : decode cX7_owedForFirstLoan 0 = .ok (.aload_n 0, 1) := by decide +kernel
theorem dX7_owedForFirstLoan_1 : decode cX7_owedForFirstLoan 1 = .ok (.getfield 31, 3) := by decide +kernel
theorem dX7_owedForFirstLoan_4 : decode cX7_owedForFirstLoan 4 = .ok (.iconst 1, 1) := by decide +kernel
theorem dX7_owedForFirstLoan_5 : decode cX7_owedForFirstLoan 5 = .ok (.if_icmp .ge 7, 3) := by decide +kernel
theorem dX7_owedForFirstLoan_8 : decode cX7_owedForFirstLoan 8 = .ok (.iconst 0, 1) := by decide +kernel
theorem dX7_owedForFirstLoan_9 : decode cX7_owedForFirstLoan 9 = .ok (.goto 12, 3) := by decide +kernel
theorem dX7_owedForFirstLoan_12 : decode cX7_owedForFirstLoan 12 = .ok (.aload_n 0, 1) := by decide +kernel
theorem dX7_owedForFirstLoan_13 : decode cX7_owedForFirstLoan 13 = .ok (.getfield 9, 3) := by decide +kernel
theorem dX7_owedForFirstLoan_16 : decode cX7_owedForFirstLoan 16 = .ok (.iconst 0, 1) := by decide +kernel
theorem dX7_owedForFirstLoan_17 : decode cX7_owedForFirstLoan 17 = .ok (.iaload, 1) := by decide +kernel
theorem dX7_owedForFirstLoan_18 : decode cX7_owedForFirstLoan 18 = .ok (.invokestatic 40, 3) := by decide +kernel
theorem dX7_owedForFirstLoan_21 : decode cX7_owedForFirstLoan 21 = .ok (.ireturn, 1) := by decide +kernel
theorem dX7_owedToThem_0 : decode cX7_owedToThem 0 = .ok (.iconst 0, 1) := by decide +kernel
theorem dX7_owedToThem_1 : decode cX7_owedToThem 1 = .ok (.istore_n 1, 1) := by decide +kernel
theorem dX7_owedToThem_2 : decode cX7_owedToThem 2 = .ok (.iconst 0, 1) := by decide +kernel
theorem dX7_owedToThem_3 : decode cX7_owedToThem 3 = .ok (.istore_n 2, 1) := by decide +kernel
theorem dX7_owedToThem_4 : decode cX7_owedToThem 4 = .ok (.iload_n 2, 1) := by decide +kernel
theorem dX7_owedToThem_5 : decode cX7_owedToThem 5 = .ok (.aload_n 0, 1) := by decide +kernel
theorem dX7_owedToThem_6 : decode cX7_owedToThem 6 = .ok (.getfield 31, 3) := by decide +kernel
theorem dX7_owedToThem_9 : decode cX7_owedToThem 9 = .ok (.if_icmp .ge 27, 3) := by decide +kernel
theorem dX7_owedToThem_12 : decode cX7_owedToThem 12 = .ok (.iload_n 2, 1) := by decide +kernel
theorem dX7_owedToThem_13 : decode cX7_owedToThem 13 = .ok (.bipush 8, 2) := by decide +kernel
theorem dX7_owedToThem_15 : decode cX7_owedToThem 15 = .ok (.if_icmp .ge 21, 3) := by decide +kernel
theorem dX7_owedToThem_18 : decode cX7_owedToThem 18 = .ok (.iload_n 1, 1) := by decide +kernel
theorem dX7_owedToThem_19 : decode cX7_owedToThem 19 = .ok (.aload_n 0, 1) := by decide +kernel
theorem dX7_owedToThem_20 : decode cX7_owedToThem 20 = .ok (.getfield 9, 3) := by decide +kernel
theorem dX7_owedToThem_23 : decode cX7_owedToThem 23 = .ok (.iload_n 2, 1) := by decide +kernel
theorem dX7_owedToThem_24 : decode cX7_owedToThem 24 = .ok (.iaload, 1) := by decide +kernel
theorem dX7_owedToThem_25 : decode cX7_owedToThem 25 = .ok (.invokestatic 40, 3) := by decide +kernel
theorem dX7_owedToThem_28 : decode cX7_owedToThem 28 = .ok (.iadd, 1) := by decide +kernel
theorem dX7_owedToThem_29 : decode cX7_owedToThem 29 = .ok (.istore_n 1, 1) := by decide +kernel
theorem dX7_owedToThem_30 : decode cX7_owedToThem 30 = .ok (.iinc 2 1, 3) := by decide +kernel
end
section
theorem dX7_owedToThem_33 : decode cX7_owedToThem 33 = .ok (.goto (-29), 3) := by decide +kernel
theorem dX7_owedToThem_36 : decode cX7_owedToThem 36 = .ok (.iload_n 1, 1) := by decide +kernel
theorem dX7_owedToThem_37 : decode cX7_owedToThem 37 = .ok (.ireturn, 1) := by decide +kernel
theorem dX7_giveFirstLoanBack_0 : decode cX7_giveFirstLoanBack 0 = .ok (.aload_n 0, 1) := by decide +kernel
theorem dX7_giveFirstLoanBack_1 : decode cX7_giveFirstLoanBack 1 = .ok (.getfield 31, 3) := by decide +kernel
theorem dX7_giveFirstLoanBack_4 : decode cX7_giveFirstLoanBack 4 = .ok (.iconst 1, 1) := by decide +kernel
theorem dX7_giveFirstLoanBack_5 : decode cX7_giveFirstLoanBack 5 = .ok (.if_icmp .ge 4, 3) := by decide +kernel
theorem dX7_giveFirstLoanBack_8 : decode cX7_giveFirstLoanBack 8 = .ok (.return_, 1) := by decide +kernel
theorem dX7_giveFirstLoanBack_9 : decode cX7_giveFirstLoanBack 9 = .ok (.aload_n 0, 1) := by decide +kernel
theorem dX7_giveFirstLoanBack_10 : decode cX7_giveFirstLoanBack 10 = .ok (.dup, 1) := by decide +kernel
theorem dX7_giveFirstLoanBack_11 : decode cX7_giveFirstLoanBack 11 = .ok (.getfield 22, 3) := by decide +kernel
theorem dX7_giveFirstLoanBack_14 : decode cX7_giveFirstLoanBack 14 = .ok (.aload_n 0, 1) := by decide +kernel
theorem dX7_giveFirstLoanBack_15 : decode cX7_giveFirstLoanBack 15 = .ok (.invokevirtual 43, 3) := by decide +kernel
theorem dX7_giveFirstLoanBack_18 : decode cX7_giveFirstLoanBack 18 = .ok (.iadd, 1) := by decide +kernel
theorem dX7_giveFirstLoanBack_19 : decode cX7_giveFirstLoanBack 19 = .ok (.putfield 22, 3) := by decide +kernel
theorem dX7_giveFirstLoanBack_22 : decode cX7_giveFirstLoanBack 22 = .ok (.iconst 1, 1) := by decide +kernel
theorem dX7_giveFirstLoanBack_23 : decode cX7_giveFirstLoanBack 23 = .ok (.istore_n 1, 1) := by decide +kernel
theorem dX7_giveFirstLoanBack_24 : decode cX7_giveFirstLoanBack 24 = .ok (.iload_n 1, 1) := by decide +kernel
theorem dX7_giveFirstLoanBack_25 : decode cX7_giveFirstLoanBack 25 = .ok (.aload_n 0, 1) := by decide +kernel
theorem dX7_giveFirstLoanBack_26 : decode cX7_giveFirstLoanBack 26 = .ok (.getfield 31, 3) := by decide +kernel
theorem dX7_giveFirstLoanBack_29 : decode cX7_giveFirstLoanBack 29 = .ok (.if_icmp .ge 29, 3) := by decide +kernel
theorem dX7_giveFirstLoanBack_32 : decode cX7_giveFirstLoanBack 32 = .ok (.iload_n 1, 1) := by decide +kernel
theorem dX7_giveFirstLoanBack_33 : decode cX7_giveFirstLoanBack 33 = .ok (.bipush 8, 2) := by decide +kernel
theorem dX7_giveFirstLoanBack_35 : decode cX7_giveFirstLoanBack 35 = .ok (.if_icmp .ge 23, 3) := by decide +kernel
theorem dX7_giveFirstLoanBack_38 : decode cX7_giveFirstLoanBack 38 = .ok (.aload_n 0, 1) := by decide +kernel
theorem dX7_giveFirstLoanBack_39 : decode cX7_giveFirstLoanBack 39 = .ok (.getfield 9, 3) := by decide +kernel
theorem dX7_giveFirstLoanBack_42 : decode cX7_giveFirstLoanBack 42 = .ok (.iload_n 1, 1) := by decide +kernel
theorem dX7_giveFirstLoanBack_43 : decode cX7_giveFirstLoanBack 43 = .ok (.iconst 1, 1) := by decide +kernel
theorem dX7_giveFirstLoanBack_44 : decode cX7_giveFirstLoanBack 44 = .ok (.isub, 1) := by decide +kernel
theorem dX7_giveFirstLoanBack_45 : decode cX7_giveFirstLoanBack 45 = .ok (.aload_n 0, 1) := by decide +kernel
theorem dX7_giveFirstLoanBack_46 : decode cX7_giveFirstLoanBack 46 = .ok (.getfield 9, 3) := by decide +kernel
theorem dX7_giveFirstLoanBack_49 : decode cX7_giveFirstLoanBack 49 = .ok (.iload_n 1, 1) := by decide +kernel
theorem dX7_giveFirstLoanBack_50 : decode cX7_giveFirstLoanBack 50 = .ok (.iaload, 1) := by decide +kernel
theorem dX7_giveFirstLoanBack_51 : decode cX7_giveFirstLoanBack 51 = .ok (.iastore, 1) := by decide +kernel
theorem dX7_giveFirstLoanBack_52 : decode cX7_giveFirstLoanBack 52 = .ok (.iinc 1 1, 3) := by decide +kernel
theorem dX7_giveFirstLoanBack_55 : decode cX7_giveFirstLoanBack 55 = .ok (.goto (-31), 3) := by decide +kernel
theorem dX7_giveFirstLoanBack_58 : decode cX7_giveFirstLoanBack 58 = .ok (.aload_n 0, 1) := by decide +kernel
theorem dX7_giveFirstLoanBack_59 : decode cX7_giveFirstLoanBack 59 = .ok (.dup, 1) := by decide +kernel
theorem dX7_giveFirstLoanBack_60 : decode cX7_giveFirstLoanBack 60 = .ok (.getfield 31, 3) := by decide +kernel
theorem dX7_giveFirstLoanBack_63 : decode cX7_giveFirstLoanBack 63 = .ok (.iconst 1, 1) := by decide +kernel
theorem dX7_giveFirstLoanBack_64 : decode cX7_giveFirstLoanBack 64 = .ok (.isub, 1) := by decide +kernel
theorem dX7_giveFirstLoanBack_65 : decode cX7_giveFirstLoanBack 65 = .ok (.putfield 31, 3) := by decide +kernel
theorem dX7_giveFirstLoanBack_68 : decode cX7_giveFirstLoanBack 68 = .ok (.return_, 1) := by decide +kernel
theorem dX8_init_0 : decode cX8_init 0 = .ok (.aload_n 0, 1) := by decide +kernel
theorem dX8_init_1 : decode cX8_init 1 = .ok (.invokespecial 3, 3) := by decide +kernel
theorem dX8_init_4 : decode cX8_init 4 = .ok (.aload_n 0, 1) := by decide +kernel
theorem dX8_init_5 : decode cX8_init 5 = .ok (.bipush 80, 2) := by decide +kernel
theorem dX8_init_7 : decode cX8_init 7 = .ok (.newarray .int, 2) := by decide +kernel
theorem dX8_init_9 : decode cX8_init 9 = .ok (.putfield 9, 3) := by decide +kernel
theorem dX8_init_12 : decode cX8_init 12 = .ok (.return_, 1) := by decide +kernel
theorem dX8_size_0 : decode cX8_size 0 = .ok (.aload_n 0, 1) := by decide +kernel
theorem dX8_size_1 : decode cX8_size 1 = .ok (.getfield 15, 3) := by decide +kernel
theorem dX8_size_4 : decode cX8_size 4 = .ok (.ireturn, 1) := by decide +kernel
theorem dX8_empty_0 : decode cX8_empty 0 = .ok (.aload_n 0, 1) := by decide +kernel
theorem dX8_empty_1 : decode cX8_empty 1 = .ok (.iconst 0, 1) := by decide +kernel
theorem dX8_empty_2 : decode cX8_empty 2 = .ok (.putfield 15, 3) := by decide +kernel
theorem dX8_empty_5 : decode cX8_empty 5 = .ok (.return_, 1) := by decide +kernel
theorem dX8_append_0 : decode cX8_append 0 = .ok (.iload_n 1, 1) := by decide +kernel
theorem dX8_append_1 : decode cX8_append 1 = .ok (.iconst 1, 1) := by decide +kernel
theorem dX8_append_2 : decode cX8_append 2 = .ok (.isub, 1) := by decide +kernel
theorem dX8_append_3 : decode cX8_append 3 = .ok (.istore 4, 2) := by decide +kernel
theorem dX8_append_5 : decode cX8_append 5 = .ok (.iload 4, 2) := by decide +kernel
theorem dX8_append_7 : decode cX8_append 7 = .ok (.ifCond .lt 49, 3) := by decide +kernel
theorem dX8_append_10 : decode cX8_append 10 = .ok (.aload_n 0, 1) := by decide +kernel
theorem dX8_append_11 : decode cX8_append 11 = .ok (.getfield 15, 3) := by decide +kernel
theorem dX8_append_14 : decode cX8_append 14 = .ok (.bipush 80, 2) := by decide +kernel
theorem dX8_append_16 : decode cX8_append 16 = .ok (.if_icmp .ge 40, 3) := by decide +kernel
theorem dX8_append_19 : decode cX8_append 19 = .ok (.aload_n 0, 1) := by decide +kernel
theorem dX8_append_20 : decode cX8_append 20 = .ok (.getfield 9, 3) := by decide +kernel
theorem dX8_append_23 : decode cX8_append 23 = .ok (.aload_n 0, 1) := by decide +kernel
theorem dX8_append_24 : decode cX8_append 24 = .ok (.getfield 15, 3) := by decide +kernel
theorem dX8_append_27 : decode cX8_append 27 = .ok (.lload_n 2, 1) := by decide +kernel
theorem dX8_append_28 : decode cX8_append 28 = .ok (.bipush 8, 2) := by decide +kernel
theorem dX8_append_30 : decode cX8_append 30 = .ok (.iload 4, 2) := by decide +kernel
theorem dX8_append_32 : decode cX8_append 32 = .ok (.imul, 1) := by decide +kernel
theorem dX8_append_33 : decode cX8_append 33 = .ok (.lushr, 1) := by decide +kernel
theorem dX8_append_34 : decode cX8_append 34 = .ok (.l2i, 1) := by decide +kernel
theorem dX8_append_35 : decode cX8_append 35 = .ok (.sipush 255, 3) := by decide +kernel
theorem dX8_append_38 : decode cX8_append 38 = .ok (.iand, 1) := by decide +kernel
theorem dX8_append_39 : decode cX8_append 39 = .ok (.iastore, 1) := by decide +kernel
theorem dX8_append_40 : decode cX8_append 40 = .ok (.aload_n 0, 1) := by decide +kernel
theorem dX8_append_41 : decode cX8_append 41 = .ok (.dup, 1) := by decide +kernel
theorem dX8_append_42 : decode cX8_append 42 = .ok (.getfield 15, 3) := by decide +kernel
theorem dX8_append_45 : decode cX8_append 45 = .ok (.iconst 1, 1) := by decide +kernel
theorem dX8_append_46 : decode cX8_append 46 = .ok (.iadd, 1) := by decide +kernel
theorem dX8_append_47 : decode cX8_append 47 = .ok (.putfield 15, 3) := by decide +kernel
theorem dX8_append_50 : decode cX8_append 50 = .ok (.iinc 4 (-1), 3) := by decide +kernel
theorem dX8_append_53 : decode cX8_append 53 = .ok (.goto (-48), 3) := by decide +kernel
theorem dX8_append_56 : decode cX8_append 56 = .ok (.return_, 1) := by decide +kernel
theorem dX8_signAt_0 : decode cX8_signAt 0 = .ok (.iload_n 1, 1) := by decide +kernel
theorem dX8_signAt_1 : decode cX8_signAt 1 = .ok (.ifCond .lt 20, 3) := by decide +kernel
theorem dX8_signAt_4 : decode cX8_signAt 4 = .ok (.iload_n 1, 1) := by decide +kernel
theorem dX8_signAt_5 : decode cX8_signAt 5 = .ok (.aload_n 0, 1) := by decide +kernel
theorem dX8_signAt_6 : decode cX8_signAt 6 = .ok (.getfield 15, 3) := by decide +kernel
theorem dX8_signAt_9 : decode cX8_signAt 9 = .ok (.if_icmp .ge 12, 3) := by decide +kernel
theorem dX8_signAt_12 : decode cX8_signAt 12 = .ok (.aload_n 0, 1) := by decide +kernel
theorem dX8_signAt_13 : decode cX8_signAt 13 = .ok (.getfield 9, 3) := by decide +kernel
theorem dX8_signAt_16 : decode cX8_signAt 16 = .ok (.iload_n 1, 1) := by decide +kernel
theorem dX8_signAt_17 : decode cX8_signAt 17 = .ok (.iaload, 1) := by decide +kernel
theorem dX8_signAt_18 : decode cX8_signAt 18 = .ok (.goto 4, 3) := by decide +kernel
theorem dX8_signAt_21 : decode cX8_signAt 21 = .ok (.iconst 0, 1) := by decide +kernel
theorem dX8_signAt_22 : decode cX8_signAt 22 = .ok (.ireturn, 1) := by decide +kernel
theorem dX8_figureAt_0 : decode cX8_figureAt 0 = .ok (.aload_n 0, 1) := by decide +kernel
theorem dX8_figureAt_1 : decode cX8_figureAt 1 = .ok (.iload_n 1, 1) := by decide +kernel
theorem dX8_figureAt_2 : decode cX8_figureAt 2 = .ok (.invokevirtual 19, 3) := by decide +kernel
theorem dX8_figureAt_5 : decode cX8_figureAt 5 = .ok (.istore_n 2, 1) := by decide +kernel
theorem dX8_figureAt_6 : decode cX8_figureAt 6 = .ok (.iload_n 2, 1) := by decide +kernel
theorem dX8_figureAt_7 : decode cX8_figureAt 7 = .ok (.bipush 48, 2) := by decide +kernel
theorem dX8_figureAt_9 : decode cX8_figureAt 9 = .ok (.if_icmp .lt 16, 3) := by decide +kernel
theorem dX8_figureAt_12 : decode cX8_figureAt 12 = .ok (.iload_n 2, 1) := by decide +kernel
theorem dX8_figureAt_13 : decode cX8_figureAt 13 = .ok (.bipush 57, 2) := by decide +kernel
theorem dX8_figureAt_15 : decode cX8_figureAt 15 = .ok (.if_icmp .gt 10, 3) := by decide +kernel
theorem dX8_figureAt_18 : decode cX8_figureAt 18 = .ok (.iload_n 2, 1) := by decide +kernel
theorem dX8_figureAt_19 : decode cX8_figureAt 19 = .ok (.bipush 48, 2) := by decide +kernel
theorem dX8_figureAt_21 : decode cX8_figureAt 21 = .ok (.isub, 1) := by decide +kernel
theorem dX8_figureAt_22 : decode cX8_figureAt 22 = .ok (.goto 4, 3) := by decide +kernel
theorem dX8_figureAt_25 : decode cX8_figureAt 25 = .ok (.iconst (-1), 1) := by decide +kernel
theorem dX8_figureAt_26 : decode cX8_figureAt 26 = .ok (.ireturn, 1) := by decide +kernel
theorem dX9_init_0 : decode cX9_init 0 = .ok (.aload_n 0, 1) := by decide +kernel
theorem dX9_init_1 : decode cX9_init 1 = .ok (.invokespecial 3, 3) := by decide +kernel
theorem dX9_init_4 : decode cX9_init 4 = .ok (.aload_n 0, 1) := by decide +kernel
theorem dX9_init_5 : decode cX9_init 5 = .ok (.sipush 384, 3) := by decide +kernel
theorem dX9_init_8 : decode cX9_init 8 = .ok (.newarray .int, 2) := by decide +kernel
theorem dX9_init_10 : decode cX9_init 10 = .ok (.putfield 9, 3) := by decide +kernel
theorem dX9_init_13 : decode cX9_init 13 = .ok (.aload_n 0, 1) := by decide +kernel
theorem dX9_init_14 : decode cX9_init 14 = .ok (.bipush 64, 2) := by decide +kernel
theorem dX9_init_16 : decode cX9_init 16 = .ok (.newarray .int, 2) := by decide +kernel
theorem dX9_init_18 : decode cX9_init 18 = .ok (.putfield 15, 3) := by decide +kernel
theorem dX9_init_21 : decode cX9_init 21 = .ok (.return_, 1) := by decide +kernel
theorem dX9_begin_0 : decode cX9_begin 0 = .ok (.aload_n 0, 1) := by decide +kernel
theorem dX9_begin_1 : decode cX9_begin 1 = .ok (.aload_n 1, 1) := by decide +kernel
theorem dX9_begin_2 : decode cX9_begin 2 = .ok (.iload_n 2, 1) := by decide +kernel
theorem dX9_begin_3 : decode cX9_begin 3 = .ok (.invokevirtual 18, 3) := by decide +kernel
theorem dX9_begin_6 : decode cX9_begin 6 = .ok (.ifCond .eq 7, 3) := by decide +kernel
theorem dX9_begin_9 : decode cX9_begin 9 = .ok (.iload_n 2, 1) := by decide +kernel
theorem dX9_begin_10 : decode cX9_begin 10 = .ok (.goto 4, 3) := by decide +kernel
theorem dX9_begin_13 : decode cX9_begin 13 = .ok (.iconst 0, 1) := by decide +kernel
theorem dX9_begin_14 : decode cX9_begin 14 = .ok (.putfield 24, 3) := by decide +kernel
theorem dX9_begin_17 : decode cX9_begin 17 = .ok (.iconst 0, 1) := by decide +kernel
theorem dX9_begin_18 : decode cX9_begin 18 = .ok (.istore 4, 2) := by decide +kernel
theorem dX9_begin_20 : decode cX9_begin 20 = .ok (.iload 4, 2) := by decide +kernel
theorem dX9_begin_22 : decode cX9_begin 22 = .ok (.sipush 384, 3) := by decide +kernel
theorem dX9_begin_25 : decode cX9_begin 25 = .ok (.if_icmp .ge 18, 3) := by decide +kernel
theorem dX9_begin_28 : decode cX9_begin 28 = .ok (.aload_n 0, 1) := by decide +kernel
theorem dX9_begin_29 : decode cX9_begin 29 = .ok (.getfield 9, 3) := by decide +kernel
theorem dX9_begin_32 : decode cX9_begin 32 = .ok (.iload 4, 2) := by decide +kernel
theorem dX9_begin_34 : decode cX9_begin 34 = .ok (.ldc 28, 2) := by decide +kernel
theorem dX9_begin_36 : decode cX9_begin 36 = .ok (.iastore, 1) := by decide +kernel
theorem dX9_begin_37 : decode cX9_begin 37 = .ok (.iinc 4 1, 3) := by decide +kernel
theorem dX9_begin_40 : decode cX9_begin 40 = .ok (.goto (-20), 3) := by decide +kernel
theorem dX9_begin_43 : decode cX9_begin 43 = .ok (.aload_n 0, 1) := by decide +kernel
theorem dX9_begin_44 : decode cX9_begin 44 = .ok (.getfield 9, 3) := by decide +kernel
theorem dX9_begin_47 : decode cX9_begin 47 = .ok (.iconst 1, 1) := by decide +kernel
theorem dX9_begin_48 : decode cX9_begin 48 = .ok (.aload_n 0, 1) := by decide +kernel
theorem dX9_begin_49 : decode cX9_begin 49 = .ok (.getfield 24, 3) := by decide +kernel
theorem dX9_begin_52 : decode cX9_begin 52 = .ok (.ishl, 1) := by decide +kernel
theorem dX9_begin_53 : decode cX9_begin 53 = .ok (.bipush 6, 2) := by decide +kernel
theorem dX9_begin_55 : decode cX9_begin 55 = .ok (.imul, 1) := by decide +kernel
theorem dX9_begin_56 : decode cX9_begin 56 = .ok (.aload_n 0, 1) := by decide +kernel
theorem dX9_begin_57 : decode cX9_begin 57 = .ok (.getfield 24, 3) := by decide +kernel
theorem dX9_begin_60 : decode cX9_begin 60 = .ok (.iadd, 1) := by decide +kernel
theorem dX9_begin_61 : decode cX9_begin 61 = .ok (.iconst 0, 1) := by decide +kernel
theorem dX9_begin_62 : decode cX9_begin 62 = .ok (.iastore, 1) := by decide +kernel
theorem dX9_begin_63 : decode cX9_begin 63 = .ok (.iconst 0, 1) := by decide +kernel
theorem dX9_begin_64 : decode cX9_begin 64 = .ok (.istore 4, 2) := by decide +kernel
theorem dX9_begin_66 : decode cX9_begin 66 = .ok (.iload 4, 2) := by decide +kernel
theorem dX9_begin_68 : decode cX9_begin 68 = .ok (.iconst 1, 1) := by decide +kernel
theorem dX9_begin_69 : decode cX9_begin 69 = .ok (.aload_n 1, 1) := by decide +kernel
theorem dX9_begin_70 : decode cX9_begin 70 = .ok (.getfield 29, 3) := by decide +kernel
theorem dX9_begin_73 : decode cX9_begin 73 = .ok (.ishl, 1) := by decide +kernel
theorem dX9_begin_74 : decode cX9_begin 74 = .ok (.if_icmp .ge 96, 3) := by decide +kernel
theorem dX9_begin_77 : decode cX9_begin 77 = .ok (.aload_n 0, 1) := by decide +kernel
theorem dX9_begin_78 : decode cX9_begin 78 = .ok (.getfield 15, 3) := by decide +kernel
theorem dX9_begin_81 : decode cX9_begin 81 = .ok (.iload 4, 2) := by decide +kernel
theorem dX9_begin_83 : decode cX9_begin 83 = .ok (.ldc 28, 2) := by decide +kernel
theorem dX9_begin_85 : decode cX9_begin 85 = .ok (.iastore, 1) := by decide +kernel
theorem dX9_begin_86 : decode cX9_begin 86 = .ok (.iconst 0, 1) := by decide +kernel
theorem dX9_begin_87 : decode cX9_begin 87 = .ok (.istore 5, 2) := by decide +kernel
theorem dX9_begin_89 : decode cX9_begin 89 = .ok (.iload 5, 2) := by decide +kernel
theorem dX9_begin_91 : decode cX9_begin 91 = .ok (.aload_n 1, 1) := by decide +kernel
theorem dX9_begin_92 : decode cX9_begin 92 = .ok (.getfield 29, 3) := by decide +kernel
theorem dX9_begin_95 : decode cX9_begin 95 = .ok (.if_icmp .ge 69, 3) := by decide +kernel
theorem dX9_begin_98 : decode cX9_begin 98 = .ok (.aload_n 0, 1) := by decide +kernel
theorem dX9_begin_99 : decode cX9_begin 99 = .ok (.getfield 9, 3) := by decide +kernel
theorem dX9_begin_102 : decode cX9_begin 102 = .ok (.iload 4, 2) := by decide +kernel
theorem dX9_begin_104 : decode cX9_begin 104 = .ok (.bipush 6, 2) := by decide +kernel
theorem dX9_begin_106 : decode cX9_begin 106 = .ok (.imul, 1) := by decide +kernel
theorem dX9_begin_107 : decode cX9_begin 107 = .ok (.iload 5, 2) := by decide +kernel
theorem dX9_begin_109 : decode cX9_begin 109 = .ok (.iadd, 1) := by decide +kernel
theorem dX9_begin_110 : decode cX9_begin 110 = .ok (.iaload, 1) := by decide +kernel
theorem dX9_begin_111 : decode cX9_begin 111 = .ok (.istore 6, 2) := by decide +kernel
theorem dX9_begin_113 : decode cX9_begin 113 = .ok (.iload 6, 2) := by decide +kernel
theorem dX9_begin_115 : decode cX9_begin 115 = .ok (.ldc 28, 2) := by decide +kernel
theorem dX9_begin_117 : decode cX9_begin 117 = .ok (.if_icmp .ge 14, 3) := by decide +kernel
theorem dX9_begin_120 : decode cX9_begin 120 = .ok (.aload_n 0, 1) := by decide +kernel
theorem dX9_begin_121 : decode cX9_begin 121 = .ok (.aload_n 1, 1) := by decide +kernel
theorem dX9_begin_122 : decode cX9_begin 122 = .ok (.iload 4, 2) := by decide +kernel
theorem dX9_begin_124 : decode cX9_begin 124 = .ok (.iload 5, 2) := by decide +kernel
theorem dX9_begin_126 : decode cX9_begin 126 = .ok (.iload 6, 2) := by decide +kernel
theorem dX9_begin_128 : decode cX9_begin 128 = .ok (.invokevirtual 32, 3) := by decide +kernel
theorem dX9_begin_131 : decode cX9_begin 131 = .ok (.aload_n 0, 1) := by decide +kernel
theorem dX9_begin_132 : decode cX9_begin 132 = .ok (.getfield 15, 3) := by decide +kernel
theorem dX9_begin_135 : decode cX9_begin 135 = .ok (.iload 4, 2) := by decide +kernel
theorem dX9_begin_137 : decode cX9_begin 137 = .ok (.aload_n 0, 1) := by decide +kernel
theorem dX9_begin_138 : decode cX9_begin 138 = .ok (.getfield 15, 3) := by decide +kernel
theorem dX9_begin_141 : decode cX9_begin 141 = .ok (.iload 4, 2) := by decide +kernel
theorem dX9_begin_143 : decode cX9_begin 143 = .ok (.iaload, 1) := by decide +kernel
theorem dX9_begin_144 : decode cX9_begin 144 = .ok (.iload 6, 2) := by decide +kernel
theorem dX9_begin_146 : decode cX9_begin 146 = .ok (.aload_n 1, 1) := by decide +kernel
theorem dX9_begin_147 : decode cX9_begin 147 = .ok (.iload 5, 2) := by decide +kernel
theorem dX9_begin_149 : decode cX9_begin 149 = .ok (.iload_n 3, 1) := by decide +kernel
theorem dX9_begin_150 : decode cX9_begin 150 = .ok (.invokevirtual 36, 3) := by decide +kernel
theorem dX9_begin_153 : decode cX9_begin 153 = .ok (.iadd, 1) := by decide +kernel
theorem dX9_begin_154 : decode cX9_begin 154 = .ok (.invokestatic 40, 3) := by decide +kernel
theorem dX9_begin_157 : decode cX9_begin 157 = .ok (.iastore, 1) := by decide +kernel
theorem dX9_begin_158 : decode cX9_begin 158 = .ok (.iinc 5 1, 3) := by decide +kernel
theorem dX9_begin_161 : decode cX9_begin 161 = .ok (.goto (-72), 3) := by decide +kernel
theorem dX9_begin_164 : decode cX9_begin 164 = .ok (.iinc 4 1, 3) := by decide +kernel
theorem dX9_begin_167 : decode cX9_begin 167 = .ok (.goto (-101), 3) := by decide +kernel
theorem dX9_begin_170 : decode cX9_begin 170 = .ok (.return_, 1) := by decide +kernel
theorem dX9_goOn_0 : decode cX9_goOn 0 = .ok (.iconst 0, 1) := by decide +kernel
theorem dX9_goOn_1 : decode cX9_goOn 1 = .ok (.istore 5, 2) := by decide +kernel
theorem dX9_goOn_3 : decode cX9_goOn 3 = .ok (.iload 5, 2) := by decide +kernel
theorem dX9_goOn_5 : decode cX9_goOn 5 = .ok (.aload_n 1, 1) := by decide +kernel
theorem dX9_goOn_6 : decode cX9_goOn 6 = .ok (.getfield 29, 3) := by decide +kernel
theorem dX9_goOn_9 : decode cX9_goOn 9 = .ok (.if_icmp .ge 60, 3) := by decide +kernel
theorem dX9_goOn_12 : decode cX9_goOn 12 = .ok (.iload_n 2, 1) := by decide +kernel
theorem dX9_goOn_13 : decode cX9_goOn 13 = .ok (.iconst 1, 1) := by decide +kernel
theorem dX9_goOn_14 : decode cX9_goOn 14 = .ok (.iload 5, 2) := by decide +kernel
theorem dX9_goOn_16 : decode cX9_goOn 16 = .ok (.ishl, 1) := by decide +kernel
theorem dX9_goOn_17 : decode cX9_goOn 17 = .ok (.ior, 1) := by decide +kernel
theorem dX9_goOn_18 : decode cX9_goOn 18 = .ok (.istore 6, 2) := by decide +kernel
theorem dX9_goOn_20 : decode cX9_goOn 20 = .ok (.iload 6, 2) := by decide +kernel
theorem dX9_goOn_22 : decode cX9_goOn 22 = .ok (.iload_n 2, 1) := by decide +kernel
theorem dX9_goOn_23 : decode cX9_goOn 23 = .ok (.if_icmp .eq 40, 3) := by decide +kernel
theorem dX9_goOn_26 : decode cX9_goOn 26 = .ok (.iload 6, 2) := by decide +kernel
theorem dX9_goOn_28 : decode cX9_goOn 28 = .ok (.bipush 6, 2) := by decide +kernel
theorem dX9_goOn_30 : decode cX9_goOn 30 = .ok (.imul, 1) := by decide +kernel
theorem dX9_goOn_31 : decode cX9_goOn 31 = .ok (.iload 5, 2) := by decide +kernel
theorem dX9_goOn_33 : decode cX9_goOn 33 = .ok (.iadd, 1) := by decide +kernel
theorem dX9_goOn_34 : decode cX9_goOn 34 = .ok (.istore 7, 2) := by decide +kernel
theorem dX9_goOn_36 : decode cX9_goOn 36 = .ok (.aload_n 0, 1) := by decide +kernel
theorem dX9_goOn_37 : decode cX9_goOn 37 = .ok (.getfield 9, 3) := by decide +kernel
theorem dX9_goOn_40 : decode cX9_goOn 40 = .ok (.iload 7, 2) := by decide +kernel
theorem dX9_goOn_42 : decode cX9_goOn 42 = .ok (.aload_n 0, 1) := by decide +kernel
theorem dX9_goOn_43 : decode cX9_goOn 43 = .ok (.getfield 9, 3) := by decide +kernel
theorem dX9_goOn_46 : decode cX9_goOn 46 = .ok (.iload 7, 2) := by decide +kernel
theorem dX9_goOn_48 : decode cX9_goOn 48 = .ok (.iaload, 1) := by decide +kernel
theorem dX9_goOn_49 : decode cX9_goOn 49 = .ok (.iload 4, 2) := by decide +kernel
theorem dX9_goOn_51 : decode cX9_goOn 51 = .ok (.aload_n 1, 1) := by decide +kernel
theorem dX9_goOn_52 : decode cX9_goOn 52 = .ok (.iload_n 3, 1) := by decide +kernel
theorem dX9_goOn_53 : decode cX9_goOn 53 = .ok (.iload 5, 2) := by decide +kernel
theorem dX9_goOn_55 : decode cX9_goOn 55 = .ok (.invokevirtual 36, 3) := by decide +kernel
theorem dX9_goOn_58 : decode cX9_goOn 58 = .ok (.iadd, 1) := by decide +kernel
theorem dX9_goOn_59 : decode cX9_goOn 59 = .ok (.invokestatic 40, 3) := by decide +kernel
theorem dX9_goOn_62 : decode cX9_goOn 62 = .ok (.iastore, 1) := by decide +kernel
theorem dX9_goOn_63 : decode cX9_goOn 63 = .ok (.iinc 5 1, 3) := by decide +kernel
theorem dX9_goOn_66 : decode cX9_goOn 66 = .ok (.goto (-63), 3) := by decide +kernel
theorem dX9_goOn_69 : decode cX9_goOn 69 = .ok (.return_, 1) := by decide +kernel
theorem dX9_by_0 : decode cX9_by 0 = .ok (.iload_n 1, 1) := by decide +kernel
theorem dX9_by_1 : decode cX9_by 1 = .ok (.iconst 1, 1) := by decide +kernel
theorem dX9_by_2 : decode cX9_by 2 = .ok (.aload_n 0, 1) := by decide +kernel
theorem dX9_by_3 : decode cX9_by 3 = .ok (.getfield 24, 3) := by decide +kernel
theorem dX9_by_6 : decode cX9_by 6 = .ok (.ishl, 1) := by decide +kernel
theorem dX9_by_7 : decode cX9_by 7 = .ok (.ior, 1) := by decide +kernel
theorem dX9_by_8 : decode cX9_by 8 = .ok (.istore_n 2, 1) := by decide +kernel
theorem dX9_by_9 : decode cX9_by 9 = .ok (.iload_n 2, 1) := by decide +kernel
theorem dX9_by_10 : decode cX9_by 10 = .ok (.ifCond .lt 18, 3) := by decide +kernel
theorem dX9_by_13 : decode cX9_by 13 = .ok (.iload_n 2, 1) := by decide +kernel
theorem dX9_by_14 : decode cX9_by 14 = .ok (.bipush 64, 2) := by decide +kernel
theorem dX9_by_16 : decode cX9_by 16 = .ok (.if_icmp .ge 12, 3) := by decide +kernel
theorem dX9_by_19 : decode cX9_by 19 = .ok (.aload_n 0, 1) := by decide +kernel
theorem dX9_by_20 : decode cX9_by 20 = .ok (.getfield 15, 3) := by decide +kernel
theorem dX9_by_23 : decode cX9_by 23 = .ok (.iload_n 2, 1) := by decide +kernel
theorem dX9_by_24 : decode cX9_by 24 = .ok (.iaload, 1) := by decide +kernel
theorem dX9_by_25 : decode cX9_by 25 = .ok (.goto 5, 3) := by decide +kernel
theorem dX9_by_28 : decode cX9_by 28 = .ok (.ldc 28, 2) := by decide +kernel
theorem dX9_by_30 : decode cX9_by 30 = .ok (.ireturn, 1) := by decide +kernel
theorem dX10_init_0 : decode cX10_init 0 = .ok (.aload_n 0, 1) := by decide +kernel
theorem dX10_init_1 : decode cX10_init 1 = .ok (.invokespecial 3, 3) := by decide +kernel
theorem dX10_init_4 : decode cX10_init 4 = .ok (.return_, 1) := by decide +kernel
theorem dX10_begin_0 : decode cX10_begin 0 = .ok (.aload_n 0, 1) := by decide +kernel
theorem dX10_begin_1 : decode cX10_begin 1 = .ok (.aload_n 1, 1) := by decide +kernel
theorem dX10_begin_2 : decode cX10_begin 2 = .ok (.putfield 9, 3) := by decide +kernel
theorem dX10_begin_5 : decode cX10_begin 5 = .ok (.return_, 1) := by decide +kernel
theorem dX10_share_0 : decode cX10_share 0 = .ok (.iload_n 1, 1) := by decide +kernel
theorem dX10_share_1 : decode cX10_share 1 = .ok (.ifCond .ne 10, 3) := by decide +kernel
theorem dX10_share_4 : decode cX10_share 4 = .ok (.iload_n 0, 1) := by decide +kernel
theorem dX10_share_5 : decode cX10_share 5 = .ok (.bipush 8, 2) := by decide +kernel
theorem dX10_share_7 : decode cX10_share 7 = .ok (.ishr, 1) := by decide +kernel
theorem dX10_share_8 : decode cX10_share 8 = .ok (.goto 8, 3) := by decide +kernel
theorem dX10_share_11 : decode cX10_share 11 = .ok (.iload_n 0, 1) := by decide +kernel
theorem dX10_share_12 : decode cX10_share 12 = .ok (.sipush 255, 3) := by decide +kernel
theorem dX10_share_15 : decode cX10_share 15 = .ok (.iand, 1) := by decide +kernel
theorem dX10_share_16 : decode cX10_share 16 = .ok (.ireturn, 1) := by decide +kernel
theorem dX10_homeward_0 : decode cX10_homeward 0 = .ok (.iload_n 1, 1) := by decide +kernel
theorem dX10_homeward_1 : decode cX10_homeward 1 = .ok (.iconst (-1), 1) := by decide +kernel
theorem dX10_homeward_2 : decode cX10_homeward 2 = .ok (.if_icmp .eq 10, 3) := by decide +kernel
theorem dX10_homeward_5 : decode cX10_homeward 5 = .ok (.aload_n 0, 1) := by decide +kernel
theorem dX10_homeward_6 : decode cX10_homeward 6 = .ok (.getfield 9, 3) := by decide +kernel
theorem dX10_homeward_9 : decode cX10_homeward 9 = .ok (.ifnonnull 7, 3) := by decide +kernel
theorem dX10_homeward_12 : decode cX10_homeward 12 = .ok (.iconst 0, 1) := by decide +kernel
theorem dX10_homeward_13 : decode cX10_homeward 13 = .ok (.goto 12, 3) := by decide +kernel
theorem dX10_homeward_16 : decode cX10_homeward 16 = .ok (.aload_n 0, 1) := by decide +kernel
theorem dX10_homeward_17 : decode cX10_homeward 17 = .ok (.getfield 9, 3) := by decide +kernel
theorem dX10_homeward_20 : decode cX10_homeward 20 = .ok (.iload_n 1, 1) := by decide +kernel
theorem dX10_homeward_21 : decode cX10_homeward 21 = .ok (.iconst 0, 1) := by decide +kernel
theorem dX10_homeward_22 : decode cX10_homeward 22 = .ok (.invokevirtual 15, 3) := by decide +kernel
theorem dX10_homeward_25 : decode cX10_homeward 25 = .ok (.ireturn, 1) := by decide +kernel
theorem dX10_play_0 : decode cX10_play 0 = .ok (.iload_n 1, 1) := by decide +kernel
theorem dX10_play_1 : decode cX10_play 1 = .ok (.bipush 7, 2) := by decide +kernel
theorem dX10_play_3 : decode cX10_play 3 = .ok (.if_icmp .ge 10, 3) := by decide +kernel
theorem dX10_play_6 : decode cX10_play 6 = .ok (.aload_n 0, 1) := by decide +kernel
theorem dX10_play_7 : decode cX10_play 7 = .ok (.getfield 9, 3) := by decide +kernel
theorem dX10_play_10 : decode cX10_play 10 = .ok (.ifnonnull 5, 3) := by decide +kernel
theorem dX10_play_13 : decode cX10_play 13 = .ok (.iconst 0, 1) := by decide +kernel
theorem dX10_play_14 : decode cX10_play 14 = .ok (.ireturn, 1) := by decide +kernel
theorem dX10_play_15 : decode cX10_play 15 = .ok (.iload_n 2, 1) := by decide +kernel
theorem dX10_play_16 : decode cX10_play 16 = .ok (.ifCond .ne 8, 3) := by decide +kernel
theorem dX10_play_19 : decode cX10_play 19 = .ok (.iload 4, 2) := by decide +kernel
theorem dX10_play_21 : decode cX10_play 21 = .ok (.goto 5, 3) := by decide +kernel
theorem dX10_play_24 : decode cX10_play 24 = .ok (.iload 5, 2) := by decide +kernel
theorem dX10_play_26 : decode cX10_play 26 = .ok (.istore 7, 2) := by decide +kernel
theorem dX10_play_28 : decode cX10_play 28 = .ok (.iload_n 2, 1) := by decide +kernel
theorem dX10_play_29 : decode cX10_play 29 = .ok (.ifCond .ne 8, 3) := by decide +kernel
theorem dX10_play_32 : decode cX10_play 32 = .ok (.iload 5, 2) := by decide +kernel
theorem dX10_play_34 : decode cX10_play 34 = .ok (.goto 5, 3) := by decide +kernel
theorem dX10_play_37 : decode cX10_play 37 = .ok (.iload 4, 2) := by decide +kernel
theorem dX10_play_39 : decode cX10_play 39 = .ok (.istore 8, 2) := by decide +kernel
theorem dX10_play_41 : decode cX10_play 41 = .ok (.iload 8, 2) := by decide +kernel
theorem dX10_play_43 : decode cX10_play 43 = .ok (.iconst (-1), 1) := by decide +kernel
theorem dX10_play_44 : decode cX10_play 44 = .ok (.if_icmp .ne 7, 3) := by decide +kernel
theorem dX10_play_47 : decode cX10_play 47 = .ok (.iload_n 2, 1) := by decide +kernel
theorem dX10_play_48 : decode cX10_play 48 = .ok (.goto 6, 3) := by decide +kernel
theorem dX10_play_51 : decode cX10_play 51 = .ok (.iconst 1, 1) := by decide +kernel
theorem dX10_play_52 : decode cX10_play 52 = .ok (.iload_n 2, 1) := by decide +kernel
theorem dX10_play_53 : decode cX10_play 53 = .ok (.isub, 1) := by decide +kernel
theorem dX10_play_54 : decode cX10_play 54 = .ok (.istore 9, 2) := by decide +kernel
theorem dX10_play_56 : decode cX10_play 56 = .ok (.iconst 0, 1) := by decide +kernel
theorem dX10_play_57 : decode cX10_play 57 = .ok (.istore 10, 2) := by decide +kernel
theorem dX10_play_59 : decode cX10_play 59 = .ok (.iload 8, 2) := by decide +kernel
theorem dX10_play_61 : decode cX10_play 61 = .ok (.iconst (-1), 1) := by decide +kernel
theorem dX10_play_62 : decode cX10_play 62 = .ok (.if_icmp .eq 53, 3) := by decide +kernel
theorem dX10_play_65 : decode cX10_play 65 = .ok (.iload 6, 2) := by decide +kernel
theorem dX10_play_67 : decode cX10_play 67 = .ok (.aload_n 0, 1) := by decide +kernel
theorem dX10_play_68 : decode cX10_play 68 = .ok (.iload 7, 2) := by decide +kernel
theorem dX10_play_70 : decode cX10_play 70 = .ok (.invokevirtual 21, 3) := by decide +kernel
theorem dX10_play_73 : decode cX10_play 73 = .ok (.isub, 1) := by decide +kernel
theorem dX10_play_74 : decode cX10_play 74 = .ok (.istore 11, 2) := by decide +kernel
theorem dX10_play_76 : decode cX10_play 76 = .ok (.iload_n 2, 1) := by decide +kernel
theorem dX10_play_77 : decode cX10_play 77 = .ok (.ifCond .ne 21, 3) := by decide +kernel
theorem dX10_play_80 : decode cX10_play 80 = .ok (.aload_n 0, 1) := by decide +kernel
theorem dX10_play_81 : decode cX10_play 81 = .ok (.iload_n 1, 1) := by decide +kernel
theorem dX10_play_82 : decode cX10_play 82 = .ok (.iconst 1, 1) := by decide +kernel
theorem dX10_play_83 : decode cX10_play 83 = .ok (.iadd, 1) := by decide +kernel
theorem dX10_play_84 : decode cX10_play 84 = .ok (.iload 9, 2) := by decide +kernel
theorem dX10_play_86 : decode cX10_play 86 = .ok (.iload_n 3, 1) := by decide +kernel
theorem dX10_play_87 : decode cX10_play 87 = .ok (.iconst (-1), 1) := by decide +kernel
theorem dX10_play_88 : decode cX10_play 88 = .ok (.iload 5, 2) := by decide +kernel
theorem dX10_play_90 : decode cX10_play 90 = .ok (.iload 11, 2) := by decide +kernel
theorem dX10_play_92 : decode cX10_play 92 = .ok (.invokestatic 25, 3) := by decide +kernel
theorem dX10_play_95 : decode cX10_play 95 = .ok (.goto 18, 3) := by decide +kernel
theorem dX10_play_98 : decode cX10_play 98 = .ok (.aload_n 0, 1) := by decide +kernel
theorem dX10_play_99 : decode cX10_play 99 = .ok (.iload_n 1, 1) := by decide +kernel
theorem dX10_play_100 : decode cX10_play 100 = .ok (.iconst 1, 1) := by decide +kernel
theorem dX10_play_101 : decode cX10_play 101 = .ok (.iadd, 1) := by decide +kernel
theorem dX10_play_102 : decode cX10_play 102 = .ok (.iload 9, 2) := by decide +kernel
theorem dX10_play_104 : decode cX10_play 104 = .ok (.iload_n 3, 1) := by decide +kernel
theorem dX10_play_105 : decode cX10_play 105 = .ok (.iload 4, 2) := by decide +kernel
theorem dX10_play_107 : decode cX10_play 107 = .ok (.iconst (-1), 1) := by decide +kernel
theorem dX10_play_108 : decode cX10_play 108 = .ok (.iload 11, 2) := by decide +kernel
theorem dX10_play_110 : decode cX10_play 110 = .ok (.invokestatic 25, 3) := by decide +kernel
theorem dX10_play_113 : decode cX10_play 113 = .ok (.istore 10, 2) := by decide +kernel
theorem dX10_play_115 : decode cX10_play 115 = .ok (.iconst 0, 1) := by decide +kernel
theorem dX10_play_116 : decode cX10_play 116 = .ok (.istore 11, 2) := by decide +kernel
theorem dX10_play_118 : decode cX10_play 118 = .ok (.iload 11, 2) := by decide +kernel
theorem dX10_play_120 : decode cX10_play 120 = .ok (.bipush 6, 2) := by decide +kernel
theorem dX10_play_122 : decode cX10_play 122 = .ok (.if_icmp .ge 182, 3) := by decide +kernel
theorem dX10_play_125 : decode cX10_play 125 = .ok (.iload_n 3, 1) := by decide +kernel
theorem dX10_play_126 : decode cX10_play 126 = .ok (.iload 11, 2) := by decide +kernel
theorem dX10_play_128 : decode cX10_play 128 = .ok (.ishr, 1) := by decide +kernel
theorem dX10_play_129 : decode cX10_play 129 = .ok (.iconst 1, 1) := by decide +kernel
theorem dX10_play_130 : decode cX10_play 130 = .ok (.iand, 1) := by decide +kernel
theorem dX10_play_131 : decode cX10_play 131 = .ok (.iconst 1, 1) := by decide +kernel
theorem dX10_play_132 : decode cX10_play 132 = .ok (.if_icmp .ne 166, 3) := by decide +kernel
theorem dX10_play_135 : decode cX10_play 135 = .ok (.aload_n 0, 1) := by decide +kernel
theorem dX10_play_136 : decode cX10_play 136 = .ok (.getfield 9, 3) := by decide +kernel
theorem dX10_play_139 : decode cX10_play 139 = .ok (.iload_n 2, 1) := by decide +kernel
theorem dX10_play_140 : decode cX10_play 140 = .ok (.iload 11, 2) := by decide +kernel
theorem dX10_play_142 : decode cX10_play 142 = .ok (.invokevirtual 29, 3) := by decide +kernel
theorem dX10_play_145 : decode cX10_play 145 = .ok (.ifCond .eq 153, 3) := by decide +kernel
theorem dX10_play_148 : decode cX10_play 148 = .ok (.aload_n 0, 1) := by decide +kernel
theorem dX10_play_149 : decode cX10_play 149 = .ok (.getfield 9, 3) := by decide +kernel
theorem dX10_play_152 : decode cX10_play 152 = .ok (.iload 11, 2) := by decide +kernel
theorem dX10_play_154 : decode cX10_play 154 = .ok (.invokevirtual 33, 3) := by decide +kernel
theorem dX10_play_157 : decode cX10_play 157 = .ok (.istore 12, 2) := by decide +kernel
theorem dX10_play_159 : decode cX10_play 159 = .ok (.iload 6, 2) := by decide +kernel
theorem dX10_play_161 : decode cX10_play 161 = .ok (.aload_n 0, 1) := by decide +kernel
theorem dX10_play_162 : decode cX10_play 162 = .ok (.getfield 9, 3) := by decide +kernel
theorem dX10_play_165 : decode cX10_play 165 = .ok (.iload 7, 2) := by decide +kernel
theorem dX10_play_167 : decode cX10_play 167 = .ok (.iload 12, 2) := by decide +kernel
theorem dX10_play_169 : decode cX10_play 169 = .ok (.invokevirtual 15, 3) := by decide +kernel
theorem dX10_play_172 : decode cX10_play 172 = .ok (.isub, 1) := by decide +kernel
theorem dX10_play_173 : decode cX10_play 173 = .ok (.istore 13, 2) := by decide +kernel
theorem dX10_play_175 : decode cX10_play 175 = .ok (.aload_n 0, 1) := by decide +kernel
theorem dX10_play_176 : decode cX10_play 176 = .ok (.iload 12, 2) := by decide +kernel
theorem dX10_play_178 : decode cX10_play 178 = .ok (.invokevirtual 21, 3) := by decide +kernel
theorem dX10_play_181 : decode cX10_play 181 = .ok (.aload_n 0, 1) := by decide +kernel
theorem dX10_play_182 : decode cX10_play 182 = .ok (.iload 8, 2) := by decide +kernel
theorem dX10_play_184 : decode cX10_play 184 = .ok (.invokevirtual 21, 3) := by decide +kernel
theorem dX10_play_187 : decode cX10_play 187 = .ok (.iadd, 1) := by decide +kernel
theorem dX10_play_188 : decode cX10_play 188 = .ok (.iload 13, 2) := by decide +kernel
theorem dX10_play_190 : decode cX10_play 190 = .ok (.if_icmp .gt 108, 3) := by decide +kernel
theorem dX10_play_193 : decode cX10_play 193 = .ok (.iload_n 3, 1) := by decide +kernel
theorem dX10_play_194 : decode cX10_play 194 = .ok (.iconst 1, 1) := by decide +kernel
theorem dX10_play_195 : decode cX10_play 195 = .ok (.iload 11, 2) := by decide +kernel
theorem dX10_play_197 : decode cX10_play 197 = .ok (.ishl, 1) := by decide +kernel
theorem dX10_play_198 : decode cX10_play 198 = .ok (.iconst (-1), 1) := by decide +kernel
theorem dX10_play_199 : decode cX10_play 199 = .ok (.ixor, 1) := by decide +kernel
theorem dX10_play_200 : decode cX10_play 200 = .ok (.iand, 1) := by decide +kernel
theorem dX10_play_201 : decode cX10_play 201 = .ok (.istore 14, 2) := by decide +kernel
theorem dX10_play_203 : decode cX10_play 203 = .ok (.iload_n 2, 1) := by decide +kernel
theorem dX10_play_204 : decode cX10_play 204 = .ok (.ifCond .ne 23, 3) := by decide +kernel
theorem dX10_play_207 : decode cX10_play 207 = .ok (.aload_n 0, 1) := by decide +kernel
theorem dX10_play_208 : decode cX10_play 208 = .ok (.iload_n 1, 1) := by decide +kernel
theorem dX10_play_209 : decode cX10_play 209 = .ok (.iconst 1, 1) := by decide +kernel
theorem dX10_play_210 : decode cX10_play 210 = .ok (.iadd, 1) := by decide +kernel
theorem dX10_play_211 : decode cX10_play 211 = .ok (.iload 9, 2) := by decide +kernel
theorem dX10_play_213 : decode cX10_play 213 = .ok (.iload 14, 2) := by decide +kernel
theorem dX10_play_215 : decode cX10_play 215 = .ok (.iload 12, 2) := by decide +kernel
theorem dX10_play_217 : decode cX10_play 217 = .ok (.iload 5, 2) := by decide +kernel
theorem dX10_play_219 : decode cX10_play 219 = .ok (.iload 13, 2) := by decide +kernel
theorem dX10_play_221 : decode cX10_play 221 = .ok (.invokestatic 25, 3) := by decide +kernel
theorem dX10_play_224 : decode cX10_play 224 = .ok (.goto 20, 3) := by decide +kernel
theorem dX10_play_227 : decode cX10_play 227 = .ok (.aload_n 0, 1) := by decide +kernel
theorem dX10_play_228 : decode cX10_play 228 = .ok (.iload_n 1, 1) := by decide +kernel
theorem dX10_play_229 : decode cX10_play 229 = .ok (.iconst 1, 1) := by decide +kernel
theorem dX10_play_230 : decode cX10_play 230 = .ok (.iadd, 1) := by decide +kernel
theorem dX10_play_231 : decode cX10_play 231 = .ok (.iload 9, 2) := by decide +kernel
theorem dX10_play_233 : decode cX10_play 233 = .ok (.iload 14, 2) := by decide +kernel
theorem dX10_play_235 : decode cX10_play 235 = .ok (.iload 4, 2) := by decide +kernel
theorem dX10_play_237 : decode cX10_play 237 = .ok (.iload 12, 2) := by decide +kernel
theorem dX10_play_239 : decode cX10_play 239 = .ok (.iload 13, 2) := by decide +kernel
theorem dX10_play_241 : decode cX10_play 241 = .ok (.invokestatic 25, 3) := by decide +kernel
theorem dX10_play_244 : decode cX10_play 244 = .ok (.istore 15, 2) := by decide +kernel
theorem dX10_play_246 : decode cX10_play 246 = .ok (.iload 15, 2) := by decide +kernel
theorem dX10_play_248 : decode cX10_play 248 = .ok (.iload_n 2, 1) := by decide +kernel
theorem dX10_play_249 : decode cX10_play 249 = .ok (.ifCond .ne 18, 3) := by decide +kernel
theorem dX10_play_252 : decode cX10_play 252 = .ok (.aload_n 0, 1) := by decide +kernel
theorem dX10_play_253 : decode cX10_play 253 = .ok (.getfield 9, 3) := by decide +kernel
theorem dX10_play_256 : decode cX10_play 256 = .ok (.iload 11, 2) := by decide +kernel
theorem dX10_play_258 : decode cX10_play 258 = .ok (.invokevirtual 36, 3) := by decide +kernel
theorem dX10_play_261 : decode cX10_play 261 = .ok (.bipush 8, 2) := by decide +kernel
theorem dX10_play_263 : decode cX10_play 263 = .ok (.ishl, 1) := by decide +kernel
theorem dX10_play_264 : decode cX10_play 264 = .ok (.goto 12, 3) := by decide +kernel
theorem dX10_play_267 : decode cX10_play 267 = .ok (.aload_n 0, 1) := by decide +kernel
theorem dX10_play_268 : decode cX10_play 268 = .ok (.getfield 9, 3) := by decide +kernel
theorem dX10_play_271 : decode cX10_play 271 = .ok (.iload 11, 2) := by decide +kernel
theorem dX10_play_273 : decode cX10_play 273 = .ok (.invokevirtual 36, 3) := by decide +kernel
theorem dX10_play_276 : decode cX10_play 276 = .ok (.iadd, 1) := by decide +kernel
theorem dX10_play_277 : decode cX10_play 277 = .ok (.istore 15, 2) := by decide +kernel
theorem dX10_play_279 : decode cX10_play 279 = .ok (.iload 15, 2) := by decide +kernel
theorem dX10_play_281 : decode cX10_play 281 = .ok (.iload_n 2, 1) := by decide +kernel
theorem dX10_play_282 : decode cX10_play 282 = .ok (.invokestatic 39, 3) := by decide +kernel
theorem dX10_play_285 : decode cX10_play 285 = .ok (.iload 10, 2) := by decide +kernel
theorem dX10_play_287 : decode cX10_play 287 = .ok (.iload_n 2, 1) := by decide +kernel
theorem dX10_play_288 : decode cX10_play 288 = .ok (.invokestatic 39, 3) := by decide +kernel
theorem dX10_play_291 : decode cX10_play 291 = .ok (.if_icmp .le 7, 3) := by decide +kernel
theorem dX10_play_294 : decode cX10_play 294 = .ok (.iload 15, 2) := by decide +kernel
theorem dX10_play_296 : decode cX10_play 296 = .ok (.istore 10, 2) := by decide +kernel
theorem dX10_play_298 : decode cX10_play 298 = .ok (.iinc 11 1, 3) := by decide +kernel
theorem dX10_play_301 : decode cX10_play 301 = .ok (.goto (-183), 3) := by decide +kernel
theorem dX10_play_304 : decode cX10_play 304 = .ok (.iload 10, 2) := by decide +kernel
theorem dX10_play_306 : decode cX10_play 306 = .ok (.ireturn, 1) := by decide +kernel
theorem dX11_init_0 : decode cX11_init 0 = .ok (.aload_n 0, 1) := by decide +kernel
theorem dX11_init_1 : decode cX11_init 1 = .ok (.invokespecial 1, 3) := by decide +kernel
theorem dX11_init_4 : decode cX11_init 4 = .ok (.aload_n 0, 1) := by decide +kernel
theorem dX11_init_5 : decode cX11_init 5 = .ok (.new 7, 3) := by decide +kernel
theorem dX11_init_8 : decode cX11_init 8 = .ok (.dup, 1) := by decide +kernel
theorem dX11_init_9 : decode cX11_init 9 = .ok (.invokespecial 9, 3) := by decide +kernel
theorem dX11_init_12 : decode cX11_init 12 = .ok (.putfield 10, 3) := by decide +kernel
theorem dX11_init_15 : decode cX11_init 15 = .ok (.aload_n 0, 1) := by decide +kernel
theorem dX11_init_16 : decode cX11_init 16 = .ok (.new 16, 3) := by decide +kernel
theorem dX11_init_19 : decode cX11_init 19 = .ok (.dup, 1) := by decide +kernel
theorem dX11_init_20 : decode cX11_init 20 = .ok (.invokespecial 18, 3) := by decide +kernel
theorem dX11_init_23 : decode cX11_init 23 = .ok (.putfield 19, 3) := by decide +kernel
theorem dX11_init_26 : decode cX11_init 26 = .ok (.aload_n 0, 1) := by decide +kernel
theorem dX11_init_27 : decode cX11_init 27 = .ok (.new 23, 3) := by decide +kernel
theorem dX11_init_30 : decode cX11_init 30 = .ok (.dup, 1) := by decide +kernel
theorem dX11_init_31 : decode cX11_init 31 = .ok (.invokespecial 25, 3) := by decide +kernel
theorem dX11_init_34 : decode cX11_init 34 = .ok (.putfield 26, 3) := by decide +kernel
theorem dX11_init_37 : decode cX11_init 37 = .ok (.aload_n 0, 1) := by decide +kernel
theorem dX11_init_38 : decode cX11_init 38 = .ok (.new 30, 3) := by decide +kernel
theorem dX11_init_41 : decode cX11_init 41 = .ok (.dup, 1) := by decide +kernel
theorem dX11_init_42 : decode cX11_init 42 = .ok (.invokespecial 32, 3) := by decide +kernel
theorem dX11_init_45 : decode cX11_init 45 = .ok (.putfield 33, 3) := by decide +kernel
theorem dX11_init_48 : decode cX11_init 48 = .ok (.aload_n 0, 1) := by decide +kernel
theorem dX11_init_49 : decode cX11_init 49 = .ok (.new 37, 3) := by decide +kernel
theorem dX11_init_52 : decode cX11_init 52 = .ok (.dup, 1) := by decide +kernel
theorem dX11_init_53 : decode cX11_init 53 = .ok (.invokespecial 39, 3) := by decide +kernel
theorem dX11_init_56 : decode cX11_init 56 = .ok (.putfield 40, 3) := by decide +kernel
theorem dX11_init_59 : decode cX11_init 59 = .ok (.aload_n 0, 1) := by decide +kernel
theorem dX11_init_60 : decode cX11_init 60 = .ok (.new 44, 3) := by decide +kernel
theorem dX11_init_63 : decode cX11_init 63 = .ok (.dup, 1) := by decide +kernel
theorem dX11_init_64 : decode cX11_init 64 = .ok (.invokespecial 46, 3) := by decide +kernel
theorem dX11_init_67 : decode cX11_init 67 = .ok (.putfield 47, 3) := by decide +kernel
theorem dX11_init_70 : decode cX11_init 70 = .ok (.aload_n 0, 1) := by decide +kernel
theorem dX11_init_71 : decode cX11_init 71 = .ok (.new 51, 3) := by decide +kernel
theorem dX11_init_74 : decode cX11_init 74 = .ok (.dup, 1) := by decide +kernel
theorem dX11_init_75 : decode cX11_init 75 = .ok (.invokespecial 53, 3) := by decide +kernel
theorem dX11_init_78 : decode cX11_init 78 = .ok (.putfield 54, 3) := by decide +kernel
theorem dX11_init_81 : decode cX11_init 81 = .ok (.aload_n 0, 1) := by decide +kernel
theorem dX11_init_82 : decode cX11_init 82 = .ok (.new 58, 3) := by decide +kernel
theorem dX11_init_85 : decode cX11_init 85 = .ok (.dup, 1) := by decide +kernel
theorem dX11_init_86 : decode cX11_init 86 = .ok (.invokespecial 60, 3) := by decide +kernel
theorem dX11_init_89 : decode cX11_init 89 = .ok (.putfield 61, 3) := by decide +kernel
theorem dX11_init_92 : decode cX11_init 92 = .ok (.aload_n 0, 1) := by decide +kernel
theorem dX11_init_93 : decode cX11_init 93 = .ok (.new 65, 3) := by decide +kernel
theorem dX11_init_96 : decode cX11_init 96 = .ok (.dup, 1) := by decide +kernel
theorem dX11_init_97 : decode cX11_init 97 = .ok (.invokespecial 67, 3) := by decide +kernel
theorem dX11_init_100 : decode cX11_init 100 = .ok (.putfield 68, 3) := by decide +kernel
theorem dX11_init_103 : decode cX11_init 103 = .ok (.aload_n 0, 1) := by decide +kernel
theorem dX11_init_104 : decode cX11_init 104 = .ok (.bipush 8, 2) := by decide +kernel
theorem dX11_init_106 : decode cX11_init 106 = .ok (.newarray .int, 2) := by decide +kernel
theorem dX11_init_108 : decode cX11_init 108 = .ok (.putfield 72, 3) := by decide +kernel
theorem dX11_init_111 : decode cX11_init 111 = .ok (.aload_n 0, 1) := by decide +kernel
theorem dX11_init_112 : decode cX11_init 112 = .ok (.new 76, 3) := by decide +kernel
theorem dX11_init_115 : decode cX11_init 115 = .ok (.dup, 1) := by decide +kernel
theorem dX11_init_116 : decode cX11_init 116 = .ok (.invokespecial 78, 3) := by decide +kernel
theorem dX11_init_119 : decode cX11_init 119 = .ok (.putfield 79, 3) := by decide +kernel
theorem dX11_init_122 : decode cX11_init 122 = .ok (.aload_n 0, 1) := by decide +kernel
theorem dX11_init_123 : decode cX11_init 123 = .ok (.new 76, 3) := by decide +kernel
theorem dX11_init_126 : decode cX11_init 126 = .ok (.dup, 1) := by decide +kernel
theorem dX11_init_127 : decode cX11_init 127 = .ok (.invokespecial 78, 3) := by decide +kernel
theorem dX11_init_130 : decode cX11_init 130 = .ok (.putfield 83, 3) := by decide +kernel
theorem dX11_init_133 : decode cX11_init 133 = .ok (.return_, 1) := by decide +kernel
theorem dX11_write_0 : decode cX11_write 0 = .ok (.iload_n 1, 1) := by decide +kernel
theorem dX11_write_1 : decode cX11_write 1 = .ok (.iconst 1, 1) := by decide +kernel
theorem dX11_write_2 : decode cX11_write 2 = .ok (.if_icmp .lt 9, 3) := by decide +kernel
theorem dX11_write_5 : decode cX11_write 5 = .ok (.iload_n 1, 1) := by decide +kernel
theorem dX11_write_6 : decode cX11_write 6 = .ok (.bipush 8, 2) := by decide +kernel
theorem dX11_write_8 : decode cX11_write 8 = .ok (.if_icmp .le 6, 3) := by decide +kernel
theorem dX11_write_11 : decode cX11_write 11 = .ok (.bipush (-2), 2) := by decide +kernel
theorem dX11_write_13 : decode cX11_write 13 = .ok (.ireturn, 1) := by decide +kernel
theorem dX11_write_14 : decode cX11_write 14 = .ok (.aload_n 0, 1) := by decide +kernel
theorem dX11_write_15 : decode cX11_write 15 = .ok (.getfield 10, 3) := by decide +kernel
theorem dX11_write_18 : decode cX11_write 18 = .ok (.invokevirtual 86, 3) := by decide +kernel
theorem dX11_write_21 : decode cX11_write 21 = .ok (.iload_n 1, 1) := by decide +kernel
theorem dX11_write_22 : decode cX11_write 22 = .ok (.iadd, 1) := by decide +kernel
theorem dX11_write_23 : decode cX11_write 23 = .ok (.bipush 80, 2) := by decide +kernel
theorem dX11_write_25 : decode cX11_write 25 = .ok (.if_icmp .le 6, 3) := by decide +kernel
theorem dX11_write_28 : decode cX11_write 28 = .ok (.bipush (-4), 2) := by decide +kernel
theorem dX11_write_30 : decode cX11_write 30 = .ok (.ireturn, 1) := by decide +kernel
theorem dX11_write_31 : decode cX11_write 31 = .ok (.aload_n 0, 1) := by decide +kernel
theorem dX11_write_32 : decode cX11_write 32 = .ok (.getfield 10, 3) := by decide +kernel
theorem dX11_write_35 : decode cX11_write 35 = .ok (.iload_n 1, 1) := by decide +kernel
theorem dX11_write_36 : decode cX11_write 36 = .ok (.lload_n 2, 1) := by decide +kernel
theorem dX11_write_37 : decode cX11_write 37 = .ok (.invokevirtual 90, 3) := by decide +kernel
theorem dX11_write_40 : decode cX11_write 40 = .ok (.aload_n 0, 1) := by decide +kernel
theorem dX11_write_41 : decode cX11_write 41 = .ok (.getfield 10, 3) := by decide +kernel
theorem dX11_write_44 : decode cX11_write 44 = .ok (.invokevirtual 86, 3) := by decide +kernel
theorem dX11_write_47 : decode cX11_write 47 = .ok (.ireturn, 1) := by decide +kernel
theorem dX11_wipe_0 : decode cX11_wipe 0 = .ok (.aload_n 0, 1) := by decide +kernel
theorem dX11_wipe_1 : decode cX11_wipe 1 = .ok (.getfield 10, 3) := by decide +kernel
theorem dX11_wipe_4 : decode cX11_wipe 4 = .ok (.invokevirtual 86, 3) := by decide +kernel
theorem dX11_wipe_7 : decode cX11_wipe 7 = .ok (.istore_n 1, 1) := by decide +kernel
theorem dX11_wipe_8 : decode cX11_wipe 8 = .ok (.aload_n 0, 1) := by decide +kernel
theorem dX11_wipe_9 : decode cX11_wipe 9 = .ok (.getfield 10, 3) := by decide +kernel
theorem dX11_wipe_12 : decode cX11_wipe 12 = .ok (.invokevirtual 94, 3) := by decide +kernel
theorem dX11_wipe_15 : decode cX11_wipe 15 = .ok (.iload_n 1, 1) := by decide +kernel
theorem dX11_wipe_16 : decode cX11_wipe 16 = .ok (.ireturn, 1) := by decide +kernel
theorem dX11_fault_0 : decode cX11_fault 0 = .ok (.aload_n 0, 1) := by decide +kernel
theorem dX11_fault_1 : decode cX11_fault 1 = .ok (.getfield 10, 3) := by decide +kernel
theorem dX11_fault_4 : decode cX11_fault 4 = .ok (.aload_n 0, 1) := by decide +kernel
theorem dX11_fault_5 : decode cX11_fault 5 = .ok (.getfield 83, 3) := by decide +kernel
theorem dX11_fault_8 : decode cX11_fault 8 = .ok (.invokestatic 97, 3) := by decide +kernel
theorem dX11_fault_11 : decode cX11_fault 11 = .ok (.ireturn, 1) := by decide +kernel
theorem dX11_day_0 : decode cX11_day 0 = .ok (.aload_n 0, 1) := by decide +kernel
theorem dX11_day_1 : decode cX11_day 1 = .ok (.getfield 10, 3) := by decide +kernel
theorem dX11_day_4 : decode cX11_day 4 = .ok (.aload_n 0, 1) := by decide +kernel
theorem dX11_day_5 : decode cX11_day 5 = .ok (.getfield 83, 3) := by decide +kernel
theorem dX11_day_8 : decode cX11_day 8 = .ok (.invokestatic 97, 3) := by decide +kernel
theorem dX11_day_11 : decode cX11_day 11 = .ok (.bipush (-9), 2) := by decide +kernel
theorem dX11_day_13 : decode cX11_day 13 = .ok (.if_icmp .eq 6, 3) := by decide +kernel
theorem dX11_day_16 : decode cX11_day 16 = .ok (.bipush (-3), 2) := by decide +kernel
theorem dX11_day_18 : decode cX11_day 18 = .ok (.ireturn, 1) := by decide +kernel
theorem dX11_day_19 : decode cX11_day 19 = .ok (.aload_n 0, 1) := by decide +kernel
theorem dX11_day_20 : decode cX11_day 20 = .ok (.getfield 83, 3) := by decide +kernel
theorem dX11_day_23 : decode cX11_day 23 = .ok (.astore_n 1, 1) := by decide +kernel
theorem dX11_day_24 : decode cX11_day 24 = .ok (.aload_n 0, 1) := by decide +kernel
theorem dX11_day_25 : decode cX11_day 25 = .ok (.aload_n 0, 1) := by decide +kernel
theorem dX11_day_26 : decode cX11_day 26 = .ok (.getfield 79, 3) := by decide +kernel
theorem dX11_day_29 : decode cX11_day 29 = .ok (.putfield 83, 3) := by decide +kernel
theorem dX11_day_32 : decode cX11_day 32 = .ok (.aload_n 0, 1) := by decide +kernel
theorem dX11_day_33 : decode cX11_day 33 = .ok (.aload_n 1, 1) := by decide +kernel
theorem dX11_day_34 : decode cX11_day 34 = .ok (.putfield 79, 3) := by decide +kernel
theorem dX11_day_37 : decode cX11_day 37 = .ok (.aload_n 0, 1) := by decide +kernel
theorem dX11_day_38 : decode cX11_day 38 = .ok (.getfield 79, 3) := by decide +kernel
theorem dX11_day_41 : decode cX11_day 41 = .ok (.invokevirtual 103, 3) := by decide +kernel
theorem dX11_day_44 : decode cX11_day 44 = .ok (.aload_n 0, 1) := by decide +kernel
theorem dX11_day_45 : decode cX11_day 45 = .ok (.getfield 19, 3) := by decide +kernel
theorem dX11_day_48 : decode cX11_day 48 = .ok (.aload_n 0, 1) := by decide +kernel
theorem dX11_day_49 : decode cX11_day 49 = .ok (.getfield 79, 3) := by decide +kernel
theorem dX11_day_52 : decode cX11_day 52 = .ok (.getfield 106, 3) := by decide +kernel
theorem dX11_day_55 : decode cX11_day 55 = .ok (.invokevirtual 110, 3) := by decide +kernel
theorem dX11_day_58 : decode cX11_day 58 = .ok (.aload_n 0, 1) := by decide +kernel
theorem dX11_day_59 : decode cX11_day 59 = .ok (.getfield 26, 3) := by decide +kernel
theorem dX11_day_62 : decode cX11_day 62 = .ok (.invokevirtual 114, 3) := by decide +kernel
theorem dX11_day_65 : decode cX11_day 65 = .ok (.aload_n 0, 1) := by decide +kernel
theorem dX11_day_66 : decode cX11_day 66 = .ok (.getfield 33, 3) := by decide +kernel
theorem dX11_day_69 : decode cX11_day 69 = .ok (.invokevirtual 117, 3) := by decide +kernel
theorem dX11_day_72 : decode cX11_day 72 = .ok (.aload_n 0, 1) := by decide +kernel
theorem dX11_day_73 : decode cX11_day 73 = .ok (.getfield 79, 3) := by decide +kernel
theorem dX11_day_76 : decode cX11_day 76 = .ok (.getfield 118, 3) := by decide +kernel
theorem dX11_day_79 : decode cX11_day 79 = .ok (.ireturn, 1) := by decide +kernel
theorem dX11_about_0 : decode cX11_about 0 = .ok (.iload_n 1, 1) := by decide +kernel
theorem dX11_about_1 : decode cX11_about 1 = .ok (.tableswitch 146 0 9 #[55, 63, 71, 79, 87, 95, 110, 118, 126, 138], 55) := by decide +kernel
theorem dX11_about_56 : decode cX11_about 56 = .ok (.aload_n 0, 1) := by decide +kernel
theorem dX11_about_57 : decode cX11_about 57 = .ok (.getfield 79, 3) := by decide +kernel
theorem dX11_about_60 : decode cX11_about 60 = .ok (.getfield 118, 3) := by decide +kernel
theorem dX11_about_63 : decode cX11_about 63 = .ok (.ireturn, 1) := by decide +kernel
theorem dX11_about_64 : decode cX11_about 64 = .ok (.aload_n 0, 1) := by decide +kernel
theorem dX11_about_65 : decode cX11_about 65 = .ok (.getfield 79, 3) := by decide +kernel
theorem dX11_about_68 : decode cX11_about 68 = .ok (.getfield 121, 3) := by decide +kernel
theorem dX11_about_71 : decode cX11_about 71 = .ok (.ireturn, 1) := by decide +kernel
theorem dX11_about_72 : decode cX11_about 72 = .ok (.aload_n 0, 1) := by decide +kernel
theorem dX11_about_73 : decode cX11_about 73 = .ok (.getfield 79, 3) := by decide +kernel
theorem dX11_about_76 : decode cX11_about 76 = .ok (.getfield 124, 3) := by decide +kernel
theorem dX11_about_79 : decode cX11_about 79 = .ok (.ireturn, 1) := by decide +kernel
theorem dX11_about_80 : decode cX11_about 80 = .ok (.aload_n 0, 1) := by decide +kernel
theorem dX11_about_81 : decode cX11_about 81 = .ok (.getfield 19, 3) := by decide +kernel
theorem dX11_about_84 : decode cX11_about 84 = .ok (.getfield 127, 3) := by decide +kernel
theorem dX11_about_87 : decode cX11_about 87 = .ok (.ireturn, 1) := by decide +kernel
theorem dX11_about_88 : decode cX11_about 88 = .ok (.aload_n 0, 1) := by decide +kernel
theorem dX11_about_89 : decode cX11_about 89 = .ok (.getfield 19, 3) := by decide +kernel
theorem dX11_about_92 : decode cX11_about 92 = .ok (.getfield 130, 3) := by decide +kernel
theorem dX11_about_95 : decode cX11_about 95 = .ok (.ireturn, 1) := by decide +kernel
theorem dX11_about_96 : decode cX11_about 96 = .ok (.aload_n 0, 1) := by decide +kernel
theorem dX11_about_97 : decode cX11_about 97 = .ok (.getfield 79, 3) := by decide +kernel
theorem dX11_about_100 : decode cX11_about 100 = .ok (.aload_n 0, 1) := by decide +kernel
theorem dX11_about_101 : decode cX11_about 101 = .ok (.getfield 19, 3) := by decide +kernel
theorem dX11_about_104 : decode cX11_about 104 = .ok (.getfield 130, 3) := by decide +kernel
theorem dX11_about_107 : decode cX11_about 107 = .ok (.invokevirtual 133, 3) := by decide +kernel
theorem dX11_about_110 : decode cX11_about 110 = .ok (.ireturn, 1) := by decide +kernel
theorem dX11_about_111 : decode cX11_about 111 = .ok (.aload_n 0, 1) := by decide +kernel
theorem dX11_about_112 : decode cX11_about 112 = .ok (.getfield 26, 3) := by decide +kernel
theorem dX11_about_115 : decode cX11_about 115 = .ok (.getfield 137, 3) := by decide +kernel
theorem dX11_about_118 : decode cX11_about 118 = .ok (.ireturn, 1) := by decide +kernel
theorem dX11_about_119 : decode cX11_about 119 = .ok (.aload_n 0, 1) := by decide +kernel
theorem dX11_about_120 : decode cX11_about 120 = .ok (.getfield 19, 3) := by decide +kernel
theorem dX11_about_123 : decode cX11_about 123 = .ok (.getfield 140, 3) := by decide +kernel
theorem dX11_about_126 : decode cX11_about 126 = .ok (.ireturn, 1) := by decide +kernel
theorem dX11_about_127 : decode cX11_about 127 = .ok (.aload_n 0, 1) := by decide +kernel
theorem dX11_about_128 : decode cX11_about 128 = .ok (.getfield 19, 3) := by decide +kernel
theorem dX11_about_131 : decode cX11_about 131 = .ok (.invokevirtual 143, 3) := by decide +kernel
theorem dX11_about_134 : decode cX11_about 134 = .ok (.sipush 10000, 3) := by decide +kernel
theorem dX11_about_137 : decode cX11_about 137 = .ok (.iadd, 1) := by decide +kernel
theorem dX11_about_138 : decode cX11_about 138 = .ok (.ireturn, 1) := by decide +kernel
theorem dX11_about_139 : decode cX11_about 139 = .ok (.aload_n 0, 1) := by decide +kernel
theorem dX11_about_140 : decode cX11_about 140 = .ok (.getfield 10, 3) := by decide +kernel
theorem dX11_about_143 : decode cX11_about 143 = .ok (.invokevirtual 86, 3) := by decide +kernel
theorem dX11_about_146 : decode cX11_about 146 = .ok (.ireturn, 1) := by decide +kernel
theorem dX11_about_147 : decode cX11_about 147 = .ok (.bipush (-2), 2) := by decide +kernel
theorem dX11_about_149 : decode cX11_about 149 = .ok (.ireturn, 1) := by decide +kernel
theorem dX11_at_0 : decode cX11_at 0 = .ok (.iload_n 1, 1) := by decide +kernel
theorem dX11_at_1 : decode cX11_at 1 = .ok (.invokestatic 146, 3) := by decide +kernel
theorem dX11_at_4 : decode cX11_at 4 = .ok (.ifCond .eq 14, 3) := by decide +kernel
theorem dX11_at_7 : decode cX11_at 7 = .ok (.aload_n 0, 1) := by decide +kernel
theorem dX11_at_8 : decode cX11_at 8 = .ok (.getfield 19, 3) := by decide +kernel
theorem dX11_at_11 : decode cX11_at 11 = .ok (.iload_n 1, 1) := by decide +kernel
theorem dX11_at_12 : decode cX11_at 12 = .ok (.invokevirtual 150, 3) := by decide +kernel
theorem dX11_at_15 : decode cX11_at 15 = .ok (.goto 4, 3) := by decide +kernel
theorem dX11_at_18 : decode cX11_at 18 = .ok (.iconst (-1), 1) := by decide +kernel
theorem dX11_at_19 : decode cX11_at 19 = .ok (.ireturn, 1) := by decide +kernel
theorem dX11_far_0 : decode cX11_far 0 = .ok (.aload_n 0, 1) := by decide +kernel
theorem dX11_far_1 : decode cX11_far 1 = .ok (.getfield 79, 3) := by decide +kernel
theorem dX11_far_4 : decode cX11_far 4 = .ok (.iload_n 1, 1) := by decide +kernel
theorem dX11_far_5 : decode cX11_far 5 = .ok (.invokevirtual 153, 3) := by decide +kernel
theorem dX11_far_8 : decode cX11_far 8 = .ok (.ifCond .eq 14, 3) := by decide +kernel
theorem dX11_far_11 : decode cX11_far 11 = .ok (.aload_n 0, 1) := by decide +kernel
theorem dX11_far_12 : decode cX11_far 12 = .ok (.getfield 79, 3) := by decide +kernel
theorem dX11_far_15 : decode cX11_far 15 = .ok (.iload_n 2, 1) := by decide +kernel
theorem dX11_far_16 : decode cX11_far 16 = .ok (.invokevirtual 153, 3) := by decide +kernel
theorem dX11_far_19 : decode cX11_far 19 = .ok (.ifCond .ne 5, 3) := by decide +kernel
theorem dX11_far_22 : decode cX11_far 22 = .ok (.iconst (-1), 1) := by decide +kernel
theorem dX11_far_23 : decode cX11_far 23 = .ok (.ireturn, 1) := by decide +kernel
theorem dX11_far_24 : decode cX11_far 24 = .ok (.aload_n 0, 1) := by decide +kernel
theorem dX11_far_25 : decode cX11_far 25 = .ok (.getfield 79, 3) := by decide +kernel
theorem dX11_far_28 : decode cX11_far 28 = .ok (.iload_n 1, 1) := by decide +kernel
theorem dX11_far_29 : decode cX11_far 29 = .ok (.iload_n 2, 1) := by decide +kernel
theorem dX11_far_30 : decode cX11_far 30 = .ok (.invokevirtual 156, 3) := by decide +kernel
theorem dX11_far_33 : decode cX11_far 33 = .ok (.invokestatic 160, 3) := by decide +kernel
theorem dX11_far_36 : decode cX11_far 36 = .ok (.ireturn, 1) := by decide +kernel
theorem dX11_errand_0 : decode cX11_errand 0 = .ok (.aload_n 0, 1) := by decide +kernel
theorem dX11_errand_1 : decode cX11_errand 1 = .ok (.getfield 79, 3) := by decide +kernel
theorem dX11_errand_4 : decode cX11_errand 4 = .ok (.iload_n 1, 1) := by decide +kernel
theorem dX11_errand_5 : decode cX11_errand 5 = .ok (.invokevirtual 163, 3) := by decide +kernel
theorem dX11_errand_8 : decode cX11_errand 8 = .ok (.ifCond .ne 5, 3) := by decide +kernel
theorem dX11_errand_11 : decode cX11_errand 11 = .ok (.iconst (-1), 1) := by decide +kernel
theorem dX11_errand_12 : decode cX11_errand 12 = .ok (.ireturn, 1) := by decide +kernel
theorem dX11_errand_13 : decode cX11_errand 13 = .ok (.iload_n 2, 1) := by decide +kernel
theorem dX11_errand_14 : decode cX11_errand 14 = .ok (.tableswitch 103 0 4 #[34, 43, 52, 61, 78], 34) := by decide +kernel
theorem dX11_errand_48 : decode cX11_errand 48 = .ok (.aload_n 0, 1) := by decide +kernel
theorem dX11_errand_49 : decode cX11_errand 49 = .ok (.getfield 79, 3) := by decide +kernel
theorem dX11_errand_52 : decode cX11_errand 52 = .ok (.iload_n 1, 1) := by decide +kernel
theorem dX11_errand_53 : decode cX11_errand 53 = .ok (.invokevirtual 166, 3) := by decide +kernel
theorem dX11_errand_56 : decode cX11_errand 56 = .ok (.ireturn, 1) := by decide +kernel
theorem dX11_errand_57 : decode cX11_errand 57 = .ok (.aload_n 0, 1) := by decide +kernel
theorem dX11_errand_58 : decode cX11_errand 58 = .ok (.getfield 79, 3) := by decide +kernel
theorem dX11_errand_61 : decode cX11_errand 61 = .ok (.iload_n 1, 1) := by decide +kernel
theorem dX11_errand_62 : decode cX11_errand 62 = .ok (.invokevirtual 169, 3) := by decide +kernel
theorem dX11_errand_65 : decode cX11_errand 65 = .ok (.ireturn, 1) := by decide +kernel
theorem dX11_errand_66 : decode cX11_errand 66 = .ok (.aload_n 0, 1) := by decide +kernel
theorem dX11_errand_67 : decode cX11_errand 67 = .ok (.getfield 79, 3) := by decide +kernel
theorem dX11_errand_70 : decode cX11_errand 70 = .ok (.iload_n 1, 1) := by decide +kernel
theorem dX11_errand_71 : decode cX11_errand 71 = .ok (.invokevirtual 172, 3) := by decide +kernel
theorem dX11_errand_74 : decode cX11_errand 74 = .ok (.ireturn, 1) := by decide +kernel
theorem dX11_errand_75 : decode cX11_errand 75 = .ok (.aload_n 0, 1) := by decide +kernel
theorem dX11_errand_76 : decode cX11_errand 76 = .ok (.getfield 19, 3) := by decide +kernel
theorem dX11_errand_79 : decode cX11_errand 79 = .ok (.iload_n 1, 1) := by decide +kernel
theorem dX11_errand_80 : decode cX11_errand 80 = .ok (.invokevirtual 175, 3) := by decide +kernel
theorem dX11_errand_83 : decode cX11_errand 83 = .ok (.ifCond .eq 7, 3) := by decide +kernel
theorem dX11_errand_86 : decode cX11_errand 86 = .ok (.iconst 1, 1) := by decide +kernel
theorem dX11_errand_87 : decode cX11_errand 87 = .ok (.goto 4, 3) := by decide +kernel
theorem dX11_errand_90 : decode cX11_errand 90 = .ok (.iconst 0, 1) := by decide +kernel
theorem dX11_errand_91 : decode cX11_errand 91 = .ok (.ireturn, 1) := by decide +kernel
theorem dX11_errand_92 : decode cX11_errand 92 = .ok (.aload_n 0, 1) := by decide +kernel
theorem dX11_errand_93 : decode cX11_errand 93 = .ok (.getfield 19, 3) := by decide +kernel
theorem dX11_errand_96 : decode cX11_errand 96 = .ok (.iload_n 1, 1) := by decide +kernel
theorem dX11_errand_97 : decode cX11_errand 97 = .ok (.invokevirtual 175, 3) := by decide +kernel
theorem dX11_errand_100 : decode cX11_errand 100 = .ok (.ifCond .eq 14, 3) := by decide +kernel
theorem dX11_errand_103 : decode cX11_errand 103 = .ok (.aload_n 0, 1) := by decide +kernel
theorem dX11_errand_104 : decode cX11_errand 104 = .ok (.getfield 19, 3) := by decide +kernel
theorem dX11_errand_107 : decode cX11_errand 107 = .ok (.iload_n 1, 1) := by decide +kernel
theorem dX11_errand_108 : decode cX11_errand 108 = .ok (.invokevirtual 178, 3) := by decide +kernel
theorem dX11_errand_111 : decode cX11_errand 111 = .ok (.goto 5, 3) := by decide +kernel
theorem dX11_errand_114 : decode cX11_errand 114 = .ok (.bipush (-9), 2) := by decide +kernel
theorem dX11_errand_116 : decode cX11_errand 116 = .ok (.ireturn, 1) := by decide +kernel
theorem dX11_errand_117 : decode cX11_errand 117 = .ok (.bipush (-2), 2) := by decide +kernel
theorem dX11_errand_119 : decode cX11_errand 119 = .ok (.ireturn, 1) := by decide +kernel
theorem dX11_walk_0 : decode cX11_walk 0 = .ok (.iload_n 1, 1) := by decide +kernel
theorem dX11_walk_1 : decode cX11_walk 1 = .ok (.invokestatic 146, 3) := by decide +kernel
theorem dX11_walk_4 : decode cX11_walk 4 = .ok (.ifCond .eq 14, 3) := by decide +kernel
theorem dX11_walk_7 : decode cX11_walk 7 = .ok (.aload_n 0, 1) := by decide +kernel
theorem dX11_walk_8 : decode cX11_walk 8 = .ok (.getfield 79, 3) := by decide +kernel
theorem dX11_walk_11 : decode cX11_walk 11 = .ok (.iload_n 2, 1) := by decide +kernel
theorem dX11_walk_12 : decode cX11_walk 12 = .ok (.invokevirtual 153, 3) := by decide +kernel
theorem dX11_walk_15 : decode cX11_walk 15 = .ok (.ifCond .ne 5, 3) := by decide +kernel
theorem dX11_walk_18 : decode cX11_walk 18 = .ok (.iconst (-1), 1) := by decide +kernel
theorem dX11_walk_19 : decode cX11_walk 19 = .ok (.ireturn, 1) := by decide +kernel
theorem dX11_walk_20 : decode cX11_walk 20 = .ok (.aload_n 0, 1) := by decide +kernel
theorem dX11_walk_21 : decode cX11_walk 21 = .ok (.aload_n 0, 1) := by decide +kernel
theorem dX11_walk_22 : decode cX11_walk 22 = .ok (.getfield 19, 3) := by decide +kernel
theorem dX11_walk_25 : decode cX11_walk 25 = .ok (.iload_n 1, 1) := by decide +kernel
theorem dX11_walk_26 : decode cX11_walk 26 = .ok (.invokevirtual 150, 3) := by decide +kernel
theorem dX11_walk_29 : decode cX11_walk 29 = .ok (.iload_n 2, 1) := by decide +kernel
theorem dX11_walk_30 : decode cX11_walk 30 = .ok (.invokevirtual 181, 3) := by decide +kernel
theorem dX11_walk_33 : decode cX11_walk 33 = .ok (.istore_n 3, 1) := by decide +kernel
theorem dX11_walk_34 : decode cX11_walk 34 = .ok (.iload_n 3, 1) := by decide +kernel
theorem dX11_walk_35 : decode cX11_walk 35 = .ok (.aload_n 0, 1) := by decide +kernel
theorem dX11_walk_36 : decode cX11_walk 36 = .ok (.getfield 19, 3) := by decide +kernel
theorem dX11_walk_39 : decode cX11_walk 39 = .ok (.getfield 127, 3) := by decide +kernel
theorem dX11_walk_42 : decode cX11_walk 42 = .ok (.if_icmp .le 6, 3) := by decide +kernel
theorem dX11_walk_45 : decode cX11_walk 45 = .ok (.bipush (-3), 2) := by decide +kernel
theorem dX11_walk_47 : decode cX11_walk 47 = .ok (.ireturn, 1) := by decide +kernel
theorem dX11_walk_48 : decode cX11_walk 48 = .ok (.aload_n 0, 1) := by decide +kernel
theorem dX11_walk_49 : decode cX11_walk 49 = .ok (.getfield 26, 3) := by decide +kernel
theorem dX11_walk_52 : decode cX11_walk 52 = .ok (.aload_n 0, 1) := by decide +kernel
theorem dX11_walk_53 : decode cX11_walk 53 = .ok (.getfield 19, 3) := by decide +kernel
theorem dX11_walk_56 : decode cX11_walk 56 = .ok (.invokevirtual 184, 3) := by decide +kernel
theorem dX11_walk_59 : decode cX11_walk 59 = .ok (.aload_n 0, 1) := by decide +kernel
theorem dX11_walk_60 : decode cX11_walk 60 = .ok (.getfield 19, 3) := by decide +kernel
theorem dX11_walk_63 : decode cX11_walk 63 = .ok (.iload_n 1, 1) := by decide +kernel
theorem dX11_walk_64 : decode cX11_walk 64 = .ok (.iload_n 2, 1) := by decide +kernel
theorem dX11_walk_65 : decode cX11_walk 65 = .ok (.invokevirtual 188, 3) := by decide +kernel
theorem dX11_walk_68 : decode cX11_walk 68 = .ok (.aload_n 0, 1) := by decide +kernel
theorem dX11_walk_69 : decode cX11_walk 69 = .ok (.getfield 19, 3) := by decide +kernel
theorem dX11_walk_72 : decode cX11_walk 72 = .ok (.dup, 1) := by decide +kernel
theorem dX11_walk_73 : decode cX11_walk 73 = .ok (.getfield 127, 3) := by decide +kernel
theorem dX11_walk_76 : decode cX11_walk 76 = .ok (.iload_n 3, 1) := by decide +kernel
theorem dX11_walk_77 : decode cX11_walk 77 = .ok (.isub, 1) := by decide +kernel
theorem dX11_walk_78 : decode cX11_walk 78 = .ok (.putfield 127, 3) := by decide +kernel
theorem dX11_walk_81 : decode cX11_walk 81 = .ok (.aload_n 0, 1) := by decide +kernel
theorem dX11_walk_82 : decode cX11_walk 82 = .ok (.getfield 19, 3) := by decide +kernel
theorem dX11_walk_85 : decode cX11_walk 85 = .ok (.getfield 127, 3) := by decide +kernel
theorem dX11_walk_88 : decode cX11_walk 88 = .ok (.ireturn, 1) := by decide +kernel
theorem dX11_carry_0 : decode cX11_carry 0 = .ok (.iload_n 1, 1) := by decide +kernel
theorem dX11_carry_1 : decode cX11_carry 1 = .ok (.invokestatic 146, 3) := by decide +kernel
theorem dX11_carry_4 : decode cX11_carry 4 = .ok (.ifCond .eq 14, 3) := by decide +kernel
theorem dX11_carry_7 : decode cX11_carry 7 = .ok (.aload_n 0, 1) := by decide +kernel
theorem dX11_carry_8 : decode cX11_carry 8 = .ok (.getfield 79, 3) := by decide +kernel
theorem dX11_carry_11 : decode cX11_carry 11 = .ok (.iload_n 2, 1) := by decide +kernel
theorem dX11_carry_12 : decode cX11_carry 12 = .ok (.invokevirtual 153, 3) := by decide +kernel
theorem dX11_carry_15 : decode cX11_carry 15 = .ok (.ifCond .ne 5, 3) := by decide +kernel
theorem dX11_carry_18 : decode cX11_carry 18 = .ok (.iconst (-1), 1) := by decide +kernel
theorem dX11_carry_19 : decode cX11_carry 19 = .ok (.ireturn, 1) := by decide +kernel
theorem dX11_carry_20 : decode cX11_carry 20 = .ok (.aload_n 0, 1) := by decide +kernel
theorem dX11_carry_21 : decode cX11_carry 21 = .ok (.getfield 19, 3) := by decide +kernel
theorem dX11_carry_24 : decode cX11_carry 24 = .ok (.iconst 0, 1) := by decide +kernel
theorem dX11_carry_25 : decode cX11_carry 25 = .ok (.invokevirtual 150, 3) := by decide +kernel
theorem dX11_carry_28 : decode cX11_carry 28 = .ok (.aload_n 0, 1) := by decide +kernel
theorem dX11_carry_29 : decode cX11_carry 29 = .ok (.getfield 19, 3) := by decide +kernel
theorem dX11_carry_32 : decode cX11_carry 32 = .ok (.iconst 1, 1) := by decide +kernel
theorem dX11_carry_33 : decode cX11_carry 33 = .ok (.invokevirtual 150, 3) := by decide +kernel
theorem dX11_carry_36 : decode cX11_carry 36 = .ok (.if_icmp .eq 6, 3) := by decide +kernel
theorem dX11_carry_39 : decode cX11_carry 39 = .ok (.bipush (-3), 2) := by decide +kernel
theorem dX11_carry_41 : decode cX11_carry 41 = .ok (.ireturn, 1) := by decide +kernel
theorem dX11_carry_42 : decode cX11_carry 42 = .ok (.iconst 2, 1) := by decide +kernel
theorem dX11_carry_43 : decode cX11_carry 43 = .ok (.aload_n 0, 1) := by decide +kernel
theorem dX11_carry_44 : decode cX11_carry 44 = .ok (.aload_n 0, 1) := by decide +kernel
theorem dX11_carry_45 : decode cX11_carry 45 = .ok (.getfield 19, 3) := by decide +kernel
theorem dX11_carry_48 : decode cX11_carry 48 = .ok (.iload_n 1, 1) := by decide +kernel
theorem dX11_carry_49 : decode cX11_carry 49 = .ok (.invokevirtual 150, 3) := by decide +kernel
theorem dX11_carry_52 : decode cX11_carry 52 = .ok (.iload_n 2, 1) := by decide +kernel
theorem dX11_carry_53 : decode cX11_carry 53 = .ok (.invokevirtual 181, 3) := by decide +kernel
theorem dX11_carry_56 : decode cX11_carry 56 = .ok (.imul, 1) := by decide +kernel
theorem dX11_carry_57 : decode cX11_carry 57 = .ok (.istore_n 3, 1) := by decide +kernel
theorem dX11_carry_58 : decode cX11_carry 58 = .ok (.iload_n 3, 1) := by decide +kernel
theorem dX11_carry_59 : decode cX11_carry 59 = .ok (.aload_n 0, 1) := by decide +kernel
theorem dX11_carry_60 : decode cX11_carry 60 = .ok (.getfield 19, 3) := by decide +kernel
theorem dX11_carry_63 : decode cX11_carry 63 = .ok (.getfield 127, 3) := by decide +kernel
theorem dX11_carry_66 : decode cX11_carry 66 = .ok (.if_icmp .le 6, 3) := by decide +kernel
theorem dX11_carry_69 : decode cX11_carry 69 = .ok (.bipush (-3), 2) := by decide +kernel
theorem dX11_carry_71 : decode cX11_carry 71 = .ok (.ireturn, 1) := by decide +kernel
theorem dX11_carry_72 : decode cX11_carry 72 = .ok (.aload_n 0, 1) := by decide +kernel
theorem dX11_carry_73 : decode cX11_carry 73 = .ok (.getfield 26, 3) := by decide +kernel
theorem dX11_carry_76 : decode cX11_carry 76 = .ok (.aload_n 0, 1) := by decide +kernel
theorem dX11_carry_77 : decode cX11_carry 77 = .ok (.getfield 19, 3) := by decide +kernel
theorem dX11_carry_80 : decode cX11_carry 80 = .ok (.invokevirtual 184, 3) := by decide +kernel
theorem dX11_carry_83 : decode cX11_carry 83 = .ok (.aload_n 0, 1) := by decide +kernel
theorem dX11_carry_84 : decode cX11_carry 84 = .ok (.getfield 19, 3) := by decide +kernel
theorem dX11_carry_87 : decode cX11_carry 87 = .ok (.iconst 0, 1) := by decide +kernel
theorem dX11_carry_88 : decode cX11_carry 88 = .ok (.iload_n 2, 1) := by decide +kernel
theorem dX11_carry_89 : decode cX11_carry 89 = .ok (.invokevirtual 188, 3) := by decide +kernel
theorem dX11_carry_92 : decode cX11_carry 92 = .ok (.aload_n 0, 1) := by decide +kernel
theorem dX11_carry_93 : decode cX11_carry 93 = .ok (.getfield 19, 3) := by decide +kernel
theorem dX11_carry_96 : decode cX11_carry 96 = .ok (.iconst 1, 1) := by decide +kernel
theorem dX11_carry_97 : decode cX11_carry 97 = .ok (.iload_n 2, 1) := by decide +kernel
theorem dX11_carry_98 : decode cX11_carry 98 = .ok (.invokevirtual 188, 3) := by decide +kernel
theorem dX11_carry_101 : decode cX11_carry 101 = .ok (.aload_n 0, 1) := by decide +kernel
theorem dX11_carry_102 : decode cX11_carry 102 = .ok (.getfield 19, 3) := by decide +kernel
theorem dX11_carry_105 : decode cX11_carry 105 = .ok (.dup, 1) := by decide +kernel
theorem dX11_carry_106 : decode cX11_carry 106 = .ok (.getfield 127, 3) := by decide +kernel
theorem dX11_carry_109 : decode cX11_carry 109 = .ok (.iload_n 3, 1) := by decide +kernel
theorem dX11_carry_110 : decode cX11_carry 110 = .ok (.isub, 1) := by decide +kernel
theorem dX11_carry_111 : decode cX11_carry 111 = .ok (.putfield 127, 3) := by decide +kernel
theorem dX11_carry_114 : decode cX11_carry 114 = .ok (.aload_n 0, 1) := by decide +kernel
theorem dX11_carry_115 : decode cX11_carry 115 = .ok (.getfield 19, 3) := by decide +kernel
theorem dX11_carry_118 : decode cX11_carry 118 = .ok (.getfield 127, 3) := by decide +kernel
theorem dX11_carry_121 : decode cX11_carry 121 = .ok (.ireturn, 1) := by decide +kernel
theorem dX11_done_0 : decode cX11_done 0 = .ok (.iload_n 1, 1) := by decide +kernel
theorem dX11_done_1 : decode cX11_done 1 = .ok (.invokestatic 146, 3) := by decide +kernel
theorem dX11_done_4 : decode cX11_done 4 = .ok (.ifCond .eq 14, 3) := by decide +kernel
theorem dX11_done_7 : decode cX11_done 7 = .ok (.aload_n 0, 1) := by decide +kernel
theorem dX11_done_8 : decode cX11_done 8 = .ok (.getfield 79, 3) := by decide +kernel
theorem dX11_done_11 : decode cX11_done 11 = .ok (.iload_n 2, 1) := by decide +kernel
theorem dX11_done_12 : decode cX11_done 12 = .ok (.invokevirtual 163, 3) := by decide +kernel
theorem dX11_done_15 : decode cX11_done 15 = .ok (.ifCond .ne 5, 3) := by decide +kernel
theorem dX11_done_18 : decode cX11_done 18 = .ok (.iconst (-1), 1) := by decide +kernel
theorem dX11_done_19 : decode cX11_done 19 = .ok (.ireturn, 1) := by decide +kernel
theorem dX11_done_20 : decode cX11_done 20 = .ok (.aload_n 0, 1) := by decide +kernel
theorem dX11_done_21 : decode cX11_done 21 = .ok (.getfield 19, 3) := by decide +kernel
theorem dX11_done_24 : decode cX11_done 24 = .ok (.iload_n 2, 1) := by decide +kernel
theorem dX11_done_25 : decode cX11_done 25 = .ok (.invokevirtual 175, 3) := by decide +kernel
theorem dX11_done_28 : decode cX11_done 28 = .ok (.ifCond .ne 15, 3) := by decide +kernel
theorem dX11_done_31 : decode cX11_done 31 = .ok (.aload_n 0, 1) := by decide +kernel
theorem dX11_done_32 : decode cX11_done 32 = .ok (.getfield 79, 3) := by decide +kernel
theorem dX11_done_35 : decode cX11_done 35 = .ok (.iload_n 1, 1) := by decide +kernel
theorem dX11_done_36 : decode cX11_done 36 = .ok (.iload_n 2, 1) := by decide +kernel
theorem dX11_done_37 : decode cX11_done 37 = .ok (.invokevirtual 192, 3) := by decide +kernel
theorem dX11_done_40 : decode cX11_done 40 = .ok (.ifCond .ne 6, 3) := by decide +kernel
theorem dX11_done_43 : decode cX11_done 43 = .ok (.bipush (-3), 2) := by decide +kernel
theorem dX11_done_45 : decode cX11_done 45 = .ok (.ireturn, 1) := by decide +kernel
theorem dX11_done_46 : decode cX11_done 46 = .ok (.aload_n 0, 1) := by decide +kernel
theorem dX11_done_47 : decode cX11_done 47 = .ok (.getfield 19, 3) := by decide +kernel
theorem dX11_done_50 : decode cX11_done 50 = .ok (.iload_n 1, 1) := by decide +kernel
theorem dX11_done_51 : decode cX11_done 51 = .ok (.invokevirtual 150, 3) := by decide +kernel
theorem dX11_done_54 : decode cX11_done 54 = .ok (.aload_n 0, 1) := by decide +kernel
theorem dX11_done_55 : decode cX11_done 55 = .ok (.getfield 79, 3) := by decide +kernel
theorem dX11_done_58 : decode cX11_done 58 = .ok (.iload_n 2, 1) := by decide +kernel
theorem dX11_done_59 : decode cX11_done 59 = .ok (.invokevirtual 166, 3) := by decide +kernel
theorem dX11_done_62 : decode cX11_done 62 = .ok (.if_icmp .eq 6, 3) := by decide +kernel
theorem dX11_done_65 : decode cX11_done 65 = .ok (.bipush (-3), 2) := by decide +kernel
theorem dX11_done_67 : decode cX11_done 67 = .ok (.ireturn, 1) := by decide +kernel
theorem dX11_done_68 : decode cX11_done 68 = .ok (.aload_n 0, 1) := by decide +kernel
theorem dX11_done_69 : decode cX11_done 69 = .ok (.getfield 26, 3) := by decide +kernel
theorem dX11_done_72 : decode cX11_done 72 = .ok (.aload_n 0, 1) := by decide +kernel
theorem dX11_done_73 : decode cX11_done 73 = .ok (.getfield 19, 3) := by decide +kernel
theorem dX11_done_76 : decode cX11_done 76 = .ok (.invokevirtual 184, 3) := by decide +kernel
theorem dX11_done_79 : decode cX11_done 79 = .ok (.aload_n 0, 1) := by decide +kernel
theorem dX11_done_80 : decode cX11_done 80 = .ok (.getfield 19, 3) := by decide +kernel
theorem dX11_done_83 : decode cX11_done 83 = .ok (.iload_n 1, 1) := by decide +kernel
theorem dX11_done_84 : decode cX11_done 84 = .ok (.iload_n 2, 1) := by decide +kernel
theorem dX11_done_85 : decode cX11_done 85 = .ok (.invokevirtual 196, 3) := by decide +kernel
theorem dX11_done_88 : decode cX11_done 88 = .ok (.aload_n 0, 1) := by decide +kernel
theorem dX11_done_89 : decode cX11_done 89 = .ok (.getfield 79, 3) := by decide +kernel
theorem dX11_done_92 : decode cX11_done 92 = .ok (.iload_n 2, 1) := by decide +kernel
theorem dX11_done_93 : decode cX11_done 93 = .ok (.invokevirtual 169, 3) := by decide +kernel
theorem dX11_done_96 : decode cX11_done 96 = .ok (.ireturn, 1) := by decide +kernel
theorem dX11_loan_0 : decode cX11_loan 0 = .ok (.iload_n 1, 1) := by decide +kernel
theorem dX11_loan_1 : decode cX11_loan 1 = .ok (.iconst 1, 1) := by decide +kernel
theorem dX11_loan_2 : decode cX11_loan 2 = .ok (.if_icmp .lt 9, 3) := by decide +kernel
theorem dX11_loan_5 : decode cX11_loan 5 = .ok (.iload_n 1, 1) := by decide +kernel
theorem dX11_loan_6 : decode cX11_loan 6 = .ok (.bipush 99, 2) := by decide +kernel
theorem dX11_loan_8 : decode cX11_loan 8 = .ok (.if_icmp .le 6, 3) := by decide +kernel
theorem dX11_loan_11 : decode cX11_loan 11 = .ok (.bipush (-2), 2) := by decide +kernel
theorem dX11_loan_13 : decode cX11_loan 13 = .ok (.ireturn, 1) := by decide +kernel
theorem dX11_loan_14 : decode cX11_loan 14 = .ok (.iload_n 2, 1) := by decide +kernel
theorem dX11_loan_15 : decode cX11_loan 15 = .ok (.ifCond .ne 17, 3) := by decide +kernel
theorem dX11_loan_18 : decode cX11_loan 18 = .ok (.iload_n 1, 1) := by decide +kernel
theorem dX11_loan_19 : decode cX11_loan 19 = .ok (.aload_n 0, 1) := by decide +kernel
theorem dX11_loan_20 : decode cX11_loan 20 = .ok (.getfield 19, 3) := by decide +kernel
theorem dX11_loan_23 : decode cX11_loan 23 = .ok (.getfield 127, 3) := by decide +kernel
theorem dX11_loan_26 : decode cX11_loan 26 = .ok (.if_icmp .le 6, 3) := by decide +kernel
theorem dX11_loan_29 : decode cX11_loan 29 = .ok (.bipush (-3), 2) := by decide +kernel
theorem dX11_loan_31 : decode cX11_loan 31 = .ok (.ireturn, 1) := by decide +kernel
theorem dX11_loan_32 : decode cX11_loan 32 = .ok (.aload_n 0, 1) := by decide +kernel
theorem dX11_loan_33 : decode cX11_loan 33 = .ok (.getfield 19, 3) := by decide +kernel
theorem dX11_loan_36 : decode cX11_loan 36 = .ok (.getfield 140, 3) := by decide +kernel
theorem dX11_loan_39 : decode cX11_loan 39 = .ok (.bipush 8, 2) := by decide +kernel
theorem dX11_loan_41 : decode cX11_loan 41 = .ok (.if_icmp .lt 6, 3) := by decide +kernel
theorem dX11_loan_44 : decode cX11_loan 44 = .ok (.bipush (-4), 2) := by decide +kernel
theorem dX11_loan_46 : decode cX11_loan 46 = .ok (.ireturn, 1) := by decide +kernel
theorem dX11_loan_47 : decode cX11_loan 47 = .ok (.aload_n 0, 1) := by decide +kernel
theorem dX11_loan_48 : decode cX11_loan 48 = .ok (.getfield 26, 3) := by decide +kernel
theorem dX11_loan_51 : decode cX11_loan 51 = .ok (.aload_n 0, 1) := by decide +kernel
theorem dX11_loan_52 : decode cX11_loan 52 = .ok (.getfield 19, 3) := by decide +kernel
theorem dX11_loan_55 : decode cX11_loan 55 = .ok (.invokevirtual 184, 3) := by decide +kernel
theorem dX11_loan_58 : decode cX11_loan 58 = .ok (.aload_n 0, 1) := by decide +kernel
theorem dX11_loan_59 : decode cX11_loan 59 = .ok (.getfield 19, 3) := by decide +kernel
theorem dX11_loan_62 : decode cX11_loan 62 = .ok (.iload_n 2, 1) := by decide +kernel
theorem dX11_loan_63 : decode cX11_loan 63 = .ok (.ifCond .eq 8, 3) := by decide +kernel
theorem dX11_loan_66 : decode cX11_loan 66 = .ok (.iload_n 1, 1) := by decide +kernel
theorem dX11_loan_67 : decode cX11_loan 67 = .ok (.ineg, 1) := by decide +kernel
theorem dX11_loan_68 : decode cX11_loan 68 = .ok (.goto 4, 3) := by decide +kernel
theorem dX11_loan_71 : decode cX11_loan 71 = .ok (.iload_n 1, 1) := by decide +kernel
theorem dX11_loan_72 : decode cX11_loan 72 = .ok (.invokevirtual 199, 3) := by decide +kernel
theorem dX11_loan_75 : decode cX11_loan 75 = .ok (.aload_n 0, 1) := by decide +kernel
theorem dX11_loan_76 : decode cX11_loan 76 = .ok (.getfield 19, 3) := by decide +kernel
theorem dX11_loan_79 : decode cX11_loan 79 = .ok (.getfield 127, 3) := by decide +kernel
theorem dX11_loan_82 : decode cX11_loan 82 = .ok (.ireturn, 1) := by decide +kernel
theorem dX11_back_0 : decode cX11_back 0 = .ok (.aload_n 0, 1) := by decide +kernel
theorem dX11_back_1 : decode cX11_back 1 = .ok (.getfield 19, 3) := by decide +kernel
theorem dX11_back_4 : decode cX11_back 4 = .ok (.getfield 140, 3) := by decide +kernel
theorem dX11_back_7 : decode cX11_back 7 = .ok (.iconst 1, 1) := by decide +kernel
theorem dX11_back_8 : decode cX11_back 8 = .ok (.if_icmp .lt 21, 3) := by decide +kernel
theorem dX11_back_11 : decode cX11_back 11 = .ok (.aload_n 0, 1) := by decide +kernel
theorem dX11_back_12 : decode cX11_back 12 = .ok (.getfield 19, 3) := by decide +kernel
theorem dX11_back_15 : decode cX11_back 15 = .ok (.getfield 127, 3) := by decide +kernel
theorem dX11_back_18 : decode cX11_back 18 = .ok (.aload_n 0, 1) := by decide +kernel
theorem dX11_back_19 : decode cX11_back 19 = .ok (.getfield 19, 3) := by decide +kernel
theorem dX11_back_22 : decode cX11_back 22 = .ok (.invokevirtual 202, 3) := by decide +kernel
theorem dX11_back_25 : decode cX11_back 25 = .ok (.iadd, 1) := by decide +kernel
theorem dX11_back_26 : decode cX11_back 26 = .ok (.ifCond .ge 6, 3) := by decide +kernel
theorem dX11_back_29 : decode cX11_back 29 = .ok (.bipush (-3), 2) := by decide +kernel
theorem dX11_back_31 : decode cX11_back 31 = .ok (.ireturn, 1) := by decide +kernel
theorem dX11_back_32 : decode cX11_back 32 = .ok (.aload_n 0, 1) := by decide +kernel
theorem dX11_back_33 : decode cX11_back 33 = .ok (.getfield 26, 3) := by decide +kernel
theorem dX11_back_36 : decode cX11_back 36 = .ok (.aload_n 0, 1) := by decide +kernel
theorem dX11_back_37 : decode cX11_back 37 = .ok (.getfield 19, 3) := by decide +kernel
theorem dX11_back_40 : decode cX11_back 40 = .ok (.invokevirtual 184, 3) := by decide +kernel
theorem dX11_back_43 : decode cX11_back 43 = .ok (.aload_n 0, 1) := by decide +kernel
theorem dX11_back_44 : decode cX11_back 44 = .ok (.getfield 19, 3) := by decide +kernel
theorem dX11_back_47 : decode cX11_back 47 = .ok (.invokevirtual 205, 3) := by decide +kernel
theorem dX11_back_50 : decode cX11_back 50 = .ok (.aload_n 0, 1) := by decide +kernel
theorem dX11_back_51 : decode cX11_back 51 = .ok (.getfield 19, 3) := by decide +kernel
theorem dX11_back_54 : decode cX11_back 54 = .ok (.getfield 127, 3) := by decide +kernel
theorem dX11_back_57 : decode cX11_back 57 = .ok (.ireturn, 1) := by decide +kernel
theorem dX11_undo_0 : decode cX11_undo 0 = .ok (.aload_n 0, 1) := by decide +kernel
theorem dX11_undo_1 : decode cX11_undo 1 = .ok (.getfield 26, 3) := by decide +kernel
theorem dX11_undo_4 : decode cX11_undo 4 = .ok (.getfield 137, 3) := by decide +kernel
theorem dX11_undo_7 : decode cX11_undo 7 = .ok (.iconst 1, 1) := by decide +kernel
theorem dX11_undo_8 : decode cX11_undo 8 = .ok (.if_icmp .ge 6, 3) := by decide +kernel
theorem dX11_undo_11 : decode cX11_undo 11 = .ok (.bipush (-3), 2) := by decide +kernel
theorem dX11_undo_13 : decode cX11_undo 13 = .ok (.ireturn, 1) := by decide +kernel
theorem dX11_undo_14 : decode cX11_undo 14 = .ok (.aload_n 0, 1) := by decide +kernel
theorem dX11_undo_15 : decode cX11_undo 15 = .ok (.getfield 26, 3) := by decide +kernel
theorem dX11_undo_18 : decode cX11_undo 18 = .ok (.aload_n 0, 1) := by decide +kernel
theorem dX11_undo_19 : decode cX11_undo 19 = .ok (.getfield 19, 3) := by decide +kernel
theorem dX11_undo_22 : decode cX11_undo 22 = .ok (.invokevirtual 208, 3) := by decide +kernel
theorem dX11_undo_25 : decode cX11_undo 25 = .ok (.aload_n 0, 1) := by decide +kernel
theorem dX11_undo_26 : decode cX11_undo 26 = .ok (.getfield 26, 3) := by decide +kernel
theorem dX11_undo_29 : decode cX11_undo 29 = .ok (.getfield 137, 3) := by decide +kernel
theorem dX11_undo_32 : decode cX11_undo 32 = .ok (.ireturn, 1) := by decide +kernel
theorem dX11_judge_0 : decode cX11_judge 0 = .ok (.iload_n 1, 1) := by decide +kernel
theorem dX11_judge_1 : decode cX11_judge 1 = .ok (.invokestatic 146, 3) := by decide +kernel
theorem dX11_judge_4 : decode cX11_judge 4 = .ok (.ifCond .ne 5, 3) := by decide +kernel
theorem dX11_judge_7 : decode cX11_judge 7 = .ok (.iconst (-1), 1) := by decide +kernel
theorem dX11_judge_8 : decode cX11_judge 8 = .ok (.ireturn, 1) := by decide +kernel
theorem dX11_judge_9 : decode cX11_judge 9 = .ok (.iload_n 2, 1) := by decide +kernel
theorem dX11_judge_10 : decode cX11_judge 10 = .ok (.iconst 1, 1) := by decide +kernel
theorem dX11_judge_11 : decode cX11_judge 11 = .ok (.if_icmp .lt 13, 3) := by decide +kernel
theorem dX11_judge_14 : decode cX11_judge 14 = .ok (.iload_n 2, 1) := by decide +kernel
theorem dX11_judge_15 : decode cX11_judge 15 = .ok (.bipush 8, 2) := by decide +kernel
theorem dX11_judge_17 : decode cX11_judge 17 = .ok (.if_icmp .gt 7, 3) := by decide +kernel
theorem dX11_judge_20 : decode cX11_judge 20 = .ok (.iload_n 3, 1) := by decide +kernel
theorem dX11_judge_21 : decode cX11_judge 21 = .ok (.ifCond .ge 6, 3) := by decide +kernel
theorem dX11_judge_24 : decode cX11_judge 24 = .ok (.bipush (-2), 2) := by decide +kernel
theorem dX11_judge_26 : decode cX11_judge 26 = .ok (.ireturn, 1) := by decide +kernel
theorem dX11_judge_27 : decode cX11_judge 27 = .ok (.aload_n 0, 1) := by decide +kernel
theorem dX11_judge_28 : decode cX11_judge 28 = .ok (.iload_n 3, 1) := by decide +kernel
theorem dX11_judge_29 : decode cX11_judge 29 = .ok (.iload_n 2, 1) := by decide +kernel
theorem dX11_judge_30 : decode cX11_judge 30 = .ok (.invokevirtual 211, 3) := by decide +kernel
theorem dX11_judge_33 : decode cX11_judge 33 = .ok (.ifCond .ne 6, 3) := by decide +kernel
theorem dX11_judge_36 : decode cX11_judge 36 = .ok (.bipush (-2), 2) := by decide +kernel
theorem dX11_judge_38 : decode cX11_judge 38 = .ok (.ireturn, 1) := by decide +kernel
theorem dX11_judge_39 : decode cX11_judge 39 = .ok (.aload_n 0, 1) := by decide +kernel
theorem dX11_judge_40 : decode cX11_judge 40 = .ok (.getfield 19, 3) := by decide +kernel
theorem dX11_judge_43 : decode cX11_judge 43 = .ok (.iload_n 1, 1) := by decide +kernel
theorem dX11_judge_44 : decode cX11_judge 44 = .ok (.invokevirtual 150, 3) := by decide +kernel
theorem dX11_judge_47 : decode cX11_judge 47 = .ok (.istore 4, 2) := by decide +kernel
theorem dX11_judge_49 : decode cX11_judge 49 = .ok (.aload_n 0, 1) := by decide +kernel
theorem dX11_judge_50 : decode cX11_judge 50 = .ok (.getfield 19, 3) := by decide +kernel
theorem dX11_judge_53 : decode cX11_judge 53 = .ok (.getfield 127, 3) := by decide +kernel
theorem dX11_judge_56 : decode cX11_judge 56 = .ok (.istore 5, 2) := by decide +kernel
theorem dX11_judge_58 : decode cX11_judge 58 = .ok (.iconst 0, 1) := by decide +kernel
theorem dX11_judge_59 : decode cX11_judge 59 = .ok (.istore 6, 2) := by decide +kernel
theorem dX11_judge_61 : decode cX11_judge 61 = .ok (.iload 6, 2) := by decide +kernel
theorem dX11_judge_63 : decode cX11_judge 63 = .ok (.iload_n 2, 1) := by decide +kernel
theorem dX11_judge_64 : decode cX11_judge 64 = .ok (.if_icmp .ge 50, 3) := by decide +kernel
theorem dX11_judge_67 : decode cX11_judge 67 = .ok (.aload_n 0, 1) := by decide +kernel
theorem dX11_judge_68 : decode cX11_judge 68 = .ok (.iload 4, 2) := by decide +kernel
theorem dX11_judge_70 : decode cX11_judge 70 = .ok (.aload_n 0, 1) := by decide +kernel
theorem dX11_judge_71 : decode cX11_judge 71 = .ok (.getfield 72, 3) := by decide +kernel
theorem dX11_judge_74 : decode cX11_judge 74 = .ok (.iload 6, 2) := by decide +kernel
theorem dX11_judge_76 : decode cX11_judge 76 = .ok (.iaload, 1) := by decide +kernel
theorem dX11_judge_77 : decode cX11_judge 77 = .ok (.invokevirtual 181, 3) := by decide +kernel
theorem dX11_judge_80 : decode cX11_judge 80 = .ok (.istore 7, 2) := by decide +kernel
theorem dX11_judge_82 : decode cX11_judge 82 = .ok (.iload 7, 2) := by decide +kernel
theorem dX11_judge_84 : decode cX11_judge 84 = .ok (.iload 5, 2) := by decide +kernel
theorem dX11_judge_86 : decode cX11_judge 86 = .ok (.if_icmp .le 6, 3) := by decide +kernel
theorem dX11_judge_89 : decode cX11_judge 89 = .ok (.iload 6, 2) := by decide +kernel
theorem dX11_judge_91 : decode cX11_judge 91 = .ok (.ireturn, 1) := by decide +kernel
theorem dX11_judge_92 : decode cX11_judge 92 = .ok (.iload 5, 2) := by decide +kernel
theorem dX11_judge_94 : decode cX11_judge 94 = .ok (.iload 7, 2) := by decide +kernel
theorem dX11_judge_96 : decode cX11_judge 96 = .ok (.isub, 1) := by decide +kernel
theorem dX11_judge_97 : decode cX11_judge 97 = .ok (.istore 5, 2) := by decide +kernel
theorem dX11_judge_99 : decode cX11_judge 99 = .ok (.aload_n 0, 1) := by decide +kernel
theorem dX11_judge_100 : decode cX11_judge 100 = .ok (.getfield 72, 3) := by decide +kernel
theorem dX11_judge_103 : decode cX11_judge 103 = .ok (.iload 6, 2) := by decide +kernel
theorem dX11_judge_105 : decode cX11_judge 105 = .ok (.iaload, 1) := by decide +kernel
theorem dX11_judge_106 : decode cX11_judge 106 = .ok (.istore 4, 2) := by decide +kernel
theorem dX11_judge_108 : decode cX11_judge 108 = .ok (.iinc 6 1, 3) := by decide +kernel
theorem dX11_judge_111 : decode cX11_judge 111 = .ok (.goto (-50), 3) := by decide +kernel
theorem dX11_judge_114 : decode cX11_judge 114 = .ok (.bipush (-9), 2) := by decide +kernel
theorem dX11_judge_116 : decode cX11_judge 116 = .ok (.ireturn, 1) := by decide +kernel
theorem dX11_tour_0 : decode cX11_tour 0 = .ok (.iload_n 1, 1) := by decide +kernel
theorem dX11_tour_1 : decode cX11_tour 1 = .ok (.invokestatic 146, 3) := by decide +kernel
theorem dX11_tour_4 : decode cX11_tour 4 = .ok (.ifCond .ne 5, 3) := by decide +kernel
theorem dX11_tour_7 : decode cX11_tour 7 = .ok (.iconst (-1), 1) := by decide +kernel
theorem dX11_tour_8 : decode cX11_tour 8 = .ok (.ireturn, 1) := by decide +kernel
theorem dX11_tour_9 : decode cX11_tour 9 = .ok (.iload_n 2, 1) := by decide +kernel
theorem dX11_tour_10 : decode cX11_tour 10 = .ok (.ifCond .lt 14, 3) := by decide +kernel
theorem dX11_tour_13 : decode cX11_tour 13 = .ok (.iload_n 2, 1) := by decide +kernel
theorem dX11_tour_14 : decode cX11_tour 14 = .ok (.aload_n 0, 1) := by decide +kernel
theorem dX11_tour_15 : decode cX11_tour 15 = .ok (.getfield 79, 3) := by decide +kernel
theorem dX11_tour_18 : decode cX11_tour 18 = .ok (.invokevirtual 214, 3) := by decide +kernel
theorem dX11_tour_21 : decode cX11_tour 21 = .ok (.if_icmp .le 6, 3) := by decide +kernel
theorem dX11_tour_24 : decode cX11_tour 24 = .ok (.bipush (-2), 2) := by decide +kernel
theorem dX11_tour_26 : decode cX11_tour 26 = .ok (.ireturn, 1) := by decide +kernel
theorem dX11_tour_27 : decode cX11_tour 27 = .ok (.iload_n 2, 1) := by decide +kernel
theorem dX11_tour_28 : decode cX11_tour 28 = .ok (.aload_n 0, 1) := by decide +kernel
theorem dX11_tour_29 : decode cX11_tour 29 = .ok (.iload_n 1, 1) := by decide +kernel
theorem dX11_tour_30 : decode cX11_tour 30 = .ok (.invokevirtual 217, 3) := by decide +kernel
theorem dX11_tour_33 : decode cX11_tour 33 = .ok (.iconst (-1), 1) := by decide +kernel
theorem dX11_tour_34 : decode cX11_tour 34 = .ok (.ixor, 1) := by decide +kernel
theorem dX11_tour_35 : decode cX11_tour 35 = .ok (.iand, 1) := by decide +kernel
theorem dX11_tour_36 : decode cX11_tour 36 = .ok (.ifCond .eq 6, 3) := by decide +kernel
theorem dX11_tour_39 : decode cX11_tour 39 = .ok (.bipush (-3), 2) := by decide +kernel
theorem dX11_tour_41 : decode cX11_tour 41 = .ok (.ireturn, 1) := by decide +kernel
theorem dX11_tour_42 : decode cX11_tour 42 = .ok (.aload_n 0, 1) := by decide +kernel
theorem dX11_tour_43 : decode cX11_tour 43 = .ok (.getfield 40, 3) := by decide +kernel
theorem dX11_tour_46 : decode cX11_tour 46 = .ok (.aload_n 0, 1) := by decide +kernel
theorem dX11_tour_47 : decode cX11_tour 47 = .ok (.getfield 79, 3) := by decide +kernel
theorem dX11_tour_50 : decode cX11_tour 50 = .ok (.aload_n 0, 1) := by decide +kernel
theorem dX11_tour_51 : decode cX11_tour 51 = .ok (.getfield 19, 3) := by decide +kernel
theorem dX11_tour_54 : decode cX11_tour 54 = .ok (.iload_n 1, 1) := by decide +kernel
theorem dX11_tour_55 : decode cX11_tour 55 = .ok (.invokevirtual 150, 3) := by decide +kernel
theorem dX11_tour_58 : decode cX11_tour 58 = .ok (.iconst 0, 1) := by decide +kernel
theorem dX11_tour_59 : decode cX11_tour 59 = .ok (.invokevirtual 220, 3) := by decide +kernel
theorem dX11_tour_62 : decode cX11_tour 62 = .ok (.aload_n 0, 1) := by decide +kernel
theorem dX11_tour_63 : decode cX11_tour 63 = .ok (.getfield 40, 3) := by decide +kernel
theorem dX11_tour_66 : decode cX11_tour 66 = .ok (.aload_n 0, 1) := by decide +kernel
theorem dX11_tour_67 : decode cX11_tour 67 = .ok (.getfield 79, 3) := by decide +kernel
theorem dX11_tour_70 : decode cX11_tour 70 = .ok (.iload_n 2, 1) := by decide +kernel
theorem dX11_tour_71 : decode cX11_tour 71 = .ok (.invokevirtual 223, 3) := by decide +kernel
theorem dX11_tour_74 : decode cX11_tour 74 = .ok (.invokevirtual 226, 3) := by decide +kernel
theorem dX11_tour_77 : decode cX11_tour 77 = .ok (.invokestatic 160, 3) := by decide +kernel
theorem dX11_tour_80 : decode cX11_tour 80 = .ok (.ireturn, 1) := by decide +kernel
theorem dX11_plan_0 : decode cX11_plan 0 = .ok (.iload_n 1, 1) := by decide +kernel
theorem dX11_plan_1 : decode cX11_plan 1 = .ok (.ifCond .lt 8, 3) := by decide +kernel
theorem dX11_plan_4 : decode cX11_plan 4 = .ok (.iload_n 1, 1) := by decide +kernel
theorem dX11_plan_5 : decode cX11_plan 5 = .ok (.iconst 3, 1) := by decide +kernel
theorem dX11_plan_6 : decode cX11_plan 6 = .ok (.if_icmp .le 6, 3) := by decide +kernel
theorem dX11_plan_9 : decode cX11_plan 9 = .ok (.bipush (-2), 2) := by decide +kernel
theorem dX11_plan_11 : decode cX11_plan 11 = .ok (.ireturn, 1) := by decide +kernel
theorem dX11_plan_12 : decode cX11_plan 12 = .ok (.aload_n 0, 1) := by decide +kernel
theorem dX11_plan_13 : decode cX11_plan 13 = .ok (.getfield 47, 3) := by decide +kernel
theorem dX11_plan_16 : decode cX11_plan 16 = .ok (.aload_n 0, 1) := by decide +kernel
theorem dX11_plan_17 : decode cX11_plan 17 = .ok (.iconst 0, 1) := by decide +kernel
theorem dX11_plan_18 : decode cX11_plan 18 = .ok (.invokevirtual 217, 3) := by decide +kernel
theorem dX11_plan_21 : decode cX11_plan 21 = .ok (.aload_n 0, 1) := by decide +kernel
theorem dX11_plan_22 : decode cX11_plan 22 = .ok (.iconst 1, 1) := by decide +kernel
theorem dX11_plan_23 : decode cX11_plan 23 = .ok (.invokevirtual 217, 3) := by decide +kernel
theorem dX11_plan_26 : decode cX11_plan 26 = .ok (.invokevirtual 229, 3) := by decide +kernel
theorem dX11_plan_29 : decode cX11_plan 29 = .ok (.aload_n 0, 1) := by decide +kernel
theorem dX11_plan_30 : decode cX11_plan 30 = .ok (.getfield 47, 3) := by decide +kernel
theorem dX11_plan_33 : decode cX11_plan 33 = .ok (.aload_n 0, 1) := by decide +kernel
theorem dX11_plan_34 : decode cX11_plan 34 = .ok (.getfield 79, 3) := by decide +kernel
theorem dX11_plan_37 : decode cX11_plan 37 = .ok (.aload_n 0, 1) := by decide +kernel
theorem dX11_plan_38 : decode cX11_plan 38 = .ok (.getfield 19, 3) := by decide +kernel
theorem dX11_plan_41 : decode cX11_plan 41 = .ok (.iconst 0, 1) := by decide +kernel
theorem dX11_plan_42 : decode cX11_plan 42 = .ok (.invokevirtual 150, 3) := by decide +kernel
theorem dX11_plan_45 : decode cX11_plan 45 = .ok (.aload_n 0, 1) := by decide +kernel
theorem dX11_plan_46 : decode cX11_plan 46 = .ok (.getfield 19, 3) := by decide +kernel
theorem dX11_plan_49 : decode cX11_plan 49 = .ok (.iconst 1, 1) := by decide +kernel
theorem dX11_plan_50 : decode cX11_plan 50 = .ok (.invokevirtual 150, 3) := by decide +kernel
theorem dX11_plan_53 : decode cX11_plan 53 = .ok (.iconst 0, 1) := by decide +kernel
theorem dX11_plan_54 : decode cX11_plan 54 = .ok (.aload_n 0, 1) := by decide +kernel
theorem dX11_plan_55 : decode cX11_plan 55 = .ok (.getfield 19, 3) := by decide +kernel
theorem dX11_plan_58 : decode cX11_plan 58 = .ok (.getfield 127, 3) := by decide +kernel
theorem dX11_plan_61 : decode cX11_plan 61 = .ok (.invokevirtual 232, 3) := by decide +kernel
theorem dX11_plan_64 : decode cX11_plan 64 = .ok (.aload_n 0, 1) := by decide +kernel
theorem dX11_plan_65 : decode cX11_plan 65 = .ok (.getfield 47, 3) := by decide +kernel
theorem dX11_plan_68 : decode cX11_plan 68 = .ok (.getfield 236, 3) := by decide +kernel
theorem dX11_plan_71 : decode cX11_plan 71 = .ok (.ifCond .ne 6, 3) := by decide +kernel
theorem dX11_plan_74 : decode cX11_plan 74 = .ok (.bipush (-9), 2) := by decide +kernel
theorem dX11_plan_76 : decode cX11_plan 76 = .ok (.ireturn, 1) := by decide +kernel
theorem dX11_plan_77 : decode cX11_plan 77 = .ok (.iload_n 1, 1) := by decide +kernel
theorem dX11_plan_78 : decode cX11_plan 78 = .ok (.tableswitch 50 0 2 #[26, 34, 42], 26) := by decide +kernel
theorem dX11_plan_104 : decode cX11_plan 104 = .ok (.aload_n 0, 1) := by decide +kernel
theorem dX11_plan_105 : decode cX11_plan 105 = .ok (.getfield 47, 3) := by decide +kernel
theorem dX11_plan_108 : decode cX11_plan 108 = .ok (.getfield 240, 3) := by decide +kernel
theorem dX11_plan_111 : decode cX11_plan 111 = .ok (.ireturn, 1) := by decide +kernel
theorem dX11_plan_112 : decode cX11_plan 112 = .ok (.aload_n 0, 1) := by decide +kernel
theorem dX11_plan_113 : decode cX11_plan 113 = .ok (.getfield 47, 3) := by decide +kernel
theorem dX11_plan_116 : decode cX11_plan 116 = .ok (.getfield 243, 3) := by decide +kernel
theorem dX11_plan_119 : decode cX11_plan 119 = .ok (.ireturn, 1) := by decide +kernel
theorem dX11_plan_120 : decode cX11_plan 120 = .ok (.aload_n 0, 1) := by decide +kernel
theorem dX11_plan_121 : decode cX11_plan 121 = .ok (.getfield 47, 3) := by decide +kernel
theorem dX11_plan_124 : decode cX11_plan 124 = .ok (.getfield 244, 3) := by decide +kernel
theorem dX11_plan_127 : decode cX11_plan 127 = .ok (.ireturn, 1) := by decide +kernel
theorem dX11_plan_128 : decode cX11_plan 128 = .ok (.aload_n 0, 1) := by decide +kernel
theorem dX11_plan_129 : decode cX11_plan 129 = .ok (.getfield 47, 3) := by decide +kernel
theorem dX11_plan_132 : decode cX11_plan 132 = .ok (.getfield 247, 3) := by decide +kernel
theorem dX11_plan_135 : decode cX11_plan 135 = .ok (.ireturn, 1) := by decide +kernel
theorem dX11_live_0 : decode cX11_live 0 = .ok (.iconst 0, 1) := by decide +kernel
theorem dX11_live_1 : decode cX11_live 1 = .ok (.istore_n 1, 1) := by decide +kernel
theorem dX11_live_2 : decode cX11_live 2 = .ok (.iconst (-1), 1) := by decide +kernel
theorem dX11_live_3 : decode cX11_live 3 = .ok (.istore_n 2, 1) := by decide +kernel
theorem dX11_live_4 : decode cX11_live 4 = .ok (.aload_n 0, 1) := by decide +kernel
theorem dX11_live_5 : decode cX11_live 5 = .ok (.getfield 47, 3) := by decide +kernel
theorem dX11_live_8 : decode cX11_live 8 = .ok (.aload_n 0, 1) := by decide +kernel
theorem dX11_live_9 : decode cX11_live 9 = .ok (.getfield 79, 3) := by decide +kernel
theorem dX11_live_12 : decode cX11_live 12 = .ok (.iconst 0, 1) := by decide +kernel
theorem dX11_live_13 : decode cX11_live 13 = .ok (.invokevirtual 250, 3) := by decide +kernel
theorem dX11_live_16 : decode cX11_live 16 = .ok (.aload_n 0, 1) := by decide +kernel
theorem dX11_live_17 : decode cX11_live 17 = .ok (.getfield 79, 3) := by decide +kernel
theorem dX11_live_20 : decode cX11_live 20 = .ok (.iconst 1, 1) := by decide +kernel
theorem dX11_live_21 : decode cX11_live 21 = .ok (.invokevirtual 250, 3) := by decide +kernel
theorem dX11_live_24 : decode cX11_live 24 = .ok (.invokevirtual 229, 3) := by decide +kernel
theorem dX11_live_27 : decode cX11_live 27 = .ok (.iconst 0, 1) := by decide +kernel
theorem dX11_live_28 : decode cX11_live 28 = .ok (.istore_n 3, 1) := by decide +kernel
theorem dX11_live_29 : decode cX11_live 29 = .ok (.iload_n 3, 1) := by decide +kernel
theorem dX11_live_30 : decode cX11_live 30 = .ok (.aload_n 0, 1) := by decide +kernel
theorem dX11_live_31 : decode cX11_live 31 = .ok (.getfield 79, 3) := by decide +kernel
theorem dX11_live_34 : decode cX11_live 34 = .ok (.getfield 118, 3) := by decide +kernel
theorem dX11_live_37 : decode cX11_live 37 = .ok (.if_icmp .ge 61, 3) := by decide +kernel
theorem dX11_live_40 : decode cX11_live 40 = .ok (.aload_n 0, 1) := by decide +kernel
theorem dX11_live_41 : decode cX11_live 41 = .ok (.getfield 47, 3) := by decide +kernel
theorem dX11_live_44 : decode cX11_live 44 = .ok (.aload_n 0, 1) := by decide +kernel
theorem dX11_live_45 : decode cX11_live 45 = .ok (.getfield 79, 3) := by decide +kernel
theorem dX11_live_48 : decode cX11_live 48 = .ok (.iload_n 3, 1) := by decide +kernel
theorem dX11_live_49 : decode cX11_live 49 = .ok (.iload_n 3, 1) := by decide +kernel
theorem dX11_live_50 : decode cX11_live 50 = .ok (.iload_n 3, 1) := by decide +kernel
theorem dX11_live_51 : decode cX11_live 51 = .ok (.aload_n 0, 1) := by decide +kernel
theorem dX11_live_52 : decode cX11_live 52 = .ok (.getfield 79, 3) := by decide +kernel
theorem dX11_live_55 : decode cX11_live 55 = .ok (.getfield 106, 3) := by decide +kernel
theorem dX11_live_58 : decode cX11_live 58 = .ok (.invokevirtual 232, 3) := by decide +kernel
theorem dX11_live_61 : decode cX11_live 61 = .ok (.aload_n 0, 1) := by decide +kernel
theorem dX11_live_62 : decode cX11_live 62 = .ok (.getfield 47, 3) := by decide +kernel
theorem dX11_live_65 : decode cX11_live 65 = .ok (.getfield 236, 3) := by decide +kernel
theorem dX11_live_68 : decode cX11_live 68 = .ok (.ifCond .eq 24, 3) := by decide +kernel
theorem dX11_live_71 : decode cX11_live 71 = .ok (.aload_n 0, 1) := by decide +kernel
theorem dX11_live_72 : decode cX11_live 72 = .ok (.getfield 47, 3) := by decide +kernel
theorem dX11_live_75 : decode cX11_live 75 = .ok (.getfield 240, 3) := by decide +kernel
theorem dX11_live_78 : decode cX11_live 78 = .ok (.iload_n 2, 1) := by decide +kernel
theorem dX11_live_79 : decode cX11_live 79 = .ok (.if_icmp .le 13, 3) := by decide +kernel
theorem dX11_live_82 : decode cX11_live 82 = .ok (.aload_n 0, 1) := by decide +kernel
theorem dX11_live_83 : decode cX11_live 83 = .ok (.getfield 47, 3) := by decide +kernel
theorem dX11_live_86 : decode cX11_live 86 = .ok (.getfield 240, 3) := by decide +kernel
theorem dX11_live_89 : decode cX11_live 89 = .ok (.istore_n 2, 1) := by decide +kernel
theorem dX11_live_90 : decode cX11_live 90 = .ok (.iload_n 3, 1) := by decide +kernel
theorem dX11_live_91 : decode cX11_live 91 = .ok (.istore_n 1, 1) := by decide +kernel
theorem dX11_live_92 : decode cX11_live 92 = .ok (.iinc 3 1, 3) := by decide +kernel
theorem dX11_live_95 : decode cX11_live 95 = .ok (.goto (-66), 3) := by decide +kernel
theorem dX11_live_98 : decode cX11_live 98 = .ok (.iload_n 1, 1) := by decide +kernel
theorem dX11_live_99 : decode cX11_live 99 = .ok (.ireturn, 1) := by decide +kernel
theorem dX11_byTurns_0 : decode cX11_byTurns 0 = .ok (.iload_n 1, 1) := by decide +kernel
theorem dX11_byTurns_1 : decode cX11_byTurns 1 = .ok (.invokestatic 146, 3) := by decide +kernel
theorem dX11_byTurns_4 : decode cX11_byTurns 4 = .ok (.ifCond .ne 5, 3) := by decide +kernel
theorem dX11_byTurns_7 : decode cX11_byTurns 7 = .ok (.iconst (-1), 1) := by decide +kernel
theorem dX11_byTurns_8 : decode cX11_byTurns 8 = .ok (.ireturn, 1) := by decide +kernel
theorem dX11_byTurns_9 : decode cX11_byTurns 9 = .ok (.aload_n 0, 1) := by decide +kernel
theorem dX11_byTurns_10 : decode cX11_byTurns 10 = .ok (.getfield 79, 3) := by decide +kernel
theorem dX11_byTurns_13 : decode cX11_byTurns 13 = .ok (.invokevirtual 214, 3) := by decide +kernel
theorem dX11_byTurns_16 : decode cX11_byTurns 16 = .ok (.aload_n 0, 1) := by decide +kernel
theorem dX11_byTurns_17 : decode cX11_byTurns 17 = .ok (.getfield 19, 3) := by decide +kernel
theorem dX11_byTurns_20 : decode cX11_byTurns 20 = .ok (.getfield 130, 3) := by decide +kernel
theorem dX11_byTurns_23 : decode cX11_byTurns 23 = .ok (.iconst (-1), 1) := by decide +kernel
theorem dX11_byTurns_24 : decode cX11_byTurns 24 = .ok (.ixor, 1) := by decide +kernel
theorem dX11_byTurns_25 : decode cX11_byTurns 25 = .ok (.iand, 1) := by decide +kernel
theorem dX11_byTurns_26 : decode cX11_byTurns 26 = .ok (.istore_n 2, 1) := by decide +kernel
theorem dX11_byTurns_27 : decode cX11_byTurns 27 = .ok (.iload_n 2, 1) := by decide +kernel
theorem dX11_byTurns_28 : decode cX11_byTurns 28 = .ok (.invokestatic 253, 3) := by decide +kernel
theorem dX11_byTurns_31 : decode cX11_byTurns 31 = .ok (.iconst 5, 1) := by decide +kernel
theorem dX11_byTurns_32 : decode cX11_byTurns 32 = .ok (.if_icmp .le 6, 3) := by decide +kernel
theorem dX11_byTurns_35 : decode cX11_byTurns 35 = .ok (.bipush (-3), 2) := by decide +kernel
theorem dX11_byTurns_37 : decode cX11_byTurns 37 = .ok (.ireturn, 1) := by decide +kernel
theorem dX11_byTurns_38 : decode cX11_byTurns 38 = .ok (.aload_n 0, 1) := by decide +kernel
theorem dX11_byTurns_39 : decode cX11_byTurns 39 = .ok (.getfield 19, 3) := by decide +kernel
theorem dX11_byTurns_42 : decode cX11_byTurns 42 = .ok (.iconst 0, 1) := by decide +kernel
theorem dX11_byTurns_43 : decode cX11_byTurns 43 = .ok (.invokevirtual 150, 3) := by decide +kernel
theorem dX11_byTurns_46 : decode cX11_byTurns 46 = .ok (.istore_n 3, 1) := by decide +kernel
theorem dX11_byTurns_47 : decode cX11_byTurns 47 = .ok (.aload_n 0, 1) := by decide +kernel
theorem dX11_byTurns_48 : decode cX11_byTurns 48 = .ok (.getfield 19, 3) := by decide +kernel
theorem dX11_byTurns_51 : decode cX11_byTurns 51 = .ok (.iconst 1, 1) := by decide +kernel
theorem dX11_byTurns_52 : decode cX11_byTurns 52 = .ok (.invokevirtual 150, 3) := by decide +kernel
theorem dX11_byTurns_55 : decode cX11_byTurns 55 = .ok (.istore 4, 2) := by decide +kernel
theorem dX11_byTurns_57 : decode cX11_byTurns 57 = .ok (.aload_n 0, 1) := by decide +kernel
theorem dX11_byTurns_58 : decode cX11_byTurns 58 = .ok (.getfield 54, 3) := by decide +kernel
theorem dX11_byTurns_61 : decode cX11_byTurns 61 = .ok (.aload_n 0, 1) := by decide +kernel
theorem dX11_byTurns_62 : decode cX11_byTurns 62 = .ok (.getfield 79, 3) := by decide +kernel
theorem dX11_byTurns_65 : decode cX11_byTurns 65 = .ok (.invokevirtual 258, 3) := by decide +kernel
theorem dX11_byTurns_68 : decode cX11_byTurns 68 = .ok (.aload_n 0, 1) := by decide +kernel
theorem dX11_byTurns_69 : decode cX11_byTurns 69 = .ok (.getfield 54, 3) := by decide +kernel
theorem dX11_byTurns_72 : decode cX11_byTurns 72 = .ok (.iload_n 3, 1) := by decide +kernel
theorem dX11_byTurns_73 : decode cX11_byTurns 73 = .ok (.invokevirtual 261, 3) := by decide +kernel
theorem dX11_byTurns_76 : decode cX11_byTurns 76 = .ok (.aload_n 0, 1) := by decide +kernel
theorem dX11_byTurns_77 : decode cX11_byTurns 77 = .ok (.getfield 54, 3) := by decide +kernel
theorem dX11_byTurns_80 : decode cX11_byTurns 80 = .ok (.iload 4, 2) := by decide +kernel
theorem dX11_byTurns_82 : decode cX11_byTurns 82 = .ok (.invokevirtual 261, 3) := by decide +kernel
theorem dX11_byTurns_85 : decode cX11_byTurns 85 = .ok (.iadd, 1) := by decide +kernel
theorem dX11_byTurns_86 : decode cX11_byTurns 86 = .ok (.aload_n 0, 1) := by decide +kernel
theorem dX11_byTurns_87 : decode cX11_byTurns 87 = .ok (.getfield 19, 3) := by decide +kernel
theorem dX11_byTurns_90 : decode cX11_byTurns 90 = .ok (.getfield 127, 3) := by decide +kernel
theorem dX11_byTurns_93 : decode cX11_byTurns 93 = .ok (.if_icmp .le 6, 3) := by decide +kernel
theorem dX11_byTurns_96 : decode cX11_byTurns 96 = .ok (.bipush (-9), 2) := by decide +kernel
theorem dX11_byTurns_98 : decode cX11_byTurns 98 = .ok (.ireturn, 1) := by decide +kernel
theorem dX11_byTurns_99 : decode cX11_byTurns 99 = .ok (.aload_n 0, 1) := by decide +kernel
theorem dX11_byTurns_100 : decode cX11_byTurns 100 = .ok (.getfield 54, 3) := by decide +kernel
theorem dX11_byTurns_103 : decode cX11_byTurns 103 = .ok (.iconst 0, 1) := by decide +kernel
theorem dX11_byTurns_104 : decode cX11_byTurns 104 = .ok (.iconst 0, 1) := by decide +kernel
theorem dX11_byTurns_105 : decode cX11_byTurns 105 = .ok (.iload_n 2, 1) := by decide +kernel
theorem dX11_byTurns_106 : decode cX11_byTurns 106 = .ok (.iload_n 3, 1) := by decide +kernel
theorem dX11_byTurns_107 : decode cX11_byTurns 107 = .ok (.iload 4, 2) := by decide +kernel
theorem dX11_byTurns_109 : decode cX11_byTurns 109 = .ok (.aload_n 0, 1) := by decide +kernel
theorem dX11_byTurns_110 : decode cX11_byTurns 110 = .ok (.getfield 19, 3) := by decide +kernel
theorem dX11_byTurns_113 : decode cX11_byTurns 113 = .ok (.getfield 127, 3) := by decide +kernel
theorem dX11_byTurns_116 : decode cX11_byTurns 116 = .ok (.invokestatic 264, 3) := by decide +kernel
theorem dX11_byTurns_119 : decode cX11_byTurns 119 = .ok (.istore 5, 2) := by decide +kernel
theorem dX11_byTurns_121 : decode cX11_byTurns 121 = .ok (.iload 5, 2) := by decide +kernel
theorem dX11_byTurns_123 : decode cX11_byTurns 123 = .ok (.iload_n 1, 1) := by decide +kernel
theorem dX11_byTurns_124 : decode cX11_byTurns 124 = .ok (.invokestatic 268, 3) := by decide +kernel
theorem dX11_byTurns_127 : decode cX11_byTurns 127 = .ok (.ireturn, 1) := by decide +kernel
theorem dX11_ledger_0 : decode cX11_ledger 0 = .ok (.aload_n 0, 1) := by decide +kernel
theorem dX11_ledger_1 : decode cX11_ledger 1 = .ok (.getfield 79, 3) := by decide +kernel
theorem dX11_ledger_4 : decode cX11_ledger 4 = .ok (.iload_n 1, 1) := by decide +kernel
theorem dX11_ledger_5 : decode cX11_ledger 5 = .ok (.invokevirtual 153, 3) := by decide +kernel
theorem dX11_ledger_8 : decode cX11_ledger 8 = .ok (.ifCond .ne 7, 3) := by decide +kernel
theorem dX11_ledger_11 : decode cX11_ledger 11 = .ok (.ldc2_w 271, 3) := by decide +kernel
theorem dX11_ledger_14 : decode cX11_ledger 14 = .ok (.lreturn, 1) := by decide +kernel
theorem dX11_ledger_15 : decode cX11_ledger 15 = .ok (.iload_n 2, 1) := by decide +kernel
theorem dX11_ledger_16 : decode cX11_ledger 16 = .ok (.ifCond .lt 20, 3) := by decide +kernel
theorem dX11_ledger_19 : decode cX11_ledger 19 = .ok (.iload_n 2, 1) := by decide +kernel
theorem dX11_ledger_20 : decode cX11_ledger 20 = .ok (.bipush 8, 2) := by decide +kernel
theorem dX11_ledger_22 : decode cX11_ledger 22 = .ok (.if_icmp .gt 14, 3) := by decide +kernel
theorem dX11_ledger_25 : decode cX11_ledger 25 = .ok (.iload_n 3, 1) := by decide +kernel
theorem dX11_ledger_26 : decode cX11_ledger 26 = .ok (.ifCond .lt 10, 3) := by decide +kernel
theorem dX11_ledger_29 : decode cX11_ledger 29 = .ok (.iload_n 3, 1) := by decide +kernel
theorem dX11_ledger_30 : decode cX11_ledger 30 = .ok (.sipush 999, 3) := by decide +kernel
theorem dX11_ledger_33 : decode cX11_ledger 33 = .ok (.if_icmp .le 7, 3) := by decide +kernel
theorem dX11_ledger_36 : decode cX11_ledger 36 = .ok (.ldc2_w 273, 3) := by decide +kernel
theorem dX11_ledger_39 : decode cX11_ledger 39 = .ok (.lreturn, 1) := by decide +kernel
theorem dX11_ledger_40 : decode cX11_ledger 40 = .ok (.aload_n 0, 1) := by decide +kernel
theorem dX11_ledger_41 : decode cX11_ledger 41 = .ok (.getfield 61, 3) := by decide +kernel
theorem dX11_ledger_44 : decode cX11_ledger 44 = .ok (.aload_n 0, 1) := by decide +kernel
theorem dX11_ledger_45 : decode cX11_ledger 45 = .ok (.getfield 79, 3) := by decide +kernel
theorem dX11_ledger_48 : decode cX11_ledger 48 = .ok (.iload_n 1, 1) := by decide +kernel
theorem dX11_ledger_49 : decode cX11_ledger 49 = .ok (.iload_n 2, 1) := by decide +kernel
theorem dX11_ledger_50 : decode cX11_ledger 50 = .ok (.iload_n 3, 1) := by decide +kernel
theorem dX11_ledger_51 : decode cX11_ledger 51 = .ok (.invokevirtual 275, 3) := by decide +kernel
theorem dX11_ledger_54 : decode cX11_ledger 54 = .ok (.lconst 0, 1) := by decide +kernel
theorem dX11_ledger_55 : decode cX11_ledger 55 = .ok (.lstore 4, 2) := by decide +kernel
theorem dX11_ledger_57 : decode cX11_ledger 57 = .ok (.iconst 0, 1) := by decide +kernel
theorem dX11_ledger_58 : decode cX11_ledger 58 = .ok (.istore 6, 2) := by decide +kernel
theorem dX11_ledger_60 : decode cX11_ledger 60 = .ok (.iload 6, 2) := by decide +kernel
theorem dX11_ledger_62 : decode cX11_ledger 62 = .ok (.aload_n 0, 1) := by decide +kernel
theorem dX11_ledger_63 : decode cX11_ledger 63 = .ok (.getfield 79, 3) := by decide +kernel
theorem dX11_ledger_66 : decode cX11_ledger 66 = .ok (.getfield 118, 3) := by decide +kernel
theorem dX11_ledger_69 : decode cX11_ledger 69 = .ok (.if_icmp .ge 25, 3) := by decide +kernel
theorem dX11_ledger_72 : decode cX11_ledger 72 = .ok (.lload 4, 2) := by decide +kernel
theorem dX11_ledger_74 : decode cX11_ledger 74 = .ok (.aload_n 0, 1) := by decide +kernel
theorem dX11_ledger_75 : decode cX11_ledger 75 = .ok (.getfield 61, 3) := by decide +kernel
theorem dX11_ledger_78 : decode cX11_ledger 78 = .ok (.iload 6, 2) := by decide +kernel
theorem dX11_ledger_80 : decode cX11_ledger 80 = .ok (.iload_n 3, 1) := by decide +kernel
theorem dX11_ledger_81 : decode cX11_ledger 81 = .ok (.invokevirtual 278, 3) := by decide +kernel
theorem dX11_ledger_84 : decode cX11_ledger 84 = .ok (.i2l, 1) := by decide +kernel
theorem dX11_ledger_85 : decode cX11_ledger 85 = .ok (.ladd, 1) := by decide +kernel
theorem dX11_ledger_86 : decode cX11_ledger 86 = .ok (.lstore 4, 2) := by decide +kernel
theorem dX11_ledger_88 : decode cX11_ledger 88 = .ok (.iinc 6 1, 3) := by decide +kernel
theorem dX11_ledger_91 : decode cX11_ledger 91 = .ok (.goto (-31), 3) := by decide +kernel
theorem dX11_ledger_94 : decode cX11_ledger 94 = .ok (.lload 4, 2) := by decide +kernel
theorem dX11_ledger_96 : decode cX11_ledger 96 = .ok (.lreturn, 1) := by decide +kernel
theorem dX11_ends_0 : decode cX11_ends 0 = .ok (.aload_n 0, 1) := by decide +kernel
theorem dX11_ends_1 : decode cX11_ends 1 = .ok (.getfield 79, 3) := by decide +kernel
theorem dX11_ends_4 : decode cX11_ends 4 = .ok (.iload_n 1, 1) := by decide +kernel
theorem dX11_ends_5 : decode cX11_ends 5 = .ok (.invokevirtual 153, 3) := by decide +kernel
theorem dX11_ends_8 : decode cX11_ends 8 = .ok (.ifCond .ne 5, 3) := by decide +kernel
theorem dX11_ends_11 : decode cX11_ends 11 = .ok (.iconst (-1), 1) := by decide +kernel
theorem dX11_ends_12 : decode cX11_ends 12 = .ok (.ireturn, 1) := by decide +kernel
theorem dX11_ends_13 : decode cX11_ends 13 = .ok (.iload_n 2, 1) := by decide +kernel
theorem dX11_ends_14 : decode cX11_ends 14 = .ok (.ifCond .lt 20, 3) := by decide +kernel
theorem dX11_ends_17 : decode cX11_ends 17 = .ok (.iload_n 2, 1) := by decide +kernel
theorem dX11_ends_18 : decode cX11_ends 18 = .ok (.bipush 8, 2) := by decide +kernel
theorem dX11_ends_20 : decode cX11_ends 20 = .ok (.if_icmp .gt 14, 3) := by decide +kernel
theorem dX11_ends_23 : decode cX11_ends 23 = .ok (.iload_n 3, 1) := by decide +kernel
theorem dX11_ends_24 : decode cX11_ends 24 = .ok (.ifCond .lt 10, 3) := by decide +kernel
theorem dX11_ends_27 : decode cX11_ends 27 = .ok (.iload_n 3, 1) := by decide +kernel
theorem dX11_ends_28 : decode cX11_ends 28 = .ok (.sipush 999, 3) := by decide +kernel
theorem dX11_ends_31 : decode cX11_ends 31 = .ok (.if_icmp .le 6, 3) := by decide +kernel
theorem dX11_ends_34 : decode cX11_ends 34 = .ok (.bipush (-2), 2) := by decide +kernel
theorem dX11_ends_36 : decode cX11_ends 36 = .ok (.ireturn, 1) := by decide +kernel
theorem dX11_ends_37 : decode cX11_ends 37 = .ok (.aload_n 0, 1) := by decide +kernel
theorem dX11_ends_38 : decode cX11_ends 38 = .ok (.getfield 61, 3) := by decide +kernel
theorem dX11_ends_41 : decode cX11_ends 41 = .ok (.aload_n 0, 1) := by decide +kernel
theorem dX11_ends_42 : decode cX11_ends 42 = .ok (.getfield 79, 3) := by decide +kernel
theorem dX11_ends_45 : decode cX11_ends 45 = .ok (.iload_n 1, 1) := by decide +kernel
theorem dX11_ends_46 : decode cX11_ends 46 = .ok (.iload_n 2, 1) := by decide +kernel
theorem dX11_ends_47 : decode cX11_ends 47 = .ok (.iload_n 3, 1) := by decide +kernel
theorem dX11_ends_48 : decode cX11_ends 48 = .ok (.invokevirtual 275, 3) := by decide +kernel
theorem dX11_ends_51 : decode cX11_ends 51 = .ok (.iconst 0, 1) := by decide +kernel
theorem dX11_ends_52 : decode cX11_ends 52 = .ok (.istore 4, 2) := by decide +kernel
theorem dX11_ends_54 : decode cX11_ends 54 = .ok (.iconst 0, 1) := by decide +kernel
theorem dX11_ends_55 : decode cX11_ends 55 = .ok (.istore 5, 2) := by decide +kernel
theorem dX11_ends_57 : decode cX11_ends 57 = .ok (.iload 5, 2) := by decide +kernel
theorem dX11_ends_59 : decode cX11_ends 59 = .ok (.aload_n 0, 1) := by decide +kernel
theorem dX11_ends_60 : decode cX11_ends 60 = .ok (.getfield 79, 3) := by decide +kernel
theorem dX11_ends_63 : decode cX11_ends 63 = .ok (.getfield 118, 3) := by decide +kernel
theorem dX11_ends_66 : decode cX11_ends 66 = .ok (.if_icmp .ge 31, 3) := by decide +kernel
theorem dX11_ends_69 : decode cX11_ends 69 = .ok (.aload_n 0, 1) := by decide +kernel
theorem dX11_ends_70 : decode cX11_ends 70 = .ok (.getfield 61, 3) := by decide +kernel
theorem dX11_ends_73 : decode cX11_ends 73 = .ok (.iload 5, 2) := by decide +kernel
theorem dX11_ends_75 : decode cX11_ends 75 = .ok (.iload_n 3, 1) := by decide +kernel
theorem dX11_ends_76 : decode cX11_ends 76 = .ok (.invokevirtual 278, 3) := by decide +kernel
theorem dX11_ends_79 : decode cX11_ends 79 = .ok (.ifCond .le 12, 3) := by decide +kernel
theorem dX11_ends_82 : decode cX11_ends 82 = .ok (.iload 4, 2) := by decide +kernel
theorem dX11_ends_84 : decode cX11_ends 84 = .ok (.iconst 1, 1) := by decide +kernel
theorem dX11_ends_85 : decode cX11_ends 85 = .ok (.iload 5, 2) := by decide +kernel
theorem dX11_ends_87 : decode cX11_ends 87 = .ok (.ishl, 1) := by decide +kernel
theorem dX11_ends_88 : decode cX11_ends 88 = .ok (.ior, 1) := by decide +kernel
theorem dX11_ends_89 : decode cX11_ends 89 = .ok (.istore 4, 2) := by decide +kernel
theorem dX11_ends_91 : decode cX11_ends 91 = .ok (.iinc 5 1, 3) := by decide +kernel
theorem dX11_ends_94 : decode cX11_ends 94 = .ok (.goto (-37), 3) := by decide +kernel
theorem dX11_ends_97 : decode cX11_ends 97 = .ok (.iload 4, 2) := by decide +kernel
theorem dX11_ends_99 : decode cX11_ends 99 = .ok (.ireturn, 1) := by decide +kernel
theorem dX11_chance_0 : decode cX11_chance 0 = .ok (.iload_n 1, 1) := by decide +kernel
theorem dX11_chance_1 : decode cX11_chance 1 = .ok (.ifCond .lt 20, 3) := by decide +kernel
theorem dX11_chance_4 : decode cX11_chance 4 = .ok (.iload_n 1, 1) := by decide +kernel
theorem dX11_chance_5 : decode cX11_chance 5 = .ok (.bipush 10, 2) := by decide +kernel
theorem dX11_chance_7 : decode cX11_chance 7 = .ok (.if_icmp .gt 14, 3) := by decide +kernel
theorem dX11_chance_10 : decode cX11_chance 10 = .ok (.iload_n 2, 1) := by decide +kernel
theorem dX11_chance_11 : decode cX11_chance 11 = .ok (.ifCond .lt 10, 3) := by decide +kernel
theorem dX11_chance_14 : decode cX11_chance 14 = .ok (.iload_n 2, 1) := by decide +kernel
theorem dX11_chance_15 : decode cX11_chance 15 = .ok (.sipush 999, 3) := by decide +kernel
theorem dX11_chance_18 : decode cX11_chance 18 = .ok (.if_icmp .le 7, 3) := by decide +kernel
theorem dX11_chance_21 : decode cX11_chance 21 = .ok (.ldc2_w 273, 3) := by decide +kernel
theorem dX11_chance_24 : decode cX11_chance 24 = .ok (.lreturn, 1) := by decide +kernel
theorem dX11_chance_25 : decode cX11_chance 25 = .ok (.aload_n 0, 1) := by decide +kernel
theorem dX11_chance_26 : decode cX11_chance 26 = .ok (.iload_n 1, 1) := by decide +kernel
theorem dX11_chance_27 : decode cX11_chance 27 = .ok (.invokevirtual 281, 3) := by decide +kernel
theorem dX11_chance_30 : decode cX11_chance 30 = .ok (.aload_n 0, 1) := by decide +kernel
theorem dX11_chance_31 : decode cX11_chance 31 = .ok (.getfield 68, 3) := by decide +kernel
theorem dX11_chance_34 : decode cX11_chance 34 = .ok (.iload_n 2, 1) := by decide +kernel
theorem dX11_chance_35 : decode cX11_chance 35 = .ok (.invokevirtual 284, 3) := by decide +kernel
theorem dX11_chance_38 : decode cX11_chance 38 = .ok (.i2l, 1) := by decide +kernel
theorem dX11_chance_39 : decode cX11_chance 39 = .ok (.lstore 4, 2) := by decide +kernel
theorem dX11_chance_41 : decode cX11_chance 41 = .ok (.aload_n 0, 1) := by decide +kernel
theorem dX11_chance_42 : decode cX11_chance 42 = .ok (.getfield 68, 3) := by decide +kernel
theorem dX11_chance_45 : decode cX11_chance 45 = .ok (.getfield 287, 3) := by decide +kernel
theorem dX11_chance_48 : decode cX11_chance 48 = .ok (.i2l, 1) := by decide +kernel
theorem dX11_chance_49 : decode cX11_chance 49 = .ok (.lstore 6, 2) := by decide +kernel
theorem dX11_chance_51 : decode cX11_chance 51 = .ok (.lload 4, 2) := by decide +kernel
theorem dX11_chance_53 : decode cX11_chance 53 = .ok (.lload 6, 2) := by decide +kernel
theorem dX11_chance_55 : decode cX11_chance 55 = .ok (.invokestatic 290, 3) := by decide +kernel
theorem dX11_chance_58 : decode cX11_chance 58 = .ok (.lstore 8, 2) := by decide +kernel
theorem dX11_chance_60 : decode cX11_chance 60 = .ok (.lload 8, 2) := by decide +kernel
theorem dX11_chance_62 : decode cX11_chance 62 = .ok (.lconst 1, 1) := by decide +kernel
theorem dX11_chance_63 : decode cX11_chance 63 = .ok (.lcmp, 1) := by decide +kernel
theorem dX11_chance_64 : decode cX11_chance 64 = .ok (.ifCond .ge 5, 3) := by decide +kernel
theorem dX11_chance_67 : decode cX11_chance 67 = .ok (.lconst 0, 1) := by decide +kernel
theorem dX11_chance_68 : decode cX11_chance 68 = .ok (.lreturn, 1) := by decide +kernel
theorem dX11_chance_69 : decode cX11_chance 69 = .ok (.iload_n 3, 1) := by decide +kernel
theorem dX11_chance_70 : decode cX11_chance 70 = .ok (.ifCond .eq 11, 3) := by decide +kernel
theorem dX11_chance_73 : decode cX11_chance 73 = .ok (.lload 4, 2) := by decide +kernel
theorem dX11_chance_75 : decode cX11_chance 75 = .ok (.lload 8, 2) := by decide +kernel
theorem dX11_chance_77 : decode cX11_chance 77 = .ok (.ldiv, 1) := by decide +kernel
theorem dX11_chance_78 : decode cX11_chance 78 = .ok (.goto 8, 3) := by decide +kernel
theorem dX11_chance_81 : decode cX11_chance 81 = .ok (.lload 6, 2) := by decide +kernel
theorem dX11_chance_83 : decode cX11_chance 83 = .ok (.lload 8, 2) := by decide +kernel
theorem dX11_chance_85 : decode cX11_chance 85 = .ok (.ldiv, 1) := by decide +kernel
theorem dX11_chance_86 : decode cX11_chance 86 = .ok (.lreturn, 1) := by decide +kernel
theorem dX11_spare_0 : decode cX11_spare 0 = .ok (.iload_n 1, 1) := by decide +kernel
theorem dX11_spare_1 : decode cX11_spare 1 = .ok (.ifCond .lt 19, 3) := by decide +kernel
theorem dX11_spare_4 : decode cX11_spare 4 = .ok (.iload_n 1, 1) := by decide +kernel
theorem dX11_spare_5 : decode cX11_spare 5 = .ok (.bipush 10, 2) := by decide +kernel
theorem dX11_spare_7 : decode cX11_spare 7 = .ok (.if_icmp .gt 13, 3) := by decide +kernel
theorem dX11_spare_10 : decode cX11_spare 10 = .ok (.iload_n 2, 1) := by decide +kernel
theorem dX11_spare_11 : decode cX11_spare 11 = .ok (.ifCond .lt 9, 3) := by decide +kernel
theorem dX11_spare_14 : decode cX11_spare 14 = .ok (.iload_n 2, 1) := by decide +kernel
theorem dX11_spare_15 : decode cX11_spare 15 = .ok (.bipush 100, 2) := by decide +kernel
theorem dX11_spare_17 : decode cX11_spare 17 = .ok (.if_icmp .le 6, 3) := by decide +kernel
theorem dX11_spare_20 : decode cX11_spare 20 = .ok (.bipush (-2), 2) := by decide +kernel
theorem dX11_spare_22 : decode cX11_spare 22 = .ok (.ireturn, 1) := by decide +kernel
theorem dX11_spare_23 : decode cX11_spare 23 = .ok (.aload_n 0, 1) := by decide +kernel
theorem dX11_spare_24 : decode cX11_spare 24 = .ok (.iload_n 1, 1) := by decide +kernel
theorem dX11_spare_25 : decode cX11_spare 25 = .ok (.invokevirtual 281, 3) := by decide +kernel
theorem dX11_spare_28 : decode cX11_spare 28 = .ok (.aload_n 0, 1) := by decide +kernel
theorem dX11_spare_29 : decode cX11_spare 29 = .ok (.getfield 68, 3) := by decide +kernel
theorem dX11_spare_32 : decode cX11_spare 32 = .ok (.iload_n 2, 1) := by decide +kernel
theorem dX11_spare_33 : decode cX11_spare 33 = .ok (.invokevirtual 294, 3) := by decide +kernel
theorem dX11_spare_36 : decode cX11_spare 36 = .ok (.ireturn, 1) := by decide +kernel
theorem dX11_keep_0 : decode cX11_keep 0 = .ok (.iload_n 1, 1) := by decide +kernel
theorem dX11_keep_1 : decode cX11_keep 1 = .ok (.ifCond .lt 8, 3) := by decide +kernel
theorem dX11_keep_4 : decode cX11_keep 4 = .ok (.iload_n 1, 1) := by decide +kernel
theorem dX11_keep_5 : decode cX11_keep 5 = .ok (.iconst 2, 1) := by decide +kernel
theorem dX11_keep_6 : decode cX11_keep 6 = .ok (.if_icmp .lt 5, 3) := by decide +kernel
theorem dX11_keep_9 : decode cX11_keep 9 = .ok (.iconst (-1), 1) := by decide +kernel
theorem dX11_keep_10 : decode cX11_keep 10 = .ok (.ireturn, 1) := by decide +kernel
theorem dX11_keep_11 : decode cX11_keep 11 = .ok (.aload_n 0, 1) := by decide +kernel
theorem dX11_keep_12 : decode cX11_keep 12 = .ok (.getfield 33, 3) := by decide +kernel
theorem dX11_keep_15 : decode cX11_keep 15 = .ok (.iload_n 1, 1) := by decide +kernel
theorem dX11_keep_16 : decode cX11_keep 16 = .ok (.aload_n 0, 1) := by decide +kernel
theorem dX11_keep_17 : decode cX11_keep 17 = .ok (.getfield 19, 3) := by decide +kernel
theorem dX11_keep_20 : decode cX11_keep 20 = .ok (.invokevirtual 297, 3) := by decide +kernel
theorem dX11_keep_23 : decode cX11_keep 23 = .ok (.aload_n 0, 1) := by decide +kernel
theorem dX11_keep_24 : decode cX11_keep 24 = .ok (.getfield 19, 3) := by decide +kernel
theorem dX11_keep_27 : decode cX11_keep 27 = .ok (.getfield 127, 3) := by decide +kernel
theorem dX11_keep_30 : decode cX11_keep 30 = .ok (.ireturn, 1) := by decide +kernel
theorem dX11_again_0 : decode cX11_again 0 = .ok (.iload_n 1, 1) := by decide +kernel
theorem dX11_again_1 : decode cX11_again 1 = .ok (.ifCond .lt 8, 3) := by decide +kernel
theorem dX11_again_4 : decode cX11_again 4 = .ok (.iload_n 1, 1) := by decide +kernel
theorem dX11_again_5 : decode cX11_again 5 = .ok (.iconst 2, 1) := by decide +kernel
theorem dX11_again_6 : decode cX11_again 6 = .ok (.if_icmp .lt 5, 3) := by decide +kernel
theorem dX11_again_9 : decode cX11_again 9 = .ok (.iconst (-1), 1) := by decide +kernel
theorem dX11_again_10 : decode cX11_again 10 = .ok (.ireturn, 1) := by decide +kernel
theorem dX11_again_11 : decode cX11_again 11 = .ok (.aload_n 0, 1) := by decide +kernel
theorem dX11_again_12 : decode cX11_again 12 = .ok (.getfield 33, 3) := by decide +kernel
theorem dX11_again_15 : decode cX11_again 15 = .ok (.iload_n 1, 1) := by decide +kernel
theorem dX11_again_16 : decode cX11_again 16 = .ok (.invokevirtual 301, 3) := by decide +kernel
theorem dX11_again_19 : decode cX11_again 19 = .ok (.ifCond .ne 6, 3) := by decide +kernel
theorem dX11_again_22 : decode cX11_again 22 = .ok (.bipush (-3), 2) := by decide +kernel
theorem dX11_again_24 : decode cX11_again 24 = .ok (.ireturn, 1) := by decide +kernel
theorem dX11_again_25 : decode cX11_again 25 = .ok (.aload_n 0, 1) := by decide +kernel
theorem dX11_again_26 : decode cX11_again 26 = .ok (.getfield 33, 3) := by decide +kernel
theorem dX11_again_29 : decode cX11_again 29 = .ok (.iload_n 1, 1) := by decide +kernel
theorem dX11_again_30 : decode cX11_again 30 = .ok (.aload_n 0, 1) := by decide +kernel
theorem dX11_again_31 : decode cX11_again 31 = .ok (.getfield 19, 3) := by decide +kernel
theorem dX11_again_34 : decode cX11_again 34 = .ok (.invokevirtual 304, 3) := by decide +kernel
theorem dX11_again_37 : decode cX11_again 37 = .ok (.aload_n 0, 1) := by decide +kernel
theorem dX11_again_38 : decode cX11_again 38 = .ok (.getfield 26, 3) := by decide +kernel
theorem dX11_again_41 : decode cX11_again 41 = .ok (.invokevirtual 114, 3) := by decide +kernel
theorem dX11_again_44 : decode cX11_again 44 = .ok (.aload_n 0, 1) := by decide +kernel
theorem dX11_again_45 : decode cX11_again 45 = .ok (.getfield 19, 3) := by decide +kernel
theorem dX11_again_48 : decode cX11_again 48 = .ok (.getfield 127, 3) := by decide +kernel
theorem dX11_again_51 : decode cX11_again 51 = .ok (.ireturn, 1) := by decide +kernel
theorem dX11_isWalker_0 : decode cX11_isWalker 0 = .ok (.iload_n 0, 1) := by decide +kernel
theorem dX11_isWalker_1 : decode cX11_isWalker 1 = .ok (.ifCond .lt 12, 3) := by decide +kernel
theorem dX11_isWalker_4 : decode cX11_isWalker 4 = .ok (.iload_n 0, 1) := by decide +kernel
theorem dX11_isWalker_5 : decode cX11_isWalker 5 = .ok (.iconst 2, 1) := by decide +kernel
theorem dX11_isWalker_6 : decode cX11_isWalker 6 = .ok (.if_icmp .ge 7, 3) := by decide +kernel
theorem dX11_isWalker_9 : decode cX11_isWalker 9 = .ok (.iconst 1, 1) := by decide +kernel
theorem dX11_isWalker_10 : decode cX11_isWalker 10 = .ok (.goto 4, 3) := by decide +kernel
theorem dX11_isWalker_13 : decode cX11_isWalker 13 = .ok (.iconst 0, 1) := by decide +kernel
theorem dX11_isWalker_14 : decode cX11_isWalker 14 = .ok (.ireturn, 1) := by decide +kernel
theorem dX11_toldSteps_0 : decode cX11_toldSteps 0 = .ok (.iload_n 0, 1) := by decide +kernel
theorem dX11_toldSteps_1 : decode cX11_toldSteps 1 = .ok (.ldc_w 307, 3) := by decide +kernel
theorem dX11_toldSteps_4 : decode cX11_toldSteps 4 = .ok (.if_icmp .lt 8, 3) := by decide +kernel
theorem dX11_toldSteps_7 : decode cX11_toldSteps 7 = .ok (.bipush (-9), 2) := by decide +kernel
theorem dX11_toldSteps_9 : decode cX11_toldSteps 9 = .ok (.goto 4, 3) := by decide +kernel
theorem dX11_toldSteps_12 : decode cX11_toldSteps 12 = .ok (.iload_n 0, 1) := by decide +kernel
theorem dX11_toldSteps_13 : decode cX11_toldSteps 13 = .ok (.ireturn, 1) := by decide +kernel
theorem dX11_splitRow_0 : decode cX11_splitRow 0 = .ok (.iload_n 1, 1) := by decide +kernel
theorem dX11_splitRow_1 : decode cX11_splitRow 1 = .ok (.istore_n 3, 1) := by decide +kernel
theorem dX11_splitRow_2 : decode cX11_splitRow 2 = .ok (.iload_n 2, 1) := by decide +kernel
theorem dX11_splitRow_3 : decode cX11_splitRow 3 = .ok (.iconst 1, 1) := by decide +kernel
theorem dX11_splitRow_4 : decode cX11_splitRow 4 = .ok (.isub, 1) := by decide +kernel
theorem dX11_splitRow_5 : decode cX11_splitRow 5 = .ok (.istore 4, 2) := by decide +kernel
theorem dX11_splitRow_7 : decode cX11_splitRow 7 = .ok (.iload 4, 2) := by decide +kernel
theorem dX11_splitRow_9 : decode cX11_splitRow 9 = .ok (.ifCond .lt 25, 3) := by decide +kernel
theorem dX11_splitRow_12 : decode cX11_splitRow 12 = .ok (.aload_n 0, 1) := by decide +kernel
theorem dX11_splitRow_13 : decode cX11_splitRow 13 = .ok (.getfield 72, 3) := by decide +kernel
theorem dX11_splitRow_16 : decode cX11_splitRow 16 = .ok (.iload 4, 2) := by decide +kernel
theorem dX11_splitRow_18 : decode cX11_splitRow 18 = .ok (.iload_n 3, 1) := by decide +kernel
theorem dX11_splitRow_19 : decode cX11_splitRow 19 = .ok (.bipush 10, 2) := by decide +kernel
theorem dX11_splitRow_21 : decode cX11_splitRow 21 = .ok (.irem, 1) := by decide +kernel
theorem dX11_splitRow_22 : decode cX11_splitRow 22 = .ok (.iastore, 1) := by decide +kernel
theorem dX11_splitRow_23 : decode cX11_splitRow 23 = .ok (.iload_n 3, 1) := by decide +kernel
theorem dX11_splitRow_24 : decode cX11_splitRow 24 = .ok (.bipush 10, 2) := by decide +kernel
theorem dX11_splitRow_26 : decode cX11_splitRow 26 = .ok (.idiv, 1) := by decide +kernel
theorem dX11_splitRow_27 : decode cX11_splitRow 27 = .ok (.istore_n 3, 1) := by decide +kernel
theorem dX11_splitRow_28 : decode cX11_splitRow 28 = .ok (.iinc 4 (-1), 3) := by decide +kernel
theorem dX11_splitRow_31 : decode cX11_splitRow 31 = .ok (.goto (-24), 3) := by decide +kernel
theorem dX11_splitRow_34 : decode cX11_splitRow 34 = .ok (.iload_n 3, 1) := by decide +kernel
theorem dX11_splitRow_35 : decode cX11_splitRow 35 = .ok (.ifCond .ne 7, 3) := by decide +kernel
theorem dX11_splitRow_38 : decode cX11_splitRow 38 = .ok (.iconst 1, 1) := by decide +kernel
theorem dX11_splitRow_39 : decode cX11_splitRow 39 = .ok (.goto 4, 3) := by decide +kernel
theorem dX11_splitRow_42 : decode cX11_splitRow 42 = .ok (.iconst 0, 1) := by decide +kernel
theorem dX11_splitRow_43 : decode cX11_splitRow 43 = .ok (.ireturn, 1) := by decide +kernel
theorem dX11_walkCost_0 : decode cX11_walkCost 0 = .ok (.iload_n 1, 1) := by decide +kernel
theorem dX11_walkCost_1 : decode cX11_walkCost 1 = .ok (.iload_n 2, 1) := by decide +kernel
theorem dX11_walkCost_2 : decode cX11_walkCost 2 = .ok (.if_icmp .ne 9, 3) := by decide +kernel
theorem dX11_walkCost_5 : decode cX11_walkCost 5 = .ok (.ldc_w 307, 3) := by decide +kernel
theorem dX11_walkCost_8 : decode cX11_walkCost 8 = .ok (.goto 12, 3) := by decide +kernel
theorem dX11_walkCost_11 : decode cX11_walkCost 11 = .ok (.aload_n 0, 1) := by decide +kernel
theorem dX11_walkCost_12 : decode cX11_walkCost 12 = .ok (.getfield 79, 3) := by decide +kernel
theorem dX11_walkCost_15 : decode cX11_walkCost 15 = .ok (.iload_n 1, 1) := by decide +kernel
theorem dX11_walkCost_16 : decode cX11_walkCost 16 = .ok (.iload_n 2, 1) := by decide +kernel
theorem dX11_walkCost_17 : decode cX11_walkCost 17 = .ok (.invokevirtual 156, 3) := by decide +kernel
theorem dX11_walkCost_20 : decode cX11_walkCost 20 = .ok (.ireturn, 1) := by decide +kernel
theorem dX11_openTo_0 : decode cX11_openTo 0 = .ok (.aload_n 0, 1) := by decide +kernel
theorem dX11_openTo_1 : decode cX11_openTo 1 = .ok (.getfield 79, 3) := by decide +kernel
theorem dX11_openTo_4 : decode cX11_openTo 4 = .ok (.iload_n 1, 1) := by decide +kernel
theorem dX11_openTo_5 : decode cX11_openTo 5 = .ok (.invokevirtual 250, 3) := by decide +kernel
theorem dX11_openTo_8 : decode cX11_openTo 8 = .ok (.aload_n 0, 1) := by decide +kernel
theorem dX11_openTo_9 : decode cX11_openTo 9 = .ok (.getfield 19, 3) := by decide +kernel
theorem dX11_openTo_12 : decode cX11_openTo 12 = .ok (.getfield 130, 3) := by decide +kernel
theorem dX11_openTo_15 : decode cX11_openTo 15 = .ok (.iconst (-1), 1) := by decide +kernel
theorem dX11_openTo_16 : decode cX11_openTo 16 = .ok (.ixor, 1) := by decide +kernel
theorem dX11_openTo_17 : decode cX11_openTo 17 = .ok (.iand, 1) := by decide +kernel
theorem dX11_openTo_18 : decode cX11_openTo 18 = .ok (.ireturn, 1) := by decide +kernel
theorem dX11_prepareGuess_0 : decode cX11_prepareGuess 0 = .ok (.aload_n 0, 1) := by decide +kernel
theorem dX11_prepareGuess_1 : decode cX11_prepareGuess 1 = .ok (.getfield 40, 3) := by decide +kernel
theorem dX11_prepareGuess_4 : decode cX11_prepareGuess 4 = .ok (.aload_n 0, 1) := by decide +kernel
theorem dX11_prepareGuess_5 : decode cX11_prepareGuess 5 = .ok (.getfield 79, 3) := by decide +kernel
theorem dX11_prepareGuess_8 : decode cX11_prepareGuess 8 = .ok (.iconst 0, 1) := by decide +kernel
theorem dX11_prepareGuess_9 : decode cX11_prepareGuess 9 = .ok (.iconst 0, 1) := by decide +kernel
theorem dX11_prepareGuess_10 : decode cX11_prepareGuess 10 = .ok (.invokevirtual 220, 3) := by decide +kernel
theorem dX11_prepareGuess_13 : decode cX11_prepareGuess 13 = .ok (.aload_n 0, 1) := by decide +kernel
theorem dX11_prepareGuess_14 : decode cX11_prepareGuess 14 = .ok (.getfield 68, 3) := by decide +kernel
theorem dX11_prepareGuess_17 : decode cX11_prepareGuess 17 = .ok (.aload_n 0, 1) := by decide +kernel
theorem dX11_prepareGuess_18 : decode cX11_prepareGuess 18 = .ok (.getfield 79, 3) := by decide +kernel
theorem dX11_prepareGuess_21 : decode cX11_prepareGuess 21 = .ok (.aload_n 0, 1) := by decide +kernel
theorem dX11_prepareGuess_22 : decode cX11_prepareGuess 22 = .ok (.getfield 40, 3) := by decide +kernel
theorem dX11_prepareGuess_25 : decode cX11_prepareGuess 25 = .ok (.iload_n 1, 1) := by decide +kernel
theorem dX11_prepareGuess_26 : decode cX11_prepareGuess 26 = .ok (.invokevirtual 308, 3) := by decide +kernel
theorem dX11_prepareGuess_29 : decode cX11_prepareGuess 29 = .ok (.return_, 1) := by decide +kernel
theorem dX11_commonDivisor_0 : decode cX11_commonDivisor 0 = .ok (.lload_n 0, 1) := by decide +kernel
theorem dX11_commonDivisor_1 : decode cX11_commonDivisor 1 = .ok (.lstore 4, 2) := by decide +kernel
theorem dX11_commonDivisor_3 : decode cX11_commonDivisor 3 = .ok (.lload_n 2, 1) := by decide +kernel
theorem dX11_commonDivisor_4 : decode cX11_commonDivisor 4 = .ok (.lstore 6, 2) := by decide +kernel
theorem dX11_commonDivisor_6 : decode cX11_commonDivisor 6 = .ok (.iconst 0, 1) := by decide +kernel
theorem dX11_commonDivisor_7 : decode cX11_commonDivisor 7 = .ok (.istore 8, 2) := by decide +kernel
theorem dX11_commonDivisor_9 : decode cX11_commonDivisor 9 = .ok (.iload 8, 2) := by decide +kernel
theorem dX11_commonDivisor_11 : decode cX11_commonDivisor 11 = .ok (.bipush 100, 2) := by decide +kernel
theorem dX11_commonDivisor_13 : decode cX11_commonDivisor 13 = .ok (.if_icmp .ge 31, 3) := by decide +kernel
theorem dX11_commonDivisor_16 : decode cX11_commonDivisor 16 = .ok (.lload 6, 2) := by decide +kernel
theorem dX11_commonDivisor_18 : decode cX11_commonDivisor 18 = .ok (.lconst 0, 1) := by decide +kernel
theorem dX11_commonDivisor_19 : decode cX11_commonDivisor 19 = .ok (.lcmp, 1) := by decide +kernel
theorem dX11_commonDivisor_20 : decode cX11_commonDivisor 20 = .ok (.ifCond .le 24, 3) := by decide +kernel
theorem dX11_commonDivisor_23 : decode cX11_commonDivisor 23 = .ok (.lload 4, 2) := by decide +kernel
theorem dX11_commonDivisor_25 : decode cX11_commonDivisor 25 = .ok (.lload 6, 2) := by decide +kernel
theorem dX11_commonDivisor_27 : decode cX11_commonDivisor 27 = .ok (.lrem, 1) := by decide +kernel
theorem dX11_commonDivisor_28 : decode cX11_commonDivisor 28 = .ok (.lstore 9, 2) := by decide +kernel
theorem dX11_commonDivisor_30 : decode cX11_commonDivisor 30 = .ok (.lload 6, 2) := by decide +kernel
theorem dX11_commonDivisor_32 : decode cX11_commonDivisor 32 = .ok (.lstore 4, 2) := by decide +kernel
theorem dX11_commonDivisor_34 : decode cX11_commonDivisor 34 = .ok (.lload 9, 2) := by decide +kernel
theorem dX11_commonDivisor_36 : decode cX11_commonDivisor 36 = .ok (.lstore 6, 2) := by decide +kernel
theorem dX11_commonDivisor_38 : decode cX11_commonDivisor 38 = .ok (.iinc 8 1, 3) := by decide +kernel
theorem dX11_commonDivisor_41 : decode cX11_commonDivisor 41 = .ok (.goto (-32), 3) := by decide +kernel
theorem dX11_commonDivisor_44 : decode cX11_commonDivisor 44 = .ok (.lload 4, 2) := by decide +kernel
theorem dX11_commonDivisor_46 : decode cX11_commonDivisor 46 = .ok (.lreturn, 1) := by decide +kernel
theorem dJ6_bitCount_0f7a4_0 : decode cJ6_bitCount_0f7a4 0 = .ok (.iload_n 0, 1) := by decide +kernel
theorem dJ6_bitCount_0f7a4_1 : decode cJ6_bitCount_0f7a4 1 = .ok (.iload_n 0, 1) := by decide +kernel
theorem dJ6_bitCount_0f7a4_2 : decode cJ6_bitCount_0f7a4 2 = .ok (.iconst 1, 1) := by decide +kernel
theorem dJ6_bitCount_0f7a4_3 : decode cJ6_bitCount_0f7a4 3 = .ok (.iushr, 1) := by decide +kernel
theorem dJ6_bitCount_0f7a4_4 : decode cJ6_bitCount_0f7a4 4 = .ok (.ldc_w 265, 3) := by decide +kernel
theorem dJ6_bitCount_0f7a4_7 : decode cJ6_bitCount_0f7a4 7 = .ok (.iand, 1) := by decide +kernel
theorem dJ6_bitCount_0f7a4_8 : decode cJ6_bitCount_0f7a4 8 = .ok (.isub, 1) := by decide +kernel
theorem dJ6_bitCount_0f7a4_9 : decode cJ6_bitCount_0f7a4 9 = .ok (.istore_n 0, 1) := by decide +kernel
theorem dJ6_bitCount_0f7a4_10 : decode cJ6_bitCount_0f7a4 10 = .ok (.iload_n 0, 1) := by decide +kernel
theorem dJ6_bitCount_0f7a4_11 : decode cJ6_bitCount_0f7a4 11 = .ok (.ldc_w 266, 3) := by decide +kernel
theorem dJ6_bitCount_0f7a4_14 : decode cJ6_bitCount_0f7a4 14 = .ok (.iand, 1) := by decide +kernel
theorem dJ6_bitCount_0f7a4_15 : decode cJ6_bitCount_0f7a4 15 = .ok (.iload_n 0, 1) := by decide +kernel
theorem dJ6_bitCount_0f7a4_16 : decode cJ6_bitCount_0f7a4 16 = .ok (.iconst 2, 1) := by decide +kernel
theorem dJ6_bitCount_0f7a4_17 : decode cJ6_bitCount_0f7a4 17 = .ok (.iushr, 1) := by decide +kernel
theorem dJ6_bitCount_0f7a4_18 : decode cJ6_bitCount_0f7a4 18 = .ok (.ldc_w 266, 3) := by decide +kernel
theorem dJ6_bitCount_0f7a4_21 : decode cJ6_bitCount_0f7a4 21 = .ok (.iand, 1) := by decide +kernel
theorem dJ6_bitCount_0f7a4_22 : decode cJ6_bitCount_0f7a4 22 = .ok (.iadd, 1) := by decide +kernel
theorem dJ6_bitCount_0f7a4_23 : decode cJ6_bitCount_0f7a4 23 = .ok (.istore_n 0, 1) := by decide +kernel
theorem dJ6_bitCount_0f7a4_24 : decode cJ6_bitCount_0f7a4 24 = .ok (.iload_n 0, 1) := by decide +kernel
theorem dJ6_bitCount_0f7a4_25 : decode cJ6_bitCount_0f7a4 25 = .ok (.iload_n 0, 1) := by decide +kernel
theorem dJ6_bitCount_0f7a4_26 : decode cJ6_bitCount_0f7a4 26 = .ok (.iconst 4, 1) := by decide +kernel
theorem dJ6_bitCount_0f7a4_27 : decode cJ6_bitCount_0f7a4 27 = .ok (.iushr, 1) := by decide +kernel
theorem dJ6_bitCount_0f7a4_28 : decode cJ6_bitCount_0f7a4 28 = .ok (.iadd, 1) := by decide +kernel
theorem dJ6_bitCount_0f7a4_29 : decode cJ6_bitCount_0f7a4 29 = .ok (.ldc_w 267, 3) := by decide +kernel
theorem dJ6_bitCount_0f7a4_32 : decode cJ6_bitCount_0f7a4 32 = .ok (.iand, 1) := by decide +kernel
theorem dJ6_bitCount_0f7a4_33 : decode cJ6_bitCount_0f7a4 33 = .ok (.istore_n 0, 1) := by decide +kernel
theorem dJ6_bitCount_0f7a4_34 : decode cJ6_bitCount_0f7a4 34 = .ok (.iload_n 0, 1) := by decide +kernel
theorem dJ6_bitCount_0f7a4_35 : decode cJ6_bitCount_0f7a4 35 = .ok (.iload_n 0, 1) := by decide +kernel
theorem dJ6_bitCount_0f7a4_36 : decode cJ6_bitCount_0f7a4 36 = .ok (.bipush 8, 2) := by decide +kernel
theorem dJ6_bitCount_0f7a4_38 : decode cJ6_bitCount_0f7a4 38 = .ok (.iushr, 1) := by decide +kernel
theorem dJ6_bitCount_0f7a4_39 : decode cJ6_bitCount_0f7a4 39 = .ok (.iadd, 1) := by decide +kernel
theorem dJ6_bitCount_0f7a4_40 : decode cJ6_bitCount_0f7a4 40 = .ok (.istore_n 0, 1) := by decide +kernel
theorem dJ6_bitCount_0f7a4_41 : decode cJ6_bitCount_0f7a4 41 = .ok (.iload_n 0, 1) := by decide +kernel
theorem dJ6_bitCount_0f7a4_42 : decode cJ6_bitCount_0f7a4 42 = .ok (.iload_n 0, 1) := by decide +kernel
theorem dJ6_bitCount_0f7a4_43 : decode cJ6_bitCount_0f7a4 43 = .ok (.bipush 16, 2) := by decide +kernel
theorem dJ6_bitCount_0f7a4_45 : decode cJ6_bitCount_0f7a4 45 = .ok (.iushr, 1) := by decide +kernel
theorem dJ6_bitCount_0f7a4_46 : decode cJ6_bitCount_0f7a4 46 = .ok (.iadd, 1) := by decide +kernel
theorem dJ6_bitCount_0f7a4_47 : decode cJ6_bitCount_0f7a4 47 = .ok (.istore_n 0, 1) := by decide +kernel
theorem dJ6_bitCount_0f7a4_48 : decode cJ6_bitCount_0f7a4 48 = .ok (.iload_n 0, 1) := by decide +kernel
theorem dJ6_bitCount_0f7a4_49 : decode cJ6_bitCount_0f7a4 49 = .ok (.bipush 63, 2) := by decide +kernel
theorem dJ6_bitCount_0f7a4_51 : decode cJ6_bitCount_0f7a4 51 = .ok (.iand, 1) := by decide +kernel
theorem dJ6_bitCount_0f7a4_52 : decode cJ6_bitCount_0f7a4 52 = .ok (.ireturn, 1) := by decide +kernel
theorem dJ9_abs_0f7a4_0 : decode cJ9_abs_0f7a4 0 = .ok (.iload_n 0, 1) := by decide +kernel
theorem dJ9_abs_0f7a4_1 : decode cJ9_abs_0f7a4 1 = .ok (.ifCond .ge 8, 3) := by decide +kernel
theorem dJ9_abs_0f7a4_4 : decode cJ9_abs_0f7a4 4 = .ok (.iload_n 0, 1) := by decide +kernel
theorem dJ9_abs_0f7a4_5 : decode cJ9_abs_0f7a4 5 = .ok (.ineg, 1) := by decide +kernel
theorem dJ9_abs_0f7a4_6 : decode cJ9_abs_0f7a4 6 = .ok (.goto 4, 3) := by decide +kernel
theorem dJ9_abs_0f7a4_9 : decode cJ9_abs_0f7a4 9 = .ok (.iload_n 0, 1) := by decide +kernel
theorem dJ9_abs_0f7a4_10 : decode cJ9_abs_0f7a4 10 = .ok (.ireturn, 1) := by decide +kernel
theorem dJ9_max_7cf53_0 : decode cJ9_max_7cf53 0 = .ok (.iload_n 0, 1) := by decide +kernel
theorem dJ9_max_7cf53_1 : decode cJ9_max_7cf53 1 = .ok (.iload_n 1, 1) := by decide +kernel
theorem dJ9_max_7cf53_2 : decode cJ9_max_7cf53 2 = .ok (.if_icmp .lt 7, 3) := by decide +kernel
theorem dJ9_max_7cf53_5 : decode cJ9_max_7cf53 5 = .ok (.iload_n 0, 1) := by decide +kernel
theorem dJ9_max_7cf53_6 : decode cJ9_max_7cf53 6 = .ok (.goto 4, 3) := by decide +kernel
theorem dJ9_max_7cf53_9 : decode cJ9_max_7cf53 9 = .ok (.iload_n 1, 1) := by decide +kernel
theorem dJ9_max_7cf53_10 : decode cJ9_max_7cf53 10 = .ok (.ireturn, 1) := by decide +kernel
theorem dJ9_min_7cf53_0 : decode cJ9_min_7cf53 0 = .ok (.iload_n 0, 1) := by decide +kernel
theorem dJ9_min_7cf53_1 : decode cJ9_min_7cf53 1 = .ok (.iload_n 1, 1) := by decide +kernel
theorem dJ9_min_7cf53_2 : decode cJ9_min_7cf53 2 = .ok (.if_icmp .gt 7, 3) := by decide +kernel
theorem dJ9_min_7cf53_5 : decode cJ9_min_7cf53 5 = .ok (.iload_n 0, 1) := by decide +kernel
theorem dJ9_min_7cf53_6 : decode cJ9_min_7cf53 6 = .ok (.goto 4, 3) := by decide +kernel
theorem dJ9_min_7cf53_9 : decode cJ9_min_7cf53 9 = .ok (.iload_n 1, 1) := by decide +kernel
theorem dJ9_min_7cf53_10 : decode cJ9_min_7cf53 10 = .ok (.ireturn, 1) := by decide +kernel
end
section
theorem dX12_init_0 : decode cX12_init 0 = .ok (.aload_n 0, 1) := by decide +kernel
theorem dX12_init_1 : decode cX12_init 1 = .ok (.invokespecial 1, 3) := by decide +kernel
theorem dX12_init_4 : decode cX12_init 4 = .ok (.aload_n 0, 1) := by decide +kernel
theorem dX12_init_5 : decode cX12_init 5 = .ok (.bipush 80, 2) := by decide +kernel
theorem dX12_init_7 : decode cX12_init 7 = .ok (.newarray .int, 2) := by decide +kernel
theorem dX12_init_9 : decode cX12_init 9 = .ok (.putfield 7, 3) := by decide +kernel
theorem dX12_init_12 : decode cX12_init 12 = .ok (.aload_n 0, 1) := by decide +kernel
theorem dX12_init_13 : decode cX12_init 13 = .ok (.iconst 2, 1) := by decide +kernel
theorem dX12_init_14 : decode cX12_init 14 = .ok (.putfield 13, 3) := by decide +kernel
theorem dX12_init_17 : decode cX12_init 17 = .ok (.aload_n 0, 1) := by decide +kernel
theorem dX12_init_18 : decode cX12_init 18 = .ok (.bipush 36, 2) := by decide +kernel
theorem dX12_init_20 : decode cX12_init 20 = .ok (.newarray .int, 2) := by decide +kernel
theorem dX12_init_22 : decode cX12_init 22 = .ok (.putfield 17, 3) := by decide +kernel
theorem dX12_init_25 : decode cX12_init 25 = .ok (.aload_n 0, 1) := by decide +kernel
theorem dX12_init_26 : decode cX12_init 26 = .ok (.bipush 6, 2) := by decide +kernel
theorem dX12_init_28 : decode cX12_init 28 = .ok (.newarray .int, 2) := by decide +kernel
theorem dX12_init_30 : decode cX12_init 30 = .ok (.putfield 20, 3) := by decide +kernel
theorem dX12_init_33 : decode cX12_init 33 = .ok (.aload_n 0, 1) := by decide +kernel
theorem dX12_init_34 : decode cX12_init 34 = .ok (.bipush 6, 2) := by decide +kernel
theorem dX12_init_36 : decode cX12_init 36 = .ok (.newarray .int, 2) := by decide +kernel
theorem dX12_init_38 : decode cX12_init 38 = .ok (.putfield 23, 3) := by decide +kernel
theorem dX12_init_41 : decode cX12_init 41 = .ok (.aload_n 0, 1) := by decide +kernel
theorem dX12_init_42 : decode cX12_init 42 = .ok (.bipush 6, 2) := by decide +kernel
theorem dX12_init_44 : decode cX12_init 44 = .ok (.newarray .int, 2) := by decide +kernel
theorem dX12_init_46 : decode cX12_init 46 = .ok (.putfield 26, 3) := by decide +kernel
theorem dX12_init_49 : decode cX12_init 49 = .ok (.aload_n 0, 1) := by decide +kernel
theorem dX12_init_50 : decode cX12_init 50 = .ok (.bipush 36, 2) := by decide +kernel
theorem dX12_init_52 : decode cX12_init 52 = .ok (.newarray .int, 2) := by decide +kernel
theorem dX12_init_54 : decode cX12_init 54 = .ok (.putfield 29, 3) := by decide +kernel
theorem dX12_init_57 : decode cX12_init 57 = .ok (.aload_n 0, 1) := by decide +kernel
theorem dX12_init_58 : decode cX12_init 58 = .ok (.bipush 6, 2) := by decide +kernel
theorem dX12_init_60 : decode cX12_init 60 = .ok (.newarray .int, 2) := by decide +kernel
theorem dX12_init_62 : decode cX12_init 62 = .ok (.putfield 32, 3) := by decide +kernel
theorem dX12_init_65 : decode cX12_init 65 = .ok (.aload_n 0, 1) := by decide +kernel
theorem dX12_init_66 : decode cX12_init 66 = .ok (.bipush 6, 2) := by decide +kernel
theorem dX12_init_68 : decode cX12_init 68 = .ok (.newarray .int, 2) := by decide +kernel
theorem dX12_init_70 : decode cX12_init 70 = .ok (.putfield 35, 3) := by decide +kernel
theorem dX12_init_73 : decode cX12_init 73 = .ok (.aload_n 0, 1) := by decide +kernel
theorem dX12_init_74 : decode cX12_init 74 = .ok (.bipush 6, 2) := by decide +kernel
theorem dX12_init_76 : decode cX12_init 76 = .ok (.newarray .int, 2) := by decide +kernel
theorem dX12_init_78 : decode cX12_init 78 = .ok (.putfield 38, 3) := by decide +kernel
theorem dX12_init_81 : decode cX12_init 81 = .ok (.aload_n 0, 1) := by decide +kernel
theorem dX12_init_82 : decode cX12_init 82 = .ok (.iconst 2, 1) := by decide +kernel
theorem dX12_init_83 : decode cX12_init 83 = .ok (.newarray .int, 2) := by decide +kernel
theorem dX12_init_85 : decode cX12_init 85 = .ok (.putfield 41, 3) := by decide +kernel
theorem dX12_init_88 : decode cX12_init 88 = .ok (.aload_n 0, 1) := by decide +kernel
theorem dX12_init_89 : decode cX12_init 89 = .ok (.bipush 8, 2) := by decide +kernel
theorem dX12_init_91 : decode cX12_init 91 = .ok (.newarray .int, 2) := by decide +kernel
theorem dX12_init_93 : decode cX12_init 93 = .ok (.putfield 44, 3) := by decide +kernel
theorem dX12_init_96 : decode cX12_init 96 = .ok (.aload_n 0, 1) := by decide +kernel
theorem dX12_init_97 : decode cX12_init 97 = .ok (.sipush 448, 3) := by decide +kernel
theorem dX12_init_100 : decode cX12_init 100 = .ok (.newarray .int, 2) := by decide +kernel
theorem dX12_init_102 : decode cX12_init 102 = .ok (.putfield 47, 3) := by decide +kernel
theorem dX12_init_105 : decode cX12_init 105 = .ok (.aload_n 0, 1) := by decide +kernel
theorem dX12_init_106 : decode cX12_init 106 = .ok (.bipush 56, 2) := by decide +kernel
theorem dX12_init_108 : decode cX12_init 108 = .ok (.newarray .int, 2) := by decide +kernel
theorem dX12_init_110 : decode cX12_init 110 = .ok (.putfield 50, 3) := by decide +kernel
theorem dX12_init_113 : decode cX12_init 113 = .ok (.aload_n 0, 1) := by decide +kernel
theorem dX12_init_114 : decode cX12_init 114 = .ok (.iconst 2, 1) := by decide +kernel
theorem dX12_init_115 : decode cX12_init 115 = .ok (.newarray .boolean, 2) := by decide +kernel
theorem dX12_init_117 : decode cX12_init 117 = .ok (.putfield 53, 3) := by decide +kernel
theorem dX12_init_120 : decode cX12_init 120 = .ok (.aload_n 0, 1) := by decide +kernel
theorem dX12_init_121 : decode cX12_init 121 = .ok (.sipush 128, 3) := by decide +kernel
theorem dX12_init_124 : decode cX12_init 124 = .ok (.newarray .int, 2) := by decide +kernel
theorem dX12_init_126 : decode cX12_init 126 = .ok (.putfield 57, 3) := by decide +kernel
theorem dX12_init_129 : decode cX12_init 129 = .ok (.aload_n 0, 1) := by decide +kernel
theorem dX12_init_130 : decode cX12_init 130 = .ok (.sipush 384, 3) := by decide +kernel
theorem dX12_init_133 : decode cX12_init 133 = .ok (.newarray .int, 2) := by decide +kernel
theorem dX12_init_135 : decode cX12_init 135 = .ok (.putfield 60, 3) := by decide +kernel
theorem dX12_init_138 : decode cX12_init 138 = .ok (.aload_n 0, 1) := by decide +kernel
theorem dX12_init_139 : decode cX12_init 139 = .ok (.bipush 9, 2) := by decide +kernel
theorem dX12_init_141 : decode cX12_init 141 = .ok (.newarray .int, 2) := by decide +kernel
theorem dX12_init_143 : decode cX12_init 143 = .ok (.putfield 63, 3) := by decide +kernel
theorem dX12_init_146 : decode cX12_init 146 = .ok (.aload_n 0, 1) := by decide +kernel
theorem dX12_init_147 : decode cX12_init 147 = .ok (.bipush 9, 2) := by decide +kernel
theorem dX12_init_149 : decode cX12_init 149 = .ok (.newarray .int, 2) := by decide +kernel
theorem dX12_init_151 : decode cX12_init 151 = .ok (.putfield 66, 3) := by decide +kernel
theorem dX12_init_154 : decode cX12_init 154 = .ok (.aload_n 0, 1) := by decide +kernel
theorem dX12_init_155 : decode cX12_init 155 = .ok (.bipush 9, 2) := by decide +kernel
theorem dX12_init_157 : decode cX12_init 157 = .ok (.newarray .int, 2) := by decide +kernel
theorem dX12_init_159 : decode cX12_init 159 = .ok (.putfield 69, 3) := by decide +kernel
theorem dX12_init_162 : decode cX12_init 162 = .ok (.aload_n 0, 1) := by decide +kernel
theorem dX12_init_163 : decode cX12_init 163 = .ok (.bipush 9, 2) := by decide +kernel
theorem dX12_init_165 : decode cX12_init 165 = .ok (.newarray .int, 2) := by decide +kernel
theorem dX12_init_167 : decode cX12_init 167 = .ok (.putfield 72, 3) := by decide +kernel
theorem dX12_init_170 : decode cX12_init 170 = .ok (.aload_n 0, 1) := by decide +kernel
theorem dX12_init_171 : decode cX12_init 171 = .ok (.bipush 9, 2) := by decide +kernel
theorem dX12_init_173 : decode cX12_init 173 = .ok (.newarray .int, 2) := by decide +kernel
theorem dX12_init_175 : decode cX12_init 175 = .ok (.putfield 75, 3) := by decide +kernel
theorem dX12_init_178 : decode cX12_init 178 = .ok (.aload_n 0, 1) := by decide +kernel
theorem dX12_init_179 : decode cX12_init 179 = .ok (.bipush 9, 2) := by decide +kernel
theorem dX12_init_181 : decode cX12_init 181 = .ok (.newarray .int, 2) := by decide +kernel
theorem dX12_init_183 : decode cX12_init 183 = .ok (.putfield 78, 3) := by decide +kernel
theorem dX12_init_186 : decode cX12_init 186 = .ok (.aload_n 0, 1) := by decide +kernel
theorem dX12_init_187 : decode cX12_init 187 = .ok (.bipush 9, 2) := by decide +kernel
theorem dX12_init_189 : decode cX12_init 189 = .ok (.newarray .int, 2) := by decide +kernel
theorem dX12_init_191 : decode cX12_init 191 = .ok (.putfield 81, 3) := by decide +kernel
theorem dX12_init_194 : decode cX12_init 194 = .ok (.aload_n 0, 1) := by decide +kernel
theorem dX12_init_195 : decode cX12_init 195 = .ok (.bipush 9, 2) := by decide +kernel
theorem dX12_init_197 : decode cX12_init 197 = .ok (.newarray .int, 2) := by decide +kernel
theorem dX12_init_199 : decode cX12_init 199 = .ok (.putfield 84, 3) := by decide +kernel
theorem dX12_init_202 : decode cX12_init 202 = .ok (.aload_n 0, 1) := by decide +kernel
theorem dX12_init_203 : decode cX12_init 203 = .ok (.bipush 9, 2) := by decide +kernel
theorem dX12_init_205 : decode cX12_init 205 = .ok (.newarray .int, 2) := by decide +kernel
theorem dX12_init_207 : decode cX12_init 207 = .ok (.putfield 87, 3) := by decide +kernel
theorem dX12_init_210 : decode cX12_init 210 = .ok (.aload_n 0, 1) := by decide +kernel
theorem dX12_init_211 : decode cX12_init 211 = .ok (.bipush 9, 2) := by decide +kernel
theorem dX12_init_213 : decode cX12_init 213 = .ok (.newarray .int, 2) := by decide +kernel
theorem dX12_init_215 : decode cX12_init 215 = .ok (.putfield 90, 3) := by decide +kernel
theorem dX12_init_218 : decode cX12_init 218 = .ok (.aload_n 0, 1) := by decide +kernel
theorem dX12_init_219 : decode cX12_init 219 = .ok (.bipush 9, 2) := by decide +kernel
theorem dX12_init_221 : decode cX12_init 221 = .ok (.newarray .int, 2) := by decide +kernel
theorem dX12_init_223 : decode cX12_init 223 = .ok (.putfield 93, 3) := by decide +kernel
theorem dX12_init_226 : decode cX12_init 226 = .ok (.aload_n 0, 1) := by decide +kernel
theorem dX12_init_227 : decode cX12_init 227 = .ok (.sipush 6000, 3) := by decide +kernel
theorem dX12_init_230 : decode cX12_init 230 = .ok (.newarray .long, 2) := by decide +kernel
theorem dX12_init_232 : decode cX12_init 232 = .ok (.putfield 96, 3) := by decide +kernel
theorem dX12_init_235 : decode cX12_init 235 = .ok (.aload_n 0, 1) := by decide +kernel
theorem dX12_init_236 : decode cX12_init 236 = .ok (.sipush 6000, 3) := by decide +kernel
theorem dX12_init_239 : decode cX12_init 239 = .ok (.newarray .long, 2) := by decide +kernel
theorem dX12_init_241 : decode cX12_init 241 = .ok (.putfield 100, 3) := by decide +kernel
theorem dX12_init_244 : decode cX12_init 244 = .ok (.iconst 0, 1) := by decide +kernel
theorem dX12_init_245 : decode cX12_init 245 = .ok (.istore_n 1, 1) := by decide +kernel
theorem dX12_init_246 : decode cX12_init 246 = .ok (.iload_n 1, 1) := by decide +kernel
theorem dX12_init_247 : decode cX12_init 247 = .ok (.bipush 36, 2) := by decide +kernel
theorem dX12_init_249 : decode cX12_init 249 = .ok (.if_icmp .ge 32, 3) := by decide +kernel
theorem dX12_init_252 : decode cX12_init 252 = .ok (.aload_n 0, 1) := by decide +kernel
theorem dX12_init_253 : decode cX12_init 253 = .ok (.getfield 17, 3) := by decide +kernel
theorem dX12_init_256 : decode cX12_init 256 = .ok (.iload_n 1, 1) := by decide +kernel
theorem dX12_init_257 : decode cX12_init 257 = .ok (.iload_n 1, 1) := by decide +kernel
theorem dX12_init_258 : decode cX12_init 258 = .ok (.bipush 6, 2) := by decide +kernel
theorem dX12_init_260 : decode cX12_init 260 = .ok (.idiv, 1) := by decide +kernel
theorem dX12_init_261 : decode cX12_init 261 = .ok (.iload_n 1, 1) := by decide +kernel
theorem dX12_init_262 : decode cX12_init 262 = .ok (.bipush 6, 2) := by decide +kernel
theorem dX12_init_264 : decode cX12_init 264 = .ok (.irem, 1) := by decide +kernel
theorem dX12_init_265 : decode cX12_init 265 = .ok (.if_icmp .ne 7, 3) := by decide +kernel
theorem dX12_init_268 : decode cX12_init 268 = .ok (.iconst 0, 1) := by decide +kernel
theorem dX12_init_269 : decode cX12_init 269 = .ok (.goto 5, 3) := by decide +kernel
theorem dX12_init_272 : decode cX12_init 272 = .ok (.ldc 103, 2) := by decide +kernel
theorem dX12_init_274 : decode cX12_init 274 = .ok (.iastore, 1) := by decide +kernel
theorem dX12_init_275 : decode cX12_init 275 = .ok (.iinc 1 1, 3) := by decide +kernel
theorem dX12_init_278 : decode cX12_init 278 = .ok (.goto (-32), 3) := by decide +kernel
theorem dX12_init_281 : decode cX12_init 281 = .ok (.return_, 1) := by decide +kernel
theorem dX12_in_0 : decode cX12_in 0 = .ok (.lload_n 0, 1) := by decide +kernel
theorem dX12_in_1 : decode cX12_in 1 = .ok (.lload_n 2, 1) := by decide +kernel
theorem dX12_in_2 : decode cX12_in 2 = .ok (.lcmp, 1) := by decide +kernel
theorem dX12_in_3 : decode cX12_in 3 = .ok (.ifCond .lt 14, 3) := by decide +kernel
theorem dX12_in_6 : decode cX12_in 6 = .ok (.lload_n 0, 1) := by decide +kernel
theorem dX12_in_7 : decode cX12_in 7 = .ok (.lload 4, 2) := by decide +kernel
theorem dX12_in_9 : decode cX12_in 9 = .ok (.lcmp, 1) := by decide +kernel
theorem dX12_in_10 : decode cX12_in 10 = .ok (.ifCond .gt 7, 3) := by decide +kernel
theorem dX12_in_13 : decode cX12_in 13 = .ok (.iconst 1, 1) := by decide +kernel
theorem dX12_in_14 : decode cX12_in 14 = .ok (.goto 4, 3) := by decide +kernel
theorem dX12_in_17 : decode cX12_in 17 = .ok (.iconst 0, 1) := by decide +kernel
theorem dX12_in_18 : decode cX12_in 18 = .ok (.ireturn, 1) := by decide +kernel
theorem dX12_has_0 : decode cX12_has 0 = .ok (.iload_n 0, 1) := by decide +kernel
theorem dX12_has_1 : decode cX12_has 1 = .ok (.iload_n 1, 1) := by decide +kernel
theorem dX12_has_2 : decode cX12_has 2 = .ok (.ishr, 1) := by decide +kernel
theorem dX12_has_3 : decode cX12_has 3 = .ok (.iconst 1, 1) := by decide +kernel
theorem dX12_has_4 : decode cX12_has 4 = .ok (.iand, 1) := by decide +kernel
theorem dX12_has_5 : decode cX12_has 5 = .ok (.iconst 1, 1) := by decide +kernel
theorem dX12_has_6 : decode cX12_has 6 = .ok (.if_icmp .ne 7, 3) := by decide +kernel
theorem dX12_has_9 : decode cX12_has 9 = .ok (.iconst 1, 1) := by decide +kernel
theorem dX12_has_10 : decode cX12_has 10 = .ok (.goto 4, 3) := by decide +kernel
theorem dX12_has_13 : decode cX12_has 13 = .ok (.iconst 0, 1) := by decide +kernel
theorem dX12_has_14 : decode cX12_has 14 = .ok (.ireturn, 1) := by decide +kernel
theorem dX12_noPlace_0 : decode cX12_noPlace 0 = .ok (.iload_n 1, 1) := by decide +kernel
theorem dX12_noPlace_1 : decode cX12_noPlace 1 = .ok (.i2l, 1) := by decide +kernel
theorem dX12_noPlace_2 : decode cX12_noPlace 2 = .ok (.lconst 0, 1) := by decide +kernel
theorem dX12_noPlace_3 : decode cX12_noPlace 3 = .ok (.aload_n 0, 1) := by decide +kernel
theorem dX12_noPlace_4 : decode cX12_noPlace 4 = .ok (.getfield 13, 3) := by decide +kernel
theorem dX12_noPlace_7 : decode cX12_noPlace 7 = .ok (.iconst 1, 1) := by decide +kernel
theorem dX12_noPlace_8 : decode cX12_noPlace 8 = .ok (.isub, 1) := by decide +kernel
theorem dX12_noPlace_9 : decode cX12_noPlace 9 = .ok (.i2l, 1) := by decide +kernel
theorem dX12_noPlace_10 : decode cX12_noPlace 10 = .ok (.invokestatic 107, 3) := by decide +kernel
theorem dX12_noPlace_13 : decode cX12_noPlace 13 = .ok (.ifCond .ne 7, 3) := by decide +kernel
theorem dX12_noPlace_16 : decode cX12_noPlace 16 = .ok (.iconst 1, 1) := by decide +kernel
theorem dX12_noPlace_17 : decode cX12_noPlace 17 = .ok (.goto 4, 3) := by decide +kernel
theorem dX12_noPlace_20 : decode cX12_noPlace 20 = .ok (.iconst 0, 1) := by decide +kernel
theorem dX12_noPlace_21 : decode cX12_noPlace 21 = .ok (.ireturn, 1) := by decide +kernel
theorem dX12_noErrand_0 : decode cX12_noErrand 0 = .ok (.iload_n 1, 1) := by decide +kernel
theorem dX12_noErrand_1 : decode cX12_noErrand 1 = .ok (.i2l, 1) := by decide +kernel
theorem dX12_noErrand_2 : decode cX12_noErrand 2 = .ok (.lconst 0, 1) := by decide +kernel
theorem dX12_noErrand_3 : decode cX12_noErrand 3 = .ok (.aload_n 0, 1) := by decide +kernel
theorem dX12_noErrand_4 : decode cX12_noErrand 4 = .ok (.getfield 111, 3) := by decide +kernel
theorem dX12_noErrand_7 : decode cX12_noErrand 7 = .ok (.iconst 1, 1) := by decide +kernel
theorem dX12_noErrand_8 : decode cX12_noErrand 8 = .ok (.isub, 1) := by decide +kernel
theorem dX12_noErrand_9 : decode cX12_noErrand 9 = .ok (.i2l, 1) := by decide +kernel
theorem dX12_noErrand_10 : decode cX12_noErrand 10 = .ok (.invokestatic 107, 3) := by decide +kernel
theorem dX12_noErrand_13 : decode cX12_noErrand 13 = .ok (.ifCond .ne 7, 3) := by decide +kernel
theorem dX12_noErrand_16 : decode cX12_noErrand 16 = .ok (.iconst 1, 1) := by decide +kernel
theorem dX12_noErrand_17 : decode cX12_noErrand 17 = .ok (.goto 4, 3) := by decide +kernel
theorem dX12_noErrand_20 : decode cX12_noErrand 20 = .ok (.iconst 0, 1) := by decide +kernel
theorem dX12_noErrand_21 : decode cX12_noErrand 21 = .ok (.ireturn, 1) := by decide +kernel
theorem dX12_noWalker_0 : decode cX12_noWalker 0 = .ok (.iload_n 0, 1) := by decide +kernel
theorem dX12_noWalker_1 : decode cX12_noWalker 1 = .ok (.i2l, 1) := by decide +kernel
theorem dX12_noWalker_2 : decode cX12_noWalker 2 = .ok (.lconst 0, 1) := by decide +kernel
theorem dX12_noWalker_3 : decode cX12_noWalker 3 = .ok (.lconst 1, 1) := by decide +kernel
theorem dX12_noWalker_4 : decode cX12_noWalker 4 = .ok (.invokestatic 107, 3) := by decide +kernel
theorem dX12_noWalker_7 : decode cX12_noWalker 7 = .ok (.ifCond .ne 7, 3) := by decide +kernel
theorem dX12_noWalker_10 : decode cX12_noWalker 10 = .ok (.iconst 1, 1) := by decide +kernel
theorem dX12_noWalker_11 : decode cX12_noWalker 11 = .ok (.goto 4, 3) := by decide +kernel
theorem dX12_noWalker_14 : decode cX12_noWalker 14 = .ok (.iconst 0, 1) := by decide +kernel
theorem dX12_noWalker_15 : decode cX12_noWalker 15 = .ok (.ireturn, 1) := by decide +kernel
theorem dX12_write_0 : decode cX12_write 0 = .ok (.aload_n 0, 1) := by decide +kernel
theorem dX12_write_1 : decode cX12_write 1 = .ok (.iconst 0, 1) := by decide +kernel
theorem dX12_write_2 : decode cX12_write 2 = .ok (.putfield 104, 3) := by decide +kernel
theorem dX12_write_5 : decode cX12_write 5 = .ok (.iload_n 1, 1) := by decide +kernel
theorem dX12_write_6 : decode cX12_write 6 = .ok (.i2l, 1) := by decide +kernel
theorem dX12_write_7 : decode cX12_write 7 = .ok (.lconst 1, 1) := by decide +kernel
theorem dX12_write_8 : decode cX12_write 8 = .ok (.ldc2_w 114, 3) := by decide +kernel
theorem dX12_write_11 : decode cX12_write 11 = .ok (.invokestatic 107, 3) := by decide +kernel
theorem dX12_write_14 : decode cX12_write 14 = .ok (.ifCond .ne 6, 3) := by decide +kernel
theorem dX12_write_17 : decode cX12_write 17 = .ok (.bipush (-2), 2) := by decide +kernel
theorem dX12_write_19 : decode cX12_write 19 = .ok (.ireturn, 1) := by decide +kernel
theorem dX12_write_20 : decode cX12_write 20 = .ok (.aload_n 0, 1) := by decide +kernel
theorem dX12_write_21 : decode cX12_write 21 = .ok (.getfield 116, 3) := by decide +kernel
theorem dX12_write_24 : decode cX12_write 24 = .ok (.iload_n 1, 1) := by decide +kernel
theorem dX12_write_25 : decode cX12_write 25 = .ok (.iadd, 1) := by decide +kernel
theorem dX12_write_26 : decode cX12_write 26 = .ok (.bipush 80, 2) := by decide +kernel
theorem dX12_write_28 : decode cX12_write 28 = .ok (.if_icmp .le 6, 3) := by decide +kernel
theorem dX12_write_31 : decode cX12_write 31 = .ok (.bipush (-4), 2) := by decide +kernel
theorem dX12_write_33 : decode cX12_write 33 = .ok (.ireturn, 1) := by decide +kernel
theorem dX12_write_34 : decode cX12_write 34 = .ok (.iload_n 1, 1) := by decide +kernel
theorem dX12_write_35 : decode cX12_write 35 = .ok (.iconst 1, 1) := by decide +kernel
theorem dX12_write_36 : decode cX12_write 36 = .ok (.isub, 1) := by decide +kernel
theorem dX12_write_37 : decode cX12_write 37 = .ok (.istore 4, 2) := by decide +kernel
theorem dX12_write_39 : decode cX12_write 39 = .ok (.iload 4, 2) := by decide +kernel
theorem dX12_write_41 : decode cX12_write 41 = .ok (.ifCond .lt 40, 3) := by decide +kernel
theorem dX12_write_44 : decode cX12_write 44 = .ok (.aload_n 0, 1) := by decide +kernel
theorem dX12_write_45 : decode cX12_write 45 = .ok (.getfield 7, 3) := by decide +kernel
theorem dX12_write_48 : decode cX12_write 48 = .ok (.aload_n 0, 1) := by decide +kernel
theorem dX12_write_49 : decode cX12_write 49 = .ok (.getfield 116, 3) := by decide +kernel
theorem dX12_write_52 : decode cX12_write 52 = .ok (.lload_n 2, 1) := by decide +kernel
theorem dX12_write_53 : decode cX12_write 53 = .ok (.bipush 8, 2) := by decide +kernel
theorem dX12_write_55 : decode cX12_write 55 = .ok (.iload 4, 2) := by decide +kernel
theorem dX12_write_57 : decode cX12_write 57 = .ok (.imul, 1) := by decide +kernel
theorem dX12_write_58 : decode cX12_write 58 = .ok (.lshr, 1) := by decide +kernel
theorem dX12_write_59 : decode cX12_write 59 = .ok (.l2i, 1) := by decide +kernel
theorem dX12_write_60 : decode cX12_write 60 = .ok (.sipush 255, 3) := by decide +kernel
theorem dX12_write_63 : decode cX12_write 63 = .ok (.iand, 1) := by decide +kernel
theorem dX12_write_64 : decode cX12_write 64 = .ok (.iastore, 1) := by decide +kernel
theorem dX12_write_65 : decode cX12_write 65 = .ok (.aload_n 0, 1) := by decide +kernel
theorem dX12_write_66 : decode cX12_write 66 = .ok (.dup, 1) := by decide +kernel
theorem dX12_write_67 : decode cX12_write 67 = .ok (.getfield 116, 3) := by decide +kernel
theorem dX12_write_70 : decode cX12_write 70 = .ok (.iconst 1, 1) := by decide +kernel
theorem dX12_write_71 : decode cX12_write 71 = .ok (.iadd, 1) := by decide +kernel
theorem dX12_write_72 : decode cX12_write 72 = .ok (.putfield 116, 3) := by decide +kernel
theorem dX12_write_75 : decode cX12_write 75 = .ok (.iinc 4 (-1), 3) := by decide +kernel
theorem dX12_write_78 : decode cX12_write 78 = .ok (.goto (-39), 3) := by decide +kernel
theorem dX12_write_81 : decode cX12_write 81 = .ok (.aload_n 0, 1) := by decide +kernel
theorem dX12_write_82 : decode cX12_write 82 = .ok (.getfield 116, 3) := by decide +kernel
theorem dX12_write_85 : decode cX12_write 85 = .ok (.ireturn, 1) := by decide +kernel
theorem dX12_wipe_0 : decode cX12_wipe 0 = .ok (.aload_n 0, 1) := by decide +kernel
theorem dX12_wipe_1 : decode cX12_wipe 1 = .ok (.iconst 0, 1) := by decide +kernel
theorem dX12_wipe_2 : decode cX12_wipe 2 = .ok (.putfield 104, 3) := by decide +kernel
theorem dX12_wipe_5 : decode cX12_wipe 5 = .ok (.aload_n 0, 1) := by decide +kernel
theorem dX12_wipe_6 : decode cX12_wipe 6 = .ok (.getfield 116, 3) := by decide +kernel
theorem dX12_wipe_9 : decode cX12_wipe 9 = .ok (.istore_n 1, 1) := by decide +kernel
theorem dX12_wipe_10 : decode cX12_wipe 10 = .ok (.aload_n 0, 1) := by decide +kernel
theorem dX12_wipe_11 : decode cX12_wipe 11 = .ok (.iconst 0, 1) := by decide +kernel
theorem dX12_wipe_12 : decode cX12_wipe 12 = .ok (.putfield 116, 3) := by decide +kernel
theorem dX12_wipe_15 : decode cX12_wipe 15 = .ok (.iload_n 1, 1) := by decide +kernel
theorem dX12_wipe_16 : decode cX12_wipe 16 = .ok (.ireturn, 1) := by decide +kernel
theorem dX12_figure_0 : decode cX12_figure 0 = .ok (.aload_n 0, 1) := by decide +kernel
theorem dX12_figure_1 : decode cX12_figure 1 = .ok (.getfield 119, 3) := by decide +kernel
theorem dX12_figure_4 : decode cX12_figure 4 = .ok (.aload_n 0, 1) := by decide +kernel
theorem dX12_figure_5 : decode cX12_figure 5 = .ok (.getfield 116, 3) := by decide +kernel
theorem dX12_figure_8 : decode cX12_figure 8 = .ok (.if_icmp .eq 26, 3) := by decide +kernel
theorem dX12_figure_11 : decode cX12_figure 11 = .ok (.aload_n 0, 1) := by decide +kernel
theorem dX12_figure_12 : decode cX12_figure 12 = .ok (.getfield 7, 3) := by decide +kernel
theorem dX12_figure_15 : decode cX12_figure 15 = .ok (.aload_n 0, 1) := by decide +kernel
theorem dX12_figure_16 : decode cX12_figure 16 = .ok (.getfield 119, 3) := by decide +kernel
theorem dX12_figure_19 : decode cX12_figure 19 = .ok (.iaload, 1) := by decide +kernel
theorem dX12_figure_20 : decode cX12_figure 20 = .ok (.bipush 48, 2) := by decide +kernel
theorem dX12_figure_22 : decode cX12_figure 22 = .ok (.isub, 1) := by decide +kernel
theorem dX12_figure_23 : decode cX12_figure 23 = .ok (.i2l, 1) := by decide +kernel
theorem dX12_figure_24 : decode cX12_figure 24 = .ok (.iload_n 1, 1) := by decide +kernel
theorem dX12_figure_25 : decode cX12_figure 25 = .ok (.i2l, 1) := by decide +kernel
theorem dX12_figure_26 : decode cX12_figure 26 = .ok (.iload_n 2, 1) := by decide +kernel
theorem dX12_figure_27 : decode cX12_figure 27 = .ok (.i2l, 1) := by decide +kernel
theorem dX12_figure_28 : decode cX12_figure 28 = .ok (.invokestatic 107, 3) := by decide +kernel
theorem dX12_figure_31 : decode cX12_figure 31 = .ok (.ifCond .ne 6, 3) := by decide +kernel
theorem dX12_figure_34 : decode cX12_figure 34 = .ok (.bipush (-9), 2) := by decide +kernel
theorem dX12_figure_36 : decode cX12_figure 36 = .ok (.ireturn, 1) := by decide +kernel
theorem dX12_figure_37 : decode cX12_figure 37 = .ok (.aload_n 0, 1) := by decide +kernel
theorem dX12_figure_38 : decode cX12_figure 38 = .ok (.dup, 1) := by decide +kernel
theorem dX12_figure_39 : decode cX12_figure 39 = .ok (.getfield 119, 3) := by decide +kernel
theorem dX12_figure_42 : decode cX12_figure 42 = .ok (.iconst 1, 1) := by decide +kernel
theorem dX12_figure_43 : decode cX12_figure 43 = .ok (.iadd, 1) := by decide +kernel
theorem dX12_figure_44 : decode cX12_figure 44 = .ok (.putfield 119, 3) := by decide +kernel
theorem dX12_figure_47 : decode cX12_figure 47 = .ok (.aload_n 0, 1) := by decide +kernel
theorem dX12_figure_48 : decode cX12_figure 48 = .ok (.getfield 7, 3) := by decide +kernel
theorem dX12_figure_51 : decode cX12_figure 51 = .ok (.aload_n 0, 1) := by decide +kernel
theorem dX12_figure_52 : decode cX12_figure 52 = .ok (.getfield 119, 3) := by decide +kernel
theorem dX12_figure_55 : decode cX12_figure 55 = .ok (.iconst 1, 1) := by decide +kernel
theorem dX12_figure_56 : decode cX12_figure 56 = .ok (.isub, 1) := by decide +kernel
theorem dX12_figure_57 : decode cX12_figure 57 = .ok (.iaload, 1) := by decide +kernel
theorem dX12_figure_58 : decode cX12_figure 58 = .ok (.bipush 48, 2) := by decide +kernel
theorem dX12_figure_60 : decode cX12_figure 60 = .ok (.isub, 1) := by decide +kernel
theorem dX12_figure_61 : decode cX12_figure 61 = .ok (.ireturn, 1) := by decide +kernel
theorem dX12_hasPartner_0 : decode cX12_hasPartner 0 = .ok (.iconst 0, 1) := by decide +kernel
theorem dX12_hasPartner_1 : decode cX12_hasPartner 1 = .ok (.istore_n 2, 1) := by decide +kernel
theorem dX12_hasPartner_2 : decode cX12_hasPartner 2 = .ok (.iconst 0, 1) := by decide +kernel
theorem dX12_hasPartner_3 : decode cX12_hasPartner 3 = .ok (.istore_n 3, 1) := by decide +kernel
theorem dX12_hasPartner_4 : decode cX12_hasPartner 4 = .ok (.iload_n 3, 1) := by decide +kernel
theorem dX12_hasPartner_5 : decode cX12_hasPartner 5 = .ok (.aload_n 0, 1) := by decide +kernel
theorem dX12_hasPartner_6 : decode cX12_hasPartner 6 = .ok (.getfield 122, 3) := by decide +kernel
theorem dX12_hasPartner_9 : decode cX12_hasPartner 9 = .ok (.if_icmp .ge 40, 3) := by decide +kernel
theorem dX12_hasPartner_12 : decode cX12_hasPartner 12 = .ok (.iload_n 2, 1) := by decide +kernel
theorem dX12_hasPartner_13 : decode cX12_hasPartner 13 = .ok (.ifCond .ne 24, 3) := by decide +kernel
theorem dX12_hasPartner_16 : decode cX12_hasPartner 16 = .ok (.iload_n 1, 1) := by decide +kernel
theorem dX12_hasPartner_17 : decode cX12_hasPartner 17 = .ok (.iload_n 3, 1) := by decide +kernel
theorem dX12_hasPartner_18 : decode cX12_hasPartner 18 = .ok (.if_icmp .eq 23, 3) := by decide +kernel
theorem dX12_hasPartner_21 : decode cX12_hasPartner 21 = .ok (.aload_n 0, 1) := by decide +kernel
theorem dX12_hasPartner_22 : decode cX12_hasPartner 22 = .ok (.getfield 29, 3) := by decide +kernel
theorem dX12_hasPartner_25 : decode cX12_hasPartner 25 = .ok (.bipush 6, 2) := by decide +kernel
theorem dX12_hasPartner_27 : decode cX12_hasPartner 27 = .ok (.iload_n 1, 1) := by decide +kernel
theorem dX12_hasPartner_28 : decode cX12_hasPartner 28 = .ok (.imul, 1) := by decide +kernel
theorem dX12_hasPartner_29 : decode cX12_hasPartner 29 = .ok (.iload_n 3, 1) := by decide +kernel
theorem dX12_hasPartner_30 : decode cX12_hasPartner 30 = .ok (.iadd, 1) := by decide +kernel
theorem dX12_hasPartner_31 : decode cX12_hasPartner 31 = .ok (.iaload, 1) := by decide +kernel
theorem dX12_hasPartner_32 : decode cX12_hasPartner 32 = .ok (.ldc 103, 2) := by decide +kernel
theorem dX12_hasPartner_34 : decode cX12_hasPartner 34 = .ok (.if_icmp .ne 7, 3) := by decide +kernel
theorem dX12_hasPartner_37 : decode cX12_hasPartner 37 = .ok (.iconst 1, 1) := by decide +kernel
theorem dX12_hasPartner_38 : decode cX12_hasPartner 38 = .ok (.goto 4, 3) := by decide +kernel
theorem dX12_hasPartner_41 : decode cX12_hasPartner 41 = .ok (.iconst 0, 1) := by decide +kernel
theorem dX12_hasPartner_42 : decode cX12_hasPartner 42 = .ok (.istore_n 2, 1) := by decide +kernel
theorem dX12_hasPartner_43 : decode cX12_hasPartner 43 = .ok (.iinc 3 1, 3) := by decide +kernel
theorem dX12_hasPartner_46 : decode cX12_hasPartner 46 = .ok (.goto (-42), 3) := by decide +kernel
theorem dX12_hasPartner_49 : decode cX12_hasPartner 49 = .ok (.iload_n 2, 1) := by decide +kernel
theorem dX12_hasPartner_50 : decode cX12_hasPartner 50 = .ok (.ireturn, 1) := by decide +kernel
theorem dX12_hasPair_0 : decode cX12_hasPair 0 = .ok (.iconst 0, 1) := by decide +kernel
theorem dX12_hasPair_1 : decode cX12_hasPair 1 = .ok (.istore_n 1, 1) := by decide +kernel
theorem dX12_hasPair_2 : decode cX12_hasPair 2 = .ok (.iconst 0, 1) := by decide +kernel
theorem dX12_hasPair_3 : decode cX12_hasPair 3 = .ok (.istore_n 2, 1) := by decide +kernel
theorem dX12_hasPair_4 : decode cX12_hasPair 4 = .ok (.iload_n 2, 1) := by decide +kernel
theorem dX12_hasPair_5 : decode cX12_hasPair 5 = .ok (.aload_n 0, 1) := by decide +kernel
theorem dX12_hasPair_6 : decode cX12_hasPair 6 = .ok (.getfield 122, 3) := by decide +kernel
theorem dX12_hasPair_9 : decode cX12_hasPair 9 = .ok (.if_icmp .ge 27, 3) := by decide +kernel
theorem dX12_hasPair_12 : decode cX12_hasPair 12 = .ok (.iload_n 1, 1) := by decide +kernel
theorem dX12_hasPair_13 : decode cX12_hasPair 13 = .ok (.ifCond .ne 11, 3) := by decide +kernel
theorem dX12_hasPair_16 : decode cX12_hasPair 16 = .ok (.aload_n 0, 1) := by decide +kernel
theorem dX12_hasPair_17 : decode cX12_hasPair 17 = .ok (.iload_n 2, 1) := by decide +kernel
theorem dX12_hasPair_18 : decode cX12_hasPair 18 = .ok (.invokevirtual 125, 3) := by decide +kernel
theorem dX12_hasPair_21 : decode cX12_hasPair 21 = .ok (.ifCond .eq 7, 3) := by decide +kernel
theorem dX12_hasPair_24 : decode cX12_hasPair 24 = .ok (.iconst 1, 1) := by decide +kernel
theorem dX12_hasPair_25 : decode cX12_hasPair 25 = .ok (.goto 4, 3) := by decide +kernel
theorem dX12_hasPair_28 : decode cX12_hasPair 28 = .ok (.iconst 0, 1) := by decide +kernel
theorem dX12_hasPair_29 : decode cX12_hasPair 29 = .ok (.istore_n 1, 1) := by decide +kernel
theorem dX12_hasPair_30 : decode cX12_hasPair 30 = .ok (.iinc 2 1, 3) := by decide +kernel
theorem dX12_hasPair_33 : decode cX12_hasPair 33 = .ok (.goto (-29), 3) := by decide +kernel
theorem dX12_hasPair_36 : decode cX12_hasPair 36 = .ok (.iload_n 1, 1) := by decide +kernel
theorem dX12_hasPair_37 : decode cX12_hasPair 37 = .ok (.ireturn, 1) := by decide +kernel
theorem dX12_readRoad_0 : decode cX12_readRoad 0 = .ok (.aload_n 0, 1) := by decide +kernel
theorem dX12_readRoad_1 : decode cX12_readRoad 1 = .ok (.getfield 119, 3) := by decide +kernel
theorem dX12_readRoad_4 : decode cX12_readRoad 4 = .ok (.aload_n 0, 1) := by decide +kernel
theorem dX12_readRoad_5 : decode cX12_readRoad 5 = .ok (.getfield 116, 3) := by decide +kernel
theorem dX12_readRoad_8 : decode cX12_readRoad 8 = .ok (.if_icmp .ge 18, 3) := by decide +kernel
theorem dX12_readRoad_11 : decode cX12_readRoad 11 = .ok (.aload_n 0, 1) := by decide +kernel
theorem dX12_readRoad_12 : decode cX12_readRoad 12 = .ok (.getfield 7, 3) := by decide +kernel
theorem dX12_readRoad_15 : decode cX12_readRoad 15 = .ok (.aload_n 0, 1) := by decide +kernel
theorem dX12_readRoad_16 : decode cX12_readRoad 16 = .ok (.getfield 119, 3) := by decide +kernel
theorem dX12_readRoad_19 : decode cX12_readRoad 19 = .ok (.iaload, 1) := by decide +kernel
theorem dX12_readRoad_20 : decode cX12_readRoad 20 = .ok (.bipush 48, 2) := by decide +kernel
theorem dX12_readRoad_22 : decode cX12_readRoad 22 = .ok (.isub, 1) := by decide +kernel
theorem dX12_readRoad_23 : decode cX12_readRoad 23 = .ok (.goto 5, 3) := by decide +kernel
theorem dX12_readRoad_26 : decode cX12_readRoad 26 = .ok (.bipush (-9), 2) := by decide +kernel
theorem dX12_readRoad_28 : decode cX12_readRoad 28 = .ok (.istore_n 1, 1) := by decide +kernel
theorem dX12_readRoad_29 : decode cX12_readRoad 29 = .ok (.iload_n 1, 1) := by decide +kernel
theorem dX12_readRoad_30 : decode cX12_readRoad 30 = .ok (.i2l, 1) := by decide +kernel
theorem dX12_readRoad_31 : decode cX12_readRoad 31 = .ok (.lconst 0, 1) := by decide +kernel
theorem dX12_readRoad_32 : decode cX12_readRoad 32 = .ok (.aload_n 0, 1) := by decide +kernel
theorem dX12_readRoad_33 : decode cX12_readRoad 33 = .ok (.getfield 122, 3) := by decide +kernel
theorem dX12_readRoad_36 : decode cX12_readRoad 36 = .ok (.iconst 1, 1) := by decide +kernel
theorem dX12_readRoad_37 : decode cX12_readRoad 37 = .ok (.isub, 1) := by decide +kernel
theorem dX12_readRoad_38 : decode cX12_readRoad 38 = .ok (.i2l, 1) := by decide +kernel
theorem dX12_readRoad_39 : decode cX12_readRoad 39 = .ok (.invokestatic 107, 3) := by decide +kernel
theorem dX12_readRoad_42 : decode cX12_readRoad 42 = .ok (.ifCond .eq 11, 3) := by decide +kernel
theorem dX12_readRoad_45 : decode cX12_readRoad 45 = .ok (.aload_n 0, 1) := by decide +kernel
theorem dX12_readRoad_46 : decode cX12_readRoad 46 = .ok (.iload_n 1, 1) := by decide +kernel
theorem dX12_readRoad_47 : decode cX12_readRoad 47 = .ok (.invokevirtual 125, 3) := by decide +kernel
theorem dX12_readRoad_50 : decode cX12_readRoad 50 = .ok (.ifCond .ne 5, 3) := by decide +kernel
theorem dX12_readRoad_53 : decode cX12_readRoad 53 = .ok (.iconst 0, 1) := by decide +kernel
theorem dX12_readRoad_54 : decode cX12_readRoad 54 = .ok (.ireturn, 1) := by decide +kernel
theorem dX12_readRoad_55 : decode cX12_readRoad 55 = .ok (.aload_n 0, 1) := by decide +kernel
theorem dX12_readRoad_56 : decode cX12_readRoad 56 = .ok (.dup, 1) := by decide +kernel
theorem dX12_readRoad_57 : decode cX12_readRoad 57 = .ok (.getfield 119, 3) := by decide +kernel
theorem dX12_readRoad_60 : decode cX12_readRoad 60 = .ok (.iconst 1, 1) := by decide +kernel
theorem dX12_readRoad_61 : decode cX12_readRoad 61 = .ok (.iadd, 1) := by decide +kernel
theorem dX12_readRoad_62 : decode cX12_readRoad 62 = .ok (.putfield 119, 3) := by decide +kernel
theorem dX12_readRoad_65 : decode cX12_readRoad 65 = .ok (.aload_n 0, 1) := by decide +kernel
theorem dX12_readRoad_66 : decode cX12_readRoad 66 = .ok (.getfield 119, 3) := by decide +kernel
theorem dX12_readRoad_69 : decode cX12_readRoad 69 = .ok (.aload_n 0, 1) := by decide +kernel
theorem dX12_readRoad_70 : decode cX12_readRoad 70 = .ok (.getfield 116, 3) := by decide +kernel
theorem dX12_readRoad_73 : decode cX12_readRoad 73 = .ok (.if_icmp .ge 18, 3) := by decide +kernel
theorem dX12_readRoad_76 : decode cX12_readRoad 76 = .ok (.aload_n 0, 1) := by decide +kernel
theorem dX12_readRoad_77 : decode cX12_readRoad 77 = .ok (.getfield 7, 3) := by decide +kernel
theorem dX12_readRoad_80 : decode cX12_readRoad 80 = .ok (.aload_n 0, 1) := by decide +kernel
theorem dX12_readRoad_81 : decode cX12_readRoad 81 = .ok (.getfield 119, 3) := by decide +kernel
theorem dX12_readRoad_84 : decode cX12_readRoad 84 = .ok (.iaload, 1) := by decide +kernel
theorem dX12_readRoad_85 : decode cX12_readRoad 85 = .ok (.bipush 48, 2) := by decide +kernel
theorem dX12_readRoad_87 : decode cX12_readRoad 87 = .ok (.isub, 1) := by decide +kernel
theorem dX12_readRoad_88 : decode cX12_readRoad 88 = .ok (.goto 5, 3) := by decide +kernel
theorem dX12_readRoad_91 : decode cX12_readRoad 91 = .ok (.bipush (-9), 2) := by decide +kernel
theorem dX12_readRoad_93 : decode cX12_readRoad 93 = .ok (.istore_n 2, 1) := by decide +kernel
theorem dX12_readRoad_94 : decode cX12_readRoad 94 = .ok (.iload_n 2, 1) := by decide +kernel
theorem dX12_readRoad_95 : decode cX12_readRoad 95 = .ok (.i2l, 1) := by decide +kernel
theorem dX12_readRoad_96 : decode cX12_readRoad 96 = .ok (.lconst 0, 1) := by decide +kernel
theorem dX12_readRoad_97 : decode cX12_readRoad 97 = .ok (.aload_n 0, 1) := by decide +kernel
theorem dX12_readRoad_98 : decode cX12_readRoad 98 = .ok (.getfield 122, 3) := by decide +kernel
theorem dX12_readRoad_101 : decode cX12_readRoad 101 = .ok (.iconst 1, 1) := by decide +kernel
theorem dX12_readRoad_102 : decode cX12_readRoad 102 = .ok (.isub, 1) := by decide +kernel
theorem dX12_readRoad_103 : decode cX12_readRoad 103 = .ok (.i2l, 1) := by decide +kernel
theorem dX12_readRoad_104 : decode cX12_readRoad 104 = .ok (.invokestatic 107, 3) := by decide +kernel
theorem dX12_readRoad_107 : decode cX12_readRoad 107 = .ok (.ifCond .eq 24, 3) := by decide +kernel
theorem dX12_readRoad_110 : decode cX12_readRoad 110 = .ok (.iload_n 1, 1) := by decide +kernel
theorem dX12_readRoad_111 : decode cX12_readRoad 111 = .ok (.iload_n 2, 1) := by decide +kernel
theorem dX12_readRoad_112 : decode cX12_readRoad 112 = .ok (.if_icmp .eq 19, 3) := by decide +kernel
theorem dX12_readRoad_115 : decode cX12_readRoad 115 = .ok (.aload_n 0, 1) := by decide +kernel
theorem dX12_readRoad_116 : decode cX12_readRoad 116 = .ok (.getfield 29, 3) := by decide +kernel
theorem dX12_readRoad_119 : decode cX12_readRoad 119 = .ok (.bipush 6, 2) := by decide +kernel
theorem dX12_readRoad_121 : decode cX12_readRoad 121 = .ok (.iload_n 1, 1) := by decide +kernel
theorem dX12_readRoad_122 : decode cX12_readRoad 122 = .ok (.imul, 1) := by decide +kernel
theorem dX12_readRoad_123 : decode cX12_readRoad 123 = .ok (.iload_n 2, 1) := by decide +kernel
theorem dX12_readRoad_124 : decode cX12_readRoad 124 = .ok (.iadd, 1) := by decide +kernel
theorem dX12_readRoad_125 : decode cX12_readRoad 125 = .ok (.iaload, 1) := by decide +kernel
theorem dX12_readRoad_126 : decode cX12_readRoad 126 = .ok (.ldc 103, 2) := by decide +kernel
theorem dX12_readRoad_128 : decode cX12_readRoad 128 = .ok (.if_icmp .eq 5, 3) := by decide +kernel
theorem dX12_readRoad_131 : decode cX12_readRoad 131 = .ok (.iconst 0, 1) := by decide +kernel
theorem dX12_readRoad_132 : decode cX12_readRoad 132 = .ok (.ireturn, 1) := by decide +kernel
theorem dX12_readRoad_133 : decode cX12_readRoad 133 = .ok (.aload_n 0, 1) := by decide +kernel
theorem dX12_readRoad_134 : decode cX12_readRoad 134 = .ok (.dup, 1) := by decide +kernel
theorem dX12_readRoad_135 : decode cX12_readRoad 135 = .ok (.getfield 119, 3) := by decide +kernel
theorem dX12_readRoad_138 : decode cX12_readRoad 138 = .ok (.iconst 1, 1) := by decide +kernel
theorem dX12_readRoad_139 : decode cX12_readRoad 139 = .ok (.iadd, 1) := by decide +kernel
theorem dX12_readRoad_140 : decode cX12_readRoad 140 = .ok (.putfield 119, 3) := by decide +kernel
theorem dX12_readRoad_143 : decode cX12_readRoad 143 = .ok (.aload_n 0, 1) := by decide +kernel
theorem dX12_readRoad_144 : decode cX12_readRoad 144 = .ok (.iconst 0, 1) := by decide +kernel
theorem dX12_readRoad_145 : decode cX12_readRoad 145 = .ok (.bipush 9, 2) := by decide +kernel
theorem dX12_readRoad_147 : decode cX12_readRoad 147 = .ok (.invokevirtual 129, 3) := by decide +kernel
theorem dX12_readRoad_150 : decode cX12_readRoad 150 = .ok (.istore_n 3, 1) := by decide +kernel
theorem dX12_readRoad_151 : decode cX12_readRoad 151 = .ok (.iload_n 3, 1) := by decide +kernel
theorem dX12_readRoad_152 : decode cX12_readRoad 152 = .ok (.bipush (-9), 2) := by decide +kernel
theorem dX12_readRoad_154 : decode cX12_readRoad 154 = .ok (.if_icmp .ne 8, 3) := by decide +kernel
theorem dX12_readRoad_157 : decode cX12_readRoad 157 = .ok (.bipush (-9), 2) := by decide +kernel
theorem dX12_readRoad_159 : decode cX12_readRoad 159 = .ok (.goto 18, 3) := by decide +kernel
theorem dX12_readRoad_162 : decode cX12_readRoad 162 = .ok (.aload_n 0, 1) := by decide +kernel
theorem dX12_readRoad_163 : decode cX12_readRoad 163 = .ok (.iload_n 3, 1) := by decide +kernel
theorem dX12_readRoad_164 : decode cX12_readRoad 164 = .ok (.ifCond .ne 7, 3) := by decide +kernel
theorem dX12_readRoad_167 : decode cX12_readRoad 167 = .ok (.iconst 1, 1) := by decide +kernel
theorem dX12_readRoad_168 : decode cX12_readRoad 168 = .ok (.goto 4, 3) := by decide +kernel
theorem dX12_readRoad_171 : decode cX12_readRoad 171 = .ok (.iconst 0, 1) := by decide +kernel
theorem dX12_readRoad_172 : decode cX12_readRoad 172 = .ok (.bipush 9, 2) := by decide +kernel
theorem dX12_readRoad_174 : decode cX12_readRoad 174 = .ok (.invokevirtual 129, 3) := by decide +kernel
theorem dX12_readRoad_177 : decode cX12_readRoad 177 = .ok (.istore 4, 2) := by decide +kernel
theorem dX12_readRoad_179 : decode cX12_readRoad 179 = .ok (.iload 4, 2) := by decide +kernel
theorem dX12_readRoad_181 : decode cX12_readRoad 181 = .ok (.bipush (-9), 2) := by decide +kernel
theorem dX12_readRoad_183 : decode cX12_readRoad 183 = .ok (.if_icmp .ne 5, 3) := by decide +kernel
theorem dX12_readRoad_186 : decode cX12_readRoad 186 = .ok (.iconst 0, 1) := by decide +kernel
theorem dX12_readRoad_187 : decode cX12_readRoad 187 = .ok (.ireturn, 1) := by decide +kernel
theorem dX12_readRoad_188 : decode cX12_readRoad 188 = .ok (.aload_n 0, 1) := by decide +kernel
theorem dX12_readRoad_189 : decode cX12_readRoad 189 = .ok (.getfield 29, 3) := by decide +kernel
theorem dX12_readRoad_192 : decode cX12_readRoad 192 = .ok (.bipush 6, 2) := by decide +kernel
theorem dX12_readRoad_194 : decode cX12_readRoad 194 = .ok (.iload_n 1, 1) := by decide +kernel
theorem dX12_readRoad_195 : decode cX12_readRoad 195 = .ok (.imul, 1) := by decide +kernel
theorem dX12_readRoad_196 : decode cX12_readRoad 196 = .ok (.iload_n 2, 1) := by decide +kernel
theorem dX12_readRoad_197 : decode cX12_readRoad 197 = .ok (.iadd, 1) := by decide +kernel
theorem dX12_readRoad_198 : decode cX12_readRoad 198 = .ok (.bipush 10, 2) := by decide +kernel
theorem dX12_readRoad_200 : decode cX12_readRoad 200 = .ok (.iload_n 3, 1) := by decide +kernel
theorem dX12_readRoad_201 : decode cX12_readRoad 201 = .ok (.imul, 1) := by decide +kernel
theorem dX12_readRoad_202 : decode cX12_readRoad 202 = .ok (.iload 4, 2) := by decide +kernel
theorem dX12_readRoad_204 : decode cX12_readRoad 204 = .ok (.iadd, 1) := by decide +kernel
theorem dX12_readRoad_205 : decode cX12_readRoad 205 = .ok (.iastore, 1) := by decide +kernel
theorem dX12_readRoad_206 : decode cX12_readRoad 206 = .ok (.aload_n 0, 1) := by decide +kernel
theorem dX12_readRoad_207 : decode cX12_readRoad 207 = .ok (.getfield 29, 3) := by decide +kernel
theorem dX12_readRoad_210 : decode cX12_readRoad 210 = .ok (.bipush 6, 2) := by decide +kernel
theorem dX12_readRoad_212 : decode cX12_readRoad 212 = .ok (.iload_n 2, 1) := by decide +kernel
theorem dX12_readRoad_213 : decode cX12_readRoad 213 = .ok (.imul, 1) := by decide +kernel
theorem dX12_readRoad_214 : decode cX12_readRoad 214 = .ok (.iload_n 1, 1) := by decide +kernel
theorem dX12_readRoad_215 : decode cX12_readRoad 215 = .ok (.iadd, 1) := by decide +kernel
theorem dX12_readRoad_216 : decode cX12_readRoad 216 = .ok (.bipush 10, 2) := by decide +kernel
theorem dX12_readRoad_218 : decode cX12_readRoad 218 = .ok (.iload_n 3, 1) := by decide +kernel
theorem dX12_readRoad_219 : decode cX12_readRoad 219 = .ok (.imul, 1) := by decide +kernel
theorem dX12_readRoad_220 : decode cX12_readRoad 220 = .ok (.iload 4, 2) := by decide +kernel
theorem dX12_readRoad_222 : decode cX12_readRoad 222 = .ok (.iadd, 1) := by decide +kernel
theorem dX12_readRoad_223 : decode cX12_readRoad 223 = .ok (.iastore, 1) := by decide +kernel
theorem dX12_readRoad_224 : decode cX12_readRoad 224 = .ok (.aload_n 0, 1) := by decide +kernel
theorem dX12_readRoad_225 : decode cX12_readRoad 225 = .ok (.dup, 1) := by decide +kernel
theorem dX12_readRoad_226 : decode cX12_readRoad 226 = .ok (.getfield 133, 3) := by decide +kernel
theorem dX12_readRoad_229 : decode cX12_readRoad 229 = .ok (.iconst 1, 1) := by decide +kernel
theorem dX12_readRoad_230 : decode cX12_readRoad 230 = .ok (.iadd, 1) := by decide +kernel
theorem dX12_readRoad_231 : decode cX12_readRoad 231 = .ok (.putfield 133, 3) := by decide +kernel
theorem dX12_readRoad_234 : decode cX12_readRoad 234 = .ok (.iconst 1, 1) := by decide +kernel
theorem dX12_readRoad_235 : decode cX12_readRoad 235 = .ok (.ireturn, 1) := by decide +kernel
theorem dX12_readErrand_0 : decode cX12_readErrand 0 = .ok (.aload_n 0, 1) := by decide +kernel
theorem dX12_readErrand_1 : decode cX12_readErrand 1 = .ok (.iconst 0, 1) := by decide +kernel
theorem dX12_readErrand_2 : decode cX12_readErrand 2 = .ok (.aload_n 0, 1) := by decide +kernel
theorem dX12_readErrand_3 : decode cX12_readErrand 3 = .ok (.getfield 122, 3) := by decide +kernel
theorem dX12_readErrand_6 : decode cX12_readErrand 6 = .ok (.iconst 1, 1) := by decide +kernel
theorem dX12_readErrand_7 : decode cX12_readErrand 7 = .ok (.isub, 1) := by decide +kernel
theorem dX12_readErrand_8 : decode cX12_readErrand 8 = .ok (.invokevirtual 129, 3) := by decide +kernel
theorem dX12_readErrand_11 : decode cX12_readErrand 11 = .ok (.istore_n 1, 1) := by decide +kernel
theorem dX12_readErrand_12 : decode cX12_readErrand 12 = .ok (.iload_n 1, 1) := by decide +kernel
theorem dX12_readErrand_13 : decode cX12_readErrand 13 = .ok (.bipush (-9), 2) := by decide +kernel
theorem dX12_readErrand_15 : decode cX12_readErrand 15 = .ok (.if_icmp .ne 8, 3) := by decide +kernel
theorem dX12_readErrand_18 : decode cX12_readErrand 18 = .ok (.bipush (-9), 2) := by decide +kernel
theorem dX12_readErrand_20 : decode cX12_readErrand 20 = .ok (.goto 10, 3) := by decide +kernel
theorem dX12_readErrand_23 : decode cX12_readErrand 23 = .ok (.aload_n 0, 1) := by decide +kernel
theorem dX12_readErrand_24 : decode cX12_readErrand 24 = .ok (.iconst 0, 1) := by decide +kernel
theorem dX12_readErrand_25 : decode cX12_readErrand 25 = .ok (.bipush 9, 2) := by decide +kernel
theorem dX12_readErrand_27 : decode cX12_readErrand 27 = .ok (.invokevirtual 129, 3) := by decide +kernel
theorem dX12_readErrand_30 : decode cX12_readErrand 30 = .ok (.istore_n 2, 1) := by decide +kernel
theorem dX12_readErrand_31 : decode cX12_readErrand 31 = .ok (.iload_n 2, 1) := by decide +kernel
theorem dX12_readErrand_32 : decode cX12_readErrand 32 = .ok (.bipush (-9), 2) := by decide +kernel
theorem dX12_readErrand_34 : decode cX12_readErrand 34 = .ok (.if_icmp .ne 8, 3) := by decide +kernel
theorem dX12_readErrand_37 : decode cX12_readErrand 37 = .ok (.bipush (-9), 2) := by decide +kernel
theorem dX12_readErrand_39 : decode cX12_readErrand 39 = .ok (.goto 9, 3) := by decide +kernel
theorem dX12_readErrand_42 : decode cX12_readErrand 42 = .ok (.aload_n 0, 1) := by decide +kernel
theorem dX12_readErrand_43 : decode cX12_readErrand 43 = .ok (.iconst 0, 1) := by decide +kernel
theorem dX12_readErrand_44 : decode cX12_readErrand 44 = .ok (.iconst 2, 1) := by decide +kernel
theorem dX12_readErrand_45 : decode cX12_readErrand 45 = .ok (.invokevirtual 129, 3) := by decide +kernel
theorem dX12_readErrand_48 : decode cX12_readErrand 48 = .ok (.istore_n 3, 1) := by decide +kernel
theorem dX12_readErrand_49 : decode cX12_readErrand 49 = .ok (.iload_n 3, 1) := by decide +kernel
theorem dX12_readErrand_50 : decode cX12_readErrand 50 = .ok (.bipush (-9), 2) := by decide +kernel
theorem dX12_readErrand_52 : decode cX12_readErrand 52 = .ok (.if_icmp .ne 5, 3) := by decide +kernel
theorem dX12_readErrand_55 : decode cX12_readErrand 55 = .ok (.iconst 0, 1) := by decide +kernel
theorem dX12_readErrand_56 : decode cX12_readErrand 56 = .ok (.ireturn, 1) := by decide +kernel
theorem dX12_readErrand_57 : decode cX12_readErrand 57 = .ok (.aload_n 0, 1) := by decide +kernel
theorem dX12_readErrand_58 : decode cX12_readErrand 58 = .ok (.getfield 32, 3) := by decide +kernel
theorem dX12_readErrand_61 : decode cX12_readErrand 61 = .ok (.aload_n 0, 1) := by decide +kernel
theorem dX12_readErrand_62 : decode cX12_readErrand 62 = .ok (.getfield 136, 3) := by decide +kernel
theorem dX12_readErrand_65 : decode cX12_readErrand 65 = .ok (.iload_n 1, 1) := by decide +kernel
theorem dX12_readErrand_66 : decode cX12_readErrand 66 = .ok (.iastore, 1) := by decide +kernel
theorem dX12_readErrand_67 : decode cX12_readErrand 67 = .ok (.aload_n 0, 1) := by decide +kernel
theorem dX12_readErrand_68 : decode cX12_readErrand 68 = .ok (.getfield 35, 3) := by decide +kernel
theorem dX12_readErrand_71 : decode cX12_readErrand 71 = .ok (.aload_n 0, 1) := by decide +kernel
theorem dX12_readErrand_72 : decode cX12_readErrand 72 = .ok (.getfield 136, 3) := by decide +kernel
theorem dX12_readErrand_75 : decode cX12_readErrand 75 = .ok (.iload_n 2, 1) := by decide +kernel
theorem dX12_readErrand_76 : decode cX12_readErrand 76 = .ok (.iastore, 1) := by decide +kernel
theorem dX12_readErrand_77 : decode cX12_readErrand 77 = .ok (.aload_n 0, 1) := by decide +kernel
theorem dX12_readErrand_78 : decode cX12_readErrand 78 = .ok (.getfield 38, 3) := by decide +kernel
theorem dX12_readErrand_81 : decode cX12_readErrand 81 = .ok (.aload_n 0, 1) := by decide +kernel
theorem dX12_readErrand_82 : decode cX12_readErrand 82 = .ok (.getfield 136, 3) := by decide +kernel
theorem dX12_readErrand_85 : decode cX12_readErrand 85 = .ok (.iload_n 3, 1) := by decide +kernel
theorem dX12_readErrand_86 : decode cX12_readErrand 86 = .ok (.iastore, 1) := by decide +kernel
theorem dX12_readErrand_87 : decode cX12_readErrand 87 = .ok (.aload_n 0, 1) := by decide +kernel
theorem dX12_readErrand_88 : decode cX12_readErrand 88 = .ok (.dup, 1) := by decide +kernel
theorem dX12_readErrand_89 : decode cX12_readErrand 89 = .ok (.getfield 136, 3) := by decide +kernel
theorem dX12_readErrand_92 : decode cX12_readErrand 92 = .ok (.iconst 1, 1) := by decide +kernel
theorem dX12_readErrand_93 : decode cX12_readErrand 93 = .ok (.iadd, 1) := by decide +kernel
theorem dX12_readErrand_94 : decode cX12_readErrand 94 = .ok (.putfield 136, 3) := by decide +kernel
theorem dX12_readErrand_97 : decode cX12_readErrand 97 = .ok (.iconst 1, 1) := by decide +kernel
theorem dX12_readErrand_98 : decode cX12_readErrand 98 = .ok (.ireturn, 1) := by decide +kernel
theorem dX12_readPart_0 : decode cX12_readPart 0 = .ok (.aload_n 0, 1) := by decide +kernel
theorem dX12_readPart_1 : decode cX12_readPart 1 = .ok (.getfield 7, 3) := by decide +kernel
theorem dX12_readPart_4 : decode cX12_readPart 4 = .ok (.aload_n 0, 1) := by decide +kernel
theorem dX12_readPart_5 : decode cX12_readPart 5 = .ok (.getfield 119, 3) := by decide +kernel
theorem dX12_readPart_8 : decode cX12_readPart 8 = .ok (.iaload, 1) := by decide +kernel
theorem dX12_readPart_9 : decode cX12_readPart 9 = .ok (.istore_n 1, 1) := by decide +kernel
theorem dX12_readPart_10 : decode cX12_readPart 10 = .ok (.iload_n 1, 1) := by decide +kernel
theorem dX12_readPart_11 : decode cX12_readPart 11 = .ok (.bipush 82, 2) := by decide +kernel
theorem dX12_readPart_13 : decode cX12_readPart 13 = .ok (.if_icmp .ne 34, 3) := by decide +kernel
theorem dX12_readPart_16 : decode cX12_readPart 16 = .ok (.aload_n 0, 1) := by decide +kernel
theorem dX12_readPart_17 : decode cX12_readPart 17 = .ok (.getfield 133, 3) := by decide +kernel
theorem dX12_readPart_20 : decode cX12_readPart 20 = .ok (.bipush 10, 2) := by decide +kernel
theorem dX12_readPart_22 : decode cX12_readPart 22 = .ok (.if_icmp .ge 25, 3) := by decide +kernel
theorem dX12_readPart_25 : decode cX12_readPart 25 = .ok (.aload_n 0, 1) := by decide +kernel
theorem dX12_readPart_26 : decode cX12_readPart 26 = .ok (.invokevirtual 139, 3) := by decide +kernel
theorem dX12_readPart_29 : decode cX12_readPart 29 = .ok (.ifCond .eq 18, 3) := by decide +kernel
theorem dX12_readPart_32 : decode cX12_readPart 32 = .ok (.aload_n 0, 1) := by decide +kernel
theorem dX12_readPart_33 : decode cX12_readPart 33 = .ok (.dup, 1) := by decide +kernel
theorem dX12_readPart_34 : decode cX12_readPart 34 = .ok (.getfield 119, 3) := by decide +kernel
theorem dX12_readPart_37 : decode cX12_readPart 37 = .ok (.iconst 1, 1) := by decide +kernel
theorem dX12_readPart_38 : decode cX12_readPart 38 = .ok (.iadd, 1) := by decide +kernel
theorem dX12_readPart_39 : decode cX12_readPart 39 = .ok (.putfield 119, 3) := by decide +kernel
theorem dX12_readPart_42 : decode cX12_readPart 42 = .ok (.aload_n 0, 1) := by decide +kernel
theorem dX12_readPart_43 : decode cX12_readPart 43 = .ok (.invokevirtual 143, 3) := by decide +kernel
theorem dX12_readPart_46 : decode cX12_readPart 46 = .ok (.ireturn, 1) := by decide +kernel
theorem dX12_readPart_47 : decode cX12_readPart 47 = .ok (.iload_n 1, 1) := by decide +kernel
theorem dX12_readPart_48 : decode cX12_readPart 48 = .ok (.bipush 69, 2) := by decide +kernel
theorem dX12_readPart_50 : decode cX12_readPart 50 = .ok (.if_icmp .ne 27, 3) := by decide +kernel
theorem dX12_readPart_53 : decode cX12_readPart 53 = .ok (.aload_n 0, 1) := by decide +kernel
theorem dX12_readPart_54 : decode cX12_readPart 54 = .ok (.getfield 136, 3) := by decide +kernel
theorem dX12_readPart_57 : decode cX12_readPart 57 = .ok (.bipush 6, 2) := by decide +kernel
theorem dX12_readPart_59 : decode cX12_readPart 59 = .ok (.if_icmp .ge 18, 3) := by decide +kernel
theorem dX12_readPart_62 : decode cX12_readPart 62 = .ok (.aload_n 0, 1) := by decide +kernel
theorem dX12_readPart_63 : decode cX12_readPart 63 = .ok (.dup, 1) := by decide +kernel
theorem dX12_readPart_64 : decode cX12_readPart 64 = .ok (.getfield 119, 3) := by decide +kernel
theorem dX12_readPart_67 : decode cX12_readPart 67 = .ok (.iconst 1, 1) := by decide +kernel
theorem dX12_readPart_68 : decode cX12_readPart 68 = .ok (.iadd, 1) := by decide +kernel
theorem dX12_readPart_69 : decode cX12_readPart 69 = .ok (.putfield 119, 3) := by decide +kernel
theorem dX12_readPart_72 : decode cX12_readPart 72 = .ok (.aload_n 0, 1) := by decide +kernel
theorem dX12_readPart_73 : decode cX12_readPart 73 = .ok (.invokevirtual 146, 3) := by decide +kernel
theorem dX12_readPart_76 : decode cX12_readPart 76 = .ok (.ireturn, 1) := by decide +kernel
theorem dX12_readPart_77 : decode cX12_readPart 77 = .ok (.iconst 0, 1) := by decide +kernel
theorem dX12_readPart_78 : decode cX12_readPart 78 = .ok (.ireturn, 1) := by decide +kernel
theorem dX12_readDay_0 : decode cX12_readDay 0 = .ok (.aload_n 0, 1) := by decide +kernel
theorem dX12_readDay_1 : decode cX12_readDay 1 = .ok (.iconst 0, 1) := by decide +kernel
theorem dX12_readDay_2 : decode cX12_readDay 2 = .ok (.putfield 119, 3) := by decide +kernel
theorem dX12_readDay_5 : decode cX12_readDay 5 = .ok (.aload_n 0, 1) := by decide +kernel
theorem dX12_readDay_6 : decode cX12_readDay 6 = .ok (.iconst 0, 1) := by decide +kernel
theorem dX12_readDay_7 : decode cX12_readDay 7 = .ok (.putfield 133, 3) := by decide +kernel
theorem dX12_readDay_10 : decode cX12_readDay 10 = .ok (.aload_n 0, 1) := by decide +kernel
theorem dX12_readDay_11 : decode cX12_readDay 11 = .ok (.iconst 0, 1) := by decide +kernel
theorem dX12_readDay_12 : decode cX12_readDay 12 = .ok (.putfield 136, 3) := by decide +kernel
theorem dX12_readDay_15 : decode cX12_readDay 15 = .ok (.aload_n 0, 1) := by decide +kernel
theorem dX12_readDay_16 : decode cX12_readDay 16 = .ok (.iconst 0, 1) := by decide +kernel
theorem dX12_readDay_17 : decode cX12_readDay 17 = .ok (.putfield 149, 3) := by decide +kernel
theorem dX12_readDay_20 : decode cX12_readDay 20 = .ok (.iconst 0, 1) := by decide +kernel
theorem dX12_readDay_21 : decode cX12_readDay 21 = .ok (.istore_n 1, 1) := by decide +kernel
theorem dX12_readDay_22 : decode cX12_readDay 22 = .ok (.iload_n 1, 1) := by decide +kernel
theorem dX12_readDay_23 : decode cX12_readDay 23 = .ok (.bipush 36, 2) := by decide +kernel
theorem dX12_readDay_25 : decode cX12_readDay 25 = .ok (.if_icmp .ge 32, 3) := by decide +kernel
theorem dX12_readDay_28 : decode cX12_readDay 28 = .ok (.aload_n 0, 1) := by decide +kernel
theorem dX12_readDay_29 : decode cX12_readDay 29 = .ok (.getfield 29, 3) := by decide +kernel
theorem dX12_readDay_32 : decode cX12_readDay 32 = .ok (.iload_n 1, 1) := by decide +kernel
theorem dX12_readDay_33 : decode cX12_readDay 33 = .ok (.iload_n 1, 1) := by decide +kernel
theorem dX12_readDay_34 : decode cX12_readDay 34 = .ok (.bipush 6, 2) := by decide +kernel
theorem dX12_readDay_36 : decode cX12_readDay 36 = .ok (.idiv, 1) := by decide +kernel
theorem dX12_readDay_37 : decode cX12_readDay 37 = .ok (.iload_n 1, 1) := by decide +kernel
theorem dX12_readDay_38 : decode cX12_readDay 38 = .ok (.bipush 6, 2) := by decide +kernel
theorem dX12_readDay_40 : decode cX12_readDay 40 = .ok (.irem, 1) := by decide +kernel
theorem dX12_readDay_41 : decode cX12_readDay 41 = .ok (.if_icmp .ne 7, 3) := by decide +kernel
theorem dX12_readDay_44 : decode cX12_readDay 44 = .ok (.iconst 0, 1) := by decide +kernel
theorem dX12_readDay_45 : decode cX12_readDay 45 = .ok (.goto 5, 3) := by decide +kernel
theorem dX12_readDay_48 : decode cX12_readDay 48 = .ok (.ldc 103, 2) := by decide +kernel
theorem dX12_readDay_50 : decode cX12_readDay 50 = .ok (.iastore, 1) := by decide +kernel
theorem dX12_readDay_51 : decode cX12_readDay 51 = .ok (.iinc 1 1, 3) := by decide +kernel
theorem dX12_readDay_54 : decode cX12_readDay 54 = .ok (.goto (-32), 3) := by decide +kernel
theorem dX12_readDay_57 : decode cX12_readDay 57 = .ok (.aload_n 0, 1) := by decide +kernel
theorem dX12_readDay_58 : decode cX12_readDay 58 = .ok (.getfield 116, 3) := by decide +kernel
theorem dX12_readDay_61 : decode cX12_readDay 61 = .ok (.ifCond .eq 14, 3) := by decide +kernel
theorem dX12_readDay_64 : decode cX12_readDay 64 = .ok (.aload_n 0, 1) := by decide +kernel
theorem dX12_readDay_65 : decode cX12_readDay 65 = .ok (.getfield 7, 3) := by decide +kernel
theorem dX12_readDay_68 : decode cX12_readDay 68 = .ok (.iconst 0, 1) := by decide +kernel
theorem dX12_readDay_69 : decode cX12_readDay 69 = .ok (.iaload, 1) := by decide +kernel
theorem dX12_readDay_70 : decode cX12_readDay 70 = .ok (.bipush 86, 2) := by decide +kernel
theorem dX12_readDay_72 : decode cX12_readDay 72 = .ok (.if_icmp .eq 5, 3) := by decide +kernel
theorem dX12_readDay_75 : decode cX12_readDay 75 = .ok (.iconst 0, 1) := by decide +kernel
theorem dX12_readDay_76 : decode cX12_readDay 76 = .ok (.ireturn, 1) := by decide +kernel
theorem dX12_readDay_77 : decode cX12_readDay 77 = .ok (.aload_n 0, 1) := by decide +kernel
theorem dX12_readDay_78 : decode cX12_readDay 78 = .ok (.iconst 1, 1) := by decide +kernel
theorem dX12_readDay_79 : decode cX12_readDay 79 = .ok (.putfield 119, 3) := by decide +kernel
theorem dX12_readDay_82 : decode cX12_readDay 82 = .ok (.iconst 0, 1) := by decide +kernel
theorem dX12_readDay_83 : decode cX12_readDay 83 = .ok (.istore_n 1, 1) := by decide +kernel
theorem dX12_readDay_84 : decode cX12_readDay 84 = .ok (.iload_n 1, 1) := by decide +kernel
theorem dX12_readDay_85 : decode cX12_readDay 85 = .ok (.iconst 3, 1) := by decide +kernel
theorem dX12_readDay_86 : decode cX12_readDay 86 = .ok (.if_icmp .ge 41, 3) := by decide +kernel
theorem dX12_readDay_89 : decode cX12_readDay 89 = .ok (.aload_n 0, 1) := by decide +kernel
theorem dX12_readDay_90 : decode cX12_readDay 90 = .ok (.iconst 0, 1) := by decide +kernel
theorem dX12_readDay_91 : decode cX12_readDay 91 = .ok (.bipush 9, 2) := by decide +kernel
theorem dX12_readDay_93 : decode cX12_readDay 93 = .ok (.invokevirtual 129, 3) := by decide +kernel
theorem dX12_readDay_96 : decode cX12_readDay 96 = .ok (.istore_n 2, 1) := by decide +kernel
theorem dX12_readDay_97 : decode cX12_readDay 97 = .ok (.iload_n 2, 1) := by decide +kernel
theorem dX12_readDay_98 : decode cX12_readDay 98 = .ok (.bipush (-9), 2) := by decide +kernel
theorem dX12_readDay_100 : decode cX12_readDay 100 = .ok (.if_icmp .ne 8, 3) := by decide +kernel
theorem dX12_readDay_103 : decode cX12_readDay 103 = .ok (.aload_n 0, 1) := by decide +kernel
theorem dX12_readDay_104 : decode cX12_readDay 104 = .ok (.getfield 119, 3) := by decide +kernel
theorem dX12_readDay_107 : decode cX12_readDay 107 = .ok (.ireturn, 1) := by decide +kernel
theorem dX12_readDay_108 : decode cX12_readDay 108 = .ok (.aload_n 0, 1) := by decide +kernel
theorem dX12_readDay_109 : decode cX12_readDay 109 = .ok (.bipush 10, 2) := by decide +kernel
theorem dX12_readDay_111 : decode cX12_readDay 111 = .ok (.aload_n 0, 1) := by decide +kernel
theorem dX12_readDay_112 : decode cX12_readDay 112 = .ok (.getfield 149, 3) := by decide +kernel
theorem dX12_readDay_115 : decode cX12_readDay 115 = .ok (.imul, 1) := by decide +kernel
theorem dX12_readDay_116 : decode cX12_readDay 116 = .ok (.iload_n 2, 1) := by decide +kernel
theorem dX12_readDay_117 : decode cX12_readDay 117 = .ok (.iadd, 1) := by decide +kernel
theorem dX12_readDay_118 : decode cX12_readDay 118 = .ok (.putfield 149, 3) := by decide +kernel
theorem dX12_readDay_121 : decode cX12_readDay 121 = .ok (.iinc 1 1, 3) := by decide +kernel
theorem dX12_readDay_124 : decode cX12_readDay 124 = .ok (.goto (-40), 3) := by decide +kernel
theorem dX12_readDay_127 : decode cX12_readDay 127 = .ok (.aload_n 0, 1) := by decide +kernel
theorem dX12_readDay_128 : decode cX12_readDay 128 = .ok (.aload_n 0, 1) := by decide +kernel
theorem dX12_readDay_129 : decode cX12_readDay 129 = .ok (.iconst 2, 1) := by decide +kernel
theorem dX12_readDay_130 : decode cX12_readDay 130 = .ok (.bipush 6, 2) := by decide +kernel
theorem dX12_readDay_132 : decode cX12_readDay 132 = .ok (.invokevirtual 129, 3) := by decide +kernel
theorem dX12_readDay_135 : decode cX12_readDay 135 = .ok (.putfield 122, 3) := by decide +kernel
theorem dX12_readDay_138 : decode cX12_readDay 138 = .ok (.aload_n 0, 1) := by decide +kernel
theorem dX12_readDay_139 : decode cX12_readDay 139 = .ok (.getfield 122, 3) := by decide +kernel
theorem dX12_readDay_142 : decode cX12_readDay 142 = .ok (.bipush (-9), 2) := by decide +kernel
theorem dX12_readDay_144 : decode cX12_readDay 144 = .ok (.if_icmp .ne 8, 3) := by decide +kernel
theorem dX12_readDay_147 : decode cX12_readDay 147 = .ok (.aload_n 0, 1) := by decide +kernel
theorem dX12_readDay_148 : decode cX12_readDay 148 = .ok (.getfield 119, 3) := by decide +kernel
theorem dX12_readDay_151 : decode cX12_readDay 151 = .ok (.ireturn, 1) := by decide +kernel
theorem dX12_readDay_152 : decode cX12_readDay 152 = .ok (.aload_n 0, 1) := by decide +kernel
theorem dX12_readDay_153 : decode cX12_readDay 153 = .ok (.getfield 119, 3) := by decide +kernel
theorem dX12_readDay_156 : decode cX12_readDay 156 = .ok (.aload_n 0, 1) := by decide +kernel
theorem dX12_readDay_157 : decode cX12_readDay 157 = .ok (.getfield 116, 3) := by decide +kernel
theorem dX12_readDay_160 : decode cX12_readDay 160 = .ok (.if_icmp .ge 15, 3) := by decide +kernel
theorem dX12_readDay_163 : decode cX12_readDay 163 = .ok (.aload_n 0, 1) := by decide +kernel
theorem dX12_readDay_164 : decode cX12_readDay 164 = .ok (.invokevirtual 152, 3) := by decide +kernel
theorem dX12_readDay_167 : decode cX12_readDay 167 = .ok (.ifCond .ne (-15), 3) := by decide +kernel
theorem dX12_readDay_170 : decode cX12_readDay 170 = .ok (.aload_n 0, 1) := by decide +kernel
theorem dX12_readDay_171 : decode cX12_readDay 171 = .ok (.getfield 119, 3) := by decide +kernel
theorem dX12_readDay_174 : decode cX12_readDay 174 = .ok (.ireturn, 1) := by decide +kernel
theorem dX12_readDay_175 : decode cX12_readDay 175 = .ok (.bipush (-9), 2) := by decide +kernel
theorem dX12_readDay_177 : decode cX12_readDay 177 = .ok (.ireturn, 1) := by decide +kernel
theorem dX12_fault_0 : decode cX12_fault 0 = .ok (.aload_n 0, 1) := by decide +kernel
theorem dX12_fault_1 : decode cX12_fault 1 = .ok (.iconst 0, 1) := by decide +kernel
theorem dX12_fault_2 : decode cX12_fault 2 = .ok (.putfield 104, 3) := by decide +kernel
theorem dX12_fault_5 : decode cX12_fault 5 = .ok (.aload_n 0, 1) := by decide +kernel
theorem dX12_fault_6 : decode cX12_fault 6 = .ok (.invokevirtual 155, 3) := by decide +kernel
theorem dX12_fault_9 : decode cX12_fault 9 = .ok (.ireturn, 1) := by decide +kernel
theorem dX12_day_0 : decode cX12_day 0 = .ok (.aload_n 0, 1) := by decide +kernel
theorem dX12_day_1 : decode cX12_day 1 = .ok (.iconst 0, 1) := by decide +kernel
theorem dX12_day_2 : decode cX12_day 2 = .ok (.putfield 104, 3) := by decide +kernel
theorem dX12_day_5 : decode cX12_day 5 = .ok (.aload_n 0, 1) := by decide +kernel
theorem dX12_day_6 : decode cX12_day 6 = .ok (.invokevirtual 155, 3) := by decide +kernel
theorem dX12_day_9 : decode cX12_day 9 = .ok (.bipush (-9), 2) := by decide +kernel
theorem dX12_day_11 : decode cX12_day 11 = .ok (.if_icmp .eq 6, 3) := by decide +kernel
theorem dX12_day_14 : decode cX12_day 14 = .ok (.bipush (-3), 2) := by decide +kernel
theorem dX12_day_16 : decode cX12_day 16 = .ok (.ireturn, 1) := by decide +kernel
theorem dX12_day_17 : decode cX12_day 17 = .ok (.aload_n 0, 1) := by decide +kernel
theorem dX12_day_18 : decode cX12_day 18 = .ok (.aload_n 0, 1) := by decide +kernel
theorem dX12_day_19 : decode cX12_day 19 = .ok (.getfield 122, 3) := by decide +kernel
theorem dX12_day_22 : decode cX12_day 22 = .ok (.putfield 13, 3) := by decide +kernel
theorem dX12_day_25 : decode cX12_day 25 = .ok (.aload_n 0, 1) := by decide +kernel
theorem dX12_day_26 : decode cX12_day 26 = .ok (.aload_n 0, 1) := by decide +kernel
theorem dX12_day_27 : decode cX12_day 27 = .ok (.getfield 149, 3) := by decide +kernel
theorem dX12_day_30 : decode cX12_day 30 = .ok (.putfield 159, 3) := by decide +kernel
theorem dX12_day_33 : decode cX12_day 33 = .ok (.aload_n 0, 1) := by decide +kernel
theorem dX12_day_34 : decode cX12_day 34 = .ok (.aload_n 0, 1) := by decide +kernel
theorem dX12_day_35 : decode cX12_day 35 = .ok (.getfield 133, 3) := by decide +kernel
theorem dX12_day_38 : decode cX12_day 38 = .ok (.putfield 162, 3) := by decide +kernel
theorem dX12_day_41 : decode cX12_day 41 = .ok (.aload_n 0, 1) := by decide +kernel
theorem dX12_day_42 : decode cX12_day 42 = .ok (.aload_n 0, 1) := by decide +kernel
theorem dX12_day_43 : decode cX12_day 43 = .ok (.getfield 136, 3) := by decide +kernel
theorem dX12_day_46 : decode cX12_day 46 = .ok (.putfield 111, 3) := by decide +kernel
theorem dX12_day_49 : decode cX12_day 49 = .ok (.iconst 0, 1) := by decide +kernel
theorem dX12_day_50 : decode cX12_day 50 = .ok (.istore_n 1, 1) := by decide +kernel
theorem dX12_day_51 : decode cX12_day 51 = .ok (.iload_n 1, 1) := by decide +kernel
theorem dX12_day_52 : decode cX12_day 52 = .ok (.bipush 36, 2) := by decide +kernel
theorem dX12_day_54 : decode cX12_day 54 = .ok (.if_icmp .ge 21, 3) := by decide +kernel
theorem dX12_day_57 : decode cX12_day 57 = .ok (.aload_n 0, 1) := by decide +kernel
theorem dX12_day_58 : decode cX12_day 58 = .ok (.getfield 17, 3) := by decide +kernel
theorem dX12_day_61 : decode cX12_day 61 = .ok (.iload_n 1, 1) := by decide +kernel
theorem dX12_day_62 : decode cX12_day 62 = .ok (.aload_n 0, 1) := by decide +kernel
theorem dX12_day_63 : decode cX12_day 63 = .ok (.getfield 29, 3) := by decide +kernel
theorem dX12_day_66 : decode cX12_day 66 = .ok (.iload_n 1, 1) := by decide +kernel
theorem dX12_day_67 : decode cX12_day 67 = .ok (.iaload, 1) := by decide +kernel
theorem dX12_day_68 : decode cX12_day 68 = .ok (.iastore, 1) := by decide +kernel
theorem dX12_day_69 : decode cX12_day 69 = .ok (.iinc 1 1, 3) := by decide +kernel
theorem dX12_day_72 : decode cX12_day 72 = .ok (.goto (-21), 3) := by decide +kernel
theorem dX12_day_75 : decode cX12_day 75 = .ok (.iconst 0, 1) := by decide +kernel
theorem dX12_day_76 : decode cX12_day 76 = .ok (.istore_n 1, 1) := by decide +kernel
theorem dX12_day_77 : decode cX12_day 77 = .ok (.iload_n 1, 1) := by decide +kernel
theorem dX12_day_78 : decode cX12_day 78 = .ok (.bipush 6, 2) := by decide +kernel
theorem dX12_day_80 : decode cX12_day 80 = .ok (.if_icmp .ge 79, 3) := by decide +kernel
theorem dX12_day_83 : decode cX12_day 83 = .ok (.iconst 0, 1) := by decide +kernel
theorem dX12_day_84 : decode cX12_day 84 = .ok (.istore_n 2, 1) := by decide +kernel
theorem dX12_day_85 : decode cX12_day 85 = .ok (.iload_n 2, 1) := by decide +kernel
theorem dX12_day_86 : decode cX12_day 86 = .ok (.bipush 36, 2) := by decide +kernel
theorem dX12_day_88 : decode cX12_day 88 = .ok (.if_icmp .ge 65, 3) := by decide +kernel
theorem dX12_day_91 : decode cX12_day 91 = .ok (.aload_n 0, 1) := by decide +kernel
theorem dX12_day_92 : decode cX12_day 92 = .ok (.getfield 17, 3) := by decide +kernel
theorem dX12_day_95 : decode cX12_day 95 = .ok (.iload_n 2, 1) := by decide +kernel
theorem dX12_day_96 : decode cX12_day 96 = .ok (.bipush 6, 2) := by decide +kernel
theorem dX12_day_98 : decode cX12_day 98 = .ok (.idiv, 1) := by decide +kernel
theorem dX12_day_99 : decode cX12_day 99 = .ok (.bipush 6, 2) := by decide +kernel
theorem dX12_day_101 : decode cX12_day 101 = .ok (.imul, 1) := by decide +kernel
theorem dX12_day_102 : decode cX12_day 102 = .ok (.iload_n 1, 1) := by decide +kernel
theorem dX12_day_103 : decode cX12_day 103 = .ok (.iadd, 1) := by decide +kernel
theorem dX12_day_104 : decode cX12_day 104 = .ok (.iaload, 1) := by decide +kernel
theorem dX12_day_105 : decode cX12_day 105 = .ok (.aload_n 0, 1) := by decide +kernel
theorem dX12_day_106 : decode cX12_day 106 = .ok (.getfield 17, 3) := by decide +kernel
theorem dX12_day_109 : decode cX12_day 109 = .ok (.bipush 6, 2) := by decide +kernel
theorem dX12_day_111 : decode cX12_day 111 = .ok (.iload_n 1, 1) := by decide +kernel
theorem dX12_day_112 : decode cX12_day 112 = .ok (.imul, 1) := by decide +kernel
theorem dX12_day_113 : decode cX12_day 113 = .ok (.iload_n 2, 1) := by decide +kernel
theorem dX12_day_114 : decode cX12_day 114 = .ok (.bipush 6, 2) := by decide +kernel
theorem dX12_day_116 : decode cX12_day 116 = .ok (.irem, 1) := by decide +kernel
theorem dX12_day_117 : decode cX12_day 117 = .ok (.iadd, 1) := by decide +kernel
theorem dX12_day_118 : decode cX12_day 118 = .ok (.iaload, 1) := by decide +kernel
theorem dX12_day_119 : decode cX12_day 119 = .ok (.iadd, 1) := by decide +kernel
theorem dX12_day_120 : decode cX12_day 120 = .ok (.istore_n 3, 1) := by decide +kernel
theorem dX12_day_121 : decode cX12_day 121 = .ok (.aload_n 0, 1) := by decide +kernel
theorem dX12_day_122 : decode cX12_day 122 = .ok (.getfield 17, 3) := by decide +kernel
theorem dX12_day_125 : decode cX12_day 125 = .ok (.iload_n 2, 1) := by decide +kernel
theorem dX12_day_126 : decode cX12_day 126 = .ok (.iload_n 3, 1) := by decide +kernel
theorem dX12_day_127 : decode cX12_day 127 = .ok (.aload_n 0, 1) := by decide +kernel
theorem dX12_day_128 : decode cX12_day 128 = .ok (.getfield 17, 3) := by decide +kernel
theorem dX12_day_131 : decode cX12_day 131 = .ok (.iload_n 2, 1) := by decide +kernel
theorem dX12_day_132 : decode cX12_day 132 = .ok (.iaload, 1) := by decide +kernel
theorem dX12_day_133 : decode cX12_day 133 = .ok (.if_icmp .ge 7, 3) := by decide +kernel
theorem dX12_day_136 : decode cX12_day 136 = .ok (.iload_n 3, 1) := by decide +kernel
theorem dX12_day_137 : decode cX12_day 137 = .ok (.goto 9, 3) := by decide +kernel
theorem dX12_day_140 : decode cX12_day 140 = .ok (.aload_n 0, 1) := by decide +kernel
theorem dX12_day_141 : decode cX12_day 141 = .ok (.getfield 17, 3) := by decide +kernel
theorem dX12_day_144 : decode cX12_day 144 = .ok (.iload_n 2, 1) := by decide +kernel
theorem dX12_day_145 : decode cX12_day 145 = .ok (.iaload, 1) := by decide +kernel
theorem dX12_day_146 : decode cX12_day 146 = .ok (.iastore, 1) := by decide +kernel
theorem dX12_day_147 : decode cX12_day 147 = .ok (.iinc 2 1, 3) := by decide +kernel
theorem dX12_day_150 : decode cX12_day 150 = .ok (.goto (-65), 3) := by decide +kernel
theorem dX12_day_153 : decode cX12_day 153 = .ok (.iinc 1 1, 3) := by decide +kernel
theorem dX12_day_156 : decode cX12_day 156 = .ok (.goto (-79), 3) := by decide +kernel
theorem dX12_day_159 : decode cX12_day 159 = .ok (.iconst 0, 1) := by decide +kernel
theorem dX12_day_160 : decode cX12_day 160 = .ok (.istore_n 1, 1) := by decide +kernel
theorem dX12_day_161 : decode cX12_day 161 = .ok (.iload_n 1, 1) := by decide +kernel
theorem dX12_day_162 : decode cX12_day 162 = .ok (.aload_n 0, 1) := by decide +kernel
theorem dX12_day_163 : decode cX12_day 163 = .ok (.getfield 111, 3) := by decide +kernel
theorem dX12_day_166 : decode cX12_day 166 = .ok (.if_icmp .ge 45, 3) := by decide +kernel
theorem dX12_day_169 : decode cX12_day 169 = .ok (.aload_n 0, 1) := by decide +kernel
theorem dX12_day_170 : decode cX12_day 170 = .ok (.getfield 20, 3) := by decide +kernel
theorem dX12_day_173 : decode cX12_day 173 = .ok (.iload_n 1, 1) := by decide +kernel
theorem dX12_day_174 : decode cX12_day 174 = .ok (.aload_n 0, 1) := by decide +kernel
theorem dX12_day_175 : decode cX12_day 175 = .ok (.getfield 32, 3) := by decide +kernel
theorem dX12_day_178 : decode cX12_day 178 = .ok (.iload_n 1, 1) := by decide +kernel
theorem dX12_day_179 : decode cX12_day 179 = .ok (.iaload, 1) := by decide +kernel
theorem dX12_day_180 : decode cX12_day 180 = .ok (.iastore, 1) := by decide +kernel
theorem dX12_day_181 : decode cX12_day 181 = .ok (.aload_n 0, 1) := by decide +kernel
theorem dX12_day_182 : decode cX12_day 182 = .ok (.getfield 23, 3) := by decide +kernel
theorem dX12_day_185 : decode cX12_day 185 = .ok (.iload_n 1, 1) := by decide +kernel
theorem dX12_day_186 : decode cX12_day 186 = .ok (.aload_n 0, 1) := by decide +kernel
theorem dX12_day_187 : decode cX12_day 187 = .ok (.getfield 35, 3) := by decide +kernel
theorem dX12_day_190 : decode cX12_day 190 = .ok (.iload_n 1, 1) := by decide +kernel
theorem dX12_day_191 : decode cX12_day 191 = .ok (.iaload, 1) := by decide +kernel
theorem dX12_day_192 : decode cX12_day 192 = .ok (.iastore, 1) := by decide +kernel
theorem dX12_day_193 : decode cX12_day 193 = .ok (.aload_n 0, 1) := by decide +kernel
theorem dX12_day_194 : decode cX12_day 194 = .ok (.getfield 26, 3) := by decide +kernel
theorem dX12_day_197 : decode cX12_day 197 = .ok (.iload_n 1, 1) := by decide +kernel
theorem dX12_day_198 : decode cX12_day 198 = .ok (.aload_n 0, 1) := by decide +kernel
theorem dX12_day_199 : decode cX12_day 199 = .ok (.getfield 38, 3) := by decide +kernel
theorem dX12_day_202 : decode cX12_day 202 = .ok (.iload_n 1, 1) := by decide +kernel
theorem dX12_day_203 : decode cX12_day 203 = .ok (.iaload, 1) := by decide +kernel
theorem dX12_day_204 : decode cX12_day 204 = .ok (.iastore, 1) := by decide +kernel
theorem dX12_day_205 : decode cX12_day 205 = .ok (.iinc 1 1, 3) := by decide +kernel
theorem dX12_day_208 : decode cX12_day 208 = .ok (.goto (-47), 3) := by decide +kernel
theorem dX12_day_211 : decode cX12_day 211 = .ok (.aload_n 0, 1) := by decide +kernel
theorem dX12_day_212 : decode cX12_day 212 = .ok (.getfield 41, 3) := by decide +kernel
theorem dX12_day_215 : decode cX12_day 215 = .ok (.iconst 0, 1) := by decide +kernel
theorem dX12_day_216 : decode cX12_day 216 = .ok (.iconst 0, 1) := by decide +kernel
theorem dX12_day_217 : decode cX12_day 217 = .ok (.iastore, 1) := by decide +kernel
theorem dX12_day_218 : decode cX12_day 218 = .ok (.aload_n 0, 1) := by decide +kernel
theorem dX12_day_219 : decode cX12_day 219 = .ok (.getfield 41, 3) := by decide +kernel
theorem dX12_day_222 : decode cX12_day 222 = .ok (.iconst 1, 1) := by decide +kernel
theorem dX12_day_223 : decode cX12_day 223 = .ok (.iconst 0, 1) := by decide +kernel
theorem dX12_day_224 : decode cX12_day 224 = .ok (.iastore, 1) := by decide +kernel
theorem dX12_day_225 : decode cX12_day 225 = .ok (.aload_n 0, 1) := by decide +kernel
theorem dX12_day_226 : decode cX12_day 226 = .ok (.aload_n 0, 1) := by decide +kernel
theorem dX12_day_227 : decode cX12_day 227 = .ok (.getfield 159, 3) := by decide +kernel
theorem dX12_day_230 : decode cX12_day 230 = .ok (.putfield 165, 3) := by decide +kernel
theorem dX12_day_233 : decode cX12_day 233 = .ok (.aload_n 0, 1) := by decide +kernel
theorem dX12_day_234 : decode cX12_day 234 = .ok (.iconst 0, 1) := by decide +kernel
theorem dX12_day_235 : decode cX12_day 235 = .ok (.putfield 168, 3) := by decide +kernel
theorem dX12_day_238 : decode cX12_day 238 = .ok (.aload_n 0, 1) := by decide +kernel
theorem dX12_day_239 : decode cX12_day 239 = .ok (.iconst 0, 1) := by decide +kernel
theorem dX12_day_240 : decode cX12_day 240 = .ok (.putfield 171, 3) := by decide +kernel
theorem dX12_day_243 : decode cX12_day 243 = .ok (.aload_n 0, 1) := by decide +kernel
theorem dX12_day_244 : decode cX12_day 244 = .ok (.iconst 0, 1) := by decide +kernel
theorem dX12_day_245 : decode cX12_day 245 = .ok (.putfield 174, 3) := by decide +kernel
theorem dX12_day_248 : decode cX12_day 248 = .ok (.aload_n 0, 1) := by decide +kernel
theorem dX12_day_249 : decode cX12_day 249 = .ok (.iconst 0, 1) := by decide +kernel
theorem dX12_day_250 : decode cX12_day 250 = .ok (.putfield 177, 3) := by decide +kernel
theorem dX12_day_253 : decode cX12_day 253 = .ok (.aload_n 0, 1) := by decide +kernel
theorem dX12_day_254 : decode cX12_day 254 = .ok (.getfield 53, 3) := by decide +kernel
theorem dX12_day_257 : decode cX12_day 257 = .ok (.iconst 0, 1) := by decide +kernel
theorem dX12_day_258 : decode cX12_day 258 = .ok (.iconst 0, 1) := by decide +kernel
theorem dX12_day_259 : decode cX12_day 259 = .ok (.bastore, 1) := by decide +kernel
theorem dX12_day_260 : decode cX12_day 260 = .ok (.aload_n 0, 1) := by decide +kernel
theorem dX12_day_261 : decode cX12_day 261 = .ok (.getfield 53, 3) := by decide +kernel
theorem dX12_day_264 : decode cX12_day 264 = .ok (.iconst 1, 1) := by decide +kernel
theorem dX12_day_265 : decode cX12_day 265 = .ok (.iconst 0, 1) := by decide +kernel
theorem dX12_day_266 : decode cX12_day 266 = .ok (.bastore, 1) := by decide +kernel
theorem dX12_day_267 : decode cX12_day 267 = .ok (.aload_n 0, 1) := by decide +kernel
theorem dX12_day_268 : decode cX12_day 268 = .ok (.getfield 13, 3) := by decide +kernel
theorem dX12_day_271 : decode cX12_day 271 = .ok (.ireturn, 1) := by decide +kernel
theorem dX12_owed_0 : decode cX12_owed 0 = .ok (.iload_n 0, 1) := by decide +kernel
theorem dX12_owed_1 : decode cX12_owed 1 = .ok (.ifCond .ge 8, 3) := by decide +kernel
theorem dX12_owed_4 : decode cX12_owed 4 = .ok (.iload_n 0, 1) := by decide +kernel
theorem dX12_owed_5 : decode cX12_owed 5 = .ok (.ineg, 1) := by decide +kernel
theorem dX12_owed_6 : decode cX12_owed 6 = .ok (.goto 4, 3) := by decide +kernel
theorem dX12_owed_9 : decode cX12_owed 9 = .ok (.iload_n 0, 1) := by decide +kernel
theorem dX12_owed_10 : decode cX12_owed 10 = .ok (.istore_n 1, 1) := by decide +kernel
theorem dX12_owed_11 : decode cX12_owed 11 = .ok (.iload_n 1, 1) := by decide +kernel
theorem dX12_owed_12 : decode cX12_owed 12 = .ok (.iload_n 1, 1) := by decide +kernel
theorem dX12_owed_13 : decode cX12_owed 13 = .ok (.bipush 9, 2) := by decide +kernel
theorem dX12_owed_15 : decode cX12_owed 15 = .ok (.iadd, 1) := by decide +kernel
theorem dX12_owed_16 : decode cX12_owed 16 = .ok (.bipush 10, 2) := by decide +kernel
theorem dX12_owed_18 : decode cX12_owed 18 = .ok (.idiv, 1) := by decide +kernel
theorem dX12_owed_19 : decode cX12_owed 19 = .ok (.iadd, 1) := by decide +kernel
theorem dX12_owed_20 : decode cX12_owed 20 = .ok (.ireturn, 1) := by decide +kernel
theorem dX12_worthOf_0 : decode cX12_worthOf 0 = .ok (.iconst 0, 1) := by decide +kernel
theorem dX12_worthOf_1 : decode cX12_worthOf 1 = .ok (.istore_n 2, 1) := by decide +kernel
theorem dX12_worthOf_2 : decode cX12_worthOf 2 = .ok (.iconst 0, 1) := by decide +kernel
theorem dX12_worthOf_3 : decode cX12_worthOf 3 = .ok (.istore_n 3, 1) := by decide +kernel
theorem dX12_worthOf_4 : decode cX12_worthOf 4 = .ok (.iload_n 3, 1) := by decide +kernel
theorem dX12_worthOf_5 : decode cX12_worthOf 5 = .ok (.aload_n 0, 1) := by decide +kernel
theorem dX12_worthOf_6 : decode cX12_worthOf 6 = .ok (.getfield 111, 3) := by decide +kernel
theorem dX12_worthOf_9 : decode cX12_worthOf 9 = .ok (.if_icmp .ge 30, 3) := by decide +kernel
theorem dX12_worthOf_12 : decode cX12_worthOf 12 = .ok (.iload_n 2, 1) := by decide +kernel
theorem dX12_worthOf_13 : decode cX12_worthOf 13 = .ok (.iload_n 1, 1) := by decide +kernel
theorem dX12_worthOf_14 : decode cX12_worthOf 14 = .ok (.iload_n 3, 1) := by decide +kernel
theorem dX12_worthOf_15 : decode cX12_worthOf 15 = .ok (.invokestatic 180, 3) := by decide +kernel
theorem dX12_worthOf_18 : decode cX12_worthOf 18 = .ok (.ifCond .eq 12, 3) := by decide +kernel
theorem dX12_worthOf_21 : decode cX12_worthOf 21 = .ok (.aload_n 0, 1) := by decide +kernel
theorem dX12_worthOf_22 : decode cX12_worthOf 22 = .ok (.getfield 23, 3) := by decide +kernel
theorem dX12_worthOf_25 : decode cX12_worthOf 25 = .ok (.iload_n 3, 1) := by decide +kernel
theorem dX12_worthOf_26 : decode cX12_worthOf 26 = .ok (.iaload, 1) := by decide +kernel
theorem dX12_worthOf_27 : decode cX12_worthOf 27 = .ok (.goto 4, 3) := by decide +kernel
theorem dX12_worthOf_30 : decode cX12_worthOf 30 = .ok (.iconst 0, 1) := by decide +kernel
theorem dX12_worthOf_31 : decode cX12_worthOf 31 = .ok (.iadd, 1) := by decide +kernel
theorem dX12_worthOf_32 : decode cX12_worthOf 32 = .ok (.istore_n 2, 1) := by decide +kernel
theorem dX12_worthOf_33 : decode cX12_worthOf 33 = .ok (.iinc 3 1, 3) := by decide +kernel
theorem dX12_worthOf_36 : decode cX12_worthOf 36 = .ok (.goto (-32), 3) := by decide +kernel
theorem dX12_worthOf_39 : decode cX12_worthOf 39 = .ok (.iload_n 2, 1) := by decide +kernel
theorem dX12_worthOf_40 : decode cX12_worthOf 40 = .ok (.ireturn, 1) := by decide +kernel
theorem dX12_about_0 : decode cX12_about 0 = .ok (.aload_n 0, 1) := by decide +kernel
theorem dX12_about_1 : decode cX12_about 1 = .ok (.iconst 0, 1) := by decide +kernel
theorem dX12_about_2 : decode cX12_about 2 = .ok (.putfield 104, 3) := by decide +kernel
theorem dX12_about_5 : decode cX12_about 5 = .ok (.sipush 10000, 3) := by decide +kernel
theorem dX12_about_8 : decode cX12_about 8 = .ok (.istore_n 2, 1) := by decide +kernel
theorem dX12_about_9 : decode cX12_about 9 = .ok (.iconst 0, 1) := by decide +kernel
theorem dX12_about_10 : decode cX12_about 10 = .ok (.istore_n 3, 1) := by decide +kernel
theorem dX12_about_11 : decode cX12_about 11 = .ok (.iload_n 3, 1) := by decide +kernel
theorem dX12_about_12 : decode cX12_about 12 = .ok (.aload_n 0, 1) := by decide +kernel
theorem dX12_about_13 : decode cX12_about 13 = .ok (.getfield 174, 3) := by decide +kernel
theorem dX12_about_16 : decode cX12_about 16 = .ok (.if_icmp .ge 43, 3) := by decide +kernel
theorem dX12_about_19 : decode cX12_about 19 = .ok (.iload_n 2, 1) := by decide +kernel
theorem dX12_about_20 : decode cX12_about 20 = .ok (.aload_n 0, 1) := by decide +kernel
theorem dX12_about_21 : decode cX12_about 21 = .ok (.getfield 44, 3) := by decide +kernel
theorem dX12_about_24 : decode cX12_about 24 = .ok (.iload_n 3, 1) := by decide +kernel
theorem dX12_about_25 : decode cX12_about 25 = .ok (.iaload, 1) := by decide +kernel
theorem dX12_about_26 : decode cX12_about 26 = .ok (.ifCond .le 15, 3) := by decide +kernel
theorem dX12_about_29 : decode cX12_about 29 = .ok (.aload_n 0, 1) := by decide +kernel
theorem dX12_about_30 : decode cX12_about 30 = .ok (.getfield 44, 3) := by decide +kernel
theorem dX12_about_33 : decode cX12_about 33 = .ok (.iload_n 3, 1) := by decide +kernel
theorem dX12_about_34 : decode cX12_about 34 = .ok (.iaload, 1) := by decide +kernel
theorem dX12_about_35 : decode cX12_about 35 = .ok (.invokestatic 184, 3) := by decide +kernel
theorem dX12_about_38 : decode cX12_about 38 = .ok (.goto 13, 3) := by decide +kernel
theorem dX12_about_41 : decode cX12_about 41 = .ok (.aload_n 0, 1) := by decide +kernel
theorem dX12_about_42 : decode cX12_about 42 = .ok (.getfield 44, 3) := by decide +kernel
theorem dX12_about_45 : decode cX12_about 45 = .ok (.iload_n 3, 1) := by decide +kernel
theorem dX12_about_46 : decode cX12_about 46 = .ok (.iaload, 1) := by decide +kernel
theorem dX12_about_47 : decode cX12_about 47 = .ok (.invokestatic 184, 3) := by decide +kernel
theorem dX12_about_50 : decode cX12_about 50 = .ok (.ineg, 1) := by decide +kernel
theorem dX12_about_51 : decode cX12_about 51 = .ok (.iadd, 1) := by decide +kernel
theorem dX12_about_52 : decode cX12_about 52 = .ok (.istore_n 2, 1) := by decide +kernel
theorem dX12_about_53 : decode cX12_about 53 = .ok (.iinc 3 1, 3) := by decide +kernel
theorem dX12_about_56 : decode cX12_about 56 = .ok (.goto (-45), 3) := by decide +kernel
theorem dX12_about_59 : decode cX12_about 59 = .ok (.iload_n 1, 1) := by decide +kernel
theorem dX12_about_60 : decode cX12_about 60 = .ok (.tableswitch 107 0 9 #[56, 61, 66, 71, 76, 81, 90, 95, 100, 102], 56) := by decide +kernel
theorem dX12_about_116 : decode cX12_about 116 = .ok (.aload_n 0, 1) := by decide +kernel
theorem dX12_about_117 : decode cX12_about 117 = .ok (.getfield 13, 3) := by decide +kernel
theorem dX12_about_120 : decode cX12_about 120 = .ok (.ireturn, 1) := by decide +kernel
theorem dX12_about_121 : decode cX12_about 121 = .ok (.aload_n 0, 1) := by decide +kernel
theorem dX12_about_122 : decode cX12_about 122 = .ok (.getfield 111, 3) := by decide +kernel
theorem dX12_about_125 : decode cX12_about 125 = .ok (.ireturn, 1) := by decide +kernel
theorem dX12_about_126 : decode cX12_about 126 = .ok (.aload_n 0, 1) := by decide +kernel
theorem dX12_about_127 : decode cX12_about 127 = .ok (.getfield 162, 3) := by decide +kernel
theorem dX12_about_130 : decode cX12_about 130 = .ok (.ireturn, 1) := by decide +kernel
theorem dX12_about_131 : decode cX12_about 131 = .ok (.aload_n 0, 1) := by decide +kernel
theorem dX12_about_132 : decode cX12_about 132 = .ok (.getfield 165, 3) := by decide +kernel
theorem dX12_about_135 : decode cX12_about 135 = .ok (.ireturn, 1) := by decide +kernel
theorem dX12_about_136 : decode cX12_about 136 = .ok (.aload_n 0, 1) := by decide +kernel
theorem dX12_about_137 : decode cX12_about 137 = .ok (.getfield 168, 3) := by decide +kernel
theorem dX12_about_140 : decode cX12_about 140 = .ok (.ireturn, 1) := by decide +kernel
theorem dX12_about_141 : decode cX12_about 141 = .ok (.aload_n 0, 1) := by decide +kernel
theorem dX12_about_142 : decode cX12_about 142 = .ok (.aload_n 0, 1) := by decide +kernel
theorem dX12_about_143 : decode cX12_about 143 = .ok (.getfield 168, 3) := by decide +kernel
theorem dX12_about_146 : decode cX12_about 146 = .ok (.invokevirtual 188, 3) := by decide +kernel
theorem dX12_about_149 : decode cX12_about 149 = .ok (.ireturn, 1) := by decide +kernel
theorem dX12_about_150 : decode cX12_about 150 = .ok (.aload_n 0, 1) := by decide +kernel
theorem dX12_about_151 : decode cX12_about 151 = .ok (.getfield 177, 3) := by decide +kernel
theorem dX12_about_154 : decode cX12_about 154 = .ok (.ireturn, 1) := by decide +kernel
theorem dX12_about_155 : decode cX12_about 155 = .ok (.aload_n 0, 1) := by decide +kernel
theorem dX12_about_156 : decode cX12_about 156 = .ok (.getfield 174, 3) := by decide +kernel
theorem dX12_about_159 : decode cX12_about 159 = .ok (.ireturn, 1) := by decide +kernel
theorem dX12_about_160 : decode cX12_about 160 = .ok (.iload_n 2, 1) := by decide +kernel
theorem dX12_about_161 : decode cX12_about 161 = .ok (.ireturn, 1) := by decide +kernel
theorem dX12_about_162 : decode cX12_about 162 = .ok (.aload_n 0, 1) := by decide +kernel
theorem dX12_about_163 : decode cX12_about 163 = .ok (.getfield 116, 3) := by decide +kernel
theorem dX12_about_166 : decode cX12_about 166 = .ok (.ireturn, 1) := by decide +kernel
theorem dX12_about_167 : decode cX12_about 167 = .ok (.bipush (-2), 2) := by decide +kernel
theorem dX12_about_169 : decode cX12_about 169 = .ok (.ireturn, 1) := by decide +kernel
theorem dX12_at_0 : decode cX12_at 0 = .ok (.aload_n 0, 1) := by decide +kernel
theorem dX12_at_1 : decode cX12_at 1 = .ok (.iconst 0, 1) := by decide +kernel
theorem dX12_at_2 : decode cX12_at 2 = .ok (.putfield 104, 3) := by decide +kernel
theorem dX12_at_5 : decode cX12_at 5 = .ok (.iload_n 1, 1) := by decide +kernel
theorem dX12_at_6 : decode cX12_at 6 = .ok (.invokestatic 191, 3) := by decide +kernel
theorem dX12_at_9 : decode cX12_at 9 = .ok (.ifCond .eq 7, 3) := by decide +kernel
theorem dX12_at_12 : decode cX12_at 12 = .ok (.iconst (-1), 1) := by decide +kernel
theorem dX12_at_13 : decode cX12_at 13 = .ok (.goto 9, 3) := by decide +kernel
theorem dX12_at_16 : decode cX12_at 16 = .ok (.aload_n 0, 1) := by decide +kernel
theorem dX12_at_17 : decode cX12_at 17 = .ok (.getfield 41, 3) := by decide +kernel
theorem dX12_at_20 : decode cX12_at 20 = .ok (.iload_n 1, 1) := by decide +kernel
theorem dX12_at_21 : decode cX12_at 21 = .ok (.iaload, 1) := by decide +kernel
theorem dX12_at_22 : decode cX12_at 22 = .ok (.ireturn, 1) := by decide +kernel
theorem dX12_far_0 : decode cX12_far 0 = .ok (.aload_n 0, 1) := by decide +kernel
theorem dX12_far_1 : decode cX12_far 1 = .ok (.iconst 0, 1) := by decide +kernel
theorem dX12_far_2 : decode cX12_far 2 = .ok (.putfield 104, 3) := by decide +kernel
theorem dX12_far_5 : decode cX12_far 5 = .ok (.aload_n 0, 1) := by decide +kernel
theorem dX12_far_6 : decode cX12_far 6 = .ok (.iload_n 1, 1) := by decide +kernel
theorem dX12_far_7 : decode cX12_far 7 = .ok (.invokevirtual 194, 3) := by decide +kernel
theorem dX12_far_10 : decode cX12_far 10 = .ok (.ifCond .ne 11, 3) := by decide +kernel
theorem dX12_far_13 : decode cX12_far 13 = .ok (.aload_n 0, 1) := by decide +kernel
theorem dX12_far_14 : decode cX12_far 14 = .ok (.iload_n 2, 1) := by decide +kernel
theorem dX12_far_15 : decode cX12_far 15 = .ok (.invokevirtual 194, 3) := by decide +kernel
theorem dX12_far_18 : decode cX12_far 18 = .ok (.ifCond .eq 5, 3) := by decide +kernel
theorem dX12_far_21 : decode cX12_far 21 = .ok (.iconst (-1), 1) := by decide +kernel
theorem dX12_far_22 : decode cX12_far 22 = .ok (.ireturn, 1) := by decide +kernel
theorem dX12_far_23 : decode cX12_far 23 = .ok (.aload_n 0, 1) := by decide +kernel
theorem dX12_far_24 : decode cX12_far 24 = .ok (.getfield 17, 3) := by decide +kernel
theorem dX12_far_27 : decode cX12_far 27 = .ok (.bipush 6, 2) := by decide +kernel
theorem dX12_far_29 : decode cX12_far 29 = .ok (.iload_n 1, 1) := by decide +kernel
theorem dX12_far_30 : decode cX12_far 30 = .ok (.imul, 1) := by decide +kernel
theorem dX12_far_31 : decode cX12_far 31 = .ok (.iload_n 2, 1) := by decide +kernel
theorem dX12_far_32 : decode cX12_far 32 = .ok (.iadd, 1) := by decide +kernel
theorem dX12_far_33 : decode cX12_far 33 = .ok (.iaload, 1) := by decide +kernel
theorem dX12_far_34 : decode cX12_far 34 = .ok (.ldc 103, 2) := by decide +kernel
theorem dX12_far_36 : decode cX12_far 36 = .ok (.if_icmp .lt 8, 3) := by decide +kernel
theorem dX12_far_39 : decode cX12_far 39 = .ok (.bipush (-9), 2) := by decide +kernel
theorem dX12_far_41 : decode cX12_far 41 = .ok (.goto 14, 3) := by decide +kernel
theorem dX12_far_44 : decode cX12_far 44 = .ok (.aload_n 0, 1) := by decide +kernel
theorem dX12_far_45 : decode cX12_far 45 = .ok (.getfield 17, 3) := by decide +kernel
theorem dX12_far_48 : decode cX12_far 48 = .ok (.bipush 6, 2) := by decide +kernel
theorem dX12_far_50 : decode cX12_far 50 = .ok (.iload_n 1, 1) := by decide +kernel
theorem dX12_far_51 : decode cX12_far 51 = .ok (.imul, 1) := by decide +kernel
theorem dX12_far_52 : decode cX12_far 52 = .ok (.iload_n 2, 1) := by decide +kernel
theorem dX12_far_53 : decode cX12_far 53 = .ok (.iadd, 1) := by decide +kernel
theorem dX12_far_54 : decode cX12_far 54 = .ok (.iaload, 1) := by decide +kernel
theorem dX12_far_55 : decode cX12_far 55 = .ok (.ireturn, 1) := by decide +kernel
theorem dX12_errand_0 : decode cX12_errand 0 = .ok (.aload_n 0, 1) := by decide +kernel
theorem dX12_errand_1 : decode cX12_errand 1 = .ok (.iconst 0, 1) := by decide +kernel
theorem dX12_errand_2 : decode cX12_errand 2 = .ok (.putfield 104, 3) := by decide +kernel
theorem dX12_errand_5 : decode cX12_errand 5 = .ok (.aload_n 0, 1) := by decide +kernel
theorem dX12_errand_6 : decode cX12_errand 6 = .ok (.iload_n 1, 1) := by decide +kernel
theorem dX12_errand_7 : decode cX12_errand 7 = .ok (.invokevirtual 197, 3) := by decide +kernel
theorem dX12_errand_10 : decode cX12_errand 10 = .ok (.ifCond .eq 5, 3) := by decide +kernel
theorem dX12_errand_13 : decode cX12_errand 13 = .ok (.iconst (-1), 1) := by decide +kernel
theorem dX12_errand_14 : decode cX12_errand 14 = .ok (.ireturn, 1) := by decide +kernel
theorem dX12_errand_15 : decode cX12_errand 15 = .ok (.iload_n 2, 1) := by decide +kernel
theorem dX12_errand_16 : decode cX12_errand 16 = .ok (.tableswitch 107 0 4 #[36, 43, 50, 57, 74], 36) := by decide +kernel
theorem dX12_errand_52 : decode cX12_errand 52 = .ok (.aload_n 0, 1) := by decide +kernel
theorem dX12_errand_53 : decode cX12_errand 53 = .ok (.getfield 20, 3) := by decide +kernel
theorem dX12_errand_56 : decode cX12_errand 56 = .ok (.iload_n 1, 1) := by decide +kernel
theorem dX12_errand_57 : decode cX12_errand 57 = .ok (.iaload, 1) := by decide +kernel
theorem dX12_errand_58 : decode cX12_errand 58 = .ok (.ireturn, 1) := by decide +kernel
theorem dX12_errand_59 : decode cX12_errand 59 = .ok (.aload_n 0, 1) := by decide +kernel
theorem dX12_errand_60 : decode cX12_errand 60 = .ok (.getfield 23, 3) := by decide +kernel
theorem dX12_errand_63 : decode cX12_errand 63 = .ok (.iload_n 1, 1) := by decide +kernel
theorem dX12_errand_64 : decode cX12_errand 64 = .ok (.iaload, 1) := by decide +kernel
theorem dX12_errand_65 : decode cX12_errand 65 = .ok (.ireturn, 1) := by decide +kernel
theorem dX12_errand_66 : decode cX12_errand 66 = .ok (.aload_n 0, 1) := by decide +kernel
theorem dX12_errand_67 : decode cX12_errand 67 = .ok (.getfield 26, 3) := by decide +kernel
theorem dX12_errand_70 : decode cX12_errand 70 = .ok (.iload_n 1, 1) := by decide +kernel
theorem dX12_errand_71 : decode cX12_errand 71 = .ok (.iaload, 1) := by decide +kernel
theorem dX12_errand_72 : decode cX12_errand 72 = .ok (.ireturn, 1) := by decide +kernel
theorem dX12_errand_73 : decode cX12_errand 73 = .ok (.aload_n 0, 1) := by decide +kernel
theorem dX12_errand_74 : decode cX12_errand 74 = .ok (.getfield 168, 3) := by decide +kernel
theorem dX12_errand_77 : decode cX12_errand 77 = .ok (.iload_n 1, 1) := by decide +kernel
theorem dX12_errand_78 : decode cX12_errand 78 = .ok (.invokestatic 180, 3) := by decide +kernel
theorem dX12_errand_81 : decode cX12_errand 81 = .ok (.ifCond .eq 7, 3) := by decide +kernel
theorem dX12_errand_84 : decode cX12_errand 84 = .ok (.iconst 1, 1) := by decide +kernel
theorem dX12_errand_85 : decode cX12_errand 85 = .ok (.goto 4, 3) := by decide +kernel
theorem dX12_errand_88 : decode cX12_errand 88 = .ok (.iconst 0, 1) := by decide +kernel
theorem dX12_errand_89 : decode cX12_errand 89 = .ok (.ireturn, 1) := by decide +kernel
theorem dX12_errand_90 : decode cX12_errand 90 = .ok (.aload_n 0, 1) := by decide +kernel
theorem dX12_errand_91 : decode cX12_errand 91 = .ok (.getfield 168, 3) := by decide +kernel
theorem dX12_errand_94 : decode cX12_errand 94 = .ok (.iload_n 1, 1) := by decide +kernel
theorem dX12_errand_95 : decode cX12_errand 95 = .ok (.invokestatic 180, 3) := by decide +kernel
theorem dX12_errand_98 : decode cX12_errand 98 = .ok (.ifCond .ne 8, 3) := by decide +kernel
theorem dX12_errand_101 : decode cX12_errand 101 = .ok (.bipush (-9), 2) := by decide +kernel
theorem dX12_errand_103 : decode cX12_errand 103 = .ok (.goto 19, 3) := by decide +kernel
theorem dX12_errand_106 : decode cX12_errand 106 = .ok (.aload_n 0, 1) := by decide +kernel
theorem dX12_errand_107 : decode cX12_errand 107 = .ok (.getfield 171, 3) := by decide +kernel
theorem dX12_errand_110 : decode cX12_errand 110 = .ok (.iload_n 1, 1) := by decide +kernel
theorem dX12_errand_111 : decode cX12_errand 111 = .ok (.invokestatic 180, 3) := by decide +kernel
theorem dX12_errand_114 : decode cX12_errand 114 = .ok (.ifCond .eq 7, 3) := by decide +kernel
theorem dX12_errand_117 : decode cX12_errand 117 = .ok (.iconst 1, 1) := by decide +kernel
theorem dX12_errand_118 : decode cX12_errand 118 = .ok (.goto 4, 3) := by decide +kernel
theorem dX12_errand_121 : decode cX12_errand 121 = .ok (.iconst 0, 1) := by decide +kernel
theorem dX12_errand_122 : decode cX12_errand 122 = .ok (.ireturn, 1) := by decide +kernel
theorem dX12_errand_123 : decode cX12_errand 123 = .ok (.bipush (-2), 2) := by decide +kernel
theorem dX12_errand_125 : decode cX12_errand 125 = .ok (.ireturn, 1) := by decide +kernel
theorem dX12_layPage_0 : decode cX12_layPage 0 = .ok (.aload_n 1, 1) := by decide +kernel
theorem dX12_layPage_1 : decode cX12_layPage 1 = .ok (.iload_n 2, 1) := by decide +kernel
theorem dX12_layPage_2 : decode cX12_layPage 2 = .ok (.aload_n 0, 1) := by decide +kernel
theorem dX12_layPage_3 : decode cX12_layPage 3 = .ok (.getfield 41, 3) := by decide +kernel
theorem dX12_layPage_6 : decode cX12_layPage 6 = .ok (.iconst 0, 1) := by decide +kernel
theorem dX12_layPage_7 : decode cX12_layPage 7 = .ok (.iaload, 1) := by decide +kernel
theorem dX12_layPage_8 : decode cX12_layPage 8 = .ok (.iastore, 1) := by decide +kernel
theorem dX12_layPage_9 : decode cX12_layPage 9 = .ok (.aload_n 1, 1) := by decide +kernel
theorem dX12_layPage_10 : decode cX12_layPage 10 = .ok (.iload_n 2, 1) := by decide +kernel
theorem dX12_layPage_11 : decode cX12_layPage 11 = .ok (.iconst 1, 1) := by decide +kernel
theorem dX12_layPage_12 : decode cX12_layPage 12 = .ok (.iadd, 1) := by decide +kernel
theorem dX12_layPage_13 : decode cX12_layPage 13 = .ok (.aload_n 0, 1) := by decide +kernel
theorem dX12_layPage_14 : decode cX12_layPage 14 = .ok (.getfield 41, 3) := by decide +kernel
theorem dX12_layPage_17 : decode cX12_layPage 17 = .ok (.iconst 1, 1) := by decide +kernel
theorem dX12_layPage_18 : decode cX12_layPage 18 = .ok (.iaload, 1) := by decide +kernel
theorem dX12_layPage_19 : decode cX12_layPage 19 = .ok (.iastore, 1) := by decide +kernel
theorem dX12_layPage_20 : decode cX12_layPage 20 = .ok (.aload_n 1, 1) := by decide +kernel
theorem dX12_layPage_21 : decode cX12_layPage 21 = .ok (.iload_n 2, 1) := by decide +kernel
theorem dX12_layPage_22 : decode cX12_layPage 22 = .ok (.iconst 2, 1) := by decide +kernel
theorem dX12_layPage_23 : decode cX12_layPage 23 = .ok (.iadd, 1) := by decide +kernel
theorem dX12_layPage_24 : decode cX12_layPage 24 = .ok (.aload_n 0, 1) := by decide +kernel
theorem dX12_layPage_25 : decode cX12_layPage 25 = .ok (.getfield 165, 3) := by decide +kernel
theorem dX12_layPage_28 : decode cX12_layPage 28 = .ok (.iastore, 1) := by decide +kernel
theorem dX12_layPage_29 : decode cX12_layPage 29 = .ok (.aload_n 1, 1) := by decide +kernel
theorem dX12_layPage_30 : decode cX12_layPage 30 = .ok (.iload_n 2, 1) := by decide +kernel
theorem dX12_layPage_31 : decode cX12_layPage 31 = .ok (.iconst 3, 1) := by decide +kernel
theorem dX12_layPage_32 : decode cX12_layPage 32 = .ok (.iadd, 1) := by decide +kernel
theorem dX12_layPage_33 : decode cX12_layPage 33 = .ok (.aload_n 0, 1) := by decide +kernel
theorem dX12_layPage_34 : decode cX12_layPage 34 = .ok (.getfield 168, 3) := by decide +kernel
theorem dX12_layPage_37 : decode cX12_layPage 37 = .ok (.iastore, 1) := by decide +kernel
theorem dX12_layPage_38 : decode cX12_layPage 38 = .ok (.aload_n 1, 1) := by decide +kernel
theorem dX12_layPage_39 : decode cX12_layPage 39 = .ok (.iload_n 2, 1) := by decide +kernel
theorem dX12_layPage_40 : decode cX12_layPage 40 = .ok (.iconst 4, 1) := by decide +kernel
theorem dX12_layPage_41 : decode cX12_layPage 41 = .ok (.iadd, 1) := by decide +kernel
theorem dX12_layPage_42 : decode cX12_layPage 42 = .ok (.aload_n 0, 1) := by decide +kernel
theorem dX12_layPage_43 : decode cX12_layPage 43 = .ok (.getfield 171, 3) := by decide +kernel
theorem dX12_layPage_46 : decode cX12_layPage 46 = .ok (.iastore, 1) := by decide +kernel
theorem dX12_layPage_47 : decode cX12_layPage 47 = .ok (.aload_n 1, 1) := by decide +kernel
theorem dX12_layPage_48 : decode cX12_layPage 48 = .ok (.iload_n 2, 1) := by decide +kernel
theorem dX12_layPage_49 : decode cX12_layPage 49 = .ok (.iconst 5, 1) := by decide +kernel
theorem dX12_layPage_50 : decode cX12_layPage 50 = .ok (.iadd, 1) := by decide +kernel
theorem dX12_layPage_51 : decode cX12_layPage 51 = .ok (.aload_n 0, 1) := by decide +kernel
theorem dX12_layPage_52 : decode cX12_layPage 52 = .ok (.getfield 174, 3) := by decide +kernel
theorem dX12_layPage_55 : decode cX12_layPage 55 = .ok (.iastore, 1) := by decide +kernel
theorem dX12_layPage_56 : decode cX12_layPage 56 = .ok (.iconst 0, 1) := by decide +kernel
theorem dX12_layPage_57 : decode cX12_layPage 57 = .ok (.istore_n 3, 1) := by decide +kernel
theorem dX12_layPage_58 : decode cX12_layPage 58 = .ok (.iload_n 3, 1) := by decide +kernel
theorem dX12_layPage_59 : decode cX12_layPage 59 = .ok (.bipush 8, 2) := by decide +kernel
theorem dX12_layPage_61 : decode cX12_layPage 61 = .ok (.if_icmp .ge 23, 3) := by decide +kernel
theorem dX12_layPage_64 : decode cX12_layPage 64 = .ok (.aload_n 1, 1) := by decide +kernel
theorem dX12_layPage_65 : decode cX12_layPage 65 = .ok (.iload_n 2, 1) := by decide +kernel
theorem dX12_layPage_66 : decode cX12_layPage 66 = .ok (.bipush 6, 2) := by decide +kernel
theorem dX12_layPage_68 : decode cX12_layPage 68 = .ok (.iadd, 1) := by decide +kernel
theorem dX12_layPage_69 : decode cX12_layPage 69 = .ok (.iload_n 3, 1) := by decide +kernel
theorem dX12_layPage_70 : decode cX12_layPage 70 = .ok (.iadd, 1) := by decide +kernel
theorem dX12_layPage_71 : decode cX12_layPage 71 = .ok (.aload_n 0, 1) := by decide +kernel
theorem dX12_layPage_72 : decode cX12_layPage 72 = .ok (.getfield 44, 3) := by decide +kernel
theorem dX12_layPage_75 : decode cX12_layPage 75 = .ok (.iload_n 3, 1) := by decide +kernel
theorem dX12_layPage_76 : decode cX12_layPage 76 = .ok (.iaload, 1) := by decide +kernel
theorem dX12_layPage_77 : decode cX12_layPage 77 = .ok (.iastore, 1) := by decide +kernel
theorem dX12_layPage_78 : decode cX12_layPage 78 = .ok (.iinc 3 1, 3) := by decide +kernel
theorem dX12_layPage_81 : decode cX12_layPage 81 = .ok (.goto (-23), 3) := by decide +kernel
theorem dX12_layPage_84 : decode cX12_layPage 84 = .ok (.return_, 1) := by decide +kernel
theorem dX12_takePage_0 : decode cX12_takePage 0 = .ok (.aload_n 0, 1) := by decide +kernel
theorem dX12_takePage_1 : decode cX12_takePage 1 = .ok (.getfield 41, 3) := by decide +kernel
theorem dX12_takePage_4 : decode cX12_takePage 4 = .ok (.iconst 0, 1) := by decide +kernel
theorem dX12_takePage_5 : decode cX12_takePage 5 = .ok (.aload_n 1, 1) := by decide +kernel
theorem dX12_takePage_6 : decode cX12_takePage 6 = .ok (.iload_n 2, 1) := by decide +kernel
theorem dX12_takePage_7 : decode cX12_takePage 7 = .ok (.iaload, 1) := by decide +kernel
theorem dX12_takePage_8 : decode cX12_takePage 8 = .ok (.iastore, 1) := by decide +kernel
theorem dX12_takePage_9 : decode cX12_takePage 9 = .ok (.aload_n 0, 1) := by decide +kernel
theorem dX12_takePage_10 : decode cX12_takePage 10 = .ok (.getfield 41, 3) := by decide +kernel
theorem dX12_takePage_13 : decode cX12_takePage 13 = .ok (.iconst 1, 1) := by decide +kernel
theorem dX12_takePage_14 : decode cX12_takePage 14 = .ok (.aload_n 1, 1) := by decide +kernel
theorem dX12_takePage_15 : decode cX12_takePage 15 = .ok (.iload_n 2, 1) := by decide +kernel
theorem dX12_takePage_16 : decode cX12_takePage 16 = .ok (.iconst 1, 1) := by decide +kernel
theorem dX12_takePage_17 : decode cX12_takePage 17 = .ok (.iadd, 1) := by decide +kernel
theorem dX12_takePage_18 : decode cX12_takePage 18 = .ok (.iaload, 1) := by decide +kernel
theorem dX12_takePage_19 : decode cX12_takePage 19 = .ok (.iastore, 1) := by decide +kernel
theorem dX12_takePage_20 : decode cX12_takePage 20 = .ok (.aload_n 0, 1) := by decide +kernel
theorem dX12_takePage_21 : decode cX12_takePage 21 = .ok (.aload_n 1, 1) := by decide +kernel
theorem dX12_takePage_22 : decode cX12_takePage 22 = .ok (.iload_n 2, 1) := by decide +kernel
theorem dX12_takePage_23 : decode cX12_takePage 23 = .ok (.iconst 2, 1) := by decide +kernel
theorem dX12_takePage_24 : decode cX12_takePage 24 = .ok (.iadd, 1) := by decide +kernel
theorem dX12_takePage_25 : decode cX12_takePage 25 = .ok (.iaload, 1) := by decide +kernel
theorem dX12_takePage_26 : decode cX12_takePage 26 = .ok (.putfield 165, 3) := by decide +kernel
theorem dX12_takePage_29 : decode cX12_takePage 29 = .ok (.aload_n 0, 1) := by decide +kernel
theorem dX12_takePage_30 : decode cX12_takePage 30 = .ok (.aload_n 1, 1) := by decide +kernel
theorem dX12_takePage_31 : decode cX12_takePage 31 = .ok (.iload_n 2, 1) := by decide +kernel
theorem dX12_takePage_32 : decode cX12_takePage 32 = .ok (.iconst 3, 1) := by decide +kernel
theorem dX12_takePage_33 : decode cX12_takePage 33 = .ok (.iadd, 1) := by decide +kernel
theorem dX12_takePage_34 : decode cX12_takePage 34 = .ok (.iaload, 1) := by decide +kernel
theorem dX12_takePage_35 : decode cX12_takePage 35 = .ok (.putfield 168, 3) := by decide +kernel
theorem dX12_takePage_38 : decode cX12_takePage 38 = .ok (.aload_n 0, 1) := by decide +kernel
theorem dX12_takePage_39 : decode cX12_takePage 39 = .ok (.aload_n 1, 1) := by decide +kernel
theorem dX12_takePage_40 : decode cX12_takePage 40 = .ok (.iload_n 2, 1) := by decide +kernel
theorem dX12_takePage_41 : decode cX12_takePage 41 = .ok (.iconst 4, 1) := by decide +kernel
theorem dX12_takePage_42 : decode cX12_takePage 42 = .ok (.iadd, 1) := by decide +kernel
theorem dX12_takePage_43 : decode cX12_takePage 43 = .ok (.iaload, 1) := by decide +kernel
theorem dX12_takePage_44 : decode cX12_takePage 44 = .ok (.putfield 171, 3) := by decide +kernel
theorem dX12_takePage_47 : decode cX12_takePage 47 = .ok (.aload_n 0, 1) := by decide +kernel
theorem dX12_takePage_48 : decode cX12_takePage 48 = .ok (.aload_n 1, 1) := by decide +kernel
theorem dX12_takePage_49 : decode cX12_takePage 49 = .ok (.iload_n 2, 1) := by decide +kernel
theorem dX12_takePage_50 : decode cX12_takePage 50 = .ok (.iconst 5, 1) := by decide +kernel
theorem dX12_takePage_51 : decode cX12_takePage 51 = .ok (.iadd, 1) := by decide +kernel
theorem dX12_takePage_52 : decode cX12_takePage 52 = .ok (.iaload, 1) := by decide +kernel
theorem dX12_takePage_53 : decode cX12_takePage 53 = .ok (.putfield 174, 3) := by decide +kernel
theorem dX12_takePage_56 : decode cX12_takePage 56 = .ok (.iconst 0, 1) := by decide +kernel
theorem dX12_takePage_57 : decode cX12_takePage 57 = .ok (.istore_n 3, 1) := by decide +kernel
theorem dX12_takePage_58 : decode cX12_takePage 58 = .ok (.iload_n 3, 1) := by decide +kernel
theorem dX12_takePage_59 : decode cX12_takePage 59 = .ok (.bipush 8, 2) := by decide +kernel
theorem dX12_takePage_61 : decode cX12_takePage 61 = .ok (.if_icmp .ge 23, 3) := by decide +kernel
theorem dX12_takePage_64 : decode cX12_takePage 64 = .ok (.aload_n 0, 1) := by decide +kernel
theorem dX12_takePage_65 : decode cX12_takePage 65 = .ok (.getfield 44, 3) := by decide +kernel
theorem dX12_takePage_68 : decode cX12_takePage 68 = .ok (.iload_n 3, 1) := by decide +kernel
theorem dX12_takePage_69 : decode cX12_takePage 69 = .ok (.aload_n 1, 1) := by decide +kernel
theorem dX12_takePage_70 : decode cX12_takePage 70 = .ok (.iload_n 2, 1) := by decide +kernel
theorem dX12_takePage_71 : decode cX12_takePage 71 = .ok (.bipush 6, 2) := by decide +kernel
theorem dX12_takePage_73 : decode cX12_takePage 73 = .ok (.iadd, 1) := by decide +kernel
theorem dX12_takePage_74 : decode cX12_takePage 74 = .ok (.iload_n 3, 1) := by decide +kernel
theorem dX12_takePage_75 : decode cX12_takePage 75 = .ok (.iadd, 1) := by decide +kernel
theorem dX12_takePage_76 : decode cX12_takePage 76 = .ok (.iaload, 1) := by decide +kernel
theorem dX12_takePage_77 : decode cX12_takePage 77 = .ok (.iastore, 1) := by decide +kernel
theorem dX12_takePage_78 : decode cX12_takePage 78 = .ok (.iinc 3 1, 3) := by decide +kernel
theorem dX12_takePage_81 : decode cX12_takePage 81 = .ok (.goto (-23), 3) := by decide +kernel
theorem dX12_takePage_84 : decode cX12_takePage 84 = .ok (.return_, 1) := by decide +kernel
theorem dX12_note_0 : decode cX12_note 0 = .ok (.aload_n 0, 1) := by decide +kernel
theorem dX12_note_1 : decode cX12_note 1 = .ok (.getfield 177, 3) := by decide +kernel
theorem dX12_note_4 : decode cX12_note 4 = .ok (.bipush 16, 2) := by decide +kernel
theorem dX12_note_6 : decode cX12_note 6 = .ok (.if_icmp .ne 43, 3) := by decide +kernel
theorem dX12_note_9 : decode cX12_note 9 = .ok (.iconst 0, 1) := by decide +kernel
theorem dX12_note_10 : decode cX12_note 10 = .ok (.istore_n 1, 1) := by decide +kernel
theorem dX12_note_11 : decode cX12_note 11 = .ok (.iload_n 1, 1) := by decide +kernel
theorem dX12_note_12 : decode cX12_note 12 = .ok (.sipush 420, 3) := by decide +kernel
theorem dX12_note_15 : decode cX12_note 15 = .ok (.if_icmp .ge 24, 3) := by decide +kernel
theorem dX12_note_18 : decode cX12_note 18 = .ok (.aload_n 0, 1) := by decide +kernel
theorem dX12_note_19 : decode cX12_note 19 = .ok (.getfield 47, 3) := by decide +kernel
theorem dX12_note_22 : decode cX12_note 22 = .ok (.iload_n 1, 1) := by decide +kernel
theorem dX12_note_23 : decode cX12_note 23 = .ok (.aload_n 0, 1) := by decide +kernel
theorem dX12_note_24 : decode cX12_note 24 = .ok (.getfield 47, 3) := by decide +kernel
theorem dX12_note_27 : decode cX12_note 27 = .ok (.iload_n 1, 1) := by decide +kernel
theorem dX12_note_28 : decode cX12_note 28 = .ok (.bipush 28, 2) := by decide +kernel
theorem dX12_note_30 : decode cX12_note 30 = .ok (.iadd, 1) := by decide +kernel
theorem dX12_note_31 : decode cX12_note 31 = .ok (.iaload, 1) := by decide +kernel
theorem dX12_note_32 : decode cX12_note 32 = .ok (.iastore, 1) := by decide +kernel
theorem dX12_note_33 : decode cX12_note 33 = .ok (.iinc 1 1, 3) := by decide +kernel
theorem dX12_note_36 : decode cX12_note 36 = .ok (.goto (-25), 3) := by decide +kernel
theorem dX12_note_39 : decode cX12_note 39 = .ok (.aload_n 0, 1) := by decide +kernel
theorem dX12_note_40 : decode cX12_note 40 = .ok (.dup, 1) := by decide +kernel
theorem dX12_note_41 : decode cX12_note 41 = .ok (.getfield 177, 3) := by decide +kernel
theorem dX12_note_44 : decode cX12_note 44 = .ok (.iconst 1, 1) := by decide +kernel
theorem dX12_note_45 : decode cX12_note 45 = .ok (.isub, 1) := by decide +kernel
theorem dX12_note_46 : decode cX12_note 46 = .ok (.putfield 177, 3) := by decide +kernel
theorem dX12_note_49 : decode cX12_note 49 = .ok (.aload_n 0, 1) := by decide +kernel
theorem dX12_note_50 : decode cX12_note 50 = .ok (.aload_n 0, 1) := by decide +kernel
theorem dX12_note_51 : decode cX12_note 51 = .ok (.getfield 47, 3) := by decide +kernel
theorem dX12_note_54 : decode cX12_note 54 = .ok (.bipush 28, 2) := by decide +kernel
theorem dX12_note_56 : decode cX12_note 56 = .ok (.aload_n 0, 1) := by decide +kernel
theorem dX12_note_57 : decode cX12_note 57 = .ok (.getfield 177, 3) := by decide +kernel
theorem dX12_note_60 : decode cX12_note 60 = .ok (.imul, 1) := by decide +kernel
theorem dX12_note_61 : decode cX12_note 61 = .ok (.invokevirtual 200, 3) := by decide +kernel
theorem dX12_note_64 : decode cX12_note 64 = .ok (.aload_n 0, 1) := by decide +kernel
theorem dX12_note_65 : decode cX12_note 65 = .ok (.dup, 1) := by decide +kernel
theorem dX12_note_66 : decode cX12_note 66 = .ok (.getfield 177, 3) := by decide +kernel
theorem dX12_note_69 : decode cX12_note 69 = .ok (.iconst 1, 1) := by decide +kernel
end
section
theorem dX12_note_70 : decode cX12_note 70 = .ok (.iadd, 1) := by decide +kernel
theorem dX12_note_71 : decode cX12_note 71 = .ok (.putfield 177, 3) := by decide +kernel
theorem dX12_note_74 : decode cX12_note 74 = .ok (.return_, 1) := by decide +kernel
theorem dX12_mayWalk_0 : decode cX12_mayWalk 0 = .ok (.iload_n 1, 1) := by decide +kernel
theorem dX12_mayWalk_1 : decode cX12_mayWalk 1 = .ok (.iload_n 2, 1) := by decide +kernel
theorem dX12_mayWalk_2 : decode cX12_mayWalk 2 = .ok (.if_icmp .eq 41, 3) := by decide +kernel
theorem dX12_mayWalk_5 : decode cX12_mayWalk 5 = .ok (.aload_n 0, 1) := by decide +kernel
theorem dX12_mayWalk_6 : decode cX12_mayWalk 6 = .ok (.getfield 17, 3) := by decide +kernel
theorem dX12_mayWalk_9 : decode cX12_mayWalk 9 = .ok (.bipush 6, 2) := by decide +kernel
theorem dX12_mayWalk_11 : decode cX12_mayWalk 11 = .ok (.iload_n 1, 1) := by decide +kernel
theorem dX12_mayWalk_12 : decode cX12_mayWalk 12 = .ok (.imul, 1) := by decide +kernel
theorem dX12_mayWalk_13 : decode cX12_mayWalk 13 = .ok (.iload_n 2, 1) := by decide +kernel
theorem dX12_mayWalk_14 : decode cX12_mayWalk 14 = .ok (.iadd, 1) := by decide +kernel
theorem dX12_mayWalk_15 : decode cX12_mayWalk 15 = .ok (.iaload, 1) := by decide +kernel
theorem dX12_mayWalk_16 : decode cX12_mayWalk 16 = .ok (.ldc 103, 2) := by decide +kernel
theorem dX12_mayWalk_18 : decode cX12_mayWalk 18 = .ok (.if_icmp .ge 25, 3) := by decide +kernel
theorem dX12_mayWalk_21 : decode cX12_mayWalk 21 = .ok (.iload_n 3, 1) := by decide +kernel
theorem dX12_mayWalk_22 : decode cX12_mayWalk 22 = .ok (.aload_n 0, 1) := by decide +kernel
theorem dX12_mayWalk_23 : decode cX12_mayWalk 23 = .ok (.getfield 17, 3) := by decide +kernel
theorem dX12_mayWalk_26 : decode cX12_mayWalk 26 = .ok (.bipush 6, 2) := by decide +kernel
theorem dX12_mayWalk_28 : decode cX12_mayWalk 28 = .ok (.iload_n 1, 1) := by decide +kernel
theorem dX12_mayWalk_29 : decode cX12_mayWalk 29 = .ok (.imul, 1) := by decide +kernel
theorem dX12_mayWalk_30 : decode cX12_mayWalk 30 = .ok (.iload_n 2, 1) := by decide +kernel
theorem dX12_mayWalk_31 : decode cX12_mayWalk 31 = .ok (.iadd, 1) := by decide +kernel
theorem dX12_mayWalk_32 : decode cX12_mayWalk 32 = .ok (.iaload, 1) := by decide +kernel
theorem dX12_mayWalk_33 : decode cX12_mayWalk 33 = .ok (.imul, 1) := by decide +kernel
theorem dX12_mayWalk_34 : decode cX12_mayWalk 34 = .ok (.iload 4, 2) := by decide +kernel
theorem dX12_mayWalk_36 : decode cX12_mayWalk 36 = .ok (.if_icmp .gt 7, 3) := by decide +kernel
theorem dX12_mayWalk_39 : decode cX12_mayWalk 39 = .ok (.iconst 1, 1) := by decide +kernel
theorem dX12_mayWalk_40 : decode cX12_mayWalk 40 = .ok (.goto 4, 3) := by decide +kernel
theorem dX12_mayWalk_43 : decode cX12_mayWalk 43 = .ok (.iconst 0, 1) := by decide +kernel
theorem dX12_mayWalk_44 : decode cX12_mayWalk 44 = .ok (.ireturn, 1) := by decide +kernel
theorem dX12_walk_0 : decode cX12_walk 0 = .ok (.aload_n 0, 1) := by decide +kernel
theorem dX12_walk_1 : decode cX12_walk 1 = .ok (.iconst 0, 1) := by decide +kernel
theorem dX12_walk_2 : decode cX12_walk 2 = .ok (.putfield 104, 3) := by decide +kernel
theorem dX12_walk_5 : decode cX12_walk 5 = .ok (.iload_n 1, 1) := by decide +kernel
theorem dX12_walk_6 : decode cX12_walk 6 = .ok (.invokestatic 191, 3) := by decide +kernel
theorem dX12_walk_9 : decode cX12_walk 9 = .ok (.ifCond .ne 11, 3) := by decide +kernel
theorem dX12_walk_12 : decode cX12_walk 12 = .ok (.aload_n 0, 1) := by decide +kernel
theorem dX12_walk_13 : decode cX12_walk 13 = .ok (.iload_n 2, 1) := by decide +kernel
theorem dX12_walk_14 : decode cX12_walk 14 = .ok (.invokevirtual 194, 3) := by decide +kernel
theorem dX12_walk_17 : decode cX12_walk 17 = .ok (.ifCond .eq 5, 3) := by decide +kernel
theorem dX12_walk_20 : decode cX12_walk 20 = .ok (.iconst (-1), 1) := by decide +kernel
theorem dX12_walk_21 : decode cX12_walk 21 = .ok (.ireturn, 1) := by decide +kernel
theorem dX12_walk_22 : decode cX12_walk 22 = .ok (.aload_n 0, 1) := by decide +kernel
theorem dX12_walk_23 : decode cX12_walk 23 = .ok (.aload_n 0, 1) := by decide +kernel
theorem dX12_walk_24 : decode cX12_walk 24 = .ok (.getfield 41, 3) := by decide +kernel
theorem dX12_walk_27 : decode cX12_walk 27 = .ok (.iload_n 1, 1) := by decide +kernel
theorem dX12_walk_28 : decode cX12_walk 28 = .ok (.iaload, 1) := by decide +kernel
theorem dX12_walk_29 : decode cX12_walk 29 = .ok (.iload_n 2, 1) := by decide +kernel
theorem dX12_walk_30 : decode cX12_walk 30 = .ok (.iconst 1, 1) := by decide +kernel
theorem dX12_walk_31 : decode cX12_walk 31 = .ok (.aload_n 0, 1) := by decide +kernel
theorem dX12_walk_32 : decode cX12_walk 32 = .ok (.getfield 165, 3) := by decide +kernel
theorem dX12_walk_35 : decode cX12_walk 35 = .ok (.invokevirtual 204, 3) := by decide +kernel
theorem dX12_walk_38 : decode cX12_walk 38 = .ok (.ifCond .ne 6, 3) := by decide +kernel
theorem dX12_walk_41 : decode cX12_walk 41 = .ok (.bipush (-3), 2) := by decide +kernel
theorem dX12_walk_43 : decode cX12_walk 43 = .ok (.ireturn, 1) := by decide +kernel
theorem dX12_walk_44 : decode cX12_walk 44 = .ok (.aload_n 0, 1) := by decide +kernel
theorem dX12_walk_45 : decode cX12_walk 45 = .ok (.invokevirtual 208, 3) := by decide +kernel
theorem dX12_walk_48 : decode cX12_walk 48 = .ok (.aload_n 0, 1) := by decide +kernel
theorem dX12_walk_49 : decode cX12_walk 49 = .ok (.dup, 1) := by decide +kernel
theorem dX12_walk_50 : decode cX12_walk 50 = .ok (.getfield 165, 3) := by decide +kernel
theorem dX12_walk_53 : decode cX12_walk 53 = .ok (.aload_n 0, 1) := by decide +kernel
theorem dX12_walk_54 : decode cX12_walk 54 = .ok (.getfield 17, 3) := by decide +kernel
theorem dX12_walk_57 : decode cX12_walk 57 = .ok (.bipush 6, 2) := by decide +kernel
theorem dX12_walk_59 : decode cX12_walk 59 = .ok (.aload_n 0, 1) := by decide +kernel
theorem dX12_walk_60 : decode cX12_walk 60 = .ok (.getfield 41, 3) := by decide +kernel
theorem dX12_walk_63 : decode cX12_walk 63 = .ok (.iload_n 1, 1) := by decide +kernel
theorem dX12_walk_64 : decode cX12_walk 64 = .ok (.iaload, 1) := by decide +kernel
theorem dX12_walk_65 : decode cX12_walk 65 = .ok (.imul, 1) := by decide +kernel
theorem dX12_walk_66 : decode cX12_walk 66 = .ok (.iload_n 2, 1) := by decide +kernel
theorem dX12_walk_67 : decode cX12_walk 67 = .ok (.iadd, 1) := by decide +kernel
theorem dX12_walk_68 : decode cX12_walk 68 = .ok (.iaload, 1) := by decide +kernel
theorem dX12_walk_69 : decode cX12_walk 69 = .ok (.isub, 1) := by decide +kernel
theorem dX12_walk_70 : decode cX12_walk 70 = .ok (.putfield 165, 3) := by decide +kernel
theorem dX12_walk_73 : decode cX12_walk 73 = .ok (.aload_n 0, 1) := by decide +kernel
theorem dX12_walk_74 : decode cX12_walk 74 = .ok (.getfield 41, 3) := by decide +kernel
theorem dX12_walk_77 : decode cX12_walk 77 = .ok (.iload_n 1, 1) := by decide +kernel
theorem dX12_walk_78 : decode cX12_walk 78 = .ok (.iload_n 2, 1) := by decide +kernel
theorem dX12_walk_79 : decode cX12_walk 79 = .ok (.iastore, 1) := by decide +kernel
theorem dX12_walk_80 : decode cX12_walk 80 = .ok (.aload_n 0, 1) := by decide +kernel
theorem dX12_walk_81 : decode cX12_walk 81 = .ok (.getfield 165, 3) := by decide +kernel
theorem dX12_walk_84 : decode cX12_walk 84 = .ok (.ireturn, 1) := by decide +kernel
theorem dX12_carry_0 : decode cX12_carry 0 = .ok (.aload_n 0, 1) := by decide +kernel
theorem dX12_carry_1 : decode cX12_carry 1 = .ok (.iconst 0, 1) := by decide +kernel
theorem dX12_carry_2 : decode cX12_carry 2 = .ok (.putfield 104, 3) := by decide +kernel
theorem dX12_carry_5 : decode cX12_carry 5 = .ok (.iload_n 1, 1) := by decide +kernel
theorem dX12_carry_6 : decode cX12_carry 6 = .ok (.invokestatic 191, 3) := by decide +kernel
theorem dX12_carry_9 : decode cX12_carry 9 = .ok (.ifCond .ne 11, 3) := by decide +kernel
theorem dX12_carry_12 : decode cX12_carry 12 = .ok (.aload_n 0, 1) := by decide +kernel
theorem dX12_carry_13 : decode cX12_carry 13 = .ok (.iload_n 2, 1) := by decide +kernel
theorem dX12_carry_14 : decode cX12_carry 14 = .ok (.invokevirtual 194, 3) := by decide +kernel
theorem dX12_carry_17 : decode cX12_carry 17 = .ok (.ifCond .eq 5, 3) := by decide +kernel
theorem dX12_carry_20 : decode cX12_carry 20 = .ok (.iconst (-1), 1) := by decide +kernel
theorem dX12_carry_21 : decode cX12_carry 21 = .ok (.ireturn, 1) := by decide +kernel
theorem dX12_carry_22 : decode cX12_carry 22 = .ok (.aload_n 0, 1) := by decide +kernel
theorem dX12_carry_23 : decode cX12_carry 23 = .ok (.getfield 41, 3) := by decide +kernel
theorem dX12_carry_26 : decode cX12_carry 26 = .ok (.iconst 0, 1) := by decide +kernel
theorem dX12_carry_27 : decode cX12_carry 27 = .ok (.iaload, 1) := by decide +kernel
theorem dX12_carry_28 : decode cX12_carry 28 = .ok (.aload_n 0, 1) := by decide +kernel
theorem dX12_carry_29 : decode cX12_carry 29 = .ok (.getfield 41, 3) := by decide +kernel
theorem dX12_carry_32 : decode cX12_carry 32 = .ok (.iconst 1, 1) := by decide +kernel
theorem dX12_carry_33 : decode cX12_carry 33 = .ok (.iaload, 1) := by decide +kernel
theorem dX12_carry_34 : decode cX12_carry 34 = .ok (.if_icmp .ne 22, 3) := by decide +kernel
theorem dX12_carry_37 : decode cX12_carry 37 = .ok (.aload_n 0, 1) := by decide +kernel
theorem dX12_carry_38 : decode cX12_carry 38 = .ok (.aload_n 0, 1) := by decide +kernel
theorem dX12_carry_39 : decode cX12_carry 39 = .ok (.getfield 41, 3) := by decide +kernel
theorem dX12_carry_42 : decode cX12_carry 42 = .ok (.iload_n 1, 1) := by decide +kernel
theorem dX12_carry_43 : decode cX12_carry 43 = .ok (.iaload, 1) := by decide +kernel
theorem dX12_carry_44 : decode cX12_carry 44 = .ok (.iload_n 2, 1) := by decide +kernel
theorem dX12_carry_45 : decode cX12_carry 45 = .ok (.iconst 2, 1) := by decide +kernel
theorem dX12_carry_46 : decode cX12_carry 46 = .ok (.aload_n 0, 1) := by decide +kernel
theorem dX12_carry_47 : decode cX12_carry 47 = .ok (.getfield 165, 3) := by decide +kernel
theorem dX12_carry_50 : decode cX12_carry 50 = .ok (.invokevirtual 204, 3) := by decide +kernel
theorem dX12_carry_53 : decode cX12_carry 53 = .ok (.ifCond .ne 6, 3) := by decide +kernel
theorem dX12_carry_56 : decode cX12_carry 56 = .ok (.bipush (-3), 2) := by decide +kernel
theorem dX12_carry_58 : decode cX12_carry 58 = .ok (.ireturn, 1) := by decide +kernel
theorem dX12_carry_59 : decode cX12_carry 59 = .ok (.aload_n 0, 1) := by decide +kernel
theorem dX12_carry_60 : decode cX12_carry 60 = .ok (.invokevirtual 208, 3) := by decide +kernel
theorem dX12_carry_63 : decode cX12_carry 63 = .ok (.aload_n 0, 1) := by decide +kernel
theorem dX12_carry_64 : decode cX12_carry 64 = .ok (.dup, 1) := by decide +kernel
theorem dX12_carry_65 : decode cX12_carry 65 = .ok (.getfield 165, 3) := by decide +kernel
theorem dX12_carry_68 : decode cX12_carry 68 = .ok (.iconst 2, 1) := by decide +kernel
theorem dX12_carry_69 : decode cX12_carry 69 = .ok (.aload_n 0, 1) := by decide +kernel
theorem dX12_carry_70 : decode cX12_carry 70 = .ok (.getfield 17, 3) := by decide +kernel
theorem dX12_carry_73 : decode cX12_carry 73 = .ok (.bipush 6, 2) := by decide +kernel
theorem dX12_carry_75 : decode cX12_carry 75 = .ok (.aload_n 0, 1) := by decide +kernel
theorem dX12_carry_76 : decode cX12_carry 76 = .ok (.getfield 41, 3) := by decide +kernel
theorem dX12_carry_79 : decode cX12_carry 79 = .ok (.iload_n 1, 1) := by decide +kernel
theorem dX12_carry_80 : decode cX12_carry 80 = .ok (.iaload, 1) := by decide +kernel
theorem dX12_carry_81 : decode cX12_carry 81 = .ok (.imul, 1) := by decide +kernel
theorem dX12_carry_82 : decode cX12_carry 82 = .ok (.iload_n 2, 1) := by decide +kernel
theorem dX12_carry_83 : decode cX12_carry 83 = .ok (.iadd, 1) := by decide +kernel
theorem dX12_carry_84 : decode cX12_carry 84 = .ok (.iaload, 1) := by decide +kernel
theorem dX12_carry_85 : decode cX12_carry 85 = .ok (.imul, 1) := by decide +kernel
theorem dX12_carry_86 : decode cX12_carry 86 = .ok (.isub, 1) := by decide +kernel
theorem dX12_carry_87 : decode cX12_carry 87 = .ok (.putfield 165, 3) := by decide +kernel
theorem dX12_carry_90 : decode cX12_carry 90 = .ok (.aload_n 0, 1) := by decide +kernel
theorem dX12_carry_91 : decode cX12_carry 91 = .ok (.getfield 41, 3) := by decide +kernel
theorem dX12_carry_94 : decode cX12_carry 94 = .ok (.iconst 0, 1) := by decide +kernel
theorem dX12_carry_95 : decode cX12_carry 95 = .ok (.iload_n 2, 1) := by decide +kernel
theorem dX12_carry_96 : decode cX12_carry 96 = .ok (.iastore, 1) := by decide +kernel
theorem dX12_carry_97 : decode cX12_carry 97 = .ok (.aload_n 0, 1) := by decide +kernel
theorem dX12_carry_98 : decode cX12_carry 98 = .ok (.getfield 41, 3) := by decide +kernel
theorem dX12_carry_101 : decode cX12_carry 101 = .ok (.iconst 1, 1) := by decide +kernel
theorem dX12_carry_102 : decode cX12_carry 102 = .ok (.iload_n 2, 1) := by decide +kernel
theorem dX12_carry_103 : decode cX12_carry 103 = .ok (.iastore, 1) := by decide +kernel
theorem dX12_carry_104 : decode cX12_carry 104 = .ok (.aload_n 0, 1) := by decide +kernel
theorem dX12_carry_105 : decode cX12_carry 105 = .ok (.getfield 165, 3) := by decide +kernel
theorem dX12_carry_108 : decode cX12_carry 108 = .ok (.ireturn, 1) := by decide +kernel
theorem dX12_canDo_0 : decode cX12_canDo 0 = .ok (.aload_n 0, 1) := by decide +kernel
theorem dX12_canDo_1 : decode cX12_canDo 1 = .ok (.getfield 26, 3) := by decide +kernel
theorem dX12_canDo_4 : decode cX12_canDo 4 = .ok (.iload_n 2, 1) := by decide +kernel
theorem dX12_canDo_5 : decode cX12_canDo 5 = .ok (.iaload, 1) := by decide +kernel
theorem dX12_canDo_6 : decode cX12_canDo 6 = .ok (.iconst 2, 1) := by decide +kernel
theorem dX12_canDo_7 : decode cX12_canDo 7 = .ok (.if_icmp .eq 13, 3) := by decide +kernel
theorem dX12_canDo_10 : decode cX12_canDo 10 = .ok (.aload_n 0, 1) := by decide +kernel
theorem dX12_canDo_11 : decode cX12_canDo 11 = .ok (.getfield 26, 3) := by decide +kernel
theorem dX12_canDo_14 : decode cX12_canDo 14 = .ok (.iload_n 2, 1) := by decide +kernel
theorem dX12_canDo_15 : decode cX12_canDo 15 = .ok (.iaload, 1) := by decide +kernel
theorem dX12_canDo_16 : decode cX12_canDo 16 = .ok (.iload_n 1, 1) := by decide +kernel
theorem dX12_canDo_17 : decode cX12_canDo 17 = .ok (.if_icmp .ne 7, 3) := by decide +kernel
theorem dX12_canDo_20 : decode cX12_canDo 20 = .ok (.iconst 1, 1) := by decide +kernel
theorem dX12_canDo_21 : decode cX12_canDo 21 = .ok (.goto 4, 3) := by decide +kernel
theorem dX12_canDo_24 : decode cX12_canDo 24 = .ok (.iconst 0, 1) := by decide +kernel
theorem dX12_canDo_25 : decode cX12_canDo 25 = .ok (.ireturn, 1) := by decide +kernel
theorem dX12_done_0 : decode cX12_done 0 = .ok (.aload_n 0, 1) := by decide +kernel
theorem dX12_done_1 : decode cX12_done 1 = .ok (.iconst 0, 1) := by decide +kernel
theorem dX12_done_2 : decode cX12_done 2 = .ok (.putfield 104, 3) := by decide +kernel
theorem dX12_done_5 : decode cX12_done 5 = .ok (.iload_n 1, 1) := by decide +kernel
theorem dX12_done_6 : decode cX12_done 6 = .ok (.invokestatic 191, 3) := by decide +kernel
theorem dX12_done_9 : decode cX12_done 9 = .ok (.ifCond .ne 11, 3) := by decide +kernel
theorem dX12_done_12 : decode cX12_done 12 = .ok (.aload_n 0, 1) := by decide +kernel
theorem dX12_done_13 : decode cX12_done 13 = .ok (.iload_n 2, 1) := by decide +kernel
theorem dX12_done_14 : decode cX12_done 14 = .ok (.invokevirtual 197, 3) := by decide +kernel
theorem dX12_done_17 : decode cX12_done 17 = .ok (.ifCond .eq 5, 3) := by decide +kernel
theorem dX12_done_20 : decode cX12_done 20 = .ok (.iconst (-1), 1) := by decide +kernel
theorem dX12_done_21 : decode cX12_done 21 = .ok (.ireturn, 1) := by decide +kernel
theorem dX12_done_22 : decode cX12_done 22 = .ok (.aload_n 0, 1) := by decide +kernel
theorem dX12_done_23 : decode cX12_done 23 = .ok (.getfield 168, 3) := by decide +kernel
theorem dX12_done_26 : decode cX12_done 26 = .ok (.iload_n 2, 1) := by decide +kernel
theorem dX12_done_27 : decode cX12_done 27 = .ok (.invokestatic 180, 3) := by decide +kernel
theorem dX12_done_30 : decode cX12_done 30 = .ok (.ifCond .ne 27, 3) := by decide +kernel
theorem dX12_done_33 : decode cX12_done 33 = .ok (.aload_n 0, 1) := by decide +kernel
theorem dX12_done_34 : decode cX12_done 34 = .ok (.iload_n 1, 1) := by decide +kernel
theorem dX12_done_35 : decode cX12_done 35 = .ok (.iload_n 2, 1) := by decide +kernel
theorem dX12_done_36 : decode cX12_done 36 = .ok (.invokevirtual 211, 3) := by decide +kernel
theorem dX12_done_39 : decode cX12_done 39 = .ok (.ifCond .eq 18, 3) := by decide +kernel
theorem dX12_done_42 : decode cX12_done 42 = .ok (.aload_n 0, 1) := by decide +kernel
theorem dX12_done_43 : decode cX12_done 43 = .ok (.getfield 41, 3) := by decide +kernel
theorem dX12_done_46 : decode cX12_done 46 = .ok (.iload_n 1, 1) := by decide +kernel
theorem dX12_done_47 : decode cX12_done 47 = .ok (.iaload, 1) := by decide +kernel
theorem dX12_done_48 : decode cX12_done 48 = .ok (.aload_n 0, 1) := by decide +kernel
theorem dX12_done_49 : decode cX12_done 49 = .ok (.getfield 20, 3) := by decide +kernel
theorem dX12_done_52 : decode cX12_done 52 = .ok (.iload_n 2, 1) := by decide +kernel
theorem dX12_done_53 : decode cX12_done 53 = .ok (.iaload, 1) := by decide +kernel
theorem dX12_done_54 : decode cX12_done 54 = .ok (.if_icmp .eq 6, 3) := by decide +kernel
theorem dX12_done_57 : decode cX12_done 57 = .ok (.bipush (-3), 2) := by decide +kernel
theorem dX12_done_59 : decode cX12_done 59 = .ok (.ireturn, 1) := by decide +kernel
theorem dX12_done_60 : decode cX12_done 60 = .ok (.aload_n 0, 1) := by decide +kernel
theorem dX12_done_61 : decode cX12_done 61 = .ok (.invokevirtual 208, 3) := by decide +kernel
theorem dX12_done_64 : decode cX12_done 64 = .ok (.aload_n 0, 1) := by decide +kernel
theorem dX12_done_65 : decode cX12_done 65 = .ok (.dup, 1) := by decide +kernel
theorem dX12_done_66 : decode cX12_done 66 = .ok (.getfield 168, 3) := by decide +kernel
theorem dX12_done_69 : decode cX12_done 69 = .ok (.iconst 1, 1) := by decide +kernel
theorem dX12_done_70 : decode cX12_done 70 = .ok (.iload_n 2, 1) := by decide +kernel
theorem dX12_done_71 : decode cX12_done 71 = .ok (.ishl, 1) := by decide +kernel
theorem dX12_done_72 : decode cX12_done 72 = .ok (.ior, 1) := by decide +kernel
theorem dX12_done_73 : decode cX12_done 73 = .ok (.putfield 168, 3) := by decide +kernel
theorem dX12_done_76 : decode cX12_done 76 = .ok (.aload_n 0, 1) := by decide +kernel
theorem dX12_done_77 : decode cX12_done 77 = .ok (.dup, 1) := by decide +kernel
theorem dX12_done_78 : decode cX12_done 78 = .ok (.getfield 171, 3) := by decide +kernel
theorem dX12_done_81 : decode cX12_done 81 = .ok (.iload_n 1, 1) := by decide +kernel
theorem dX12_done_82 : decode cX12_done 82 = .ok (.iload_n 2, 1) := by decide +kernel
theorem dX12_done_83 : decode cX12_done 83 = .ok (.ishl, 1) := by decide +kernel
theorem dX12_done_84 : decode cX12_done 84 = .ok (.ior, 1) := by decide +kernel
theorem dX12_done_85 : decode cX12_done 85 = .ok (.putfield 171, 3) := by decide +kernel
theorem dX12_done_88 : decode cX12_done 88 = .ok (.aload_n 0, 1) := by decide +kernel
theorem dX12_done_89 : decode cX12_done 89 = .ok (.getfield 23, 3) := by decide +kernel
theorem dX12_done_92 : decode cX12_done 92 = .ok (.iload_n 2, 1) := by decide +kernel
theorem dX12_done_93 : decode cX12_done 93 = .ok (.iaload, 1) := by decide +kernel
theorem dX12_done_94 : decode cX12_done 94 = .ok (.ireturn, 1) := by decide +kernel
theorem dX12_loan_0 : decode cX12_loan 0 = .ok (.aload_n 0, 1) := by decide +kernel
theorem dX12_loan_1 : decode cX12_loan 1 = .ok (.iconst 0, 1) := by decide +kernel
theorem dX12_loan_2 : decode cX12_loan 2 = .ok (.putfield 104, 3) := by decide +kernel
theorem dX12_loan_5 : decode cX12_loan 5 = .ok (.iload_n 1, 1) := by decide +kernel
theorem dX12_loan_6 : decode cX12_loan 6 = .ok (.i2l, 1) := by decide +kernel
theorem dX12_loan_7 : decode cX12_loan 7 = .ok (.lconst 1, 1) := by decide +kernel
theorem dX12_loan_8 : decode cX12_loan 8 = .ok (.ldc2_w 214, 3) := by decide +kernel
theorem dX12_loan_11 : decode cX12_loan 11 = .ok (.invokestatic 107, 3) := by decide +kernel
theorem dX12_loan_14 : decode cX12_loan 14 = .ok (.ifCond .ne 6, 3) := by decide +kernel
theorem dX12_loan_17 : decode cX12_loan 17 = .ok (.bipush (-2), 2) := by decide +kernel
theorem dX12_loan_19 : decode cX12_loan 19 = .ok (.ireturn, 1) := by decide +kernel
theorem dX12_loan_20 : decode cX12_loan 20 = .ok (.iload_n 2, 1) := by decide +kernel
theorem dX12_loan_21 : decode cX12_loan 21 = .ok (.ifCond .ne 14, 3) := by decide +kernel
theorem dX12_loan_24 : decode cX12_loan 24 = .ok (.aload_n 0, 1) := by decide +kernel
theorem dX12_loan_25 : decode cX12_loan 25 = .ok (.getfield 165, 3) := by decide +kernel
theorem dX12_loan_28 : decode cX12_loan 28 = .ok (.iload_n 1, 1) := by decide +kernel
theorem dX12_loan_29 : decode cX12_loan 29 = .ok (.if_icmp .ge 6, 3) := by decide +kernel
theorem dX12_loan_32 : decode cX12_loan 32 = .ok (.bipush (-3), 2) := by decide +kernel
theorem dX12_loan_34 : decode cX12_loan 34 = .ok (.ireturn, 1) := by decide +kernel
theorem dX12_loan_35 : decode cX12_loan 35 = .ok (.aload_n 0, 1) := by decide +kernel
theorem dX12_loan_36 : decode cX12_loan 36 = .ok (.getfield 174, 3) := by decide +kernel
theorem dX12_loan_39 : decode cX12_loan 39 = .ok (.bipush 8, 2) := by decide +kernel
theorem dX12_loan_41 : decode cX12_loan 41 = .ok (.if_icmp .ne 6, 3) := by decide +kernel
theorem dX12_loan_44 : decode cX12_loan 44 = .ok (.bipush (-4), 2) := by decide +kernel
theorem dX12_loan_46 : decode cX12_loan 46 = .ok (.ireturn, 1) := by decide +kernel
theorem dX12_loan_47 : decode cX12_loan 47 = .ok (.aload_n 0, 1) := by decide +kernel
theorem dX12_loan_48 : decode cX12_loan 48 = .ok (.invokevirtual 208, 3) := by decide +kernel
theorem dX12_loan_51 : decode cX12_loan 51 = .ok (.aload_n 0, 1) := by decide +kernel
theorem dX12_loan_52 : decode cX12_loan 52 = .ok (.getfield 44, 3) := by decide +kernel
theorem dX12_loan_55 : decode cX12_loan 55 = .ok (.aload_n 0, 1) := by decide +kernel
theorem dX12_loan_56 : decode cX12_loan 56 = .ok (.getfield 174, 3) := by decide +kernel
theorem dX12_loan_59 : decode cX12_loan 59 = .ok (.iload_n 2, 1) := by decide +kernel
theorem dX12_loan_60 : decode cX12_loan 60 = .ok (.ifCond .eq 8, 3) := by decide +kernel
theorem dX12_loan_63 : decode cX12_loan 63 = .ok (.iload_n 1, 1) := by decide +kernel
theorem dX12_loan_64 : decode cX12_loan 64 = .ok (.ineg, 1) := by decide +kernel
theorem dX12_loan_65 : decode cX12_loan 65 = .ok (.goto 4, 3) := by decide +kernel
theorem dX12_loan_68 : decode cX12_loan 68 = .ok (.iload_n 1, 1) := by decide +kernel
theorem dX12_loan_69 : decode cX12_loan 69 = .ok (.iastore, 1) := by decide +kernel
theorem dX12_loan_70 : decode cX12_loan 70 = .ok (.aload_n 0, 1) := by decide +kernel
theorem dX12_loan_71 : decode cX12_loan 71 = .ok (.dup, 1) := by decide +kernel
theorem dX12_loan_72 : decode cX12_loan 72 = .ok (.getfield 174, 3) := by decide +kernel
theorem dX12_loan_75 : decode cX12_loan 75 = .ok (.iconst 1, 1) := by decide +kernel
theorem dX12_loan_76 : decode cX12_loan 76 = .ok (.iadd, 1) := by decide +kernel
theorem dX12_loan_77 : decode cX12_loan 77 = .ok (.putfield 174, 3) := by decide +kernel
theorem dX12_loan_80 : decode cX12_loan 80 = .ok (.aload_n 0, 1) := by decide +kernel
theorem dX12_loan_81 : decode cX12_loan 81 = .ok (.dup, 1) := by decide +kernel
theorem dX12_loan_82 : decode cX12_loan 82 = .ok (.getfield 165, 3) := by decide +kernel
theorem dX12_loan_85 : decode cX12_loan 85 = .ok (.iload_n 2, 1) := by decide +kernel
theorem dX12_loan_86 : decode cX12_loan 86 = .ok (.ifCond .eq 7, 3) := by decide +kernel
theorem dX12_loan_89 : decode cX12_loan 89 = .ok (.iload_n 1, 1) := by decide +kernel
theorem dX12_loan_90 : decode cX12_loan 90 = .ok (.goto 5, 3) := by decide +kernel
theorem dX12_loan_93 : decode cX12_loan 93 = .ok (.iload_n 1, 1) := by decide +kernel
theorem dX12_loan_94 : decode cX12_loan 94 = .ok (.ineg, 1) := by decide +kernel
theorem dX12_loan_95 : decode cX12_loan 95 = .ok (.iadd, 1) := by decide +kernel
theorem dX12_loan_96 : decode cX12_loan 96 = .ok (.putfield 165, 3) := by decide +kernel
theorem dX12_loan_99 : decode cX12_loan 99 = .ok (.aload_n 0, 1) := by decide +kernel
theorem dX12_loan_100 : decode cX12_loan 100 = .ok (.getfield 165, 3) := by decide +kernel
theorem dX12_loan_103 : decode cX12_loan 103 = .ok (.ireturn, 1) := by decide +kernel
theorem dX12_back_0 : decode cX12_back 0 = .ok (.aload_n 0, 1) := by decide +kernel
theorem dX12_back_1 : decode cX12_back 1 = .ok (.iconst 0, 1) := by decide +kernel
theorem dX12_back_2 : decode cX12_back 2 = .ok (.putfield 104, 3) := by decide +kernel
theorem dX12_back_5 : decode cX12_back 5 = .ok (.aload_n 0, 1) := by decide +kernel
theorem dX12_back_6 : decode cX12_back 6 = .ok (.getfield 174, 3) := by decide +kernel
theorem dX12_back_9 : decode cX12_back 9 = .ok (.ifCond .eq 28, 3) := by decide +kernel
theorem dX12_back_12 : decode cX12_back 12 = .ok (.aload_n 0, 1) := by decide +kernel
theorem dX12_back_13 : decode cX12_back 13 = .ok (.getfield 44, 3) := by decide +kernel
theorem dX12_back_16 : decode cX12_back 16 = .ok (.iconst 0, 1) := by decide +kernel
theorem dX12_back_17 : decode cX12_back 17 = .ok (.iaload, 1) := by decide +kernel
theorem dX12_back_18 : decode cX12_back 18 = .ok (.ifCond .ge 22, 3) := by decide +kernel
theorem dX12_back_21 : decode cX12_back 21 = .ok (.aload_n 0, 1) := by decide +kernel
theorem dX12_back_22 : decode cX12_back 22 = .ok (.getfield 165, 3) := by decide +kernel
theorem dX12_back_25 : decode cX12_back 25 = .ok (.aload_n 0, 1) := by decide +kernel
theorem dX12_back_26 : decode cX12_back 26 = .ok (.getfield 44, 3) := by decide +kernel
theorem dX12_back_29 : decode cX12_back 29 = .ok (.iconst 0, 1) := by decide +kernel
theorem dX12_back_30 : decode cX12_back 30 = .ok (.iaload, 1) := by decide +kernel
theorem dX12_back_31 : decode cX12_back 31 = .ok (.invokestatic 184, 3) := by decide +kernel
theorem dX12_back_34 : decode cX12_back 34 = .ok (.if_icmp .ge 6, 3) := by decide +kernel
theorem dX12_back_37 : decode cX12_back 37 = .ok (.bipush (-3), 2) := by decide +kernel
theorem dX12_back_39 : decode cX12_back 39 = .ok (.ireturn, 1) := by decide +kernel
theorem dX12_back_40 : decode cX12_back 40 = .ok (.aload_n 0, 1) := by decide +kernel
theorem dX12_back_41 : decode cX12_back 41 = .ok (.invokevirtual 208, 3) := by decide +kernel
theorem dX12_back_44 : decode cX12_back 44 = .ok (.aload_n 0, 1) := by decide +kernel
theorem dX12_back_45 : decode cX12_back 45 = .ok (.dup, 1) := by decide +kernel
theorem dX12_back_46 : decode cX12_back 46 = .ok (.getfield 165, 3) := by decide +kernel
theorem dX12_back_49 : decode cX12_back 49 = .ok (.aload_n 0, 1) := by decide +kernel
theorem dX12_back_50 : decode cX12_back 50 = .ok (.getfield 44, 3) := by decide +kernel
theorem dX12_back_53 : decode cX12_back 53 = .ok (.iconst 0, 1) := by decide +kernel
theorem dX12_back_54 : decode cX12_back 54 = .ok (.iaload, 1) := by decide +kernel
theorem dX12_back_55 : decode cX12_back 55 = .ok (.ifCond .le 15, 3) := by decide +kernel
theorem dX12_back_58 : decode cX12_back 58 = .ok (.aload_n 0, 1) := by decide +kernel
theorem dX12_back_59 : decode cX12_back 59 = .ok (.getfield 44, 3) := by decide +kernel
theorem dX12_back_62 : decode cX12_back 62 = .ok (.iconst 0, 1) := by decide +kernel
theorem dX12_back_63 : decode cX12_back 63 = .ok (.iaload, 1) := by decide +kernel
theorem dX12_back_64 : decode cX12_back 64 = .ok (.invokestatic 184, 3) := by decide +kernel
theorem dX12_back_67 : decode cX12_back 67 = .ok (.goto 13, 3) := by decide +kernel
theorem dX12_back_70 : decode cX12_back 70 = .ok (.aload_n 0, 1) := by decide +kernel
theorem dX12_back_71 : decode cX12_back 71 = .ok (.getfield 44, 3) := by decide +kernel
theorem dX12_back_74 : decode cX12_back 74 = .ok (.iconst 0, 1) := by decide +kernel
theorem dX12_back_75 : decode cX12_back 75 = .ok (.iaload, 1) := by decide +kernel
theorem dX12_back_76 : decode cX12_back 76 = .ok (.invokestatic 184, 3) := by decide +kernel
theorem dX12_back_79 : decode cX12_back 79 = .ok (.ineg, 1) := by decide +kernel
theorem dX12_back_80 : decode cX12_back 80 = .ok (.iadd, 1) := by decide +kernel
theorem dX12_back_81 : decode cX12_back 81 = .ok (.putfield 165, 3) := by decide +kernel
theorem dX12_back_84 : decode cX12_back 84 = .ok (.aload_n 0, 1) := by decide +kernel
theorem dX12_back_85 : decode cX12_back 85 = .ok (.dup, 1) := by decide +kernel
theorem dX12_back_86 : decode cX12_back 86 = .ok (.getfield 174, 3) := by decide +kernel
theorem dX12_back_89 : decode cX12_back 89 = .ok (.iconst 1, 1) := by decide +kernel
theorem dX12_back_90 : decode cX12_back 90 = .ok (.isub, 1) := by decide +kernel
theorem dX12_back_91 : decode cX12_back 91 = .ok (.putfield 174, 3) := by decide +kernel
theorem dX12_back_94 : decode cX12_back 94 = .ok (.iconst 0, 1) := by decide +kernel
theorem dX12_back_95 : decode cX12_back 95 = .ok (.istore_n 1, 1) := by decide +kernel
theorem dX12_back_96 : decode cX12_back 96 = .ok (.iload_n 1, 1) := by decide +kernel
theorem dX12_back_97 : decode cX12_back 97 = .ok (.aload_n 0, 1) := by decide +kernel
theorem dX12_back_98 : decode cX12_back 98 = .ok (.getfield 174, 3) := by decide +kernel
theorem dX12_back_101 : decode cX12_back 101 = .ok (.if_icmp .ge 23, 3) := by decide +kernel
theorem dX12_back_104 : decode cX12_back 104 = .ok (.aload_n 0, 1) := by decide +kernel
theorem dX12_back_105 : decode cX12_back 105 = .ok (.getfield 44, 3) := by decide +kernel
theorem dX12_back_108 : decode cX12_back 108 = .ok (.iload_n 1, 1) := by decide +kernel
theorem dX12_back_109 : decode cX12_back 109 = .ok (.aload_n 0, 1) := by decide +kernel
theorem dX12_back_110 : decode cX12_back 110 = .ok (.getfield 44, 3) := by decide +kernel
theorem dX12_back_113 : decode cX12_back 113 = .ok (.iload_n 1, 1) := by decide +kernel
theorem dX12_back_114 : decode cX12_back 114 = .ok (.iconst 1, 1) := by decide +kernel
theorem dX12_back_115 : decode cX12_back 115 = .ok (.iadd, 1) := by decide +kernel
theorem dX12_back_116 : decode cX12_back 116 = .ok (.iaload, 1) := by decide +kernel
theorem dX12_back_117 : decode cX12_back 117 = .ok (.iastore, 1) := by decide +kernel
theorem dX12_back_118 : decode cX12_back 118 = .ok (.iinc 1 1, 3) := by decide +kernel
theorem dX12_back_121 : decode cX12_back 121 = .ok (.goto (-25), 3) := by decide +kernel
theorem dX12_back_124 : decode cX12_back 124 = .ok (.aload_n 0, 1) := by decide +kernel
theorem dX12_back_125 : decode cX12_back 125 = .ok (.getfield 165, 3) := by decide +kernel
theorem dX12_back_128 : decode cX12_back 128 = .ok (.ireturn, 1) := by decide +kernel
theorem dX12_undo_0 : decode cX12_undo 0 = .ok (.aload_n 0, 1) := by decide +kernel
theorem dX12_undo_1 : decode cX12_undo 1 = .ok (.iconst 0, 1) := by decide +kernel
theorem dX12_undo_2 : decode cX12_undo 2 = .ok (.putfield 104, 3) := by decide +kernel
theorem dX12_undo_5 : decode cX12_undo 5 = .ok (.aload_n 0, 1) := by decide +kernel
theorem dX12_undo_6 : decode cX12_undo 6 = .ok (.getfield 177, 3) := by decide +kernel
theorem dX12_undo_9 : decode cX12_undo 9 = .ok (.ifCond .ne 6, 3) := by decide +kernel
theorem dX12_undo_12 : decode cX12_undo 12 = .ok (.bipush (-3), 2) := by decide +kernel
theorem dX12_undo_14 : decode cX12_undo 14 = .ok (.ireturn, 1) := by decide +kernel
theorem dX12_undo_15 : decode cX12_undo 15 = .ok (.aload_n 0, 1) := by decide +kernel
theorem dX12_undo_16 : decode cX12_undo 16 = .ok (.dup, 1) := by decide +kernel
theorem dX12_undo_17 : decode cX12_undo 17 = .ok (.getfield 177, 3) := by decide +kernel
theorem dX12_undo_20 : decode cX12_undo 20 = .ok (.iconst 1, 1) := by decide +kernel
theorem dX12_undo_21 : decode cX12_undo 21 = .ok (.isub, 1) := by decide +kernel
theorem dX12_undo_22 : decode cX12_undo 22 = .ok (.putfield 177, 3) := by decide +kernel
theorem dX12_undo_25 : decode cX12_undo 25 = .ok (.aload_n 0, 1) := by decide +kernel
theorem dX12_undo_26 : decode cX12_undo 26 = .ok (.aload_n 0, 1) := by decide +kernel
theorem dX12_undo_27 : decode cX12_undo 27 = .ok (.getfield 47, 3) := by decide +kernel
theorem dX12_undo_30 : decode cX12_undo 30 = .ok (.bipush 28, 2) := by decide +kernel
theorem dX12_undo_32 : decode cX12_undo 32 = .ok (.aload_n 0, 1) := by decide +kernel
theorem dX12_undo_33 : decode cX12_undo 33 = .ok (.getfield 177, 3) := by decide +kernel
theorem dX12_undo_36 : decode cX12_undo 36 = .ok (.imul, 1) := by decide +kernel
theorem dX12_undo_37 : decode cX12_undo 37 = .ok (.invokevirtual 216, 3) := by decide +kernel
theorem dX12_undo_40 : decode cX12_undo 40 = .ok (.aload_n 0, 1) := by decide +kernel
theorem dX12_undo_41 : decode cX12_undo 41 = .ok (.getfield 177, 3) := by decide +kernel
theorem dX12_undo_44 : decode cX12_undo 44 = .ok (.ireturn, 1) := by decide +kernel
theorem dX12_judge_0 : decode cX12_judge 0 = .ok (.aload_n 0, 1) := by decide +kernel
theorem dX12_judge_1 : decode cX12_judge 1 = .ok (.iconst 0, 1) := by decide +kernel
theorem dX12_judge_2 : decode cX12_judge 2 = .ok (.putfield 104, 3) := by decide +kernel
theorem dX12_judge_5 : decode cX12_judge 5 = .ok (.iload_n 1, 1) := by decide +kernel
theorem dX12_judge_6 : decode cX12_judge 6 = .ok (.invokestatic 191, 3) := by decide +kernel
theorem dX12_judge_9 : decode cX12_judge 9 = .ok (.ifCond .eq 5, 3) := by decide +kernel
theorem dX12_judge_12 : decode cX12_judge 12 = .ok (.iconst (-1), 1) := by decide +kernel
theorem dX12_judge_13 : decode cX12_judge 13 = .ok (.ireturn, 1) := by decide +kernel
theorem dX12_judge_14 : decode cX12_judge 14 = .ok (.iload_n 2, 1) := by decide +kernel
theorem dX12_judge_15 : decode cX12_judge 15 = .ok (.i2l, 1) := by decide +kernel
theorem dX12_judge_16 : decode cX12_judge 16 = .ok (.lconst 1, 1) := by decide +kernel
theorem dX12_judge_17 : decode cX12_judge 17 = .ok (.ldc2_w 114, 3) := by decide +kernel
theorem dX12_judge_20 : decode cX12_judge 20 = .ok (.invokestatic 107, 3) := by decide +kernel
theorem dX12_judge_23 : decode cX12_judge 23 = .ok (.ifCond .ne 6, 3) := by decide +kernel
theorem dX12_judge_26 : decode cX12_judge 26 = .ok (.bipush (-2), 2) := by decide +kernel
theorem dX12_judge_28 : decode cX12_judge 28 = .ok (.ireturn, 1) := by decide +kernel
theorem dX12_judge_29 : decode cX12_judge 29 = .ok (.iconst 1, 1) := by decide +kernel
theorem dX12_judge_30 : decode cX12_judge 30 = .ok (.istore 4, 2) := by decide +kernel
theorem dX12_judge_32 : decode cX12_judge 32 = .ok (.iconst 0, 1) := by decide +kernel
theorem dX12_judge_33 : decode cX12_judge 33 = .ok (.istore 5, 2) := by decide +kernel
theorem dX12_judge_35 : decode cX12_judge 35 = .ok (.iload 5, 2) := by decide +kernel
theorem dX12_judge_37 : decode cX12_judge 37 = .ok (.iload_n 2, 1) := by decide +kernel
theorem dX12_judge_38 : decode cX12_judge 38 = .ok (.if_icmp .ge 16, 3) := by decide +kernel
theorem dX12_judge_41 : decode cX12_judge 41 = .ok (.iload 4, 2) := by decide +kernel
theorem dX12_judge_43 : decode cX12_judge 43 = .ok (.bipush 10, 2) := by decide +kernel
theorem dX12_judge_45 : decode cX12_judge 45 = .ok (.imul, 1) := by decide +kernel
theorem dX12_judge_46 : decode cX12_judge 46 = .ok (.istore 4, 2) := by decide +kernel
theorem dX12_judge_48 : decode cX12_judge 48 = .ok (.iinc 5 1, 3) := by decide +kernel
theorem dX12_judge_51 : decode cX12_judge 51 = .ok (.goto (-16), 3) := by decide +kernel
theorem dX12_judge_54 : decode cX12_judge 54 = .ok (.iload_n 3, 1) := by decide +kernel
theorem dX12_judge_55 : decode cX12_judge 55 = .ok (.i2l, 1) := by decide +kernel
theorem dX12_judge_56 : decode cX12_judge 56 = .ok (.lconst 0, 1) := by decide +kernel
theorem dX12_judge_57 : decode cX12_judge 57 = .ok (.iload 4, 2) := by decide +kernel
theorem dX12_judge_59 : decode cX12_judge 59 = .ok (.iconst 1, 1) := by decide +kernel
theorem dX12_judge_60 : decode cX12_judge 60 = .ok (.isub, 1) := by decide +kernel
theorem dX12_judge_61 : decode cX12_judge 61 = .ok (.i2l, 1) := by decide +kernel
theorem dX12_judge_62 : decode cX12_judge 62 = .ok (.invokestatic 107, 3) := by decide +kernel
theorem dX12_judge_65 : decode cX12_judge 65 = .ok (.ifCond .ne 6, 3) := by decide +kernel
theorem dX12_judge_68 : decode cX12_judge 68 = .ok (.bipush (-2), 2) := by decide +kernel
theorem dX12_judge_70 : decode cX12_judge 70 = .ok (.ireturn, 1) := by decide +kernel
theorem dX12_judge_71 : decode cX12_judge 71 = .ok (.aload_n 0, 1) := by decide +kernel
theorem dX12_judge_72 : decode cX12_judge 72 = .ok (.getfield 41, 3) := by decide +kernel
theorem dX12_judge_75 : decode cX12_judge 75 = .ok (.iload_n 1, 1) := by decide +kernel
theorem dX12_judge_76 : decode cX12_judge 76 = .ok (.iaload, 1) := by decide +kernel
theorem dX12_judge_77 : decode cX12_judge 77 = .ok (.istore 5, 2) := by decide +kernel
theorem dX12_judge_79 : decode cX12_judge 79 = .ok (.aload_n 0, 1) := by decide +kernel
theorem dX12_judge_80 : decode cX12_judge 80 = .ok (.getfield 165, 3) := by decide +kernel
theorem dX12_judge_83 : decode cX12_judge 83 = .ok (.istore 6, 2) := by decide +kernel
theorem dX12_judge_85 : decode cX12_judge 85 = .ok (.iconst 0, 1) := by decide +kernel
theorem dX12_judge_86 : decode cX12_judge 86 = .ok (.istore 7, 2) := by decide +kernel
theorem dX12_judge_88 : decode cX12_judge 88 = .ok (.iload 7, 2) := by decide +kernel
theorem dX12_judge_90 : decode cX12_judge 90 = .ok (.iload_n 2, 1) := by decide +kernel
theorem dX12_judge_91 : decode cX12_judge 91 = .ok (.if_icmp .ge 73, 3) := by decide +kernel
theorem dX12_judge_94 : decode cX12_judge 94 = .ok (.iload 4, 2) := by decide +kernel
theorem dX12_judge_96 : decode cX12_judge 96 = .ok (.bipush 10, 2) := by decide +kernel
theorem dX12_judge_98 : decode cX12_judge 98 = .ok (.idiv, 1) := by decide +kernel
theorem dX12_judge_99 : decode cX12_judge 99 = .ok (.istore 4, 2) := by decide +kernel
theorem dX12_judge_101 : decode cX12_judge 101 = .ok (.iload_n 3, 1) := by decide +kernel
theorem dX12_judge_102 : decode cX12_judge 102 = .ok (.iload 4, 2) := by decide +kernel
theorem dX12_judge_104 : decode cX12_judge 104 = .ok (.idiv, 1) := by decide +kernel
theorem dX12_judge_105 : decode cX12_judge 105 = .ok (.bipush 10, 2) := by decide +kernel
theorem dX12_judge_107 : decode cX12_judge 107 = .ok (.irem, 1) := by decide +kernel
theorem dX12_judge_108 : decode cX12_judge 108 = .ok (.istore 8, 2) := by decide +kernel
theorem dX12_judge_110 : decode cX12_judge 110 = .ok (.aload_n 0, 1) := by decide +kernel
theorem dX12_judge_111 : decode cX12_judge 111 = .ok (.iload 8, 2) := by decide +kernel
theorem dX12_judge_113 : decode cX12_judge 113 = .ok (.invokevirtual 194, 3) := by decide +kernel
theorem dX12_judge_116 : decode cX12_judge 116 = .ok (.ifCond .ne 17, 3) := by decide +kernel
theorem dX12_judge_119 : decode cX12_judge 119 = .ok (.aload_n 0, 1) := by decide +kernel
theorem dX12_judge_120 : decode cX12_judge 120 = .ok (.iload 5, 2) := by decide +kernel
theorem dX12_judge_122 : decode cX12_judge 122 = .ok (.iload 8, 2) := by decide +kernel
theorem dX12_judge_124 : decode cX12_judge 124 = .ok (.iconst 1, 1) := by decide +kernel
theorem dX12_judge_125 : decode cX12_judge 125 = .ok (.iload 6, 2) := by decide +kernel
theorem dX12_judge_127 : decode cX12_judge 127 = .ok (.invokevirtual 204, 3) := by decide +kernel
theorem dX12_judge_130 : decode cX12_judge 130 = .ok (.ifCond .ne 6, 3) := by decide +kernel
theorem dX12_judge_133 : decode cX12_judge 133 = .ok (.iload 7, 2) := by decide +kernel
theorem dX12_judge_135 : decode cX12_judge 135 = .ok (.ireturn, 1) := by decide +kernel
theorem dX12_judge_136 : decode cX12_judge 136 = .ok (.iload 6, 2) := by decide +kernel
theorem dX12_judge_138 : decode cX12_judge 138 = .ok (.aload_n 0, 1) := by decide +kernel
theorem dX12_judge_139 : decode cX12_judge 139 = .ok (.getfield 17, 3) := by decide +kernel
theorem dX12_judge_142 : decode cX12_judge 142 = .ok (.bipush 6, 2) := by decide +kernel
theorem dX12_judge_144 : decode cX12_judge 144 = .ok (.iload 5, 2) := by decide +kernel
theorem dX12_judge_146 : decode cX12_judge 146 = .ok (.imul, 1) := by decide +kernel
theorem dX12_judge_147 : decode cX12_judge 147 = .ok (.iload 8, 2) := by decide +kernel
theorem dX12_judge_149 : decode cX12_judge 149 = .ok (.iadd, 1) := by decide +kernel
theorem dX12_judge_150 : decode cX12_judge 150 = .ok (.iaload, 1) := by decide +kernel
theorem dX12_judge_151 : decode cX12_judge 151 = .ok (.isub, 1) := by decide +kernel
theorem dX12_judge_152 : decode cX12_judge 152 = .ok (.istore 6, 2) := by decide +kernel
theorem dX12_judge_154 : decode cX12_judge 154 = .ok (.iload 8, 2) := by decide +kernel
theorem dX12_judge_156 : decode cX12_judge 156 = .ok (.istore 5, 2) := by decide +kernel
theorem dX12_judge_158 : decode cX12_judge 158 = .ok (.iinc 7 1, 3) := by decide +kernel
theorem dX12_judge_161 : decode cX12_judge 161 = .ok (.goto (-73), 3) := by decide +kernel
theorem dX12_judge_164 : decode cX12_judge 164 = .ok (.bipush (-9), 2) := by decide +kernel
theorem dX12_judge_166 : decode cX12_judge 166 = .ok (.ireturn, 1) := by decide +kernel
theorem dX12_layTours_0 : decode cX12_layTours 0 = .ok (.iconst 0, 1) := by decide +kernel
theorem dX12_layTours_1 : decode cX12_layTours 1 = .ok (.istore 4, 2) := by decide +kernel
theorem dX12_layTours_3 : decode cX12_layTours 3 = .ok (.iload 4, 2) := by decide +kernel
theorem dX12_layTours_5 : decode cX12_layTours 5 = .ok (.bipush 64, 2) := by decide +kernel
theorem dX12_layTours_7 : decode cX12_layTours 7 = .ok (.if_icmp .ge 292, 3) := by decide +kernel
theorem dX12_layTours_10 : decode cX12_layTours 10 = .ok (.iload 4, 2) := by decide +kernel
theorem dX12_layTours_12 : decode cX12_layTours 12 = .ok (.ifCond .ne 17, 3) := by decide +kernel
theorem dX12_layTours_15 : decode cX12_layTours 15 = .ok (.aload_n 0, 1) := by decide +kernel
theorem dX12_layTours_16 : decode cX12_layTours 16 = .ok (.getfield 17, 3) := by decide +kernel
theorem dX12_layTours_19 : decode cX12_layTours 19 = .ok (.bipush 6, 2) := by decide +kernel
theorem dX12_layTours_21 : decode cX12_layTours 21 = .ok (.iload_n 2, 1) := by decide +kernel
theorem dX12_layTours_22 : decode cX12_layTours 22 = .ok (.imul, 1) := by decide +kernel
theorem dX12_layTours_23 : decode cX12_layTours 23 = .ok (.iload_n 3, 1) := by decide +kernel
theorem dX12_layTours_24 : decode cX12_layTours 24 = .ok (.iadd, 1) := by decide +kernel
theorem dX12_layTours_25 : decode cX12_layTours 25 = .ok (.iaload, 1) := by decide +kernel
theorem dX12_layTours_26 : decode cX12_layTours 26 = .ok (.goto 5, 3) := by decide +kernel
theorem dX12_layTours_29 : decode cX12_layTours 29 = .ok (.ldc 103, 2) := by decide +kernel
theorem dX12_layTours_31 : decode cX12_layTours 31 = .ok (.istore 5, 2) := by decide +kernel
theorem dX12_layTours_33 : decode cX12_layTours 33 = .ok (.iconst 0, 1) := by decide +kernel
theorem dX12_layTours_34 : decode cX12_layTours 34 = .ok (.istore 6, 2) := by decide +kernel
theorem dX12_layTours_36 : decode cX12_layTours 36 = .ok (.iload 6, 2) := by decide +kernel
theorem dX12_layTours_38 : decode cX12_layTours 38 = .ok (.aload_n 0, 1) := by decide +kernel
theorem dX12_layTours_39 : decode cX12_layTours 39 = .ok (.getfield 111, 3) := by decide +kernel
theorem dX12_layTours_42 : decode cX12_layTours 42 = .ok (.if_icmp .ge 225, 3) := by decide +kernel
theorem dX12_layTours_45 : decode cX12_layTours 45 = .ok (.ldc 103, 2) := by decide +kernel
theorem dX12_layTours_47 : decode cX12_layTours 47 = .ok (.istore 7, 2) := by decide +kernel
theorem dX12_layTours_49 : decode cX12_layTours 49 = .ok (.iload 4, 2) := by decide +kernel
theorem dX12_layTours_51 : decode cX12_layTours 51 = .ok (.iload 6, 2) := by decide +kernel
theorem dX12_layTours_53 : decode cX12_layTours 53 = .ok (.invokestatic 180, 3) := by decide +kernel
theorem dX12_layTours_56 : decode cX12_layTours 56 = .ok (.ifCond .eq 190, 3) := by decide +kernel
theorem dX12_layTours_59 : decode cX12_layTours 59 = .ok (.aload_n 0, 1) := by decide +kernel
theorem dX12_layTours_60 : decode cX12_layTours 60 = .ok (.iload_n 1, 1) := by decide +kernel
theorem dX12_layTours_61 : decode cX12_layTours 61 = .ok (.iload 6, 2) := by decide +kernel
theorem dX12_layTours_63 : decode cX12_layTours 63 = .ok (.invokevirtual 211, 3) := by decide +kernel
theorem dX12_layTours_66 : decode cX12_layTours 66 = .ok (.ifCond .eq 180, 3) := by decide +kernel
theorem dX12_layTours_69 : decode cX12_layTours 69 = .ok (.iload 4, 2) := by decide +kernel
theorem dX12_layTours_71 : decode cX12_layTours 71 = .ok (.iconst 1, 1) := by decide +kernel
theorem dX12_layTours_72 : decode cX12_layTours 72 = .ok (.iload 6, 2) := by decide +kernel
theorem dX12_layTours_74 : decode cX12_layTours 74 = .ok (.ishl, 1) := by decide +kernel
theorem dX12_layTours_75 : decode cX12_layTours 75 = .ok (.iconst (-1), 1) := by decide +kernel
theorem dX12_layTours_76 : decode cX12_layTours 76 = .ok (.ixor, 1) := by decide +kernel
theorem dX12_layTours_77 : decode cX12_layTours 77 = .ok (.iand, 1) := by decide +kernel
theorem dX12_layTours_78 : decode cX12_layTours 78 = .ok (.istore 8, 2) := by decide +kernel
theorem dX12_layTours_80 : decode cX12_layTours 80 = .ok (.iload 8, 2) := by decide +kernel
theorem dX12_layTours_82 : decode cX12_layTours 82 = .ok (.ifCond .ne 23, 3) := by decide +kernel
theorem dX12_layTours_85 : decode cX12_layTours 85 = .ok (.aload_n 0, 1) := by decide +kernel
theorem dX12_layTours_86 : decode cX12_layTours 86 = .ok (.getfield 17, 3) := by decide +kernel
theorem dX12_layTours_89 : decode cX12_layTours 89 = .ok (.bipush 6, 2) := by decide +kernel
theorem dX12_layTours_91 : decode cX12_layTours 91 = .ok (.iload_n 2, 1) := by decide +kernel
theorem dX12_layTours_92 : decode cX12_layTours 92 = .ok (.imul, 1) := by decide +kernel
theorem dX12_layTours_93 : decode cX12_layTours 93 = .ok (.aload_n 0, 1) := by decide +kernel
theorem dX12_layTours_94 : decode cX12_layTours 94 = .ok (.getfield 20, 3) := by decide +kernel
theorem dX12_layTours_97 : decode cX12_layTours 97 = .ok (.iload 6, 2) := by decide +kernel
theorem dX12_layTours_99 : decode cX12_layTours 99 = .ok (.iaload, 1) := by decide +kernel
theorem dX12_layTours_100 : decode cX12_layTours 100 = .ok (.iadd, 1) := by decide +kernel
theorem dX12_layTours_101 : decode cX12_layTours 101 = .ok (.iaload, 1) := by decide +kernel
theorem dX12_layTours_102 : decode cX12_layTours 102 = .ok (.goto 5, 3) := by decide +kernel
theorem dX12_layTours_105 : decode cX12_layTours 105 = .ok (.ldc 103, 2) := by decide +kernel
theorem dX12_layTours_107 : decode cX12_layTours 107 = .ok (.istore 7, 2) := by decide +kernel
theorem dX12_layTours_109 : decode cX12_layTours 109 = .ok (.iconst 0, 1) := by decide +kernel
theorem dX12_layTours_110 : decode cX12_layTours 110 = .ok (.istore 9, 2) := by decide +kernel
theorem dX12_layTours_112 : decode cX12_layTours 112 = .ok (.iload 9, 2) := by decide +kernel
theorem dX12_layTours_114 : decode cX12_layTours 114 = .ok (.aload_n 0, 1) := by decide +kernel
theorem dX12_layTours_115 : decode cX12_layTours 115 = .ok (.getfield 111, 3) := by decide +kernel
theorem dX12_layTours_118 : decode cX12_layTours 118 = .ok (.if_icmp .ge 74, 3) := by decide +kernel
theorem dX12_layTours_121 : decode cX12_layTours 121 = .ok (.iload 8, 2) := by decide +kernel
theorem dX12_layTours_123 : decode cX12_layTours 123 = .ok (.iload 9, 2) := by decide +kernel
theorem dX12_layTours_125 : decode cX12_layTours 125 = .ok (.invokestatic 180, 3) := by decide +kernel
theorem dX12_layTours_128 : decode cX12_layTours 128 = .ok (.ifCond .eq 58, 3) := by decide +kernel
theorem dX12_layTours_131 : decode cX12_layTours 131 = .ok (.aload_n 0, 1) := by decide +kernel
theorem dX12_layTours_132 : decode cX12_layTours 132 = .ok (.getfield 60, 3) := by decide +kernel
theorem dX12_layTours_135 : decode cX12_layTours 135 = .ok (.bipush 6, 2) := by decide +kernel
theorem dX12_layTours_137 : decode cX12_layTours 137 = .ok (.iload 8, 2) := by decide +kernel
theorem dX12_layTours_139 : decode cX12_layTours 139 = .ok (.imul, 1) := by decide +kernel
theorem dX12_layTours_140 : decode cX12_layTours 140 = .ok (.iload 9, 2) := by decide +kernel
theorem dX12_layTours_142 : decode cX12_layTours 142 = .ok (.iadd, 1) := by decide +kernel
theorem dX12_layTours_143 : decode cX12_layTours 143 = .ok (.iaload, 1) := by decide +kernel
theorem dX12_layTours_144 : decode cX12_layTours 144 = .ok (.aload_n 0, 1) := by decide +kernel
theorem dX12_layTours_145 : decode cX12_layTours 145 = .ok (.getfield 17, 3) := by decide +kernel
theorem dX12_layTours_148 : decode cX12_layTours 148 = .ok (.bipush 6, 2) := by decide +kernel
theorem dX12_layTours_150 : decode cX12_layTours 150 = .ok (.aload_n 0, 1) := by decide +kernel
theorem dX12_layTours_151 : decode cX12_layTours 151 = .ok (.getfield 20, 3) := by decide +kernel
theorem dX12_layTours_154 : decode cX12_layTours 154 = .ok (.iload 9, 2) := by decide +kernel
theorem dX12_layTours_156 : decode cX12_layTours 156 = .ok (.iaload, 1) := by decide +kernel
theorem dX12_layTours_157 : decode cX12_layTours 157 = .ok (.imul, 1) := by decide +kernel
theorem dX12_layTours_158 : decode cX12_layTours 158 = .ok (.aload_n 0, 1) := by decide +kernel
theorem dX12_layTours_159 : decode cX12_layTours 159 = .ok (.getfield 20, 3) := by decide +kernel
theorem dX12_layTours_162 : decode cX12_layTours 162 = .ok (.iload 6, 2) := by decide +kernel
theorem dX12_layTours_164 : decode cX12_layTours 164 = .ok (.iaload, 1) := by decide +kernel
theorem dX12_layTours_165 : decode cX12_layTours 165 = .ok (.iadd, 1) := by decide +kernel
theorem dX12_layTours_166 : decode cX12_layTours 166 = .ok (.iaload, 1) := by decide +kernel
theorem dX12_layTours_167 : decode cX12_layTours 167 = .ok (.iadd, 1) := by decide +kernel
theorem dX12_layTours_168 : decode cX12_layTours 168 = .ok (.istore 10, 2) := by decide +kernel
theorem dX12_layTours_170 : decode cX12_layTours 170 = .ok (.iload 10, 2) := by decide +kernel
theorem dX12_layTours_172 : decode cX12_layTours 172 = .ok (.iload 7, 2) := by decide +kernel
theorem dX12_layTours_174 : decode cX12_layTours 174 = .ok (.if_icmp .ge 8, 3) := by decide +kernel
theorem dX12_layTours_177 : decode cX12_layTours 177 = .ok (.iload 10, 2) := by decide +kernel
theorem dX12_layTours_179 : decode cX12_layTours 179 = .ok (.goto 5, 3) := by decide +kernel
theorem dX12_layTours_182 : decode cX12_layTours 182 = .ok (.iload 7, 2) := by decide +kernel
theorem dX12_layTours_184 : decode cX12_layTours 184 = .ok (.istore 7, 2) := by decide +kernel
theorem dX12_layTours_186 : decode cX12_layTours 186 = .ok (.iinc 9 1, 3) := by decide +kernel
theorem dX12_layTours_189 : decode cX12_layTours 189 = .ok (.goto (-77), 3) := by decide +kernel
theorem dX12_layTours_192 : decode cX12_layTours 192 = .ok (.iload 7, 2) := by decide +kernel
theorem dX12_layTours_194 : decode cX12_layTours 194 = .ok (.ldc 103, 2) := by decide +kernel
theorem dX12_layTours_196 : decode cX12_layTours 196 = .ok (.if_icmp .le 8, 3) := by decide +kernel
theorem dX12_layTours_199 : decode cX12_layTours 199 = .ok (.ldc 103, 2) := by decide +kernel
theorem dX12_layTours_201 : decode cX12_layTours 201 = .ok (.goto 5, 3) := by decide +kernel
theorem dX12_layTours_204 : decode cX12_layTours 204 = .ok (.iload 7, 2) := by decide +kernel
theorem dX12_layTours_206 : decode cX12_layTours 206 = .ok (.istore 7, 2) := by decide +kernel
theorem dX12_layTours_208 : decode cX12_layTours 208 = .ok (.iload 7, 2) := by decide +kernel
theorem dX12_layTours_210 : decode cX12_layTours 210 = .ok (.aload_n 0, 1) := by decide +kernel
theorem dX12_layTours_211 : decode cX12_layTours 211 = .ok (.getfield 17, 3) := by decide +kernel
theorem dX12_layTours_214 : decode cX12_layTours 214 = .ok (.bipush 6, 2) := by decide +kernel
theorem dX12_layTours_216 : decode cX12_layTours 216 = .ok (.aload_n 0, 1) := by decide +kernel
theorem dX12_layTours_217 : decode cX12_layTours 217 = .ok (.getfield 20, 3) := by decide +kernel
theorem dX12_layTours_220 : decode cX12_layTours 220 = .ok (.iload 6, 2) := by decide +kernel
theorem dX12_layTours_222 : decode cX12_layTours 222 = .ok (.iaload, 1) := by decide +kernel
theorem dX12_layTours_223 : decode cX12_layTours 223 = .ok (.imul, 1) := by decide +kernel
theorem dX12_layTours_224 : decode cX12_layTours 224 = .ok (.iload_n 3, 1) := by decide +kernel
theorem dX12_layTours_225 : decode cX12_layTours 225 = .ok (.iadd, 1) := by decide +kernel
theorem dX12_layTours_226 : decode cX12_layTours 226 = .ok (.iaload, 1) := by decide +kernel
theorem dX12_layTours_227 : decode cX12_layTours 227 = .ok (.iadd, 1) := by decide +kernel
theorem dX12_layTours_228 : decode cX12_layTours 228 = .ok (.istore 9, 2) := by decide +kernel
theorem dX12_layTours_230 : decode cX12_layTours 230 = .ok (.iload 9, 2) := by decide +kernel
theorem dX12_layTours_232 : decode cX12_layTours 232 = .ok (.iload 5, 2) := by decide +kernel
theorem dX12_layTours_234 : decode cX12_layTours 234 = .ok (.if_icmp .ge 8, 3) := by decide +kernel
theorem dX12_layTours_237 : decode cX12_layTours 237 = .ok (.iload 9, 2) := by decide +kernel
theorem dX12_layTours_239 : decode cX12_layTours 239 = .ok (.goto 5, 3) := by decide +kernel
theorem dX12_layTours_242 : decode cX12_layTours 242 = .ok (.iload 5, 2) := by decide +kernel
theorem dX12_layTours_244 : decode cX12_layTours 244 = .ok (.istore 5, 2) := by decide +kernel
theorem dX12_layTours_246 : decode cX12_layTours 246 = .ok (.aload_n 0, 1) := by decide +kernel
theorem dX12_layTours_247 : decode cX12_layTours 247 = .ok (.getfield 60, 3) := by decide +kernel
theorem dX12_layTours_250 : decode cX12_layTours 250 = .ok (.bipush 6, 2) := by decide +kernel
theorem dX12_layTours_252 : decode cX12_layTours 252 = .ok (.iload 4, 2) := by decide +kernel
theorem dX12_layTours_254 : decode cX12_layTours 254 = .ok (.imul, 1) := by decide +kernel
theorem dX12_layTours_255 : decode cX12_layTours 255 = .ok (.iload 6, 2) := by decide +kernel
theorem dX12_layTours_257 : decode cX12_layTours 257 = .ok (.iadd, 1) := by decide +kernel
theorem dX12_layTours_258 : decode cX12_layTours 258 = .ok (.iload 7, 2) := by decide +kernel
theorem dX12_layTours_260 : decode cX12_layTours 260 = .ok (.iastore, 1) := by decide +kernel
theorem dX12_layTours_261 : decode cX12_layTours 261 = .ok (.iinc 6 1, 3) := by decide +kernel
theorem dX12_layTours_264 : decode cX12_layTours 264 = .ok (.goto (-228), 3) := by decide +kernel
theorem dX12_layTours_267 : decode cX12_layTours 267 = .ok (.aload_n 0, 1) := by decide +kernel
theorem dX12_layTours_268 : decode cX12_layTours 268 = .ok (.getfield 57, 3) := by decide +kernel
theorem dX12_layTours_271 : decode cX12_layTours 271 = .ok (.bipush 64, 2) := by decide +kernel
theorem dX12_layTours_273 : decode cX12_layTours 273 = .ok (.iload_n 1, 1) := by decide +kernel
theorem dX12_layTours_274 : decode cX12_layTours 274 = .ok (.imul, 1) := by decide +kernel
theorem dX12_layTours_275 : decode cX12_layTours 275 = .ok (.iload 4, 2) := by decide +kernel
theorem dX12_layTours_277 : decode cX12_layTours 277 = .ok (.iadd, 1) := by decide +kernel
theorem dX12_layTours_278 : decode cX12_layTours 278 = .ok (.iload 5, 2) := by decide +kernel
theorem dX12_layTours_280 : decode cX12_layTours 280 = .ok (.ldc 103, 2) := by decide +kernel
theorem dX12_layTours_282 : decode cX12_layTours 282 = .ok (.if_icmp .le 8, 3) := by decide +kernel
theorem dX12_layTours_285 : decode cX12_layTours 285 = .ok (.ldc 103, 2) := by decide +kernel
theorem dX12_layTours_287 : decode cX12_layTours 287 = .ok (.goto 5, 3) := by decide +kernel
theorem dX12_layTours_290 : decode cX12_layTours 290 = .ok (.iload 5, 2) := by decide +kernel
theorem dX12_layTours_292 : decode cX12_layTours 292 = .ok (.iastore, 1) := by decide +kernel
theorem dX12_layTours_293 : decode cX12_layTours 293 = .ok (.iinc 4 1, 3) := by decide +kernel
theorem dX12_layTours_296 : decode cX12_layTours 296 = .ok (.goto (-293), 3) := by decide +kernel
theorem dX12_layTours_299 : decode cX12_layTours 299 = .ok (.return_, 1) := by decide +kernel
theorem dX12_tour_0 : decode cX12_tour 0 = .ok (.aload_n 0, 1) := by decide +kernel
theorem dX12_tour_1 : decode cX12_tour 1 = .ok (.iconst 0, 1) := by decide +kernel
theorem dX12_tour_2 : decode cX12_tour 2 = .ok (.putfield 104, 3) := by decide +kernel
theorem dX12_tour_5 : decode cX12_tour 5 = .ok (.iload_n 1, 1) := by decide +kernel
theorem dX12_tour_6 : decode cX12_tour 6 = .ok (.invokestatic 191, 3) := by decide +kernel
theorem dX12_tour_9 : decode cX12_tour 9 = .ok (.ifCond .eq 5, 3) := by decide +kernel
theorem dX12_tour_12 : decode cX12_tour 12 = .ok (.iconst (-1), 1) := by decide +kernel
theorem dX12_tour_13 : decode cX12_tour 13 = .ok (.ireturn, 1) := by decide +kernel
theorem dX12_tour_14 : decode cX12_tour 14 = .ok (.iload_n 2, 1) := by decide +kernel
theorem dX12_tour_15 : decode cX12_tour 15 = .ok (.i2l, 1) := by decide +kernel
theorem dX12_tour_16 : decode cX12_tour 16 = .ok (.lconst 0, 1) := by decide +kernel
theorem dX12_tour_17 : decode cX12_tour 17 = .ok (.iconst 1, 1) := by decide +kernel
theorem dX12_tour_18 : decode cX12_tour 18 = .ok (.aload_n 0, 1) := by decide +kernel
theorem dX12_tour_19 : decode cX12_tour 19 = .ok (.getfield 111, 3) := by decide +kernel
theorem dX12_tour_22 : decode cX12_tour 22 = .ok (.ishl, 1) := by decide +kernel
theorem dX12_tour_23 : decode cX12_tour 23 = .ok (.iconst 1, 1) := by decide +kernel
theorem dX12_tour_24 : decode cX12_tour 24 = .ok (.isub, 1) := by decide +kernel
theorem dX12_tour_25 : decode cX12_tour 25 = .ok (.i2l, 1) := by decide +kernel
theorem dX12_tour_26 : decode cX12_tour 26 = .ok (.invokestatic 107, 3) := by decide +kernel
theorem dX12_tour_29 : decode cX12_tour 29 = .ok (.ifCond .ne 6, 3) := by decide +kernel
theorem dX12_tour_32 : decode cX12_tour 32 = .ok (.bipush (-2), 2) := by decide +kernel
theorem dX12_tour_34 : decode cX12_tour 34 = .ok (.ireturn, 1) := by decide +kernel
theorem dX12_tour_35 : decode cX12_tour 35 = .ok (.iconst 0, 1) := by decide +kernel
theorem dX12_tour_36 : decode cX12_tour 36 = .ok (.istore_n 3, 1) := by decide +kernel
theorem dX12_tour_37 : decode cX12_tour 37 = .ok (.iload_n 3, 1) := by decide +kernel
theorem dX12_tour_38 : decode cX12_tour 38 = .ok (.aload_n 0, 1) := by decide +kernel
theorem dX12_tour_39 : decode cX12_tour 39 = .ok (.getfield 111, 3) := by decide +kernel
theorem dX12_tour_42 : decode cX12_tour 42 = .ok (.if_icmp .ge 40, 3) := by decide +kernel
theorem dX12_tour_45 : decode cX12_tour 45 = .ok (.iload_n 2, 1) := by decide +kernel
theorem dX12_tour_46 : decode cX12_tour 46 = .ok (.iload_n 3, 1) := by decide +kernel
theorem dX12_tour_47 : decode cX12_tour 47 = .ok (.invokestatic 180, 3) := by decide +kernel
theorem dX12_tour_50 : decode cX12_tour 50 = .ok (.ifCond .eq 26, 3) := by decide +kernel
theorem dX12_tour_53 : decode cX12_tour 53 = .ok (.aload_n 0, 1) := by decide +kernel
theorem dX12_tour_54 : decode cX12_tour 54 = .ok (.getfield 168, 3) := by decide +kernel
theorem dX12_tour_57 : decode cX12_tour 57 = .ok (.iload_n 3, 1) := by decide +kernel
theorem dX12_tour_58 : decode cX12_tour 58 = .ok (.invokestatic 180, 3) := by decide +kernel
theorem dX12_tour_61 : decode cX12_tour 61 = .ok (.ifCond .ne 12, 3) := by decide +kernel
theorem dX12_tour_64 : decode cX12_tour 64 = .ok (.aload_n 0, 1) := by decide +kernel
theorem dX12_tour_65 : decode cX12_tour 65 = .ok (.iload_n 1, 1) := by decide +kernel
theorem dX12_tour_66 : decode cX12_tour 66 = .ok (.iload_n 3, 1) := by decide +kernel
theorem dX12_tour_67 : decode cX12_tour 67 = .ok (.invokevirtual 211, 3) := by decide +kernel
theorem dX12_tour_70 : decode cX12_tour 70 = .ok (.ifCond .ne 6, 3) := by decide +kernel
theorem dX12_tour_73 : decode cX12_tour 73 = .ok (.bipush (-3), 2) := by decide +kernel
theorem dX12_tour_75 : decode cX12_tour 75 = .ok (.ireturn, 1) := by decide +kernel
theorem dX12_tour_76 : decode cX12_tour 76 = .ok (.iinc 3 1, 3) := by decide +kernel
theorem dX12_tour_79 : decode cX12_tour 79 = .ok (.goto (-42), 3) := by decide +kernel
theorem dX12_tour_82 : decode cX12_tour 82 = .ok (.aload_n 0, 1) := by decide +kernel
theorem dX12_tour_83 : decode cX12_tour 83 = .ok (.iload_n 1, 1) := by decide +kernel
theorem dX12_tour_84 : decode cX12_tour 84 = .ok (.aload_n 0, 1) := by decide +kernel
theorem dX12_tour_85 : decode cX12_tour 85 = .ok (.getfield 41, 3) := by decide +kernel
theorem dX12_tour_88 : decode cX12_tour 88 = .ok (.iload_n 1, 1) := by decide +kernel
theorem dX12_tour_89 : decode cX12_tour 89 = .ok (.iaload, 1) := by decide +kernel
theorem dX12_tour_90 : decode cX12_tour 90 = .ok (.iconst 0, 1) := by decide +kernel
theorem dX12_tour_91 : decode cX12_tour 91 = .ok (.invokevirtual 219, 3) := by decide +kernel
theorem dX12_tour_94 : decode cX12_tour 94 = .ok (.aload_n 0, 1) := by decide +kernel
theorem dX12_tour_95 : decode cX12_tour 95 = .ok (.getfield 57, 3) := by decide +kernel
theorem dX12_tour_98 : decode cX12_tour 98 = .ok (.bipush 64, 2) := by decide +kernel
theorem dX12_tour_100 : decode cX12_tour 100 = .ok (.iload_n 1, 1) := by decide +kernel
theorem dX12_tour_101 : decode cX12_tour 101 = .ok (.imul, 1) := by decide +kernel
theorem dX12_tour_102 : decode cX12_tour 102 = .ok (.iload_n 2, 1) := by decide +kernel
theorem dX12_tour_103 : decode cX12_tour 103 = .ok (.iadd, 1) := by decide +kernel
theorem dX12_tour_104 : decode cX12_tour 104 = .ok (.iaload, 1) := by decide +kernel
theorem dX12_tour_105 : decode cX12_tour 105 = .ok (.ldc 103, 2) := by decide +kernel
theorem dX12_tour_107 : decode cX12_tour 107 = .ok (.if_icmp .lt 8, 3) := by decide +kernel
theorem dX12_tour_110 : decode cX12_tour 110 = .ok (.bipush (-9), 2) := by decide +kernel
theorem dX12_tour_112 : decode cX12_tour 112 = .ok (.goto 14, 3) := by decide +kernel
theorem dX12_tour_115 : decode cX12_tour 115 = .ok (.aload_n 0, 1) := by decide +kernel
theorem dX12_tour_116 : decode cX12_tour 116 = .ok (.getfield 57, 3) := by decide +kernel
theorem dX12_tour_119 : decode cX12_tour 119 = .ok (.bipush 64, 2) := by decide +kernel
theorem dX12_tour_121 : decode cX12_tour 121 = .ok (.iload_n 1, 1) := by decide +kernel
theorem dX12_tour_122 : decode cX12_tour 122 = .ok (.imul, 1) := by decide +kernel
theorem dX12_tour_123 : decode cX12_tour 123 = .ok (.iload_n 2, 1) := by decide +kernel
theorem dX12_tour_124 : decode cX12_tour 124 = .ok (.iadd, 1) := by decide +kernel
theorem dX12_tour_125 : decode cX12_tour 125 = .ok (.iaload, 1) := by decide +kernel
theorem dX12_tour_126 : decode cX12_tour 126 = .ok (.ireturn, 1) := by decide +kernel
theorem dX12_findPlan_0 : decode cX12_findPlan 0 = .ok (.aload_n 0, 1) := by decide +kernel
theorem dX12_findPlan_1 : decode cX12_findPlan 1 = .ok (.bipush (-9), 2) := by decide +kernel
theorem dX12_findPlan_3 : decode cX12_findPlan 3 = .ok (.putfield 223, 3) := by decide +kernel
theorem dX12_findPlan_6 : decode cX12_findPlan 6 = .ok (.iconst 0, 1) := by decide +kernel
theorem dX12_findPlan_7 : decode cX12_findPlan 7 = .ok (.istore_n 3, 1) := by decide +kernel
theorem dX12_findPlan_8 : decode cX12_findPlan 8 = .ok (.iload_n 3, 1) := by decide +kernel
theorem dX12_findPlan_9 : decode cX12_findPlan 9 = .ok (.iconst 1, 1) := by decide +kernel
theorem dX12_findPlan_10 : decode cX12_findPlan 10 = .ok (.aload_n 0, 1) := by decide +kernel
theorem dX12_findPlan_11 : decode cX12_findPlan 11 = .ok (.getfield 111, 3) := by decide +kernel
theorem dX12_findPlan_14 : decode cX12_findPlan 14 = .ok (.ishl, 1) := by decide +kernel
theorem dX12_findPlan_15 : decode cX12_findPlan 15 = .ok (.if_icmp .ge 137, 3) := by decide +kernel
theorem dX12_findPlan_18 : decode cX12_findPlan 18 = .ok (.iconst 0, 1) := by decide +kernel
theorem dX12_findPlan_19 : decode cX12_findPlan 19 = .ok (.istore 4, 2) := by decide +kernel
theorem dX12_findPlan_21 : decode cX12_findPlan 21 = .ok (.iload 4, 2) := by decide +kernel
theorem dX12_findPlan_23 : decode cX12_findPlan 23 = .ok (.iconst 1, 1) := by decide +kernel
theorem dX12_findPlan_24 : decode cX12_findPlan 24 = .ok (.aload_n 0, 1) := by decide +kernel
theorem dX12_findPlan_25 : decode cX12_findPlan 25 = .ok (.getfield 111, 3) := by decide +kernel
theorem dX12_findPlan_28 : decode cX12_findPlan 28 = .ok (.ishl, 1) := by decide +kernel
theorem dX12_findPlan_29 : decode cX12_findPlan 29 = .ok (.if_icmp .ge 117, 3) := by decide +kernel
theorem dX12_findPlan_32 : decode cX12_findPlan 32 = .ok (.aload_n 0, 1) := by decide +kernel
theorem dX12_findPlan_33 : decode cX12_findPlan 33 = .ok (.getfield 57, 3) := by decide +kernel
theorem dX12_findPlan_36 : decode cX12_findPlan 36 = .ok (.iload_n 3, 1) := by decide +kernel
theorem dX12_findPlan_37 : decode cX12_findPlan 37 = .ok (.iaload, 1) := by decide +kernel
theorem dX12_findPlan_38 : decode cX12_findPlan 38 = .ok (.aload_n 0, 1) := by decide +kernel
theorem dX12_findPlan_39 : decode cX12_findPlan 39 = .ok (.getfield 57, 3) := by decide +kernel
theorem dX12_findPlan_42 : decode cX12_findPlan 42 = .ok (.bipush 64, 2) := by decide +kernel
theorem dX12_findPlan_44 : decode cX12_findPlan 44 = .ok (.iload 4, 2) := by decide +kernel
theorem dX12_findPlan_46 : decode cX12_findPlan 46 = .ok (.iadd, 1) := by decide +kernel
theorem dX12_findPlan_47 : decode cX12_findPlan 47 = .ok (.iaload, 1) := by decide +kernel
theorem dX12_findPlan_48 : decode cX12_findPlan 48 = .ok (.iadd, 1) := by decide +kernel
theorem dX12_findPlan_49 : decode cX12_findPlan 49 = .ok (.istore 5, 2) := by decide +kernel
theorem dX12_findPlan_51 : decode cX12_findPlan 51 = .ok (.iload_n 3, 1) := by decide +kernel
theorem dX12_findPlan_52 : decode cX12_findPlan 52 = .ok (.iload 4, 2) := by decide +kernel
theorem dX12_findPlan_54 : decode cX12_findPlan 54 = .ok (.iand, 1) := by decide +kernel
theorem dX12_findPlan_55 : decode cX12_findPlan 55 = .ok (.ifCond .ne 85, 3) := by decide +kernel
theorem dX12_findPlan_58 : decode cX12_findPlan 58 = .ok (.iload_n 3, 1) := by decide +kernel
theorem dX12_findPlan_59 : decode cX12_findPlan 59 = .ok (.iload 4, 2) := by decide +kernel
theorem dX12_findPlan_61 : decode cX12_findPlan 61 = .ok (.ior, 1) := by decide +kernel
theorem dX12_findPlan_62 : decode cX12_findPlan 62 = .ok (.iload_n 1, 1) := by decide +kernel
theorem dX12_findPlan_63 : decode cX12_findPlan 63 = .ok (.iand, 1) := by decide +kernel
theorem dX12_findPlan_64 : decode cX12_findPlan 64 = .ok (.ifCond .ne 76, 3) := by decide +kernel
theorem dX12_findPlan_67 : decode cX12_findPlan 67 = .ok (.iload 5, 2) := by decide +kernel
theorem dX12_findPlan_69 : decode cX12_findPlan 69 = .ok (.ldc 103, 2) := by decide +kernel
theorem dX12_findPlan_71 : decode cX12_findPlan 71 = .ok (.if_icmp .ge 69, 3) := by decide +kernel
theorem dX12_findPlan_74 : decode cX12_findPlan 74 = .ok (.iload 5, 2) := by decide +kernel
theorem dX12_findPlan_76 : decode cX12_findPlan 76 = .ok (.iload_n 2, 1) := by decide +kernel
theorem dX12_findPlan_77 : decode cX12_findPlan 77 = .ok (.if_icmp .gt 63, 3) := by decide +kernel
theorem dX12_findPlan_80 : decode cX12_findPlan 80 = .ok (.aload_n 0, 1) := by decide +kernel
theorem dX12_findPlan_81 : decode cX12_findPlan 81 = .ok (.iload_n 3, 1) := by decide +kernel
theorem dX12_findPlan_82 : decode cX12_findPlan 82 = .ok (.iload 4, 2) := by decide +kernel
theorem dX12_findPlan_84 : decode cX12_findPlan 84 = .ok (.ior, 1) := by decide +kernel
theorem dX12_findPlan_85 : decode cX12_findPlan 85 = .ok (.invokevirtual 188, 3) := by decide +kernel
theorem dX12_findPlan_88 : decode cX12_findPlan 88 = .ok (.istore 6, 2) := by decide +kernel
theorem dX12_findPlan_90 : decode cX12_findPlan 90 = .ok (.iload 6, 2) := by decide +kernel
theorem dX12_findPlan_92 : decode cX12_findPlan 92 = .ok (.aload_n 0, 1) := by decide +kernel
theorem dX12_findPlan_93 : decode cX12_findPlan 93 = .ok (.getfield 223, 3) := by decide +kernel
theorem dX12_findPlan_96 : decode cX12_findPlan 96 = .ok (.if_icmp .gt 21, 3) := by decide +kernel
theorem dX12_findPlan_99 : decode cX12_findPlan 99 = .ok (.iload 6, 2) := by decide +kernel
theorem dX12_findPlan_101 : decode cX12_findPlan 101 = .ok (.aload_n 0, 1) := by decide +kernel
theorem dX12_findPlan_102 : decode cX12_findPlan 102 = .ok (.getfield 223, 3) := by decide +kernel
theorem dX12_findPlan_105 : decode cX12_findPlan 105 = .ok (.if_icmp .ne 35, 3) := by decide +kernel
theorem dX12_findPlan_108 : decode cX12_findPlan 108 = .ok (.iload 5, 2) := by decide +kernel
theorem dX12_findPlan_110 : decode cX12_findPlan 110 = .ok (.aload_n 0, 1) := by decide +kernel
theorem dX12_findPlan_111 : decode cX12_findPlan 111 = .ok (.getfield 226, 3) := by decide +kernel
theorem dX12_findPlan_114 : decode cX12_findPlan 114 = .ok (.if_icmp .ge 26, 3) := by decide +kernel
theorem dX12_findPlan_117 : decode cX12_findPlan 117 = .ok (.aload_n 0, 1) := by decide +kernel
theorem dX12_findPlan_118 : decode cX12_findPlan 118 = .ok (.iload 6, 2) := by decide +kernel
theorem dX12_findPlan_120 : decode cX12_findPlan 120 = .ok (.putfield 223, 3) := by decide +kernel
theorem dX12_findPlan_123 : decode cX12_findPlan 123 = .ok (.aload_n 0, 1) := by decide +kernel
theorem dX12_findPlan_124 : decode cX12_findPlan 124 = .ok (.iload 5, 2) := by decide +kernel
theorem dX12_findPlan_126 : decode cX12_findPlan 126 = .ok (.putfield 226, 3) := by decide +kernel
theorem dX12_findPlan_129 : decode cX12_findPlan 129 = .ok (.aload_n 0, 1) := by decide +kernel
theorem dX12_findPlan_130 : decode cX12_findPlan 130 = .ok (.iload_n 3, 1) := by decide +kernel
theorem dX12_findPlan_131 : decode cX12_findPlan 131 = .ok (.putfield 229, 3) := by decide +kernel
theorem dX12_findPlan_134 : decode cX12_findPlan 134 = .ok (.aload_n 0, 1) := by decide +kernel
theorem dX12_findPlan_135 : decode cX12_findPlan 135 = .ok (.iload 4, 2) := by decide +kernel
theorem dX12_findPlan_137 : decode cX12_findPlan 137 = .ok (.putfield 232, 3) := by decide +kernel
theorem dX12_findPlan_140 : decode cX12_findPlan 140 = .ok (.iinc 4 1, 3) := by decide +kernel
theorem dX12_findPlan_143 : decode cX12_findPlan 143 = .ok (.goto (-122), 3) := by decide +kernel
theorem dX12_findPlan_146 : decode cX12_findPlan 146 = .ok (.iinc 3 1, 3) := by decide +kernel
theorem dX12_findPlan_149 : decode cX12_findPlan 149 = .ok (.goto (-141), 3) := by decide +kernel
theorem dX12_findPlan_152 : decode cX12_findPlan 152 = .ok (.return_, 1) := by decide +kernel
theorem dX12_plan_0 : decode cX12_plan 0 = .ok (.aload_n 0, 1) := by decide +kernel
theorem dX12_plan_1 : decode cX12_plan 1 = .ok (.iconst 0, 1) := by decide +kernel
theorem dX12_plan_2 : decode cX12_plan 2 = .ok (.putfield 104, 3) := by decide +kernel
theorem dX12_plan_5 : decode cX12_plan 5 = .ok (.iload_n 1, 1) := by decide +kernel
theorem dX12_plan_6 : decode cX12_plan 6 = .ok (.i2l, 1) := by decide +kernel
theorem dX12_plan_7 : decode cX12_plan 7 = .ok (.lconst 0, 1) := by decide +kernel
theorem dX12_plan_8 : decode cX12_plan 8 = .ok (.ldc2_w 235, 3) := by decide +kernel
theorem dX12_plan_11 : decode cX12_plan 11 = .ok (.invokestatic 107, 3) := by decide +kernel
theorem dX12_plan_14 : decode cX12_plan 14 = .ok (.ifCond .ne 6, 3) := by decide +kernel
theorem dX12_plan_17 : decode cX12_plan 17 = .ok (.bipush (-2), 2) := by decide +kernel
theorem dX12_plan_19 : decode cX12_plan 19 = .ok (.ireturn, 1) := by decide +kernel
theorem dX12_plan_20 : decode cX12_plan 20 = .ok (.aload_n 0, 1) := by decide +kernel
theorem dX12_plan_21 : decode cX12_plan 21 = .ok (.iconst 0, 1) := by decide +kernel
theorem dX12_plan_22 : decode cX12_plan 22 = .ok (.aload_n 0, 1) := by decide +kernel
theorem dX12_plan_23 : decode cX12_plan 23 = .ok (.getfield 41, 3) := by decide +kernel
theorem dX12_plan_26 : decode cX12_plan 26 = .ok (.iconst 0, 1) := by decide +kernel
theorem dX12_plan_27 : decode cX12_plan 27 = .ok (.iaload, 1) := by decide +kernel
theorem dX12_plan_28 : decode cX12_plan 28 = .ok (.iconst 0, 1) := by decide +kernel
theorem dX12_plan_29 : decode cX12_plan 29 = .ok (.invokevirtual 219, 3) := by decide +kernel
theorem dX12_plan_32 : decode cX12_plan 32 = .ok (.aload_n 0, 1) := by decide +kernel
theorem dX12_plan_33 : decode cX12_plan 33 = .ok (.iconst 1, 1) := by decide +kernel
theorem dX12_plan_34 : decode cX12_plan 34 = .ok (.aload_n 0, 1) := by decide +kernel
theorem dX12_plan_35 : decode cX12_plan 35 = .ok (.getfield 41, 3) := by decide +kernel
theorem dX12_plan_38 : decode cX12_plan 38 = .ok (.iconst 1, 1) := by decide +kernel
theorem dX12_plan_39 : decode cX12_plan 39 = .ok (.iaload, 1) := by decide +kernel
theorem dX12_plan_40 : decode cX12_plan 40 = .ok (.iconst 0, 1) := by decide +kernel
theorem dX12_plan_41 : decode cX12_plan 41 = .ok (.invokevirtual 219, 3) := by decide +kernel
theorem dX12_plan_44 : decode cX12_plan 44 = .ok (.aload_n 0, 1) := by decide +kernel
theorem dX12_plan_45 : decode cX12_plan 45 = .ok (.aload_n 0, 1) := by decide +kernel
theorem dX12_plan_46 : decode cX12_plan 46 = .ok (.getfield 168, 3) := by decide +kernel
theorem dX12_plan_49 : decode cX12_plan 49 = .ok (.aload_n 0, 1) := by decide +kernel
theorem dX12_plan_50 : decode cX12_plan 50 = .ok (.getfield 165, 3) := by decide +kernel
theorem dX12_plan_53 : decode cX12_plan 53 = .ok (.invokevirtual 237, 3) := by decide +kernel
theorem dX12_plan_56 : decode cX12_plan 56 = .ok (.aload_n 0, 1) := by decide +kernel
theorem dX12_plan_57 : decode cX12_plan 57 = .ok (.getfield 223, 3) := by decide +kernel
theorem dX12_plan_60 : decode cX12_plan 60 = .ok (.bipush (-9), 2) := by decide +kernel
theorem dX12_plan_62 : decode cX12_plan 62 = .ok (.if_icmp .ne 6, 3) := by decide +kernel
theorem dX12_plan_65 : decode cX12_plan 65 = .ok (.bipush (-9), 2) := by decide +kernel
theorem dX12_plan_67 : decode cX12_plan 67 = .ok (.ireturn, 1) := by decide +kernel
theorem dX12_plan_68 : decode cX12_plan 68 = .ok (.iload_n 1, 1) := by decide +kernel
theorem dX12_plan_69 : decode cX12_plan 69 = .ok (.ifCond .ne 10, 3) := by decide +kernel
theorem dX12_plan_72 : decode cX12_plan 72 = .ok (.aload_n 0, 1) := by decide +kernel
theorem dX12_plan_73 : decode cX12_plan 73 = .ok (.getfield 223, 3) := by decide +kernel
theorem dX12_plan_76 : decode cX12_plan 76 = .ok (.goto 31, 3) := by decide +kernel
theorem dX12_plan_79 : decode cX12_plan 79 = .ok (.iload_n 1, 1) := by decide +kernel
theorem dX12_plan_80 : decode cX12_plan 80 = .ok (.iconst 1, 1) := by decide +kernel
theorem dX12_plan_81 : decode cX12_plan 81 = .ok (.if_icmp .ne 10, 3) := by decide +kernel
theorem dX12_plan_84 : decode cX12_plan 84 = .ok (.aload_n 0, 1) := by decide +kernel
theorem dX12_plan_85 : decode cX12_plan 85 = .ok (.getfield 226, 3) := by decide +kernel
theorem dX12_plan_88 : decode cX12_plan 88 = .ok (.goto 19, 3) := by decide +kernel
theorem dX12_plan_91 : decode cX12_plan 91 = .ok (.iload_n 1, 1) := by decide +kernel
theorem dX12_plan_92 : decode cX12_plan 92 = .ok (.iconst 2, 1) := by decide +kernel
theorem dX12_plan_93 : decode cX12_plan 93 = .ok (.if_icmp .ne 10, 3) := by decide +kernel
theorem dX12_plan_96 : decode cX12_plan 96 = .ok (.aload_n 0, 1) := by decide +kernel
theorem dX12_plan_97 : decode cX12_plan 97 = .ok (.getfield 229, 3) := by decide +kernel
theorem dX12_plan_100 : decode cX12_plan 100 = .ok (.goto 7, 3) := by decide +kernel
theorem dX12_plan_103 : decode cX12_plan 103 = .ok (.aload_n 0, 1) := by decide +kernel
theorem dX12_plan_104 : decode cX12_plan 104 = .ok (.getfield 232, 3) := by decide +kernel
theorem dX12_plan_107 : decode cX12_plan 107 = .ok (.ireturn, 1) := by decide +kernel
theorem dX12_live_0 : decode cX12_live 0 = .ok (.aload_n 0, 1) := by decide +kernel
theorem dX12_live_1 : decode cX12_live 1 = .ok (.iconst 0, 1) := by decide +kernel
theorem dX12_live_2 : decode cX12_live 2 = .ok (.putfield 104, 3) := by decide +kernel
theorem dX12_live_5 : decode cX12_live 5 = .ok (.iconst 0, 1) := by decide +kernel
theorem dX12_live_6 : decode cX12_live 6 = .ok (.istore_n 1, 1) := by decide +kernel
theorem dX12_live_7 : decode cX12_live 7 = .ok (.bipush (-9), 2) := by decide +kernel
theorem dX12_live_9 : decode cX12_live 9 = .ok (.istore_n 2, 1) := by decide +kernel
theorem dX12_live_10 : decode cX12_live 10 = .ok (.iconst 0, 1) := by decide +kernel
theorem dX12_live_11 : decode cX12_live 11 = .ok (.istore_n 3, 1) := by decide +kernel
theorem dX12_live_12 : decode cX12_live 12 = .ok (.iload_n 3, 1) := by decide +kernel
theorem dX12_live_13 : decode cX12_live 13 = .ok (.aload_n 0, 1) := by decide +kernel
theorem dX12_live_14 : decode cX12_live 14 = .ok (.getfield 13, 3) := by decide +kernel
theorem dX12_live_17 : decode cX12_live 17 = .ok (.if_icmp .ge 63, 3) := by decide +kernel
theorem dX12_live_20 : decode cX12_live 20 = .ok (.aload_n 0, 1) := by decide +kernel
theorem dX12_live_21 : decode cX12_live 21 = .ok (.iconst 0, 1) := by decide +kernel
theorem dX12_live_22 : decode cX12_live 22 = .ok (.iload_n 3, 1) := by decide +kernel
theorem dX12_live_23 : decode cX12_live 23 = .ok (.iload_n 3, 1) := by decide +kernel
theorem dX12_live_24 : decode cX12_live 24 = .ok (.invokevirtual 219, 3) := by decide +kernel
theorem dX12_live_27 : decode cX12_live 27 = .ok (.aload_n 0, 1) := by decide +kernel
theorem dX12_live_28 : decode cX12_live 28 = .ok (.iconst 1, 1) := by decide +kernel
theorem dX12_live_29 : decode cX12_live 29 = .ok (.iload_n 3, 1) := by decide +kernel
theorem dX12_live_30 : decode cX12_live 30 = .ok (.iload_n 3, 1) := by decide +kernel
theorem dX12_live_31 : decode cX12_live 31 = .ok (.invokevirtual 219, 3) := by decide +kernel
theorem dX12_live_34 : decode cX12_live 34 = .ok (.aload_n 0, 1) := by decide +kernel
theorem dX12_live_35 : decode cX12_live 35 = .ok (.iconst 0, 1) := by decide +kernel
theorem dX12_live_36 : decode cX12_live 36 = .ok (.aload_n 0, 1) := by decide +kernel
theorem dX12_live_37 : decode cX12_live 37 = .ok (.getfield 159, 3) := by decide +kernel
theorem dX12_live_40 : decode cX12_live 40 = .ok (.invokevirtual 237, 3) := by decide +kernel
theorem dX12_live_43 : decode cX12_live 43 = .ok (.aload_n 0, 1) := by decide +kernel
theorem dX12_live_44 : decode cX12_live 44 = .ok (.getfield 223, 3) := by decide +kernel
theorem dX12_live_47 : decode cX12_live 47 = .ok (.iload_n 2, 1) := by decide +kernel
theorem dX12_live_48 : decode cX12_live 48 = .ok (.if_icmp .le 7, 3) := by decide +kernel
theorem dX12_live_51 : decode cX12_live 51 = .ok (.iload_n 3, 1) := by decide +kernel
theorem dX12_live_52 : decode cX12_live 52 = .ok (.goto 4, 3) := by decide +kernel
theorem dX12_live_55 : decode cX12_live 55 = .ok (.iload_n 1, 1) := by decide +kernel
theorem dX12_live_56 : decode cX12_live 56 = .ok (.istore_n 1, 1) := by decide +kernel
theorem dX12_live_57 : decode cX12_live 57 = .ok (.aload_n 0, 1) := by decide +kernel
theorem dX12_live_58 : decode cX12_live 58 = .ok (.getfield 223, 3) := by decide +kernel
theorem dX12_live_61 : decode cX12_live 61 = .ok (.iload_n 2, 1) := by decide +kernel
theorem dX12_live_62 : decode cX12_live 62 = .ok (.if_icmp .le 10, 3) := by decide +kernel
theorem dX12_live_65 : decode cX12_live 65 = .ok (.aload_n 0, 1) := by decide +kernel
theorem dX12_live_66 : decode cX12_live 66 = .ok (.getfield 223, 3) := by decide +kernel
theorem dX12_live_69 : decode cX12_live 69 = .ok (.goto 4, 3) := by decide +kernel
theorem dX12_live_72 : decode cX12_live 72 = .ok (.iload_n 2, 1) := by decide +kernel
theorem dX12_live_73 : decode cX12_live 73 = .ok (.istore_n 2, 1) := by decide +kernel
theorem dX12_live_74 : decode cX12_live 74 = .ok (.iinc 3 1, 3) := by decide +kernel
theorem dX12_live_77 : decode cX12_live 77 = .ok (.goto (-65), 3) := by decide +kernel
theorem dX12_live_80 : decode cX12_live 80 = .ok (.iload_n 1, 1) := by decide +kernel
theorem dX12_live_81 : decode cX12_live 81 = .ok (.ireturn, 1) := by decide +kernel
theorem dX12_canBoth_0 : decode cX12_canBoth 0 = .ok (.aload_n 0, 1) := by decide +kernel
theorem dX12_canBoth_1 : decode cX12_canBoth 1 = .ok (.getfield 17, 3) := by decide +kernel
theorem dX12_canBoth_4 : decode cX12_canBoth 4 = .ok (.bipush 6, 2) := by decide +kernel
theorem dX12_canBoth_6 : decode cX12_canBoth 6 = .ok (.aload_n 0, 1) := by decide +kernel
theorem dX12_canBoth_7 : decode cX12_canBoth 7 = .ok (.getfield 63, 3) := by decide +kernel
theorem dX12_canBoth_10 : decode cX12_canBoth 10 = .ok (.iload_n 1, 1) := by decide +kernel
theorem dX12_canBoth_11 : decode cX12_canBoth 11 = .ok (.iaload, 1) := by decide +kernel
theorem dX12_canBoth_12 : decode cX12_canBoth 12 = .ok (.imul, 1) := by decide +kernel
theorem dX12_canBoth_13 : decode cX12_canBoth 13 = .ok (.iaload, 1) := by decide +kernel
theorem dX12_canBoth_14 : decode cX12_canBoth 14 = .ok (.istore_n 2, 1) := by decide +kernel
theorem dX12_canBoth_15 : decode cX12_canBoth 15 = .ok (.aload_n 0, 1) := by decide +kernel
theorem dX12_canBoth_16 : decode cX12_canBoth 16 = .ok (.getfield 17, 3) := by decide +kernel
theorem dX12_canBoth_19 : decode cX12_canBoth 19 = .ok (.bipush 6, 2) := by decide +kernel
theorem dX12_canBoth_21 : decode cX12_canBoth 21 = .ok (.aload_n 0, 1) := by decide +kernel
theorem dX12_canBoth_22 : decode cX12_canBoth 22 = .ok (.getfield 66, 3) := by decide +kernel
theorem dX12_canBoth_25 : decode cX12_canBoth 25 = .ok (.iload_n 1, 1) := by decide +kernel
theorem dX12_canBoth_26 : decode cX12_canBoth 26 = .ok (.iaload, 1) := by decide +kernel
theorem dX12_canBoth_27 : decode cX12_canBoth 27 = .ok (.imul, 1) := by decide +kernel
theorem dX12_canBoth_28 : decode cX12_canBoth 28 = .ok (.iaload, 1) := by decide +kernel
theorem dX12_canBoth_29 : decode cX12_canBoth 29 = .ok (.istore_n 3, 1) := by decide +kernel
theorem dX12_canBoth_30 : decode cX12_canBoth 30 = .ok (.iload_n 2, 1) := by decide +kernel
theorem dX12_canBoth_31 : decode cX12_canBoth 31 = .ok (.ldc 103, 2) := by decide +kernel
theorem dX12_canBoth_33 : decode cX12_canBoth 33 = .ok (.if_icmp .ge 25, 3) := by decide +kernel
theorem dX12_canBoth_36 : decode cX12_canBoth 36 = .ok (.iload_n 3, 1) := by decide +kernel
theorem dX12_canBoth_37 : decode cX12_canBoth 37 = .ok (.ldc 103, 2) := by decide +kernel
theorem dX12_canBoth_39 : decode cX12_canBoth 39 = .ok (.if_icmp .ge 19, 3) := by decide +kernel
theorem dX12_canBoth_42 : decode cX12_canBoth 42 = .ok (.iload_n 2, 1) := by decide +kernel
theorem dX12_canBoth_43 : decode cX12_canBoth 43 = .ok (.iload_n 3, 1) := by decide +kernel
theorem dX12_canBoth_44 : decode cX12_canBoth 44 = .ok (.iadd, 1) := by decide +kernel
theorem dX12_canBoth_45 : decode cX12_canBoth 45 = .ok (.aload_n 0, 1) := by decide +kernel
theorem dX12_canBoth_46 : decode cX12_canBoth 46 = .ok (.getfield 69, 3) := by decide +kernel
theorem dX12_canBoth_49 : decode cX12_canBoth 49 = .ok (.iload_n 1, 1) := by decide +kernel
theorem dX12_canBoth_50 : decode cX12_canBoth 50 = .ok (.iaload, 1) := by decide +kernel
theorem dX12_canBoth_51 : decode cX12_canBoth 51 = .ok (.if_icmp .gt 7, 3) := by decide +kernel
theorem dX12_canBoth_54 : decode cX12_canBoth 54 = .ok (.iconst 1, 1) := by decide +kernel
theorem dX12_canBoth_55 : decode cX12_canBoth 55 = .ok (.goto 4, 3) := by decide +kernel
theorem dX12_canBoth_58 : decode cX12_canBoth 58 = .ok (.iconst 0, 1) := by decide +kernel
theorem dX12_canBoth_59 : decode cX12_canBoth 59 = .ok (.ireturn, 1) := by decide +kernel
theorem dX12_choose_0 : decode cX12_choose 0 = .ok (.aload_n 0, 1) := by decide +kernel
theorem dX12_choose_1 : decode cX12_choose 1 = .ok (.getfield 78, 3) := by decide +kernel
theorem dX12_choose_4 : decode cX12_choose 4 = .ok (.iload_n 1, 1) := by decide +kernel
theorem dX12_choose_5 : decode cX12_choose 5 = .ok (.iaload, 1) := by decide +kernel
theorem dX12_choose_6 : decode cX12_choose 6 = .ok (.istore_n 3, 1) := by decide +kernel
theorem dX12_choose_7 : decode cX12_choose 7 = .ok (.iload_n 3, 1) := by decide +kernel
theorem dX12_choose_8 : decode cX12_choose 8 = .ok (.ifCond .ne 12, 3) := by decide +kernel
theorem dX12_choose_11 : decode cX12_choose 11 = .ok (.aload_n 0, 1) := by decide +kernel
theorem dX12_choose_12 : decode cX12_choose 12 = .ok (.getfield 63, 3) := by decide +kernel
theorem dX12_choose_15 : decode cX12_choose 15 = .ok (.iload_n 1, 1) := by decide +kernel
theorem dX12_choose_16 : decode cX12_choose 16 = .ok (.iaload, 1) := by decide +kernel
theorem dX12_choose_17 : decode cX12_choose 17 = .ok (.goto 9, 3) := by decide +kernel
theorem dX12_choose_20 : decode cX12_choose 20 = .ok (.aload_n 0, 1) := by decide +kernel
theorem dX12_choose_21 : decode cX12_choose 21 = .ok (.getfield 66, 3) := by decide +kernel
theorem dX12_choose_24 : decode cX12_choose 24 = .ok (.iload_n 1, 1) := by decide +kernel
theorem dX12_choose_25 : decode cX12_choose 25 = .ok (.iaload, 1) := by decide +kernel
theorem dX12_choose_26 : decode cX12_choose 26 = .ok (.istore 4, 2) := by decide +kernel
theorem dX12_choose_28 : decode cX12_choose 28 = .ok (.iload_n 2, 1) := by decide +kernel
theorem dX12_choose_29 : decode cX12_choose 29 = .ok (.iconst 1, 1) := by decide +kernel
theorem dX12_choose_30 : decode cX12_choose 30 = .ok (.isub, 1) := by decide +kernel
theorem dX12_choose_31 : decode cX12_choose 31 = .ok (.istore 5, 2) := by decide +kernel
theorem dX12_choose_33 : decode cX12_choose 33 = .ok (.iload_n 2, 1) := by decide +kernel
theorem dX12_choose_34 : decode cX12_choose 34 = .ok (.ifCond .le 52, 3) := by decide +kernel
theorem dX12_choose_37 : decode cX12_choose 37 = .ok (.aload_n 0, 1) := by decide +kernel
theorem dX12_choose_38 : decode cX12_choose 38 = .ok (.getfield 72, 3) := by decide +kernel
theorem dX12_choose_41 : decode cX12_choose 41 = .ok (.iload_n 1, 1) := by decide +kernel
theorem dX12_choose_42 : decode cX12_choose 42 = .ok (.iaload, 1) := by decide +kernel
theorem dX12_choose_43 : decode cX12_choose 43 = .ok (.iload 5, 2) := by decide +kernel
theorem dX12_choose_45 : decode cX12_choose 45 = .ok (.invokestatic 180, 3) := by decide +kernel
theorem dX12_choose_48 : decode cX12_choose 48 = .ok (.ifCond .ne 36, 3) := by decide +kernel
theorem dX12_choose_51 : decode cX12_choose 51 = .ok (.aload_n 0, 1) := by decide +kernel
theorem dX12_choose_52 : decode cX12_choose 52 = .ok (.iload_n 3, 1) := by decide +kernel
theorem dX12_choose_53 : decode cX12_choose 53 = .ok (.iload 5, 2) := by decide +kernel
theorem dX12_choose_55 : decode cX12_choose 55 = .ok (.invokevirtual 211, 3) := by decide +kernel
theorem dX12_choose_58 : decode cX12_choose 58 = .ok (.ifCond .eq 26, 3) := by decide +kernel
theorem dX12_choose_61 : decode cX12_choose 61 = .ok (.aload_n 0, 1) := by decide +kernel
theorem dX12_choose_62 : decode cX12_choose 62 = .ok (.getfield 17, 3) := by decide +kernel
theorem dX12_choose_65 : decode cX12_choose 65 = .ok (.bipush 6, 2) := by decide +kernel
theorem dX12_choose_67 : decode cX12_choose 67 = .ok (.iload 4, 2) := by decide +kernel
theorem dX12_choose_69 : decode cX12_choose 69 = .ok (.imul, 1) := by decide +kernel
theorem dX12_choose_70 : decode cX12_choose 70 = .ok (.aload_n 0, 1) := by decide +kernel
theorem dX12_choose_71 : decode cX12_choose 71 = .ok (.getfield 20, 3) := by decide +kernel
theorem dX12_choose_74 : decode cX12_choose 74 = .ok (.iload 5, 2) := by decide +kernel
theorem dX12_choose_76 : decode cX12_choose 76 = .ok (.iaload, 1) := by decide +kernel
theorem dX12_choose_77 : decode cX12_choose 77 = .ok (.iadd, 1) := by decide +kernel
theorem dX12_choose_78 : decode cX12_choose 78 = .ok (.iaload, 1) := by decide +kernel
theorem dX12_choose_79 : decode cX12_choose 79 = .ok (.ldc 103, 2) := by decide +kernel
theorem dX12_choose_81 : decode cX12_choose 81 = .ok (.if_icmp .lt 5, 3) := by decide +kernel
theorem dX12_choose_84 : decode cX12_choose 84 = .ok (.iconst 0, 1) := by decide +kernel
theorem dX12_choose_85 : decode cX12_choose 85 = .ok (.ireturn, 1) := by decide +kernel
theorem dX12_choose_86 : decode cX12_choose 86 = .ok (.iload_n 2, 1) := by decide +kernel
theorem dX12_choose_87 : decode cX12_choose 87 = .ok (.ifCond .ne 7, 3) := by decide +kernel
theorem dX12_choose_90 : decode cX12_choose 90 = .ok (.iconst 0, 1) := by decide +kernel
theorem dX12_choose_91 : decode cX12_choose 91 = .ok (.goto 10, 3) := by decide +kernel
theorem dX12_choose_94 : decode cX12_choose 94 = .ok (.aload_n 0, 1) := by decide +kernel
theorem dX12_choose_95 : decode cX12_choose 95 = .ok (.getfield 20, 3) := by decide +kernel
theorem dX12_choose_98 : decode cX12_choose 98 = .ok (.iload 5, 2) := by decide +kernel
theorem dX12_choose_100 : decode cX12_choose 100 = .ok (.iaload, 1) := by decide +kernel
theorem dX12_choose_101 : decode cX12_choose 101 = .ok (.istore 6, 2) := by decide +kernel
theorem dX12_choose_103 : decode cX12_choose 103 = .ok (.iload_n 1, 1) := by decide +kernel
theorem dX12_choose_104 : decode cX12_choose 104 = .ok (.iconst 1, 1) := by decide +kernel
theorem dX12_choose_105 : decode cX12_choose 105 = .ok (.iadd, 1) := by decide +kernel
theorem dX12_choose_106 : decode cX12_choose 106 = .ok (.istore 7, 2) := by decide +kernel
theorem dX12_choose_108 : decode cX12_choose 108 = .ok (.aload_n 0, 1) := by decide +kernel
theorem dX12_choose_109 : decode cX12_choose 109 = .ok (.getfield 63, 3) := by decide +kernel
theorem dX12_choose_112 : decode cX12_choose 112 = .ok (.iload 7, 2) := by decide +kernel
theorem dX12_choose_114 : decode cX12_choose 114 = .ok (.iload_n 3, 1) := by decide +kernel
theorem dX12_choose_115 : decode cX12_choose 115 = .ok (.ifCond .ne 8, 3) := by decide +kernel
theorem dX12_choose_118 : decode cX12_choose 118 = .ok (.iload 6, 2) := by decide +kernel
theorem dX12_choose_120 : decode cX12_choose 120 = .ok (.goto 9, 3) := by decide +kernel
theorem dX12_choose_123 : decode cX12_choose 123 = .ok (.aload_n 0, 1) := by decide +kernel
theorem dX12_choose_124 : decode cX12_choose 124 = .ok (.getfield 63, 3) := by decide +kernel
theorem dX12_choose_127 : decode cX12_choose 127 = .ok (.iload_n 1, 1) := by decide +kernel
theorem dX12_choose_128 : decode cX12_choose 128 = .ok (.iaload, 1) := by decide +kernel
theorem dX12_choose_129 : decode cX12_choose 129 = .ok (.iastore, 1) := by decide +kernel
theorem dX12_choose_130 : decode cX12_choose 130 = .ok (.aload_n 0, 1) := by decide +kernel
theorem dX12_choose_131 : decode cX12_choose 131 = .ok (.getfield 66, 3) := by decide +kernel
theorem dX12_choose_134 : decode cX12_choose 134 = .ok (.iload 7, 2) := by decide +kernel
theorem dX12_choose_136 : decode cX12_choose 136 = .ok (.iload_n 3, 1) := by decide +kernel
theorem dX12_choose_137 : decode cX12_choose 137 = .ok (.iconst 1, 1) := by decide +kernel
theorem dX12_choose_138 : decode cX12_choose 138 = .ok (.if_icmp .ne 8, 3) := by decide +kernel
theorem dX12_choose_141 : decode cX12_choose 141 = .ok (.iload 6, 2) := by decide +kernel
theorem dX12_choose_143 : decode cX12_choose 143 = .ok (.goto 9, 3) := by decide +kernel
theorem dX12_choose_146 : decode cX12_choose 146 = .ok (.aload_n 0, 1) := by decide +kernel
theorem dX12_choose_147 : decode cX12_choose 147 = .ok (.getfield 66, 3) := by decide +kernel
theorem dX12_choose_150 : decode cX12_choose 150 = .ok (.iload_n 1, 1) := by decide +kernel
theorem dX12_choose_151 : decode cX12_choose 151 = .ok (.iaload, 1) := by decide +kernel
theorem dX12_choose_152 : decode cX12_choose 152 = .ok (.iastore, 1) := by decide +kernel
theorem dX12_choose_153 : decode cX12_choose 153 = .ok (.aload_n 0, 1) := by decide +kernel
theorem dX12_choose_154 : decode cX12_choose 154 = .ok (.getfield 69, 3) := by decide +kernel
theorem dX12_choose_157 : decode cX12_choose 157 = .ok (.iload 7, 2) := by decide +kernel
theorem dX12_choose_159 : decode cX12_choose 159 = .ok (.aload_n 0, 1) := by decide +kernel
theorem dX12_choose_160 : decode cX12_choose 160 = .ok (.getfield 69, 3) := by decide +kernel
theorem dX12_choose_163 : decode cX12_choose 163 = .ok (.iload_n 1, 1) := by decide +kernel
theorem dX12_choose_164 : decode cX12_choose 164 = .ok (.iaload, 1) := by decide +kernel
theorem dX12_choose_165 : decode cX12_choose 165 = .ok (.aload_n 0, 1) := by decide +kernel
theorem dX12_choose_166 : decode cX12_choose 166 = .ok (.getfield 17, 3) := by decide +kernel
theorem dX12_choose_169 : decode cX12_choose 169 = .ok (.bipush 6, 2) := by decide +kernel
theorem dX12_choose_171 : decode cX12_choose 171 = .ok (.iload 4, 2) := by decide +kernel
theorem dX12_choose_173 : decode cX12_choose 173 = .ok (.imul, 1) := by decide +kernel
theorem dX12_choose_174 : decode cX12_choose 174 = .ok (.iload 6, 2) := by decide +kernel
theorem dX12_choose_176 : decode cX12_choose 176 = .ok (.iadd, 1) := by decide +kernel
theorem dX12_choose_177 : decode cX12_choose 177 = .ok (.iaload, 1) := by decide +kernel
theorem dX12_choose_178 : decode cX12_choose 178 = .ok (.isub, 1) := by decide +kernel
theorem dX12_choose_179 : decode cX12_choose 179 = .ok (.iastore, 1) := by decide +kernel
theorem dX12_choose_180 : decode cX12_choose 180 = .ok (.aload_n 0, 1) := by decide +kernel
theorem dX12_choose_181 : decode cX12_choose 181 = .ok (.getfield 72, 3) := by decide +kernel
theorem dX12_choose_184 : decode cX12_choose 184 = .ok (.iload 7, 2) := by decide +kernel
theorem dX12_choose_186 : decode cX12_choose 186 = .ok (.aload_n 0, 1) := by decide +kernel
theorem dX12_choose_187 : decode cX12_choose 187 = .ok (.getfield 72, 3) := by decide +kernel
theorem dX12_choose_190 : decode cX12_choose 190 = .ok (.iload_n 1, 1) := by decide +kernel
theorem dX12_choose_191 : decode cX12_choose 191 = .ok (.iaload, 1) := by decide +kernel
theorem dX12_choose_192 : decode cX12_choose 192 = .ok (.iload_n 2, 1) := by decide +kernel
theorem dX12_choose_193 : decode cX12_choose 193 = .ok (.ifCond .le 10, 3) := by decide +kernel
theorem dX12_choose_196 : decode cX12_choose 196 = .ok (.iconst 1, 1) := by decide +kernel
theorem dX12_choose_197 : decode cX12_choose 197 = .ok (.iload 5, 2) := by decide +kernel
theorem dX12_choose_199 : decode cX12_choose 199 = .ok (.ishl, 1) := by decide +kernel
theorem dX12_choose_200 : decode cX12_choose 200 = .ok (.goto 4, 3) := by decide +kernel
theorem dX12_choose_203 : decode cX12_choose 203 = .ok (.iconst 0, 1) := by decide +kernel
theorem dX12_choose_204 : decode cX12_choose 204 = .ok (.ior, 1) := by decide +kernel
theorem dX12_choose_205 : decode cX12_choose 205 = .ok (.iastore, 1) := by decide +kernel
theorem dX12_choose_206 : decode cX12_choose 206 = .ok (.aload_n 0, 1) := by decide +kernel
theorem dX12_choose_207 : decode cX12_choose 207 = .ok (.getfield 75, 3) := by decide +kernel
theorem dX12_choose_210 : decode cX12_choose 210 = .ok (.iload 7, 2) := by decide +kernel
theorem dX12_choose_212 : decode cX12_choose 212 = .ok (.aload_n 0, 1) := by decide +kernel
theorem dX12_choose_213 : decode cX12_choose 213 = .ok (.getfield 75, 3) := by decide +kernel
theorem dX12_choose_216 : decode cX12_choose 216 = .ok (.iload_n 1, 1) := by decide +kernel
theorem dX12_choose_217 : decode cX12_choose 217 = .ok (.iaload, 1) := by decide +kernel
theorem dX12_choose_218 : decode cX12_choose 218 = .ok (.iload_n 2, 1) := by decide +kernel
theorem dX12_choose_219 : decode cX12_choose 219 = .ok (.ifCond .ne 9, 3) := by decide +kernel
theorem dX12_choose_222 : decode cX12_choose 222 = .ok (.iconst 1, 1) := by decide +kernel
theorem dX12_choose_223 : decode cX12_choose 223 = .ok (.iload_n 3, 1) := by decide +kernel
theorem dX12_choose_224 : decode cX12_choose 224 = .ok (.ishl, 1) := by decide +kernel
theorem dX12_choose_225 : decode cX12_choose 225 = .ok (.goto 4, 3) := by decide +kernel
theorem dX12_choose_228 : decode cX12_choose 228 = .ok (.iconst 0, 1) := by decide +kernel
theorem dX12_choose_229 : decode cX12_choose 229 = .ok (.ior, 1) := by decide +kernel
theorem dX12_choose_230 : decode cX12_choose 230 = .ok (.iastore, 1) := by decide +kernel
theorem dX12_choose_231 : decode cX12_choose 231 = .ok (.aload_n 0, 1) := by decide +kernel
theorem dX12_choose_232 : decode cX12_choose 232 = .ok (.getfield 84, 3) := by decide +kernel
theorem dX12_choose_235 : decode cX12_choose 235 = .ok (.iload 7, 2) := by decide +kernel
theorem dX12_choose_237 : decode cX12_choose 237 = .ok (.aload_n 0, 1) := by decide +kernel
theorem dX12_choose_238 : decode cX12_choose 238 = .ok (.getfield 84, 3) := by decide +kernel
theorem dX12_choose_241 : decode cX12_choose 241 = .ok (.iload_n 1, 1) := by decide +kernel
theorem dX12_choose_242 : decode cX12_choose 242 = .ok (.iaload, 1) := by decide +kernel
theorem dX12_choose_243 : decode cX12_choose 243 = .ok (.iload_n 3, 1) := by decide +kernel
theorem dX12_choose_244 : decode cX12_choose 244 = .ok (.ifCond .ne 17, 3) := by decide +kernel
theorem dX12_choose_247 : decode cX12_choose 247 = .ok (.iload_n 2, 1) := by decide +kernel
theorem dX12_choose_248 : decode cX12_choose 248 = .ok (.ifCond .le 13, 3) := by decide +kernel
theorem dX12_choose_251 : decode cX12_choose 251 = .ok (.aload_n 0, 1) := by decide +kernel
theorem dX12_choose_252 : decode cX12_choose 252 = .ok (.getfield 23, 3) := by decide +kernel
theorem dX12_choose_255 : decode cX12_choose 255 = .ok (.iload 5, 2) := by decide +kernel
theorem dX12_choose_257 : decode cX12_choose 257 = .ok (.iaload, 1) := by decide +kernel
theorem dX12_choose_258 : decode cX12_choose 258 = .ok (.goto 4, 3) := by decide +kernel
theorem dX12_choose_261 : decode cX12_choose 261 = .ok (.iconst 0, 1) := by decide +kernel
theorem dX12_choose_262 : decode cX12_choose 262 = .ok (.iadd, 1) := by decide +kernel
theorem dX12_choose_263 : decode cX12_choose 263 = .ok (.iastore, 1) := by decide +kernel
theorem dX12_choose_264 : decode cX12_choose 264 = .ok (.aload_n 0, 1) := by decide +kernel
theorem dX12_choose_265 : decode cX12_choose 265 = .ok (.getfield 87, 3) := by decide +kernel
theorem dX12_choose_268 : decode cX12_choose 268 = .ok (.iload 7, 2) := by decide +kernel
theorem dX12_choose_270 : decode cX12_choose 270 = .ok (.aload_n 0, 1) := by decide +kernel
theorem dX12_choose_271 : decode cX12_choose 271 = .ok (.getfield 87, 3) := by decide +kernel
theorem dX12_choose_274 : decode cX12_choose 274 = .ok (.iload_n 1, 1) := by decide +kernel
theorem dX12_choose_275 : decode cX12_choose 275 = .ok (.iaload, 1) := by decide +kernel
theorem dX12_choose_276 : decode cX12_choose 276 = .ok (.iload_n 3, 1) := by decide +kernel
theorem dX12_choose_277 : decode cX12_choose 277 = .ok (.iconst 1, 1) := by decide +kernel
theorem dX12_choose_278 : decode cX12_choose 278 = .ok (.if_icmp .ne 17, 3) := by decide +kernel
theorem dX12_choose_281 : decode cX12_choose 281 = .ok (.iload_n 2, 1) := by decide +kernel
theorem dX12_choose_282 : decode cX12_choose 282 = .ok (.ifCond .le 13, 3) := by decide +kernel
theorem dX12_choose_285 : decode cX12_choose 285 = .ok (.aload_n 0, 1) := by decide +kernel
theorem dX12_choose_286 : decode cX12_choose 286 = .ok (.getfield 23, 3) := by decide +kernel
theorem dX12_choose_289 : decode cX12_choose 289 = .ok (.iload 5, 2) := by decide +kernel
theorem dX12_choose_291 : decode cX12_choose 291 = .ok (.iaload, 1) := by decide +kernel
theorem dX12_choose_292 : decode cX12_choose 292 = .ok (.goto 4, 3) := by decide +kernel
theorem dX12_choose_295 : decode cX12_choose 295 = .ok (.iconst 0, 1) := by decide +kernel
theorem dX12_choose_296 : decode cX12_choose 296 = .ok (.iadd, 1) := by decide +kernel
theorem dX12_choose_297 : decode cX12_choose 297 = .ok (.iastore, 1) := by decide +kernel
theorem dX12_choose_298 : decode cX12_choose 298 = .ok (.aload_n 0, 1) := by decide +kernel
theorem dX12_choose_299 : decode cX12_choose 299 = .ok (.getfield 78, 3) := by decide +kernel
theorem dX12_choose_302 : decode cX12_choose 302 = .ok (.iload 7, 2) := by decide +kernel
theorem dX12_choose_304 : decode cX12_choose 304 = .ok (.aload_n 0, 1) := by decide +kernel
theorem dX12_choose_305 : decode cX12_choose 305 = .ok (.getfield 75, 3) := by decide +kernel
theorem dX12_choose_308 : decode cX12_choose 308 = .ok (.iload 7, 2) := by decide +kernel
theorem dX12_choose_310 : decode cX12_choose 310 = .ok (.iaload, 1) := by decide +kernel
theorem dX12_choose_311 : decode cX12_choose 311 = .ok (.iconst 1, 1) := by decide +kernel
theorem dX12_choose_312 : decode cX12_choose 312 = .ok (.iload_n 3, 1) := by decide +kernel
theorem dX12_choose_313 : decode cX12_choose 313 = .ok (.isub, 1) := by decide +kernel
theorem dX12_choose_314 : decode cX12_choose 314 = .ok (.invokestatic 180, 3) := by decide +kernel
theorem dX12_choose_317 : decode cX12_choose 317 = .ok (.ifCond .eq 7, 3) := by decide +kernel
theorem dX12_choose_320 : decode cX12_choose 320 = .ok (.iload_n 3, 1) := by decide +kernel
theorem dX12_choose_321 : decode cX12_choose 321 = .ok (.goto 6, 3) := by decide +kernel
theorem dX12_choose_324 : decode cX12_choose 324 = .ok (.iconst 1, 1) := by decide +kernel
theorem dX12_choose_325 : decode cX12_choose 325 = .ok (.iload_n 3, 1) := by decide +kernel
theorem dX12_choose_326 : decode cX12_choose 326 = .ok (.isub, 1) := by decide +kernel
theorem dX12_choose_327 : decode cX12_choose 327 = .ok (.iastore, 1) := by decide +kernel
theorem dX12_choose_328 : decode cX12_choose 328 = .ok (.aload_n 0, 1) := by decide +kernel
theorem dX12_choose_329 : decode cX12_choose 329 = .ok (.getfield 81, 3) := by decide +kernel
theorem dX12_choose_332 : decode cX12_choose 332 = .ok (.iload 7, 2) := by decide +kernel
theorem dX12_choose_334 : decode cX12_choose 334 = .ok (.iconst 0, 1) := by decide +kernel
theorem dX12_choose_335 : decode cX12_choose 335 = .ok (.iastore, 1) := by decide +kernel
theorem dX12_choose_336 : decode cX12_choose 336 = .ok (.aload_n 0, 1) := by decide +kernel
theorem dX12_choose_337 : decode cX12_choose 337 = .ok (.getfield 90, 3) := by decide +kernel
theorem dX12_choose_340 : decode cX12_choose 340 = .ok (.iload 7, 2) := by decide +kernel
theorem dX12_choose_342 : decode cX12_choose 342 = .ok (.bipush (-9), 2) := by decide +kernel
theorem dX12_choose_344 : decode cX12_choose 344 = .ok (.iastore, 1) := by decide +kernel
theorem dX12_choose_345 : decode cX12_choose 345 = .ok (.aload_n 0, 1) := by decide +kernel
theorem dX12_choose_346 : decode cX12_choose 346 = .ok (.getfield 93, 3) := by decide +kernel
theorem dX12_choose_349 : decode cX12_choose 349 = .ok (.iload 7, 2) := by decide +kernel
theorem dX12_choose_351 : decode cX12_choose 351 = .ok (.bipush (-9), 2) := by decide +kernel
theorem dX12_choose_353 : decode cX12_choose 353 = .ok (.iastore, 1) := by decide +kernel
theorem dX12_choose_354 : decode cX12_choose 354 = .ok (.aload_n 0, 1) := by decide +kernel
theorem dX12_choose_355 : decode cX12_choose 355 = .ok (.iload 7, 2) := by decide +kernel
theorem dX12_choose_357 : decode cX12_choose 357 = .ok (.invokevirtual 241, 3) := by decide +kernel
theorem dX12_choose_360 : decode cX12_choose 360 = .ok (.ireturn, 1) := by decide +kernel
theorem dX12_take_0 : decode cX12_take 0 = .ok (.aload_n 0, 1) := by decide +kernel
theorem dX12_take_1 : decode cX12_take 1 = .ok (.getfield 90, 3) := by decide +kernel
theorem dX12_take_4 : decode cX12_take 4 = .ok (.iload_n 1, 1) := by decide +kernel
theorem dX12_take_5 : decode cX12_take 5 = .ok (.iaload, 1) := by decide +kernel
theorem dX12_take_6 : decode cX12_take 6 = .ok (.bipush (-9), 2) := by decide +kernel
theorem dX12_take_8 : decode cX12_take 8 = .ok (.if_icmp .eq 35, 3) := by decide +kernel
theorem dX12_take_11 : decode cX12_take 11 = .ok (.aload_n 0, 1) := by decide +kernel
theorem dX12_take_12 : decode cX12_take 12 = .ok (.getfield 78, 3) := by decide +kernel
theorem dX12_take_15 : decode cX12_take 15 = .ok (.iload_n 1, 1) := by decide +kernel
theorem dX12_take_16 : decode cX12_take 16 = .ok (.iaload, 1) := by decide +kernel
theorem dX12_take_17 : decode cX12_take 17 = .ok (.ifCond .ne 16, 3) := by decide +kernel
theorem dX12_take_20 : decode cX12_take 20 = .ok (.iload_n 2, 1) := by decide +kernel
theorem dX12_take_21 : decode cX12_take 21 = .ok (.aload_n 0, 1) := by decide +kernel
theorem dX12_take_22 : decode cX12_take 22 = .ok (.getfield 90, 3) := by decide +kernel
theorem dX12_take_25 : decode cX12_take 25 = .ok (.iload_n 1, 1) := by decide +kernel
theorem dX12_take_26 : decode cX12_take 26 = .ok (.iaload, 1) := by decide +kernel
theorem dX12_take_27 : decode cX12_take 27 = .ok (.if_icmp .le 20, 3) := by decide +kernel
theorem dX12_take_30 : decode cX12_take 30 = .ok (.goto 13, 3) := by decide +kernel
theorem dX12_take_33 : decode cX12_take 33 = .ok (.iload_n 3, 1) := by decide +kernel
theorem dX12_take_34 : decode cX12_take 34 = .ok (.aload_n 0, 1) := by decide +kernel
theorem dX12_take_35 : decode cX12_take 35 = .ok (.getfield 93, 3) := by decide +kernel
theorem dX12_take_38 : decode cX12_take 38 = .ok (.iload_n 1, 1) := by decide +kernel
theorem dX12_take_39 : decode cX12_take 39 = .ok (.iaload, 1) := by decide +kernel
theorem dX12_take_40 : decode cX12_take 40 = .ok (.if_icmp .le 7, 3) := by decide +kernel
theorem dX12_take_43 : decode cX12_take 43 = .ok (.iconst 1, 1) := by decide +kernel
theorem dX12_take_44 : decode cX12_take 44 = .ok (.goto 4, 3) := by decide +kernel
theorem dX12_take_47 : decode cX12_take 47 = .ok (.iconst 0, 1) := by decide +kernel
theorem dX12_take_48 : decode cX12_take 48 = .ok (.istore 4, 2) := by decide +kernel
theorem dX12_take_50 : decode cX12_take 50 = .ok (.iload 4, 2) := by decide +kernel
theorem dX12_take_52 : decode cX12_take 52 = .ok (.ifCond .eq 17, 3) := by decide +kernel
theorem dX12_take_55 : decode cX12_take 55 = .ok (.aload_n 0, 1) := by decide +kernel
theorem dX12_take_56 : decode cX12_take 56 = .ok (.getfield 90, 3) := by decide +kernel
theorem dX12_take_59 : decode cX12_take 59 = .ok (.iload_n 1, 1) := by decide +kernel
theorem dX12_take_60 : decode cX12_take 60 = .ok (.iload_n 2, 1) := by decide +kernel
theorem dX12_take_61 : decode cX12_take 61 = .ok (.iastore, 1) := by decide +kernel
theorem dX12_take_62 : decode cX12_take 62 = .ok (.aload_n 0, 1) := by decide +kernel
theorem dX12_take_63 : decode cX12_take 63 = .ok (.getfield 93, 3) := by decide +kernel
theorem dX12_take_66 : decode cX12_take 66 = .ok (.iload_n 1, 1) := by decide +kernel
theorem dX12_take_67 : decode cX12_take 67 = .ok (.iload_n 3, 1) := by decide +kernel
theorem dX12_take_68 : decode cX12_take 68 = .ok (.iastore, 1) := by decide +kernel
theorem dX12_take_69 : decode cX12_take 69 = .ok (.return_, 1) := by decide +kernel
theorem dX12_byTurns_0 : decode cX12_byTurns 0 = .ok (.aload_n 0, 1) := by decide +kernel
theorem dX12_byTurns_1 : decode cX12_byTurns 1 = .ok (.iconst 0, 1) := by decide +kernel
theorem dX12_byTurns_2 : decode cX12_byTurns 2 = .ok (.putfield 104, 3) := by decide +kernel
theorem dX12_byTurns_5 : decode cX12_byTurns 5 = .ok (.iload_n 1, 1) := by decide +kernel
theorem dX12_byTurns_6 : decode cX12_byTurns 6 = .ok (.invokestatic 191, 3) := by decide +kernel
theorem dX12_byTurns_9 : decode cX12_byTurns 9 = .ok (.ifCond .eq 5, 3) := by decide +kernel
theorem dX12_byTurns_12 : decode cX12_byTurns 12 = .ok (.iconst (-1), 1) := by decide +kernel
theorem dX12_byTurns_13 : decode cX12_byTurns 13 = .ok (.ireturn, 1) := by decide +kernel
theorem dX12_byTurns_14 : decode cX12_byTurns 14 = .ok (.iconst 0, 1) := by decide +kernel
theorem dX12_byTurns_15 : decode cX12_byTurns 15 = .ok (.istore_n 2, 1) := by decide +kernel
theorem dX12_byTurns_16 : decode cX12_byTurns 16 = .ok (.iconst 0, 1) := by decide +kernel
theorem dX12_byTurns_17 : decode cX12_byTurns 17 = .ok (.istore_n 3, 1) := by decide +kernel
theorem dX12_byTurns_18 : decode cX12_byTurns 18 = .ok (.iload_n 3, 1) := by decide +kernel
theorem dX12_byTurns_19 : decode cX12_byTurns 19 = .ok (.aload_n 0, 1) := by decide +kernel
theorem dX12_byTurns_20 : decode cX12_byTurns 20 = .ok (.getfield 111, 3) := by decide +kernel
theorem dX12_byTurns_23 : decode cX12_byTurns 23 = .ok (.if_icmp .ge 28, 3) := by decide +kernel
theorem dX12_byTurns_26 : decode cX12_byTurns 26 = .ok (.iload_n 2, 1) := by decide +kernel
theorem dX12_byTurns_27 : decode cX12_byTurns 27 = .ok (.aload_n 0, 1) := by decide +kernel
theorem dX12_byTurns_28 : decode cX12_byTurns 28 = .ok (.getfield 168, 3) := by decide +kernel
theorem dX12_byTurns_31 : decode cX12_byTurns 31 = .ok (.iload_n 3, 1) := by decide +kernel
theorem dX12_byTurns_32 : decode cX12_byTurns 32 = .ok (.invokestatic 180, 3) := by decide +kernel
theorem dX12_byTurns_35 : decode cX12_byTurns 35 = .ok (.ifCond .eq 7, 3) := by decide +kernel
theorem dX12_byTurns_38 : decode cX12_byTurns 38 = .ok (.iconst 0, 1) := by decide +kernel
theorem dX12_byTurns_39 : decode cX12_byTurns 39 = .ok (.goto 4, 3) := by decide +kernel
theorem dX12_byTurns_42 : decode cX12_byTurns 42 = .ok (.iconst 1, 1) := by decide +kernel
theorem dX12_byTurns_43 : decode cX12_byTurns 43 = .ok (.iadd, 1) := by decide +kernel
theorem dX12_byTurns_44 : decode cX12_byTurns 44 = .ok (.istore_n 2, 1) := by decide +kernel
theorem dX12_byTurns_45 : decode cX12_byTurns 45 = .ok (.iinc 3 1, 3) := by decide +kernel
theorem dX12_byTurns_48 : decode cX12_byTurns 48 = .ok (.goto (-30), 3) := by decide +kernel
theorem dX12_byTurns_51 : decode cX12_byTurns 51 = .ok (.iload_n 2, 1) := by decide +kernel
theorem dX12_byTurns_52 : decode cX12_byTurns 52 = .ok (.iconst 5, 1) := by decide +kernel
theorem dX12_byTurns_53 : decode cX12_byTurns 53 = .ok (.if_icmp .le 6, 3) := by decide +kernel
theorem dX12_byTurns_56 : decode cX12_byTurns 56 = .ok (.bipush (-3), 2) := by decide +kernel
theorem dX12_byTurns_58 : decode cX12_byTurns 58 = .ok (.ireturn, 1) := by decide +kernel
theorem dX12_byTurns_59 : decode cX12_byTurns 59 = .ok (.aload_n 0, 1) := by decide +kernel
theorem dX12_byTurns_60 : decode cX12_byTurns 60 = .ok (.getfield 63, 3) := by decide +kernel
theorem dX12_byTurns_63 : decode cX12_byTurns 63 = .ok (.iconst 0, 1) := by decide +kernel
theorem dX12_byTurns_64 : decode cX12_byTurns 64 = .ok (.aload_n 0, 1) := by decide +kernel
theorem dX12_byTurns_65 : decode cX12_byTurns 65 = .ok (.getfield 41, 3) := by decide +kernel
theorem dX12_byTurns_68 : decode cX12_byTurns 68 = .ok (.iconst 0, 1) := by decide +kernel
theorem dX12_byTurns_69 : decode cX12_byTurns 69 = .ok (.iaload, 1) := by decide +kernel
theorem dX12_byTurns_70 : decode cX12_byTurns 70 = .ok (.iastore, 1) := by decide +kernel
theorem dX12_byTurns_71 : decode cX12_byTurns 71 = .ok (.aload_n 0, 1) := by decide +kernel
theorem dX12_byTurns_72 : decode cX12_byTurns 72 = .ok (.getfield 66, 3) := by decide +kernel
theorem dX12_byTurns_75 : decode cX12_byTurns 75 = .ok (.iconst 0, 1) := by decide +kernel
theorem dX12_byTurns_76 : decode cX12_byTurns 76 = .ok (.aload_n 0, 1) := by decide +kernel
theorem dX12_byTurns_77 : decode cX12_byTurns 77 = .ok (.getfield 41, 3) := by decide +kernel
theorem dX12_byTurns_80 : decode cX12_byTurns 80 = .ok (.iconst 1, 1) := by decide +kernel
theorem dX12_byTurns_81 : decode cX12_byTurns 81 = .ok (.iaload, 1) := by decide +kernel
theorem dX12_byTurns_82 : decode cX12_byTurns 82 = .ok (.iastore, 1) := by decide +kernel
theorem dX12_byTurns_83 : decode cX12_byTurns 83 = .ok (.aload_n 0, 1) := by decide +kernel
theorem dX12_byTurns_84 : decode cX12_byTurns 84 = .ok (.getfield 69, 3) := by decide +kernel
theorem dX12_byTurns_87 : decode cX12_byTurns 87 = .ok (.iconst 0, 1) := by decide +kernel
end
section
theorem dX12_byTurns_88 : decode cX12_byTurns 88 = .ok (.aload_n 0, 1) := by decide +kernel
theorem dX12_byTurns_89 : decode cX12_byTurns 89 = .ok (.getfield 165, 3) := by decide +kernel
theorem dX12_byTurns_92 : decode cX12_byTurns 92 = .ok (.iastore, 1) := by decide +kernel
theorem dX12_byTurns_93 : decode cX12_byTurns 93 = .ok (.aload_n 0, 1) := by decide +kernel
theorem dX12_byTurns_94 : decode cX12_byTurns 94 = .ok (.getfield 72, 3) := by decide +kernel
theorem dX12_byTurns_97 : decode cX12_byTurns 97 = .ok (.iconst 0, 1) := by decide +kernel
theorem dX12_byTurns_98 : decode cX12_byTurns 98 = .ok (.aload_n 0, 1) := by decide +kernel
theorem dX12_byTurns_99 : decode cX12_byTurns 99 = .ok (.getfield 168, 3) := by decide +kernel
theorem dX12_byTurns_102 : decode cX12_byTurns 102 = .ok (.iastore, 1) := by decide +kernel
theorem dX12_byTurns_103 : decode cX12_byTurns 103 = .ok (.aload_n 0, 1) := by decide +kernel
theorem dX12_byTurns_104 : decode cX12_byTurns 104 = .ok (.getfield 75, 3) := by decide +kernel
theorem dX12_byTurns_107 : decode cX12_byTurns 107 = .ok (.iconst 0, 1) := by decide +kernel
theorem dX12_byTurns_108 : decode cX12_byTurns 108 = .ok (.iconst 0, 1) := by decide +kernel
theorem dX12_byTurns_109 : decode cX12_byTurns 109 = .ok (.iastore, 1) := by decide +kernel
theorem dX12_byTurns_110 : decode cX12_byTurns 110 = .ok (.aload_n 0, 1) := by decide +kernel
theorem dX12_byTurns_111 : decode cX12_byTurns 111 = .ok (.getfield 78, 3) := by decide +kernel
theorem dX12_byTurns_114 : decode cX12_byTurns 114 = .ok (.iconst 0, 1) := by decide +kernel
theorem dX12_byTurns_115 : decode cX12_byTurns 115 = .ok (.iconst 0, 1) := by decide +kernel
theorem dX12_byTurns_116 : decode cX12_byTurns 116 = .ok (.iastore, 1) := by decide +kernel
theorem dX12_byTurns_117 : decode cX12_byTurns 117 = .ok (.aload_n 0, 1) := by decide +kernel
theorem dX12_byTurns_118 : decode cX12_byTurns 118 = .ok (.getfield 81, 3) := by decide +kernel
theorem dX12_byTurns_121 : decode cX12_byTurns 121 = .ok (.iconst 0, 1) := by decide +kernel
theorem dX12_byTurns_122 : decode cX12_byTurns 122 = .ok (.iconst 0, 1) := by decide +kernel
theorem dX12_byTurns_123 : decode cX12_byTurns 123 = .ok (.iastore, 1) := by decide +kernel
theorem dX12_byTurns_124 : decode cX12_byTurns 124 = .ok (.aload_n 0, 1) := by decide +kernel
theorem dX12_byTurns_125 : decode cX12_byTurns 125 = .ok (.getfield 84, 3) := by decide +kernel
theorem dX12_byTurns_128 : decode cX12_byTurns 128 = .ok (.iconst 0, 1) := by decide +kernel
theorem dX12_byTurns_129 : decode cX12_byTurns 129 = .ok (.iconst 0, 1) := by decide +kernel
theorem dX12_byTurns_130 : decode cX12_byTurns 130 = .ok (.iastore, 1) := by decide +kernel
theorem dX12_byTurns_131 : decode cX12_byTurns 131 = .ok (.aload_n 0, 1) := by decide +kernel
theorem dX12_byTurns_132 : decode cX12_byTurns 132 = .ok (.getfield 87, 3) := by decide +kernel
theorem dX12_byTurns_135 : decode cX12_byTurns 135 = .ok (.iconst 0, 1) := by decide +kernel
theorem dX12_byTurns_136 : decode cX12_byTurns 136 = .ok (.iconst 0, 1) := by decide +kernel
theorem dX12_byTurns_137 : decode cX12_byTurns 137 = .ok (.iastore, 1) := by decide +kernel
theorem dX12_byTurns_138 : decode cX12_byTurns 138 = .ok (.aload_n 0, 1) := by decide +kernel
theorem dX12_byTurns_139 : decode cX12_byTurns 139 = .ok (.getfield 90, 3) := by decide +kernel
theorem dX12_byTurns_142 : decode cX12_byTurns 142 = .ok (.iconst 0, 1) := by decide +kernel
theorem dX12_byTurns_143 : decode cX12_byTurns 143 = .ok (.bipush (-9), 2) := by decide +kernel
theorem dX12_byTurns_145 : decode cX12_byTurns 145 = .ok (.iastore, 1) := by decide +kernel
theorem dX12_byTurns_146 : decode cX12_byTurns 146 = .ok (.aload_n 0, 1) := by decide +kernel
theorem dX12_byTurns_147 : decode cX12_byTurns 147 = .ok (.getfield 93, 3) := by decide +kernel
theorem dX12_byTurns_150 : decode cX12_byTurns 150 = .ok (.iconst 0, 1) := by decide +kernel
theorem dX12_byTurns_151 : decode cX12_byTurns 151 = .ok (.bipush (-9), 2) := by decide +kernel
theorem dX12_byTurns_153 : decode cX12_byTurns 153 = .ok (.iastore, 1) := by decide +kernel
theorem dX12_byTurns_154 : decode cX12_byTurns 154 = .ok (.aload_n 0, 1) := by decide +kernel
theorem dX12_byTurns_155 : decode cX12_byTurns 155 = .ok (.iconst 0, 1) := by decide +kernel
theorem dX12_byTurns_156 : decode cX12_byTurns 156 = .ok (.invokevirtual 241, 3) := by decide +kernel
theorem dX12_byTurns_159 : decode cX12_byTurns 159 = .ok (.ifCond .ne 6, 3) := by decide +kernel
theorem dX12_byTurns_162 : decode cX12_byTurns 162 = .ok (.bipush (-9), 2) := by decide +kernel
theorem dX12_byTurns_164 : decode cX12_byTurns 164 = .ok (.ireturn, 1) := by decide +kernel
theorem dX12_byTurns_165 : decode cX12_byTurns 165 = .ok (.iconst 0, 1) := by decide +kernel
theorem dX12_byTurns_166 : decode cX12_byTurns 166 = .ok (.istore_n 3, 1) := by decide +kernel
theorem dX12_byTurns_167 : decode cX12_byTurns 167 = .ok (.iload_n 3, 1) := by decide +kernel
theorem dX12_byTurns_168 : decode cX12_byTurns 168 = .ok (.ifCond .lt 134, 3) := by decide +kernel
theorem dX12_byTurns_171 : decode cX12_byTurns 171 = .ok (.aload_n 0, 1) := by decide +kernel
theorem dX12_byTurns_172 : decode cX12_byTurns 172 = .ok (.getfield 81, 3) := by decide +kernel
theorem dX12_byTurns_175 : decode cX12_byTurns 175 = .ok (.iload_n 3, 1) := by decide +kernel
theorem dX12_byTurns_176 : decode cX12_byTurns 176 = .ok (.iaload, 1) := by decide +kernel
theorem dX12_byTurns_177 : decode cX12_byTurns 177 = .ok (.istore 4, 2) := by decide +kernel
theorem dX12_byTurns_179 : decode cX12_byTurns 179 = .ok (.aload_n 0, 1) := by decide +kernel
theorem dX12_byTurns_180 : decode cX12_byTurns 180 = .ok (.getfield 75, 3) := by decide +kernel
theorem dX12_byTurns_183 : decode cX12_byTurns 183 = .ok (.iload_n 3, 1) := by decide +kernel
theorem dX12_byTurns_184 : decode cX12_byTurns 184 = .ok (.iaload, 1) := by decide +kernel
theorem dX12_byTurns_185 : decode cX12_byTurns 185 = .ok (.iconst 3, 1) := by decide +kernel
theorem dX12_byTurns_186 : decode cX12_byTurns 186 = .ok (.if_icmp .eq 12, 3) := by decide +kernel
theorem dX12_byTurns_189 : decode cX12_byTurns 189 = .ok (.iload 4, 2) := by decide +kernel
theorem dX12_byTurns_191 : decode cX12_byTurns 191 = .ok (.aload_n 0, 1) := by decide +kernel
theorem dX12_byTurns_192 : decode cX12_byTurns 192 = .ok (.getfield 111, 3) := by decide +kernel
theorem dX12_byTurns_195 : decode cX12_byTurns 195 = .ok (.if_icmp .le 76, 3) := by decide +kernel
theorem dX12_byTurns_198 : decode cX12_byTurns 198 = .ok (.aload_n 0, 1) := by decide +kernel
theorem dX12_byTurns_199 : decode cX12_byTurns 199 = .ok (.getfield 75, 3) := by decide +kernel
theorem dX12_byTurns_202 : decode cX12_byTurns 202 = .ok (.iload_n 3, 1) := by decide +kernel
theorem dX12_byTurns_203 : decode cX12_byTurns 203 = .ok (.iaload, 1) := by decide +kernel
theorem dX12_byTurns_204 : decode cX12_byTurns 204 = .ok (.iconst 3, 1) := by decide +kernel
theorem dX12_byTurns_205 : decode cX12_byTurns 205 = .ok (.if_icmp .ne 12, 3) := by decide +kernel
theorem dX12_byTurns_208 : decode cX12_byTurns 208 = .ok (.aload_n 0, 1) := by decide +kernel
theorem dX12_byTurns_209 : decode cX12_byTurns 209 = .ok (.getfield 84, 3) := by decide +kernel
theorem dX12_byTurns_212 : decode cX12_byTurns 212 = .ok (.iload_n 3, 1) := by decide +kernel
theorem dX12_byTurns_213 : decode cX12_byTurns 213 = .ok (.iaload, 1) := by decide +kernel
theorem dX12_byTurns_214 : decode cX12_byTurns 214 = .ok (.goto 9, 3) := by decide +kernel
theorem dX12_byTurns_217 : decode cX12_byTurns 217 = .ok (.aload_n 0, 1) := by decide +kernel
theorem dX12_byTurns_218 : decode cX12_byTurns 218 = .ok (.getfield 90, 3) := by decide +kernel
theorem dX12_byTurns_221 : decode cX12_byTurns 221 = .ok (.iload_n 3, 1) := by decide +kernel
theorem dX12_byTurns_222 : decode cX12_byTurns 222 = .ok (.iaload, 1) := by decide +kernel
theorem dX12_byTurns_223 : decode cX12_byTurns 223 = .ok (.istore 5, 2) := by decide +kernel
theorem dX12_byTurns_225 : decode cX12_byTurns 225 = .ok (.aload_n 0, 1) := by decide +kernel
theorem dX12_byTurns_226 : decode cX12_byTurns 226 = .ok (.getfield 75, 3) := by decide +kernel
theorem dX12_byTurns_229 : decode cX12_byTurns 229 = .ok (.iload_n 3, 1) := by decide +kernel
theorem dX12_byTurns_230 : decode cX12_byTurns 230 = .ok (.iaload, 1) := by decide +kernel
theorem dX12_byTurns_231 : decode cX12_byTurns 231 = .ok (.iconst 3, 1) := by decide +kernel
theorem dX12_byTurns_232 : decode cX12_byTurns 232 = .ok (.if_icmp .ne 12, 3) := by decide +kernel
theorem dX12_byTurns_235 : decode cX12_byTurns 235 = .ok (.aload_n 0, 1) := by decide +kernel
theorem dX12_byTurns_236 : decode cX12_byTurns 236 = .ok (.getfield 87, 3) := by decide +kernel
theorem dX12_byTurns_239 : decode cX12_byTurns 239 = .ok (.iload_n 3, 1) := by decide +kernel
theorem dX12_byTurns_240 : decode cX12_byTurns 240 = .ok (.iaload, 1) := by decide +kernel
theorem dX12_byTurns_241 : decode cX12_byTurns 241 = .ok (.goto 9, 3) := by decide +kernel
theorem dX12_byTurns_244 : decode cX12_byTurns 244 = .ok (.aload_n 0, 1) := by decide +kernel
theorem dX12_byTurns_245 : decode cX12_byTurns 245 = .ok (.getfield 93, 3) := by decide +kernel
theorem dX12_byTurns_248 : decode cX12_byTurns 248 = .ok (.iload_n 3, 1) := by decide +kernel
theorem dX12_byTurns_249 : decode cX12_byTurns 249 = .ok (.iaload, 1) := by decide +kernel
theorem dX12_byTurns_250 : decode cX12_byTurns 250 = .ok (.istore 6, 2) := by decide +kernel
theorem dX12_byTurns_252 : decode cX12_byTurns 252 = .ok (.iinc 3 (-1), 3) := by decide +kernel
theorem dX12_byTurns_255 : decode cX12_byTurns 255 = .ok (.iload_n 3, 1) := by decide +kernel
theorem dX12_byTurns_256 : decode cX12_byTurns 256 = .ok (.ifCond .lt 12, 3) := by decide +kernel
theorem dX12_byTurns_259 : decode cX12_byTurns 259 = .ok (.aload_n 0, 1) := by decide +kernel
theorem dX12_byTurns_260 : decode cX12_byTurns 260 = .ok (.iload_n 3, 1) := by decide +kernel
theorem dX12_byTurns_261 : decode cX12_byTurns 261 = .ok (.iload 5, 2) := by decide +kernel
theorem dX12_byTurns_263 : decode cX12_byTurns 263 = .ok (.iload 6, 2) := by decide +kernel
theorem dX12_byTurns_265 : decode cX12_byTurns 265 = .ok (.invokevirtual 244, 3) := by decide +kernel
theorem dX12_byTurns_268 : decode cX12_byTurns 268 = .ok (.goto 31, 3) := by decide +kernel
theorem dX12_byTurns_271 : decode cX12_byTurns 271 = .ok (.aload_n 0, 1) := by decide +kernel
theorem dX12_byTurns_272 : decode cX12_byTurns 272 = .ok (.getfield 81, 3) := by decide +kernel
theorem dX12_byTurns_275 : decode cX12_byTurns 275 = .ok (.iload_n 3, 1) := by decide +kernel
theorem dX12_byTurns_276 : decode cX12_byTurns 276 = .ok (.dup2, 1) := by decide +kernel
theorem dX12_byTurns_277 : decode cX12_byTurns 277 = .ok (.iaload, 1) := by decide +kernel
theorem dX12_byTurns_278 : decode cX12_byTurns 278 = .ok (.iconst 1, 1) := by decide +kernel
theorem dX12_byTurns_279 : decode cX12_byTurns 279 = .ok (.iadd, 1) := by decide +kernel
theorem dX12_byTurns_280 : decode cX12_byTurns 280 = .ok (.iastore, 1) := by decide +kernel
theorem dX12_byTurns_281 : decode cX12_byTurns 281 = .ok (.iload_n 3, 1) := by decide +kernel
theorem dX12_byTurns_282 : decode cX12_byTurns 282 = .ok (.aload_n 0, 1) := by decide +kernel
theorem dX12_byTurns_283 : decode cX12_byTurns 283 = .ok (.iload_n 3, 1) := by decide +kernel
theorem dX12_byTurns_284 : decode cX12_byTurns 284 = .ok (.iload 4, 2) := by decide +kernel
theorem dX12_byTurns_286 : decode cX12_byTurns 286 = .ok (.invokevirtual 247, 3) := by decide +kernel
theorem dX12_byTurns_289 : decode cX12_byTurns 289 = .ok (.ifCond .eq 7, 3) := by decide +kernel
theorem dX12_byTurns_292 : decode cX12_byTurns 292 = .ok (.iconst 1, 1) := by decide +kernel
theorem dX12_byTurns_293 : decode cX12_byTurns 293 = .ok (.goto 4, 3) := by decide +kernel
theorem dX12_byTurns_296 : decode cX12_byTurns 296 = .ok (.iconst 0, 1) := by decide +kernel
theorem dX12_byTurns_297 : decode cX12_byTurns 297 = .ok (.iadd, 1) := by decide +kernel
theorem dX12_byTurns_298 : decode cX12_byTurns 298 = .ok (.istore_n 3, 1) := by decide +kernel
theorem dX12_byTurns_299 : decode cX12_byTurns 299 = .ok (.goto (-132), 3) := by decide +kernel
theorem dX12_byTurns_302 : decode cX12_byTurns 302 = .ok (.iload_n 1, 1) := by decide +kernel
theorem dX12_byTurns_303 : decode cX12_byTurns 303 = .ok (.ifCond .ne 12, 3) := by decide +kernel
theorem dX12_byTurns_306 : decode cX12_byTurns 306 = .ok (.aload_n 0, 1) := by decide +kernel
theorem dX12_byTurns_307 : decode cX12_byTurns 307 = .ok (.getfield 90, 3) := by decide +kernel
theorem dX12_byTurns_310 : decode cX12_byTurns 310 = .ok (.iconst 0, 1) := by decide +kernel
theorem dX12_byTurns_311 : decode cX12_byTurns 311 = .ok (.iaload, 1) := by decide +kernel
theorem dX12_byTurns_312 : decode cX12_byTurns 312 = .ok (.goto 9, 3) := by decide +kernel
theorem dX12_byTurns_315 : decode cX12_byTurns 315 = .ok (.aload_n 0, 1) := by decide +kernel
theorem dX12_byTurns_316 : decode cX12_byTurns 316 = .ok (.getfield 93, 3) := by decide +kernel
theorem dX12_byTurns_319 : decode cX12_byTurns 319 = .ok (.iconst 0, 1) := by decide +kernel
theorem dX12_byTurns_320 : decode cX12_byTurns 320 = .ok (.iaload, 1) := by decide +kernel
theorem dX12_byTurns_321 : decode cX12_byTurns 321 = .ok (.ireturn, 1) := by decide +kernel
theorem dX12_layWays_0 : decode cX12_layWays 0 = .ok (.iconst 0, 1) := by decide +kernel
theorem dX12_layWays_1 : decode cX12_layWays 1 = .ok (.istore 4, 2) := by decide +kernel
theorem dX12_layWays_3 : decode cX12_layWays 3 = .ok (.iload 4, 2) := by decide +kernel
theorem dX12_layWays_5 : decode cX12_layWays 5 = .ok (.sipush 6000, 3) := by decide +kernel
theorem dX12_layWays_8 : decode cX12_layWays 8 = .ok (.if_icmp .ge 31, 3) := by decide +kernel
theorem dX12_layWays_11 : decode cX12_layWays 11 = .ok (.aload_n 0, 1) := by decide +kernel
theorem dX12_layWays_12 : decode cX12_layWays 12 = .ok (.getfield 96, 3) := by decide +kernel
theorem dX12_layWays_15 : decode cX12_layWays 15 = .ok (.iload 4, 2) := by decide +kernel
theorem dX12_layWays_17 : decode cX12_layWays 17 = .ok (.iload 4, 2) := by decide +kernel
theorem dX12_layWays_19 : decode cX12_layWays 19 = .ok (.sipush 1000, 3) := by decide +kernel
theorem dX12_layWays_22 : decode cX12_layWays 22 = .ok (.iload_n 1, 1) := by decide +kernel
theorem dX12_layWays_23 : decode cX12_layWays 23 = .ok (.imul, 1) := by decide +kernel
theorem dX12_layWays_24 : decode cX12_layWays 24 = .ok (.if_icmp .ne 7, 3) := by decide +kernel
theorem dX12_layWays_27 : decode cX12_layWays 27 = .ok (.lconst 1, 1) := by decide +kernel
theorem dX12_layWays_28 : decode cX12_layWays 28 = .ok (.goto 4, 3) := by decide +kernel
theorem dX12_layWays_31 : decode cX12_layWays 31 = .ok (.lconst 0, 1) := by decide +kernel
theorem dX12_layWays_32 : decode cX12_layWays 32 = .ok (.lastore, 1) := by decide +kernel
theorem dX12_layWays_33 : decode cX12_layWays 33 = .ok (.iinc 4 1, 3) := by decide +kernel
theorem dX12_layWays_36 : decode cX12_layWays 36 = .ok (.goto (-33), 3) := by decide +kernel
theorem dX12_layWays_39 : decode cX12_layWays 39 = .ok (.iconst 0, 1) := by decide +kernel
theorem dX12_layWays_40 : decode cX12_layWays 40 = .ok (.istore 4, 2) := by decide +kernel
theorem dX12_layWays_42 : decode cX12_layWays 42 = .ok (.iload 4, 2) := by decide +kernel
theorem dX12_layWays_44 : decode cX12_layWays 44 = .ok (.iload_n 2, 1) := by decide +kernel
theorem dX12_layWays_45 : decode cX12_layWays 45 = .ok (.if_icmp .ge 179, 3) := by decide +kernel
theorem dX12_layWays_48 : decode cX12_layWays 48 = .ok (.iconst 0, 1) := by decide +kernel
theorem dX12_layWays_49 : decode cX12_layWays 49 = .ok (.istore 5, 2) := by decide +kernel
theorem dX12_layWays_51 : decode cX12_layWays 51 = .ok (.iload 5, 2) := by decide +kernel
theorem dX12_layWays_53 : decode cX12_layWays 53 = .ok (.sipush 6000, 3) := by decide +kernel
theorem dX12_layWays_56 : decode cX12_layWays 56 = .ok (.if_icmp .ge 17, 3) := by decide +kernel
theorem dX12_layWays_59 : decode cX12_layWays 59 = .ok (.aload_n 0, 1) := by decide +kernel
theorem dX12_layWays_60 : decode cX12_layWays 60 = .ok (.getfield 100, 3) := by decide +kernel
theorem dX12_layWays_63 : decode cX12_layWays 63 = .ok (.iload 5, 2) := by decide +kernel
theorem dX12_layWays_65 : decode cX12_layWays 65 = .ok (.lconst 0, 1) := by decide +kernel
theorem dX12_layWays_66 : decode cX12_layWays 66 = .ok (.lastore, 1) := by decide +kernel
theorem dX12_layWays_67 : decode cX12_layWays 67 = .ok (.iinc 5 1, 3) := by decide +kernel
theorem dX12_layWays_70 : decode cX12_layWays 70 = .ok (.goto (-19), 3) := by decide +kernel
theorem dX12_layWays_73 : decode cX12_layWays 73 = .ok (.iconst 0, 1) := by decide +kernel
theorem dX12_layWays_74 : decode cX12_layWays 74 = .ok (.istore 5, 2) := by decide +kernel
theorem dX12_layWays_76 : decode cX12_layWays 76 = .ok (.iload 5, 2) := by decide +kernel
theorem dX12_layWays_78 : decode cX12_layWays 78 = .ok (.sipush 6000, 3) := by decide +kernel
theorem dX12_layWays_81 : decode cX12_layWays 81 = .ok (.if_icmp .ge 106, 3) := by decide +kernel
theorem dX12_layWays_84 : decode cX12_layWays 84 = .ok (.iconst 0, 1) := by decide +kernel
theorem dX12_layWays_85 : decode cX12_layWays 85 = .ok (.istore 6, 2) := by decide +kernel
theorem dX12_layWays_87 : decode cX12_layWays 87 = .ok (.iload 6, 2) := by decide +kernel
theorem dX12_layWays_89 : decode cX12_layWays 89 = .ok (.aload_n 0, 1) := by decide +kernel
theorem dX12_layWays_90 : decode cX12_layWays 90 = .ok (.getfield 13, 3) := by decide +kernel
theorem dX12_layWays_93 : decode cX12_layWays 93 = .ok (.if_icmp .ge 88, 3) := by decide +kernel
theorem dX12_layWays_96 : decode cX12_layWays 96 = .ok (.aload_n 0, 1) := by decide +kernel
theorem dX12_layWays_97 : decode cX12_layWays 97 = .ok (.getfield 96, 3) := by decide +kernel
theorem dX12_layWays_100 : decode cX12_layWays 100 = .ok (.iload 5, 2) := by decide +kernel
theorem dX12_layWays_102 : decode cX12_layWays 102 = .ok (.laload, 1) := by decide +kernel
theorem dX12_layWays_103 : decode cX12_layWays 103 = .ok (.lconst 0, 1) := by decide +kernel
theorem dX12_layWays_104 : decode cX12_layWays 104 = .ok (.lcmp, 1) := by decide +kernel
theorem dX12_layWays_105 : decode cX12_layWays 105 = .ok (.ifCond .le 76, 3) := by decide +kernel
theorem dX12_layWays_108 : decode cX12_layWays 108 = .ok (.iload 5, 2) := by decide +kernel
theorem dX12_layWays_110 : decode cX12_layWays 110 = .ok (.sipush 1000, 3) := by decide +kernel
theorem dX12_layWays_113 : decode cX12_layWays 113 = .ok (.irem, 1) := by decide +kernel
theorem dX12_layWays_114 : decode cX12_layWays 114 = .ok (.aload_n 0, 1) := by decide +kernel
theorem dX12_layWays_115 : decode cX12_layWays 115 = .ok (.getfield 17, 3) := by decide +kernel
theorem dX12_layWays_118 : decode cX12_layWays 118 = .ok (.bipush 6, 2) := by decide +kernel
theorem dX12_layWays_120 : decode cX12_layWays 120 = .ok (.iload 5, 2) := by decide +kernel
theorem dX12_layWays_122 : decode cX12_layWays 122 = .ok (.sipush 1000, 3) := by decide +kernel
theorem dX12_layWays_125 : decode cX12_layWays 125 = .ok (.idiv, 1) := by decide +kernel
theorem dX12_layWays_126 : decode cX12_layWays 126 = .ok (.imul, 1) := by decide +kernel
theorem dX12_layWays_127 : decode cX12_layWays 127 = .ok (.iload 6, 2) := by decide +kernel
theorem dX12_layWays_129 : decode cX12_layWays 129 = .ok (.iadd, 1) := by decide +kernel
theorem dX12_layWays_130 : decode cX12_layWays 130 = .ok (.iaload, 1) := by decide +kernel
theorem dX12_layWays_131 : decode cX12_layWays 131 = .ok (.iadd, 1) := by decide +kernel
theorem dX12_layWays_132 : decode cX12_layWays 132 = .ok (.istore 7, 2) := by decide +kernel
theorem dX12_layWays_134 : decode cX12_layWays 134 = .ok (.iload 6, 2) := by decide +kernel
theorem dX12_layWays_136 : decode cX12_layWays 136 = .ok (.iload 5, 2) := by decide +kernel
theorem dX12_layWays_138 : decode cX12_layWays 138 = .ok (.sipush 1000, 3) := by decide +kernel
theorem dX12_layWays_141 : decode cX12_layWays 141 = .ok (.idiv, 1) := by decide +kernel
theorem dX12_layWays_142 : decode cX12_layWays 142 = .ok (.if_icmp .eq 33, 3) := by decide +kernel
theorem dX12_layWays_145 : decode cX12_layWays 145 = .ok (.iload 7, 2) := by decide +kernel
theorem dX12_layWays_147 : decode cX12_layWays 147 = .ok (.iload_n 3, 1) := by decide +kernel
theorem dX12_layWays_148 : decode cX12_layWays 148 = .ok (.if_icmp .gt 27, 3) := by decide +kernel
theorem dX12_layWays_151 : decode cX12_layWays 151 = .ok (.aload_n 0, 1) := by decide +kernel
theorem dX12_layWays_152 : decode cX12_layWays 152 = .ok (.getfield 100, 3) := by decide +kernel
theorem dX12_layWays_155 : decode cX12_layWays 155 = .ok (.sipush 1000, 3) := by decide +kernel
theorem dX12_layWays_158 : decode cX12_layWays 158 = .ok (.iload 6, 2) := by decide +kernel
theorem dX12_layWays_160 : decode cX12_layWays 160 = .ok (.imul, 1) := by decide +kernel
theorem dX12_layWays_161 : decode cX12_layWays 161 = .ok (.iload 7, 2) := by decide +kernel
theorem dX12_layWays_163 : decode cX12_layWays 163 = .ok (.iadd, 1) := by decide +kernel
theorem dX12_layWays_164 : decode cX12_layWays 164 = .ok (.dup2, 1) := by decide +kernel
theorem dX12_layWays_165 : decode cX12_layWays 165 = .ok (.laload, 1) := by decide +kernel
theorem dX12_layWays_166 : decode cX12_layWays 166 = .ok (.aload_n 0, 1) := by decide +kernel
theorem dX12_layWays_167 : decode cX12_layWays 167 = .ok (.getfield 96, 3) := by decide +kernel
theorem dX12_layWays_170 : decode cX12_layWays 170 = .ok (.iload 5, 2) := by decide +kernel
theorem dX12_layWays_172 : decode cX12_layWays 172 = .ok (.laload, 1) := by decide +kernel
theorem dX12_layWays_173 : decode cX12_layWays 173 = .ok (.ladd, 1) := by decide +kernel
theorem dX12_layWays_174 : decode cX12_layWays 174 = .ok (.lastore, 1) := by decide +kernel
theorem dX12_layWays_175 : decode cX12_layWays 175 = .ok (.iinc 6 1, 3) := by decide +kernel
theorem dX12_layWays_178 : decode cX12_layWays 178 = .ok (.goto (-91), 3) := by decide +kernel
theorem dX12_layWays_181 : decode cX12_layWays 181 = .ok (.iinc 5 1, 3) := by decide +kernel
theorem dX12_layWays_184 : decode cX12_layWays 184 = .ok (.goto (-108), 3) := by decide +kernel
theorem dX12_layWays_187 : decode cX12_layWays 187 = .ok (.iconst 0, 1) := by decide +kernel
theorem dX12_layWays_188 : decode cX12_layWays 188 = .ok (.istore 5, 2) := by decide +kernel
theorem dX12_layWays_190 : decode cX12_layWays 190 = .ok (.iload 5, 2) := by decide +kernel
theorem dX12_layWays_192 : decode cX12_layWays 192 = .ok (.sipush 6000, 3) := by decide +kernel
theorem dX12_layWays_195 : decode cX12_layWays 195 = .ok (.if_icmp .ge 23, 3) := by decide +kernel
theorem dX12_layWays_198 : decode cX12_layWays 198 = .ok (.aload_n 0, 1) := by decide +kernel
theorem dX12_layWays_199 : decode cX12_layWays 199 = .ok (.getfield 96, 3) := by decide +kernel
theorem dX12_layWays_202 : decode cX12_layWays 202 = .ok (.iload 5, 2) := by decide +kernel
theorem dX12_layWays_204 : decode cX12_layWays 204 = .ok (.aload_n 0, 1) := by decide +kernel
theorem dX12_layWays_205 : decode cX12_layWays 205 = .ok (.getfield 100, 3) := by decide +kernel
theorem dX12_layWays_208 : decode cX12_layWays 208 = .ok (.iload 5, 2) := by decide +kernel
theorem dX12_layWays_210 : decode cX12_layWays 210 = .ok (.laload, 1) := by decide +kernel
theorem dX12_layWays_211 : decode cX12_layWays 211 = .ok (.lastore, 1) := by decide +kernel
theorem dX12_layWays_212 : decode cX12_layWays 212 = .ok (.iinc 5 1, 3) := by decide +kernel
theorem dX12_layWays_215 : decode cX12_layWays 215 = .ok (.goto (-25), 3) := by decide +kernel
theorem dX12_layWays_218 : decode cX12_layWays 218 = .ok (.iinc 4 1, 3) := by decide +kernel
theorem dX12_layWays_221 : decode cX12_layWays 221 = .ok (.goto (-179), 3) := by decide +kernel
theorem dX12_layWays_224 : decode cX12_layWays 224 = .ok (.return_, 1) := by decide +kernel
theorem dX12_ledger_0 : decode cX12_ledger 0 = .ok (.aload_n 0, 1) := by decide +kernel
theorem dX12_ledger_1 : decode cX12_ledger 1 = .ok (.iconst 0, 1) := by decide +kernel
theorem dX12_ledger_2 : decode cX12_ledger 2 = .ok (.putfield 104, 3) := by decide +kernel
theorem dX12_ledger_5 : decode cX12_ledger 5 = .ok (.aload_n 0, 1) := by decide +kernel
theorem dX12_ledger_6 : decode cX12_ledger 6 = .ok (.iload_n 1, 1) := by decide +kernel
theorem dX12_ledger_7 : decode cX12_ledger 7 = .ok (.invokevirtual 194, 3) := by decide +kernel
theorem dX12_ledger_10 : decode cX12_ledger 10 = .ok (.ifCond .eq 7, 3) := by decide +kernel
theorem dX12_ledger_13 : decode cX12_ledger 13 = .ok (.ldc2_w 250, 3) := by decide +kernel
theorem dX12_ledger_16 : decode cX12_ledger 16 = .ok (.lreturn, 1) := by decide +kernel
theorem dX12_ledger_17 : decode cX12_ledger 17 = .ok (.iload_n 2, 1) := by decide +kernel
theorem dX12_ledger_18 : decode cX12_ledger 18 = .ok (.i2l, 1) := by decide +kernel
theorem dX12_ledger_19 : decode cX12_ledger 19 = .ok (.lconst 0, 1) := by decide +kernel
theorem dX12_ledger_20 : decode cX12_ledger 20 = .ok (.ldc2_w 114, 3) := by decide +kernel
theorem dX12_ledger_23 : decode cX12_ledger 23 = .ok (.invokestatic 107, 3) := by decide +kernel
theorem dX12_ledger_26 : decode cX12_ledger 26 = .ok (.ifCond .eq 15, 3) := by decide +kernel
theorem dX12_ledger_29 : decode cX12_ledger 29 = .ok (.iload_n 3, 1) := by decide +kernel
theorem dX12_ledger_30 : decode cX12_ledger 30 = .ok (.i2l, 1) := by decide +kernel
theorem dX12_ledger_31 : decode cX12_ledger 31 = .ok (.lconst 0, 1) := by decide +kernel
theorem dX12_ledger_32 : decode cX12_ledger 32 = .ok (.ldc2_w 252, 3) := by decide +kernel
theorem dX12_ledger_35 : decode cX12_ledger 35 = .ok (.invokestatic 107, 3) := by decide +kernel
theorem dX12_ledger_38 : decode cX12_ledger 38 = .ok (.ifCond .ne 7, 3) := by decide +kernel
theorem dX12_ledger_41 : decode cX12_ledger 41 = .ok (.ldc2_w 254, 3) := by decide +kernel
theorem dX12_ledger_44 : decode cX12_ledger 44 = .ok (.lreturn, 1) := by decide +kernel
theorem dX12_ledger_45 : decode cX12_ledger 45 = .ok (.aload_n 0, 1) := by decide +kernel
theorem dX12_ledger_46 : decode cX12_ledger 46 = .ok (.iload_n 1, 1) := by decide +kernel
theorem dX12_ledger_47 : decode cX12_ledger 47 = .ok (.iload_n 2, 1) := by decide +kernel
theorem dX12_ledger_48 : decode cX12_ledger 48 = .ok (.iload_n 3, 1) := by decide +kernel
theorem dX12_ledger_49 : decode cX12_ledger 49 = .ok (.invokevirtual 256, 3) := by decide +kernel
theorem dX12_ledger_52 : decode cX12_ledger 52 = .ok (.lconst 0, 1) := by decide +kernel
theorem dX12_ledger_53 : decode cX12_ledger 53 = .ok (.lstore 4, 2) := by decide +kernel
theorem dX12_ledger_55 : decode cX12_ledger 55 = .ok (.iconst 0, 1) := by decide +kernel
theorem dX12_ledger_56 : decode cX12_ledger 56 = .ok (.istore 6, 2) := by decide +kernel
theorem dX12_ledger_58 : decode cX12_ledger 58 = .ok (.iload 6, 2) := by decide +kernel
theorem dX12_ledger_60 : decode cX12_ledger 60 = .ok (.aload_n 0, 1) := by decide +kernel
theorem dX12_ledger_61 : decode cX12_ledger 61 = .ok (.getfield 13, 3) := by decide +kernel
theorem dX12_ledger_64 : decode cX12_ledger 64 = .ok (.if_icmp .ge 27, 3) := by decide +kernel
theorem dX12_ledger_67 : decode cX12_ledger 67 = .ok (.lload 4, 2) := by decide +kernel
theorem dX12_ledger_69 : decode cX12_ledger 69 = .ok (.aload_n 0, 1) := by decide +kernel
theorem dX12_ledger_70 : decode cX12_ledger 70 = .ok (.getfield 96, 3) := by decide +kernel
theorem dX12_ledger_73 : decode cX12_ledger 73 = .ok (.sipush 1000, 3) := by decide +kernel
theorem dX12_ledger_76 : decode cX12_ledger 76 = .ok (.iload 6, 2) := by decide +kernel
theorem dX12_ledger_78 : decode cX12_ledger 78 = .ok (.imul, 1) := by decide +kernel
theorem dX12_ledger_79 : decode cX12_ledger 79 = .ok (.iload_n 3, 1) := by decide +kernel
theorem dX12_ledger_80 : decode cX12_ledger 80 = .ok (.iadd, 1) := by decide +kernel
theorem dX12_ledger_81 : decode cX12_ledger 81 = .ok (.laload, 1) := by decide +kernel
theorem dX12_ledger_82 : decode cX12_ledger 82 = .ok (.ladd, 1) := by decide +kernel
theorem dX12_ledger_83 : decode cX12_ledger 83 = .ok (.lstore 4, 2) := by decide +kernel
theorem dX12_ledger_85 : decode cX12_ledger 85 = .ok (.iinc 6 1, 3) := by decide +kernel
theorem dX12_ledger_88 : decode cX12_ledger 88 = .ok (.goto (-30), 3) := by decide +kernel
theorem dX12_ledger_91 : decode cX12_ledger 91 = .ok (.lload 4, 2) := by decide +kernel
theorem dX12_ledger_93 : decode cX12_ledger 93 = .ok (.lreturn, 1) := by decide +kernel
theorem dX12_ends_0 : decode cX12_ends 0 = .ok (.aload_n 0, 1) := by decide +kernel
theorem dX12_ends_1 : decode cX12_ends 1 = .ok (.iconst 0, 1) := by decide +kernel
theorem dX12_ends_2 : decode cX12_ends 2 = .ok (.putfield 104, 3) := by decide +kernel
theorem dX12_ends_5 : decode cX12_ends 5 = .ok (.aload_n 0, 1) := by decide +kernel
theorem dX12_ends_6 : decode cX12_ends 6 = .ok (.iload_n 1, 1) := by decide +kernel
theorem dX12_ends_7 : decode cX12_ends 7 = .ok (.invokevirtual 194, 3) := by decide +kernel
theorem dX12_ends_10 : decode cX12_ends 10 = .ok (.ifCond .eq 5, 3) := by decide +kernel
theorem dX12_ends_13 : decode cX12_ends 13 = .ok (.iconst (-1), 1) := by decide +kernel
theorem dX12_ends_14 : decode cX12_ends 14 = .ok (.ireturn, 1) := by decide +kernel
theorem dX12_ends_15 : decode cX12_ends 15 = .ok (.iload_n 2, 1) := by decide +kernel
theorem dX12_ends_16 : decode cX12_ends 16 = .ok (.i2l, 1) := by decide +kernel
theorem dX12_ends_17 : decode cX12_ends 17 = .ok (.lconst 0, 1) := by decide +kernel
theorem dX12_ends_18 : decode cX12_ends 18 = .ok (.ldc2_w 114, 3) := by decide +kernel
theorem dX12_ends_21 : decode cX12_ends 21 = .ok (.invokestatic 107, 3) := by decide +kernel
theorem dX12_ends_24 : decode cX12_ends 24 = .ok (.ifCond .eq 15, 3) := by decide +kernel
theorem dX12_ends_27 : decode cX12_ends 27 = .ok (.iload_n 3, 1) := by decide +kernel
theorem dX12_ends_28 : decode cX12_ends 28 = .ok (.i2l, 1) := by decide +kernel
theorem dX12_ends_29 : decode cX12_ends 29 = .ok (.lconst 0, 1) := by decide +kernel
theorem dX12_ends_30 : decode cX12_ends 30 = .ok (.ldc2_w 252, 3) := by decide +kernel
theorem dX12_ends_33 : decode cX12_ends 33 = .ok (.invokestatic 107, 3) := by decide +kernel
theorem dX12_ends_36 : decode cX12_ends 36 = .ok (.ifCond .ne 6, 3) := by decide +kernel
theorem dX12_ends_39 : decode cX12_ends 39 = .ok (.bipush (-2), 2) := by decide +kernel
theorem dX12_ends_41 : decode cX12_ends 41 = .ok (.ireturn, 1) := by decide +kernel
theorem dX12_ends_42 : decode cX12_ends 42 = .ok (.aload_n 0, 1) := by decide +kernel
theorem dX12_ends_43 : decode cX12_ends 43 = .ok (.iload_n 1, 1) := by decide +kernel
theorem dX12_ends_44 : decode cX12_ends 44 = .ok (.iload_n 2, 1) := by decide +kernel
theorem dX12_ends_45 : decode cX12_ends 45 = .ok (.iload_n 3, 1) := by decide +kernel
theorem dX12_ends_46 : decode cX12_ends 46 = .ok (.invokevirtual 256, 3) := by decide +kernel
theorem dX12_ends_49 : decode cX12_ends 49 = .ok (.iconst 0, 1) := by decide +kernel
theorem dX12_ends_50 : decode cX12_ends 50 = .ok (.istore 4, 2) := by decide +kernel
theorem dX12_ends_52 : decode cX12_ends 52 = .ok (.iconst 0, 1) := by decide +kernel
theorem dX12_ends_53 : decode cX12_ends 53 = .ok (.istore 5, 2) := by decide +kernel
theorem dX12_ends_55 : decode cX12_ends 55 = .ok (.iload 5, 2) := by decide +kernel
theorem dX12_ends_57 : decode cX12_ends 57 = .ok (.aload_n 0, 1) := by decide +kernel
theorem dX12_ends_58 : decode cX12_ends 58 = .ok (.getfield 13, 3) := by decide +kernel
theorem dX12_ends_61 : decode cX12_ends 61 = .ok (.if_icmp .ge 40, 3) := by decide +kernel
theorem dX12_ends_64 : decode cX12_ends 64 = .ok (.iload 4, 2) := by decide +kernel
theorem dX12_ends_66 : decode cX12_ends 66 = .ok (.aload_n 0, 1) := by decide +kernel
theorem dX12_ends_67 : decode cX12_ends 67 = .ok (.getfield 96, 3) := by decide +kernel
theorem dX12_ends_70 : decode cX12_ends 70 = .ok (.sipush 1000, 3) := by decide +kernel
theorem dX12_ends_73 : decode cX12_ends 73 = .ok (.iload 5, 2) := by decide +kernel
theorem dX12_ends_75 : decode cX12_ends 75 = .ok (.imul, 1) := by decide +kernel
theorem dX12_ends_76 : decode cX12_ends 76 = .ok (.iload_n 3, 1) := by decide +kernel
theorem dX12_ends_77 : decode cX12_ends 77 = .ok (.iadd, 1) := by decide +kernel
theorem dX12_ends_78 : decode cX12_ends 78 = .ok (.laload, 1) := by decide +kernel
theorem dX12_ends_79 : decode cX12_ends 79 = .ok (.lconst 0, 1) := by decide +kernel
theorem dX12_ends_80 : decode cX12_ends 80 = .ok (.lcmp, 1) := by decide +kernel
theorem dX12_ends_81 : decode cX12_ends 81 = .ok (.ifCond .le 10, 3) := by decide +kernel
theorem dX12_ends_84 : decode cX12_ends 84 = .ok (.iconst 1, 1) := by decide +kernel
theorem dX12_ends_85 : decode cX12_ends 85 = .ok (.iload 5, 2) := by decide +kernel
theorem dX12_ends_87 : decode cX12_ends 87 = .ok (.ishl, 1) := by decide +kernel
theorem dX12_ends_88 : decode cX12_ends 88 = .ok (.goto 4, 3) := by decide +kernel
theorem dX12_ends_91 : decode cX12_ends 91 = .ok (.iconst 0, 1) := by decide +kernel
theorem dX12_ends_92 : decode cX12_ends 92 = .ok (.ior, 1) := by decide +kernel
theorem dX12_ends_93 : decode cX12_ends 93 = .ok (.istore 4, 2) := by decide +kernel
theorem dX12_ends_95 : decode cX12_ends 95 = .ok (.iinc 5 1, 3) := by decide +kernel
theorem dX12_ends_98 : decode cX12_ends 98 = .ok (.goto (-43), 3) := by decide +kernel
theorem dX12_ends_101 : decode cX12_ends 101 = .ok (.iload 4, 2) := by decide +kernel
theorem dX12_ends_103 : decode cX12_ends 103 = .ok (.ireturn, 1) := by decide +kernel
theorem dX12_layAll_0 : decode cX12_layAll 0 = .ok (.iconst 0, 1) := by decide +kernel
theorem dX12_layAll_1 : decode cX12_layAll 1 = .ok (.istore_n 1, 1) := by decide +kernel
theorem dX12_layAll_2 : decode cX12_layAll 2 = .ok (.iload_n 1, 1) := by decide +kernel
theorem dX12_layAll_3 : decode cX12_layAll 3 = .ok (.aload_n 0, 1) := by decide +kernel
theorem dX12_layAll_4 : decode cX12_layAll 4 = .ok (.getfield 111, 3) := by decide +kernel
theorem dX12_layAll_7 : decode cX12_layAll 7 = .ok (.if_icmp .ge 28, 3) := by decide +kernel
theorem dX12_layAll_10 : decode cX12_layAll 10 = .ok (.aload_n 0, 1) := by decide +kernel
theorem dX12_layAll_11 : decode cX12_layAll 11 = .ok (.getfield 38, 3) := by decide +kernel
theorem dX12_layAll_14 : decode cX12_layAll 14 = .ok (.iload_n 1, 1) := by decide +kernel
theorem dX12_layAll_15 : decode cX12_layAll 15 = .ok (.aload_n 0, 1) := by decide +kernel
theorem dX12_layAll_16 : decode cX12_layAll 16 = .ok (.getfield 26, 3) := by decide +kernel
theorem dX12_layAll_19 : decode cX12_layAll 19 = .ok (.iload_n 1, 1) := by decide +kernel
theorem dX12_layAll_20 : decode cX12_layAll 20 = .ok (.iaload, 1) := by decide +kernel
theorem dX12_layAll_21 : decode cX12_layAll 21 = .ok (.iastore, 1) := by decide +kernel
theorem dX12_layAll_22 : decode cX12_layAll 22 = .ok (.aload_n 0, 1) := by decide +kernel
theorem dX12_layAll_23 : decode cX12_layAll 23 = .ok (.getfield 26, 3) := by decide +kernel
theorem dX12_layAll_26 : decode cX12_layAll 26 = .ok (.iload_n 1, 1) := by decide +kernel
theorem dX12_layAll_27 : decode cX12_layAll 27 = .ok (.iconst 2, 1) := by decide +kernel
theorem dX12_layAll_28 : decode cX12_layAll 28 = .ok (.iastore, 1) := by decide +kernel
theorem dX12_layAll_29 : decode cX12_layAll 29 = .ok (.iinc 1 1, 3) := by decide +kernel
theorem dX12_layAll_32 : decode cX12_layAll 32 = .ok (.goto (-30), 3) := by decide +kernel
theorem dX12_layAll_35 : decode cX12_layAll 35 = .ok (.aload_n 0, 1) := by decide +kernel
theorem dX12_layAll_36 : decode cX12_layAll 36 = .ok (.iconst 0, 1) := by decide +kernel
theorem dX12_layAll_37 : decode cX12_layAll 37 = .ok (.iconst 0, 1) := by decide +kernel
theorem dX12_layAll_38 : decode cX12_layAll 38 = .ok (.iconst 0, 1) := by decide +kernel
theorem dX12_layAll_39 : decode cX12_layAll 39 = .ok (.invokevirtual 219, 3) := by decide +kernel
theorem dX12_layAll_42 : decode cX12_layAll 42 = .ok (.iconst 0, 1) := by decide +kernel
theorem dX12_layAll_43 : decode cX12_layAll 43 = .ok (.istore_n 1, 1) := by decide +kernel
theorem dX12_layAll_44 : decode cX12_layAll 44 = .ok (.iload_n 1, 1) := by decide +kernel
theorem dX12_layAll_45 : decode cX12_layAll 45 = .ok (.aload_n 0, 1) := by decide +kernel
theorem dX12_layAll_46 : decode cX12_layAll 46 = .ok (.getfield 111, 3) := by decide +kernel
theorem dX12_layAll_49 : decode cX12_layAll 49 = .ok (.if_icmp .ge 21, 3) := by decide +kernel
theorem dX12_layAll_52 : decode cX12_layAll 52 = .ok (.aload_n 0, 1) := by decide +kernel
theorem dX12_layAll_53 : decode cX12_layAll 53 = .ok (.getfield 26, 3) := by decide +kernel
theorem dX12_layAll_56 : decode cX12_layAll 56 = .ok (.iload_n 1, 1) := by decide +kernel
theorem dX12_layAll_57 : decode cX12_layAll 57 = .ok (.aload_n 0, 1) := by decide +kernel
theorem dX12_layAll_58 : decode cX12_layAll 58 = .ok (.getfield 38, 3) := by decide +kernel
theorem dX12_layAll_61 : decode cX12_layAll 61 = .ok (.iload_n 1, 1) := by decide +kernel
theorem dX12_layAll_62 : decode cX12_layAll 62 = .ok (.iaload, 1) := by decide +kernel
theorem dX12_layAll_63 : decode cX12_layAll 63 = .ok (.iastore, 1) := by decide +kernel
theorem dX12_layAll_64 : decode cX12_layAll 64 = .ok (.iinc 1 1, 3) := by decide +kernel
theorem dX12_layAll_67 : decode cX12_layAll 67 = .ok (.goto (-23), 3) := by decide +kernel
theorem dX12_layAll_70 : decode cX12_layAll 70 = .ok (.return_, 1) := by decide +kernel
theorem dX12_within_0 : decode cX12_within 0 = .ok (.lconst 0, 1) := by decide +kernel
theorem dX12_within_1 : decode cX12_within 1 = .ok (.lstore_n 3, 1) := by decide +kernel
theorem dX12_within_2 : decode cX12_within 2 = .ok (.iconst 0, 1) := by decide +kernel
theorem dX12_within_3 : decode cX12_within 3 = .ok (.istore 5, 2) := by decide +kernel
theorem dX12_within_5 : decode cX12_within 5 = .ok (.iload 5, 2) := by decide +kernel
theorem dX12_within_7 : decode cX12_within 7 = .ok (.iconst 1, 1) := by decide +kernel
theorem dX12_within_8 : decode cX12_within 8 = .ok (.aload_n 0, 1) := by decide +kernel
theorem dX12_within_9 : decode cX12_within 9 = .ok (.getfield 111, 3) := by decide +kernel
theorem dX12_within_12 : decode cX12_within 12 = .ok (.ishl, 1) := by decide +kernel
theorem dX12_within_13 : decode cX12_within 13 = .ok (.if_icmp .ge 75, 3) := by decide +kernel
theorem dX12_within_16 : decode cX12_within 16 = .ok (.aload_n 0, 1) := by decide +kernel
theorem dX12_within_17 : decode cX12_within 17 = .ok (.getfield 57, 3) := by decide +kernel
theorem dX12_within_20 : decode cX12_within 20 = .ok (.iload 5, 2) := by decide +kernel
theorem dX12_within_22 : decode cX12_within 22 = .ok (.iaload, 1) := by decide +kernel
theorem dX12_within_23 : decode cX12_within 23 = .ok (.iload_n 2, 1) := by decide +kernel
theorem dX12_within_24 : decode cX12_within 24 = .ok (.if_icmp .gt 7, 3) := by decide +kernel
theorem dX12_within_27 : decode cX12_within 27 = .ok (.lconst 1, 1) := by decide +kernel
theorem dX12_within_28 : decode cX12_within 28 = .ok (.goto 4, 3) := by decide +kernel
theorem dX12_within_31 : decode cX12_within 31 = .ok (.lconst 0, 1) := by decide +kernel
theorem dX12_within_32 : decode cX12_within 32 = .ok (.lstore 6, 2) := by decide +kernel
theorem dX12_within_34 : decode cX12_within 34 = .ok (.iconst 0, 1) := by decide +kernel
theorem dX12_within_35 : decode cX12_within 35 = .ok (.istore 8, 2) := by decide +kernel
theorem dX12_within_37 : decode cX12_within 37 = .ok (.iload 8, 2) := by decide +kernel
theorem dX12_within_39 : decode cX12_within 39 = .ok (.aload_n 0, 1) := by decide +kernel
theorem dX12_within_40 : decode cX12_within 40 = .ok (.getfield 111, 3) := by decide +kernel
theorem dX12_within_43 : decode cX12_within 43 = .ok (.if_icmp .ge 34, 3) := by decide +kernel
theorem dX12_within_46 : decode cX12_within 46 = .ok (.lload 6, 2) := by decide +kernel
theorem dX12_within_48 : decode cX12_within 48 = .ok (.iload 5, 2) := by decide +kernel
theorem dX12_within_50 : decode cX12_within 50 = .ok (.iload 8, 2) := by decide +kernel
theorem dX12_within_52 : decode cX12_within 52 = .ok (.invokestatic 180, 3) := by decide +kernel
theorem dX12_within_55 : decode cX12_within 55 = .ok (.ifCond .eq 8, 3) := by decide +kernel
theorem dX12_within_58 : decode cX12_within 58 = .ok (.iload_n 1, 1) := by decide +kernel
theorem dX12_within_59 : decode cX12_within 59 = .ok (.i2l, 1) := by decide +kernel
theorem dX12_within_60 : decode cX12_within 60 = .ok (.goto 8, 3) := by decide +kernel
theorem dX12_within_63 : decode cX12_within 63 = .ok (.bipush 10, 2) := by decide +kernel
theorem dX12_within_65 : decode cX12_within 65 = .ok (.iload_n 1, 1) := by decide +kernel
theorem dX12_within_66 : decode cX12_within 66 = .ok (.isub, 1) := by decide +kernel
theorem dX12_within_67 : decode cX12_within 67 = .ok (.i2l, 1) := by decide +kernel
theorem dX12_within_68 : decode cX12_within 68 = .ok (.lmul, 1) := by decide +kernel
theorem dX12_within_69 : decode cX12_within 69 = .ok (.lstore 6, 2) := by decide +kernel
theorem dX12_within_71 : decode cX12_within 71 = .ok (.iinc 8 1, 3) := by decide +kernel
theorem dX12_within_74 : decode cX12_within 74 = .ok (.goto (-37), 3) := by decide +kernel
theorem dX12_within_77 : decode cX12_within 77 = .ok (.lload_n 3, 1) := by decide +kernel
theorem dX12_within_78 : decode cX12_within 78 = .ok (.lload 6, 2) := by decide +kernel
theorem dX12_within_80 : decode cX12_within 80 = .ok (.ladd, 1) := by decide +kernel
theorem dX12_within_81 : decode cX12_within 81 = .ok (.lstore_n 3, 1) := by decide +kernel
theorem dX12_within_82 : decode cX12_within 82 = .ok (.iinc 5 1, 3) := by decide +kernel
theorem dX12_within_85 : decode cX12_within 85 = .ok (.goto (-80), 3) := by decide +kernel
theorem dX12_within_88 : decode cX12_within 88 = .ok (.lload_n 3, 1) := by decide +kernel
theorem dX12_within_89 : decode cX12_within 89 = .ok (.lreturn, 1) := by decide +kernel
theorem dX12_divisor_0 : decode cX12_divisor 0 = .ok (.lload_n 0, 1) := by decide +kernel
theorem dX12_divisor_1 : decode cX12_divisor 1 = .ok (.lstore 4, 2) := by decide +kernel
theorem dX12_divisor_3 : decode cX12_divisor 3 = .ok (.lload_n 2, 1) := by decide +kernel
theorem dX12_divisor_4 : decode cX12_divisor 4 = .ok (.lstore 6, 2) := by decide +kernel
theorem dX12_divisor_6 : decode cX12_divisor 6 = .ok (.lload 6, 2) := by decide +kernel
theorem dX12_divisor_8 : decode cX12_divisor 8 = .ok (.lconst 0, 1) := by decide +kernel
theorem dX12_divisor_9 : decode cX12_divisor 9 = .ok (.lcmp, 1) := by decide +kernel
theorem dX12_divisor_10 : decode cX12_divisor 10 = .ok (.ifCond .eq 21, 3) := by decide +kernel
theorem dX12_divisor_13 : decode cX12_divisor 13 = .ok (.lload 4, 2) := by decide +kernel
theorem dX12_divisor_15 : decode cX12_divisor 15 = .ok (.lload 6, 2) := by decide +kernel
theorem dX12_divisor_17 : decode cX12_divisor 17 = .ok (.lrem, 1) := by decide +kernel
theorem dX12_divisor_18 : decode cX12_divisor 18 = .ok (.lstore 8, 2) := by decide +kernel
theorem dX12_divisor_20 : decode cX12_divisor 20 = .ok (.lload 6, 2) := by decide +kernel
theorem dX12_divisor_22 : decode cX12_divisor 22 = .ok (.lstore 4, 2) := by decide +kernel
theorem dX12_divisor_24 : decode cX12_divisor 24 = .ok (.lload 8, 2) := by decide +kernel
theorem dX12_divisor_26 : decode cX12_divisor 26 = .ok (.lstore 6, 2) := by decide +kernel
theorem dX12_divisor_28 : decode cX12_divisor 28 = .ok (.goto (-22), 3) := by decide +kernel
theorem dX12_divisor_31 : decode cX12_divisor 31 = .ok (.lload 4, 2) := by decide +kernel
theorem dX12_divisor_33 : decode cX12_divisor 33 = .ok (.lreturn, 1) := by decide +kernel
theorem dX12_whole_0 : decode cX12_whole 0 = .ok (.lconst 1, 1) := by decide +kernel
theorem dX12_whole_1 : decode cX12_whole 1 = .ok (.lstore_n 1, 1) := by decide +kernel
theorem dX12_whole_2 : decode cX12_whole 2 = .ok (.iconst 0, 1) := by decide +kernel
theorem dX12_whole_3 : decode cX12_whole 3 = .ok (.istore_n 3, 1) := by decide +kernel
theorem dX12_whole_4 : decode cX12_whole 4 = .ok (.iload_n 3, 1) := by decide +kernel
theorem dX12_whole_5 : decode cX12_whole 5 = .ok (.aload_n 0, 1) := by decide +kernel
theorem dX12_whole_6 : decode cX12_whole 6 = .ok (.getfield 111, 3) := by decide +kernel
theorem dX12_whole_9 : decode cX12_whole 9 = .ok (.if_icmp .ge 15, 3) := by decide +kernel
theorem dX12_whole_12 : decode cX12_whole 12 = .ok (.lload_n 1, 1) := by decide +kernel
theorem dX12_whole_13 : decode cX12_whole 13 = .ok (.ldc2_w 259, 3) := by decide +kernel
theorem dX12_whole_16 : decode cX12_whole 16 = .ok (.lmul, 1) := by decide +kernel
theorem dX12_whole_17 : decode cX12_whole 17 = .ok (.lstore_n 1, 1) := by decide +kernel
theorem dX12_whole_18 : decode cX12_whole 18 = .ok (.iinc 3 1, 3) := by decide +kernel
theorem dX12_whole_21 : decode cX12_whole 21 = .ok (.goto (-17), 3) := by decide +kernel
theorem dX12_whole_24 : decode cX12_whole 24 = .ok (.lload_n 1, 1) := by decide +kernel
theorem dX12_whole_25 : decode cX12_whole 25 = .ok (.lreturn, 1) := by decide +kernel
theorem dX12_chance_0 : decode cX12_chance 0 = .ok (.aload_n 0, 1) := by decide +kernel
theorem dX12_chance_1 : decode cX12_chance 1 = .ok (.iconst 0, 1) := by decide +kernel
theorem dX12_chance_2 : decode cX12_chance 2 = .ok (.putfield 104, 3) := by decide +kernel
theorem dX12_chance_5 : decode cX12_chance 5 = .ok (.iload_n 1, 1) := by decide +kernel
theorem dX12_chance_6 : decode cX12_chance 6 = .ok (.i2l, 1) := by decide +kernel
theorem dX12_chance_7 : decode cX12_chance 7 = .ok (.lconst 0, 1) := by decide +kernel
theorem dX12_chance_8 : decode cX12_chance 8 = .ok (.ldc2_w 259, 3) := by decide +kernel
theorem dX12_chance_11 : decode cX12_chance 11 = .ok (.invokestatic 107, 3) := by decide +kernel
theorem dX12_chance_14 : decode cX12_chance 14 = .ok (.ifCond .eq 15, 3) := by decide +kernel
theorem dX12_chance_17 : decode cX12_chance 17 = .ok (.iload_n 2, 1) := by decide +kernel
theorem dX12_chance_18 : decode cX12_chance 18 = .ok (.i2l, 1) := by decide +kernel
theorem dX12_chance_19 : decode cX12_chance 19 = .ok (.lconst 0, 1) := by decide +kernel
theorem dX12_chance_20 : decode cX12_chance 20 = .ok (.ldc2_w 252, 3) := by decide +kernel
theorem dX12_chance_23 : decode cX12_chance 23 = .ok (.invokestatic 107, 3) := by decide +kernel
theorem dX12_chance_26 : decode cX12_chance 26 = .ok (.ifCond .ne 7, 3) := by decide +kernel
theorem dX12_chance_29 : decode cX12_chance 29 = .ok (.ldc2_w 254, 3) := by decide +kernel
theorem dX12_chance_32 : decode cX12_chance 32 = .ok (.lreturn, 1) := by decide +kernel
theorem dX12_chance_33 : decode cX12_chance 33 = .ok (.aload_n 0, 1) := by decide +kernel
theorem dX12_chance_34 : decode cX12_chance 34 = .ok (.invokevirtual 261, 3) := by decide +kernel
theorem dX12_chance_37 : decode cX12_chance 37 = .ok (.aload_n 0, 1) := by decide +kernel
theorem dX12_chance_38 : decode cX12_chance 38 = .ok (.iload_n 1, 1) := by decide +kernel
theorem dX12_chance_39 : decode cX12_chance 39 = .ok (.iload_n 2, 1) := by decide +kernel
theorem dX12_chance_40 : decode cX12_chance 40 = .ok (.invokevirtual 264, 3) := by decide +kernel
theorem dX12_chance_43 : decode cX12_chance 43 = .ok (.lstore 4, 2) := by decide +kernel
theorem dX12_chance_45 : decode cX12_chance 45 = .ok (.lload 4, 2) := by decide +kernel
theorem dX12_chance_47 : decode cX12_chance 47 = .ok (.aload_n 0, 1) := by decide +kernel
theorem dX12_chance_48 : decode cX12_chance 48 = .ok (.invokevirtual 268, 3) := by decide +kernel
theorem dX12_chance_51 : decode cX12_chance 51 = .ok (.invokestatic 272, 3) := by decide +kernel
theorem dX12_chance_54 : decode cX12_chance 54 = .ok (.lstore 6, 2) := by decide +kernel
theorem dX12_chance_56 : decode cX12_chance 56 = .ok (.iload_n 3, 1) := by decide +kernel
theorem dX12_chance_57 : decode cX12_chance 57 = .ok (.ifCond .eq 11, 3) := by decide +kernel
theorem dX12_chance_60 : decode cX12_chance 60 = .ok (.lload 4, 2) := by decide +kernel
theorem dX12_chance_62 : decode cX12_chance 62 = .ok (.lload 6, 2) := by decide +kernel
theorem dX12_chance_64 : decode cX12_chance 64 = .ok (.ldiv, 1) := by decide +kernel
theorem dX12_chance_65 : decode cX12_chance 65 = .ok (.goto 10, 3) := by decide +kernel
theorem dX12_chance_68 : decode cX12_chance 68 = .ok (.aload_n 0, 1) := by decide +kernel
theorem dX12_chance_69 : decode cX12_chance 69 = .ok (.invokevirtual 268, 3) := by decide +kernel
theorem dX12_chance_72 : decode cX12_chance 72 = .ok (.lload 6, 2) := by decide +kernel
theorem dX12_chance_74 : decode cX12_chance 74 = .ok (.ldiv, 1) := by decide +kernel
theorem dX12_chance_75 : decode cX12_chance 75 = .ok (.lreturn, 1) := by decide +kernel
theorem dX12_spare_0 : decode cX12_spare 0 = .ok (.aload_n 0, 1) := by decide +kernel
theorem dX12_spare_1 : decode cX12_spare 1 = .ok (.iconst 0, 1) := by decide +kernel
theorem dX12_spare_2 : decode cX12_spare 2 = .ok (.putfield 104, 3) := by decide +kernel
theorem dX12_spare_5 : decode cX12_spare 5 = .ok (.iload_n 1, 1) := by decide +kernel
theorem dX12_spare_6 : decode cX12_spare 6 = .ok (.i2l, 1) := by decide +kernel
theorem dX12_spare_7 : decode cX12_spare 7 = .ok (.lconst 0, 1) := by decide +kernel
theorem dX12_spare_8 : decode cX12_spare 8 = .ok (.ldc2_w 259, 3) := by decide +kernel
theorem dX12_spare_11 : decode cX12_spare 11 = .ok (.invokestatic 107, 3) := by decide +kernel
theorem dX12_spare_14 : decode cX12_spare 14 = .ok (.ifCond .eq 15, 3) := by decide +kernel
theorem dX12_spare_17 : decode cX12_spare 17 = .ok (.iload_n 2, 1) := by decide +kernel
theorem dX12_spare_18 : decode cX12_spare 18 = .ok (.i2l, 1) := by decide +kernel
theorem dX12_spare_19 : decode cX12_spare 19 = .ok (.lconst 0, 1) := by decide +kernel
theorem dX12_spare_20 : decode cX12_spare 20 = .ok (.ldc2_w 276, 3) := by decide +kernel
theorem dX12_spare_23 : decode cX12_spare 23 = .ok (.invokestatic 107, 3) := by decide +kernel
theorem dX12_spare_26 : decode cX12_spare 26 = .ok (.ifCond .ne 6, 3) := by decide +kernel
theorem dX12_spare_29 : decode cX12_spare 29 = .ok (.bipush (-2), 2) := by decide +kernel
theorem dX12_spare_31 : decode cX12_spare 31 = .ok (.ireturn, 1) := by decide +kernel
theorem dX12_spare_32 : decode cX12_spare 32 = .ok (.aload_n 0, 1) := by decide +kernel
theorem dX12_spare_33 : decode cX12_spare 33 = .ok (.invokevirtual 261, 3) := by decide +kernel
theorem dX12_spare_36 : decode cX12_spare 36 = .ok (.iconst 0, 1) := by decide +kernel
theorem dX12_spare_37 : decode cX12_spare 37 = .ok (.istore_n 3, 1) := by decide +kernel
theorem dX12_spare_38 : decode cX12_spare 38 = .ok (.iload_n 3, 1) := by decide +kernel
theorem dX12_spare_39 : decode cX12_spare 39 = .ok (.sipush 1000, 3) := by decide +kernel
theorem dX12_spare_42 : decode cX12_spare 42 = .ok (.if_icmp .ge 32, 3) := by decide +kernel
theorem dX12_spare_45 : decode cX12_spare 45 = .ok (.ldc2_w 276, 3) := by decide +kernel
theorem dX12_spare_48 : decode cX12_spare 48 = .ok (.aload_n 0, 1) := by decide +kernel
theorem dX12_spare_49 : decode cX12_spare 49 = .ok (.iload_n 1, 1) := by decide +kernel
theorem dX12_spare_50 : decode cX12_spare 50 = .ok (.iload_n 3, 1) := by decide +kernel
theorem dX12_spare_51 : decode cX12_spare 51 = .ok (.invokevirtual 264, 3) := by decide +kernel
theorem dX12_spare_54 : decode cX12_spare 54 = .ok (.lmul, 1) := by decide +kernel
theorem dX12_spare_55 : decode cX12_spare 55 = .ok (.iload_n 2, 1) := by decide +kernel
theorem dX12_spare_56 : decode cX12_spare 56 = .ok (.i2l, 1) := by decide +kernel
theorem dX12_spare_57 : decode cX12_spare 57 = .ok (.aload_n 0, 1) := by decide +kernel
theorem dX12_spare_58 : decode cX12_spare 58 = .ok (.invokevirtual 268, 3) := by decide +kernel
theorem dX12_spare_61 : decode cX12_spare 61 = .ok (.lmul, 1) := by decide +kernel
theorem dX12_spare_62 : decode cX12_spare 62 = .ok (.lcmp, 1) := by decide +kernel
theorem dX12_spare_63 : decode cX12_spare 63 = .ok (.ifCond .lt 5, 3) := by decide +kernel
theorem dX12_spare_66 : decode cX12_spare 66 = .ok (.iload_n 3, 1) := by decide +kernel
theorem dX12_spare_67 : decode cX12_spare 67 = .ok (.ireturn, 1) := by decide +kernel
theorem dX12_spare_68 : decode cX12_spare 68 = .ok (.iinc 3 1, 3) := by decide +kernel
theorem dX12_spare_71 : decode cX12_spare 71 = .ok (.goto (-33), 3) := by decide +kernel
theorem dX12_spare_74 : decode cX12_spare 74 = .ok (.bipush (-9), 2) := by decide +kernel
theorem dX12_spare_76 : decode cX12_spare 76 = .ok (.ireturn, 1) := by decide +kernel
theorem dX12_keep_0 : decode cX12_keep 0 = .ok (.aload_n 0, 1) := by decide +kernel
theorem dX12_keep_1 : decode cX12_keep 1 = .ok (.iconst 0, 1) := by decide +kernel
theorem dX12_keep_2 : decode cX12_keep 2 = .ok (.putfield 104, 3) := by decide +kernel
theorem dX12_keep_5 : decode cX12_keep 5 = .ok (.iload_n 1, 1) := by decide +kernel
theorem dX12_keep_6 : decode cX12_keep 6 = .ok (.i2l, 1) := by decide +kernel
theorem dX12_keep_7 : decode cX12_keep 7 = .ok (.lconst 0, 1) := by decide +kernel
theorem dX12_keep_8 : decode cX12_keep 8 = .ok (.lconst 1, 1) := by decide +kernel
theorem dX12_keep_9 : decode cX12_keep 9 = .ok (.invokestatic 107, 3) := by decide +kernel
theorem dX12_keep_12 : decode cX12_keep 12 = .ok (.ifCond .ne 5, 3) := by decide +kernel
theorem dX12_keep_15 : decode cX12_keep 15 = .ok (.iconst (-1), 1) := by decide +kernel
theorem dX12_keep_16 : decode cX12_keep 16 = .ok (.ireturn, 1) := by decide +kernel
theorem dX12_keep_17 : decode cX12_keep 17 = .ok (.aload_n 0, 1) := by decide +kernel
theorem dX12_keep_18 : decode cX12_keep 18 = .ok (.getfield 53, 3) := by decide +kernel
theorem dX12_keep_21 : decode cX12_keep 21 = .ok (.iload_n 1, 1) := by decide +kernel
theorem dX12_keep_22 : decode cX12_keep 22 = .ok (.iconst 1, 1) := by decide +kernel
theorem dX12_keep_23 : decode cX12_keep 23 = .ok (.bastore, 1) := by decide +kernel
theorem dX12_keep_24 : decode cX12_keep 24 = .ok (.aload_n 0, 1) := by decide +kernel
theorem dX12_keep_25 : decode cX12_keep 25 = .ok (.aload_n 0, 1) := by decide +kernel
theorem dX12_keep_26 : decode cX12_keep 26 = .ok (.getfield 50, 3) := by decide +kernel
theorem dX12_keep_29 : decode cX12_keep 29 = .ok (.bipush 28, 2) := by decide +kernel
theorem dX12_keep_31 : decode cX12_keep 31 = .ok (.iload_n 1, 1) := by decide +kernel
theorem dX12_keep_32 : decode cX12_keep 32 = .ok (.imul, 1) := by decide +kernel
theorem dX12_keep_33 : decode cX12_keep 33 = .ok (.invokevirtual 200, 3) := by decide +kernel
theorem dX12_keep_36 : decode cX12_keep 36 = .ok (.aload_n 0, 1) := by decide +kernel
theorem dX12_keep_37 : decode cX12_keep 37 = .ok (.getfield 165, 3) := by decide +kernel
theorem dX12_keep_40 : decode cX12_keep 40 = .ok (.ireturn, 1) := by decide +kernel
theorem dX12_again_0 : decode cX12_again 0 = .ok (.aload_n 0, 1) := by decide +kernel
theorem dX12_again_1 : decode cX12_again 1 = .ok (.iconst 0, 1) := by decide +kernel
theorem dX12_again_2 : decode cX12_again 2 = .ok (.putfield 104, 3) := by decide +kernel
theorem dX12_again_5 : decode cX12_again 5 = .ok (.iload_n 1, 1) := by decide +kernel
theorem dX12_again_6 : decode cX12_again 6 = .ok (.i2l, 1) := by decide +kernel
theorem dX12_again_7 : decode cX12_again 7 = .ok (.lconst 0, 1) := by decide +kernel
theorem dX12_again_8 : decode cX12_again 8 = .ok (.lconst 1, 1) := by decide +kernel
theorem dX12_again_9 : decode cX12_again 9 = .ok (.invokestatic 107, 3) := by decide +kernel
theorem dX12_again_12 : decode cX12_again 12 = .ok (.ifCond .ne 5, 3) := by decide +kernel
theorem dX12_again_15 : decode cX12_again 15 = .ok (.iconst (-1), 1) := by decide +kernel
theorem dX12_again_16 : decode cX12_again 16 = .ok (.ireturn, 1) := by decide +kernel
theorem dX12_again_17 : decode cX12_again 17 = .ok (.aload_n 0, 1) := by decide +kernel
theorem dX12_again_18 : decode cX12_again 18 = .ok (.getfield 53, 3) := by decide +kernel
theorem dX12_again_21 : decode cX12_again 21 = .ok (.iload_n 1, 1) := by decide +kernel
theorem dX12_again_22 : decode cX12_again 22 = .ok (.baload, 1) := by decide +kernel
theorem dX12_again_23 : decode cX12_again 23 = .ok (.ifCond .ne 6, 3) := by decide +kernel
theorem dX12_again_26 : decode cX12_again 26 = .ok (.bipush (-3), 2) := by decide +kernel
theorem dX12_again_28 : decode cX12_again 28 = .ok (.ireturn, 1) := by decide +kernel
theorem dX12_again_29 : decode cX12_again 29 = .ok (.aload_n 0, 1) := by decide +kernel
theorem dX12_again_30 : decode cX12_again 30 = .ok (.aload_n 0, 1) := by decide +kernel
theorem dX12_again_31 : decode cX12_again 31 = .ok (.getfield 50, 3) := by decide +kernel
theorem dX12_again_34 : decode cX12_again 34 = .ok (.bipush 28, 2) := by decide +kernel
theorem dX12_again_36 : decode cX12_again 36 = .ok (.iload_n 1, 1) := by decide +kernel
theorem dX12_again_37 : decode cX12_again 37 = .ok (.imul, 1) := by decide +kernel
theorem dX12_again_38 : decode cX12_again 38 = .ok (.invokevirtual 216, 3) := by decide +kernel
theorem dX12_again_41 : decode cX12_again 41 = .ok (.aload_n 0, 1) := by decide +kernel
theorem dX12_again_42 : decode cX12_again 42 = .ok (.iconst 0, 1) := by decide +kernel
theorem dX12_again_43 : decode cX12_again 43 = .ok (.putfield 177, 3) := by decide +kernel
theorem dX12_again_46 : decode cX12_again 46 = .ok (.aload_n 0, 1) := by decide +kernel
theorem dX12_again_47 : decode cX12_again 47 = .ok (.getfield 165, 3) := by decide +kernel
theorem dX12_again_50 : decode cX12_again 50 = .ok (.ireturn, 1) := by decide +kernel
theorem dL_law_0 : decode cL_law 0 = .ok (.new 7, 3) := by decide +kernel
theorem dL_law_3 : decode cL_law 3 = .ok (.dup, 1) := by decide +kernel
theorem dL_law_4 : decode cL_law 4 = .ok (.invokespecial 9, 3) := by decide +kernel
theorem dL_law_7 : decode cL_law 7 = .ok (.astore_n 1, 1) := by decide +kernel
theorem dL_law_8 : decode cL_law 8 = .ok (.new 10, 3) := by decide +kernel
theorem dL_law_11 : decode cL_law 11 = .ok (.dup, 1) := by decide +kernel
theorem dL_law_12 : decode cL_law 12 = .ok (.invokespecial 12, 3) := by decide +kernel
theorem dL_law_15 : decode cL_law 15 = .ok (.astore_n 2, 1) := by decide +kernel
theorem dL_law_16 : decode cL_law 16 = .ok (.iconst 0, 1) := by decide +kernel
theorem dL_law_17 : decode cL_law 17 = .ok (.istore_n 3, 1) := by decide +kernel
theorem dL_law_18 : decode cL_law 18 = .ok (.iload_n 3, 1) := by decide +kernel
theorem dL_law_19 : decode cL_law 19 = .ok (.aload_n 0, 1) := by decide +kernel
theorem dL_law_20 : decode cL_law 20 = .ok (.arraylength, 1) := by decide +kernel
theorem dL_law_21 : decode cL_law 21 = .ok (.iconst 4, 1) := by decide +kernel
theorem dL_law_22 : decode cL_law 22 = .ok (.isub, 1) := by decide +kernel
theorem dL_law_23 : decode cL_law 23 = .ok (.if_icmp .gt 880, 3) := by decide +kernel
theorem dL_law_26 : decode cL_law 26 = .ok (.aload_n 0, 1) := by decide +kernel
theorem dL_law_27 : decode cL_law 27 = .ok (.iload_n 3, 1) := by decide +kernel
theorem dL_law_28 : decode cL_law 28 = .ok (.iaload, 1) := by decide +kernel
theorem dL_law_29 : decode cL_law 29 = .ok (.bipush 31, 2) := by decide +kernel
theorem dL_law_31 : decode cL_law 31 = .ok (.iand, 1) := by decide +kernel
theorem dL_law_32 : decode cL_law 32 = .ok (.tableswitch 865 0 24 #[116, 179, 192, 205, 218, 241, 264, 297, 330, 363, 396, 429, 478, 491, 504, 547, 580, 603, 616, 639, 683, 726, 786, 819, 842], 116) := by decide +kernel
theorem dL_law_148 : decode cL_law 148 = .ok (.aload_n 1, 1) := by decide +kernel
theorem dL_law_149 : decode cL_law 149 = .ok (.aload_n 0, 1) := by decide +kernel
theorem dL_law_150 : decode cL_law 150 = .ok (.iload_n 3, 1) := by decide +kernel
theorem dL_law_151 : decode cL_law 151 = .ok (.iconst 1, 1) := by decide +kernel
theorem dL_law_152 : decode cL_law 152 = .ok (.iadd, 1) := by decide +kernel
theorem dL_law_153 : decode cL_law 153 = .ok (.iaload, 1) := by decide +kernel
theorem dL_law_154 : decode cL_law 154 = .ok (.aload_n 0, 1) := by decide +kernel
theorem dL_law_155 : decode cL_law 155 = .ok (.iload_n 3, 1) := by decide +kernel
theorem dL_law_156 : decode cL_law 156 = .ok (.iconst 2, 1) := by decide +kernel
theorem dL_law_157 : decode cL_law 157 = .ok (.iadd, 1) := by decide +kernel
theorem dL_law_158 : decode cL_law 158 = .ok (.iaload, 1) := by decide +kernel
theorem dL_law_159 : decode cL_law 159 = .ok (.i2l, 1) := by decide +kernel
theorem dL_law_160 : decode cL_law 160 = .ok (.bipush 32, 2) := by decide +kernel
theorem dL_law_162 : decode cL_law 162 = .ok (.lshl, 1) := by decide +kernel
theorem dL_law_163 : decode cL_law 163 = .ok (.aload_n 0, 1) := by decide +kernel
theorem dL_law_164 : decode cL_law 164 = .ok (.iload_n 3, 1) := by decide +kernel
theorem dL_law_165 : decode cL_law 165 = .ok (.iconst 3, 1) := by decide +kernel
theorem dL_law_166 : decode cL_law 166 = .ok (.iadd, 1) := by decide +kernel
theorem dL_law_167 : decode cL_law 167 = .ok (.iaload, 1) := by decide +kernel
theorem dL_law_168 : decode cL_law 168 = .ok (.i2l, 1) := by decide +kernel
theorem dL_law_169 : decode cL_law 169 = .ok (.ldc2_w 13, 3) := by decide +kernel
theorem dL_law_172 : decode cL_law 172 = .ok (.land, 1) := by decide +kernel
theorem dL_law_173 : decode cL_law 173 = .ok (.lor, 1) := by decide +kernel
theorem dL_law_174 : decode cL_law 174 = .ok (.invokevirtual 15, 3) := by decide +kernel
theorem dL_law_177 : decode cL_law 177 = .ok (.aload_n 2, 1) := by decide +kernel
theorem dL_law_178 : decode cL_law 178 = .ok (.aload_n 0, 1) := by decide +kernel
theorem dL_law_179 : decode cL_law 179 = .ok (.iload_n 3, 1) := by decide +kernel
theorem dL_law_180 : decode cL_law 180 = .ok (.iconst 1, 1) := by decide +kernel
theorem dL_law_181 : decode cL_law 181 = .ok (.iadd, 1) := by decide +kernel
theorem dL_law_182 : decode cL_law 182 = .ok (.iaload, 1) := by decide +kernel
theorem dL_law_183 : decode cL_law 183 = .ok (.aload_n 0, 1) := by decide +kernel
theorem dL_law_184 : decode cL_law 184 = .ok (.iload_n 3, 1) := by decide +kernel
theorem dL_law_185 : decode cL_law 185 = .ok (.iconst 2, 1) := by decide +kernel
theorem dL_law_186 : decode cL_law 186 = .ok (.iadd, 1) := by decide +kernel
theorem dL_law_187 : decode cL_law 187 = .ok (.iaload, 1) := by decide +kernel
theorem dL_law_188 : decode cL_law 188 = .ok (.i2l, 1) := by decide +kernel
theorem dL_law_189 : decode cL_law 189 = .ok (.bipush 32, 2) := by decide +kernel
theorem dL_law_191 : decode cL_law 191 = .ok (.lshl, 1) := by decide +kernel
theorem dL_law_192 : decode cL_law 192 = .ok (.aload_n 0, 1) := by decide +kernel
theorem dL_law_193 : decode cL_law 193 = .ok (.iload_n 3, 1) := by decide +kernel
theorem dL_law_194 : decode cL_law 194 = .ok (.iconst 3, 1) := by decide +kernel
theorem dL_law_195 : decode cL_law 195 = .ok (.iadd, 1) := by decide +kernel
theorem dL_law_196 : decode cL_law 196 = .ok (.iaload, 1) := by decide +kernel
theorem dL_law_197 : decode cL_law 197 = .ok (.i2l, 1) := by decide +kernel
theorem dL_law_198 : decode cL_law 198 = .ok (.ldc2_w 13, 3) := by decide +kernel
theorem dL_law_201 : decode cL_law 201 = .ok (.land, 1) := by decide +kernel
theorem dL_law_202 : decode cL_law 202 = .ok (.lor, 1) := by decide +kernel
theorem dL_law_203 : decode cL_law 203 = .ok (.invokevirtual 19, 3) := by decide +kernel
theorem dL_law_206 : decode cL_law 206 = .ok (.if_icmp .eq 691, 3) := by decide +kernel
theorem dL_law_209 : decode cL_law 209 = .ok (.iconst 0, 1) := by decide +kernel
theorem dL_law_210 : decode cL_law 210 = .ok (.ireturn, 1) := by decide +kernel
theorem dL_law_211 : decode cL_law 211 = .ok (.aload_n 1, 1) := by decide +kernel
theorem dL_law_212 : decode cL_law 212 = .ok (.invokevirtual 20, 3) := by decide +kernel
theorem dL_law_215 : decode cL_law 215 = .ok (.aload_n 2, 1) := by decide +kernel
theorem dL_law_216 : decode cL_law 216 = .ok (.invokevirtual 24, 3) := by decide +kernel
theorem dL_law_219 : decode cL_law 219 = .ok (.if_icmp .eq 678, 3) := by decide +kernel
theorem dL_law_222 : decode cL_law 222 = .ok (.iconst 0, 1) := by decide +kernel
theorem dL_law_223 : decode cL_law 223 = .ok (.ireturn, 1) := by decide +kernel
theorem dL_law_224 : decode cL_law 224 = .ok (.aload_n 1, 1) := by decide +kernel
theorem dL_law_225 : decode cL_law 225 = .ok (.invokevirtual 25, 3) := by decide +kernel
theorem dL_law_228 : decode cL_law 228 = .ok (.aload_n 2, 1) := by decide +kernel
theorem dL_law_229 : decode cL_law 229 = .ok (.invokevirtual 28, 3) := by decide +kernel
theorem dL_law_232 : decode cL_law 232 = .ok (.if_icmp .eq 665, 3) := by decide +kernel
theorem dL_law_235 : decode cL_law 235 = .ok (.iconst 0, 1) := by decide +kernel
theorem dL_law_236 : decode cL_law 236 = .ok (.ireturn, 1) := by decide +kernel
theorem dL_law_237 : decode cL_law 237 = .ok (.aload_n 1, 1) := by decide +kernel
theorem dL_law_238 : decode cL_law 238 = .ok (.invokevirtual 29, 3) := by decide +kernel
theorem dL_law_241 : decode cL_law 241 = .ok (.aload_n 2, 1) := by decide +kernel
theorem dL_law_242 : decode cL_law 242 = .ok (.invokevirtual 32, 3) := by decide +kernel
theorem dL_law_245 : decode cL_law 245 = .ok (.if_icmp .eq 652, 3) := by decide +kernel
theorem dL_law_248 : decode cL_law 248 = .ok (.iconst 0, 1) := by decide +kernel
theorem dL_law_249 : decode cL_law 249 = .ok (.ireturn, 1) := by decide +kernel
theorem dL_law_250 : decode cL_law 250 = .ok (.aload_n 1, 1) := by decide +kernel
theorem dL_law_251 : decode cL_law 251 = .ok (.aload_n 0, 1) := by decide +kernel
theorem dL_law_252 : decode cL_law 252 = .ok (.iload_n 3, 1) := by decide +kernel
theorem dL_law_253 : decode cL_law 253 = .ok (.iconst 1, 1) := by decide +kernel
theorem dL_law_254 : decode cL_law 254 = .ok (.iadd, 1) := by decide +kernel
theorem dL_law_255 : decode cL_law 255 = .ok (.iaload, 1) := by decide +kernel
theorem dL_law_256 : decode cL_law 256 = .ok (.invokevirtual 33, 3) := by decide +kernel
theorem dL_law_259 : decode cL_law 259 = .ok (.aload_n 2, 1) := by decide +kernel
theorem dL_law_260 : decode cL_law 260 = .ok (.aload_n 0, 1) := by decide +kernel
theorem dL_law_261 : decode cL_law 261 = .ok (.iload_n 3, 1) := by decide +kernel
theorem dL_law_262 : decode cL_law 262 = .ok (.iconst 1, 1) := by decide +kernel
theorem dL_law_263 : decode cL_law 263 = .ok (.iadd, 1) := by decide +kernel
theorem dL_law_264 : decode cL_law 264 = .ok (.iaload, 1) := by decide +kernel
theorem dL_law_265 : decode cL_law 265 = .ok (.invokevirtual 37, 3) := by decide +kernel
theorem dL_law_268 : decode cL_law 268 = .ok (.if_icmp .eq 629, 3) := by decide +kernel
theorem dL_law_271 : decode cL_law 271 = .ok (.iconst 0, 1) := by decide +kernel
theorem dL_law_272 : decode cL_law 272 = .ok (.ireturn, 1) := by decide +kernel
theorem dL_law_273 : decode cL_law 273 = .ok (.aload_n 1, 1) := by decide +kernel
theorem dL_law_274 : decode cL_law 274 = .ok (.aload_n 0, 1) := by decide +kernel
theorem dL_law_275 : decode cL_law 275 = .ok (.iload_n 3, 1) := by decide +kernel
theorem dL_law_276 : decode cL_law 276 = .ok (.iconst 1, 1) := by decide +kernel
theorem dL_law_277 : decode cL_law 277 = .ok (.iadd, 1) := by decide +kernel
theorem dL_law_278 : decode cL_law 278 = .ok (.iaload, 1) := by decide +kernel
theorem dL_law_279 : decode cL_law 279 = .ok (.invokevirtual 38, 3) := by decide +kernel
theorem dL_law_282 : decode cL_law 282 = .ok (.aload_n 2, 1) := by decide +kernel
theorem dL_law_283 : decode cL_law 283 = .ok (.aload_n 0, 1) := by decide +kernel
theorem dL_law_284 : decode cL_law 284 = .ok (.iload_n 3, 1) := by decide +kernel
theorem dL_law_285 : decode cL_law 285 = .ok (.iconst 1, 1) := by decide +kernel
theorem dL_law_286 : decode cL_law 286 = .ok (.iadd, 1) := by decide +kernel
theorem dL_law_287 : decode cL_law 287 = .ok (.iaload, 1) := by decide +kernel
theorem dL_law_288 : decode cL_law 288 = .ok (.invokevirtual 41, 3) := by decide +kernel
theorem dL_law_291 : decode cL_law 291 = .ok (.if_icmp .eq 606, 3) := by decide +kernel
theorem dL_law_294 : decode cL_law 294 = .ok (.iconst 0, 1) := by decide +kernel
theorem dL_law_295 : decode cL_law 295 = .ok (.ireturn, 1) := by decide +kernel
theorem dL_law_296 : decode cL_law 296 = .ok (.aload_n 1, 1) := by decide +kernel
theorem dL_law_297 : decode cL_law 297 = .ok (.aload_n 0, 1) := by decide +kernel
theorem dL_law_298 : decode cL_law 298 = .ok (.iload_n 3, 1) := by decide +kernel
theorem dL_law_299 : decode cL_law 299 = .ok (.iconst 1, 1) := by decide +kernel
theorem dL_law_300 : decode cL_law 300 = .ok (.iadd, 1) := by decide +kernel
theorem dL_law_301 : decode cL_law 301 = .ok (.iaload, 1) := by decide +kernel
theorem dL_law_302 : decode cL_law 302 = .ok (.aload_n 0, 1) := by decide +kernel
theorem dL_law_303 : decode cL_law 303 = .ok (.iload_n 3, 1) := by decide +kernel
theorem dL_law_304 : decode cL_law 304 = .ok (.iconst 2, 1) := by decide +kernel
theorem dL_law_305 : decode cL_law 305 = .ok (.iadd, 1) := by decide +kernel
theorem dL_law_306 : decode cL_law 306 = .ok (.iaload, 1) := by decide +kernel
theorem dL_law_307 : decode cL_law 307 = .ok (.invokevirtual 42, 3) := by decide +kernel
theorem dL_law_310 : decode cL_law 310 = .ok (.aload_n 2, 1) := by decide +kernel
theorem dL_law_311 : decode cL_law 311 = .ok (.aload_n 0, 1) := by decide +kernel
theorem dL_law_312 : decode cL_law 312 = .ok (.iload_n 3, 1) := by decide +kernel
theorem dL_law_313 : decode cL_law 313 = .ok (.iconst 1, 1) := by decide +kernel
theorem dL_law_314 : decode cL_law 314 = .ok (.iadd, 1) := by decide +kernel
theorem dL_law_315 : decode cL_law 315 = .ok (.iaload, 1) := by decide +kernel
theorem dL_law_316 : decode cL_law 316 = .ok (.aload_n 0, 1) := by decide +kernel
theorem dL_law_317 : decode cL_law 317 = .ok (.iload_n 3, 1) := by decide +kernel
theorem dL_law_318 : decode cL_law 318 = .ok (.iconst 2, 1) := by decide +kernel
theorem dL_law_319 : decode cL_law 319 = .ok (.iadd, 1) := by decide +kernel
theorem dL_law_320 : decode cL_law 320 = .ok (.iaload, 1) := by decide +kernel
theorem dL_law_321 : decode cL_law 321 = .ok (.invokevirtual 46, 3) := by decide +kernel
theorem dL_law_324 : decode cL_law 324 = .ok (.if_icmp .eq 573, 3) := by decide +kernel
theorem dL_law_327 : decode cL_law 327 = .ok (.iconst 0, 1) := by decide +kernel
theorem dL_law_328 : decode cL_law 328 = .ok (.ireturn, 1) := by decide +kernel
theorem dL_law_329 : decode cL_law 329 = .ok (.aload_n 1, 1) := by decide +kernel
theorem dL_law_330 : decode cL_law 330 = .ok (.aload_n 0, 1) := by decide +kernel
theorem dL_law_331 : decode cL_law 331 = .ok (.iload_n 3, 1) := by decide +kernel
theorem dL_law_332 : decode cL_law 332 = .ok (.iconst 1, 1) := by decide +kernel
theorem dL_law_333 : decode cL_law 333 = .ok (.iadd, 1) := by decide +kernel
theorem dL_law_334 : decode cL_law 334 = .ok (.iaload, 1) := by decide +kernel
theorem dL_law_335 : decode cL_law 335 = .ok (.aload_n 0, 1) := by decide +kernel
theorem dL_law_336 : decode cL_law 336 = .ok (.iload_n 3, 1) := by decide +kernel
theorem dL_law_337 : decode cL_law 337 = .ok (.iconst 2, 1) := by decide +kernel
theorem dL_law_338 : decode cL_law 338 = .ok (.iadd, 1) := by decide +kernel
theorem dL_law_339 : decode cL_law 339 = .ok (.iaload, 1) := by decide +kernel
theorem dL_law_340 : decode cL_law 340 = .ok (.invokevirtual 47, 3) := by decide +kernel
theorem dL_law_343 : decode cL_law 343 = .ok (.aload_n 2, 1) := by decide +kernel
theorem dL_law_344 : decode cL_law 344 = .ok (.aload_n 0, 1) := by decide +kernel
theorem dL_law_345 : decode cL_law 345 = .ok (.iload_n 3, 1) := by decide +kernel
theorem dL_law_346 : decode cL_law 346 = .ok (.iconst 1, 1) := by decide +kernel
theorem dL_law_347 : decode cL_law 347 = .ok (.iadd, 1) := by decide +kernel
theorem dL_law_348 : decode cL_law 348 = .ok (.iaload, 1) := by decide +kernel
theorem dL_law_349 : decode cL_law 349 = .ok (.aload_n 0, 1) := by decide +kernel
theorem dL_law_350 : decode cL_law 350 = .ok (.iload_n 3, 1) := by decide +kernel
theorem dL_law_351 : decode cL_law 351 = .ok (.iconst 2, 1) := by decide +kernel
theorem dL_law_352 : decode cL_law 352 = .ok (.iadd, 1) := by decide +kernel
theorem dL_law_353 : decode cL_law 353 = .ok (.iaload, 1) := by decide +kernel
theorem dL_law_354 : decode cL_law 354 = .ok (.invokevirtual 50, 3) := by decide +kernel
theorem dL_law_357 : decode cL_law 357 = .ok (.if_icmp .eq 540, 3) := by decide +kernel
theorem dL_law_360 : decode cL_law 360 = .ok (.iconst 0, 1) := by decide +kernel
theorem dL_law_361 : decode cL_law 361 = .ok (.ireturn, 1) := by decide +kernel
theorem dL_law_362 : decode cL_law 362 = .ok (.aload_n 1, 1) := by decide +kernel
theorem dL_law_363 : decode cL_law 363 = .ok (.aload_n 0, 1) := by decide +kernel
theorem dL_law_364 : decode cL_law 364 = .ok (.iload_n 3, 1) := by decide +kernel
theorem dL_law_365 : decode cL_law 365 = .ok (.iconst 1, 1) := by decide +kernel
theorem dL_law_366 : decode cL_law 366 = .ok (.iadd, 1) := by decide +kernel
theorem dL_law_367 : decode cL_law 367 = .ok (.iaload, 1) := by decide +kernel
theorem dL_law_368 : decode cL_law 368 = .ok (.aload_n 0, 1) := by decide +kernel
theorem dL_law_369 : decode cL_law 369 = .ok (.iload_n 3, 1) := by decide +kernel
theorem dL_law_370 : decode cL_law 370 = .ok (.iconst 2, 1) := by decide +kernel
theorem dL_law_371 : decode cL_law 371 = .ok (.iadd, 1) := by decide +kernel
theorem dL_law_372 : decode cL_law 372 = .ok (.iaload, 1) := by decide +kernel
theorem dL_law_373 : decode cL_law 373 = .ok (.invokevirtual 51, 3) := by decide +kernel
theorem dL_law_376 : decode cL_law 376 = .ok (.aload_n 2, 1) := by decide +kernel
theorem dL_law_377 : decode cL_law 377 = .ok (.aload_n 0, 1) := by decide +kernel
theorem dL_law_378 : decode cL_law 378 = .ok (.iload_n 3, 1) := by decide +kernel
theorem dL_law_379 : decode cL_law 379 = .ok (.iconst 1, 1) := by decide +kernel
theorem dL_law_380 : decode cL_law 380 = .ok (.iadd, 1) := by decide +kernel
theorem dL_law_381 : decode cL_law 381 = .ok (.iaload, 1) := by decide +kernel
theorem dL_law_382 : decode cL_law 382 = .ok (.aload_n 0, 1) := by decide +kernel
theorem dL_law_383 : decode cL_law 383 = .ok (.iload_n 3, 1) := by decide +kernel
theorem dL_law_384 : decode cL_law 384 = .ok (.iconst 2, 1) := by decide +kernel
theorem dL_law_385 : decode cL_law 385 = .ok (.iadd, 1) := by decide +kernel
theorem dL_law_386 : decode cL_law 386 = .ok (.iaload, 1) := by decide +kernel
theorem dL_law_387 : decode cL_law 387 = .ok (.invokevirtual 54, 3) := by decide +kernel
theorem dL_law_390 : decode cL_law 390 = .ok (.if_icmp .eq 507, 3) := by decide +kernel
theorem dL_law_393 : decode cL_law 393 = .ok (.iconst 0, 1) := by decide +kernel
theorem dL_law_394 : decode cL_law 394 = .ok (.ireturn, 1) := by decide +kernel
theorem dL_law_395 : decode cL_law 395 = .ok (.aload_n 1, 1) := by decide +kernel
theorem dL_law_396 : decode cL_law 396 = .ok (.aload_n 0, 1) := by decide +kernel
theorem dL_law_397 : decode cL_law 397 = .ok (.iload_n 3, 1) := by decide +kernel
theorem dL_law_398 : decode cL_law 398 = .ok (.iconst 1, 1) := by decide +kernel
theorem dL_law_399 : decode cL_law 399 = .ok (.iadd, 1) := by decide +kernel
theorem dL_law_400 : decode cL_law 400 = .ok (.iaload, 1) := by decide +kernel
theorem dL_law_401 : decode cL_law 401 = .ok (.aload_n 0, 1) := by decide +kernel
theorem dL_law_402 : decode cL_law 402 = .ok (.iload_n 3, 1) := by decide +kernel
theorem dL_law_403 : decode cL_law 403 = .ok (.iconst 2, 1) := by decide +kernel
theorem dL_law_404 : decode cL_law 404 = .ok (.iadd, 1) := by decide +kernel
theorem dL_law_405 : decode cL_law 405 = .ok (.iaload, 1) := by decide +kernel
theorem dL_law_406 : decode cL_law 406 = .ok (.invokevirtual 55, 3) := by decide +kernel
theorem dL_law_409 : decode cL_law 409 = .ok (.aload_n 2, 1) := by decide +kernel
theorem dL_law_410 : decode cL_law 410 = .ok (.aload_n 0, 1) := by decide +kernel
theorem dL_law_411 : decode cL_law 411 = .ok (.iload_n 3, 1) := by decide +kernel
theorem dL_law_412 : decode cL_law 412 = .ok (.iconst 1, 1) := by decide +kernel
theorem dL_law_413 : decode cL_law 413 = .ok (.iadd, 1) := by decide +kernel
theorem dL_law_414 : decode cL_law 414 = .ok (.iaload, 1) := by decide +kernel
theorem dL_law_415 : decode cL_law 415 = .ok (.aload_n 0, 1) := by decide +kernel
theorem dL_law_416 : decode cL_law 416 = .ok (.iload_n 3, 1) := by decide +kernel
theorem dL_law_417 : decode cL_law 417 = .ok (.iconst 2, 1) := by decide +kernel
theorem dL_law_418 : decode cL_law 418 = .ok (.iadd, 1) := by decide +kernel
theorem dL_law_419 : decode cL_law 419 = .ok (.iaload, 1) := by decide +kernel
theorem dL_law_420 : decode cL_law 420 = .ok (.invokevirtual 58, 3) := by decide +kernel
theorem dL_law_423 : decode cL_law 423 = .ok (.if_icmp .eq 474, 3) := by decide +kernel
theorem dL_law_426 : decode cL_law 426 = .ok (.iconst 0, 1) := by decide +kernel
theorem dL_law_427 : decode cL_law 427 = .ok (.ireturn, 1) := by decide +kernel
theorem dL_law_428 : decode cL_law 428 = .ok (.aload_n 1, 1) := by decide +kernel
theorem dL_law_429 : decode cL_law 429 = .ok (.aload_n 0, 1) := by decide +kernel
theorem dL_law_430 : decode cL_law 430 = .ok (.iload_n 3, 1) := by decide +kernel
theorem dL_law_431 : decode cL_law 431 = .ok (.iconst 1, 1) := by decide +kernel
theorem dL_law_432 : decode cL_law 432 = .ok (.iadd, 1) := by decide +kernel
theorem dL_law_433 : decode cL_law 433 = .ok (.iaload, 1) := by decide +kernel
theorem dL_law_434 : decode cL_law 434 = .ok (.aload_n 0, 1) := by decide +kernel
theorem dL_law_435 : decode cL_law 435 = .ok (.iload_n 3, 1) := by decide +kernel
theorem dL_law_436 : decode cL_law 436 = .ok (.iconst 2, 1) := by decide +kernel
theorem dL_law_437 : decode cL_law 437 = .ok (.iadd, 1) := by decide +kernel
theorem dL_law_438 : decode cL_law 438 = .ok (.iaload, 1) := by decide +kernel
theorem dL_law_439 : decode cL_law 439 = .ok (.invokevirtual 59, 3) := by decide +kernel
theorem dL_law_442 : decode cL_law 442 = .ok (.aload_n 2, 1) := by decide +kernel
theorem dL_law_443 : decode cL_law 443 = .ok (.aload_n 0, 1) := by decide +kernel
theorem dL_law_444 : decode cL_law 444 = .ok (.iload_n 3, 1) := by decide +kernel
theorem dL_law_445 : decode cL_law 445 = .ok (.iconst 1, 1) := by decide +kernel
theorem dL_law_446 : decode cL_law 446 = .ok (.iadd, 1) := by decide +kernel
theorem dL_law_447 : decode cL_law 447 = .ok (.iaload, 1) := by decide +kernel
theorem dL_law_448 : decode cL_law 448 = .ok (.aload_n 0, 1) := by decide +kernel
theorem dL_law_449 : decode cL_law 449 = .ok (.iload_n 3, 1) := by decide +kernel
theorem dL_law_450 : decode cL_law 450 = .ok (.iconst 2, 1) := by decide +kernel
theorem dL_law_451 : decode cL_law 451 = .ok (.iadd, 1) := by decide +kernel
theorem dL_law_452 : decode cL_law 452 = .ok (.iaload, 1) := by decide +kernel
theorem dL_law_453 : decode cL_law 453 = .ok (.invokevirtual 62, 3) := by decide +kernel
theorem dL_law_456 : decode cL_law 456 = .ok (.if_icmp .eq 441, 3) := by decide +kernel
theorem dL_law_459 : decode cL_law 459 = .ok (.iconst 0, 1) := by decide +kernel
theorem dL_law_460 : decode cL_law 460 = .ok (.ireturn, 1) := by decide +kernel
theorem dL_law_461 : decode cL_law 461 = .ok (.aload_n 1, 1) := by decide +kernel
theorem dL_law_462 : decode cL_law 462 = .ok (.aload_n 0, 1) := by decide +kernel
theorem dL_law_463 : decode cL_law 463 = .ok (.iload_n 3, 1) := by decide +kernel
theorem dL_law_464 : decode cL_law 464 = .ok (.iconst 1, 1) := by decide +kernel
theorem dL_law_465 : decode cL_law 465 = .ok (.iadd, 1) := by decide +kernel
theorem dL_law_466 : decode cL_law 466 = .ok (.iaload, 1) := by decide +kernel
theorem dL_law_467 : decode cL_law 467 = .ok (.aload_n 0, 1) := by decide +kernel
theorem dL_law_468 : decode cL_law 468 = .ok (.iload_n 3, 1) := by decide +kernel
theorem dL_law_469 : decode cL_law 469 = .ok (.iconst 2, 1) := by decide +kernel
theorem dL_law_470 : decode cL_law 470 = .ok (.iadd, 1) := by decide +kernel
theorem dL_law_471 : decode cL_law 471 = .ok (.iaload, 1) := by decide +kernel
theorem dL_law_472 : decode cL_law 472 = .ok (.ifCond .eq 7, 3) := by decide +kernel
theorem dL_law_475 : decode cL_law 475 = .ok (.iconst 1, 1) := by decide +kernel
theorem dL_law_476 : decode cL_law 476 = .ok (.goto 4, 3) := by decide +kernel
theorem dL_law_479 : decode cL_law 479 = .ok (.iconst 0, 1) := by decide +kernel
theorem dL_law_480 : decode cL_law 480 = .ok (.invokevirtual 63, 3) := by decide +kernel
theorem dL_law_483 : decode cL_law 483 = .ok (.aload_n 2, 1) := by decide +kernel
theorem dL_law_484 : decode cL_law 484 = .ok (.aload_n 0, 1) := by decide +kernel
theorem dL_law_485 : decode cL_law 485 = .ok (.iload_n 3, 1) := by decide +kernel
theorem dL_law_486 : decode cL_law 486 = .ok (.iconst 1, 1) := by decide +kernel
theorem dL_law_487 : decode cL_law 487 = .ok (.iadd, 1) := by decide +kernel
theorem dL_law_488 : decode cL_law 488 = .ok (.iaload, 1) := by decide +kernel
theorem dL_law_489 : decode cL_law 489 = .ok (.aload_n 0, 1) := by decide +kernel
theorem dL_law_490 : decode cL_law 490 = .ok (.iload_n 3, 1) := by decide +kernel
theorem dL_law_491 : decode cL_law 491 = .ok (.iconst 2, 1) := by decide +kernel
theorem dL_law_492 : decode cL_law 492 = .ok (.iadd, 1) := by decide +kernel
theorem dL_law_493 : decode cL_law 493 = .ok (.iaload, 1) := by decide +kernel
theorem dL_law_494 : decode cL_law 494 = .ok (.ifCond .eq 7, 3) := by decide +kernel
theorem dL_law_497 : decode cL_law 497 = .ok (.iconst 1, 1) := by decide +kernel
theorem dL_law_498 : decode cL_law 498 = .ok (.goto 4, 3) := by decide +kernel
theorem dL_law_501 : decode cL_law 501 = .ok (.iconst 0, 1) := by decide +kernel
theorem dL_law_502 : decode cL_law 502 = .ok (.invokevirtual 67, 3) := by decide +kernel
theorem dL_law_505 : decode cL_law 505 = .ok (.if_icmp .eq 392, 3) := by decide +kernel
theorem dL_law_508 : decode cL_law 508 = .ok (.iconst 0, 1) := by decide +kernel
theorem dL_law_509 : decode cL_law 509 = .ok (.ireturn, 1) := by decide +kernel
theorem dL_law_510 : decode cL_law 510 = .ok (.aload_n 1, 1) := by decide +kernel
theorem dL_law_511 : decode cL_law 511 = .ok (.invokevirtual 68, 3) := by decide +kernel
theorem dL_law_514 : decode cL_law 514 = .ok (.aload_n 2, 1) := by decide +kernel
theorem dL_law_515 : decode cL_law 515 = .ok (.invokevirtual 71, 3) := by decide +kernel
theorem dL_law_518 : decode cL_law 518 = .ok (.if_icmp .eq 379, 3) := by decide +kernel
theorem dL_law_521 : decode cL_law 521 = .ok (.iconst 0, 1) := by decide +kernel
theorem dL_law_522 : decode cL_law 522 = .ok (.ireturn, 1) := by decide +kernel
theorem dL_law_523 : decode cL_law 523 = .ok (.aload_n 1, 1) := by decide +kernel
theorem dL_law_524 : decode cL_law 524 = .ok (.invokevirtual 72, 3) := by decide +kernel
theorem dL_law_527 : decode cL_law 527 = .ok (.aload_n 2, 1) := by decide +kernel
theorem dL_law_528 : decode cL_law 528 = .ok (.invokevirtual 75, 3) := by decide +kernel
theorem dL_law_531 : decode cL_law 531 = .ok (.if_icmp .eq 366, 3) := by decide +kernel
theorem dL_law_534 : decode cL_law 534 = .ok (.iconst 0, 1) := by decide +kernel
theorem dL_law_535 : decode cL_law 535 = .ok (.ireturn, 1) := by decide +kernel
theorem dL_law_536 : decode cL_law 536 = .ok (.aload_n 1, 1) := by decide +kernel
theorem dL_law_537 : decode cL_law 537 = .ok (.aload_n 0, 1) := by decide +kernel
theorem dL_law_538 : decode cL_law 538 = .ok (.iload_n 3, 1) := by decide +kernel
theorem dL_law_539 : decode cL_law 539 = .ok (.iconst 1, 1) := by decide +kernel
theorem dL_law_540 : decode cL_law 540 = .ok (.iadd, 1) := by decide +kernel
theorem dL_law_541 : decode cL_law 541 = .ok (.iaload, 1) := by decide +kernel
theorem dL_law_542 : decode cL_law 542 = .ok (.aload_n 0, 1) := by decide +kernel
theorem dL_law_543 : decode cL_law 543 = .ok (.iload_n 3, 1) := by decide +kernel
theorem dL_law_544 : decode cL_law 544 = .ok (.iconst 2, 1) := by decide +kernel
theorem dL_law_545 : decode cL_law 545 = .ok (.iadd, 1) := by decide +kernel
theorem dL_law_546 : decode cL_law 546 = .ok (.iaload, 1) := by decide +kernel
theorem dL_law_547 : decode cL_law 547 = .ok (.aload_n 0, 1) := by decide +kernel
theorem dL_law_548 : decode cL_law 548 = .ok (.iload_n 3, 1) := by decide +kernel
theorem dL_law_549 : decode cL_law 549 = .ok (.iconst 3, 1) := by decide +kernel
theorem dL_law_550 : decode cL_law 550 = .ok (.iadd, 1) := by decide +kernel
theorem dL_law_551 : decode cL_law 551 = .ok (.iaload, 1) := by decide +kernel
theorem dL_law_552 : decode cL_law 552 = .ok (.invokevirtual 76, 3) := by decide +kernel
theorem dL_law_555 : decode cL_law 555 = .ok (.aload_n 2, 1) := by decide +kernel
theorem dL_law_556 : decode cL_law 556 = .ok (.aload_n 0, 1) := by decide +kernel
theorem dL_law_557 : decode cL_law 557 = .ok (.iload_n 3, 1) := by decide +kernel
theorem dL_law_558 : decode cL_law 558 = .ok (.iconst 1, 1) := by decide +kernel
theorem dL_law_559 : decode cL_law 559 = .ok (.iadd, 1) := by decide +kernel
theorem dL_law_560 : decode cL_law 560 = .ok (.iaload, 1) := by decide +kernel
theorem dL_law_561 : decode cL_law 561 = .ok (.aload_n 0, 1) := by decide +kernel
theorem dL_law_562 : decode cL_law 562 = .ok (.iload_n 3, 1) := by decide +kernel
theorem dL_law_563 : decode cL_law 563 = .ok (.iconst 2, 1) := by decide +kernel
theorem dL_law_564 : decode cL_law 564 = .ok (.iadd, 1) := by decide +kernel
theorem dL_law_565 : decode cL_law 565 = .ok (.iaload, 1) := by decide +kernel
theorem dL_law_566 : decode cL_law 566 = .ok (.aload_n 0, 1) := by decide +kernel
theorem dL_law_567 : decode cL_law 567 = .ok (.iload_n 3, 1) := by decide +kernel
theorem dL_law_568 : decode cL_law 568 = .ok (.iconst 3, 1) := by decide +kernel
theorem dL_law_569 : decode cL_law 569 = .ok (.iadd, 1) := by decide +kernel
theorem dL_law_570 : decode cL_law 570 = .ok (.iaload, 1) := by decide +kernel
theorem dL_law_571 : decode cL_law 571 = .ok (.invokevirtual 80, 3) := by decide +kernel
theorem dL_law_574 : decode cL_law 574 = .ok (.if_icmp .eq 323, 3) := by decide +kernel
theorem dL_law_577 : decode cL_law 577 = .ok (.iconst 0, 1) := by decide +kernel
theorem dL_law_578 : decode cL_law 578 = .ok (.ireturn, 1) := by decide +kernel
theorem dL_law_579 : decode cL_law 579 = .ok (.aload_n 1, 1) := by decide +kernel
theorem dL_law_580 : decode cL_law 580 = .ok (.aload_n 0, 1) := by decide +kernel
theorem dL_law_581 : decode cL_law 581 = .ok (.iload_n 3, 1) := by decide +kernel
theorem dL_law_582 : decode cL_law 582 = .ok (.iconst 1, 1) := by decide +kernel
theorem dL_law_583 : decode cL_law 583 = .ok (.iadd, 1) := by decide +kernel
theorem dL_law_584 : decode cL_law 584 = .ok (.iaload, 1) := by decide +kernel
theorem dL_law_585 : decode cL_law 585 = .ok (.aload_n 0, 1) := by decide +kernel
theorem dL_law_586 : decode cL_law 586 = .ok (.iload_n 3, 1) := by decide +kernel
theorem dL_law_587 : decode cL_law 587 = .ok (.iconst 2, 1) := by decide +kernel
theorem dL_law_588 : decode cL_law 588 = .ok (.iadd, 1) := by decide +kernel
theorem dL_law_589 : decode cL_law 589 = .ok (.iaload, 1) := by decide +kernel
theorem dL_law_590 : decode cL_law 590 = .ok (.invokevirtual 81, 3) := by decide +kernel
theorem dL_law_593 : decode cL_law 593 = .ok (.aload_n 2, 1) := by decide +kernel
theorem dL_law_594 : decode cL_law 594 = .ok (.aload_n 0, 1) := by decide +kernel
theorem dL_law_595 : decode cL_law 595 = .ok (.iload_n 3, 1) := by decide +kernel
theorem dL_law_596 : decode cL_law 596 = .ok (.iconst 1, 1) := by decide +kernel
theorem dL_law_597 : decode cL_law 597 = .ok (.iadd, 1) := by decide +kernel
theorem dL_law_598 : decode cL_law 598 = .ok (.iaload, 1) := by decide +kernel
theorem dL_law_599 : decode cL_law 599 = .ok (.aload_n 0, 1) := by decide +kernel
theorem dL_law_600 : decode cL_law 600 = .ok (.iload_n 3, 1) := by decide +kernel
theorem dL_law_601 : decode cL_law 601 = .ok (.iconst 2, 1) := by decide +kernel
theorem dL_law_602 : decode cL_law 602 = .ok (.iadd, 1) := by decide +kernel
theorem dL_law_603 : decode cL_law 603 = .ok (.iaload, 1) := by decide +kernel
theorem dL_law_604 : decode cL_law 604 = .ok (.invokevirtual 84, 3) := by decide +kernel
theorem dL_law_607 : decode cL_law 607 = .ok (.if_icmp .eq 290, 3) := by decide +kernel
theorem dL_law_610 : decode cL_law 610 = .ok (.iconst 0, 1) := by decide +kernel
theorem dL_law_611 : decode cL_law 611 = .ok (.ireturn, 1) := by decide +kernel
theorem dL_law_612 : decode cL_law 612 = .ok (.aload_n 1, 1) := by decide +kernel
theorem dL_law_613 : decode cL_law 613 = .ok (.aload_n 0, 1) := by decide +kernel
theorem dL_law_614 : decode cL_law 614 = .ok (.iload_n 3, 1) := by decide +kernel
theorem dL_law_615 : decode cL_law 615 = .ok (.iconst 1, 1) := by decide +kernel
theorem dL_law_616 : decode cL_law 616 = .ok (.iadd, 1) := by decide +kernel
theorem dL_law_617 : decode cL_law 617 = .ok (.iaload, 1) := by decide +kernel
theorem dL_law_618 : decode cL_law 618 = .ok (.invokevirtual 85, 3) := by decide +kernel
theorem dL_law_621 : decode cL_law 621 = .ok (.aload_n 2, 1) := by decide +kernel
theorem dL_law_622 : decode cL_law 622 = .ok (.aload_n 0, 1) := by decide +kernel
theorem dL_law_623 : decode cL_law 623 = .ok (.iload_n 3, 1) := by decide +kernel
theorem dL_law_624 : decode cL_law 624 = .ok (.iconst 1, 1) := by decide +kernel
theorem dL_law_625 : decode cL_law 625 = .ok (.iadd, 1) := by decide +kernel
theorem dL_law_626 : decode cL_law 626 = .ok (.iaload, 1) := by decide +kernel
theorem dL_law_627 : decode cL_law 627 = .ok (.invokevirtual 88, 3) := by decide +kernel
theorem dL_law_630 : decode cL_law 630 = .ok (.if_icmp .eq 267, 3) := by decide +kernel
theorem dL_law_633 : decode cL_law 633 = .ok (.iconst 0, 1) := by decide +kernel
theorem dL_law_634 : decode cL_law 634 = .ok (.ireturn, 1) := by decide +kernel
theorem dL_law_635 : decode cL_law 635 = .ok (.aload_n 1, 1) := by decide +kernel
theorem dL_law_636 : decode cL_law 636 = .ok (.invokevirtual 89, 3) := by decide +kernel
theorem dL_law_639 : decode cL_law 639 = .ok (.aload_n 2, 1) := by decide +kernel
theorem dL_law_640 : decode cL_law 640 = .ok (.invokevirtual 92, 3) := by decide +kernel
theorem dL_law_643 : decode cL_law 643 = .ok (.if_icmp .eq 254, 3) := by decide +kernel
theorem dL_law_646 : decode cL_law 646 = .ok (.iconst 0, 1) := by decide +kernel
theorem dL_law_647 : decode cL_law 647 = .ok (.ireturn, 1) := by decide +kernel
theorem dL_law_648 : decode cL_law 648 = .ok (.aload_n 1, 1) := by decide +kernel
theorem dL_law_649 : decode cL_law 649 = .ok (.aload_n 0, 1) := by decide +kernel
theorem dL_law_650 : decode cL_law 650 = .ok (.iload_n 3, 1) := by decide +kernel
theorem dL_law_651 : decode cL_law 651 = .ok (.iconst 1, 1) := by decide +kernel
theorem dL_law_652 : decode cL_law 652 = .ok (.iadd, 1) := by decide +kernel
theorem dL_law_653 : decode cL_law 653 = .ok (.iaload, 1) := by decide +kernel
theorem dL_law_654 : decode cL_law 654 = .ok (.invokevirtual 93, 3) := by decide +kernel
theorem dL_law_657 : decode cL_law 657 = .ok (.aload_n 2, 1) := by decide +kernel
theorem dL_law_658 : decode cL_law 658 = .ok (.aload_n 0, 1) := by decide +kernel
theorem dL_law_659 : decode cL_law 659 = .ok (.iload_n 3, 1) := by decide +kernel
theorem dL_law_660 : decode cL_law 660 = .ok (.iconst 1, 1) := by decide +kernel
theorem dL_law_661 : decode cL_law 661 = .ok (.iadd, 1) := by decide +kernel
theorem dL_law_662 : decode cL_law 662 = .ok (.iaload, 1) := by decide +kernel
theorem dL_law_663 : decode cL_law 663 = .ok (.invokevirtual 96, 3) := by decide +kernel
theorem dL_law_666 : decode cL_law 666 = .ok (.if_icmp .eq 231, 3) := by decide +kernel
theorem dL_law_669 : decode cL_law 669 = .ok (.iconst 0, 1) := by decide +kernel
theorem dL_law_670 : decode cL_law 670 = .ok (.ireturn, 1) := by decide +kernel
theorem dL_law_671 : decode cL_law 671 = .ok (.aload_n 1, 1) := by decide +kernel
theorem dL_law_672 : decode cL_law 672 = .ok (.aload_n 0, 1) := by decide +kernel
theorem dL_law_673 : decode cL_law 673 = .ok (.iload_n 3, 1) := by decide +kernel
theorem dL_law_674 : decode cL_law 674 = .ok (.iconst 1, 1) := by decide +kernel
theorem dL_law_675 : decode cL_law 675 = .ok (.iadd, 1) := by decide +kernel
theorem dL_law_676 : decode cL_law 676 = .ok (.iaload, 1) := by decide +kernel
theorem dL_law_677 : decode cL_law 677 = .ok (.aload_n 0, 1) := by decide +kernel
theorem dL_law_678 : decode cL_law 678 = .ok (.iload_n 3, 1) := by decide +kernel
theorem dL_law_679 : decode cL_law 679 = .ok (.iconst 2, 1) := by decide +kernel
theorem dL_law_680 : decode cL_law 680 = .ok (.iadd, 1) := by decide +kernel
theorem dL_law_681 : decode cL_law 681 = .ok (.iaload, 1) := by decide +kernel
theorem dL_law_682 : decode cL_law 682 = .ok (.aload_n 0, 1) := by decide +kernel
theorem dL_law_683 : decode cL_law 683 = .ok (.iload_n 3, 1) := by decide +kernel
theorem dL_law_684 : decode cL_law 684 = .ok (.iconst 3, 1) := by decide +kernel
theorem dL_law_685 : decode cL_law 685 = .ok (.iadd, 1) := by decide +kernel
theorem dL_law_686 : decode cL_law 686 = .ok (.iaload, 1) := by decide +kernel
theorem dL_law_687 : decode cL_law 687 = .ok (.invokevirtual 97, 3) := by decide +kernel
theorem dL_law_690 : decode cL_law 690 = .ok (.aload_n 2, 1) := by decide +kernel
theorem dL_law_691 : decode cL_law 691 = .ok (.aload_n 0, 1) := by decide +kernel
theorem dL_law_692 : decode cL_law 692 = .ok (.iload_n 3, 1) := by decide +kernel
theorem dL_law_693 : decode cL_law 693 = .ok (.iconst 1, 1) := by decide +kernel
theorem dL_law_694 : decode cL_law 694 = .ok (.iadd, 1) := by decide +kernel
theorem dL_law_695 : decode cL_law 695 = .ok (.iaload, 1) := by decide +kernel
theorem dL_law_696 : decode cL_law 696 = .ok (.aload_n 0, 1) := by decide +kernel
theorem dL_law_697 : decode cL_law 697 = .ok (.iload_n 3, 1) := by decide +kernel
theorem dL_law_698 : decode cL_law 698 = .ok (.iconst 2, 1) := by decide +kernel
theorem dL_law_699 : decode cL_law 699 = .ok (.iadd, 1) := by decide +kernel
theorem dL_law_700 : decode cL_law 700 = .ok (.iaload, 1) := by decide +kernel
theorem dL_law_701 : decode cL_law 701 = .ok (.aload_n 0, 1) := by decide +kernel
theorem dL_law_702 : decode cL_law 702 = .ok (.iload_n 3, 1) := by decide +kernel
theorem dL_law_703 : decode cL_law 703 = .ok (.iconst 3, 1) := by decide +kernel
theorem dL_law_704 : decode cL_law 704 = .ok (.iadd, 1) := by decide +kernel
theorem dL_law_705 : decode cL_law 705 = .ok (.iaload, 1) := by decide +kernel
theorem dL_law_706 : decode cL_law 706 = .ok (.invokevirtual 101, 3) := by decide +kernel
theorem dL_law_709 : decode cL_law 709 = .ok (.lcmp, 1) := by decide +kernel
theorem dL_law_710 : decode cL_law 710 = .ok (.ifCond .eq 187, 3) := by decide +kernel
theorem dL_law_713 : decode cL_law 713 = .ok (.iconst 0, 1) := by decide +kernel
theorem dL_law_714 : decode cL_law 714 = .ok (.ireturn, 1) := by decide +kernel
theorem dL_law_715 : decode cL_law 715 = .ok (.aload_n 1, 1) := by decide +kernel
theorem dL_law_716 : decode cL_law 716 = .ok (.aload_n 0, 1) := by decide +kernel
theorem dL_law_717 : decode cL_law 717 = .ok (.iload_n 3, 1) := by decide +kernel
theorem dL_law_718 : decode cL_law 718 = .ok (.iconst 1, 1) := by decide +kernel
theorem dL_law_719 : decode cL_law 719 = .ok (.iadd, 1) := by decide +kernel
theorem dL_law_720 : decode cL_law 720 = .ok (.iaload, 1) := by decide +kernel
theorem dL_law_721 : decode cL_law 721 = .ok (.aload_n 0, 1) := by decide +kernel
theorem dL_law_722 : decode cL_law 722 = .ok (.iload_n 3, 1) := by decide +kernel
theorem dL_law_723 : decode cL_law 723 = .ok (.iconst 2, 1) := by decide +kernel
theorem dL_law_724 : decode cL_law 724 = .ok (.iadd, 1) := by decide +kernel
theorem dL_law_725 : decode cL_law 725 = .ok (.iaload, 1) := by decide +kernel
theorem dL_law_726 : decode cL_law 726 = .ok (.aload_n 0, 1) := by decide +kernel
theorem dL_law_727 : decode cL_law 727 = .ok (.iload_n 3, 1) := by decide +kernel
theorem dL_law_728 : decode cL_law 728 = .ok (.iconst 3, 1) := by decide +kernel
theorem dL_law_729 : decode cL_law 729 = .ok (.iadd, 1) := by decide +kernel
theorem dL_law_730 : decode cL_law 730 = .ok (.iaload, 1) := by decide +kernel
theorem dL_law_731 : decode cL_law 731 = .ok (.invokevirtual 102, 3) := by decide +kernel
theorem dL_law_734 : decode cL_law 734 = .ok (.aload_n 2, 1) := by decide +kernel
theorem dL_law_735 : decode cL_law 735 = .ok (.aload_n 0, 1) := by decide +kernel
theorem dL_law_736 : decode cL_law 736 = .ok (.iload_n 3, 1) := by decide +kernel
theorem dL_law_737 : decode cL_law 737 = .ok (.iconst 1, 1) := by decide +kernel
theorem dL_law_738 : decode cL_law 738 = .ok (.iadd, 1) := by decide +kernel
theorem dL_law_739 : decode cL_law 739 = .ok (.iaload, 1) := by decide +kernel
theorem dL_law_740 : decode cL_law 740 = .ok (.aload_n 0, 1) := by decide +kernel
theorem dL_law_741 : decode cL_law 741 = .ok (.iload_n 3, 1) := by decide +kernel
theorem dL_law_742 : decode cL_law 742 = .ok (.iconst 2, 1) := by decide +kernel
theorem dL_law_743 : decode cL_law 743 = .ok (.iadd, 1) := by decide +kernel
theorem dL_law_744 : decode cL_law 744 = .ok (.iaload, 1) := by decide +kernel
theorem dL_law_745 : decode cL_law 745 = .ok (.aload_n 0, 1) := by decide +kernel
theorem dL_law_746 : decode cL_law 746 = .ok (.iload_n 3, 1) := by decide +kernel
theorem dL_law_747 : decode cL_law 747 = .ok (.iconst 3, 1) := by decide +kernel
theorem dL_law_748 : decode cL_law 748 = .ok (.iadd, 1) := by decide +kernel
theorem dL_law_749 : decode cL_law 749 = .ok (.iaload, 1) := by decide +kernel
theorem dL_law_750 : decode cL_law 750 = .ok (.invokevirtual 105, 3) := by decide +kernel
theorem dL_law_753 : decode cL_law 753 = .ok (.if_icmp .eq 144, 3) := by decide +kernel
theorem dL_law_756 : decode cL_law 756 = .ok (.iconst 0, 1) := by decide +kernel
theorem dL_law_757 : decode cL_law 757 = .ok (.ireturn, 1) := by decide +kernel
theorem dL_law_758 : decode cL_law 758 = .ok (.aload_n 1, 1) := by decide +kernel
theorem dL_law_759 : decode cL_law 759 = .ok (.aload_n 0, 1) := by decide +kernel
theorem dL_law_760 : decode cL_law 760 = .ok (.iload_n 3, 1) := by decide +kernel
theorem dL_law_761 : decode cL_law 761 = .ok (.iconst 1, 1) := by decide +kernel
theorem dL_law_762 : decode cL_law 762 = .ok (.iadd, 1) := by decide +kernel
theorem dL_law_763 : decode cL_law 763 = .ok (.iaload, 1) := by decide +kernel
theorem dL_law_764 : decode cL_law 764 = .ok (.aload_n 0, 1) := by decide +kernel
theorem dL_law_765 : decode cL_law 765 = .ok (.iload_n 3, 1) := by decide +kernel
theorem dL_law_766 : decode cL_law 766 = .ok (.iconst 2, 1) := by decide +kernel
theorem dL_law_767 : decode cL_law 767 = .ok (.iadd, 1) := by decide +kernel
theorem dL_law_768 : decode cL_law 768 = .ok (.iaload, 1) := by decide +kernel
theorem dL_law_769 : decode cL_law 769 = .ok (.aload_n 0, 1) := by decide +kernel
theorem dL_law_770 : decode cL_law 770 = .ok (.iload_n 3, 1) := by decide +kernel
theorem dL_law_771 : decode cL_law 771 = .ok (.iconst 3, 1) := by decide +kernel
theorem dL_law_772 : decode cL_law 772 = .ok (.iadd, 1) := by decide +kernel
theorem dL_law_773 : decode cL_law 773 = .ok (.iaload, 1) := by decide +kernel
theorem dL_law_774 : decode cL_law 774 = .ok (.ifCond .eq 7, 3) := by decide +kernel
theorem dL_law_777 : decode cL_law 777 = .ok (.iconst 1, 1) := by decide +kernel
theorem dL_law_778 : decode cL_law 778 = .ok (.goto 4, 3) := by decide +kernel
theorem dL_law_781 : decode cL_law 781 = .ok (.iconst 0, 1) := by decide +kernel
theorem dL_law_782 : decode cL_law 782 = .ok (.invokevirtual 106, 3) := by decide +kernel
theorem dL_law_785 : decode cL_law 785 = .ok (.aload_n 2, 1) := by decide +kernel
theorem dL_law_786 : decode cL_law 786 = .ok (.aload_n 0, 1) := by decide +kernel
theorem dL_law_787 : decode cL_law 787 = .ok (.iload_n 3, 1) := by decide +kernel
theorem dL_law_788 : decode cL_law 788 = .ok (.iconst 1, 1) := by decide +kernel
theorem dL_law_789 : decode cL_law 789 = .ok (.iadd, 1) := by decide +kernel
theorem dL_law_790 : decode cL_law 790 = .ok (.iaload, 1) := by decide +kernel
theorem dL_law_791 : decode cL_law 791 = .ok (.aload_n 0, 1) := by decide +kernel
theorem dL_law_792 : decode cL_law 792 = .ok (.iload_n 3, 1) := by decide +kernel
theorem dL_law_793 : decode cL_law 793 = .ok (.iconst 2, 1) := by decide +kernel
theorem dL_law_794 : decode cL_law 794 = .ok (.iadd, 1) := by decide +kernel
theorem dL_law_795 : decode cL_law 795 = .ok (.iaload, 1) := by decide +kernel
theorem dL_law_796 : decode cL_law 796 = .ok (.aload_n 0, 1) := by decide +kernel
theorem dL_law_797 : decode cL_law 797 = .ok (.iload_n 3, 1) := by decide +kernel
theorem dL_law_798 : decode cL_law 798 = .ok (.iconst 3, 1) := by decide +kernel
theorem dL_law_799 : decode cL_law 799 = .ok (.iadd, 1) := by decide +kernel
theorem dL_law_800 : decode cL_law 800 = .ok (.iaload, 1) := by decide +kernel
theorem dL_law_801 : decode cL_law 801 = .ok (.ifCond .eq 7, 3) := by decide +kernel
theorem dL_law_804 : decode cL_law 804 = .ok (.iconst 1, 1) := by decide +kernel
theorem dL_law_805 : decode cL_law 805 = .ok (.goto 4, 3) := by decide +kernel
theorem dL_law_808 : decode cL_law 808 = .ok (.iconst 0, 1) := by decide +kernel
theorem dL_law_809 : decode cL_law 809 = .ok (.invokevirtual 110, 3) := by decide +kernel
theorem dL_law_812 : decode cL_law 812 = .ok (.lcmp, 1) := by decide +kernel
theorem dL_law_813 : decode cL_law 813 = .ok (.ifCond .eq 84, 3) := by decide +kernel
theorem dL_law_816 : decode cL_law 816 = .ok (.iconst 0, 1) := by decide +kernel
theorem dL_law_817 : decode cL_law 817 = .ok (.ireturn, 1) := by decide +kernel
theorem dL_law_818 : decode cL_law 818 = .ok (.aload_n 1, 1) := by decide +kernel
theorem dL_law_819 : decode cL_law 819 = .ok (.aload_n 0, 1) := by decide +kernel
theorem dL_law_820 : decode cL_law 820 = .ok (.iload_n 3, 1) := by decide +kernel
theorem dL_law_821 : decode cL_law 821 = .ok (.iconst 1, 1) := by decide +kernel
theorem dL_law_822 : decode cL_law 822 = .ok (.iadd, 1) := by decide +kernel
theorem dL_law_823 : decode cL_law 823 = .ok (.iaload, 1) := by decide +kernel
theorem dL_law_824 : decode cL_law 824 = .ok (.aload_n 0, 1) := by decide +kernel
theorem dL_law_825 : decode cL_law 825 = .ok (.iload_n 3, 1) := by decide +kernel
theorem dL_law_826 : decode cL_law 826 = .ok (.iconst 2, 1) := by decide +kernel
theorem dL_law_827 : decode cL_law 827 = .ok (.iadd, 1) := by decide +kernel
theorem dL_law_828 : decode cL_law 828 = .ok (.iaload, 1) := by decide +kernel
theorem dL_law_829 : decode cL_law 829 = .ok (.invokevirtual 111, 3) := by decide +kernel
theorem dL_law_832 : decode cL_law 832 = .ok (.aload_n 2, 1) := by decide +kernel
theorem dL_law_833 : decode cL_law 833 = .ok (.aload_n 0, 1) := by decide +kernel
theorem dL_law_834 : decode cL_law 834 = .ok (.iload_n 3, 1) := by decide +kernel
theorem dL_law_835 : decode cL_law 835 = .ok (.iconst 1, 1) := by decide +kernel
theorem dL_law_836 : decode cL_law 836 = .ok (.iadd, 1) := by decide +kernel
theorem dL_law_837 : decode cL_law 837 = .ok (.iaload, 1) := by decide +kernel
theorem dL_law_838 : decode cL_law 838 = .ok (.aload_n 0, 1) := by decide +kernel
theorem dL_law_839 : decode cL_law 839 = .ok (.iload_n 3, 1) := by decide +kernel
theorem dL_law_840 : decode cL_law 840 = .ok (.iconst 2, 1) := by decide +kernel
theorem dL_law_841 : decode cL_law 841 = .ok (.iadd, 1) := by decide +kernel
theorem dL_law_842 : decode cL_law 842 = .ok (.iaload, 1) := by decide +kernel
theorem dL_law_843 : decode cL_law 843 = .ok (.invokevirtual 114, 3) := by decide +kernel
theorem dL_law_846 : decode cL_law 846 = .ok (.if_icmp .eq 51, 3) := by decide +kernel
theorem dL_law_849 : decode cL_law 849 = .ok (.iconst 0, 1) := by decide +kernel
theorem dL_law_850 : decode cL_law 850 = .ok (.ireturn, 1) := by decide +kernel
theorem dL_law_851 : decode cL_law 851 = .ok (.aload_n 1, 1) := by decide +kernel
theorem dL_law_852 : decode cL_law 852 = .ok (.aload_n 0, 1) := by decide +kernel
theorem dL_law_853 : decode cL_law 853 = .ok (.iload_n 3, 1) := by decide +kernel
theorem dL_law_854 : decode cL_law 854 = .ok (.iconst 1, 1) := by decide +kernel
theorem dL_law_855 : decode cL_law 855 = .ok (.iadd, 1) := by decide +kernel
theorem dL_law_856 : decode cL_law 856 = .ok (.iaload, 1) := by decide +kernel
theorem dL_law_857 : decode cL_law 857 = .ok (.invokevirtual 115, 3) := by decide +kernel
theorem dL_law_860 : decode cL_law 860 = .ok (.aload_n 2, 1) := by decide +kernel
theorem dL_law_861 : decode cL_law 861 = .ok (.aload_n 0, 1) := by decide +kernel
theorem dL_law_862 : decode cL_law 862 = .ok (.iload_n 3, 1) := by decide +kernel
theorem dL_law_863 : decode cL_law 863 = .ok (.iconst 1, 1) := by decide +kernel
theorem dL_law_864 : decode cL_law 864 = .ok (.iadd, 1) := by decide +kernel
theorem dL_law_865 : decode cL_law 865 = .ok (.iaload, 1) := by decide +kernel
theorem dL_law_866 : decode cL_law 866 = .ok (.invokevirtual 118, 3) := by decide +kernel
theorem dL_law_869 : decode cL_law 869 = .ok (.if_icmp .eq 28, 3) := by decide +kernel
theorem dL_law_872 : decode cL_law 872 = .ok (.iconst 0, 1) := by decide +kernel
theorem dL_law_873 : decode cL_law 873 = .ok (.ireturn, 1) := by decide +kernel
theorem dL_law_874 : decode cL_law 874 = .ok (.aload_n 1, 1) := by decide +kernel
theorem dL_law_875 : decode cL_law 875 = .ok (.aload_n 0, 1) := by decide +kernel
theorem dL_law_876 : decode cL_law 876 = .ok (.iload_n 3, 1) := by decide +kernel
theorem dL_law_877 : decode cL_law 877 = .ok (.iconst 1, 1) := by decide +kernel
theorem dL_law_878 : decode cL_law 878 = .ok (.iadd, 1) := by decide +kernel
theorem dL_law_879 : decode cL_law 879 = .ok (.iaload, 1) := by decide +kernel
theorem dL_law_880 : decode cL_law 880 = .ok (.invokevirtual 119, 3) := by decide +kernel
theorem dL_law_883 : decode cL_law 883 = .ok (.aload_n 2, 1) := by decide +kernel
theorem dL_law_884 : decode cL_law 884 = .ok (.aload_n 0, 1) := by decide +kernel
theorem dL_law_885 : decode cL_law 885 = .ok (.iload_n 3, 1) := by decide +kernel
theorem dL_law_886 : decode cL_law 886 = .ok (.iconst 1, 1) := by decide +kernel
theorem dL_law_887 : decode cL_law 887 = .ok (.iadd, 1) := by decide +kernel
theorem dL_law_888 : decode cL_law 888 = .ok (.iaload, 1) := by decide +kernel
theorem dL_law_889 : decode cL_law 889 = .ok (.invokevirtual 122, 3) := by decide +kernel
theorem dL_law_892 : decode cL_law 892 = .ok (.if_icmp .eq 5, 3) := by decide +kernel
theorem dL_law_895 : decode cL_law 895 = .ok (.iconst 0, 1) := by decide +kernel
theorem dL_law_896 : decode cL_law 896 = .ok (.ireturn, 1) := by decide +kernel
theorem dL_law_897 : decode cL_law 897 = .ok (.iinc 3 4, 3) := by decide +kernel
theorem dL_law_900 : decode cL_law 900 = .ok (.goto (-882), 3) := by decide +kernel
theorem dL_law_903 : decode cL_law 903 = .ok (.iconst 1, 1) := by decide +kernel
theorem dL_law_904 : decode cL_law 904 = .ok (.ireturn, 1) := by decide +kernel
end
section
/-! the layout is static: every cell that the run makes has its number (in the order of making) and its shape ahead of the run -/
abbrev zI : Type := Nat → Nat → Int32
abbrev zJ : Type := Nat → Nat → Int64
abbrev zP : Type := Nat → Nat → Option Nat
abbrev zSh : Type := Nat ⊕ (FieldType × Nat)
def zStd : FieldType := .object "StepsShared$Standing"
def zShl : List zSh := [.inl 11, .inl 8, .inr (.int, 80), .inl 7, .inr (.int, 8), .inl 0, .inr (zStd, 16), .inl 7, .inr (.int, 8), .inl 7, .inr (.int, 8), .inl 7, .inr (.int, 8), .inl 7, .inr (.int, 8), .inl 7, .inr (.int, 8), .inl 7, .inr (.int, 8), .inl 7, .inr (.int, 8), .inl 7, .inr (.int, 8), .inl 7, .inr (.int, 8), .inl 7, .inr (.int, 8), .inl 7, .inr (.int, 8), .inl 7, .inr (.int, 8), .inl 7, .inr (.int, 8), .inl 7, .inr (.int, 8), .inl 7, .inr (.int, 8), .inl 7, .inr (.int, 8), .inl 6, .inr (zStd, 2), .inr (.boolean, 2), .inl 7, .inr (.int, 8), .inl 7, .inr (.int, 8), .inl 9, .inr (.int, 384), .inr (.int, 64), .inl 3, .inl 9, .inr (.int, 384), .inr (.int, 64), .inl 9, .inr (.int, 384), .inr (.int, 64), .inr (.int, 64), .inr (.int, 64), .inl 10, .inl 5, .inr (.int, 6000), .inr (.int, 6000), .inl 2, .inr (.int, 64), .inr (.int, 64), .inr (.int, 8), .inl 1, .inr (.int, 36), .inr (.int, 36), .inr (.int, 6), .inr (.int, 6), .inr (.int, 6), .inl 1, .inr (.int, 36), .inr (.int, 36), .inr (.int, 6), .inr (.int, 6), .inr (.int, 6), .inl 12, .inr (.int, 80), .inr (.int, 36), .inr (.int, 6), .inr (.int, 6), .inr (.int, 6), .inr (.int, 36), .inr (.int, 6), .inr (.int, 6), .inr (.int, 6), .inr (.int, 2), .inr (.int, 8), .inr (.int, 448), .inr (.int, 56), .inr (.boolean, 2), .inr (.int, 128), .inr (.int, 384), .inr (.int, 9), .inr (.int, 9), .inr (.int, 9), .inr (.int, 9), .inr (.int, 9), .inr (.int, 9), .inr (.int, 9), .inr (.int, 9), .inr (.int, 9), .inr (.int, 9), .inr (.int, 9), .inr (.long, 6000), .inr (.long, 6000)]
def zSH (k : Nat) : zSh := zShl.getD k (.inl 4)
def zN : Nat → Nat
  | 0 => 3
  | 1 => 9
  | 2 => 4
  | 3 => 11
  | 4 => 0
  | 5 => 3
  | 6 => 2
  | 7 => 7
  | 8 => 2
  | 9 => 3
  | 10 => 1
  | 11 => 12
  | _ => 49
def zT : Nat → u_T
  | 0 => TX0
  | 1 => TX1
  | 2 => TX2
  | 3 => TX3
  | 4 => TX4
  | 5 => TX5
  | 6 => TX6
  | 7 => TX7
  | 8 => TX8
  | 9 => TX9
  | 10 => TX10
  | 11 => TX11
  | _ => TX12
def zR : Nat → String
  | 0 => RX0
  | 1 => RX1
  | 2 => RX2
  | 3 => RX3
  | 4 => RX4
  | 5 => RX5
  | 6 => RX6
  | 7 => RX7
  | 8 => RX8
  | 9 => RX9
  | 10 => RX10
  | 11 => RX11
  | _ => RX12
def zty : Nat → Nat → FieldType
  | 0 => tyX0
  | 1 => tyX1
  | 2 => tyX2
  | 3 => tyX3
  | 4 => tyX4
  | 5 => tyX5
  | 6 => tyX6
  | 7 => tyX7
  | 8 => tyX8
  | 9 => tyX9
  | 10 => tyX10
  | 11 => tyX11
  | _ => tyX12
abbrev zcl : List vw_C := [(RX0, TX0, 3), (RX1, TX1, 9), (RX2, TX2, 4), (RX3, TX3, 11), (RX4, TX4, 0), (RX5, TX5, 3), (RX6, TX6, 2), (RX7, TX7, 7), (RX8, TX8, 2), (RX9, TX9, 3), (RX10, TX10, 1), (RX11, TX11, 12), (RX12, TX12, 49)]
theorem zcl_at : ∀ ci, ci < 13 → zcl[ci]? = some (zR ci, zT ci, zN ci) := by
  intro ci h
  match ci, h with
  | 0, _ => rfl
  | 1, _ => rfl
  | 2, _ => rfl
  | 3, _ => rfl
  | 4, _ => rfl
  | 5, _ => rfl
  | 6, _ => rfl
  | 7, _ => rfl
  | 8, _ => rfl
  | 9, _ => rfl
  | 10, _ => rfl
  | 11, _ => rfl
  | 12, _ => rfl
theorem zty_ok : ∀ ci, ci < 13 → ∀ k, k < zN ci → parseFieldDescriptor (zT ci k).2.2.1 = some (zty ci k) := by
  intro ci h
  match ci, h with
  | 0, _ => exact tyX0_ok
  | 1, _ => exact tyX1_ok
  | 2, _ => exact tyX2_ok
  | 3, _ => exact tyX3_ok
  | 4, _ => exact tyX4_ok
  | 5, _ => exact tyX5_ok
  | 6, _ => exact tyX6_ok
  | 7, _ => exact tyX7_ok
  | 8, _ => exact tyX8_ok
  | 9, _ => exact tyX9_ok
  | 10, _ => exact tyX10_ok
  | 11, _ => exact tyX11_ok
  | 12, _ => exact tyX12_ok
theorem znm_ok : ∀ ci, ci < 13 → ∀ a, a < zN ci → ∀ b, b < zN ci → a ≠ b → (zT ci a).2.1 ≠ (zT ci b).2.1 := by
  intro ci h
  match ci, h with
  | 0, _ => exact nmX0
  | 1, _ => exact nmX1
  | 2, _ => exact nmX2
  | 3, _ => exact nmX3
  | 4, _ => exact nmX4
  | 5, _ => exact nmX5
  | 6, _ => exact nmX6
  | 7, _ => exact nmX7
  | 8, _ => exact nmX8
  | 9, _ => exact nmX9
  | 10, _ => exact nmX10
  | 11, _ => exact nmX11
  | 12, _ => exact nmX12
/-! the words: those of the table that any call keeps, and the nest's -/
def z_isNest : Cond → Bool
  | .fieldLinkNest .. => true
  | .methodLinkNest .. => true
  | _ => false
def z_good : List Cond := lw_tbl.filter goodWord
def z_nest : List Cond := lw_tbl.filter z_isNest
theorem z_gd {w : Cond} (i : Nat) (h : lw_tbl[i]? = some w) (g : goodWord w = true) : w ∈ z_good := List.mem_filter.mpr ⟨List.mem_of_getElem? h, g⟩
theorem z_ns {w : Cond} (i : Nat) (h : lw_tbl[i]? = some w) (g : z_isNest w = true) : w ∈ z_nest := List.mem_filter.mpr ⟨List.mem_of_getElem? h, g⟩
theorem z_good_good : ∀ w ∈ z_good, (w.onTables && w.keeps) = true ∨ ∃ ty, w = .arrayClass ty := fun _ h => good_of_word (List.mem_filter.mp h).2
theorem z_nest_warm {s U : State} (hW : s.WarmedH U.vm) (h : ∀ w ∈ z_nest, va_Nw w s) : ∀ w ∈ z_nest, va_Nw w U := by
  intro w hw
  have h1 := h w hw
  have h2 := (List.mem_filter.mp hw).2
  cases w <;> first | exact va_Nw.warmF hW h1 | exact va_Nw.warmM hW h1 | (simp [z_isNest] at h2; done)
/-! values: a number is itself, a place is the cell's number, the script is a float's bits -/
def zcv (base b : Nat) : Value → Value
  | .ref k => .ref (base + k)
  | .float _ => .ref b
  | v => v
theorem zcv_cat (base b : Nat) (v : Value) : (zcv base b v).category = v.category := by cases v <;> rfl
def zrv (base : Nat) : Option Nat → Value
  | some q => .ref (base + q)
  | none => .null
def zfv (base : Nat) (I : zI) (P : zP) (ci k j : Nat) : Value := match zty ci j with
  | .object _ => zrv base (P k j)
  | .array _ => zrv base (P k j)
  | _ => .int (I k j)
def zent (base : Nat) (gA : FieldType → Nat) (I : zI) (J : zJ) (P : zP) (k : Nat) : va_E := match zSH k with
  | .inl ci => .inr (ci, (List.range (zN ci)).map (zfv base I P ci k))
  | .inr (ty, len) => .inl (gA ty, len, match ty with
    | .long => .inr (.inl (J k))
    | .object _ => .inr (.inr (.inr (.inr (fun j => (P k j).map (fun x => base + x)))))
    | _ => .inl (I k))
def zws (base : Nat) (gA : FieldType → Nat) (n : Nat) (I : zI) (J : zJ) (P : zP) : va_W := (List.range n).map (fun k => (base + k, zent base gA I J P k))
def zu {α : Type} (f : Nat → α) (k : Nat) (v : α) : Nat → α := fun j => if j = k then v else f j
theorem zu_s {α : Type} (f : Nat → α) (k : Nat) (v : α) : zu f k v k = v := by simp [zu]
theorem zu_n {α : Type} (f : Nat → α) {k j : Nat} (v : α) (h : j ≠ k) : zu f k v j = f j := by simp [zu, h]
theorem zws_len {base : Nat} {gA : FieldType → Nat} {n : Nat} {I : zI} {J : zJ} {P : zP} : (zws base gA n I J P).length = n := by simp [zws]
theorem zws_get {base : Nat} {gA : FieldType → Nat} {n : Nat} {I : zI} {J : zJ} {P : zP} {k : Nat} (h : k < n) : (zws base gA n I J P)[k]? = some (base + k, zent base gA I J P k) := by simp [zws, h]
theorem zent_cong {base : Nat} {gA : FieldType → Nat} {I I' : zI} {J J' : zJ} {P P' : zP} {k : Nat} (h1 : I' k = I k) (h2 : J' k = J k) (h3 : P' k = P k) : zent base gA I' J' P' k = zent base gA I J P k := by
  have e : ∀ ci, zfv base I' P' ci k = zfv base I P ci k := by
    intro ci; funext j; unfold zfv; rw [h1, h3]
  unfold zent
  simp only [e, h1, h2, h3]
theorem zws_set {base : Nat} {gA : FieldType → Nat} {n : Nat} {I I' : zI} {J J' : zJ} {P P' : zP} {k : Nat} {e : va_E} (he : zent base gA I' J' P' k = e) (h1 : ∀ j, j ≠ k → I' j = I j) (h2 : ∀ j, j ≠ k → J' j = J j) (h3 : ∀ j, j ≠ k → P' j = P j) :
    (zws base gA n I J P).set k (base + k, e) = zws base gA n I' J' P' := by
  apply List.ext_getElem?
  intro j
  by_cases hj : j < n
  · rw [zws_get hj]
    by_cases hjk : j = k
    · subst hjk
      rw [List.getElem?_set_self (by rw [zws_len]; exact hj), he]
    · rw [List.getElem?_set_ne (Ne.symm hjk), zws_get hj, zent_cong (h1 j hjk) (h2 j hjk) (h3 j hjk)]
  · rw [List.getElem?_eq_none (by rw [List.length_set, zws_len]; omega), List.getElem?_eq_none (by rw [zws_len]; omega)]
theorem zws_push {base : Nat} {gA : FieldType → Nat} {n : Nat} {I I' : zI} {J J' : zJ} {P P' : zP} {e : va_E} (he : zent base gA I' J' P' n = e) (h1 : ∀ j, j ≠ n → I' j = I j) (h2 : ∀ j, j ≠ n → J' j = J j) (h3 : ∀ j, j ≠ n → P' j = P j) :
    zws base gA n I J P ++ [(base + n, e)] = zws base gA (n + 1) I' J' P' := by
  unfold zws
  rw [List.range_succ, List.map_append, List.map_cons, List.map_nil, he]
  congr 1
  apply List.map_congr_left
  intro j hj
  have hjn : j ≠ n := by have := List.mem_range.mp hj; omega
  rw [zent_cong (h1 j hjn) (h2 j hjn) (h3 j hjn)]
theorem zws_D {base : Nat} {gA : FieldType → Nat} {n : Nat} {I : zI} {J : zJ} {P : zP} : va_D (fun q => base ≤ q) (zws base gA n I J P) := by
  have key : ∀ (i : Nat) (q : Nat × va_E), (zws base gA n I J P)[i]? = some q → q.1 = base + i := by
    intro i q h
    have hi : i < n := by
      have := (List.getElem?_eq_some_iff.mp h).1
      rwa [zws_len] at this
    rw [zws_get hi] at h
    cases h
    rfl
  refine ⟨fun i j p q hp hq e => ?_, fun k q hk => ?_⟩
  · have := key i p hp
    have := key j q hq
    omega
  · rw [key k q hk]; exact Nat.le_add_right _ _
def zlen (k : Nat) : Nat := match zSH k with
  | .inl ci => zN ci
  | .inr (_, len) => len
def zsz : Nat → Nat
  | 0 => 0
  | k + 1 => zsz k + zlen k
theorem zsz_mono {a b : Nat} (h : a ≤ b) : zsz a ≤ zsz b := by
  induction b with
  | zero => rw [Nat.le_zero.mp h]; exact Nat.le_refl _
  | succ b ih =>
    rcases Nat.lt_or_ge a (b + 1) with q | q
    · exact Nat.le_trans (ih (by omega)) (Nat.le_add_right _ _)
    · rw [show a = b + 1 by omega]; exact Nat.le_refl _
/-! the locals, by their places; .null: nothing is known there -/
def zas (base b : Nat) (ls : List Value) : List (Nat × Value) := (List.range ls.length).filterMap (fun (i : Nat) => match (ls[i]? : Option Value) with
  | some Value.null => none
  | some v => some (i, zcv base b v)
  | none => none)
theorem zas_mem {base b : Nat} {ls : List Value} {i : Nat} {v : Value} (h : ls[i]? = some v) (hv : v ≠ .null) : (i, zcv base b v) ∈ zas base b ls := by
  refine List.mem_filterMap.mpr ⟨i, List.mem_range.mpr (List.getElem?_eq_some_iff.mp h).1, ?_⟩
  rw [h]
  cases v <;> first | rfl | exact absurd rfl hv
theorem zas_inv {base b : Nat} {ls : List Value} {q : Nat × Value} (h : q ∈ zas base b ls) : ∃ v, ls[q.1]? = some v ∧ v ≠ .null ∧ q.2 = zcv base b v := by
  obtain ⟨i, -, hi⟩ := List.mem_filterMap.mp h
  cases hv : ls[i]? with
  | none => rw [hv] at hi; cases hi
  | some v =>
    rw [hv] at hi
    cases v <;> first | (cases hi; exact ⟨_, hv, by simp, rfl⟩) | cases hi
def zkill (ls : List Value) (i : Nat) : List Value := match i with
  | 0 => ls
  | j + 1 => match ls[j]? with
    | some (.long _) => ls.set j .null
    | some (.double _) => ls.set j .null
    | _ => ls
theorem zkill_len (ls : List Value) (i : Nat) : (zkill ls i).length = ls.length := by
  unfold zkill
  split
  · rfl
  · split <;> simp
theorem zkill_at {ls : List Value} {i k : Nat} {v : Value} (h : (zkill ls i)[k]? = some v) (hv : v ≠ .null) : ls[k]? = some v ∧ ¬ (k + 1 = i ∧ v.category = 2) := by
  unfold zkill at h
  split at h
  · exact ⟨h, by omega⟩
  · rename_i j
    have key : ∀ x : Value, x.category = 2 → ls[j]? = some x → (ls.set j .null)[k]? = some v → ls[k]? = some v ∧ ¬ (k + 1 = j + 1 ∧ v.category = 2) := by
      intro x hx hj hs
      by_cases hk : k = j
      · subst hk
        rw [List.getElem?_set_self (List.getElem?_eq_some_iff.mp hj).1] at hs
        cases hs
        exact absurd rfl hv
      · rw [List.getElem?_set_ne (Ne.symm hk)] at hs
        exact ⟨hs, by omega⟩
    split at h
    · next x hj => exact key _ rfl hj h
    · next x hj => exact key _ rfl hj h
    · next n1 n2 =>
      refine ⟨h, fun ⟨e, c⟩ => ?_⟩
      have e : k = j := by omega
      subst e
      cases v <;> first | exact n1 _ h | exact n2 _ h | (simp [Value.category] at c; done)
/-- a one-word store -/
def zst1 (ls : List Value) (i : Nat) (v : Value) : List Value := (zkill ls i).set i v
/-- a two-word store -/
def zst2 (ls : List Value) (i : Nat) (v : Value) : List Value := ((zkill ls i).set (i + 1) .null).set i v
theorem zst1_len (ls : List Value) (i : Nat) (v : Value) : (zst1 ls i v).length = ls.length := by simp [zst1, zkill_len]
theorem zst2_len (ls : List Value) (i : Nat) (v : Value) : (zst2 ls i v).length = ls.length := by simp [zst2, zkill_len]
theorem zst1_sub {base b : Nat} {ls : List Value} {i : Nat} {v : Value} : ∀ q ∈ zas base b (zst1 ls i v), q ∈ (i, zcv base b v) :: (zas base b ls).filter (fun q => !(q.1 == i) && !(q.1 + 1 == i && q.2.category == 2)) := by
  intro q hq
  obtain ⟨x, h1, h2, h3⟩ := zas_inv hq
  obtain ⟨k, w⟩ := q
  simp only at h1 h3
  subst h3
  by_cases hk : k = i
  · subst hk
    have hl := (List.getElem?_eq_some_iff.mp h1).1
    rw [zst1_len] at hl
    unfold zst1 at h1
    rw [List.getElem?_set_self (by rw [zkill_len]; exact hl)] at h1
    cases h1
    exact List.mem_cons_self
  · unfold zst1 at h1
    rw [List.getElem?_set_ne (Ne.symm hk)] at h1
    obtain ⟨h4, h5⟩ := zkill_at h1 h2
    refine List.mem_cons_of_mem _ (List.mem_filter.mpr ⟨zas_mem h4 h2, ?_⟩)
    have h6 : ¬ (k + 1 = i ∧ (zcv base b x).category = 2) := by rw [zcv_cat]; exact h5
    by_cases e1 : k + 1 = i
    · have : ¬ (zcv base b x).category = 2 := fun e2 => h6 ⟨e1, e2⟩
      simp [hk, this]
    · simp [hk, e1]
theorem zst2_sub {base b : Nat} {ls : List Value} {i : Nat} {v : Value} : ∀ q ∈ zas base b (zst2 ls i v), q ∈ (i, zcv base b v) :: (zas base b ls).filter (fun q => !(q.1 == i) && (!(q.1 == i + 1) && !(q.1 + 1 == i && q.2.category == 2))) := by
  intro q hq
  obtain ⟨x, h1, h2, h3⟩ := zas_inv hq
  obtain ⟨k, w⟩ := q
  simp only at h1 h3
  subst h3
  by_cases hk : k = i
  · subst hk
    have hl := (List.getElem?_eq_some_iff.mp h1).1
    rw [zst2_len] at hl
    unfold zst2 at h1
    rw [List.getElem?_set_self (by rw [List.length_set, zkill_len]; exact hl)] at h1
    cases h1
    exact List.mem_cons_self
  · unfold zst2 at h1
    rw [List.getElem?_set_ne (Ne.symm hk)] at h1
    by_cases hk1 : k = i + 1
    · subst hk1
      have hl := (List.getElem?_eq_some_iff.mp h1).1
      rw [List.getElem?_set_self (by rw [List.length_set] at hl; exact hl)] at h1
      cases h1
      exact absurd rfl h2
    · rw [List.getElem?_set_ne (Ne.symm hk1)] at h1
      obtain ⟨h4, h5⟩ := zkill_at h1 h2
      refine List.mem_cons_of_mem _ (List.mem_filter.mpr ⟨zas_mem h4 h2, ?_⟩)
      have h6 : ¬ (k + 1 = i ∧ (zcv base b x).category = 2) := by rw [zcv_cat]; exact h5
      by_cases e1 : k + 1 = i
      · have : ¬ (zcv base b x).category = 2 := fun e2 => h6 ⟨e1, e2⟩
        simp [hk, hk1, this]
      · simp [hk, hk1, e1]
theorem zhas_sub {ls : Array Slot} {nL : Nat} {l l' : List (Nat × Value)} (h : lv_has ls nL l) (hs : ∀ q ∈ l', q ∈ l) : lv_has ls nL l' := ⟨h.1, h.2.1, fun q hq => h.2.2 q (hs q hq)⟩
theorem zas_at {base b nL : Nat} {ls : List Value} {lsA : Array Slot} {i : Nat} {v : Value} (h : lv_has lsA nL (zas base b ls)) (hi : ls[i]? = some v) (hv : v ≠ .null) : lsA[i]? = some (.val (zcv base b v)) := h.2.2 _ (zas_mem hi hv)
/-- the locals at a method's entry -/
def zex : List Value → List Value
  | [] => []
  | v :: vs => if v.category = 2 then v :: .null :: zex vs else v :: zex vs
def zin (nL : Nat) (vs : List Value) : List Value := zex vs ++ List.replicate (nL - (zex vs).length) .null
theorem zex_len (base b : Nat) (vs : List Value) : (lg_sl (vs.map (zcv base b))).length = (zex vs).length := by
  induction vs with
  | nil => rfl
  | cons v vs ih =>
    have e : lg_sl ((v :: vs).map (zcv base b)) = (if (zcv base b v).category = 2 then [Slot.val (zcv base b v), .second] else [.val (zcv base b v)]) ++ lg_sl (vs.map (zcv base b)) := by simp [lg_sl]
    rw [e, List.length_append, ih, zcv_cat, show zex (v :: vs) = (if v.category = 2 then v :: .null :: zex vs else v :: zex vs) from rfl]
    split <;> simp <;> omega
theorem zex_args {base b : Nat} : ∀ (vs : List Value) (i k : Nat) (v : Value), (zex vs)[k]? = some v → v ≠ .null → (i + k, zcv base b v) ∈ lv_args i (vs.map (zcv base b))
  | [], i, k, v, h, hv => by simp [zex] at h
  | x :: vs, i, k, v, h, hv => by
    unfold zex at h
    simp only [List.map_cons, lv_args, zcv_cat]
    split at h
    · next hc =>
      rw [if_pos hc]
      match k, h with
      | 0, h => simp at h; subst h; exact List.mem_cons_self
      | 1, h => simp at h; exact absurd h.symm hv
      | k + 2, h =>
        refine List.mem_cons_of_mem _ ?_
        have := zex_args (base := base) (b := b) vs (i + 2) k v (by simpa using h) hv
        rwa [show i + (k + 2) = i + 2 + k by omega]
    · next hc =>
      rw [if_neg hc]
      match k, h with
      | 0, h => simp at h; subst h; exact List.mem_cons_self
      | k + 1, h =>
        refine List.mem_cons_of_mem _ ?_
        have := zex_args (base := base) (b := b) vs (i + 1) k v (by simpa using h) hv
        rwa [show i + (k + 1) = i + 1 + k by omega]
theorem zin_len {nL : Nat} {vs : List Value} (h : (zex vs).length ≤ nL) : (zin nL vs).length = nL := by simp [zin]; omega
theorem zin_has {base b nL : Nat} {vs : List Value} (h : (zex vs).length ≤ nL) : lv_has ((lg_sl (vs.map (zcv base b)) ++ List.replicate (nL - (lg_sl (vs.map (zcv base b))).length) Slot.unset).toArray) nL (zas base b (zin nL vs)) := by
  refine zhas_sub (lv_entry (vs.map (zcv base b)) (by rw [zex_len]; exact h)) ?_
  intro q hq
  obtain ⟨v, h1, h2, h3⟩ := zas_inv hq
  obtain ⟨k, w⟩ := q
  simp only at h1 h3
  subst h3
  unfold zin at h1
  by_cases hk : k < (zex vs).length
  · rw [List.getElem?_append_left hk] at h1
    have := zex_args (base := base) (b := b) vs 0 k v h1 h2
    rwa [Nat.zero_add] at this
  · rw [List.getElem?_append_right (by omega)] at h1
    exact absurd (List.eq_of_mem_replicate (List.mem_of_getElem? h1)) h2
end
section
/-! the context of a method's run, in one; the abstract machine's judgement zV: at this world, these locals, this stack the machine comes to its end -/
abbrev zCx : Type := Program × Launch × Env × Room × State × MethodId × Array Value × List Frame × Method × Code × (State → Prop) × va_G × (FieldType → Nat) × Nat × Nat × Nat × Nat × Nat
def ztys (gA : FieldType → Nat) : List (ClassId × FieldType) := [(gA .int, .int), (gA .long, .long), (gA .boolean, .boolean), (gA zStd, zStd)]
def zCtx (K : zCx) (own : String) (cc : ByteArray) (d n1 : Nat) (ini : Bool) (sc : Option (Nat × (Nat → Int32))) : Prop := match K with
  | (p, _, _, R, s, m, args, _, meth, c, _, D, gA, base, b, n0, n1', nL) => p.tables.exec = Jvm.exec ∧ c.code = cc ∧ c.maxLocals = nL ∧ s.vm.findClass own = some m.cls ∧ (∀ w ∈ z_good, w.before args s = true) ∧ (∀ w ∈ z_nest, va_Nw w s) ∧ va_AO "StepsShared$Standing" s ∧ va_K D zcl (ztys gA) s ∧ s.heap.size = base + n0 ∧ n1' = n1 ∧ (n1 - n0 ≤ R.cells ∧ zsz n1 - zsz n0 ≤ R.slots ∧ d ≤ R.frames ∧ 64 * d ≤ R.locals) ∧ (ini = true → meth.name = "<init>") ∧ (∀ (L : Nat) (xs : Nat → Int32), sc = some (L, xs) → va_X b L xs s s.heap ∧ b < s.heap.size ∧ b < base)
def zV (K : zCx) (n : Nat) (I : zI) (J : zJ) (P : zP) (pc : Nat) (ls st : List Value) : Prop := match K with
  | (p, l, e, R, s, m, args, below, meth, c, Q, D, gA, base, b, n0, n1, nL) => n0 ≤ n → n ≤ n1 → ls.length = nL → ∀ (H : Heap) (locs : List Loc) (lsA : Array Slot), va_P D zcl (zws base gA n I J P) H → va_S (fun q => base ≤ q) s.heap H locs → lv_has lsA nL (zas base b ls) → W p l e R s m args below meth c H locs (n - n0) (zsz n - zsz n0) Q (F0 m pc lsA (st.map (zcv base b)))
def z_isr : Value → Bool
  | .ref _ => true
  | .float _ => true
  | _ => false
def z_fl (own : String) (idx ci k : Nat) : Prop := ci < 13 ∧ k < zN ci ∧ (zT ci k).1 = zR ci ∧ (Cond.fieldLink own idx (zR ci) (zT ci k).2.1 (zT ci k).2.2.1 ∈ z_good ∨ ∃ host, Cond.fieldLinkNest own idx (zR ci) (zT ci k).2.1 (zT ci k).2.2.1 host ∈ z_nest)
def z_ml (own : String) (idx : Nat) (y : MethodName) (cc : ByteArray) (maxL : Nat) (ret : Option FieldType) (na : Nat) : Prop := (Cond.methodLink own idx y ∈ z_good ∨ ∃ host, Cond.methodLinkNest own idx y host ∈ z_nest) ∧ Cond.initialized y.cls ∈ z_good ∧ Cond.code y cc maxL ret ∈ z_good ∧ (y.cls ≠ "java/lang/invoke/MethodHandle" ∧ y.cls ≠ "java/lang/invoke/VarHandle" ∧ (parseMethodDescriptor y.desc).map (fun d => d.parameters.length) = some na)
def z_Pc (D : va_G) (gA : FieldType → Nat) (base b n : Nat) (I : zI) (J : zJ) (P : zP) (args : List Value) : Array Value → State → Prop := va_Pc (args.map (zcv base b)) (fun U => va_P D zcl (zws base gA n I J P) U.heap ∧ U.heap.size = base + n ∧ va_K D zcl (ztys gA) U ∧ (∀ w ∈ z_nest, va_Nw w U) ∧ va_AO "StepsShared$Standing" U)
def z_Qc (D : va_G) (gA : FieldType → Nat) (base b n1 : Nat) (post : Option Value → zI → zJ → zP → Prop) : Array Value → State → Outcome → State → Prop := fun _ st o t => (∃ (r : Option Value) (I : zI) (J : zJ) (P : zP), o = .returned (r.map (zcv base b)) ∧ post r I J P ∧ va_P D zcl (zws base gA n1 I J P) t.heap) ∧ va_F (fun q => base ≤ q) st t
/-- A METHOD'S CONTRACT over the abstract world: begun there with these arguments, it returns, and post holds of answer and world -/
def z_Sp (d : Nat) (y : MethodName) (cc : ByteArray) (maxL : Nat) (ret : Option FieldType) (n n1 : Nat) (I : zI) (J : zJ) (P : zP) (args : List Value) (post : Option Value → zI → zJ → zP → Prop) : Prop :=
  n ≤ n1 ∧ ∀ (l : Launch) (D : va_G) (gA : FieldType → Nat) (base b : Nat), Met l y (Cond.code y cc maxL ret :: z_good) { frames := d, cells := n1 - n, slots := zsz n1 - zsz n, locals := 64 * d } (z_Pc D gA base b n I J P args) (z_Qc D gA base b n1 post) (n1 - n) (zsz n1 - zsz n) (fun q => base ≤ q)
def z_cc : ClassFile.Cond → Int32 → Int32 → Prop
  | .eq, x, y => x = y
  | .ne, x, y => ¬ x = y
  | .lt, x, y => x < y
  | .ge, x, y => y ≤ x
  | .gt, x, y => y < x
  | .le, x, y => x ≤ y
def z_fv (P : zP) (I : zI) (ci o k : Nat) : Value := match zty ci k with
  | .object _ => (match P o k with | some q => .ref q | none => .null)
  | .array _ => (match P o k with | some q => .ref q | none => .null)
  | _ => .int (I o k)
def z_rf : Option Nat → Value
  | some q => .ref q
  | none => .null
def z_okI (ci k : Nat) (x : Int32) : Prop := narrow (zty ci k) (.int x) = .int x ∧ fits (zty ci k) (.int x) = true ∧ (∀ C, zty ci k ≠ .object C) ∧ (∀ t, zty ci k ≠ .array t)
def z_okR (ci k : Nat) : Prop := (∃ C, zty ci k = .object C) ∨ (∃ t, zty ci k = .array t)
def z_fin (own : String) (ini : Bool) (ci k : Nat) : Prop := (zT ci k).2.2.2 = true → ini = true ∧ (zT ci k).1 = own ∧ ∃ idx, Cond.fieldLink own idx (zR ci) (zT ci k).2.1 (zT ci k).2.2.1 ∈ z_good
/-- a returning instruction, and what must hold there -/
def z_ret (ret : Option FieldType) (n1 : Nat) (post : Option Value → zI → zJ → zP → Prop) (n : Nat) (I : zI) (J : zJ) (P : zP) (st : List Value) (i : Instr) : Prop := match i with
  | .ireturn => ∃ (x : Int32) (ty : FieldType), st = [.int x] ∧ ret = some ty ∧ narrow ty (.int x) = .int x ∧ n = n1 ∧ post (some (.int x)) I J P
  | .lreturn => ∃ (x : Int64), st = [.long x] ∧ ret = some .long ∧ n = n1 ∧ post (some (.long x)) I J P
  | .return_ => st = [] ∧ ret = none ∧ n = n1 ∧ post none I J P
  | _ => False

/-- a putfield's right: a field that isn't final; or a final one in its own class's constructor -/
def z_pf (own : String) (ini : Bool) (idx ci k : Nat) : Prop := (zT ci k).2.2.2 = false ∨ ((zT ci k).2.2.2 = true ∧ ini = true ∧ (zT ci k).1 = own ∧ Cond.fieldLink own idx (zR ci) (zT ci k).2.1 (zT ci k).2.2.1 ∈ z_good)
def z_wp (own : String) (d n1 : Nat) (ini : Bool) (sc : Option (Nat × (Nat → Int32))) (ret : Option FieldType) (post : Option Value → zI → zJ → zP → Prop) (V : Nat → zI → zJ → zP → Nat → List Value → List Value → Prop) (n : Nat) (I : zI) (J : zJ) (P : zP) (pc : Nat) (ls st : List Value) (i : Instr) (len : Nat) : Prop := match i with
  | .iadd => len = 1 ∧ ∃ (x y : Int32) (r : List Value), st = .int y :: .int x :: r ∧ V n I J P (pc + 1) ls (.int (x + y) :: r)
  | .isub => len = 1 ∧ ∃ (x y : Int32) (r : List Value), st = .int y :: .int x :: r ∧ V n I J P (pc + 1) ls (.int (x - y) :: r)
  | .imul => len = 1 ∧ ∃ (x y : Int32) (r : List Value), st = .int y :: .int x :: r ∧ V n I J P (pc + 1) ls (.int (x * y) :: r)
  | .iand => len = 1 ∧ ∃ (x y : Int32) (r : List Value), st = .int y :: .int x :: r ∧ V n I J P (pc + 1) ls (.int (x &&& y) :: r)
  | .ior => len = 1 ∧ ∃ (x y : Int32) (r : List Value), st = .int y :: .int x :: r ∧ V n I J P (pc + 1) ls (.int (x ||| y) :: r)
  | .ixor => len = 1 ∧ ∃ (x y : Int32) (r : List Value), st = .int y :: .int x :: r ∧ V n I J P (pc + 1) ls (.int (x ^^^ y) :: r)
  | .ishl => len = 1 ∧ ∃ (x y : Int32) (r : List Value), st = .int y :: .int x :: r ∧ V n I J P (pc + 1) ls (.int (x <<< (y &&& 31)) :: r)
  | .ishr => len = 1 ∧ ∃ (x y : Int32) (r : List Value), st = .int y :: .int x :: r ∧ V n I J P (pc + 1) ls (.int (x >>> (y &&& 31)) :: r)
  | .iushr => len = 1 ∧ ∃ (x y : Int32) (r : List Value), st = .int y :: .int x :: r ∧ V n I J P (pc + 1) ls (.int ((x.toUInt32 >>> (y.toUInt32 &&& Int32.toUInt32 31)).toInt32) :: r)
  | .idiv => len = 1 ∧ ∃ (x y : Int32) (r : List Value), st = .int y :: .int x :: r ∧ ¬ y = 0 ∧ V n I J P (pc + 1) ls (.int (x / y) :: r)
  | .irem => len = 1 ∧ ∃ (x y : Int32) (r : List Value), st = .int y :: .int x :: r ∧ ¬ y = 0 ∧ V n I J P (pc + 1) ls (.int (x - x / y * y) :: r)
  | .ladd => len = 1 ∧ ∃ (x y : Int64) (r : List Value), st = .long y :: .long x :: r ∧ V n I J P (pc + 1) ls (.long (x + y) :: r)
  | .lsub => len = 1 ∧ ∃ (x y : Int64) (r : List Value), st = .long y :: .long x :: r ∧ V n I J P (pc + 1) ls (.long (x - y) :: r)
  | .lmul => len = 1 ∧ ∃ (x y : Int64) (r : List Value), st = .long y :: .long x :: r ∧ V n I J P (pc + 1) ls (.long (x * y) :: r)
  | .land => len = 1 ∧ ∃ (x y : Int64) (r : List Value), st = .long y :: .long x :: r ∧ V n I J P (pc + 1) ls (.long (x &&& y) :: r)
  | .lor => len = 1 ∧ ∃ (x y : Int64) (r : List Value), st = .long y :: .long x :: r ∧ V n I J P (pc + 1) ls (.long (x ||| y) :: r)
  | .lxor => len = 1 ∧ ∃ (x y : Int64) (r : List Value), st = .long y :: .long x :: r ∧ V n I J P (pc + 1) ls (.long (x ^^^ y) :: r)
  | .ldiv => len = 1 ∧ ∃ (x y : Int64) (r : List Value), st = .long y :: .long x :: r ∧ ¬ y = 0 ∧ V n I J P (pc + 1) ls (.long (x / y) :: r)
  | .lrem => len = 1 ∧ ∃ (x y : Int64) (r : List Value), st = .long y :: .long x :: r ∧ ¬ y = 0 ∧ V n I J P (pc + 1) ls (.long (x - x / y * y) :: r)
  | .lshl => len = 1 ∧ ∃ (x : Int64) (y : Int32) (r : List Value), st = .int y :: .long x :: r ∧ V n I J P (pc + 1) ls (.long (x <<< (y.toInt64 &&& 63)) :: r)
  | .lshr => len = 1 ∧ ∃ (x : Int64) (y : Int32) (r : List Value), st = .int y :: .long x :: r ∧ V n I J P (pc + 1) ls (.long (x >>> (y.toInt64 &&& 63)) :: r)
  | .lushr => len = 1 ∧ ∃ (x : Int64) (y : Int32) (r : List Value), st = .int y :: .long x :: r ∧ V n I J P (pc + 1) ls (.long ((x.toUInt64 >>> (y.toInt64.toUInt64 &&& Int64.toUInt64 63)).toInt64) :: r)
  | .ineg => len = 1 ∧ ∃ (x : Int32) (r : List Value), st = .int x :: r ∧ V n I J P (pc + 1) ls (.int (-x) :: r)
  | .i2l => len = 1 ∧ ∃ (x : Int32) (r : List Value), st = .int x :: r ∧ V n I J P (pc + 1) ls (.long x.toInt64 :: r)
  | .l2i => len = 1 ∧ ∃ (x : Int64) (r : List Value), st = .long x :: r ∧ V n I J P (pc + 1) ls (.int x.toInt32 :: r)
  | .lcmp => len = 1 ∧ ∃ (x y : Int64) (r : List Value), st = .long y :: .long x :: r ∧ V n I J P (pc + 1) ls (.int (lg_cmp x y) :: r)
  | .iconst c => len = 1 ∧ V n I J P (pc + 1) ls (.int (Int32.ofInt c) :: st)
  | .bipush c => len = 2 ∧ V n I J P (pc + 2) ls (.int (Int8.ofInt c).toInt32 :: st)
  | .sipush c => len = 3 ∧ V n I J P (pc + 3) ls (.int (Int16.ofInt c).toInt32 :: st)
  | .lconst c => len = 1 ∧ V n I J P (pc + 1) ls (.long (Int64.ofNat (c : Nat)) :: st)
  | .ldc i => len = 2 ∧ ∃ x : Int32, Cond.constant own i x ∈ z_good ∧ V n I J P (pc + 2) ls (.int x :: st)
  | .ldc_w i => len = 3 ∧ ∃ x : Int32, Cond.constant own i x ∈ z_good ∧ V n I J P (pc + 3) ls (.int x :: st)
  | .ldc2_w i => len = 3 ∧ ∃ x : Int64, Cond.constantLong own i x ∈ z_good ∧ V n I J P (pc + 3) ls (.long x :: st)
  | .iload_n k => len = 1 ∧ ∃ x : Int32, ls[(k : Nat)]? = some (.int x) ∧ V n I J P (pc + 1) ls (.int x :: st)
  | .iload k => len = 2 ∧ ∃ x : Int32, ls[k]? = some (.int x) ∧ V n I J P (pc + 2) ls (.int x :: st)
  | .lload_n k => len = 1 ∧ ∃ x : Int64, ls[(k : Nat)]? = some (.long x) ∧ V n I J P (pc + 1) ls (.long x :: st)
  | .lload k => len = 2 ∧ ∃ x : Int64, ls[k]? = some (.long x) ∧ V n I J P (pc + 2) ls (.long x :: st)
  | .aload_n k => len = 1 ∧ ∃ v : Value, ls[(k : Nat)]? = some v ∧ z_isr v = true ∧ V n I J P (pc + 1) ls (v :: st)
  | .aload k => len = 2 ∧ ∃ v : Value, ls[k]? = some v ∧ z_isr v = true ∧ V n I J P (pc + 2) ls (v :: st)
  | .istore_n k => len = 1 ∧ ∃ (x : Int32) (r : List Value), st = .int x :: r ∧ (k : Nat) < ls.length ∧ V n I J P (pc + 1) (zst1 ls k (.int x)) r
  | .istore k => len = 2 ∧ ∃ (x : Int32) (r : List Value), st = .int x :: r ∧ k < ls.length ∧ V n I J P (pc + 2) (zst1 ls k (.int x)) r
  | .astore_n k => len = 1 ∧ ∃ (x : Nat) (r : List Value), st = .ref x :: r ∧ (k : Nat) < ls.length ∧ V n I J P (pc + 1) (zst1 ls k (.ref x)) r
  | .astore k => len = 2 ∧ ∃ (x : Nat) (r : List Value), st = .ref x :: r ∧ k < ls.length ∧ V n I J P (pc + 2) (zst1 ls k (.ref x)) r
  | .lstore_n k => len = 1 ∧ ∃ (x : Int64) (r : List Value), st = .long x :: r ∧ (k : Nat) + 1 < ls.length ∧ V n I J P (pc + 1) (zst2 ls k (.long x)) r
  | .lstore k => len = 2 ∧ ∃ (x : Int64) (r : List Value), st = .long x :: r ∧ k + 1 < ls.length ∧ V n I J P (pc + 2) (zst2 ls k (.long x)) r
  | .iinc k c => len = 3 ∧ ∃ x : Int32, ls[k]? = some (.int x) ∧ V n I J P (pc + 3) (zst1 ls k (.int (x + Int32.ofInt c))) st
  | .dup => len = 1 ∧ ∃ (v : Value) (r : List Value), st = v :: r ∧ v.category = 1 ∧ V n I J P (pc + 1) ls (v :: v :: r)
  | .dup2 => len = 1 ∧ ∃ (v u : Value) (r : List Value), st = v :: u :: r ∧ v.category = 1 ∧ u.category = 1 ∧ V n I J P (pc + 1) ls (v :: u :: v :: u :: r)
  | .goto o => len = 3 ∧ ∃ t : Nat, (pc : Int) + o = (t : Int) ∧ V n I J P t ls st
  | .if_icmp cd o => len = 3 ∧ ∃ (x y : Int32) (r : List Value) (t : Nat), st = .int y :: .int x :: r ∧ (pc : Int) + o = (t : Int) ∧ (z_cc cd x y → V n I J P t ls r) ∧ (¬ z_cc cd x y → V n I J P (pc + 3) ls r)
  | .ifCond cd o => len = 3 ∧ ∃ (x : Int32) (r : List Value) (t : Nat), st = .int x :: r ∧ (pc : Int) + o = (t : Int) ∧ (z_cc cd x 0 → V n I J P t ls r) ∧ (¬ z_cc cd x 0 → V n I J P (pc + 3) ls r)
  | .ifnonnull o => len = 3 ∧ ∃ (v : Value) (r : List Value) (t : Nat), st = v :: r ∧ z_isr v = true ∧ (pc : Int) + o = (t : Int) ∧ V n I J P t ls r
  | .tableswitch df lo hi offs => ∃ (x : Int32) (r : List Value), st = .int x :: r ∧ ((x.toInt < lo ∨ hi < x.toInt) → ∃ t : Nat, (pc : Int) + df = (t : Int) ∧ V n I J P t ls r) ∧ (¬ x.toInt < lo → ¬ hi < x.toInt → ∃ (o : Int) (t : Nat), offs[(x.toInt - lo).toNat]? = some o ∧ (pc : Int) + o = (t : Int) ∧ V n I J P t ls r)
  | .iaload => len = 1 ∧ ((∃ (q : Nat) (k : Int32) (r : List Value) (N : Nat), st = .int k :: .ref q :: r ∧ q < n ∧ zSH q = .inr (.int, N) ∧ vp_in k N ∧ V n I J P (pc + 1) ls (.int (I q k.toNatClampNeg) :: r)) ∨ (∃ (f : UInt32) (k : Int32) (r : List Value) (L : Nat) (xs : Nat → Int32), st = .int k :: .float f :: r ∧ sc = some (L, xs) ∧ vp_in k L ∧ V n I J P (pc + 1) ls (.int (xs k.toNatClampNeg) :: r)))
  | .arraylength => len = 1 ∧ ∃ (f : UInt32) (r : List Value) (L : Nat) (xs : Nat → Int32), st = .float f :: r ∧ sc = some (L, xs) ∧ V n I J P (pc + 1) ls (.int (Int32.ofNat L) :: r)
  | .baload => len = 1 ∧ ∃ (q : Nat) (k : Int32) (r : List Value) (N : Nat), st = .int k :: .ref q :: r ∧ q < n ∧ zSH q = .inr (.boolean, N) ∧ vp_in k N ∧ V n I J P (pc + 1) ls (.int (I q k.toNatClampNeg) :: r)
  | .laload => len = 1 ∧ ∃ (q : Nat) (k : Int32) (r : List Value) (N : Nat), st = .int k :: .ref q :: r ∧ q < n ∧ zSH q = .inr (.long, N) ∧ vp_in k N ∧ V n I J P (pc + 1) ls (.long (J q k.toNatClampNeg) :: r)
  | .aaload => len = 1 ∧ ∃ (q : Nat) (k : Int32) (r : List Value) (N : Nat), st = .int k :: .ref q :: r ∧ q < n ∧ zSH q = .inr (zStd, N) ∧ vp_in k N ∧ V n I J P (pc + 1) ls (z_rf (P q k.toNatClampNeg) :: r)
  | .iastore => len = 1 ∧ ∃ (q : Nat) (k x : Int32) (r : List Value) (N : Nat), st = .int x :: .int k :: .ref q :: r ∧ q < n ∧ zSH q = .inr (.int, N) ∧ vp_in k N ∧ V n (zu I q (zu (I q) k.toNatClampNeg x)) J P (pc + 1) ls r
  | .bastore => len = 1 ∧ ∃ (q : Nat) (k x : Int32) (r : List Value) (N : Nat), st = .int x :: .int k :: .ref q :: r ∧ q < n ∧ zSH q = .inr (.boolean, N) ∧ vp_in k N ∧ V n (zu I q (zu (I q) k.toNatClampNeg (vp_nar .boolean x))) J P (pc + 1) ls r
  | .lastore => len = 1 ∧ ∃ (q : Nat) (k : Int32) (x : Int64) (r : List Value) (N : Nat), st = .long x :: .int k :: .ref q :: r ∧ q < n ∧ zSH q = .inr (.long, N) ∧ vp_in k N ∧ V n I (zu J q (zu (J q) k.toNatClampNeg x)) P (pc + 1) ls r
  | .aastore => len = 1 ∧ ∃ (q v : Nat) (k : Int32) (r : List Value) (N : Nat), st = .ref v :: .int k :: .ref q :: r ∧ q < n ∧ v < n ∧ zSH q = .inr (zStd, N) ∧ zSH v = .inl 7 ∧ vp_in k N ∧ V n I J (zu P q (zu (P q) k.toNatClampNeg (some v))) (pc + 1) ls r
  | .getfield i => len = 3 ∧ ∃ (o ci k : Nat) (r : List Value), st = .ref o :: r ∧ z_fl own i ci k ∧ o < n ∧ zSH o = .inl ci ∧ V n I J P (pc + 3) ls (z_fv P I ci o k :: r)
  | .putfield i => len = 3 ∧ ∃ (o ci k : Nat) (r : List Value), z_fl own i ci k ∧ z_pf own ini i ci k ∧ o < n ∧ zSH o = .inl ci ∧ ((∃ x : Int32, st = .int x :: .ref o :: r ∧ z_okI ci k x ∧ V n (zu I o (zu (I o) k x)) J P (pc + 3) ls r) ∨ (∃ q : Nat, st = .ref q :: .ref o :: r ∧ z_okR ci k ∧ V n I J (zu P o (zu (P o) k (some q))) (pc + 3) ls r))
  | .new i => len = 3 ∧ ∃ ci : Nat, ci < 13 ∧ Cond.classLink own i (zR ci) ∈ z_good ∧ Cond.instantiable (zR ci) (zN ci) ∈ z_good ∧ Cond.initialized (zR ci) ∈ z_good ∧ zSH n = .inl ci ∧ n + 1 ≤ n1 ∧ V (n + 1) (zu I n (fun _ => 0)) (zu J n (fun _ => 0)) (zu P n (fun _ => none)) (pc + 3) ls (.ref n :: st)
  | .newarray t => len = 2 ∧ ∃ (x : Int32) (N : Nat) (r : List Value), st = .int x :: r ∧ (t = .int ∨ t = .long ∨ t = .boolean) ∧ Cond.arrayClass (newarray.typeOf t) ∈ z_good ∧ zSH n = .inr (newarray.typeOf t, N) ∧ ¬ x < 0 ∧ x.toNatClampNeg = N ∧ N ≤ 100000 ∧ n + 1 ≤ n1 ∧ V (n + 1) (zu I n (fun _ => 0)) (zu J n (fun _ => 0)) (zu P n (fun _ => none)) (pc + 2) ls (.ref n :: r)
  | .anewarray i => len = 3 ∧ ∃ (x : Int32) (N : Nat) (r : List Value), st = .int x :: r ∧ Cond.classLink own i "StepsShared$Standing" ∈ z_good ∧ zSH n = .inr (zStd, N) ∧ ¬ x < 0 ∧ x.toNatClampNeg = N ∧ N ≤ 100000 ∧ n + 1 ≤ n1 ∧ V (n + 1) (zu I n (fun _ => 0)) (zu J n (fun _ => 0)) (zu P n (fun _ => none)) (pc + 3) ls (.ref n :: r)
  | .invokevirtual i => len = 3 ∧ ∃ (y : MethodName) (cy : ByteArray) (mL : Nat) (rt : Option FieldType) (na d1 n2 o ci : Nat) (As rest : List Value) (post1 : Option Value → zI → zJ → zP → Prop), st = As.reverse ++ .ref o :: rest ∧ z_ml own i y cy mL rt na ∧ Cond.instanceMethod y ∈ z_good ∧ Cond.selects y.cls y y ∈ z_good ∧ As.length = na ∧ o < n ∧ zSH o = .inl ci ∧ ci < 13 ∧ zR ci = y.cls ∧ d1 + 1 ≤ d ∧ mL ≤ 45 ∧ (rest.map fun v => v.category).sum ≤ 8 ∧ n2 ≤ n1 ∧ z_Sp d1 y cy mL rt n n2 I J P (.ref o :: As) post1 ∧ (∀ (r : Option Value) (I1 : zI) (J1 : zJ) (P1 : zP), post1 r I1 J1 P1 → V n2 I1 J1 P1 (pc + 3) ls (r.toList ++ rest))
  | .invokestatic i => len = 3 ∧ ∃ (y : MethodName) (cy : ByteArray) (mL : Nat) (rt : Option FieldType) (na d1 n2 : Nat) (As rest : List Value) (post1 : Option Value → zI → zJ → zP → Prop), st = As.reverse ++ rest ∧ z_ml own i y cy mL rt na ∧ Cond.static y ∈ z_good ∧ As.length = na ∧ d1 + 1 ≤ d ∧ mL ≤ 45 ∧ (rest.map fun v => v.category).sum ≤ 8 ∧ n2 ≤ n1 ∧ z_Sp d1 y cy mL rt n n2 I J P As post1 ∧ (∀ (r : Option Value) (I1 : zI) (J1 : zJ) (P1 : zP), post1 r I1 J1 P1 → V n2 I1 J1 P1 (pc + 3) ls (r.toList ++ rest))
  | .invokespecial i => len = 3 ∧ ((∃ (o : Nat) (rest : List Value), st = .ref o :: rest ∧ Cond.methodLink own i Lib.objectInit ∈ z_good ∧ 1 ≤ d ∧ (rest.map fun v => v.category).sum ≤ 8 ∧ V n I J P (pc + 3) ls rest) ∨ (∃ (y : MethodName) (cy : ByteArray) (mL : Nat) (na d1 n2 o : Nat) (As rest : List Value) (post1 : Option Value → zI → zJ → zP → Prop), st = As.reverse ++ .ref o :: rest ∧ z_ml own i y cy mL none na ∧ Cond.instanceMethod y ∈ z_good ∧ y.name = "<init>" ∧ As.length = na ∧ d1 + 1 ≤ d ∧ mL ≤ 45 ∧ (rest.map fun v => v.category).sum ≤ 8 ∧ n2 ≤ n1 ∧ z_Sp d1 y cy mL none n n2 I J P (.ref o :: As) post1 ∧ (∀ (r : Option Value) (I1 : zI) (J1 : zJ) (P1 : zP), post1 r I1 J1 P1 → V n2 I1 J1 P1 (pc + 3) ls (r.toList ++ rest))))
  | i => len = 1 ∧ z_ret ret n1 post n I J P st i
/-- V is closed backward under the method's instructions -/
def z_Cl (own : String) (cc : ByteArray) (d n1 : Nat) (ini : Bool) (sc : Option (Nat × (Nat → Int32))) (ret : Option FieldType) (post : Option Value → zI → zJ → zP → Prop) (V : Nat → zI → zJ → zP → Nat → List Value → List Value → Prop) : Prop :=
  ∀ (n : Nat) (I : zI) (J : zJ) (P : zP) (pc : Nat) (ls st : List Value) (i : Instr) (len : Nat), decode cc pc = .ok (i, len) → z_wp own d n1 ini sc ret post V n I J P pc ls st i len → V n I J P pc ls st
end
section
theorem zs_iadd {K : zCx} {own : String} {cc : ByteArray} {d n1 : Nat} {ini : Bool} {sc : Option (Nat × (Nat → Int32))} (C : zCtx K own cc d n1 ini sc) {n : Nat} {I : zI} {J : zJ} {P : zP} {pc : Nat} {ls : List Value} {x y : Int32} {r : List Value} (hd : decode cc pc = .ok (.iadd, 1)) (k : zV K n I J P (pc + 1) ls (.int (x + y) :: r)) : zV K n I J P pc ls (.int y :: .int x :: r) := by
  obtain ⟨p, l, e, R, s, m, args, below, meth, c, Q, D, gA, base, b, n0, n1v, nL⟩ := K
  obtain ⟨hx, hb, hml, hown, hgd, -⟩ := C
  intro a1 a2 a3 H locs lsA hP hS hL
  exact lv_iadd hx hb hd (k a1 a2 a3 H locs lsA hP hS hL)
theorem zs_isub {K : zCx} {own : String} {cc : ByteArray} {d n1 : Nat} {ini : Bool} {sc : Option (Nat × (Nat → Int32))} (C : zCtx K own cc d n1 ini sc) {n : Nat} {I : zI} {J : zJ} {P : zP} {pc : Nat} {ls : List Value} {x y : Int32} {r : List Value} (hd : decode cc pc = .ok (.isub, 1)) (k : zV K n I J P (pc + 1) ls (.int (x - y) :: r)) : zV K n I J P pc ls (.int y :: .int x :: r) := by
  obtain ⟨p, l, e, R, s, m, args, below, meth, c, Q, D, gA, base, b, n0, n1v, nL⟩ := K
  obtain ⟨hx, hb, hml, hown, hgd, -⟩ := C
  intro a1 a2 a3 H locs lsA hP hS hL
  exact lv_isub hx hb hd (k a1 a2 a3 H locs lsA hP hS hL)
theorem zs_imul {K : zCx} {own : String} {cc : ByteArray} {d n1 : Nat} {ini : Bool} {sc : Option (Nat × (Nat → Int32))} (C : zCtx K own cc d n1 ini sc) {n : Nat} {I : zI} {J : zJ} {P : zP} {pc : Nat} {ls : List Value} {x y : Int32} {r : List Value} (hd : decode cc pc = .ok (.imul, 1)) (k : zV K n I J P (pc + 1) ls (.int (x * y) :: r)) : zV K n I J P pc ls (.int y :: .int x :: r) := by
  obtain ⟨p, l, e, R, s, m, args, below, meth, c, Q, D, gA, base, b, n0, n1v, nL⟩ := K
  obtain ⟨hx, hb, hml, hown, hgd, -⟩ := C
  intro a1 a2 a3 H locs lsA hP hS hL
  exact lv_imul hx hb hd (k a1 a2 a3 H locs lsA hP hS hL)
theorem zs_iand {K : zCx} {own : String} {cc : ByteArray} {d n1 : Nat} {ini : Bool} {sc : Option (Nat × (Nat → Int32))} (C : zCtx K own cc d n1 ini sc) {n : Nat} {I : zI} {J : zJ} {P : zP} {pc : Nat} {ls : List Value} {x y : Int32} {r : List Value} (hd : decode cc pc = .ok (.iand, 1)) (k : zV K n I J P (pc + 1) ls (.int (x &&& y) :: r)) : zV K n I J P pc ls (.int y :: .int x :: r) := by
  obtain ⟨p, l, e, R, s, m, args, below, meth, c, Q, D, gA, base, b, n0, n1v, nL⟩ := K
  obtain ⟨hx, hb, hml, hown, hgd, -⟩ := C
  intro a1 a2 a3 H locs lsA hP hS hL
  exact lv_iand hx hb hd (k a1 a2 a3 H locs lsA hP hS hL)
theorem zs_ior {K : zCx} {own : String} {cc : ByteArray} {d n1 : Nat} {ini : Bool} {sc : Option (Nat × (Nat → Int32))} (C : zCtx K own cc d n1 ini sc) {n : Nat} {I : zI} {J : zJ} {P : zP} {pc : Nat} {ls : List Value} {x y : Int32} {r : List Value} (hd : decode cc pc = .ok (.ior, 1)) (k : zV K n I J P (pc + 1) ls (.int (x ||| y) :: r)) : zV K n I J P pc ls (.int y :: .int x :: r) := by
  obtain ⟨p, l, e, R, s, m, args, below, meth, c, Q, D, gA, base, b, n0, n1v, nL⟩ := K
  obtain ⟨hx, hb, hml, hown, hgd, -⟩ := C
  intro a1 a2 a3 H locs lsA hP hS hL
  exact lv_ior hx hb hd (k a1 a2 a3 H locs lsA hP hS hL)
theorem zs_ixor {K : zCx} {own : String} {cc : ByteArray} {d n1 : Nat} {ini : Bool} {sc : Option (Nat × (Nat → Int32))} (C : zCtx K own cc d n1 ini sc) {n : Nat} {I : zI} {J : zJ} {P : zP} {pc : Nat} {ls : List Value} {x y : Int32} {r : List Value} (hd : decode cc pc = .ok (.ixor, 1)) (k : zV K n I J P (pc + 1) ls (.int (x ^^^ y) :: r)) : zV K n I J P pc ls (.int y :: .int x :: r) := by
  obtain ⟨p, l, e, R, s, m, args, below, meth, c, Q, D, gA, base, b, n0, n1v, nL⟩ := K
  obtain ⟨hx, hb, hml, hown, hgd, -⟩ := C
  intro a1 a2 a3 H locs lsA hP hS hL
  exact lv_ixor hx hb hd (k a1 a2 a3 H locs lsA hP hS hL)
theorem zs_ishl {K : zCx} {own : String} {cc : ByteArray} {d n1 : Nat} {ini : Bool} {sc : Option (Nat × (Nat → Int32))} (C : zCtx K own cc d n1 ini sc) {n : Nat} {I : zI} {J : zJ} {P : zP} {pc : Nat} {ls : List Value} {x y : Int32} {r : List Value} (hd : decode cc pc = .ok (.ishl, 1)) (k : zV K n I J P (pc + 1) ls (.int (x <<< (y &&& 31)) :: r)) : zV K n I J P pc ls (.int y :: .int x :: r) := by
  obtain ⟨p, l, e, R, s, m, args, below, meth, c, Q, D, gA, base, b, n0, n1v, nL⟩ := K
  obtain ⟨hx, hb, hml, hown, hgd, -⟩ := C
  intro a1 a2 a3 H locs lsA hP hS hL
  exact lv_ishl hx hb hd (k a1 a2 a3 H locs lsA hP hS hL)
theorem zs_ishr {K : zCx} {own : String} {cc : ByteArray} {d n1 : Nat} {ini : Bool} {sc : Option (Nat × (Nat → Int32))} (C : zCtx K own cc d n1 ini sc) {n : Nat} {I : zI} {J : zJ} {P : zP} {pc : Nat} {ls : List Value} {x y : Int32} {r : List Value} (hd : decode cc pc = .ok (.ishr, 1)) (k : zV K n I J P (pc + 1) ls (.int (x >>> (y &&& 31)) :: r)) : zV K n I J P pc ls (.int y :: .int x :: r) := by
  obtain ⟨p, l, e, R, s, m, args, below, meth, c, Q, D, gA, base, b, n0, n1v, nL⟩ := K
  obtain ⟨hx, hb, hml, hown, hgd, -⟩ := C
  intro a1 a2 a3 H locs lsA hP hS hL
  exact lv_ishr hx hb hd (k a1 a2 a3 H locs lsA hP hS hL)
theorem zs_iushr {K : zCx} {own : String} {cc : ByteArray} {d n1 : Nat} {ini : Bool} {sc : Option (Nat × (Nat → Int32))} (C : zCtx K own cc d n1 ini sc) {n : Nat} {I : zI} {J : zJ} {P : zP} {pc : Nat} {ls : List Value} {x y : Int32} {r : List Value} (hd : decode cc pc = .ok (.iushr, 1)) (k : zV K n I J P (pc + 1) ls (.int ((x.toUInt32 >>> (y.toUInt32 &&& Int32.toUInt32 31)).toInt32) :: r)) : zV K n I J P pc ls (.int y :: .int x :: r) := by
  obtain ⟨p, l, e, R, s, m, args, below, meth, c, Q, D, gA, base, b, n0, n1v, nL⟩ := K
  obtain ⟨hx, hb, hml, hown, hgd, -⟩ := C
  intro a1 a2 a3 H locs lsA hP hS hL
  exact lv_iushr hx hb hd rfl (k a1 a2 a3 H locs lsA hP hS hL)
theorem zs_idiv {K : zCx} {own : String} {cc : ByteArray} {d n1 : Nat} {ini : Bool} {sc : Option (Nat × (Nat → Int32))} (C : zCtx K own cc d n1 ini sc) {n : Nat} {I : zI} {J : zJ} {P : zP} {pc : Nat} {ls : List Value} {x y : Int32} (hne : ¬ y = 0) {r : List Value} (hd : decode cc pc = .ok (.idiv, 1)) (k : zV K n I J P (pc + 1) ls (.int (x / y) :: r)) : zV K n I J P pc ls (.int y :: .int x :: r) := by
  obtain ⟨p, l, e, R, s, m, args, below, meth, c, Q, D, gA, base, b, n0, n1v, nL⟩ := K
  obtain ⟨hx, hb, hml, hown, hgd, -⟩ := C
  intro a1 a2 a3 H locs lsA hP hS hL
  exact lv_idiv hx hb hd hne (k a1 a2 a3 H locs lsA hP hS hL)
theorem zs_irem {K : zCx} {own : String} {cc : ByteArray} {d n1 : Nat} {ini : Bool} {sc : Option (Nat × (Nat → Int32))} (C : zCtx K own cc d n1 ini sc) {n : Nat} {I : zI} {J : zJ} {P : zP} {pc : Nat} {ls : List Value} {x y : Int32} (hne : ¬ y = 0) {r : List Value} (hd : decode cc pc = .ok (.irem, 1)) (k : zV K n I J P (pc + 1) ls (.int (x - x / y * y) :: r)) : zV K n I J P pc ls (.int y :: .int x :: r) := by
  obtain ⟨p, l, e, R, s, m, args, below, meth, c, Q, D, gA, base, b, n0, n1v, nL⟩ := K
  obtain ⟨hx, hb, hml, hown, hgd, -⟩ := C
  intro a1 a2 a3 H locs lsA hP hS hL
  exact lv_irem hx hb hd hne (k a1 a2 a3 H locs lsA hP hS hL)
theorem zs_ladd {K : zCx} {own : String} {cc : ByteArray} {d n1 : Nat} {ini : Bool} {sc : Option (Nat × (Nat → Int32))} (C : zCtx K own cc d n1 ini sc) {n : Nat} {I : zI} {J : zJ} {P : zP} {pc : Nat} {ls : List Value} {x y : Int64} {r : List Value} (hd : decode cc pc = .ok (.ladd, 1)) (k : zV K n I J P (pc + 1) ls (.long (x + y) :: r)) : zV K n I J P pc ls (.long y :: .long x :: r) := by
  obtain ⟨p, l, e, R, s, m, args, below, meth, c, Q, D, gA, base, b, n0, n1v, nL⟩ := K
  obtain ⟨hx, hb, hml, hown, hgd, -⟩ := C
  intro a1 a2 a3 H locs lsA hP hS hL
  exact lv_ladd hx hb hd (k a1 a2 a3 H locs lsA hP hS hL)
theorem zs_lsub {K : zCx} {own : String} {cc : ByteArray} {d n1 : Nat} {ini : Bool} {sc : Option (Nat × (Nat → Int32))} (C : zCtx K own cc d n1 ini sc) {n : Nat} {I : zI} {J : zJ} {P : zP} {pc : Nat} {ls : List Value} {x y : Int64} {r : List Value} (hd : decode cc pc = .ok (.lsub, 1)) (k : zV K n I J P (pc + 1) ls (.long (x - y) :: r)) : zV K n I J P pc ls (.long y :: .long x :: r) := by
  obtain ⟨p, l, e, R, s, m, args, below, meth, c, Q, D, gA, base, b, n0, n1v, nL⟩ := K
  obtain ⟨hx, hb, hml, hown, hgd, -⟩ := C
  intro a1 a2 a3 H locs lsA hP hS hL
  exact lv_lsub hx hb hd (k a1 a2 a3 H locs lsA hP hS hL)
theorem zs_lmul {K : zCx} {own : String} {cc : ByteArray} {d n1 : Nat} {ini : Bool} {sc : Option (Nat × (Nat → Int32))} (C : zCtx K own cc d n1 ini sc) {n : Nat} {I : zI} {J : zJ} {P : zP} {pc : Nat} {ls : List Value} {x y : Int64} {r : List Value} (hd : decode cc pc = .ok (.lmul, 1)) (k : zV K n I J P (pc + 1) ls (.long (x * y) :: r)) : zV K n I J P pc ls (.long y :: .long x :: r) := by
  obtain ⟨p, l, e, R, s, m, args, below, meth, c, Q, D, gA, base, b, n0, n1v, nL⟩ := K
  obtain ⟨hx, hb, hml, hown, hgd, -⟩ := C
  intro a1 a2 a3 H locs lsA hP hS hL
  exact lv_lmul hx hb hd (k a1 a2 a3 H locs lsA hP hS hL)
theorem zs_land {K : zCx} {own : String} {cc : ByteArray} {d n1 : Nat} {ini : Bool} {sc : Option (Nat × (Nat → Int32))} (C : zCtx K own cc d n1 ini sc) {n : Nat} {I : zI} {J : zJ} {P : zP} {pc : Nat} {ls : List Value} {x y : Int64} {r : List Value} (hd : decode cc pc = .ok (.land, 1)) (k : zV K n I J P (pc + 1) ls (.long (x &&& y) :: r)) : zV K n I J P pc ls (.long y :: .long x :: r) := by
  obtain ⟨p, l, e, R, s, m, args, below, meth, c, Q, D, gA, base, b, n0, n1v, nL⟩ := K
  obtain ⟨hx, hb, hml, hown, hgd, -⟩ := C
  intro a1 a2 a3 H locs lsA hP hS hL
  exact lv_land hx hb hd (k a1 a2 a3 H locs lsA hP hS hL)
theorem zs_lor {K : zCx} {own : String} {cc : ByteArray} {d n1 : Nat} {ini : Bool} {sc : Option (Nat × (Nat → Int32))} (C : zCtx K own cc d n1 ini sc) {n : Nat} {I : zI} {J : zJ} {P : zP} {pc : Nat} {ls : List Value} {x y : Int64} {r : List Value} (hd : decode cc pc = .ok (.lor, 1)) (k : zV K n I J P (pc + 1) ls (.long (x ||| y) :: r)) : zV K n I J P pc ls (.long y :: .long x :: r) := by
  obtain ⟨p, l, e, R, s, m, args, below, meth, c, Q, D, gA, base, b, n0, n1v, nL⟩ := K
  obtain ⟨hx, hb, hml, hown, hgd, -⟩ := C
  intro a1 a2 a3 H locs lsA hP hS hL
  exact lv_lor hx hb hd (k a1 a2 a3 H locs lsA hP hS hL)
theorem zs_lxor {K : zCx} {own : String} {cc : ByteArray} {d n1 : Nat} {ini : Bool} {sc : Option (Nat × (Nat → Int32))} (C : zCtx K own cc d n1 ini sc) {n : Nat} {I : zI} {J : zJ} {P : zP} {pc : Nat} {ls : List Value} {x y : Int64} {r : List Value} (hd : decode cc pc = .ok (.lxor, 1)) (k : zV K n I J P (pc + 1) ls (.long (x ^^^ y) :: r)) : zV K n I J P pc ls (.long y :: .long x :: r) := by
  obtain ⟨p, l, e, R, s, m, args, below, meth, c, Q, D, gA, base, b, n0, n1v, nL⟩ := K
  obtain ⟨hx, hb, hml, hown, hgd, -⟩ := C
  intro a1 a2 a3 H locs lsA hP hS hL
  exact lv_lxor hx hb hd (k a1 a2 a3 H locs lsA hP hS hL)
theorem zs_ldiv {K : zCx} {own : String} {cc : ByteArray} {d n1 : Nat} {ini : Bool} {sc : Option (Nat × (Nat → Int32))} (C : zCtx K own cc d n1 ini sc) {n : Nat} {I : zI} {J : zJ} {P : zP} {pc : Nat} {ls : List Value} {x y : Int64} (hne : ¬ y = 0) {r : List Value} (hd : decode cc pc = .ok (.ldiv, 1)) (k : zV K n I J P (pc + 1) ls (.long (x / y) :: r)) : zV K n I J P pc ls (.long y :: .long x :: r) := by
  obtain ⟨p, l, e, R, s, m, args, below, meth, c, Q, D, gA, base, b, n0, n1v, nL⟩ := K
  obtain ⟨hx, hb, hml, hown, hgd, -⟩ := C
  intro a1 a2 a3 H locs lsA hP hS hL
  exact lv_ldiv hx hb hd hne (k a1 a2 a3 H locs lsA hP hS hL)
theorem zs_lrem {K : zCx} {own : String} {cc : ByteArray} {d n1 : Nat} {ini : Bool} {sc : Option (Nat × (Nat → Int32))} (C : zCtx K own cc d n1 ini sc) {n : Nat} {I : zI} {J : zJ} {P : zP} {pc : Nat} {ls : List Value} {x y : Int64} (hne : ¬ y = 0) {r : List Value} (hd : decode cc pc = .ok (.lrem, 1)) (k : zV K n I J P (pc + 1) ls (.long (x - x / y * y) :: r)) : zV K n I J P pc ls (.long y :: .long x :: r) := by
  obtain ⟨p, l, e, R, s, m, args, below, meth, c, Q, D, gA, base, b, n0, n1v, nL⟩ := K
  obtain ⟨hx, hb, hml, hown, hgd, -⟩ := C
  intro a1 a2 a3 H locs lsA hP hS hL
  exact lv_lrem hx hb hd hne (k a1 a2 a3 H locs lsA hP hS hL)
theorem zs_lshl {K : zCx} {own : String} {cc : ByteArray} {d n1 : Nat} {ini : Bool} {sc : Option (Nat × (Nat → Int32))} (C : zCtx K own cc d n1 ini sc) {n : Nat} {I : zI} {J : zJ} {P : zP} {pc : Nat} {ls : List Value} {x : Int64} {y : Int32} {r : List Value} (hd : decode cc pc = .ok (.lshl, 1)) (k : zV K n I J P (pc + 1) ls (.long (x <<< (y.toInt64 &&& 63)) :: r)) : zV K n I J P pc ls (.int y :: .long x :: r) := by
  obtain ⟨p, l, e, R, s, m, args, below, meth, c, Q, D, gA, base, b, n0, n1v, nL⟩ := K
  obtain ⟨hx, hb, hml, hown, hgd, -⟩ := C
  intro a1 a2 a3 H locs lsA hP hS hL
  exact lv_lshl hx hb hd rfl (k a1 a2 a3 H locs lsA hP hS hL)
theorem zs_lshr {K : zCx} {own : String} {cc : ByteArray} {d n1 : Nat} {ini : Bool} {sc : Option (Nat × (Nat → Int32))} (C : zCtx K own cc d n1 ini sc) {n : Nat} {I : zI} {J : zJ} {P : zP} {pc : Nat} {ls : List Value} {x : Int64} {y : Int32} {r : List Value} (hd : decode cc pc = .ok (.lshr, 1)) (k : zV K n I J P (pc + 1) ls (.long (x >>> (y.toInt64 &&& 63)) :: r)) : zV K n I J P pc ls (.int y :: .long x :: r) := by
  obtain ⟨p, l, e, R, s, m, args, below, meth, c, Q, D, gA, base, b, n0, n1v, nL⟩ := K
  obtain ⟨hx, hb, hml, hown, hgd, -⟩ := C
  intro a1 a2 a3 H locs lsA hP hS hL
  exact lv_lshr hx hb hd rfl (k a1 a2 a3 H locs lsA hP hS hL)
theorem zs_lushr {K : zCx} {own : String} {cc : ByteArray} {d n1 : Nat} {ini : Bool} {sc : Option (Nat × (Nat → Int32))} (C : zCtx K own cc d n1 ini sc) {n : Nat} {I : zI} {J : zJ} {P : zP} {pc : Nat} {ls : List Value} {x : Int64} {y : Int32} {r : List Value} (hd : decode cc pc = .ok (.lushr, 1)) (k : zV K n I J P (pc + 1) ls (.long ((x.toUInt64 >>> (y.toInt64.toUInt64 &&& Int64.toUInt64 63)).toInt64) :: r)) : zV K n I J P pc ls (.int y :: .long x :: r) := by
  obtain ⟨p, l, e, R, s, m, args, below, meth, c, Q, D, gA, base, b, n0, n1v, nL⟩ := K
  obtain ⟨hx, hb, hml, hown, hgd, -⟩ := C
  intro a1 a2 a3 H locs lsA hP hS hL
  exact lv_lushr hx hb hd rfl (k a1 a2 a3 H locs lsA hP hS hL)
theorem zs_ineg {K : zCx} {own : String} {cc : ByteArray} {d n1 : Nat} {ini : Bool} {sc : Option (Nat × (Nat → Int32))} (C : zCtx K own cc d n1 ini sc) {n : Nat} {I : zI} {J : zJ} {P : zP} {pc : Nat} {ls : List Value} {x : Int32} {r : List Value} (hd : decode cc pc = .ok (.ineg, 1)) (k : zV K n I J P (pc + 1) ls (.int (-x) :: r)) : zV K n I J P pc ls (.int x :: r) := by
  obtain ⟨p, l, e, R, s, m, args, below, meth, c, Q, D, gA, base, b, n0, n1v, nL⟩ := K
  obtain ⟨hx, hb, hml, hown, hgd, -⟩ := C
  intro a1 a2 a3 H locs lsA hP hS hL
  exact lv_ineg hx hb hd (k a1 a2 a3 H locs lsA hP hS hL)
theorem zs_i2l {K : zCx} {own : String} {cc : ByteArray} {d n1 : Nat} {ini : Bool} {sc : Option (Nat × (Nat → Int32))} (C : zCtx K own cc d n1 ini sc) {n : Nat} {I : zI} {J : zJ} {P : zP} {pc : Nat} {ls : List Value} {x : Int32} {r : List Value} (hd : decode cc pc = .ok (.i2l, 1)) (k : zV K n I J P (pc + 1) ls (.long x.toInt64 :: r)) : zV K n I J P pc ls (.int x :: r) := by
  obtain ⟨p, l, e, R, s, m, args, below, meth, c, Q, D, gA, base, b, n0, n1v, nL⟩ := K
  obtain ⟨hx, hb, hml, hown, hgd, -⟩ := C
  intro a1 a2 a3 H locs lsA hP hS hL
  exact lv_i2l hx hb hd rfl (k a1 a2 a3 H locs lsA hP hS hL)
theorem zs_l2i {K : zCx} {own : String} {cc : ByteArray} {d n1 : Nat} {ini : Bool} {sc : Option (Nat × (Nat → Int32))} (C : zCtx K own cc d n1 ini sc) {n : Nat} {I : zI} {J : zJ} {P : zP} {pc : Nat} {ls : List Value} {x : Int64} {r : List Value} (hd : decode cc pc = .ok (.l2i, 1)) (k : zV K n I J P (pc + 1) ls (.int x.toInt32 :: r)) : zV K n I J P pc ls (.long x :: r) := by
  obtain ⟨p, l, e, R, s, m, args, below, meth, c, Q, D, gA, base, b, n0, n1v, nL⟩ := K
  obtain ⟨hx, hb, hml, hown, hgd, -⟩ := C
  intro a1 a2 a3 H locs lsA hP hS hL
  exact lv_l2i hx hb hd rfl (k a1 a2 a3 H locs lsA hP hS hL)
theorem zs_lcmp {K : zCx} {own : String} {cc : ByteArray} {d n1 : Nat} {ini : Bool} {sc : Option (Nat × (Nat → Int32))} (C : zCtx K own cc d n1 ini sc) {n : Nat} {I : zI} {J : zJ} {P : zP} {pc : Nat} {ls : List Value} {x y : Int64} {r : List Value} (hd : decode cc pc = .ok (.lcmp, 1)) (k : zV K n I J P (pc + 1) ls (.int (lg_cmp x y) :: r)) : zV K n I J P pc ls (.long y :: .long x :: r) := by
  obtain ⟨p, l, e, R, s, m, args, below, meth, c, Q, D, gA, base, b, n0, n1v, nL⟩ := K
  obtain ⟨hx, hb, hml, hown, hgd, -⟩ := C
  intro a1 a2 a3 H locs lsA hP hS hL
  exact W.lcmp hx hb hd (k a1 a2 a3 H locs lsA hP hS hL)
theorem zs_iconst {K : zCx} {own : String} {cc : ByteArray} {d n1 : Nat} {ini : Bool} {sc : Option (Nat × (Nat → Int32))} (C : zCtx K own cc d n1 ini sc) {n : Nat} {I : zI} {J : zJ} {P : zP} {pc : Nat} {ls : List Value} {c : Int} {r : List Value} (hd : decode cc pc = .ok (.iconst c, 1)) (k : zV K n I J P (pc + 1) ls (.int (Int32.ofInt c) :: r)) : zV K n I J P pc ls (r) := by
  obtain ⟨p, l, e, R, s, m, args, below, meth, c, Q, D, gA, base, b, n0, n1v, nL⟩ := K
  obtain ⟨hx, hb, hml, hown, hgd, -⟩ := C
  intro a1 a2 a3 H locs lsA hP hS hL
  exact lv_iconst hx hb hd rfl (k a1 a2 a3 H locs lsA hP hS hL)
theorem zs_bipush {K : zCx} {own : String} {cc : ByteArray} {d n1 : Nat} {ini : Bool} {sc : Option (Nat × (Nat → Int32))} (C : zCtx K own cc d n1 ini sc) {n : Nat} {I : zI} {J : zJ} {P : zP} {pc : Nat} {ls : List Value} {c : Int} {r : List Value} (hd : decode cc pc = .ok (.bipush c, 2)) (k : zV K n I J P (pc + 2) ls (.int (Int8.ofInt c).toInt32 :: r)) : zV K n I J P pc ls (r) := by
  obtain ⟨p, l, e, R, s, m, args, below, meth, c, Q, D, gA, base, b, n0, n1v, nL⟩ := K
  obtain ⟨hx, hb, hml, hown, hgd, -⟩ := C
  intro a1 a2 a3 H locs lsA hP hS hL
  exact lv_bipush hx hb hd rfl (k a1 a2 a3 H locs lsA hP hS hL)
theorem zs_sipush {K : zCx} {own : String} {cc : ByteArray} {d n1 : Nat} {ini : Bool} {sc : Option (Nat × (Nat → Int32))} (C : zCtx K own cc d n1 ini sc) {n : Nat} {I : zI} {J : zJ} {P : zP} {pc : Nat} {ls : List Value} {c : Int} {r : List Value} (hd : decode cc pc = .ok (.sipush c, 3)) (k : zV K n I J P (pc + 3) ls (.int (Int16.ofInt c).toInt32 :: r)) : zV K n I J P pc ls (r) := by
  obtain ⟨p, l, e, R, s, m, args, below, meth, c, Q, D, gA, base, b, n0, n1v, nL⟩ := K
  obtain ⟨hx, hb, hml, hown, hgd, -⟩ := C
  intro a1 a2 a3 H locs lsA hP hS hL
  exact lv_sipush hx hb hd rfl (k a1 a2 a3 H locs lsA hP hS hL)
theorem zs_lconst {K : zCx} {own : String} {cc : ByteArray} {d n1 : Nat} {ini : Bool} {sc : Option (Nat × (Nat → Int32))} (C : zCtx K own cc d n1 ini sc) {n : Nat} {I : zI} {J : zJ} {P : zP} {pc : Nat} {ls : List Value} {c : Fin 2} {r : List Value} (hd : decode cc pc = .ok (.lconst c, 1)) (k : zV K n I J P (pc + 1) ls (.long (Int64.ofNat (c : Nat)) :: r)) : zV K n I J P pc ls (r) := by
  obtain ⟨p, l, e, R, s, m, args, below, meth, c, Q, D, gA, base, b, n0, n1v, nL⟩ := K
  obtain ⟨hx, hb, hml, hown, hgd, -⟩ := C
  intro a1 a2 a3 H locs lsA hP hS hL
  exact lv_lconst hx hb hd rfl (k a1 a2 a3 H locs lsA hP hS hL)
theorem zs_ldc {K : zCx} {own : String} {cc : ByteArray} {d n1 : Nat} {ini : Bool} {sc : Option (Nat × (Nat → Int32))} (C : zCtx K own cc d n1 ini sc) {n : Nat} {I : zI} {J : zJ} {P : zP} {pc : Nat} {ls : List Value} {i : Nat} {x : Int32} (hc : Cond.constant own i x ∈ z_good) {r : List Value} (hd : decode cc pc = .ok (.ldc i, 2)) (k : zV K n I J P (pc + 2) ls (.int x :: r)) : zV K n I J P pc ls (r) := by
  obtain ⟨p, l, e, R, s, m, args, below, meth, c, Q, D, gA, base, b, n0, n1v, nL⟩ := K
  obtain ⟨hx, hb, hml, hown, hgd, -⟩ := C
  intro a1 a2 a3 H locs lsA hP hS hL
  exact lv_ldc hx hb hown (hgd _ hc) hd (k a1 a2 a3 H locs lsA hP hS hL)
theorem zs_ldcw {K : zCx} {own : String} {cc : ByteArray} {d n1 : Nat} {ini : Bool} {sc : Option (Nat × (Nat → Int32))} (C : zCtx K own cc d n1 ini sc) {n : Nat} {I : zI} {J : zJ} {P : zP} {pc : Nat} {ls : List Value} {i : Nat} {x : Int32} (hc : Cond.constant own i x ∈ z_good) {r : List Value} (hd : decode cc pc = .ok (.ldc_w i, 3)) (k : zV K n I J P (pc + 3) ls (.int x :: r)) : zV K n I J P pc ls (r) := by
  obtain ⟨p, l, e, R, s, m, args, below, meth, c, Q, D, gA, base, b, n0, n1v, nL⟩ := K
  obtain ⟨hx, hb, hml, hown, hgd, -⟩ := C
  intro a1 a2 a3 H locs lsA hP hS hL
  exact lv_ldcw hx hb hown (hgd _ hc) hd (k a1 a2 a3 H locs lsA hP hS hL)
theorem zs_ldc2 {K : zCx} {own : String} {cc : ByteArray} {d n1 : Nat} {ini : Bool} {sc : Option (Nat × (Nat → Int32))} (C : zCtx K own cc d n1 ini sc) {n : Nat} {I : zI} {J : zJ} {P : zP} {pc : Nat} {ls : List Value} {i : Nat} {x : Int64} (hc : Cond.constantLong own i x ∈ z_good) {r : List Value} (hd : decode cc pc = .ok (.ldc2_w i, 3)) (k : zV K n I J P (pc + 3) ls (.long x :: r)) : zV K n I J P pc ls (r) := by
  obtain ⟨p, l, e, R, s, m, args, below, meth, c, Q, D, gA, base, b, n0, n1v, nL⟩ := K
  obtain ⟨hx, hb, hml, hown, hgd, -⟩ := C
  intro a1 a2 a3 H locs lsA hP hS hL
  exact lv_ldc2 hx hb hown (hgd _ hc) hd (k a1 a2 a3 H locs lsA hP hS hL)
theorem zs_iload_n {K : zCx} {own : String} {cc : ByteArray} {d n1 : Nat} {ini : Bool} {sc : Option (Nat × (Nat → Int32))} (C : zCtx K own cc d n1 ini sc) {n : Nat} {I : zI} {J : zJ} {P : zP} {pc : Nat} {ls : List Value} {k1 : Fin 4} {x : Int32} (h : ls[(k1 : Nat)]? = some (.int x)) {r : List Value} (hd : decode cc pc = .ok (.iload_n k1, 1)) (k : zV K n I J P (pc + 1) ls (.int x :: r)) : zV K n I J P pc ls (r) := by
  obtain ⟨p, l, e, R, s, m, args, below, meth, c, Q, D, gA, base, b, n0, n1v, nL⟩ := K
  obtain ⟨hx, hb, hml, hown, hgd, -⟩ := C
  intro a1 a2 a3 H locs lsA hP hS hL
  exact lv_iload_n hx hb hd rfl (zas_at hL h (by simp)) (k a1 a2 a3 H locs lsA hP hS hL)
theorem zs_iload {K : zCx} {own : String} {cc : ByteArray} {d n1 : Nat} {ini : Bool} {sc : Option (Nat × (Nat → Int32))} (C : zCtx K own cc d n1 ini sc) {n : Nat} {I : zI} {J : zJ} {P : zP} {pc : Nat} {ls : List Value} {k1 : Nat} {x : Int32} (h : ls[k1]? = some (.int x)) {r : List Value} (hd : decode cc pc = .ok (.iload k1, 2)) (k : zV K n I J P (pc + 2) ls (.int x :: r)) : zV K n I J P pc ls (r) := by
  obtain ⟨p, l, e, R, s, m, args, below, meth, c, Q, D, gA, base, b, n0, n1v, nL⟩ := K
  obtain ⟨hx, hb, hml, hown, hgd, -⟩ := C
  intro a1 a2 a3 H locs lsA hP hS hL
  exact lv_iload hx hb hd (zas_at hL h (by simp)) (k a1 a2 a3 H locs lsA hP hS hL)
theorem zs_lload_n {K : zCx} {own : String} {cc : ByteArray} {d n1 : Nat} {ini : Bool} {sc : Option (Nat × (Nat → Int32))} (C : zCtx K own cc d n1 ini sc) {n : Nat} {I : zI} {J : zJ} {P : zP} {pc : Nat} {ls : List Value} {k1 : Fin 4} {x : Int64} (h : ls[(k1 : Nat)]? = some (.long x)) {r : List Value} (hd : decode cc pc = .ok (.lload_n k1, 1)) (k : zV K n I J P (pc + 1) ls (.long x :: r)) : zV K n I J P pc ls (r) := by
  obtain ⟨p, l, e, R, s, m, args, below, meth, c, Q, D, gA, base, b, n0, n1v, nL⟩ := K
  obtain ⟨hx, hb, hml, hown, hgd, -⟩ := C
  intro a1 a2 a3 H locs lsA hP hS hL
  exact lv_lload_n hx hb hd rfl (zas_at hL h (by simp)) (k a1 a2 a3 H locs lsA hP hS hL)
theorem zs_lload {K : zCx} {own : String} {cc : ByteArray} {d n1 : Nat} {ini : Bool} {sc : Option (Nat × (Nat → Int32))} (C : zCtx K own cc d n1 ini sc) {n : Nat} {I : zI} {J : zJ} {P : zP} {pc : Nat} {ls : List Value} {k1 : Nat} {x : Int64} (h : ls[k1]? = some (.long x)) {r : List Value} (hd : decode cc pc = .ok (.lload k1, 2)) (k : zV K n I J P (pc + 2) ls (.long x :: r)) : zV K n I J P pc ls (r) := by
  obtain ⟨p, l, e, R, s, m, args, below, meth, c, Q, D, gA, base, b, n0, n1v, nL⟩ := K
  obtain ⟨hx, hb, hml, hown, hgd, -⟩ := C
  intro a1 a2 a3 H locs lsA hP hS hL
  exact lv_lload hx hb hd (zas_at hL h (by simp)) (k a1 a2 a3 H locs lsA hP hS hL)
theorem zs_aload_n {K : zCx} {own : String} {cc : ByteArray} {d n1 : Nat} {ini : Bool} {sc : Option (Nat × (Nat → Int32))} (C : zCtx K own cc d n1 ini sc) {n : Nat} {I : zI} {J : zJ} {P : zP} {pc : Nat} {ls : List Value} {k1 : Fin 4} {v : Value} (h : ls[(k1 : Nat)]? = some v) (hv : z_isr v = true) {r : List Value} (hd : decode cc pc = .ok (.aload_n k1, 1)) (k : zV K n I J P (pc + 1) ls (v :: r)) : zV K n I J P pc ls r := by
  obtain ⟨p, l, e, R, s, m, args, below, meth, c, Q, D, gA, base, b, n0, n1v, nL⟩ := K
  obtain ⟨hx, hb, hml, hown, hgd, -⟩ := C
  intro a1 a2 a3 H locs lsA hP hS hL
  cases v <;> first | (exact lv_aload_n hx hb hd rfl (zas_at hL h (by simp)) (k a1 a2 a3 H locs lsA hP hS hL)) | (simp [z_isr] at hv; done)
theorem zs_aload {K : zCx} {own : String} {cc : ByteArray} {d n1 : Nat} {ini : Bool} {sc : Option (Nat × (Nat → Int32))} (C : zCtx K own cc d n1 ini sc) {n : Nat} {I : zI} {J : zJ} {P : zP} {pc : Nat} {ls : List Value} {k1 : Nat} {v : Value} (h : ls[k1]? = some v) (hv : z_isr v = true) {r : List Value} (hd : decode cc pc = .ok (.aload k1, 2)) (k : zV K n I J P (pc + 2) ls (v :: r)) : zV K n I J P pc ls r := by
  obtain ⟨p, l, e, R, s, m, args, below, meth, c, Q, D, gA, base, b, n0, n1v, nL⟩ := K
  obtain ⟨hx, hb, hml, hown, hgd, -⟩ := C
  intro a1 a2 a3 H locs lsA hP hS hL
  cases v <;> first | (exact lv_aload hx hb hd (zas_at hL h (by simp)) (k a1 a2 a3 H locs lsA hP hS hL)) | (simp [z_isr] at hv; done)
theorem zs_istore_n {K : zCx} {own : String} {cc : ByteArray} {d n1 : Nat} {ini : Bool} {sc : Option (Nat × (Nat → Int32))} (C : zCtx K own cc d n1 ini sc) {n : Nat} {I : zI} {J : zJ} {P : zP} {pc : Nat} {ls : List Value} {k1 : Fin 4} {x : Int32} (hi : (k1 : Nat) < ls.length) {r : List Value} (hd : decode cc pc = .ok (.istore_n k1, 1)) (k : zV K n I J P (pc + 1) (zst1 ls (k1 : Nat) (.int x)) r) : zV K n I J P pc ls (.int x :: r) := by
  obtain ⟨p, l, e, R, s, m, args, below, meth, c, Q, D, gA, base, b, n0, n1v, nL⟩ := K
  obtain ⟨hx, hb, hml, hown, hgd, -⟩ := C
  intro a1 a2 a3 H locs lsA hP hS hL
  exact lv_istore_n hx hb hd rfl hL (by rw [← a3]; exact hi) rfl (fun lsB hB => k a1 a2 (by rw [zst1_len]; exact a3) H locs lsB hP hS (zhas_sub hB zst1_sub))
theorem zs_istore {K : zCx} {own : String} {cc : ByteArray} {d n1 : Nat} {ini : Bool} {sc : Option (Nat × (Nat → Int32))} (C : zCtx K own cc d n1 ini sc) {n : Nat} {I : zI} {J : zJ} {P : zP} {pc : Nat} {ls : List Value} {k1 : Nat} {x : Int32} (hi : k1 < ls.length) {r : List Value} (hd : decode cc pc = .ok (.istore k1, 2)) (k : zV K n I J P (pc + 2) (zst1 ls k1 (.int x)) r) : zV K n I J P pc ls (.int x :: r) := by
  obtain ⟨p, l, e, R, s, m, args, below, meth, c, Q, D, gA, base, b, n0, n1v, nL⟩ := K
  obtain ⟨hx, hb, hml, hown, hgd, -⟩ := C
  intro a1 a2 a3 H locs lsA hP hS hL
  exact lv_istore hx hb hd hL (by rw [← a3]; exact hi) rfl (fun lsB hB => k a1 a2 (by rw [zst1_len]; exact a3) H locs lsB hP hS (zhas_sub hB zst1_sub))
theorem zs_astore_n {K : zCx} {own : String} {cc : ByteArray} {d n1 : Nat} {ini : Bool} {sc : Option (Nat × (Nat → Int32))} (C : zCtx K own cc d n1 ini sc) {n : Nat} {I : zI} {J : zJ} {P : zP} {pc : Nat} {ls : List Value} {k1 : Fin 4} {x : Nat} (hi : (k1 : Nat) < ls.length) {r : List Value} (hd : decode cc pc = .ok (.astore_n k1, 1)) (k : zV K n I J P (pc + 1) (zst1 ls (k1 : Nat) (.ref x)) r) : zV K n I J P pc ls (.ref x :: r) := by
  obtain ⟨p, l, e, R, s, m, args, below, meth, c, Q, D, gA, base, b, n0, n1v, nL⟩ := K
  obtain ⟨hx, hb, hml, hown, hgd, -⟩ := C
  intro a1 a2 a3 H locs lsA hP hS hL
  exact lv_astore_n hx hb hd rfl hL (by rw [← a3]; exact hi) rfl (fun lsB hB => k a1 a2 (by rw [zst1_len]; exact a3) H locs lsB hP hS (zhas_sub hB zst1_sub))
theorem zs_astore {K : zCx} {own : String} {cc : ByteArray} {d n1 : Nat} {ini : Bool} {sc : Option (Nat × (Nat → Int32))} (C : zCtx K own cc d n1 ini sc) {n : Nat} {I : zI} {J : zJ} {P : zP} {pc : Nat} {ls : List Value} {k1 : Nat} {x : Nat} (hi : k1 < ls.length) {r : List Value} (hd : decode cc pc = .ok (.astore k1, 2)) (k : zV K n I J P (pc + 2) (zst1 ls k1 (.ref x)) r) : zV K n I J P pc ls (.ref x :: r) := by
  obtain ⟨p, l, e, R, s, m, args, below, meth, c, Q, D, gA, base, b, n0, n1v, nL⟩ := K
  obtain ⟨hx, hb, hml, hown, hgd, -⟩ := C
  intro a1 a2 a3 H locs lsA hP hS hL
  exact lv_astore hx hb hd hL (by rw [← a3]; exact hi) rfl (fun lsB hB => k a1 a2 (by rw [zst1_len]; exact a3) H locs lsB hP hS (zhas_sub hB zst1_sub))
theorem zs_lstore_n {K : zCx} {own : String} {cc : ByteArray} {d n1 : Nat} {ini : Bool} {sc : Option (Nat × (Nat → Int32))} (C : zCtx K own cc d n1 ini sc) {n : Nat} {I : zI} {J : zJ} {P : zP} {pc : Nat} {ls : List Value} {k1 : Fin 4} {x : Int64} (hi : (k1 : Nat) + 1 < ls.length) {r : List Value} (hd : decode cc pc = .ok (.lstore_n k1, 1)) (k : zV K n I J P (pc + 1) (zst2 ls (k1 : Nat) (.long x)) r) : zV K n I J P pc ls (.long x :: r) := by
  obtain ⟨p, l, e, R, s, m, args, below, meth, c, Q, D, gA, base, b, n0, n1v, nL⟩ := K
  obtain ⟨hx, hb, hml, hown, hgd, -⟩ := C
  intro a1 a2 a3 H locs lsA hP hS hL
  exact lv_lstore_n hx hb hd rfl hL (by rw [← a3]; exact hi) rfl (fun lsB hB => k a1 a2 (by rw [zst2_len]; exact a3) H locs lsB hP hS (zhas_sub hB zst2_sub))
theorem zs_lstore {K : zCx} {own : String} {cc : ByteArray} {d n1 : Nat} {ini : Bool} {sc : Option (Nat × (Nat → Int32))} (C : zCtx K own cc d n1 ini sc) {n : Nat} {I : zI} {J : zJ} {P : zP} {pc : Nat} {ls : List Value} {k1 : Nat} {x : Int64} (hi : k1 + 1 < ls.length) {r : List Value} (hd : decode cc pc = .ok (.lstore k1, 2)) (k : zV K n I J P (pc + 2) (zst2 ls k1 (.long x)) r) : zV K n I J P pc ls (.long x :: r) := by
  obtain ⟨p, l, e, R, s, m, args, below, meth, c, Q, D, gA, base, b, n0, n1v, nL⟩ := K
  obtain ⟨hx, hb, hml, hown, hgd, -⟩ := C
  intro a1 a2 a3 H locs lsA hP hS hL
  exact lv_lstore hx hb hd hL (by rw [← a3]; exact hi) rfl (fun lsB hB => k a1 a2 (by rw [zst2_len]; exact a3) H locs lsB hP hS (zhas_sub hB zst2_sub))
theorem zs_iinc {K : zCx} {own : String} {cc : ByteArray} {d n1 : Nat} {ini : Bool} {sc : Option (Nat × (Nat → Int32))} (C : zCtx K own cc d n1 ini sc) {n : Nat} {I : zI} {J : zJ} {P : zP} {pc : Nat} {ls : List Value} {k1 : Nat} {cn : Int} {x : Int32} (h : ls[k1]? = some (.int x)) {r : List Value} (hd : decode cc pc = .ok (.iinc k1 cn, 3)) (k : zV K n I J P (pc + 3) (zst1 ls k1 (.int (x + Int32.ofInt cn))) r) : zV K n I J P pc ls r := by
  obtain ⟨p, l, e, R, s, m, args, below, meth, c, Q, D, gA, base, b, n0, n1v, nL⟩ := K
  obtain ⟨hx, hb, hml, hown, hgd, -⟩ := C
  intro a1 a2 a3 H locs lsA hP hS hL
  obtain ⟨kk, hkk⟩ := List.getElem?_of_mem (zas_mem (base := base) (b := b) h (by simp))
  exact lv_iinc hx hb hd hL hkk rfl (by rw [← a3]; exact (List.getElem?_eq_some_iff.mp h).1) rfl (fun lsB hB => k a1 a2 (by rw [zst1_len]; exact a3) H locs lsB hP hS (zhas_sub hB zst1_sub))
theorem zs_dup {K : zCx} {own : String} {cc : ByteArray} {d n1 : Nat} {ini : Bool} {sc : Option (Nat × (Nat → Int32))} (C : zCtx K own cc d n1 ini sc) {n : Nat} {I : zI} {J : zJ} {P : zP} {pc : Nat} {ls : List Value} {v : Value} (hv : v.category = 1) {r : List Value} (hd : decode cc pc = .ok (.dup, 1)) (k : zV K n I J P (pc + 1) ls (v :: v :: r)) : zV K n I J P pc ls (v :: r) := by
  obtain ⟨p, l, e, R, s, m, args, below, meth, c, Q, D, gA, base, b, n0, n1v, nL⟩ := K
  obtain ⟨hx, hb, hml, hown, hgd, -⟩ := C
  intro a1 a2 a3 H locs lsA hP hS hL
  exact lv_dup hx hb hd (by rw [zcv_cat]; exact hv) (k a1 a2 a3 H locs lsA hP hS hL)
theorem zs_dup2 {K : zCx} {own : String} {cc : ByteArray} {d n1 : Nat} {ini : Bool} {sc : Option (Nat × (Nat → Int32))} (C : zCtx K own cc d n1 ini sc) {n : Nat} {I : zI} {J : zJ} {P : zP} {pc : Nat} {ls : List Value} {v u : Value} (hv : v.category = 1) (hu : u.category = 1) {r : List Value} (hd : decode cc pc = .ok (.dup2, 1)) (k : zV K n I J P (pc + 1) ls (v :: u :: v :: u :: r)) : zV K n I J P pc ls (v :: u :: r) := by
  obtain ⟨p, l, e, R, s, m, args, below, meth, c, Q, D, gA, base, b, n0, n1v, nL⟩ := K
  obtain ⟨hx, hb, hml, hown, hgd, -⟩ := C
  intro a1 a2 a3 H locs lsA hP hS hL
  exact lv_dup2_11 hx hb hd (by rw [zcv_cat]; exact hv) (by rw [zcv_cat]; exact hu) (k a1 a2 a3 H locs lsA hP hS hL)
theorem zs_goto {K : zCx} {own : String} {cc : ByteArray} {d n1 : Nat} {ini : Bool} {sc : Option (Nat × (Nat → Int32))} (C : zCtx K own cc d n1 ini sc) {n : Nat} {I : zI} {J : zJ} {P : zP} {pc : Nat} {ls : List Value} {o : Int} {t : Nat} (ht : (pc : Int) + o = (t : Int)) {r : List Value} (hd : decode cc pc = .ok (.goto o, 3)) (k : zV K n I J P t ls r) : zV K n I J P pc ls r := by
  obtain ⟨p, l, e, R, s, m, args, below, meth, c, Q, D, gA, base, b, n0, n1v, nL⟩ := K
  obtain ⟨hx, hb, hml, hown, hgd, -⟩ := C
  intro a1 a2 a3 H locs lsA hP hS hL
  exact lv_goto hx hb hd ht (k a1 a2 a3 H locs lsA hP hS hL)
theorem zs_icmp {K : zCx} {own : String} {cc : ByteArray} {d n1 : Nat} {ini : Bool} {sc : Option (Nat × (Nat → Int32))} (C : zCtx K own cc d n1 ini sc) {n : Nat} {I : zI} {J : zJ} {P : zP} {pc : Nat} {ls : List Value} {cd : ClassFile.Cond} {o : Int} {t : Nat} {x y : Int32} (ht : (pc : Int) + o = (t : Int)) {r : List Value} (hd : decode cc pc = .ok (.if_icmp cd o, 3)) (kt : z_cc cd x y → zV K n I J P t ls r) (kf : ¬ z_cc cd x y → zV K n I J P (pc + 3) ls r) : zV K n I J P pc ls (.int y :: .int x :: r) := by
  obtain ⟨p, l, e, R, s, m, args, below, meth, c, Q, D, gA, base, b, n0, n1v, nL⟩ := K
  obtain ⟨hx, hb, hml, hown, hgd, -⟩ := C
  intro a1 a2 a3 H locs lsA hP hS hL
  cases cd
  · exact lv_icmp_eq hx hb hd ht (fun h => kt h a1 a2 a3 H locs lsA hP hS hL) (fun h => kf h a1 a2 a3 H locs lsA hP hS hL)
  · exact lv_icmp_ne hx hb hd ht (fun h => kt h a1 a2 a3 H locs lsA hP hS hL) (fun h => kf (fun q => q h) a1 a2 a3 H locs lsA hP hS hL)
  · exact lv_icmp_lt hx hb hd ht (fun h => kt h a1 a2 a3 H locs lsA hP hS hL) (fun h => kf h a1 a2 a3 H locs lsA hP hS hL)
  · exact lv_icmp_ge hx hb hd ht (fun h => kt h a1 a2 a3 H locs lsA hP hS hL) (fun h => kf h a1 a2 a3 H locs lsA hP hS hL)
  · exact lv_icmp_gt hx hb hd ht (fun h => kt h a1 a2 a3 H locs lsA hP hS hL) (fun h => kf h a1 a2 a3 H locs lsA hP hS hL)
  · exact lv_icmp_le hx hb hd ht (fun h => kt h a1 a2 a3 H locs lsA hP hS hL) (fun h => kf h a1 a2 a3 H locs lsA hP hS hL)
theorem zs_if {K : zCx} {own : String} {cc : ByteArray} {d n1 : Nat} {ini : Bool} {sc : Option (Nat × (Nat → Int32))} (C : zCtx K own cc d n1 ini sc) {n : Nat} {I : zI} {J : zJ} {P : zP} {pc : Nat} {ls : List Value} {cd : ClassFile.Cond} {o : Int} {t : Nat} {x : Int32} (ht : (pc : Int) + o = (t : Int)) {r : List Value} (hd : decode cc pc = .ok (.ifCond cd o, 3)) (kt : z_cc cd x 0 → zV K n I J P t ls r) (kf : ¬ z_cc cd x 0 → zV K n I J P (pc + 3) ls r) : zV K n I J P pc ls (.int x :: r) := by
  obtain ⟨p, l, e, R, s, m, args, below, meth, c, Q, D, gA, base, b, n0, n1v, nL⟩ := K
  obtain ⟨hx, hb, hml, hown, hgd, -⟩ := C
  intro a1 a2 a3 H locs lsA hP hS hL
  cases cd
  · exact lv_if_eq hx hb hd ht (fun h => kt h a1 a2 a3 H locs lsA hP hS hL) (fun h => kf h a1 a2 a3 H locs lsA hP hS hL)
  · exact lv_if_ne hx hb hd ht (fun h => kt h a1 a2 a3 H locs lsA hP hS hL) (fun h => kf (fun q => q h) a1 a2 a3 H locs lsA hP hS hL)
  · exact lv_if_lt hx hb hd ht (fun h => kt h a1 a2 a3 H locs lsA hP hS hL) (fun h => kf h a1 a2 a3 H locs lsA hP hS hL)
  · exact lv_if_ge hx hb hd ht (fun h => kt h a1 a2 a3 H locs lsA hP hS hL) (fun h => kf h a1 a2 a3 H locs lsA hP hS hL)
  · exact lv_if_gt hx hb hd ht (fun h => kt h a1 a2 a3 H locs lsA hP hS hL) (fun h => kf h a1 a2 a3 H locs lsA hP hS hL)
  · exact lv_if_le hx hb hd ht (fun h => kt h a1 a2 a3 H locs lsA hP hS hL) (fun h => kf h a1 a2 a3 H locs lsA hP hS hL)
theorem zs_ifnonnull {K : zCx} {own : String} {cc : ByteArray} {d n1 : Nat} {ini : Bool} {sc : Option (Nat × (Nat → Int32))} (C : zCtx K own cc d n1 ini sc) {n : Nat} {I : zI} {J : zJ} {P : zP} {pc : Nat} {ls : List Value} {v : Value} {o : Int} {t : Nat} (hv : z_isr v = true) (ht : (pc : Int) + o = (t : Int)) {r : List Value} (hd : decode cc pc = .ok (.ifnonnull o, 3)) (k : zV K n I J P t ls r) : zV K n I J P pc ls (v :: r) := by
  obtain ⟨p, l, e, R, s, m, args, below, meth, c, Q, D, gA, base, b, n0, n1v, nL⟩ := K
  obtain ⟨hx, hb, hml, hown, hgd, -⟩ := C
  intro a1 a2 a3 H locs lsA hP hS hL
  cases v <;> first | (exact lv_ifnonnull hx hb hd ht (k a1 a2 a3 H locs lsA hP hS hL)) | (simp [z_isr] at hv; done)
theorem zs_tsw {K : zCx} {own : String} {cc : ByteArray} {d n1 : Nat} {ini : Bool} {sc : Option (Nat × (Nat → Int32))} (C : zCtx K own cc d n1 ini sc) {n : Nat} {I : zI} {J : zJ} {P : zP} {pc : Nat} {ls : List Value} {df lo hi : Int} {offs : Array Int} {len : Nat} {x : Int32} {r : List Value} (hd : decode cc pc = .ok (.tableswitch df lo hi offs, len)) (k1 : (x.toInt < lo ∨ hi < x.toInt) → ∃ t : Nat, (pc : Int) + df = (t : Int) ∧ zV K n I J P t ls r) (k2 : ¬ x.toInt < lo → ¬ hi < x.toInt → ∃ (o : Int) (t : Nat), offs[(x.toInt - lo).toNat]? = some o ∧ (pc : Int) + o = (t : Int) ∧ zV K n I J P t ls r) : zV K n I J P pc ls (.int x :: r) := by
  obtain ⟨p, l, e, R, s, m, args, below, meth, c, Q, D, gA, base, b, n0, n1v, nL⟩ := K
  obtain ⟨hx, hb, hml, hown, hgd, -⟩ := C
  intro a1 a2 a3 H locs lsA hP hS hL
  by_cases h1 : x.toInt < lo
  · obtain ⟨t, ht, k⟩ := k1 (Or.inl h1)
    exact lv_tableOut hx hb hd (Or.inl h1) ht (k a1 a2 a3 H locs lsA hP hS hL)
  · by_cases h2 : hi < x.toInt
    · obtain ⟨t, ht, k⟩ := k1 (Or.inr h2)
      exact lv_tableOut hx hb hd (Or.inr h2) ht (k a1 a2 a3 H locs lsA hP hS hL)
    · obtain ⟨o, t, ho, ht, k⟩ := k2 h1 h2
      exact lv_tableIn hx hb hd h1 h2 ho ht (k a1 a2 a3 H locs lsA hP hS hL)
theorem zs_iaload {K : zCx} {own : String} {cc : ByteArray} {d n1 : Nat} {ini : Bool} {sc : Option (Nat × (Nat → Int32))} (C : zCtx K own cc d n1 ini sc) {n : Nat} {I : zI} {J : zJ} {P : zP} {pc : Nat} {ls : List Value} {q N : Nat} {i : Int32} (hq : q < n) (hs : zSH q = .inr (.int, N)) (hi : vp_in i N) {r : List Value} (hd : decode cc pc = .ok (.iaload, 1)) (k : zV K n I J P (pc + 1) ls (.int (I q i.toNatClampNeg) :: r)) : zV K n I J P pc ls (.int i :: .ref q :: r) := by
  obtain ⟨p, l, e, R, s, m, args, below, meth, c, Q, D, gA, base, b, n0, n1v, nL⟩ := K
  obtain ⟨hx, hb, hml, hown, hgd, hnt, hao, hK, -⟩ := C
  intro a1 a2 a3 H locs lsA hP hS hL
  have hg := zws_get (base := base) (gA := gA) (I := I) (J := J) (P := P) hq
  simp only [zent, hs, zStd] at hg
  exact va_iald hx hb hK hP q 0 hg rfl hi hd (k a1 a2 a3 H locs lsA hP hS hL)
theorem zs_baload {K : zCx} {own : String} {cc : ByteArray} {d n1 : Nat} {ini : Bool} {sc : Option (Nat × (Nat → Int32))} (C : zCtx K own cc d n1 ini sc) {n : Nat} {I : zI} {J : zJ} {P : zP} {pc : Nat} {ls : List Value} {q N : Nat} {i : Int32} (hq : q < n) (hs : zSH q = .inr (.boolean, N)) (hi : vp_in i N) {r : List Value} (hd : decode cc pc = .ok (.baload, 1)) (k : zV K n I J P (pc + 1) ls (.int (I q i.toNatClampNeg) :: r)) : zV K n I J P pc ls (.int i :: .ref q :: r) := by
  obtain ⟨p, l, e, R, s, m, args, below, meth, c, Q, D, gA, base, b, n0, n1v, nL⟩ := K
  obtain ⟨hx, hb, hml, hown, hgd, hnt, hao, hK, -⟩ := C
  intro a1 a2 a3 H locs lsA hP hS hL
  have hg := zws_get (base := base) (gA := gA) (I := I) (J := J) (P := P) hq
  simp only [zent, hs, zStd] at hg
  exact va_zald hx hb hK hP q 2 hg rfl hi hd (k a1 a2 a3 H locs lsA hP hS hL)
theorem zs_laload {K : zCx} {own : String} {cc : ByteArray} {d n1 : Nat} {ini : Bool} {sc : Option (Nat × (Nat → Int32))} (C : zCtx K own cc d n1 ini sc) {n : Nat} {I : zI} {J : zJ} {P : zP} {pc : Nat} {ls : List Value} {q N : Nat} {i : Int32} (hq : q < n) (hs : zSH q = .inr (.long, N)) (hi : vp_in i N) {r : List Value} (hd : decode cc pc = .ok (.laload, 1)) (k : zV K n I J P (pc + 1) ls (.long (J q i.toNatClampNeg) :: r)) : zV K n I J P pc ls (.int i :: .ref q :: r) := by
  obtain ⟨p, l, e, R, s, m, args, below, meth, c, Q, D, gA, base, b, n0, n1v, nL⟩ := K
  obtain ⟨hx, hb, hml, hown, hgd, hnt, hao, hK, -⟩ := C
  intro a1 a2 a3 H locs lsA hP hS hL
  have hg := zws_get (base := base) (gA := gA) (I := I) (J := J) (P := P) hq
  simp only [zent, hs, zStd] at hg
  exact va_lald hx hb hK hP q 1 hg rfl hi hd (k a1 a2 a3 H locs lsA hP hS hL)
theorem z_rf_map (base b : Nat) (o : Option Nat) : va_rf (o.map (fun x => base + x)) = zcv base b (z_rf o) := by cases o <;> rfl
theorem zs_aaload {K : zCx} {own : String} {cc : ByteArray} {d n1 : Nat} {ini : Bool} {sc : Option (Nat × (Nat → Int32))} (C : zCtx K own cc d n1 ini sc) {n : Nat} {I : zI} {J : zJ} {P : zP} {pc : Nat} {ls : List Value} {q N : Nat} {i : Int32} (hq : q < n) (hs : zSH q = .inr (zStd, N)) (hi : vp_in i N) {r : List Value} (hd : decode cc pc = .ok (.aaload, 1)) (k : zV K n I J P (pc + 1) ls (z_rf (P q i.toNatClampNeg) :: r)) : zV K n I J P pc ls (.int i :: .ref q :: r) := by
  obtain ⟨p, l, e, R, s, m, args, below, meth, c, Q, D, gA, base, b, n0, n1v, nL⟩ := K
  obtain ⟨hx, hb, hml, hown, hgd, hnt, hao, hK, -⟩ := C
  intro a1 a2 a3 H locs lsA hP hS hL
  have hg := zws_get (base := base) (gA := gA) (I := I) (J := J) (P := P) hq
  simp only [zent, hs, zStd] at hg
  exact va_aldq hx hb hK hP q 3 hg rfl hi hd (by rw [z_rf_map base b]; exact k a1 a2 a3 H locs lsA hP hS hL)
theorem zs_iastore {K : zCx} {own : String} {cc : ByteArray} {d n1 : Nat} {ini : Bool} {sc : Option (Nat × (Nat → Int32))} (C : zCtx K own cc d n1 ini sc) {n : Nat} {I : zI} {J : zJ} {P : zP} {pc : Nat} {ls : List Value} {q N : Nat} {i : Int32} {x : Int32} (hq : q < n) (hs : zSH q = .inr (.int, N)) (hi : vp_in i N) {r : List Value} (hd : decode cc pc = .ok (.iastore, 1)) (k : zV K n (zu I q (zu (I q) i.toNatClampNeg x)) (J) (P) (pc + 1) ls r) : zV K n I J P pc ls (.int x :: .int i :: .ref q :: r) := by
  obtain ⟨p, l, e, R, s, m, args, below, meth, c, Q, D, gA, base, b, n0, n1v, nL⟩ := K
  obtain ⟨hx, hb, hml, hown, hgd, hnt, hao, hK, -⟩ := C
  intro a1 a2 a3 H locs lsA hP hS hL
  have hg := zws_get (base := base) (gA := gA) (I := I) (J := J) (P := P) hq
  simp only [zent, hs, zStd] at hg
  refine va_iast hx hb hK hP zws_D hS q 0 hg rfl hi hd (fun H1 locs1 h1 _ h3 => ?_)
  rw [zws_set (I' := zu I q (zu (I q) i.toNatClampNeg x)) (J' := J) (P' := P) ?_ ?_ ?_ ?_] at h1
  · exact k a1 a2 a3 H1 locs1 lsA h1 h3 hL
  · simp only [zent, hs, zStd, zu_s]; try rfl
  all_goals (intro j hj; first | rfl | exact zu_n _ _ hj)
theorem zs_bastore {K : zCx} {own : String} {cc : ByteArray} {d n1 : Nat} {ini : Bool} {sc : Option (Nat × (Nat → Int32))} (C : zCtx K own cc d n1 ini sc) {n : Nat} {I : zI} {J : zJ} {P : zP} {pc : Nat} {ls : List Value} {q N : Nat} {i : Int32} {x : Int32} (hq : q < n) (hs : zSH q = .inr (.boolean, N)) (hi : vp_in i N) {r : List Value} (hd : decode cc pc = .ok (.bastore, 1)) (k : zV K n (zu I q (zu (I q) i.toNatClampNeg (vp_nar .boolean x))) (J) (P) (pc + 1) ls r) : zV K n I J P pc ls (.int x :: .int i :: .ref q :: r) := by
  obtain ⟨p, l, e, R, s, m, args, below, meth, c, Q, D, gA, base, b, n0, n1v, nL⟩ := K
  obtain ⟨hx, hb, hml, hown, hgd, hnt, hao, hK, -⟩ := C
  intro a1 a2 a3 H locs lsA hP hS hL
  have hg := zws_get (base := base) (gA := gA) (I := I) (J := J) (P := P) hq
  simp only [zent, hs, zStd] at hg
  refine va_zast hx hb hK hP zws_D hS q 2 hg rfl hi hd (fun H1 locs1 h1 _ h3 => ?_)
  rw [zws_set (I' := zu I q (zu (I q) i.toNatClampNeg (vp_nar .boolean x))) (J' := J) (P' := P) ?_ ?_ ?_ ?_] at h1
  · exact k a1 a2 a3 H1 locs1 lsA h1 h3 hL
  · simp only [zent, hs, zStd, zu_s]; try rfl
  all_goals (intro j hj; first | rfl | exact zu_n _ _ hj)
theorem zs_lastore {K : zCx} {own : String} {cc : ByteArray} {d n1 : Nat} {ini : Bool} {sc : Option (Nat × (Nat → Int32))} (C : zCtx K own cc d n1 ini sc) {n : Nat} {I : zI} {J : zJ} {P : zP} {pc : Nat} {ls : List Value} {q N : Nat} {i : Int32} {x : Int64} (hq : q < n) (hs : zSH q = .inr (.long, N)) (hi : vp_in i N) {r : List Value} (hd : decode cc pc = .ok (.lastore, 1)) (k : zV K n (I) (zu J q (zu (J q) i.toNatClampNeg x)) (P) (pc + 1) ls r) : zV K n I J P pc ls (.long x :: .int i :: .ref q :: r) := by
  obtain ⟨p, l, e, R, s, m, args, below, meth, c, Q, D, gA, base, b, n0, n1v, nL⟩ := K
  obtain ⟨hx, hb, hml, hown, hgd, hnt, hao, hK, -⟩ := C
  intro a1 a2 a3 H locs lsA hP hS hL
  have hg := zws_get (base := base) (gA := gA) (I := I) (J := J) (P := P) hq
  simp only [zent, hs, zStd] at hg
  refine va_last hx hb hK hP zws_D hS q 1 hg rfl hi hd (fun H1 locs1 h1 _ h3 => ?_)
  rw [zws_set (I' := I) (J' := zu J q (zu (J q) i.toNatClampNeg x)) (P' := P) ?_ ?_ ?_ ?_] at h1
  · exact k a1 a2 a3 H1 locs1 lsA h1 h3 hL
  · simp only [zent, hs, zStd, zu_s]; try rfl
  all_goals (intro j hj; first | rfl | exact zu_n _ _ hj)
theorem zs_aastore {K : zCx} {own : String} {cc : ByteArray} {d n1 : Nat} {ini : Bool} {sc : Option (Nat × (Nat → Int32))} (C : zCtx K own cc d n1 ini sc) {n : Nat} {I : zI} {J : zJ} {P : zP} {pc : Nat} {ls : List Value} {q v N : Nat} {i : Int32} (hq : q < n) (hv : v < n) (hs : zSH q = .inr (zStd, N)) (hsv : zSH v = .inl 7) (hi : vp_in i N) {r : List Value} (hd : decode cc pc = .ok (.aastore, 1)) (k : zV K n I J (zu P q (zu (P q) i.toNatClampNeg (some v))) (pc + 1) ls r) : zV K n I J P pc ls (.ref v :: .int i :: .ref q :: r) := by
  obtain ⟨p, l, e, R, s, m, args, below, meth, c, Q, D, gA, base, b, n0, n1v, nL⟩ := K
  obtain ⟨hx, hb, hml, hown, hgd, hnt, hao, hK, -⟩ := C
  intro a1 a2 a3 H locs lsA hP hS hL
  have hg := zws_get (base := base) (gA := gA) (I := I) (J := J) (P := P) hq
  have hgv := zws_get (base := base) (gA := gA) (I := I) (J := J) (P := P) hv
  simp only [zent, hs, zStd] at hg
  simp only [zent, hsv] at hgv
  refine va_astq (r := (RX7, TX7, 7)) hx hb hK hP zws_D hS q 3 v 7 hg rfl hgv rfl hi hd (fun H1 locs1 h1 _ h3 => ?_)
  rw [zws_set (I' := I) (J' := J) (P' := zu P q (zu (P q) i.toNatClampNeg (some v))) ?_ ?_ ?_ ?_] at h1
  · exact k a1 a2 a3 H1 locs1 lsA h1 h3 hL
  · simp only [zent, hs, zStd, zu_s]
    have e : (fun j => (zu (P q) i.toNatClampNeg (some v) j).map (fun x => base + x)) = va_up (fun j => (P q j).map (fun x => base + x)) i.toNatClampNeg (some (base + v)) := by
      funext j
      by_cases hj : j = i.toNatClampNeg
      · simp [zu, va_up, hj]
      · simp [zu, va_up, hj]
    rw [e]
  all_goals (intro j hj; first | rfl | exact zu_n _ _ hj)
theorem zs_saload {K : zCx} {own : String} {cc : ByteArray} {d n1 : Nat} {ini : Bool} {sc : Option (Nat × (Nat → Int32))} (C : zCtx K own cc d n1 ini sc) {n : Nat} {I : zI} {J : zJ} {P : zP} {pc : Nat} {ls : List Value} {f : UInt32} {i : Int32} {L : Nat} {xs : Nat → Int32} (hsc : sc = some (L, xs)) (hi : vp_in i L) {r : List Value} (hd : decode cc pc = .ok (.iaload, 1)) (k : zV K n I J P (pc + 1) ls (.int (xs i.toNatClampNeg) :: r)) : zV K n I J P pc ls (.int i :: .float f :: r) := by
  obtain ⟨p, l, e, R, s, m, args, below, meth, c, Q, D, gA, base, b, n0, n1v, nL⟩ := K
  obtain ⟨hx, hb, hml, hown, hgd, hnt, hao, hK, hsz, -, -, -, hX⟩ := C
  intro a1 a2 a3 H locs lsA hP hS hL
  obtain ⟨h1, h2, h3⟩ := hX L xs hsc
  exact va_sld hx hb h1 h2 (Nat.not_le.mpr h3) hS hi hd (k a1 a2 a3 H locs lsA hP hS hL)
theorem zs_slen {K : zCx} {own : String} {cc : ByteArray} {d n1 : Nat} {ini : Bool} {sc : Option (Nat × (Nat → Int32))} (C : zCtx K own cc d n1 ini sc) {n : Nat} {I : zI} {J : zJ} {P : zP} {pc : Nat} {ls : List Value} {f : UInt32} {L : Nat} {xs : Nat → Int32} (hsc : sc = some (L, xs)) {r : List Value} (hd : decode cc pc = .ok (.arraylength, 1)) (k : zV K n I J P (pc + 1) ls (.int (Int32.ofNat L) :: r)) : zV K n I J P pc ls (.float f :: r) := by
  obtain ⟨p, l, e, R, s, m, args, below, meth, c, Q, D, gA, base, b, n0, n1v, nL⟩ := K
  obtain ⟨hx, hb, hml, hown, hgd, hnt, hao, hK, hsz, -, -, -, hX⟩ := C
  intro a1 a2 a3 H locs lsA hP hS hL
  obtain ⟨h1, h2, h3⟩ := hX L xs hsc
  exact va_slen hx hb h1 h2 (Nat.not_le.mpr h3) hS hd (k a1 a2 a3 H locs lsA hP hS hL)
end
section
theorem z_uws : ∀ ci, ci < 13 → ∀ w ∈ u_ws (zR ci) (zT ci) (zN ci), w ∈ z_good := by
  have key : ∀ (ws : List Cond), ws.all (fun w => decide (w ∈ lw_tbl) && goodWord w) = true → ∀ w ∈ ws, w ∈ z_good := by
    intro ws h w hw
    have h1 := List.all_eq_true.mp h w hw
    simp only [Bool.and_eq_true, decide_eq_true_eq] at h1
    exact List.mem_filter.mpr ⟨h1.1, h1.2⟩
  intro ci h
  match ci, h with
  | 0, _ => exact key _ (by decide +kernel)
  | 1, _ => exact key _ (by decide +kernel)
  | 2, _ => exact key _ (by decide +kernel)
  | 3, _ => exact key _ (by decide +kernel)
  | 4, _ => exact key _ (by decide +kernel)
  | 5, _ => exact key _ (by decide +kernel)
  | 6, _ => exact key _ (by decide +kernel)
  | 7, _ => exact key _ (by decide +kernel)
  | 8, _ => exact key _ (by decide +kernel)
  | 9, _ => exact key _ (by decide +kernel)
  | 10, _ => exact key _ (by decide +kernel)
  | 11, _ => exact key _ (by decide +kernel)
  | 12, _ => exact key _ (by decide +kernel)
theorem zfv_at {base b : Nat} {I : zI} {P : zP} {ci o k : Nat} (hk : k < zN ci) : ((List.range (zN ci)).map (zfv base I P ci o))[k]? = some (zcv base b (z_fv P I ci o k)) := by
  have e : zfv base I P ci o k = zcv base b (z_fv P I ci o k) := by
    unfold zfv z_fv
    generalize zty ci k = t
    cases t <;> first | rfl | (cases P o k <;> rfl)
  simp [hk, e]
theorem zs_getfield {K : zCx} {own : String} {cc : ByteArray} {d n1 : Nat} {ini : Bool} {sc : Option (Nat × (Nat → Int32))} (C : zCtx K own cc d n1 ini sc) {n : Nat} {I : zI} {J : zJ} {P : zP} {pc : Nat} {ls : List Value} {i o ci k1 : Nat} (hf : z_fl own i ci k1) (ho : o < n) (hs : zSH o = .inl ci) {r : List Value} (hd : decode cc pc = .ok (.getfield i, 3)) (k : zV K n I J P (pc + 3) ls (z_fv P I ci o k1 :: r)) : zV K n I J P pc ls (.ref o :: r) := by
  obtain ⟨p, l, e, R, s, m, args, below, meth, c, Q, D, gA, base, b, n0, n1v, nL⟩ := K
  obtain ⟨hx, hb, hml, hown, hgd, hnt, hao, hK, -⟩ := C
  obtain ⟨f1, f2, f3, f4⟩ := hf
  intro a1 a2 a3 H locs lsA hP hS hL
  have hg := zws_get (base := base) (gA := gA) (I := I) (J := J) (P := P) ho
  simp only [zent, hs] at hg
  have hsm : ∀ x, s.fieldFound? (zT ci k1).1 (zT ci k1).2.1 (zT ci k1).2.2.1 = some x → s.fieldFound? (zR ci) (zT ci k1).2.1 (zT ci k1).2.2.1 = some x := fun x h => by rw [← f3]; exact h
  rcases f4 with f4 | ⟨host, f4⟩
  · exact va_get hx hb hgd (z_uws ci f1) hown hK hP o hg (zcl_at ci f1) k1 f2 (hgd _ f4) hsm (zfv_at f2) hd (k a1 a2 a3 H locs lsA hP hS hL)
  · exact va_getN hx hb hgd (z_uws ci f1) hown hK hP o hg (zcl_at ci f1) k1 f2 (va_Nw.use rfl (hnt _ f4)) hsm (zfv_at f2) hd (k a1 a2 a3 H locs lsA hP hS hL)
theorem zfv_setI {base : Nat} {I : zI} {P : zP} {ci o k : Nat} {x : Int32} (h1 : ∀ C, zty ci k ≠ .object C) (h2 : ∀ t, zty ci k ≠ .array t) : ((List.range (zN ci)).map (zfv base I P ci o)).set k (.int x) = (List.range (zN ci)).map (zfv base (zu I o (zu (I o) k x)) P ci o) := by
  apply List.ext_getElem?
  intro j
  by_cases hj : j < zN ci
  · by_cases hjk : j = k
    · subst hjk
      rw [List.getElem?_set_self (by simpa using hj)]
      simp only [List.getElem?_map, List.getElem?_range hj, Option.map_some]
      congr 1
      unfold zfv
      split
      · next C h => exact absurd h (h1 C)
      · next t h => exact absurd h (h2 t)
      · simp [zu]
    · rw [List.getElem?_set_ne (Ne.symm hjk)]
      simp only [List.getElem?_map, List.getElem?_range hj, Option.map_some]
      congr 1
      unfold zfv
      simp [zu, hjk]
  · rw [List.getElem?_eq_none (by simp; omega), List.getElem?_eq_none (by simp; omega)]
theorem zfv_setR {base : Nat} {I : zI} {P : zP} {ci o k q : Nat} (h : z_okR ci k) : ((List.range (zN ci)).map (zfv base I P ci o)).set k (.ref (base + q)) = (List.range (zN ci)).map (zfv base I (zu P o (zu (P o) k (some q))) ci o) := by
  apply List.ext_getElem?
  intro j
  by_cases hj : j < zN ci
  · by_cases hjk : j = k
    · subst hjk
      rw [List.getElem?_set_self (by simpa using hj)]
      simp only [List.getElem?_map, List.getElem?_range hj, Option.map_some]
      congr 1
      unfold zfv
      rcases h with ⟨C, h⟩ | ⟨t, h⟩ <;> rw [h] <;> simp [zu, zrv]
    · rw [List.getElem?_set_ne (Ne.symm hjk)]
      simp only [List.getElem?_map, List.getElem?_range hj, Option.map_some]
      congr 1
      unfold zfv
      simp [zu, hjk]
  · rw [List.getElem?_eq_none (by simp; omega), List.getElem?_eq_none (by simp; omega)]
theorem zs_putI {K : zCx} {own : String} {cc : ByteArray} {d n1 : Nat} {ini : Bool} {sc : Option (Nat × (Nat → Int32))} (C : zCtx K own cc d n1 ini sc) {n : Nat} {I : zI} {J : zJ} {P : zP} {pc : Nat} {ls : List Value} {i o ci k1 : Nat} {x : Int32} (hf : z_fl own i ci k1) (hpf : z_pf own ini i ci k1) (ho : o < n) (hs : zSH o = .inl ci) (hok : z_okI ci k1 x) {r : List Value} (hd : decode cc pc = .ok (.putfield i, 3)) (k : zV K n (zu I o (zu (I o) k1 x)) J (P) (pc + 3) ls r) : zV K n I J P pc ls (.int x :: .ref o :: r) := by
  obtain ⟨p, l, e, R, s, m, args, below, meth, c, Q, D, gA, base, b, n0, n1v, nL⟩ := K
  obtain ⟨hx, hb, hml, hown, hgd, hnt, hao, hK, hsz, -, -, hini, -⟩ := C
  obtain ⟨f1, f2, f3, f4⟩ := hf
  intro a1 a2 a3 H locs lsA hP hS hL
  have hg := zws_get (base := base) (gA := gA) (I := I) (J := J) (P := P) ho
  simp only [zent, hs] at hg
  have hsm : ∀ x, s.fieldFound? (zT ci k1).1 (zT ci k1).2.1 (zT ci k1).2.2.1 = some x → s.fieldFound? (zR ci) (zT ci k1).2.1 (zT ci k1).2.2.1 = some x := fun x h => by rw [← f3]; exact h
  have hl : k1 < ((List.range (zN ci)).map (zfv base I P ci o)).length := by simpa using f2
  have hfit : narrow (zty ci k1) (zcv base b (.int x)) = zcv base b (.int x) ∧ fits (zty ci k1) (zcv base b (.int x)) = true := by
    exact ⟨hok.1, hok.2.1⟩
  have go : ∀ (H1 : Heap) (locs1 : List Loc), va_P D zcl ((zws base gA n I J P).set o (base + o, .inr (ci, ((List.range (zN ci)).map (zfv base I P ci o)).set k1 (zcv base b (.int x))))) H1 → va_S (fun q => base ≤ q) s.heap H1 locs1 → W p l e R s m args below meth c H1 locs1 (n - n0) (zsz n - zsz n0) Q (F0 m (pc + 3) lsA (r.map (zcv base b))) := by
    intro H1 locs1 h1 h3
    rw [zws_set (I' := zu I o (zu (I o) k1 x)) (J' := J) (P' := P) ?_ ?_ ?_ ?_] at h1
    · exact k a1 a2 a3 H1 locs1 lsA h1 h3 hL
    · simp only [zent, hs, zcv]
      rw [← zfv_setI (x := x) hok.2.2.1 hok.2.2.2]
    all_goals (intro j hj; first | rfl | exact zu_n _ _ hj)
  rcases hpf with hpf | ⟨g1, g2, g3, g4⟩
  · rcases f4 with f4 | ⟨host, f4⟩
    · exact va_put hx hb hgd (z_uws ci f1) (zty ci) (zty_ok ci f1) (znm_ok ci f1) hown hK hP zws_D hS o hg (zcl_at ci f1) k1 f2 (hgd _ f4) hsm hpf (zty_ok ci f1 k1 f2) hfit.1 hfit.2 hl hd (fun H1 locs1 h1 _ h3 => go H1 locs1 h1 h3)
    · exact va_putN hx hb hgd (z_uws ci f1) (zty ci) (zty_ok ci f1) (znm_ok ci f1) hown hK hP zws_D hS o hg (zcl_at ci f1) k1 f2 (va_Nw.use rfl (hnt _ f4)) hsm hpf (zty_ok ci f1 k1 f2) hfit.1 hfit.2 hl hd (fun H1 locs1 h1 _ h3 => go H1 locs1 h1 h3)
  · exact va_putF hx hb hgd (z_uws ci f1) (zty ci) (zty_ok ci f1) (znm_ok ci f1) hown hK hP zws_D hS o hg (zcl_at ci f1) k1 f2 (hgd _ g4) hsm g1 (hini g2) g3 (zty_ok ci f1 k1 f2) hfit.1 hfit.2 hl hd (fun H1 locs1 h1 _ h3 => go H1 locs1 h1 h3)
theorem zs_putR {K : zCx} {own : String} {cc : ByteArray} {d n1 : Nat} {ini : Bool} {sc : Option (Nat × (Nat → Int32))} (C : zCtx K own cc d n1 ini sc) {n : Nat} {I : zI} {J : zJ} {P : zP} {pc : Nat} {ls : List Value} {i o ci k1 : Nat} {q : Nat} (hf : z_fl own i ci k1) (hpf : z_pf own ini i ci k1) (ho : o < n) (hs : zSH o = .inl ci) (hok : z_okR ci k1) {r : List Value} (hd : decode cc pc = .ok (.putfield i, 3)) (k : zV K n (I) J (zu P o (zu (P o) k1 (some q))) (pc + 3) ls r) : zV K n I J P pc ls (.ref q :: .ref o :: r) := by
  obtain ⟨p, l, e, R, s, m, args, below, meth, c, Q, D, gA, base, b, n0, n1v, nL⟩ := K
  obtain ⟨hx, hb, hml, hown, hgd, hnt, hao, hK, hsz, -, -, hini, -⟩ := C
  obtain ⟨f1, f2, f3, f4⟩ := hf
  intro a1 a2 a3 H locs lsA hP hS hL
  have hg := zws_get (base := base) (gA := gA) (I := I) (J := J) (P := P) ho
  simp only [zent, hs] at hg
  have hsm : ∀ x, s.fieldFound? (zT ci k1).1 (zT ci k1).2.1 (zT ci k1).2.2.1 = some x → s.fieldFound? (zR ci) (zT ci k1).2.1 (zT ci k1).2.2.1 = some x := fun x h => by rw [← f3]; exact h
  have hl : k1 < ((List.range (zN ci)).map (zfv base I P ci o)).length := by simpa using f2
  have hfit : narrow (zty ci k1) (zcv base b (.ref q)) = zcv base b (.ref q) ∧ fits (zty ci k1) (zcv base b (.ref q)) = true := by
    rcases hok with ⟨C, h⟩ | ⟨t, h⟩ <;> rw [h] <;> exact ⟨rfl, rfl⟩
  have go : ∀ (H1 : Heap) (locs1 : List Loc), va_P D zcl ((zws base gA n I J P).set o (base + o, .inr (ci, ((List.range (zN ci)).map (zfv base I P ci o)).set k1 (zcv base b (.ref q))))) H1 → va_S (fun q => base ≤ q) s.heap H1 locs1 → W p l e R s m args below meth c H1 locs1 (n - n0) (zsz n - zsz n0) Q (F0 m (pc + 3) lsA (r.map (zcv base b))) := by
    intro H1 locs1 h1 h3
    rw [zws_set (I' := I) (J' := J) (P' := zu P o (zu (P o) k1 (some q))) ?_ ?_ ?_ ?_] at h1
    · exact k a1 a2 a3 H1 locs1 lsA h1 h3 hL
    · simp only [zent, hs, zcv]
      rw [← zfv_setR (q := q) hok]
    all_goals (intro j hj; first | rfl | exact zu_n _ _ hj)
  rcases hpf with hpf | ⟨g1, g2, g3, g4⟩
  · rcases f4 with f4 | ⟨host, f4⟩
    · exact va_put hx hb hgd (z_uws ci f1) (zty ci) (zty_ok ci f1) (znm_ok ci f1) hown hK hP zws_D hS o hg (zcl_at ci f1) k1 f2 (hgd _ f4) hsm hpf (zty_ok ci f1 k1 f2) hfit.1 hfit.2 hl hd (fun H1 locs1 h1 _ h3 => go H1 locs1 h1 h3)
    · exact va_putN hx hb hgd (z_uws ci f1) (zty ci) (zty_ok ci f1) (znm_ok ci f1) hown hK hP zws_D hS o hg (zcl_at ci f1) k1 f2 (va_Nw.use rfl (hnt _ f4)) hsm hpf (zty_ok ci f1 k1 f2) hfit.1 hfit.2 hl hd (fun H1 locs1 h1 _ h3 => go H1 locs1 h1 h3)
  · exact va_putF hx hb hgd (z_uws ci f1) (zty ci) (zty_ok ci f1) (znm_ok ci f1) hown hK hP zws_D hS o hg (zcl_at ci f1) k1 f2 (hgd _ g4) hsm g1 (hini g2) g3 (zty_ok ci f1 k1 f2) hfit.1 hfit.2 hl hd (fun H1 locs1 h1 _ h3 => go H1 locs1 h1 h3)
/-- the cell that is made comes at the next number -/
theorem z_next {base n q : Nat} {gA : FieldType → Nat} {D : va_G} {I : zI} {J : zJ} {P : zP} {e : va_E} {H1 : Heap} (h1 : va_P D zcl (zws base gA n I J P ++ [(q, e)]) H1) (h2 : va_D (fun q => base ≤ q) (zws base gA n I J P ++ [(q, e)])) (h3 : H1.size ≤ base + (n + 1)) : q = base + n := by
  have hq : (zws base gA n I J P ++ [(q, e)])[n]? = some (q, e) := by
    rw [List.getElem?_append_right (by rw [zws_len]; exact Nat.le_refl _), zws_len, Nat.sub_self]; rfl
  have hlt : q < H1.size := (h1 n _ hq).lt
  have hge : base ≤ q := h2.2 n _ hq
  rcases Nat.lt_or_ge (q - base) n with h | h
  · have hk : (zws base gA n I J P ++ [(q, e)])[q - base]? = some (base + (q - base), zent base gA I J P (q - base)) := by
      rw [List.getElem?_append_left (by rw [zws_len]; exact h), zws_get h]
    have := h2.1 (q - base) n _ _ hk hq (by show base + (q - base) = q; omega)
    omega
  · omega
theorem z_size {p : Program} {l : Launch} {e : Env} {R : Room} {s : State} {m : MethodId} {args : Array Value} {below : List Frame} {meth : Method} {c : Code} {H : Heap} {locs : List Loc} {cells slots : Nat} {Q : State → Prop} {g : JFrame} (h : H.size ≤ s.heap.size + cells → W p l e R s m args below meth c H locs cells slots Q g) : W p l e R s m args below meth c H locs cells slots Q g :=
  fun T hT X => h (by rw [← hT]; exact X.heapSize) T hT X
theorem zs_new {K : zCx} {own : String} {cc : ByteArray} {d n1 : Nat} {ini : Bool} {sc : Option (Nat × (Nat → Int32))} (C : zCtx K own cc d n1 ini sc) {n : Nat} {I : zI} {J : zJ} {P : zP} {pc : Nat} {ls : List Value} {i ci : Nat} (f1 : ci < 13) (h1 : Cond.classLink own i (zR ci) ∈ z_good) (h2 : Cond.instantiable (zR ci) (zN ci) ∈ z_good) (h3 : Cond.initialized (zR ci) ∈ z_good) (hs : zSH n = .inl ci) (hn : n + 1 ≤ n1) {r : List Value} (hd : decode cc pc = .ok (.new i, 3)) (k : zV K (n + 1) (zu I n (fun _ => 0)) (zu J n (fun _ => 0)) (zu P n (fun _ => none)) (pc + 3) ls (.ref n :: r)) : zV K n I J P pc ls r := by
  obtain ⟨p, l, e, R, s, m, args, below, meth, c, Q, D, gA, base, b, n0, n1v, nL⟩ := K
  obtain ⟨hx, hb, hml, hown, hgd, hnt, hao, hK, hsz, hn1, ⟨r1, r2, r3, r4⟩, hini, -⟩ := C
  subst hn1
  intro a1 a2 a3 H locs lsA hP hS hL
  have hz : zsz (n + 1) = zsz n + zN ci := by show zsz n + zlen n = _; unfold zlen; rw [hs]
  have hm1 := zsz_mono hn
  have hm0 := zsz_mono a1
  have hdef : ∀ j, j < zN ci → defaultValue (zty ci j) = vp_V ((List.range (zN ci)).map (fun j => defaultValue (zty ci j))) j := by
    intro j hj
    simp [vp_V, hj]
  refine va_new hx hb hgd (z_uws ci f1) (zty ci) (zty_ok ci f1) hown (hgd _ h1) (hgd _ h2) (hgd _ h3) hK hP zws_D hS (fun q hq => Nat.le_trans (by rw [hsz]; exact Nat.le_add_right _ _) hq) (zcl_at ci f1) hdef (by omega) (by omega) hd (fun q H1 g1 g2 g3 => z_size fun g4 => ?_)
  have hq := z_next g1 g2 (by omega)
  subst hq
  rw [zws_push (I' := zu I n (fun _ => 0)) (J' := zu J n (fun _ => 0)) (P' := zu P n (fun _ => none)) ?_ ?_ ?_ ?_] at g1
  · have := k (by omega) hn a3 H1 locs lsA g1 g3 hL
    rwa [show n + 1 - n0 = n - n0 + 1 by omega, show zsz (n + 1) - zsz n0 = zsz n - zsz n0 + zN ci by omega] at this
  · simp only [zent, hs]
    congr 2
    apply List.map_congr_left
    intro j hj
    unfold zfv
    simp only [zu_s]
    have hnt2 : zty ci j = .int ∨ zty ci j = .boolean ∨ (∃ C, zty ci j = .object C) ∨ ∃ t, zty ci j = .array t := by
      have : ∀ ci, ci < 13 → ∀ j, j < zN ci → (match zty ci j with | .int => true | .boolean => true | .object _ => true | .array _ => true | _ => false) = true := by decide +kernel
      have h9 := this ci f1 j (List.mem_range.mp hj)
      generalize zty ci j = t at h9 ⊢
      cases t <;> first | exact Or.inl rfl | exact Or.inr (Or.inl rfl) | exact Or.inr (Or.inr (Or.inl ⟨_, rfl⟩)) | exact Or.inr (Or.inr (Or.inr ⟨_, rfl⟩)) | cases h9
    rcases hnt2 with h9 | h9 | ⟨C, h9⟩ | ⟨t, h9⟩ <;> rw [h9] <;> rfl
  all_goals (intro j hj; exact zu_n _ _ hj)
theorem z_arr_same {D : va_G} {s : State} {gA : FieldType → Nat} {ty : FieldType} {cA : Nat} (hK : va_K D zcl (ztys gA ++ [(cA, ty)]) s) (ht : ty = .int ∨ ty = .long ∨ ty = .boolean ∨ ty = zStd) : cA = gA ty := by
  have h4 := (hK.2 4 (cA, ty) rfl).2
  rcases ht with rfl | rfl | rfl | rfl
  · exact Option.some.inj (h4.symm.trans (hK.2 0 (gA .int, .int) rfl).2)
  · exact Option.some.inj (h4.symm.trans (hK.2 1 (gA .long, .long) rfl).2)
  · exact Option.some.inj (h4.symm.trans (hK.2 2 (gA .boolean, .boolean) rfl).2)
  · obtain ⟨_, _, -, -, -, e1⟩ := h4
    obtain ⟨_, _, -, -, -, e2⟩ := (hK.2 3 (gA zStd, zStd) rfl).2
    exact Option.some.inj (e1.symm.trans e2)
theorem zs_newarray {K : zCx} {own : String} {cc : ByteArray} {d n1 : Nat} {ini : Bool} {sc : Option (Nat × (Nat → Int32))} (C : zCtx K own cc d n1 ini sc) {n : Nat} {I : zI} {J : zJ} {P : zP} {pc : Nat} {ls : List Value} {t : ArrayType} {x : Int32} {N : Nat} (ht : t = .int ∨ t = .long ∨ t = .boolean) (h1 : Cond.arrayClass (newarray.typeOf t) ∈ z_good) (hs : zSH n = .inr (newarray.typeOf t, N)) (hx0 : ¬ x < 0) (hN : x.toNatClampNeg = N) (hb0 : N ≤ 100000) (hn : n + 1 ≤ n1) {r : List Value} (hd : decode cc pc = .ok (.newarray t, 2)) (k : zV K (n + 1) (zu I n (fun _ => 0)) (zu J n (fun _ => 0)) (zu P n (fun _ => none)) (pc + 2) ls (.ref n :: r)) : zV K n I J P pc ls (.int x :: r) := by
  obtain ⟨p, l, e, R, s, m, args, below, meth, c, Q, D, gA, base, b, n0, n1v, nL⟩ := K
  obtain ⟨hx, hb, hml, hown, hgd, hnt, hao, hK, hsz, hn1, ⟨r1, r2, r3, r4⟩, hini, -⟩ := C
  subst hn1
  intro a1 a2 a3 H locs lsA hP hS hL
  have hz : zsz (n + 1) = zsz n + N := by show zsz n + zlen n = _; unfold zlen; rw [hs]
  have hm1 := zsz_mono hn
  have hm0 := zsz_mono a1
  have fin : ∀ (a0 : vp_A), (∀ cA : ClassId, vp_cell cA a0 = arrV cA N (fun _ => defaultValue (newarray.typeOf t))) → zent base gA (zu I n (fun _ => 0)) (zu J n (fun _ => 0)) (zu P n (fun _ => none)) n = .inl (gA (newarray.typeOf t), a0) → (newarray.typeOf t = .int ∨ newarray.typeOf t = .long ∨ newarray.typeOf t = .boolean ∨ newarray.typeOf t = zStd) → N * componentBytes (newarray.typeOf t) ≤ 536870912 → W p l e R s m args below meth c H locs (n - n0) (zsz n - zsz n0) Q (F0 m pc lsA ((Value.int x :: r).map (zcv base b))) := by
    intro a0 ha he hty hbytes
    refine va_newa hx hb (hgd _ h1) rfl hK hP zws_D hS (fun q hq => Nat.le_trans (by rw [hsz]; exact Nat.le_add_right _ _) hq) ha hx0 hN hbytes (by omega) (by omega) hd (fun q cA H1 g0 g1 g2 g3 => z_size fun g4 => ?_)
    have hq := z_next g1 g2 (by omega)
    subst hq
    have hcA := z_arr_same g0 hty
    subst hcA
    rw [zws_push (I' := zu I n (fun _ => 0)) (J' := zu J n (fun _ => 0)) (P' := zu P n (fun _ => none)) he ?_ ?_ ?_] at g1
    · have := k (by omega) hn a3 H1 locs lsA g1 g3 hL
      rwa [show n + 1 - n0 = n - n0 + 1 by omega, show zsz (n + 1) - zsz n0 = zsz n - zsz n0 + N by omega] at this
    all_goals (intro j hj; exact zu_n _ _ hj)
  rcases ht with rfl | rfl | rfl
  · exact fin (N, .inl (fun _ => 0)) (fun cA => rfl) (by simp only [zent, hs, newarray.typeOf, zu_s]) (Or.inl rfl) (by simp [newarray.typeOf, componentBytes]; omega)
  · exact fin (N, .inr (.inl (fun _ => 0))) (fun cA => rfl) (by simp only [zent, hs, newarray.typeOf, zu_s]) (Or.inr (Or.inl rfl)) (by simp [newarray.typeOf, componentBytes]; omega)
  · exact fin (N, .inl (fun _ => 0)) (fun cA => rfl) (by simp only [zent, hs, newarray.typeOf, zu_s]) (Or.inr (Or.inr (Or.inl rfl))) (by simp [newarray.typeOf, componentBytes]; omega)
theorem zs_anewarray {K : zCx} {own : String} {cc : ByteArray} {d n1 : Nat} {ini : Bool} {sc : Option (Nat × (Nat → Int32))} (C : zCtx K own cc d n1 ini sc) {n : Nat} {I : zI} {J : zJ} {P : zP} {pc : Nat} {ls : List Value} {i : Nat} {x : Int32} {N : Nat} (h1 : Cond.classLink own i "StepsShared$Standing" ∈ z_good) (hs : zSH n = .inr (zStd, N)) (hx0 : ¬ x < 0) (hN : x.toNatClampNeg = N) (hb0 : N ≤ 100000) (hn : n + 1 ≤ n1) {r : List Value} (hd : decode cc pc = .ok (.anewarray i, 3)) (k : zV K (n + 1) (zu I n (fun _ => 0)) (zu J n (fun _ => 0)) (zu P n (fun _ => none)) (pc + 3) ls (.ref n :: r)) : zV K n I J P pc ls (.int x :: r) := by
  obtain ⟨p, l, e, R, s, m, args, below, meth, c, Q, D, gA, base, b, n0, n1v, nL⟩ := K
  obtain ⟨hx, hb, hml, hown, hgd, hnt, hao, hK, hsz, hn1, ⟨r1, r2, r3, r4⟩, hini, -⟩ := C
  subst hn1
  intro a1 a2 a3 H locs lsA hP hS hL
  have hz : zsz (n + 1) = zsz n + N := by show zsz n + zlen n = _; unfold zlen; rw [hs]
  have hm1 := zsz_mono hn
  have hm0 := zsz_mono a1
  refine va_newq hx hb hown (hgd _ h1) hao hK hP zws_D hS (fun q hq => Nat.le_trans (by rw [hsz]; exact Nat.le_add_right _ _) hq) hx0 hN (by omega) (by omega) (by omega) hd (fun q cA H1 g0 g1 g2 g3 => z_size fun g4 => ?_)
  have hq := z_next g1 g2 (by omega)
  subst hq
  have hcA := z_arr_same (ty := zStd) g0 (Or.inr (Or.inr (Or.inr rfl)))
  subst hcA
  rw [zws_push (I' := zu I n (fun _ => 0)) (J' := zu J n (fun _ => 0)) (P' := zu P n (fun _ => none)) ?_ ?_ ?_ ?_] at g1
  · have := k (by omega) hn a3 H1 locs lsA g1 g3 hL
    rwa [show n + 1 - n0 = n - n0 + 1 by omega, show zsz (n + 1) - zsz n0 = zsz n - zsz n0 + N by omega] at this
  · simp only [zent, hs, zStd, zu_s]; try rfl
  all_goals (intro j hj; exact zu_n _ _ hj)
end
section
theorem z_goodIn {y : MethodName} {cy : ByteArray} {mL : Nat} {rt : Option FieldType} (h : Cond.code y cy mL rt ∈ z_good) : GoodIn z_good (Cond.code y cy mL rt :: z_good) := by
  intro w hw
  have hm : w ∈ z_good := by
    rcases List.mem_cons.mp hw with rfl | hw
    · exact h
    · exact hw
  exact ⟨hm, z_good_good w hm⟩
theorem z_blind {D : va_G} {gA : FieldType → Nat} {base b n : Nat} {I : zI} {J : zJ} {P : zP} {As : List Value} : FrameBlind (z_Pc D gA base b n I J P As) := by
  intro a U g mk h
  obtain ⟨q0, q1, q2, q3, q4, q5⟩ := h
  refine ⟨q0, q1, q2, va_K.moved (u := U) (U := U.calling g mk a) (Vm.Alike.refl U.vm) q3, fun w hw => ?_, va_AO.moved (u := U) (U := U.calling g mk a) (Vm.Alike.refl U.vm) q5⟩
  have h1 := q4 w hw
  have h2 := (List.mem_filter.mp hw).2
  cases w <;> first | exact va_Nw.same (u := U) rfl rfl h1 | (simp [z_isNest] at h2; done)
theorem z_call {p : Program} {l : Launch} {e : Env} {R : Room} {s : State} {m : MethodId} {args : Array Value} {below : List Frame} {meth : Method} {c : Code} {H : Heap} {locs : List Loc} {cells slots mc ms : Nat} {Q : State → Prop} {pc : Nat} {lsA : Array Slot} {st0 rest : List Value} {Qa : State → Outcome → State → Prop} {free : Addr → Prop} (hr : va_Run p l e R s m args below meth c H locs cells slots mc ms (F0 m pc lsA st0) rest Qa free)
    (kk : ∀ (v : Option Value) (st₀ t : State) (L : List Loc), st₀.heap = H → Qa st₀ (.returned v) t → (∀ q ∈ L, free q.base) → W p l e R s m args below meth c t.heap (locs ++ L) (cells + mc) (slots + ms) Q (F0 m (pc + 3) lsA (v.toList ++ rest))) : W p l e R s m args below meth c H locs cells slots Q (F0 m pc lsA st0) := by
  intro T hT X
  obtain ⟨v, st₀, t, T', L, h0, X', hL, e1, e2, hq, st⟩ := hr T hT X
  obtain ⟨t2, a1, b1⟩ := kk v st₀ t L h0 hq hL T' e1 X'
  exact ⟨t2, st t2 a1, b1⟩
/-- behind a call: the callee's world is the caller's -/
theorem z_back {K : zCx} {own : String} {cc : ByteArray} {d n1 : Nat} {ini : Bool} {sc : Option (Nat × (Nat → Int32))} (C : zCtx K own cc d n1 ini sc) {n n2 : Nat} {pc : Nat} {ls rest : List Value} {post1 : Option Value → zI → zJ → zP → Prop} (hn : n ≤ n2) (hn2 : n2 ≤ n1) (k : ∀ (r : Option Value) (I1 : zI) (J1 : zJ) (P1 : zP), post1 r I1 J1 P1 → zV K n2 I1 J1 P1 (pc + 3) ls (r.toList ++ rest)) :
    match K with
    | (p, l, e, R, s, m, args, below, meth, c, Q, D, gA, base, b, n0, _, nL) => n0 ≤ n → ls.length = nL → ∀ (H : Heap) (locs : List Loc) (lsA : Array Slot) (st0 : List Value) (a : Array Value), va_S (fun q => base ≤ q) s.heap H locs → lv_has lsA nL (zas base b ls) → va_Run p l e R s m args below meth c H locs (n - n0) (zsz n - zsz n0) (n2 - n) (zsz n2 - zsz n) (F0 m pc lsA st0) (rest.map (zcv base b)) (z_Qc D gA base b n2 post1 a) (fun q => base ≤ q) → W p l e R s m args below meth c H locs (n - n0) (zsz n - zsz n0) Q (F0 m pc lsA st0) := by
  obtain ⟨p, l, e, R, s, m, args, below, meth, c, Q, D, gA, base, b, n0, n1v, nL⟩ := K
  obtain ⟨hx, hb, hml, hown, hgd, hnt, hao, hK, hsz, hn1, -⟩ := C
  subst hn1
  intro a1 a3 H locs lsA st0 a hS hL hr
  refine z_call hr (fun v st₀ t L h0 hq hfr => ?_)
  obtain ⟨⟨r, I1, J1, P1, ho, hp, hP1⟩, hF⟩ := hq
  cases ho
  have hm1 := zsz_mono hn
  have hm0 := zsz_mono a1
  have hS1 : va_S (fun q => base ≤ q) s.heap t.heap (locs ++ L) := by
    obtain ⟨f1, f2⟩ := hF
    rw [h0] at f1 f2
    refine ⟨Nat.le_trans hS.1 f1, fun q h1 h2 => ?_, fun q hq => ?_⟩
    · rw [f2 q (Nat.lt_of_lt_of_le h1 hS.1) h2]; exact hS.2.1 q h1 h2
    · rcases List.mem_append.mp hq with h | h
      · exact hS.2.2 q h
      · exact hfr q h
  have := k r I1 J1 P1 hp (by omega) hn2 a3 t.heap (locs ++ L) lsA hP1 hS1 hL
  rw [show n - n0 + (n2 - n) = n2 - n0 by omega, show zsz n - zsz n0 + (zsz n2 - zsz n) = zsz n2 - zsz n0 by omega]
  have es : (r.toList ++ rest).map (zcv base b) = (r.map (zcv base b)).toList ++ rest.map (zcv base b) := by cases r <;> simp
  rw [es] at this
  exact this
/-- ahead of a call: the callee's start -/
theorem z_ahead {p : Program} {l : Launch} {e : Env} {s : State} {H : Heap} {locs : List Loc} {D : va_G} {gA : FieldType → Nat} {base b n n0 : Nat} {I : zI} {J : zJ} {P : zP} (hnt : ∀ w ∈ z_nest, va_Nw w s) (hao : va_AO "StepsShared$Standing" s) (hK : va_K D zcl (ztys gA) s) (hsz : s.heap.size = base + n0) (h0 : n0 ≤ n) (hP : va_P D zcl (zws base gA n I J P) H) (hS : va_S (fun q => base ≤ q) s.heap H locs) (hz : H.size ≤ s.heap.size + (n - n0)) (As : List Value) : ∀ U : State, U.heap = H → s.WarmedH U.vm → z_Pc D gA base b n I J P As (As.map (zcv base b)).toArray U := by
  intro U hU hW
  refine ⟨rfl, by rw [hU]; exact hP, ?_, va_K.moved hW.alike hK, z_nest_warm hW hnt, va_AO.moved hW.alike hao⟩
  rw [hU]
  have hlo : base + n ≤ H.size := by
    by_cases hn : n = 0
    · have := hS.1; omega
    · have := (hP (n - 1) _ (zws_get (by omega))).lt
      simp only at this
      omega
  omega
theorem zs_invokevirtual {K : zCx} {own : String} {cc : ByteArray} {d n1 : Nat} {ini : Bool} {sc : Option (Nat × (Nat → Int32))} (C : zCtx K own cc d n1 ini sc) {n : Nat} {I : zI} {J : zJ} {P : zP} {pc : Nat} {ls : List Value} {i : Nat} {y : MethodName} {cy : ByteArray} {mL : Nat} {rt : Option FieldType} {na d1 n2 o ci : Nat} {As rest : List Value} {post1 : Option Value → zI → zJ → zP → Prop} (hm : z_ml own i y cy mL rt na) (him : Cond.instanceMethod y ∈ z_good) (hse : Cond.selects y.cls y y ∈ z_good) (hna : As.length = na) (ho : o < n) (hs : zSH o = .inl ci) (hci : ci < 13) (hcy : zR ci = y.cls) (hd1 : d1 + 1 ≤ d) (hmL : mL ≤ 45) (hrs : (rest.map fun v => v.category).sum ≤ 8) (hn2 : n2 ≤ n1) (hSp : z_Sp d1 y cy mL rt n n2 I J P (.ref o :: As) post1) (k : ∀ (r : Option Value) (I1 : zI) (J1 : zJ) (P1 : zP), post1 r I1 J1 P1 → zV K n2 I1 J1 P1 (pc + 3) ls (r.toList ++ rest)) (hd : decode cc pc = .ok (.invokevirtual i, 3)) : zV K n I J P pc ls (As.reverse ++ .ref o :: rest) := by
  obtain ⟨p, l, e, R, s, m, args, below, meth, c, Q, D, gA, base, b, n0, n1v, nL⟩ := K
  obtain ⟨hx, hb, hml, hown, hgd, hnt, hao, hK, hsz, hn1, ⟨r1, r2, r3, r4⟩, -⟩ := id C
  subst hn1
  obtain ⟨hl, hin, hco, hdy⟩ := hm
  intro a1 a2 a3 H locs lsA hP hS hL
  refine z_size fun hz => ?_
  have hm1 := zsz_mono hSp.1
  have hm2 := zsz_mono hn2
  have hm0 := zsz_mono a1
  have hle := hSp.1
  refine (z_back C hSp.1 hn2 k) a1 a3 H locs lsA _ _ hS hL (?_ : va_Run p l e R s m args below meth c H locs (n - n0) (zsz n - zsz n0) (n2 - n) (zsz n2 - zsz n) (F0 m pc lsA ((As.reverse ++ .ref o :: rest).map (zcv base b))) (rest.map (zcv base b)) (z_Qc D gA base b n2 post1 (Value.ref (base + o) :: As.map (zcv base b)).toArray) (fun q => base ≤ q))
  have hg := zws_get (base := base) (gA := gA) (I := I) (J := J) (P := P) ho
  simp only [zent, hs] at hg
  have hM := hSp.2 l D gA base b
  have hpre : PreV s H y.cls (base + o) (z_Pc D gA base b n I J P (.ref o :: As)) (As.map (zcv base b)) := by
    refine ⟨z_blind, ?_, z_ahead (l := l) (p := p) (e := e) hnt hao hK hsz a1 hP hS hz (.ref o :: As)⟩
    rw [← hcy]
    exact va_recv hK hP (zcl_at ci hci) hg
  have hst : ((As.reverse ++ .ref o :: rest).map (zcv base b)) = (As.map (zcv base b)).reverse ++ .ref (base + o) :: rest.map (zcv base b) := by simp [zcv]
  have hrs' : ((rest.map (zcv base b)).map fun v => v.category).sum ≤ 8 := by rw [List.map_map, show ((fun v : Value => v.category) ∘ zcv base b) = (fun v : Value => v.category) from funext (fun v => zcv_cat base b v)]; exact hrs
  rcases hl with hl | ⟨host, hl⟩
  · exact va_runV (C := y.cls) (n := na) ⟨hx, hb, hml, hown, hgd⟩ hM ⟨callB_of na hgd (z_goodIn hco) rfl rfl rfl (hgd _ hin) (hgd _ hl) hdy ⟨by show d1 + 1 ≤ R.frames; omega, by show 8 + (mL + 11) + 64 * d1 ≤ R.locals; omega⟩, hgd _ him, hgd _ hse⟩ hpre rfl (by simpa using hna) hL.1 hst (lv_room hrs') hd ⟨by omega, by omega⟩
  · exact va_runVN (C := y.cls) (n := na) ⟨hx, hb, hml, hown, hgd⟩ hM ⟨va_cnB (host := host) na hgd (z_goodIn hco) rfl rfl rfl (hnt _ hl) (hgd _ hin) hdy ⟨by show d1 + 1 ≤ R.frames; omega, by show 8 + (mL + 11) + 64 * d1 ≤ R.locals; omega⟩, hgd _ him, hgd _ hse⟩ hpre rfl (by simpa using hna) hL.1 hst (lv_room hrs') hd ⟨by omega, by omega⟩
theorem zs_invokestatic {K : zCx} {own : String} {cc : ByteArray} {d n1 : Nat} {ini : Bool} {sc : Option (Nat × (Nat → Int32))} (C : zCtx K own cc d n1 ini sc) {n : Nat} {I : zI} {J : zJ} {P : zP} {pc : Nat} {ls : List Value} {i : Nat} {y : MethodName} {cy : ByteArray} {mL : Nat} {rt : Option FieldType} {na d1 n2 : Nat} {As rest : List Value} {post1 : Option Value → zI → zJ → zP → Prop} (hm : z_ml own i y cy mL rt na) (him : Cond.static y ∈ z_good) (hna : As.length = na) (hd1 : d1 + 1 ≤ d) (hmL : mL ≤ 45) (hrs : (rest.map fun v => v.category).sum ≤ 8) (hn2 : n2 ≤ n1) (hSp : z_Sp d1 y cy mL rt n n2 I J P As post1) (k : ∀ (r : Option Value) (I1 : zI) (J1 : zJ) (P1 : zP), post1 r I1 J1 P1 → zV K n2 I1 J1 P1 (pc + 3) ls (r.toList ++ rest)) (hd : decode cc pc = .ok (.invokestatic i, 3)) : zV K n I J P pc ls (As.reverse ++ rest) := by
  obtain ⟨p, l, e, R, s, m, args, below, meth, c, Q, D, gA, base, b, n0, n1v, nL⟩ := K
  obtain ⟨hx, hb, hml, hown, hgd, hnt, hao, hK, hsz, hn1, ⟨r1, r2, r3, r4⟩, -⟩ := id C
  subst hn1
  obtain ⟨hl, hin, hco, hdy⟩ := hm
  intro a1 a2 a3 H locs lsA hP hS hL
  refine z_size fun hz => ?_
  have hm1 := zsz_mono hSp.1
  have hm2 := zsz_mono hn2
  have hm0 := zsz_mono a1
  have hle := hSp.1
  refine (z_back C hSp.1 hn2 k) a1 a3 H locs lsA _ _ hS hL (?_ : va_Run p l e R s m args below meth c H locs (n - n0) (zsz n - zsz n0) (n2 - n) (zsz n2 - zsz n) (F0 m pc lsA ((As.reverse ++ rest).map (zcv base b))) (rest.map (zcv base b)) (z_Qc D gA base b n2 post1 (As.map (zcv base b)).toArray) (fun q => base ≤ q))
  have hM := hSp.2 l D gA base b
  have hpre : PreS s H (z_Pc D gA base b n I J P As) (As.map (zcv base b)) := ⟨z_blind, z_ahead (l := l) (p := p) (e := e) hnt hao hK hsz a1 hP hS hz As⟩
  have hst : ((As.reverse ++ rest).map (zcv base b)) = (As.map (zcv base b)).reverse ++ rest.map (zcv base b) := by simp
  have hrs' : ((rest.map (zcv base b)).map fun v => v.category).sum ≤ 8 := by rw [List.map_map, show ((fun v : Value => v.category) ∘ zcv base b) = (fun v : Value => v.category) from funext (fun v => zcv_cat base b v)]; exact hrs
  rcases hl with hl | ⟨host, hl⟩
  · exact va_runS (n := na) ⟨hx, hb, hml, hown, hgd⟩ hM ⟨callB_of na hgd (z_goodIn hco) rfl rfl rfl (hgd _ hin) (hgd _ hl) hdy ⟨by show d1 + 1 ≤ R.frames; omega, by show 8 + (mL + 11) + 64 * d1 ≤ R.locals; omega⟩, hgd _ him⟩ hpre rfl (by simpa using hna) hL.1 hst (lv_room hrs') hd ⟨by omega, by omega⟩
  · exact va_runSN (n := na) ⟨hx, hb, hml, hown, hgd⟩ hM ⟨va_cnB (host := host) na hgd (z_goodIn hco) rfl rfl rfl (hnt _ hl) (hgd _ hin) hdy ⟨by show d1 + 1 ≤ R.frames; omega, by show 8 + (mL + 11) + 64 * d1 ≤ R.locals; omega⟩, hgd _ him, trivial⟩ hpre rfl (by simpa using hna) hL.1 hst (lv_room hrs') hd ⟨by omega, by omega⟩
theorem zs_invokeinit {K : zCx} {own : String} {cc : ByteArray} {d n1 : Nat} {ini : Bool} {sc : Option (Nat × (Nat → Int32))} (C : zCtx K own cc d n1 ini sc) {n : Nat} {I : zI} {J : zJ} {P : zP} {pc : Nat} {ls : List Value} {i : Nat} {y : MethodName} {cy : ByteArray} {mL : Nat} {na d1 n2 o : Nat} {As rest : List Value} {post1 : Option Value → zI → zJ → zP → Prop} (hm : z_ml own i y cy mL none na) (him : Cond.instanceMethod y ∈ z_good) (hyi : y.name = "<init>") (hna : As.length = na) (hd1 : d1 + 1 ≤ d) (hmL : mL ≤ 45) (hrs : (rest.map fun v => v.category).sum ≤ 8) (hn2 : n2 ≤ n1) (hSp : z_Sp d1 y cy mL none n n2 I J P (.ref o :: As) post1) (k : ∀ (r : Option Value) (I1 : zI) (J1 : zJ) (P1 : zP), post1 r I1 J1 P1 → zV K n2 I1 J1 P1 (pc + 3) ls (r.toList ++ rest)) (hd : decode cc pc = .ok (.invokespecial i, 3)) : zV K n I J P pc ls (As.reverse ++ .ref o :: rest) := by
  obtain ⟨p, l, e, R, s, m, args, below, meth, c, Q, D, gA, base, b, n0, n1v, nL⟩ := K
  obtain ⟨hx, hb, hml, hown, hgd, hnt, hao, hK, hsz, hn1, ⟨r1, r2, r3, r4⟩, -⟩ := id C
  subst hn1
  obtain ⟨hl, hin, hco, hdy⟩ := hm
  intro a1 a2 a3 H locs lsA hP hS hL
  refine z_size fun hz => ?_
  have hm1 := zsz_mono hSp.1
  have hm2 := zsz_mono hn2
  have hm0 := zsz_mono a1
  have hle := hSp.1
  refine (z_back C hSp.1 hn2 k) a1 a3 H locs lsA _ _ hS hL (?_ : va_Run p l e R s m args below meth c H locs (n - n0) (zsz n - zsz n0) (n2 - n) (zsz n2 - zsz n) (F0 m pc lsA ((As.reverse ++ .ref o :: rest).map (zcv base b))) (rest.map (zcv base b)) (z_Qc D gA base b n2 post1 (Value.ref (base + o) :: As.map (zcv base b)).toArray) (fun q => base ≤ q))
  have hM := hSp.2 l D gA base b
  have hpre : PreS s H (z_Pc D gA base b n I J P (.ref o :: As)) (.ref (base + o) :: As.map (zcv base b)) := ⟨z_blind, z_ahead (l := l) (p := p) (e := e) hnt hao hK hsz a1 hP hS hz (.ref o :: As)⟩
  have hst : ((As.reverse ++ .ref o :: rest).map (zcv base b)) = (As.map (zcv base b)).reverse ++ .ref (base + o) :: rest.map (zcv base b) := by simp [zcv]
  have hrs' : ((rest.map (zcv base b)).map fun v => v.category).sum ≤ 8 := by rw [List.map_map, show ((fun v : Value => v.category) ∘ zcv base b) = (fun v : Value => v.category) from funext (fun v => zcv_cat base b v)]; exact hrs
  rcases hl with hl | ⟨host, hl⟩
  · exact va_runI (n := na) ⟨hx, hb, hml, hown, hgd⟩ hM ⟨callB_of na hgd (z_goodIn hco) rfl rfl rfl (hgd _ hin) (hgd _ hl) hdy ⟨by show d1 + 1 ≤ R.frames; omega, by show 8 + (mL + 11) + 64 * d1 ≤ R.locals; omega⟩, hyi, hgd _ him⟩ hpre rfl (by simpa using hna) hL.1 hst (lv_room hrs') hd ⟨by omega, by omega⟩
  · exact va_runIN (n := na) ⟨hx, hb, hml, hown, hgd⟩ hM ⟨va_cnB (host := host) na hgd (z_goodIn hco) rfl rfl rfl (hnt _ hl) (hgd _ hin) hdy ⟨by show d1 + 1 ≤ R.frames; omega, by show 8 + (mL + 11) + 64 * d1 ≤ R.locals; omega⟩, hyi, hgd _ him⟩ hpre rfl (by simpa using hna) hL.1 hst (lv_room hrs') hd ⟨by omega, by omega⟩
theorem z_oinst : Cond.instanceMethod Lib.objectInit ∈ z_good := List.mem_filter.mpr ⟨by decide +kernel, rfl⟩
theorem z_ocode : Cond.code Lib.objectInit ⟨#[0xb1]⟩ 1 none ∈ z_good := List.mem_filter.mpr ⟨by decide +kernel, rfl⟩
theorem zs_objinit {K : zCx} {own : String} {cc : ByteArray} {d n1 : Nat} {ini : Bool} {sc : Option (Nat × (Nat → Int32))} (C : zCtx K own cc d n1 ini sc) {n : Nat} {I : zI} {J : zJ} {P : zP} {pc : Nat} {ls : List Value} {i o : Nat} {rest : List Value} (hl : Cond.methodLink own i Lib.objectInit ∈ z_good) (hd1 : 1 ≤ d) (hrs : (rest.map fun v => v.category).sum ≤ 8) (hd : decode cc pc = .ok (.invokespecial i, 3)) (k : zV K n I J P (pc + 3) ls rest) : zV K n I J P pc ls (.ref o :: rest) := by
  obtain ⟨p, l, e, R, s, m, args, below, meth, c, Q, D, gA, base, b, n0, n1v, nL⟩ := K
  obtain ⟨hx, hb, hml, hown, hgd, hnt, hao, hK, hsz, hn1, ⟨r1, r2, r3, r4⟩, -⟩ := C
  intro a1 a2 a3 H locs lsA hP hS hL
  have hrs' : ((rest.map (zcv base b)).map fun v => v.category).sum ≤ 8 := by rw [List.map_map, show ((fun v : Value => v.category) ∘ zcv base b) = (fun v : Value => v.category) from funext (fun v => zcv_cat base b v)]; exact hrs
  exact W.objInit hx hb hown (hgd _ hl) (hgd _ z_oinst) (hgd _ z_ocode) rfl (by rw [hml]; exact hL.1) rfl hd (by omega) (by have := lv_room (m := m) (pc := pc) (ls := lsA) (rest := (Value.ref o :: rest).map (zcv base b)) hrs'; omega) (k a1 a2 a3 H locs lsA hP hS hL)
end
section
/-- the returns are the frame's own business -/
def z_Rok (K : zCx) (cc : ByteArray) (ret : Option FieldType) (n1 : Nat) (post : Option Value → zI → zJ → zP → Prop) : Prop := ∀ (n : Nat) (I : zI) (J : zJ) (P : zP) (pc : Nat) (ls st : List Value) (i : Instr), decode cc pc = .ok (i, 1) → z_ret ret n1 post n I J P st i → zV K n I J P pc ls st
/-- THE SOUNDNESS: the machine's judgement is closed under every instruction of the abstract machine -/
theorem z_sound {K : zCx} {own : String} {cc : ByteArray} {d n1 : Nat} {ini : Bool} {sc : Option (Nat × (Nat → Int32))} {ret : Option FieldType} {post : Option Value → zI → zJ → zP → Prop} (C : zCtx K own cc d n1 ini sc) (hR : z_Rok K cc ret n1 post) : z_Cl own cc d n1 ini sc ret post (zV K) := by
  intro n I J P pc ls st i len hd hw
  cases i with
  | iadd =>
    obtain ⟨rfl, x, y, r, rfl, k⟩ := hw; exact zs_iadd C hd k
  | isub =>
    obtain ⟨rfl, x, y, r, rfl, k⟩ := hw; exact zs_isub C hd k
  | imul =>
    obtain ⟨rfl, x, y, r, rfl, k⟩ := hw; exact zs_imul C hd k
  | iand =>
    obtain ⟨rfl, x, y, r, rfl, k⟩ := hw; exact zs_iand C hd k
  | ior =>
    obtain ⟨rfl, x, y, r, rfl, k⟩ := hw; exact zs_ior C hd k
  | ixor =>
    obtain ⟨rfl, x, y, r, rfl, k⟩ := hw; exact zs_ixor C hd k
  | ishl =>
    obtain ⟨rfl, x, y, r, rfl, k⟩ := hw; exact zs_ishl C hd k
  | ishr =>
    obtain ⟨rfl, x, y, r, rfl, k⟩ := hw; exact zs_ishr C hd k
  | iushr =>
    obtain ⟨rfl, x, y, r, rfl, k⟩ := hw; exact zs_iushr C hd k
  | ladd =>
    obtain ⟨rfl, x, y, r, rfl, k⟩ := hw; exact zs_ladd C hd k
  | lsub =>
    obtain ⟨rfl, x, y, r, rfl, k⟩ := hw; exact zs_lsub C hd k
  | lmul =>
    obtain ⟨rfl, x, y, r, rfl, k⟩ := hw; exact zs_lmul C hd k
  | land =>
    obtain ⟨rfl, x, y, r, rfl, k⟩ := hw; exact zs_land C hd k
  | lor =>
    obtain ⟨rfl, x, y, r, rfl, k⟩ := hw; exact zs_lor C hd k
  | lxor =>
    obtain ⟨rfl, x, y, r, rfl, k⟩ := hw; exact zs_lxor C hd k
  | idiv =>
    obtain ⟨rfl, x, y, r, rfl, hne, k⟩ := hw; exact zs_idiv C hne hd k
  | irem =>
    obtain ⟨rfl, x, y, r, rfl, hne, k⟩ := hw; exact zs_irem C hne hd k
  | ldiv =>
    obtain ⟨rfl, x, y, r, rfl, hne, k⟩ := hw; exact zs_ldiv C hne hd k
  | lrem =>
    obtain ⟨rfl, x, y, r, rfl, hne, k⟩ := hw; exact zs_lrem C hne hd k
  | lshl =>
    obtain ⟨rfl, x, y, r, rfl, k⟩ := hw; exact zs_lshl C hd k
  | lshr =>
    obtain ⟨rfl, x, y, r, rfl, k⟩ := hw; exact zs_lshr C hd k
  | lushr =>
    obtain ⟨rfl, x, y, r, rfl, k⟩ := hw; exact zs_lushr C hd k
  | ineg =>
    obtain ⟨rfl, x, r, rfl, k⟩ := hw; exact zs_ineg C hd k
  | i2l =>
    obtain ⟨rfl, x, r, rfl, k⟩ := hw; exact zs_i2l C hd k
  | l2i =>
    obtain ⟨rfl, x, r, rfl, k⟩ := hw; exact zs_l2i C hd k
  | lcmp =>
    obtain ⟨rfl, x, y, r, rfl, k⟩ := hw; exact zs_lcmp C hd k
  | iconst v =>
    obtain ⟨rfl, k⟩ := hw; exact zs_iconst C hd k
  | bipush v =>
    obtain ⟨rfl, k⟩ := hw; exact zs_bipush C hd k
  | sipush v =>
    obtain ⟨rfl, k⟩ := hw; exact zs_sipush C hd k
  | lconst v =>
    obtain ⟨rfl, k⟩ := hw; exact zs_lconst C hd k
  | ldc v =>
    obtain ⟨rfl, x, h, k⟩ := hw; exact zs_ldc C h hd k
  | ldc_w v =>
    obtain ⟨rfl, x, h, k⟩ := hw; exact zs_ldcw C h hd k
  | ldc2_w v =>
    obtain ⟨rfl, x, h, k⟩ := hw; exact zs_ldc2 C h hd k
  | iload_n v =>
    obtain ⟨rfl, x, h, k⟩ := hw; exact zs_iload_n C h hd k
  | iload v =>
    obtain ⟨rfl, x, h, k⟩ := hw; exact zs_iload C h hd k
  | lload_n v =>
    obtain ⟨rfl, x, h, k⟩ := hw; exact zs_lload_n C h hd k
  | lload v =>
    obtain ⟨rfl, x, h, k⟩ := hw; exact zs_lload C h hd k
  | aload_n v =>
    obtain ⟨rfl, x, h, h2, k⟩ := hw; exact zs_aload_n C h h2 hd k
  | aload v =>
    obtain ⟨rfl, x, h, h2, k⟩ := hw; exact zs_aload C h h2 hd k
  | istore_n v =>
    obtain ⟨rfl, x, r, rfl, h, k⟩ := hw; exact zs_istore_n C h hd k
  | istore v =>
    obtain ⟨rfl, x, r, rfl, h, k⟩ := hw; exact zs_istore C h hd k
  | astore_n v =>
    obtain ⟨rfl, x, r, rfl, h, k⟩ := hw; exact zs_astore_n C h hd k
  | astore v =>
    obtain ⟨rfl, x, r, rfl, h, k⟩ := hw; exact zs_astore C h hd k
  | lstore_n v =>
    obtain ⟨rfl, x, r, rfl, h, k⟩ := hw; exact zs_lstore_n C h hd k
  | lstore v =>
    obtain ⟨rfl, x, r, rfl, h, k⟩ := hw; exact zs_lstore C h hd k
  | iinc v u =>
    obtain ⟨rfl, x, h, k⟩ := hw; exact zs_iinc C h hd k
  | dup =>
    obtain ⟨rfl, v, r, rfl, h, k⟩ := hw; exact zs_dup C h hd k
  | dup2 =>
    obtain ⟨rfl, v, u, r, rfl, h, h2, k⟩ := hw; exact zs_dup2 C h h2 hd k
  | goto o =>
    obtain ⟨rfl, t, ht, k⟩ := hw; exact zs_goto C ht hd k
  | if_icmp cd o =>
    obtain ⟨rfl, x, y, r, t, rfl, ht, k1, k2⟩ := hw; exact zs_icmp C ht hd k1 k2
  | ifCond cd o =>
    obtain ⟨rfl, x, r, t, rfl, ht, k1, k2⟩ := hw; exact zs_if C ht hd k1 k2
  | ifnonnull o =>
    obtain ⟨rfl, v, r, t, rfl, h, ht, k⟩ := hw; exact zs_ifnonnull C h ht hd k
  | tableswitch df lo hi offs =>
    obtain ⟨x, r, rfl, k1, k2⟩ := hw; exact zs_tsw C hd k1 k2
  | iaload =>
    obtain ⟨rfl, h⟩ := hw
    rcases h with ⟨q, k0, r, N, rfl, hq, hs, hi, k⟩ | ⟨f, k0, r, L, xs, rfl, hs, hi, k⟩
    · exact zs_iaload C hq hs hi hd k
    · exact zs_saload C hs hi hd k
  | arraylength =>
    obtain ⟨rfl, f, r, L, xs, rfl, hs, k⟩ := hw; exact zs_slen C hs hd k
  | baload =>
    obtain ⟨rfl, q, k0, r, N, rfl, hq, hs, hi, k⟩ := hw; exact zs_baload C hq hs hi hd k
  | laload =>
    obtain ⟨rfl, q, k0, r, N, rfl, hq, hs, hi, k⟩ := hw; exact zs_laload C hq hs hi hd k
  | aaload =>
    obtain ⟨rfl, q, k0, r, N, rfl, hq, hs, hi, k⟩ := hw; exact zs_aaload C hq hs hi hd k
  | iastore =>
    obtain ⟨rfl, q, k0, x, r, N, rfl, hq, hs, hi, k⟩ := hw; exact zs_iastore C hq hs hi hd k
  | bastore =>
    obtain ⟨rfl, q, k0, x, r, N, rfl, hq, hs, hi, k⟩ := hw; exact zs_bastore C hq hs hi hd k
  | lastore =>
    obtain ⟨rfl, q, k0, x, r, N, rfl, hq, hs, hi, k⟩ := hw; exact zs_lastore C hq hs hi hd k
  | aastore =>
    obtain ⟨rfl, q, v, k0, r, N, rfl, hq, hv, hs, hsv, hi, k⟩ := hw; exact zs_aastore C hq hv hs hsv hi hd k
  | getfield v =>
    obtain ⟨rfl, o, ci, k0, r, rfl, hf, ho, hs, k⟩ := hw; exact zs_getfield C hf ho hs hd k
  | putfield v =>
    obtain ⟨rfl, o, ci, k0, r, hf, hp, ho, hs, h⟩ := hw
    rcases h with ⟨x, rfl, hok, k⟩ | ⟨q, rfl, hok, k⟩
    · exact zs_putI C hf hp ho hs hok hd k
    · exact zs_putR C hf hp ho hs hok hd k
  | new v =>
    obtain ⟨rfl, ci, h0, h1, h2, h3, hs, hn, k⟩ := hw; exact zs_new C h0 h1 h2 h3 hs hn hd k
  | newarray v =>
    obtain ⟨rfl, x, N, r, rfl, h0, h1, hs, hx, hN, hb, hn, k⟩ := hw; exact zs_newarray C h0 h1 hs hx hN hb hn hd k
  | anewarray v =>
    obtain ⟨rfl, x, N, r, rfl, h1, hs, hx, hN, hb, hn, k⟩ := hw; exact zs_anewarray C h1 hs hx hN hb hn hd k
  | invokevirtual v =>
    obtain ⟨rfl, y, cy, mL, rt, na, d1, n2, o, ci, As, rest, post1, rfl, hm, h1, h2, h3, h4, h5, h6, h7, h8, h9, h10, h11, h12, k⟩ := hw; exact zs_invokevirtual C hm h1 h2 h3 h4 h5 h6 h7 h8 h9 h10 h11 h12 k hd
  | invokestatic v =>
    obtain ⟨rfl, y, cy, mL, rt, na, d1, n2, As, rest, post1, rfl, hm, h1, h3, h8, h9, h10, h11, h12, k⟩ := hw; exact zs_invokestatic C hm h1 h3 h8 h9 h10 h11 h12 k hd
  | invokespecial v =>
    obtain ⟨rfl, h⟩ := hw
    rcases h with ⟨o, rest, rfl, hl, h1, h2, k⟩ | ⟨y, cy, mL, na, d1, n2, o, As, rest, post1, rfl, hm, h1, h2, h3, h8, h9, h10, h11, h12, k⟩
    · exact zs_objinit C hl h1 h2 hd k
    · exact zs_invokeinit C hm h1 h2 h3 h8 h9 h10 h11 h12 k hd
  | _ => obtain ⟨rfl, h⟩ := hw; exact hR _ _ _ _ _ _ _ _ hd h
theorem z_met {y : MethodName} {cc : ByteArray} {maxL : Nat} {ret : Option FieldType} {d n n1 : Nat} {I : zI} {J : zJ} {P : zP} {args : List Value} {post : Option Value → zI → zJ → zP → Prop} (ini : Bool) (hy : plainName y.cls = true) (hini : ini = true → y.name = "<init>") (hex : (zex args).length ≤ maxL) (hn : n ≤ n1)
    (h : ∀ V : Nat → zI → zJ → zP → Nat → List Value → List Value → Prop, z_Cl y.cls cc d n1 ini none ret post V → V n I J P 0 (zin maxL args) []) : z_Sp d y cc maxL ret n n1 I J P args post := by
  refine ⟨hn, fun l D gA base b => ?_⟩
  refine Met.ofW (cc := cc) (maxL := maxL) (ret := ret) hy rfl ?_
  intro p e s m args' below meth c s₁ B hml hv
  obtain ⟨rfl, hP, hsz, hK, hnt, hao⟩ := hv
  have hx := B.exec
  have hb := B.bytes
  have hr := B.returns
  have hts := atoms_spec (ws := Cond.code y cc maxL ret :: z_good) B.pre
  have hown : s.vm.findClass y.cls = some m.cls := findClass_of_methodNamed B.named
  have hlocks := B.notSynchronized
  have hnm : meth.name = y.name := (name_of_methodNamed B.named B.method).1
  have hC : zCtx (p, l, e, (headSpec (Cond.code y cc maxL ret :: z_good) { frames := d, cells := n1 - n, slots := zsz n1 - zsz n, locals := 64 * d }).room, s, m, (args.map (zcv base b)).toArray, below, meth, c, MQ below (z_Qc D gA base b n1 post) (args.map (zcv base b)).toArray s (n1 - n) (zsz n1 - zsz n) (fun q => base ≤ q), D, gA, base, b, n, n1, maxL) y.cls cc d n1 ini none :=
    ⟨hx, hb, hml, hown, fun w hw => hts w (List.mem_cons_of_mem _ hw), hnt, hao, hK, hsz, rfl, ⟨Nat.le_refl _, Nat.le_refl _, Nat.le_refl _, Nat.le_refl _⟩, fun hi => by rw [hnm]; exact hini hi, fun L xs hc => by cases hc⟩
  have hR : z_Rok (p, l, e, (headSpec (Cond.code y cc maxL ret :: z_good) { frames := d, cells := n1 - n, slots := zsz n1 - zsz n, locals := 64 * d }).room, s, m, (args.map (zcv base b)).toArray, below, meth, c, MQ below (z_Qc D gA base b n1 post) (args.map (zcv base b)).toArray s (n1 - n) (zsz n1 - zsz n) (fun q => base ≤ q), D, gA, base, b, n, n1, maxL) cc ret n1 post := by
    intro n' I' J' P' pc ls st i hd hz a1 a2 a3 H locs lsA hP' hS hL
    unfold z_ret at hz
    split at hz
    · obtain ⟨x, ty, rfl, hty, hnar, rfl, hpost⟩ := hz
      exact W.zret hx hb (hr.trans hty) hnar (fun t ht hW => ⟨⟨some (.int x), I', J', P', rfl, hpost, by rw [ht]; exact hP'⟩, hS.F ht⟩) hS.2.2 hd
    · obtain ⟨x, rfl, hty, rfl, hpost⟩ := hz
      exact W.lret hx hb (hr.trans hty) (fun t ht hW => ⟨⟨some (.long x), I', J', P', rfl, hpost, by rw [ht]; exact hP'⟩, hS.F ht⟩) hS.2.2 hd
    · obtain ⟨rfl, hty, rfl, hpost⟩ := hz
      exact W.vret hx hb (hr.trans hty) (fun t ht hW => ⟨⟨none, I', J', P', rfl, hpost, by rw [ht]; exact hP'⟩, hS.F ht⟩) hS.2.2 hd
    · exact hz.elim
  have go := h _ (z_sound hC hR) (Nat.le_refl n) hn (zin_len hex) s.heap [] _ hP va_S.rf (zin_has (base := base) (b := b) hex)
  rw [lg_entry_eq]
  rw [Nat.sub_self, Nat.sub_self] at go
  exact go
end
section
/-! the rows of the abstract machine, for any V that is closed -/

theorem r_iadd {own : String} {cc : ByteArray} {d n1 : Nat} {ini : Bool} {sc : Option (Nat × (Nat → Int32))} {ret : Option FieldType} {post : Option Value → zI → zJ → zP → Prop} {V : Nat → zI → zJ → zP → Nat → List Value → List Value → Prop} (hV : z_Cl own cc d n1 ini sc ret post V) {n : Nat} {I : zI} {J : zJ} {P : zP} {pc : Nat} {ls r : List Value} {x y : Int32} (hd : decode cc pc = .ok (.iadd, 1)) (k : V n I J P (pc + 1) ls (.int (x + y) :: r)) : V n I J P pc ls (.int y :: .int x :: r) := hV _ _ _ _ _ _ _ _ _ hd ⟨rfl, x, y, r, rfl, k⟩
theorem r_isub {own : String} {cc : ByteArray} {d n1 : Nat} {ini : Bool} {sc : Option (Nat × (Nat → Int32))} {ret : Option FieldType} {post : Option Value → zI → zJ → zP → Prop} {V : Nat → zI → zJ → zP → Nat → List Value → List Value → Prop} (hV : z_Cl own cc d n1 ini sc ret post V) {n : Nat} {I : zI} {J : zJ} {P : zP} {pc : Nat} {ls r : List Value} {x y : Int32} (hd : decode cc pc = .ok (.isub, 1)) (k : V n I J P (pc + 1) ls (.int (x - y) :: r)) : V n I J P pc ls (.int y :: .int x :: r) := hV _ _ _ _ _ _ _ _ _ hd ⟨rfl, x, y, r, rfl, k⟩
theorem r_imul {own : String} {cc : ByteArray} {d n1 : Nat} {ini : Bool} {sc : Option (Nat × (Nat → Int32))} {ret : Option FieldType} {post : Option Value → zI → zJ → zP → Prop} {V : Nat → zI → zJ → zP → Nat → List Value → List Value → Prop} (hV : z_Cl own cc d n1 ini sc ret post V) {n : Nat} {I : zI} {J : zJ} {P : zP} {pc : Nat} {ls r : List Value} {x y : Int32} (hd : decode cc pc = .ok (.imul, 1)) (k : V n I J P (pc + 1) ls (.int (x * y) :: r)) : V n I J P pc ls (.int y :: .int x :: r) := hV _ _ _ _ _ _ _ _ _ hd ⟨rfl, x, y, r, rfl, k⟩
theorem r_iand {own : String} {cc : ByteArray} {d n1 : Nat} {ini : Bool} {sc : Option (Nat × (Nat → Int32))} {ret : Option FieldType} {post : Option Value → zI → zJ → zP → Prop} {V : Nat → zI → zJ → zP → Nat → List Value → List Value → Prop} (hV : z_Cl own cc d n1 ini sc ret post V) {n : Nat} {I : zI} {J : zJ} {P : zP} {pc : Nat} {ls r : List Value} {x y : Int32} (hd : decode cc pc = .ok (.iand, 1)) (k : V n I J P (pc + 1) ls (.int (x &&& y) :: r)) : V n I J P pc ls (.int y :: .int x :: r) := hV _ _ _ _ _ _ _ _ _ hd ⟨rfl, x, y, r, rfl, k⟩
theorem r_ior {own : String} {cc : ByteArray} {d n1 : Nat} {ini : Bool} {sc : Option (Nat × (Nat → Int32))} {ret : Option FieldType} {post : Option Value → zI → zJ → zP → Prop} {V : Nat → zI → zJ → zP → Nat → List Value → List Value → Prop} (hV : z_Cl own cc d n1 ini sc ret post V) {n : Nat} {I : zI} {J : zJ} {P : zP} {pc : Nat} {ls r : List Value} {x y : Int32} (hd : decode cc pc = .ok (.ior, 1)) (k : V n I J P (pc + 1) ls (.int (x ||| y) :: r)) : V n I J P pc ls (.int y :: .int x :: r) := hV _ _ _ _ _ _ _ _ _ hd ⟨rfl, x, y, r, rfl, k⟩
theorem r_ixor {own : String} {cc : ByteArray} {d n1 : Nat} {ini : Bool} {sc : Option (Nat × (Nat → Int32))} {ret : Option FieldType} {post : Option Value → zI → zJ → zP → Prop} {V : Nat → zI → zJ → zP → Nat → List Value → List Value → Prop} (hV : z_Cl own cc d n1 ini sc ret post V) {n : Nat} {I : zI} {J : zJ} {P : zP} {pc : Nat} {ls r : List Value} {x y : Int32} (hd : decode cc pc = .ok (.ixor, 1)) (k : V n I J P (pc + 1) ls (.int (x ^^^ y) :: r)) : V n I J P pc ls (.int y :: .int x :: r) := hV _ _ _ _ _ _ _ _ _ hd ⟨rfl, x, y, r, rfl, k⟩
theorem r_ishl {own : String} {cc : ByteArray} {d n1 : Nat} {ini : Bool} {sc : Option (Nat × (Nat → Int32))} {ret : Option FieldType} {post : Option Value → zI → zJ → zP → Prop} {V : Nat → zI → zJ → zP → Nat → List Value → List Value → Prop} (hV : z_Cl own cc d n1 ini sc ret post V) {n : Nat} {I : zI} {J : zJ} {P : zP} {pc : Nat} {ls r : List Value} {x y : Int32} (hd : decode cc pc = .ok (.ishl, 1)) (k : V n I J P (pc + 1) ls (.int (x <<< (y &&& 31)) :: r)) : V n I J P pc ls (.int y :: .int x :: r) := hV _ _ _ _ _ _ _ _ _ hd ⟨rfl, x, y, r, rfl, k⟩
theorem r_ishr {own : String} {cc : ByteArray} {d n1 : Nat} {ini : Bool} {sc : Option (Nat × (Nat → Int32))} {ret : Option FieldType} {post : Option Value → zI → zJ → zP → Prop} {V : Nat → zI → zJ → zP → Nat → List Value → List Value → Prop} (hV : z_Cl own cc d n1 ini sc ret post V) {n : Nat} {I : zI} {J : zJ} {P : zP} {pc : Nat} {ls r : List Value} {x y : Int32} (hd : decode cc pc = .ok (.ishr, 1)) (k : V n I J P (pc + 1) ls (.int (x >>> (y &&& 31)) :: r)) : V n I J P pc ls (.int y :: .int x :: r) := hV _ _ _ _ _ _ _ _ _ hd ⟨rfl, x, y, r, rfl, k⟩
theorem r_iushr {own : String} {cc : ByteArray} {d n1 : Nat} {ini : Bool} {sc : Option (Nat × (Nat → Int32))} {ret : Option FieldType} {post : Option Value → zI → zJ → zP → Prop} {V : Nat → zI → zJ → zP → Nat → List Value → List Value → Prop} (hV : z_Cl own cc d n1 ini sc ret post V) {n : Nat} {I : zI} {J : zJ} {P : zP} {pc : Nat} {ls r : List Value} {x y : Int32} (hd : decode cc pc = .ok (.iushr, 1)) (k : V n I J P (pc + 1) ls (.int ((x.toUInt32 >>> (y.toUInt32 &&& Int32.toUInt32 31)).toInt32) :: r)) : V n I J P pc ls (.int y :: .int x :: r) := hV _ _ _ _ _ _ _ _ _ hd ⟨rfl, x, y, r, rfl, k⟩
theorem r_idiv {own : String} {cc : ByteArray} {d n1 : Nat} {ini : Bool} {sc : Option (Nat × (Nat → Int32))} {ret : Option FieldType} {post : Option Value → zI → zJ → zP → Prop} {V : Nat → zI → zJ → zP → Nat → List Value → List Value → Prop} (hV : z_Cl own cc d n1 ini sc ret post V) {n : Nat} {I : zI} {J : zJ} {P : zP} {pc : Nat} {ls r : List Value} {x y : Int32} (hne : ¬ y = 0) (hd : decode cc pc = .ok (.idiv, 1)) (k : V n I J P (pc + 1) ls (.int (x / y) :: r)) : V n I J P pc ls (.int y :: .int x :: r) := hV _ _ _ _ _ _ _ _ _ hd ⟨rfl, x, y, r, rfl, hne, k⟩
theorem r_irem {own : String} {cc : ByteArray} {d n1 : Nat} {ini : Bool} {sc : Option (Nat × (Nat → Int32))} {ret : Option FieldType} {post : Option Value → zI → zJ → zP → Prop} {V : Nat → zI → zJ → zP → Nat → List Value → List Value → Prop} (hV : z_Cl own cc d n1 ini sc ret post V) {n : Nat} {I : zI} {J : zJ} {P : zP} {pc : Nat} {ls r : List Value} {x y : Int32} (hne : ¬ y = 0) (hd : decode cc pc = .ok (.irem, 1)) (k : V n I J P (pc + 1) ls (.int (x - x / y * y) :: r)) : V n I J P pc ls (.int y :: .int x :: r) := hV _ _ _ _ _ _ _ _ _ hd ⟨rfl, x, y, r, rfl, hne, k⟩
theorem r_ladd {own : String} {cc : ByteArray} {d n1 : Nat} {ini : Bool} {sc : Option (Nat × (Nat → Int32))} {ret : Option FieldType} {post : Option Value → zI → zJ → zP → Prop} {V : Nat → zI → zJ → zP → Nat → List Value → List Value → Prop} (hV : z_Cl own cc d n1 ini sc ret post V) {n : Nat} {I : zI} {J : zJ} {P : zP} {pc : Nat} {ls r : List Value} {x y : Int64} (hd : decode cc pc = .ok (.ladd, 1)) (k : V n I J P (pc + 1) ls (.long (x + y) :: r)) : V n I J P pc ls (.long y :: .long x :: r) := hV _ _ _ _ _ _ _ _ _ hd ⟨rfl, x, y, r, rfl, k⟩
theorem r_lsub {own : String} {cc : ByteArray} {d n1 : Nat} {ini : Bool} {sc : Option (Nat × (Nat → Int32))} {ret : Option FieldType} {post : Option Value → zI → zJ → zP → Prop} {V : Nat → zI → zJ → zP → Nat → List Value → List Value → Prop} (hV : z_Cl own cc d n1 ini sc ret post V) {n : Nat} {I : zI} {J : zJ} {P : zP} {pc : Nat} {ls r : List Value} {x y : Int64} (hd : decode cc pc = .ok (.lsub, 1)) (k : V n I J P (pc + 1) ls (.long (x - y) :: r)) : V n I J P pc ls (.long y :: .long x :: r) := hV _ _ _ _ _ _ _ _ _ hd ⟨rfl, x, y, r, rfl, k⟩
theorem r_lmul {own : String} {cc : ByteArray} {d n1 : Nat} {ini : Bool} {sc : Option (Nat × (Nat → Int32))} {ret : Option FieldType} {post : Option Value → zI → zJ → zP → Prop} {V : Nat → zI → zJ → zP → Nat → List Value → List Value → Prop} (hV : z_Cl own cc d n1 ini sc ret post V) {n : Nat} {I : zI} {J : zJ} {P : zP} {pc : Nat} {ls r : List Value} {x y : Int64} (hd : decode cc pc = .ok (.lmul, 1)) (k : V n I J P (pc + 1) ls (.long (x * y) :: r)) : V n I J P pc ls (.long y :: .long x :: r) := hV _ _ _ _ _ _ _ _ _ hd ⟨rfl, x, y, r, rfl, k⟩
theorem r_land {own : String} {cc : ByteArray} {d n1 : Nat} {ini : Bool} {sc : Option (Nat × (Nat → Int32))} {ret : Option FieldType} {post : Option Value → zI → zJ → zP → Prop} {V : Nat → zI → zJ → zP → Nat → List Value → List Value → Prop} (hV : z_Cl own cc d n1 ini sc ret post V) {n : Nat} {I : zI} {J : zJ} {P : zP} {pc : Nat} {ls r : List Value} {x y : Int64} (hd : decode cc pc = .ok (.land, 1)) (k : V n I J P (pc + 1) ls (.long (x &&& y) :: r)) : V n I J P pc ls (.long y :: .long x :: r) := hV _ _ _ _ _ _ _ _ _ hd ⟨rfl, x, y, r, rfl, k⟩
theorem r_lor {own : String} {cc : ByteArray} {d n1 : Nat} {ini : Bool} {sc : Option (Nat × (Nat → Int32))} {ret : Option FieldType} {post : Option Value → zI → zJ → zP → Prop} {V : Nat → zI → zJ → zP → Nat → List Value → List Value → Prop} (hV : z_Cl own cc d n1 ini sc ret post V) {n : Nat} {I : zI} {J : zJ} {P : zP} {pc : Nat} {ls r : List Value} {x y : Int64} (hd : decode cc pc = .ok (.lor, 1)) (k : V n I J P (pc + 1) ls (.long (x ||| y) :: r)) : V n I J P pc ls (.long y :: .long x :: r) := hV _ _ _ _ _ _ _ _ _ hd ⟨rfl, x, y, r, rfl, k⟩
theorem r_lxor {own : String} {cc : ByteArray} {d n1 : Nat} {ini : Bool} {sc : Option (Nat × (Nat → Int32))} {ret : Option FieldType} {post : Option Value → zI → zJ → zP → Prop} {V : Nat → zI → zJ → zP → Nat → List Value → List Value → Prop} (hV : z_Cl own cc d n1 ini sc ret post V) {n : Nat} {I : zI} {J : zJ} {P : zP} {pc : Nat} {ls r : List Value} {x y : Int64} (hd : decode cc pc = .ok (.lxor, 1)) (k : V n I J P (pc + 1) ls (.long (x ^^^ y) :: r)) : V n I J P pc ls (.long y :: .long x :: r) := hV _ _ _ _ _ _ _ _ _ hd ⟨rfl, x, y, r, rfl, k⟩
theorem r_ldiv {own : String} {cc : ByteArray} {d n1 : Nat} {ini : Bool} {sc : Option (Nat × (Nat → Int32))} {ret : Option FieldType} {post : Option Value → zI → zJ → zP → Prop} {V : Nat → zI → zJ → zP → Nat → List Value → List Value → Prop} (hV : z_Cl own cc d n1 ini sc ret post V) {n : Nat} {I : zI} {J : zJ} {P : zP} {pc : Nat} {ls r : List Value} {x y : Int64} (hne : ¬ y = 0) (hd : decode cc pc = .ok (.ldiv, 1)) (k : V n I J P (pc + 1) ls (.long (x / y) :: r)) : V n I J P pc ls (.long y :: .long x :: r) := hV _ _ _ _ _ _ _ _ _ hd ⟨rfl, x, y, r, rfl, hne, k⟩
theorem r_lrem {own : String} {cc : ByteArray} {d n1 : Nat} {ini : Bool} {sc : Option (Nat × (Nat → Int32))} {ret : Option FieldType} {post : Option Value → zI → zJ → zP → Prop} {V : Nat → zI → zJ → zP → Nat → List Value → List Value → Prop} (hV : z_Cl own cc d n1 ini sc ret post V) {n : Nat} {I : zI} {J : zJ} {P : zP} {pc : Nat} {ls r : List Value} {x y : Int64} (hne : ¬ y = 0) (hd : decode cc pc = .ok (.lrem, 1)) (k : V n I J P (pc + 1) ls (.long (x - x / y * y) :: r)) : V n I J P pc ls (.long y :: .long x :: r) := hV _ _ _ _ _ _ _ _ _ hd ⟨rfl, x, y, r, rfl, hne, k⟩
theorem r_lshl {own : String} {cc : ByteArray} {d n1 : Nat} {ini : Bool} {sc : Option (Nat × (Nat → Int32))} {ret : Option FieldType} {post : Option Value → zI → zJ → zP → Prop} {V : Nat → zI → zJ → zP → Nat → List Value → List Value → Prop} (hV : z_Cl own cc d n1 ini sc ret post V) {n : Nat} {I : zI} {J : zJ} {P : zP} {pc : Nat} {ls r : List Value} {x : Int64} {y : Int32} (hd : decode cc pc = .ok (.lshl, 1)) (k : V n I J P (pc + 1) ls (.long (x <<< (y.toInt64 &&& 63)) :: r)) : V n I J P pc ls (.int y :: .long x :: r) := hV _ _ _ _ _ _ _ _ _ hd ⟨rfl, x, y, r, rfl, k⟩
theorem r_lshr {own : String} {cc : ByteArray} {d n1 : Nat} {ini : Bool} {sc : Option (Nat × (Nat → Int32))} {ret : Option FieldType} {post : Option Value → zI → zJ → zP → Prop} {V : Nat → zI → zJ → zP → Nat → List Value → List Value → Prop} (hV : z_Cl own cc d n1 ini sc ret post V) {n : Nat} {I : zI} {J : zJ} {P : zP} {pc : Nat} {ls r : List Value} {x : Int64} {y : Int32} (hd : decode cc pc = .ok (.lshr, 1)) (k : V n I J P (pc + 1) ls (.long (x >>> (y.toInt64 &&& 63)) :: r)) : V n I J P pc ls (.int y :: .long x :: r) := hV _ _ _ _ _ _ _ _ _ hd ⟨rfl, x, y, r, rfl, k⟩
theorem r_lushr {own : String} {cc : ByteArray} {d n1 : Nat} {ini : Bool} {sc : Option (Nat × (Nat → Int32))} {ret : Option FieldType} {post : Option Value → zI → zJ → zP → Prop} {V : Nat → zI → zJ → zP → Nat → List Value → List Value → Prop} (hV : z_Cl own cc d n1 ini sc ret post V) {n : Nat} {I : zI} {J : zJ} {P : zP} {pc : Nat} {ls r : List Value} {x : Int64} {y : Int32} (hd : decode cc pc = .ok (.lushr, 1)) (k : V n I J P (pc + 1) ls (.long ((x.toUInt64 >>> (y.toInt64.toUInt64 &&& Int64.toUInt64 63)).toInt64) :: r)) : V n I J P pc ls (.int y :: .long x :: r) := hV _ _ _ _ _ _ _ _ _ hd ⟨rfl, x, y, r, rfl, k⟩
theorem r_ineg {own : String} {cc : ByteArray} {d n1 : Nat} {ini : Bool} {sc : Option (Nat × (Nat → Int32))} {ret : Option FieldType} {post : Option Value → zI → zJ → zP → Prop} {V : Nat → zI → zJ → zP → Nat → List Value → List Value → Prop} (hV : z_Cl own cc d n1 ini sc ret post V) {n : Nat} {I : zI} {J : zJ} {P : zP} {pc : Nat} {ls r : List Value} {x : Int32} (hd : decode cc pc = .ok (.ineg, 1)) (k : V n I J P (pc + 1) ls (.int (-x) :: r)) : V n I J P pc ls (.int x :: r) := hV _ _ _ _ _ _ _ _ _ hd ⟨rfl, x, r, rfl, k⟩
theorem r_i2l {own : String} {cc : ByteArray} {d n1 : Nat} {ini : Bool} {sc : Option (Nat × (Nat → Int32))} {ret : Option FieldType} {post : Option Value → zI → zJ → zP → Prop} {V : Nat → zI → zJ → zP → Nat → List Value → List Value → Prop} (hV : z_Cl own cc d n1 ini sc ret post V) {n : Nat} {I : zI} {J : zJ} {P : zP} {pc : Nat} {ls r : List Value} {x : Int32} (hd : decode cc pc = .ok (.i2l, 1)) (k : V n I J P (pc + 1) ls (.long x.toInt64 :: r)) : V n I J P pc ls (.int x :: r) := hV _ _ _ _ _ _ _ _ _ hd ⟨rfl, x, r, rfl, k⟩
theorem r_l2i {own : String} {cc : ByteArray} {d n1 : Nat} {ini : Bool} {sc : Option (Nat × (Nat → Int32))} {ret : Option FieldType} {post : Option Value → zI → zJ → zP → Prop} {V : Nat → zI → zJ → zP → Nat → List Value → List Value → Prop} (hV : z_Cl own cc d n1 ini sc ret post V) {n : Nat} {I : zI} {J : zJ} {P : zP} {pc : Nat} {ls r : List Value} {x : Int64} (hd : decode cc pc = .ok (.l2i, 1)) (k : V n I J P (pc + 1) ls (.int x.toInt32 :: r)) : V n I J P pc ls (.long x :: r) := hV _ _ _ _ _ _ _ _ _ hd ⟨rfl, x, r, rfl, k⟩
theorem r_lcmp {own : String} {cc : ByteArray} {d n1 : Nat} {ini : Bool} {sc : Option (Nat × (Nat → Int32))} {ret : Option FieldType} {post : Option Value → zI → zJ → zP → Prop} {V : Nat → zI → zJ → zP → Nat → List Value → List Value → Prop} (hV : z_Cl own cc d n1 ini sc ret post V) {n : Nat} {I : zI} {J : zJ} {P : zP} {pc : Nat} {ls r : List Value} {x y : Int64} (hd : decode cc pc = .ok (.lcmp, 1)) (k : V n I J P (pc + 1) ls (.int (lg_cmp x y) :: r)) : V n I J P pc ls (.long y :: .long x :: r) := hV _ _ _ _ _ _ _ _ _ hd ⟨rfl, x, y, r, rfl, k⟩
theorem r_iconst {own : String} {cc : ByteArray} {d n1 : Nat} {ini : Bool} {sc : Option (Nat × (Nat → Int32))} {ret : Option FieldType} {post : Option Value → zI → zJ → zP → Prop} {V : Nat → zI → zJ → zP → Nat → List Value → List Value → Prop} (hV : z_Cl own cc d n1 ini sc ret post V) {n : Nat} {I : zI} {J : zJ} {P : zP} {pc : Nat} {ls r : List Value} {c : Int} (v : Int32) (hv : Int32.ofInt c = v) (hd : decode cc pc = .ok (.iconst c, 1)) (k : V n I J P (pc + 1) ls (.int v :: r)) : V n I J P pc ls (r) := hV _ _ _ _ _ _ _ _ _ hd ⟨rfl, by rw [hv]; exact k⟩
theorem r_bipush {own : String} {cc : ByteArray} {d n1 : Nat} {ini : Bool} {sc : Option (Nat × (Nat → Int32))} {ret : Option FieldType} {post : Option Value → zI → zJ → zP → Prop} {V : Nat → zI → zJ → zP → Nat → List Value → List Value → Prop} (hV : z_Cl own cc d n1 ini sc ret post V) {n : Nat} {I : zI} {J : zJ} {P : zP} {pc : Nat} {ls r : List Value} {c : Int} (v : Int32) (hv : (Int8.ofInt c).toInt32 = v) (hd : decode cc pc = .ok (.bipush c, 2)) (k : V n I J P (pc + 2) ls (.int v :: r)) : V n I J P pc ls (r) := hV _ _ _ _ _ _ _ _ _ hd ⟨rfl, by rw [hv]; exact k⟩
theorem r_sipush {own : String} {cc : ByteArray} {d n1 : Nat} {ini : Bool} {sc : Option (Nat × (Nat → Int32))} {ret : Option FieldType} {post : Option Value → zI → zJ → zP → Prop} {V : Nat → zI → zJ → zP → Nat → List Value → List Value → Prop} (hV : z_Cl own cc d n1 ini sc ret post V) {n : Nat} {I : zI} {J : zJ} {P : zP} {pc : Nat} {ls r : List Value} {c : Int} (v : Int32) (hv : (Int16.ofInt c).toInt32 = v) (hd : decode cc pc = .ok (.sipush c, 3)) (k : V n I J P (pc + 3) ls (.int v :: r)) : V n I J P pc ls (r) := hV _ _ _ _ _ _ _ _ _ hd ⟨rfl, by rw [hv]; exact k⟩
theorem r_lconst {own : String} {cc : ByteArray} {d n1 : Nat} {ini : Bool} {sc : Option (Nat × (Nat → Int32))} {ret : Option FieldType} {post : Option Value → zI → zJ → zP → Prop} {V : Nat → zI → zJ → zP → Nat → List Value → List Value → Prop} (hV : z_Cl own cc d n1 ini sc ret post V) {n : Nat} {I : zI} {J : zJ} {P : zP} {pc : Nat} {ls r : List Value} {c : Fin 2} (v : Int64) (hv : Int64.ofNat (c : Nat) = v) (hd : decode cc pc = .ok (.lconst c, 1)) (k : V n I J P (pc + 1) ls (.long v :: r)) : V n I J P pc ls (r) := hV _ _ _ _ _ _ _ _ _ hd ⟨rfl, by rw [hv]; exact k⟩
theorem r_ldc {own : String} {cc : ByteArray} {d n1 : Nat} {ini : Bool} {sc : Option (Nat × (Nat → Int32))} {ret : Option FieldType} {post : Option Value → zI → zJ → zP → Prop} {V : Nat → zI → zJ → zP → Nat → List Value → List Value → Prop} (hV : z_Cl own cc d n1 ini sc ret post V) {n : Nat} {I : zI} {J : zJ} {P : zP} {pc : Nat} {ls r : List Value} {i : Nat} {x : Int32} (hc : Cond.constant own i x ∈ z_good) (hd : decode cc pc = .ok (.ldc i, 2)) (k : V n I J P (pc + 2) ls (.int x :: r)) : V n I J P pc ls (r) := hV _ _ _ _ _ _ _ _ _ hd ⟨rfl, x, hc, k⟩
theorem r_ldc_w {own : String} {cc : ByteArray} {d n1 : Nat} {ini : Bool} {sc : Option (Nat × (Nat → Int32))} {ret : Option FieldType} {post : Option Value → zI → zJ → zP → Prop} {V : Nat → zI → zJ → zP → Nat → List Value → List Value → Prop} (hV : z_Cl own cc d n1 ini sc ret post V) {n : Nat} {I : zI} {J : zJ} {P : zP} {pc : Nat} {ls r : List Value} {i : Nat} {x : Int32} (hc : Cond.constant own i x ∈ z_good) (hd : decode cc pc = .ok (.ldc_w i, 3)) (k : V n I J P (pc + 3) ls (.int x :: r)) : V n I J P pc ls (r) := hV _ _ _ _ _ _ _ _ _ hd ⟨rfl, x, hc, k⟩
theorem r_ldc2_w {own : String} {cc : ByteArray} {d n1 : Nat} {ini : Bool} {sc : Option (Nat × (Nat → Int32))} {ret : Option FieldType} {post : Option Value → zI → zJ → zP → Prop} {V : Nat → zI → zJ → zP → Nat → List Value → List Value → Prop} (hV : z_Cl own cc d n1 ini sc ret post V) {n : Nat} {I : zI} {J : zJ} {P : zP} {pc : Nat} {ls r : List Value} {i : Nat} {x : Int64} (hc : Cond.constantLong own i x ∈ z_good) (hd : decode cc pc = .ok (.ldc2_w i, 3)) (k : V n I J P (pc + 3) ls (.long x :: r)) : V n I J P pc ls (r) := hV _ _ _ _ _ _ _ _ _ hd ⟨rfl, x, hc, k⟩
theorem r_iload_n {own : String} {cc : ByteArray} {d n1 : Nat} {ini : Bool} {sc : Option (Nat × (Nat → Int32))} {ret : Option FieldType} {post : Option Value → zI → zJ → zP → Prop} {V : Nat → zI → zJ → zP → Nat → List Value → List Value → Prop} (hV : z_Cl own cc d n1 ini sc ret post V) {n : Nat} {I : zI} {J : zJ} {P : zP} {pc : Nat} {ls r : List Value} {k1 : Fin 4} {x : Int32} (h : ls[(k1 : Nat)]? = some (.int x)) (hd : decode cc pc = .ok (.iload_n k1, 1)) (k : V n I J P (pc + 1) ls (.int x :: r)) : V n I J P pc ls (r) := hV _ _ _ _ _ _ _ _ _ hd ⟨rfl, x, h, k⟩
theorem r_iload {own : String} {cc : ByteArray} {d n1 : Nat} {ini : Bool} {sc : Option (Nat × (Nat → Int32))} {ret : Option FieldType} {post : Option Value → zI → zJ → zP → Prop} {V : Nat → zI → zJ → zP → Nat → List Value → List Value → Prop} (hV : z_Cl own cc d n1 ini sc ret post V) {n : Nat} {I : zI} {J : zJ} {P : zP} {pc : Nat} {ls r : List Value} {k1 : Nat} {x : Int32} (h : ls[k1]? = some (.int x)) (hd : decode cc pc = .ok (.iload k1, 2)) (k : V n I J P (pc + 2) ls (.int x :: r)) : V n I J P pc ls (r) := hV _ _ _ _ _ _ _ _ _ hd ⟨rfl, x, h, k⟩
theorem r_lload_n {own : String} {cc : ByteArray} {d n1 : Nat} {ini : Bool} {sc : Option (Nat × (Nat → Int32))} {ret : Option FieldType} {post : Option Value → zI → zJ → zP → Prop} {V : Nat → zI → zJ → zP → Nat → List Value → List Value → Prop} (hV : z_Cl own cc d n1 ini sc ret post V) {n : Nat} {I : zI} {J : zJ} {P : zP} {pc : Nat} {ls r : List Value} {k1 : Fin 4} {x : Int64} (h : ls[(k1 : Nat)]? = some (.long x)) (hd : decode cc pc = .ok (.lload_n k1, 1)) (k : V n I J P (pc + 1) ls (.long x :: r)) : V n I J P pc ls (r) := hV _ _ _ _ _ _ _ _ _ hd ⟨rfl, x, h, k⟩
theorem r_lload {own : String} {cc : ByteArray} {d n1 : Nat} {ini : Bool} {sc : Option (Nat × (Nat → Int32))} {ret : Option FieldType} {post : Option Value → zI → zJ → zP → Prop} {V : Nat → zI → zJ → zP → Nat → List Value → List Value → Prop} (hV : z_Cl own cc d n1 ini sc ret post V) {n : Nat} {I : zI} {J : zJ} {P : zP} {pc : Nat} {ls r : List Value} {k1 : Nat} {x : Int64} (h : ls[k1]? = some (.long x)) (hd : decode cc pc = .ok (.lload k1, 2)) (k : V n I J P (pc + 2) ls (.long x :: r)) : V n I J P pc ls (r) := hV _ _ _ _ _ _ _ _ _ hd ⟨rfl, x, h, k⟩
theorem r_aload_n {own : String} {cc : ByteArray} {d n1 : Nat} {ini : Bool} {sc : Option (Nat × (Nat → Int32))} {ret : Option FieldType} {post : Option Value → zI → zJ → zP → Prop} {V : Nat → zI → zJ → zP → Nat → List Value → List Value → Prop} (hV : z_Cl own cc d n1 ini sc ret post V) {n : Nat} {I : zI} {J : zJ} {P : zP} {pc : Nat} {ls r : List Value} {k1 : Fin 4} {v : Value} (h : ls[(k1 : Nat)]? = some v) (hv : z_isr v = true) (hd : decode cc pc = .ok (.aload_n k1, 1)) (k : V n I J P (pc + 1) ls (v :: r)) : V n I J P pc ls (r) := hV _ _ _ _ _ _ _ _ _ hd ⟨rfl, v, h, hv, k⟩
theorem r_aload {own : String} {cc : ByteArray} {d n1 : Nat} {ini : Bool} {sc : Option (Nat × (Nat → Int32))} {ret : Option FieldType} {post : Option Value → zI → zJ → zP → Prop} {V : Nat → zI → zJ → zP → Nat → List Value → List Value → Prop} (hV : z_Cl own cc d n1 ini sc ret post V) {n : Nat} {I : zI} {J : zJ} {P : zP} {pc : Nat} {ls r : List Value} {k1 : Nat} {v : Value} (h : ls[k1]? = some v) (hv : z_isr v = true) (hd : decode cc pc = .ok (.aload k1, 2)) (k : V n I J P (pc + 2) ls (v :: r)) : V n I J P pc ls (r) := hV _ _ _ _ _ _ _ _ _ hd ⟨rfl, v, h, hv, k⟩
theorem r_istore_n {own : String} {cc : ByteArray} {d n1 : Nat} {ini : Bool} {sc : Option (Nat × (Nat → Int32))} {ret : Option FieldType} {post : Option Value → zI → zJ → zP → Prop} {V : Nat → zI → zJ → zP → Nat → List Value → List Value → Prop} (hV : z_Cl own cc d n1 ini sc ret post V) {n : Nat} {I : zI} {J : zJ} {P : zP} {pc : Nat} {ls r : List Value} {k1 : Fin 4} {x : Int32} {ls2 : List Value} (hd : decode cc pc = .ok (.istore_n k1, 1)) (hi : (k1 : Nat) < ls.length) (hl : zst1 ls (k1 : Nat) (.int x) = ls2) (k : V n I J P (pc + 1) ls2 r) : V n I J P pc ls (.int x :: r) := hV _ _ _ _ _ _ _ _ _ hd ⟨rfl, x, r, rfl, hi, by rw [hl]; exact k⟩
theorem r_istore {own : String} {cc : ByteArray} {d n1 : Nat} {ini : Bool} {sc : Option (Nat × (Nat → Int32))} {ret : Option FieldType} {post : Option Value → zI → zJ → zP → Prop} {V : Nat → zI → zJ → zP → Nat → List Value → List Value → Prop} (hV : z_Cl own cc d n1 ini sc ret post V) {n : Nat} {I : zI} {J : zJ} {P : zP} {pc : Nat} {ls r : List Value} {k1 : Nat} {x : Int32} {ls2 : List Value} (hd : decode cc pc = .ok (.istore k1, 2)) (hi : k1 < ls.length) (hl : zst1 ls k1 (.int x) = ls2) (k : V n I J P (pc + 2) ls2 r) : V n I J P pc ls (.int x :: r) := hV _ _ _ _ _ _ _ _ _ hd ⟨rfl, x, r, rfl, hi, by rw [hl]; exact k⟩
theorem r_astore_n {own : String} {cc : ByteArray} {d n1 : Nat} {ini : Bool} {sc : Option (Nat × (Nat → Int32))} {ret : Option FieldType} {post : Option Value → zI → zJ → zP → Prop} {V : Nat → zI → zJ → zP → Nat → List Value → List Value → Prop} (hV : z_Cl own cc d n1 ini sc ret post V) {n : Nat} {I : zI} {J : zJ} {P : zP} {pc : Nat} {ls r : List Value} {k1 : Fin 4} {x : Nat} {ls2 : List Value} (hd : decode cc pc = .ok (.astore_n k1, 1)) (hi : (k1 : Nat) < ls.length) (hl : zst1 ls (k1 : Nat) (.ref x) = ls2) (k : V n I J P (pc + 1) ls2 r) : V n I J P pc ls (.ref x :: r) := hV _ _ _ _ _ _ _ _ _ hd ⟨rfl, x, r, rfl, hi, by rw [hl]; exact k⟩
theorem r_astore {own : String} {cc : ByteArray} {d n1 : Nat} {ini : Bool} {sc : Option (Nat × (Nat → Int32))} {ret : Option FieldType} {post : Option Value → zI → zJ → zP → Prop} {V : Nat → zI → zJ → zP → Nat → List Value → List Value → Prop} (hV : z_Cl own cc d n1 ini sc ret post V) {n : Nat} {I : zI} {J : zJ} {P : zP} {pc : Nat} {ls r : List Value} {k1 : Nat} {x : Nat} {ls2 : List Value} (hd : decode cc pc = .ok (.astore k1, 2)) (hi : k1 < ls.length) (hl : zst1 ls k1 (.ref x) = ls2) (k : V n I J P (pc + 2) ls2 r) : V n I J P pc ls (.ref x :: r) := hV _ _ _ _ _ _ _ _ _ hd ⟨rfl, x, r, rfl, hi, by rw [hl]; exact k⟩
theorem r_lstore_n {own : String} {cc : ByteArray} {d n1 : Nat} {ini : Bool} {sc : Option (Nat × (Nat → Int32))} {ret : Option FieldType} {post : Option Value → zI → zJ → zP → Prop} {V : Nat → zI → zJ → zP → Nat → List Value → List Value → Prop} (hV : z_Cl own cc d n1 ini sc ret post V) {n : Nat} {I : zI} {J : zJ} {P : zP} {pc : Nat} {ls r : List Value} {k1 : Fin 4} {x : Int64} {ls2 : List Value} (hd : decode cc pc = .ok (.lstore_n k1, 1)) (hi : (k1 : Nat) + 1 < ls.length) (hl : zst2 ls (k1 : Nat) (.long x) = ls2) (k : V n I J P (pc + 1) ls2 r) : V n I J P pc ls (.long x :: r) := hV _ _ _ _ _ _ _ _ _ hd ⟨rfl, x, r, rfl, hi, by rw [hl]; exact k⟩
theorem r_lstore {own : String} {cc : ByteArray} {d n1 : Nat} {ini : Bool} {sc : Option (Nat × (Nat → Int32))} {ret : Option FieldType} {post : Option Value → zI → zJ → zP → Prop} {V : Nat → zI → zJ → zP → Nat → List Value → List Value → Prop} (hV : z_Cl own cc d n1 ini sc ret post V) {n : Nat} {I : zI} {J : zJ} {P : zP} {pc : Nat} {ls r : List Value} {k1 : Nat} {x : Int64} {ls2 : List Value} (hd : decode cc pc = .ok (.lstore k1, 2)) (hi : k1 + 1 < ls.length) (hl : zst2 ls k1 (.long x) = ls2) (k : V n I J P (pc + 2) ls2 r) : V n I J P pc ls (.long x :: r) := hV _ _ _ _ _ _ _ _ _ hd ⟨rfl, x, r, rfl, hi, by rw [hl]; exact k⟩
theorem r_iinc {own : String} {cc : ByteArray} {d n1 : Nat} {ini : Bool} {sc : Option (Nat × (Nat → Int32))} {ret : Option FieldType} {post : Option Value → zI → zJ → zP → Prop} {V : Nat → zI → zJ → zP → Nat → List Value → List Value → Prop} (hV : z_Cl own cc d n1 ini sc ret post V) {n : Nat} {I : zI} {J : zJ} {P : zP} {pc : Nat} {ls r : List Value} {k1 : Nat} {cn : Int} {x : Int32} {ls2 : List Value} (c : Int32) (hd : decode cc pc = .ok (.iinc k1 cn, 3)) (hc : Int32.ofInt cn = c) (h : ls[k1]? = some (.int x)) (hl : zst1 ls k1 (.int (x + c)) = ls2) (k : V n I J P (pc + 3) ls2 r) : V n I J P pc ls r := hV _ _ _ _ _ _ _ _ _ hd ⟨rfl, x, h, by rw [hc, hl]; exact k⟩
theorem r_dup {own : String} {cc : ByteArray} {d n1 : Nat} {ini : Bool} {sc : Option (Nat × (Nat → Int32))} {ret : Option FieldType} {post : Option Value → zI → zJ → zP → Prop} {V : Nat → zI → zJ → zP → Nat → List Value → List Value → Prop} (hV : z_Cl own cc d n1 ini sc ret post V) {n : Nat} {I : zI} {J : zJ} {P : zP} {pc : Nat} {ls r : List Value} {v : Value} (h : v.category = 1) (hd : decode cc pc = .ok (.dup, 1)) (k : V n I J P (pc + 1) ls (v :: v :: r)) : V n I J P pc ls (v :: r) := hV _ _ _ _ _ _ _ _ _ hd ⟨rfl, v, r, rfl, h, k⟩
theorem r_dup2 {own : String} {cc : ByteArray} {d n1 : Nat} {ini : Bool} {sc : Option (Nat × (Nat → Int32))} {ret : Option FieldType} {post : Option Value → zI → zJ → zP → Prop} {V : Nat → zI → zJ → zP → Nat → List Value → List Value → Prop} (hV : z_Cl own cc d n1 ini sc ret post V) {n : Nat} {I : zI} {J : zJ} {P : zP} {pc : Nat} {ls r : List Value} {v u : Value} (h : v.category = 1) (h2 : u.category = 1) (hd : decode cc pc = .ok (.dup2, 1)) (k : V n I J P (pc + 1) ls (v :: u :: v :: u :: r)) : V n I J P pc ls (v :: u :: r) := hV _ _ _ _ _ _ _ _ _ hd ⟨rfl, v, u, r, rfl, h, h2, k⟩
theorem r_goto {own : String} {cc : ByteArray} {d n1 : Nat} {ini : Bool} {sc : Option (Nat × (Nat → Int32))} {ret : Option FieldType} {post : Option Value → zI → zJ → zP → Prop} {V : Nat → zI → zJ → zP → Nat → List Value → List Value → Prop} (hV : z_Cl own cc d n1 ini sc ret post V) {n : Nat} {I : zI} {J : zJ} {P : zP} {pc : Nat} {ls r : List Value} {o : Int} (t : Nat) (hd : decode cc pc = .ok (.goto o, 3)) (ht : (pc : Int) + o = (t : Int)) (k : V n I J P t ls r) : V n I J P pc ls r := hV _ _ _ _ _ _ _ _ _ hd ⟨rfl, t, ht, k⟩
theorem r_icmp_eq {own : String} {cc : ByteArray} {d n1 : Nat} {ini : Bool} {sc : Option (Nat × (Nat → Int32))} {ret : Option FieldType} {post : Option Value → zI → zJ → zP → Prop} {V : Nat → zI → zJ → zP → Nat → List Value → List Value → Prop} (hV : z_Cl own cc d n1 ini sc ret post V) {n : Nat} {I : zI} {J : zJ} {P : zP} {pc : Nat} {ls r : List Value} {o : Int} (t : Nat) {x y : Int32} (hd : decode cc pc = .ok (.if_icmp .eq o, 3)) (ht : (pc : Int) + o = (t : Int)) (kt : x = y → V n I J P t ls r) (kf : ¬ x = y → V n I J P (pc + 3) ls r) : V n I J P pc ls (.int y :: .int x :: r) := hV _ _ _ _ _ _ _ _ _ hd ⟨rfl, x, y, r, t, rfl, ht, kt, kf⟩
theorem r_if_eq {own : String} {cc : ByteArray} {d n1 : Nat} {ini : Bool} {sc : Option (Nat × (Nat → Int32))} {ret : Option FieldType} {post : Option Value → zI → zJ → zP → Prop} {V : Nat → zI → zJ → zP → Nat → List Value → List Value → Prop} (hV : z_Cl own cc d n1 ini sc ret post V) {n : Nat} {I : zI} {J : zJ} {P : zP} {pc : Nat} {ls r : List Value} {o : Int} (t : Nat) {x : Int32} (hd : decode cc pc = .ok (.ifCond .eq o, 3)) (ht : (pc : Int) + o = (t : Int)) (kt : x = 0 → V n I J P t ls r) (kf : ¬ x = 0 → V n I J P (pc + 3) ls r) : V n I J P pc ls (.int x :: r) := hV _ _ _ _ _ _ _ _ _ hd ⟨rfl, x, r, t, rfl, ht, kt, kf⟩
theorem r_icmp_ne {own : String} {cc : ByteArray} {d n1 : Nat} {ini : Bool} {sc : Option (Nat × (Nat → Int32))} {ret : Option FieldType} {post : Option Value → zI → zJ → zP → Prop} {V : Nat → zI → zJ → zP → Nat → List Value → List Value → Prop} (hV : z_Cl own cc d n1 ini sc ret post V) {n : Nat} {I : zI} {J : zJ} {P : zP} {pc : Nat} {ls r : List Value} {o : Int} (t : Nat) {x y : Int32} (hd : decode cc pc = .ok (.if_icmp .ne o, 3)) (ht : (pc : Int) + o = (t : Int)) (kt : ¬ x = y → V n I J P t ls r) (kf : x = y → V n I J P (pc + 3) ls r) : V n I J P pc ls (.int y :: .int x :: r) := hV _ _ _ _ _ _ _ _ _ hd ⟨rfl, x, y, r, t, rfl, ht, kt, (fun h => kf (Classical.not_not.mp h))⟩
theorem r_if_ne {own : String} {cc : ByteArray} {d n1 : Nat} {ini : Bool} {sc : Option (Nat × (Nat → Int32))} {ret : Option FieldType} {post : Option Value → zI → zJ → zP → Prop} {V : Nat → zI → zJ → zP → Nat → List Value → List Value → Prop} (hV : z_Cl own cc d n1 ini sc ret post V) {n : Nat} {I : zI} {J : zJ} {P : zP} {pc : Nat} {ls r : List Value} {o : Int} (t : Nat) {x : Int32} (hd : decode cc pc = .ok (.ifCond .ne o, 3)) (ht : (pc : Int) + o = (t : Int)) (kt : ¬ x = 0 → V n I J P t ls r) (kf : x = 0 → V n I J P (pc + 3) ls r) : V n I J P pc ls (.int x :: r) := hV _ _ _ _ _ _ _ _ _ hd ⟨rfl, x, r, t, rfl, ht, kt, (fun h => kf (Classical.not_not.mp h))⟩
theorem r_icmp_lt {own : String} {cc : ByteArray} {d n1 : Nat} {ini : Bool} {sc : Option (Nat × (Nat → Int32))} {ret : Option FieldType} {post : Option Value → zI → zJ → zP → Prop} {V : Nat → zI → zJ → zP → Nat → List Value → List Value → Prop} (hV : z_Cl own cc d n1 ini sc ret post V) {n : Nat} {I : zI} {J : zJ} {P : zP} {pc : Nat} {ls r : List Value} {o : Int} (t : Nat) {x y : Int32} (hd : decode cc pc = .ok (.if_icmp .lt o, 3)) (ht : (pc : Int) + o = (t : Int)) (kt : x < y → V n I J P t ls r) (kf : ¬ x < y → V n I J P (pc + 3) ls r) : V n I J P pc ls (.int y :: .int x :: r) := hV _ _ _ _ _ _ _ _ _ hd ⟨rfl, x, y, r, t, rfl, ht, kt, kf⟩
theorem r_if_lt {own : String} {cc : ByteArray} {d n1 : Nat} {ini : Bool} {sc : Option (Nat × (Nat → Int32))} {ret : Option FieldType} {post : Option Value → zI → zJ → zP → Prop} {V : Nat → zI → zJ → zP → Nat → List Value → List Value → Prop} (hV : z_Cl own cc d n1 ini sc ret post V) {n : Nat} {I : zI} {J : zJ} {P : zP} {pc : Nat} {ls r : List Value} {o : Int} (t : Nat) {x : Int32} (hd : decode cc pc = .ok (.ifCond .lt o, 3)) (ht : (pc : Int) + o = (t : Int)) (kt : x < 0 → V n I J P t ls r) (kf : ¬ x < 0 → V n I J P (pc + 3) ls r) : V n I J P pc ls (.int x :: r) := hV _ _ _ _ _ _ _ _ _ hd ⟨rfl, x, r, t, rfl, ht, kt, kf⟩
theorem r_icmp_ge {own : String} {cc : ByteArray} {d n1 : Nat} {ini : Bool} {sc : Option (Nat × (Nat → Int32))} {ret : Option FieldType} {post : Option Value → zI → zJ → zP → Prop} {V : Nat → zI → zJ → zP → Nat → List Value → List Value → Prop} (hV : z_Cl own cc d n1 ini sc ret post V) {n : Nat} {I : zI} {J : zJ} {P : zP} {pc : Nat} {ls r : List Value} {o : Int} (t : Nat) {x y : Int32} (hd : decode cc pc = .ok (.if_icmp .ge o, 3)) (ht : (pc : Int) + o = (t : Int)) (kt : y ≤ x → V n I J P t ls r) (kf : ¬ y ≤ x → V n I J P (pc + 3) ls r) : V n I J P pc ls (.int y :: .int x :: r) := hV _ _ _ _ _ _ _ _ _ hd ⟨rfl, x, y, r, t, rfl, ht, kt, kf⟩
theorem r_if_ge {own : String} {cc : ByteArray} {d n1 : Nat} {ini : Bool} {sc : Option (Nat × (Nat → Int32))} {ret : Option FieldType} {post : Option Value → zI → zJ → zP → Prop} {V : Nat → zI → zJ → zP → Nat → List Value → List Value → Prop} (hV : z_Cl own cc d n1 ini sc ret post V) {n : Nat} {I : zI} {J : zJ} {P : zP} {pc : Nat} {ls r : List Value} {o : Int} (t : Nat) {x : Int32} (hd : decode cc pc = .ok (.ifCond .ge o, 3)) (ht : (pc : Int) + o = (t : Int)) (kt : 0 ≤ x → V n I J P t ls r) (kf : ¬ 0 ≤ x → V n I J P (pc + 3) ls r) : V n I J P pc ls (.int x :: r) := hV _ _ _ _ _ _ _ _ _ hd ⟨rfl, x, r, t, rfl, ht, kt, kf⟩
theorem r_icmp_gt {own : String} {cc : ByteArray} {d n1 : Nat} {ini : Bool} {sc : Option (Nat × (Nat → Int32))} {ret : Option FieldType} {post : Option Value → zI → zJ → zP → Prop} {V : Nat → zI → zJ → zP → Nat → List Value → List Value → Prop} (hV : z_Cl own cc d n1 ini sc ret post V) {n : Nat} {I : zI} {J : zJ} {P : zP} {pc : Nat} {ls r : List Value} {o : Int} (t : Nat) {x y : Int32} (hd : decode cc pc = .ok (.if_icmp .gt o, 3)) (ht : (pc : Int) + o = (t : Int)) (kt : y < x → V n I J P t ls r) (kf : ¬ y < x → V n I J P (pc + 3) ls r) : V n I J P pc ls (.int y :: .int x :: r) := hV _ _ _ _ _ _ _ _ _ hd ⟨rfl, x, y, r, t, rfl, ht, kt, kf⟩
theorem r_if_gt {own : String} {cc : ByteArray} {d n1 : Nat} {ini : Bool} {sc : Option (Nat × (Nat → Int32))} {ret : Option FieldType} {post : Option Value → zI → zJ → zP → Prop} {V : Nat → zI → zJ → zP → Nat → List Value → List Value → Prop} (hV : z_Cl own cc d n1 ini sc ret post V) {n : Nat} {I : zI} {J : zJ} {P : zP} {pc : Nat} {ls r : List Value} {o : Int} (t : Nat) {x : Int32} (hd : decode cc pc = .ok (.ifCond .gt o, 3)) (ht : (pc : Int) + o = (t : Int)) (kt : 0 < x → V n I J P t ls r) (kf : ¬ 0 < x → V n I J P (pc + 3) ls r) : V n I J P pc ls (.int x :: r) := hV _ _ _ _ _ _ _ _ _ hd ⟨rfl, x, r, t, rfl, ht, kt, kf⟩
theorem r_icmp_le {own : String} {cc : ByteArray} {d n1 : Nat} {ini : Bool} {sc : Option (Nat × (Nat → Int32))} {ret : Option FieldType} {post : Option Value → zI → zJ → zP → Prop} {V : Nat → zI → zJ → zP → Nat → List Value → List Value → Prop} (hV : z_Cl own cc d n1 ini sc ret post V) {n : Nat} {I : zI} {J : zJ} {P : zP} {pc : Nat} {ls r : List Value} {o : Int} (t : Nat) {x y : Int32} (hd : decode cc pc = .ok (.if_icmp .le o, 3)) (ht : (pc : Int) + o = (t : Int)) (kt : x ≤ y → V n I J P t ls r) (kf : ¬ x ≤ y → V n I J P (pc + 3) ls r) : V n I J P pc ls (.int y :: .int x :: r) := hV _ _ _ _ _ _ _ _ _ hd ⟨rfl, x, y, r, t, rfl, ht, kt, kf⟩
theorem r_if_le {own : String} {cc : ByteArray} {d n1 : Nat} {ini : Bool} {sc : Option (Nat × (Nat → Int32))} {ret : Option FieldType} {post : Option Value → zI → zJ → zP → Prop} {V : Nat → zI → zJ → zP → Nat → List Value → List Value → Prop} (hV : z_Cl own cc d n1 ini sc ret post V) {n : Nat} {I : zI} {J : zJ} {P : zP} {pc : Nat} {ls r : List Value} {o : Int} (t : Nat) {x : Int32} (hd : decode cc pc = .ok (.ifCond .le o, 3)) (ht : (pc : Int) + o = (t : Int)) (kt : x ≤ 0 → V n I J P t ls r) (kf : ¬ x ≤ 0 → V n I J P (pc + 3) ls r) : V n I J P pc ls (.int x :: r) := hV _ _ _ _ _ _ _ _ _ hd ⟨rfl, x, r, t, rfl, ht, kt, kf⟩
theorem r_ifnonnull {own : String} {cc : ByteArray} {d n1 : Nat} {ini : Bool} {sc : Option (Nat × (Nat → Int32))} {ret : Option FieldType} {post : Option Value → zI → zJ → zP → Prop} {V : Nat → zI → zJ → zP → Nat → List Value → List Value → Prop} (hV : z_Cl own cc d n1 ini sc ret post V) {n : Nat} {I : zI} {J : zJ} {P : zP} {pc : Nat} {ls r : List Value} {o : Int} (t : Nat) {v : Value} (hd : decode cc pc = .ok (.ifnonnull o, 3)) (h : z_isr v = true) (ht : (pc : Int) + o = (t : Int)) (k : V n I J P t ls r) : V n I J P pc ls (v :: r) := hV _ _ _ _ _ _ _ _ _ hd ⟨rfl, v, r, t, rfl, h, ht, k⟩
theorem r_tableswitch {own : String} {cc : ByteArray} {d n1 : Nat} {ini : Bool} {sc : Option (Nat × (Nat → Int32))} {ret : Option FieldType} {post : Option Value → zI → zJ → zP → Prop} {V : Nat → zI → zJ → zP → Nat → List Value → List Value → Prop} (hV : z_Cl own cc d n1 ini sc ret post V) {n : Nat} {I : zI} {J : zJ} {P : zP} {pc : Nat} {ls r : List Value} {df lo hi : Int} {offs : Array Int} {len : Nat} {x : Int32} (hd : decode cc pc = .ok (.tableswitch df lo hi offs, len)) (k1 : (x.toInt < lo ∨ hi < x.toInt) → ∃ t : Nat, (pc : Int) + df = (t : Int) ∧ V n I J P t ls r) (k2 : ¬ x.toInt < lo → ¬ hi < x.toInt → ∃ (o : Int) (t : Nat), offs[(x.toInt - lo).toNat]? = some o ∧ (pc : Int) + o = (t : Int) ∧ V n I J P t ls r) : V n I J P pc ls (.int x :: r) := hV _ _ _ _ _ _ _ _ _ hd ⟨x, r, rfl, k1, k2⟩
theorem r_iaload {own : String} {cc : ByteArray} {d n1 : Nat} {ini : Bool} {sc : Option (Nat × (Nat → Int32))} {ret : Option FieldType} {post : Option Value → zI → zJ → zP → Prop} {V : Nat → zI → zJ → zP → Nat → List Value → List Value → Prop} (hV : z_Cl own cc d n1 ini sc ret post V) {n : Nat} {I : zI} {J : zJ} {P : zP} {pc : Nat} {ls r : List Value} {q N : Nat} {i : Int32} (hq : q < n) (hs : zSH q = .inr (.int, N)) (hi : vp_in i N) (hd : decode cc pc = .ok (.iaload, 1)) (k : V n I J P (pc + 1) ls (.int (I q i.toNatClampNeg) :: r)) : V n I J P pc ls (.int i :: .ref q :: r) := hV _ _ _ _ _ _ _ _ _ hd ⟨rfl, Or.inl ⟨q, i, r, N, rfl, hq, hs, hi, k⟩⟩
theorem r_saload {own : String} {cc : ByteArray} {d n1 : Nat} {ini : Bool} {sc : Option (Nat × (Nat → Int32))} {ret : Option FieldType} {post : Option Value → zI → zJ → zP → Prop} {V : Nat → zI → zJ → zP → Nat → List Value → List Value → Prop} (hV : z_Cl own cc d n1 ini sc ret post V) {n : Nat} {I : zI} {J : zJ} {P : zP} {pc : Nat} {ls r : List Value} {f : UInt32} {i : Int32} {L : Nat} {xs : Nat → Int32} (hs : sc = some (L, xs)) (hi : vp_in i L) (hd : decode cc pc = .ok (.iaload, 1)) (k : V n I J P (pc + 1) ls (.int (xs i.toNatClampNeg) :: r)) : V n I J P pc ls (.int i :: .float f :: r) := hV _ _ _ _ _ _ _ _ _ hd ⟨rfl, Or.inr ⟨f, i, r, L, xs, rfl, hs, hi, k⟩⟩
theorem r_slen {own : String} {cc : ByteArray} {d n1 : Nat} {ini : Bool} {sc : Option (Nat × (Nat → Int32))} {ret : Option FieldType} {post : Option Value → zI → zJ → zP → Prop} {V : Nat → zI → zJ → zP → Nat → List Value → List Value → Prop} (hV : z_Cl own cc d n1 ini sc ret post V) {n : Nat} {I : zI} {J : zJ} {P : zP} {pc : Nat} {ls r : List Value} {f : UInt32} {L : Nat} {xs : Nat → Int32} (hs : sc = some (L, xs)) (hd : decode cc pc = .ok (.arraylength, 1)) (k : V n I J P (pc + 1) ls (.int (Int32.ofNat L) :: r)) : V n I J P pc ls (.float f :: r) := hV _ _ _ _ _ _ _ _ _ hd ⟨rfl, f, r, L, xs, rfl, hs, k⟩
theorem r_baload {own : String} {cc : ByteArray} {d n1 : Nat} {ini : Bool} {sc : Option (Nat × (Nat → Int32))} {ret : Option FieldType} {post : Option Value → zI → zJ → zP → Prop} {V : Nat → zI → zJ → zP → Nat → List Value → List Value → Prop} (hV : z_Cl own cc d n1 ini sc ret post V) {n : Nat} {I : zI} {J : zJ} {P : zP} {pc : Nat} {ls r : List Value} {q N : Nat} {i : Int32} (hq : q < n) (hs : zSH q = .inr (.boolean, N)) (hi : vp_in i N) (hd : decode cc pc = .ok (.baload, 1)) (k : V n I J P (pc + 1) ls (.int (I q i.toNatClampNeg) :: r)) : V n I J P pc ls (.int i :: .ref q :: r) := hV _ _ _ _ _ _ _ _ _ hd ⟨rfl, q, i, r, N, rfl, hq, hs, hi, k⟩
theorem r_laload {own : String} {cc : ByteArray} {d n1 : Nat} {ini : Bool} {sc : Option (Nat × (Nat → Int32))} {ret : Option FieldType} {post : Option Value → zI → zJ → zP → Prop} {V : Nat → zI → zJ → zP → Nat → List Value → List Value → Prop} (hV : z_Cl own cc d n1 ini sc ret post V) {n : Nat} {I : zI} {J : zJ} {P : zP} {pc : Nat} {ls r : List Value} {q N : Nat} {i : Int32} (hq : q < n) (hs : zSH q = .inr (.long, N)) (hi : vp_in i N) (hd : decode cc pc = .ok (.laload, 1)) (k : V n I J P (pc + 1) ls (.long (J q i.toNatClampNeg) :: r)) : V n I J P pc ls (.int i :: .ref q :: r) := hV _ _ _ _ _ _ _ _ _ hd ⟨rfl, q, i, r, N, rfl, hq, hs, hi, k⟩
theorem r_aaload {own : String} {cc : ByteArray} {d n1 : Nat} {ini : Bool} {sc : Option (Nat × (Nat → Int32))} {ret : Option FieldType} {post : Option Value → zI → zJ → zP → Prop} {V : Nat → zI → zJ → zP → Nat → List Value → List Value → Prop} (hV : z_Cl own cc d n1 ini sc ret post V) {n : Nat} {I : zI} {J : zJ} {P : zP} {pc : Nat} {ls r : List Value} {q N v : Nat} {i : Int32} (hd : decode cc pc = .ok (.aaload, 1)) (hq : q < n) (hs : zSH q = .inr (zStd, N)) (hi : vp_in i N) (hp : P q i.toNatClampNeg = some v) (k : V n I J P (pc + 1) ls (.ref v :: r)) : V n I J P pc ls (.int i :: .ref q :: r) := hV _ _ _ _ _ _ _ _ _ hd ⟨rfl, q, i, r, N, rfl, hq, hs, hi, by rw [hp]; exact k⟩
theorem r_iastore {own : String} {cc : ByteArray} {d n1 : Nat} {ini : Bool} {sc : Option (Nat × (Nat → Int32))} {ret : Option FieldType} {post : Option Value → zI → zJ → zP → Prop} {V : Nat → zI → zJ → zP → Nat → List Value → List Value → Prop} (hV : z_Cl own cc d n1 ini sc ret post V) {n : Nat} {I : zI} {J : zJ} {P : zP} {pc : Nat} {ls r : List Value} {q N : Nat} {i x : Int32} (hq : q < n) (hs : zSH q = .inr (.int, N)) (hi : vp_in i N) (hd : decode cc pc = .ok (.iastore, 1)) (k : V n (zu I q (zu (I q) i.toNatClampNeg x)) J P (pc + 1) ls r) : V n I J P pc ls (.int x :: .int i :: .ref q :: r) := hV _ _ _ _ _ _ _ _ _ hd ⟨rfl, q, i, x, r, N, rfl, hq, hs, hi, k⟩
theorem r_bastore {own : String} {cc : ByteArray} {d n1 : Nat} {ini : Bool} {sc : Option (Nat × (Nat → Int32))} {ret : Option FieldType} {post : Option Value → zI → zJ → zP → Prop} {V : Nat → zI → zJ → zP → Nat → List Value → List Value → Prop} (hV : z_Cl own cc d n1 ini sc ret post V) {n : Nat} {I : zI} {J : zJ} {P : zP} {pc : Nat} {ls r : List Value} {q N : Nat} {i x : Int32} (hx : vp_nar .boolean x = x) (hq : q < n) (hs : zSH q = .inr (.boolean, N)) (hi : vp_in i N) (hd : decode cc pc = .ok (.bastore, 1)) (k : V n (zu I q (zu (I q) i.toNatClampNeg x)) J P (pc + 1) ls r) : V n I J P pc ls (.int x :: .int i :: .ref q :: r) := hV _ _ _ _ _ _ _ _ _ hd ⟨rfl, q, i, x, r, N, rfl, hq, hs, hi, by rw [hx]; exact k⟩
theorem r_lastore {own : String} {cc : ByteArray} {d n1 : Nat} {ini : Bool} {sc : Option (Nat × (Nat → Int32))} {ret : Option FieldType} {post : Option Value → zI → zJ → zP → Prop} {V : Nat → zI → zJ → zP → Nat → List Value → List Value → Prop} (hV : z_Cl own cc d n1 ini sc ret post V) {n : Nat} {I : zI} {J : zJ} {P : zP} {pc : Nat} {ls r : List Value} {q N : Nat} {i : Int32} {x : Int64} (hq : q < n) (hs : zSH q = .inr (.long, N)) (hi : vp_in i N) (hd : decode cc pc = .ok (.lastore, 1)) (k : V n I (zu J q (zu (J q) i.toNatClampNeg x)) P (pc + 1) ls r) : V n I J P pc ls (.long x :: .int i :: .ref q :: r) := hV _ _ _ _ _ _ _ _ _ hd ⟨rfl, q, i, x, r, N, rfl, hq, hs, hi, k⟩
theorem r_aastore {own : String} {cc : ByteArray} {d n1 : Nat} {ini : Bool} {sc : Option (Nat × (Nat → Int32))} {ret : Option FieldType} {post : Option Value → zI → zJ → zP → Prop} {V : Nat → zI → zJ → zP → Nat → List Value → List Value → Prop} (hV : z_Cl own cc d n1 ini sc ret post V) {n : Nat} {I : zI} {J : zJ} {P : zP} {pc : Nat} {ls r : List Value} {q v N : Nat} {i : Int32} (hq : q < n) (hv : v < n) (hs : zSH q = .inr (zStd, N)) (hsv : zSH v = .inl 7) (hi : vp_in i N) (hd : decode cc pc = .ok (.aastore, 1)) (k : V n I J (zu P q (zu (P q) i.toNatClampNeg (some v))) (pc + 1) ls r) : V n I J P pc ls (.ref v :: .int i :: .ref q :: r) := hV _ _ _ _ _ _ _ _ _ hd ⟨rfl, q, v, i, r, N, rfl, hq, hv, hs, hsv, hi, k⟩
def z_tI : FieldType → Bool
  | .object _ => false
  | .array _ => false
  | _ => true
theorem z_fvI {P : zP} {I : zI} {ci o k : Nat} (h : z_tI (zty ci k) = true) : z_fv P I ci o k = .int (I o k) := by
  unfold z_fv
  generalize zty ci k = t at h ⊢
  cases t <;> first | rfl | cases h
theorem z_fvR {P : zP} {I : zI} {ci o k q : Nat} (h : z_tI (zty ci k) = false) (hp : P o k = some q) : z_fv P I ci o k = .ref q := by
  unfold z_fv
  generalize zty ci k = t at h ⊢
  cases t <;> first | (simp [hp]; done) | cases h
/-- a field's link: own class's pool place; class and field; whether it holds a number; whether a putfield may -/
def z_FL (own : String) (i ci k : Nat) (num : Bool) : Prop := z_fl own i ci k ∧ z_tI (zty ci k) = num
theorem z_okI_int {ci k : Nat} (h : zty ci k = .int) (x : Int32) : z_okI ci k x := by
  unfold z_okI; rw [h]; exact ⟨rfl, rfl, (fun C h => by cases h), (fun t h => by cases h)⟩
theorem z_okI_b0 {ci k : Nat} (h : zty ci k = .boolean) : z_okI ci k 0 := by
  unfold z_okI; rw [h]; exact ⟨by decide, by decide, (fun C h => by cases h), (fun t h => by cases h)⟩
theorem z_okI_b1 {ci k : Nat} (h : zty ci k = .boolean) : z_okI ci k 1 := by
  unfold z_okI; rw [h]; exact ⟨by decide, by decide, (fun C h => by cases h), (fun t h => by cases h)⟩
theorem z_okR_of {ci k : Nat} (h : z_tI (zty ci k) = false) : z_okR ci k := by
  unfold z_okR
  generalize zty ci k = t at h ⊢
  cases t <;> first | exact Or.inl ⟨_, rfl⟩ | exact Or.inr ⟨_, rfl⟩ | cases h
theorem r_getI {own : String} {cc : ByteArray} {d n1 : Nat} {ini : Bool} {sc : Option (Nat × (Nat → Int32))} {ret : Option FieldType} {post : Option Value → zI → zJ → zP → Prop} {V : Nat → zI → zJ → zP → Nat → List Value → List Value → Prop} (hV : z_Cl own cc d n1 ini sc ret post V) {n : Nat} {I : zI} {J : zJ} {P : zP} {pc : Nat} {ls r : List Value} {i o ci k1 : Nat} {x : Int32} (hd : decode cc pc = .ok (.getfield i, 3)) (hf : z_FL own i ci k1 true) (ho : o < n) (hs : zSH o = .inl ci) (hx : I o k1 = x) (k : V n I J P (pc + 3) ls (.int x :: r)) : V n I J P pc ls (.ref o :: r) := hV _ _ _ _ _ _ _ _ _ hd ⟨rfl, o, ci, k1, r, rfl, hf.1, ho, hs, by rw [z_fvI hf.2, hx]; exact k⟩
theorem r_getR {own : String} {cc : ByteArray} {d n1 : Nat} {ini : Bool} {sc : Option (Nat × (Nat → Int32))} {ret : Option FieldType} {post : Option Value → zI → zJ → zP → Prop} {V : Nat → zI → zJ → zP → Nat → List Value → List Value → Prop} (hV : z_Cl own cc d n1 ini sc ret post V) {n : Nat} {I : zI} {J : zJ} {P : zP} {pc : Nat} {ls r : List Value} {i o ci k1 q : Nat} (hd : decode cc pc = .ok (.getfield i, 3)) (hf : z_FL own i ci k1 false) (ho : o < n) (hs : zSH o = .inl ci) (hp : P o k1 = some q) (k : V n I J P (pc + 3) ls (.ref q :: r)) : V n I J P pc ls (.ref o :: r) := hV _ _ _ _ _ _ _ _ _ hd ⟨rfl, o, ci, k1, r, rfl, hf.1, ho, hs, by rw [z_fvR hf.2 hp]; exact k⟩
theorem r_putI {own : String} {cc : ByteArray} {d n1 : Nat} {ini : Bool} {sc : Option (Nat × (Nat → Int32))} {ret : Option FieldType} {post : Option Value → zI → zJ → zP → Prop} {V : Nat → zI → zJ → zP → Nat → List Value → List Value → Prop} (hV : z_Cl own cc d n1 ini sc ret post V) {n : Nat} {I : zI} {J : zJ} {P : zP} {pc : Nat} {ls r : List Value} {i o ci k1 : Nat} {x : Int32} (hd : decode cc pc = .ok (.putfield i, 3)) (hf : z_FL own i ci k1 true) (hpf : z_pf own ini i ci k1) (hok : z_okI ci k1 x) (ho : o < n) (hs : zSH o = .inl ci) (k : V n (zu I o (zu (I o) k1 x)) J P (pc + 3) ls r) : V n I J P pc ls (.int x :: .ref o :: r) := hV _ _ _ _ _ _ _ _ _ hd ⟨rfl, o, ci, k1, r, hf.1, hpf, ho, hs, Or.inl ⟨x, rfl, hok, k⟩⟩
theorem r_putR {own : String} {cc : ByteArray} {d n1 : Nat} {ini : Bool} {sc : Option (Nat × (Nat → Int32))} {ret : Option FieldType} {post : Option Value → zI → zJ → zP → Prop} {V : Nat → zI → zJ → zP → Nat → List Value → List Value → Prop} (hV : z_Cl own cc d n1 ini sc ret post V) {n : Nat} {I : zI} {J : zJ} {P : zP} {pc : Nat} {ls r : List Value} {i o ci k1 q : Nat} (hd : decode cc pc = .ok (.putfield i, 3)) (hf : z_FL own i ci k1 false) (hpf : z_pf own ini i ci k1) (ho : o < n) (hs : zSH o = .inl ci) (k : V n I J (zu P o (zu (P o) k1 (some q))) (pc + 3) ls r) : V n I J P pc ls (.ref q :: .ref o :: r) := hV _ _ _ _ _ _ _ _ _ hd ⟨rfl, o, ci, k1, r, hf.1, hpf, ho, hs, Or.inr ⟨q, rfl, z_okR_of hf.2, k⟩⟩
theorem r_new {own : String} {cc : ByteArray} {d n1 : Nat} {ini : Bool} {sc : Option (Nat × (Nat → Int32))} {ret : Option FieldType} {post : Option Value → zI → zJ → zP → Prop} {V : Nat → zI → zJ → zP → Nat → List Value → List Value → Prop} (hV : z_Cl own cc d n1 ini sc ret post V) {n : Nat} {I : zI} {J : zJ} {P : zP} {pc : Nat} {ls r : List Value} {i ci : Nat} (hd : decode cc pc = .ok (.new i, 3)) (h : ci < 13 ∧ Cond.classLink own i (zR ci) ∈ z_good ∧ Cond.instantiable (zR ci) (zN ci) ∈ z_good ∧ Cond.initialized (zR ci) ∈ z_good) (hs : zSH n = .inl ci) (hn : n + 1 ≤ n1) (k : V (n + 1) (zu I n (fun _ => 0)) (zu J n (fun _ => 0)) (zu P n (fun _ => none)) (pc + 3) ls (.ref n :: r)) : V n I J P pc ls r := hV _ _ _ _ _ _ _ _ _ hd ⟨rfl, ci, h.1, h.2.1, h.2.2.1, h.2.2.2, hs, hn, k⟩
theorem r_newarray {own : String} {cc : ByteArray} {d n1 : Nat} {ini : Bool} {sc : Option (Nat × (Nat → Int32))} {ret : Option FieldType} {post : Option Value → zI → zJ → zP → Prop} {V : Nat → zI → zJ → zP → Nat → List Value → List Value → Prop} (hV : z_Cl own cc d n1 ini sc ret post V) {n : Nat} {I : zI} {J : zJ} {P : zP} {pc : Nat} {ls r : List Value} {t : ArrayType} {x : Int32} (N : Nat) (hd : decode cc pc = .ok (.newarray t, 2)) (h : (t = .int ∨ t = .long ∨ t = .boolean) ∧ Cond.arrayClass (newarray.typeOf t) ∈ z_good) (hs : zSH n = .inr (newarray.typeOf t, N)) (hx : ¬ x < 0 ∧ x.toNatClampNeg = N ∧ N ≤ 100000) (hn : n + 1 ≤ n1) (k : V (n + 1) (zu I n (fun _ => 0)) (zu J n (fun _ => 0)) (zu P n (fun _ => none)) (pc + 2) ls (.ref n :: r)) : V n I J P pc ls (.int x :: r) := hV _ _ _ _ _ _ _ _ _ hd ⟨rfl, x, N, r, rfl, h.1, h.2, hs, hx.1, hx.2.1, hx.2.2, hn, k⟩
theorem r_anewarray {own : String} {cc : ByteArray} {d n1 : Nat} {ini : Bool} {sc : Option (Nat × (Nat → Int32))} {ret : Option FieldType} {post : Option Value → zI → zJ → zP → Prop} {V : Nat → zI → zJ → zP → Nat → List Value → List Value → Prop} (hV : z_Cl own cc d n1 ini sc ret post V) {n : Nat} {I : zI} {J : zJ} {P : zP} {pc : Nat} {ls r : List Value} {i : Nat} {x : Int32} (N : Nat) (hd : decode cc pc = .ok (.anewarray i, 3)) (h : Cond.classLink own i "StepsShared$Standing" ∈ z_good) (hs : zSH n = .inr (zStd, N)) (hx : ¬ x < 0 ∧ x.toNatClampNeg = N ∧ N ≤ 100000) (hn : n + 1 ≤ n1) (k : V (n + 1) (zu I n (fun _ => 0)) (zu J n (fun _ => 0)) (zu P n (fun _ => none)) (pc + 3) ls (.ref n :: r)) : V n I J P pc ls (.int x :: r) := hV _ _ _ _ _ _ _ _ _ hd ⟨rfl, x, N, r, rfl, h, hs, hx.1, hx.2.1, hx.2.2, hn, k⟩
/-- links of calls -/
def z_MV (own : String) (idx ci : Nat) (y : MethodName) (cc : ByteArray) (maxL : Nat) (ret : Option FieldType) (na : Nat) : Prop := z_ml own idx y cc maxL ret na ∧ Cond.instanceMethod y ∈ z_good ∧ Cond.selects y.cls y y ∈ z_good ∧ ci < 13 ∧ zR ci = y.cls ∧ maxL ≤ 45
def z_MS (own : String) (idx : Nat) (y : MethodName) (cc : ByteArray) (maxL : Nat) (ret : Option FieldType) (na : Nat) : Prop := z_ml own idx y cc maxL ret na ∧ Cond.static y ∈ z_good ∧ maxL ≤ 45
def z_MI (own : String) (idx : Nat) (y : MethodName) (cc : ByteArray) (maxL : Nat) (na : Nat) : Prop := z_ml own idx y cc maxL none na ∧ Cond.instanceMethod y ∈ z_good ∧ y.name = "<init>" ∧ maxL ≤ 45
def z_lr (r : List Value) : Prop := (r.map fun v => v.category).sum ≤ 8
theorem r_iv0 {own : String} {cc : ByteArray} {d n1 : Nat} {ini : Bool} {sc : Option (Nat × (Nat → Int32))} {ret : Option FieldType} {post : Option Value → zI → zJ → zP → Prop} {V : Nat → zI → zJ → zP → Nat → List Value → List Value → Prop} (hV : z_Cl own cc d n1 ini sc ret post V) {n : Nat} {I : zI} {J : zJ} {P : zP} {pc : Nat} {ls r : List Value} {i ci o d1 n2 mL : Nat} {y : MethodName} {cy : ByteArray} {rt : Option FieldType}  {post1 : Option Value → zI → zJ → zP → Prop} (hd : decode cc pc = .ok (.invokevirtual i, 3)) (hm : z_MV own i ci y cy mL rt 0) (hSp : z_Sp d1 y cy mL rt n n2 I J P [.ref o] post1) (ho : o < n) (hs : zSH o = .inl ci) (hd1 : d1 + 1 ≤ d) (hn2 : n2 ≤ n1) (hr : z_lr r) (k : ∀ (v : Option Value) (I1 : zI) (J1 : zJ) (P1 : zP), post1 v I1 J1 P1 → V n2 I1 J1 P1 (pc + 3) ls (v.toList ++ r)) : V n I J P pc ls (.ref o :: r) := hV _ _ _ _ _ _ _ _ _ hd ⟨rfl, y, cy, mL, rt, 0, d1, n2, o, ci, [], r, post1, rfl, hm.1, hm.2.1, hm.2.2.1, rfl, ho, hs, hm.2.2.2.1, hm.2.2.2.2.1, hd1, hm.2.2.2.2.2, hr, hn2, hSp, k⟩
theorem r_in0 {own : String} {cc : ByteArray} {d n1 : Nat} {ini : Bool} {sc : Option (Nat × (Nat → Int32))} {ret : Option FieldType} {post : Option Value → zI → zJ → zP → Prop} {V : Nat → zI → zJ → zP → Nat → List Value → List Value → Prop} (hV : z_Cl own cc d n1 ini sc ret post V) {n : Nat} {I : zI} {J : zJ} {P : zP} {pc : Nat} {ls r : List Value} {i o d1 n2 mL : Nat} {y : MethodName} {cy : ByteArray}  {post1 : Option Value → zI → zJ → zP → Prop} (hd : decode cc pc = .ok (.invokespecial i, 3)) (hm : z_MI own i y cy mL 0) (hSp : z_Sp d1 y cy mL none n n2 I J P [.ref o] post1) (hd1 : d1 + 1 ≤ d) (hn2 : n2 ≤ n1) (hr : z_lr r) (k : ∀ (v : Option Value) (I1 : zI) (J1 : zJ) (P1 : zP), post1 v I1 J1 P1 → V n2 I1 J1 P1 (pc + 3) ls (v.toList ++ r)) : V n I J P pc ls (.ref o :: r) := hV _ _ _ _ _ _ _ _ _ hd ⟨rfl, Or.inr ⟨y, cy, mL, 0, d1, n2, o, [], r, post1, rfl, hm.1, hm.2.1, hm.2.2.1, rfl, hd1, hm.2.2.2, hr, hn2, hSp, k⟩⟩
theorem r_is0 {own : String} {cc : ByteArray} {d n1 : Nat} {ini : Bool} {sc : Option (Nat × (Nat → Int32))} {ret : Option FieldType} {post : Option Value → zI → zJ → zP → Prop} {V : Nat → zI → zJ → zP → Nat → List Value → List Value → Prop} (hV : z_Cl own cc d n1 ini sc ret post V) {n : Nat} {I : zI} {J : zJ} {P : zP} {pc : Nat} {ls r : List Value} {i d1 n2 mL : Nat} {y : MethodName} {cy : ByteArray} {rt : Option FieldType}  {post1 : Option Value → zI → zJ → zP → Prop} (hd : decode cc pc = .ok (.invokestatic i, 3)) (hm : z_MS own i y cy mL rt 0) (hSp : z_Sp d1 y cy mL rt n n2 I J P [] post1) (hd1 : d1 + 1 ≤ d) (hn2 : n2 ≤ n1) (hr : z_lr r) (k : ∀ (v : Option Value) (I1 : zI) (J1 : zJ) (P1 : zP), post1 v I1 J1 P1 → V n2 I1 J1 P1 (pc + 3) ls (v.toList ++ r)) : V n I J P pc ls (r) := hV _ _ _ _ _ _ _ _ _ hd ⟨rfl, y, cy, mL, rt, 0, d1, n2, [], r, post1, rfl, hm.1, hm.2.1, rfl, hd1, hm.2.2, hr, hn2, hSp, k⟩
theorem r_iv1 {own : String} {cc : ByteArray} {d n1 : Nat} {ini : Bool} {sc : Option (Nat × (Nat → Int32))} {ret : Option FieldType} {post : Option Value → zI → zJ → zP → Prop} {V : Nat → zI → zJ → zP → Nat → List Value → List Value → Prop} (hV : z_Cl own cc d n1 ini sc ret post V) {n : Nat} {I : zI} {J : zJ} {P : zP} {pc : Nat} {ls r : List Value} {i ci o d1 n2 mL : Nat} {y : MethodName} {cy : ByteArray} {rt : Option FieldType} {a0 : Value} {post1 : Option Value → zI → zJ → zP → Prop} (hd : decode cc pc = .ok (.invokevirtual i, 3)) (hm : z_MV own i ci y cy mL rt 1) (hSp : z_Sp d1 y cy mL rt n n2 I J P [.ref o, a0] post1) (ho : o < n) (hs : zSH o = .inl ci) (hd1 : d1 + 1 ≤ d) (hn2 : n2 ≤ n1) (hr : z_lr r) (k : ∀ (v : Option Value) (I1 : zI) (J1 : zJ) (P1 : zP), post1 v I1 J1 P1 → V n2 I1 J1 P1 (pc + 3) ls (v.toList ++ r)) : V n I J P pc ls (a0 :: .ref o :: r) := hV _ _ _ _ _ _ _ _ _ hd ⟨rfl, y, cy, mL, rt, 1, d1, n2, o, ci, [a0], r, post1, rfl, hm.1, hm.2.1, hm.2.2.1, rfl, ho, hs, hm.2.2.2.1, hm.2.2.2.2.1, hd1, hm.2.2.2.2.2, hr, hn2, hSp, k⟩
theorem r_in1 {own : String} {cc : ByteArray} {d n1 : Nat} {ini : Bool} {sc : Option (Nat × (Nat → Int32))} {ret : Option FieldType} {post : Option Value → zI → zJ → zP → Prop} {V : Nat → zI → zJ → zP → Nat → List Value → List Value → Prop} (hV : z_Cl own cc d n1 ini sc ret post V) {n : Nat} {I : zI} {J : zJ} {P : zP} {pc : Nat} {ls r : List Value} {i o d1 n2 mL : Nat} {y : MethodName} {cy : ByteArray} {a0 : Value} {post1 : Option Value → zI → zJ → zP → Prop} (hd : decode cc pc = .ok (.invokespecial i, 3)) (hm : z_MI own i y cy mL 1) (hSp : z_Sp d1 y cy mL none n n2 I J P [.ref o, a0] post1) (hd1 : d1 + 1 ≤ d) (hn2 : n2 ≤ n1) (hr : z_lr r) (k : ∀ (v : Option Value) (I1 : zI) (J1 : zJ) (P1 : zP), post1 v I1 J1 P1 → V n2 I1 J1 P1 (pc + 3) ls (v.toList ++ r)) : V n I J P pc ls (a0 :: .ref o :: r) := hV _ _ _ _ _ _ _ _ _ hd ⟨rfl, Or.inr ⟨y, cy, mL, 1, d1, n2, o, [a0], r, post1, rfl, hm.1, hm.2.1, hm.2.2.1, rfl, hd1, hm.2.2.2, hr, hn2, hSp, k⟩⟩
theorem r_is1 {own : String} {cc : ByteArray} {d n1 : Nat} {ini : Bool} {sc : Option (Nat × (Nat → Int32))} {ret : Option FieldType} {post : Option Value → zI → zJ → zP → Prop} {V : Nat → zI → zJ → zP → Nat → List Value → List Value → Prop} (hV : z_Cl own cc d n1 ini sc ret post V) {n : Nat} {I : zI} {J : zJ} {P : zP} {pc : Nat} {ls r : List Value} {i d1 n2 mL : Nat} {y : MethodName} {cy : ByteArray} {rt : Option FieldType} {a0 : Value} {post1 : Option Value → zI → zJ → zP → Prop} (hd : decode cc pc = .ok (.invokestatic i, 3)) (hm : z_MS own i y cy mL rt 1) (hSp : z_Sp d1 y cy mL rt n n2 I J P [a0] post1) (hd1 : d1 + 1 ≤ d) (hn2 : n2 ≤ n1) (hr : z_lr r) (k : ∀ (v : Option Value) (I1 : zI) (J1 : zJ) (P1 : zP), post1 v I1 J1 P1 → V n2 I1 J1 P1 (pc + 3) ls (v.toList ++ r)) : V n I J P pc ls (a0 :: r) := hV _ _ _ _ _ _ _ _ _ hd ⟨rfl, y, cy, mL, rt, 1, d1, n2, [a0], r, post1, rfl, hm.1, hm.2.1, rfl, hd1, hm.2.2, hr, hn2, hSp, k⟩
theorem r_iv2 {own : String} {cc : ByteArray} {d n1 : Nat} {ini : Bool} {sc : Option (Nat × (Nat → Int32))} {ret : Option FieldType} {post : Option Value → zI → zJ → zP → Prop} {V : Nat → zI → zJ → zP → Nat → List Value → List Value → Prop} (hV : z_Cl own cc d n1 ini sc ret post V) {n : Nat} {I : zI} {J : zJ} {P : zP} {pc : Nat} {ls r : List Value} {i ci o d1 n2 mL : Nat} {y : MethodName} {cy : ByteArray} {rt : Option FieldType} {a0 a1 : Value} {post1 : Option Value → zI → zJ → zP → Prop} (hd : decode cc pc = .ok (.invokevirtual i, 3)) (hm : z_MV own i ci y cy mL rt 2) (hSp : z_Sp d1 y cy mL rt n n2 I J P [.ref o, a0, a1] post1) (ho : o < n) (hs : zSH o = .inl ci) (hd1 : d1 + 1 ≤ d) (hn2 : n2 ≤ n1) (hr : z_lr r) (k : ∀ (v : Option Value) (I1 : zI) (J1 : zJ) (P1 : zP), post1 v I1 J1 P1 → V n2 I1 J1 P1 (pc + 3) ls (v.toList ++ r)) : V n I J P pc ls (a1 :: a0 :: .ref o :: r) := hV _ _ _ _ _ _ _ _ _ hd ⟨rfl, y, cy, mL, rt, 2, d1, n2, o, ci, [a0, a1], r, post1, rfl, hm.1, hm.2.1, hm.2.2.1, rfl, ho, hs, hm.2.2.2.1, hm.2.2.2.2.1, hd1, hm.2.2.2.2.2, hr, hn2, hSp, k⟩
theorem r_in2 {own : String} {cc : ByteArray} {d n1 : Nat} {ini : Bool} {sc : Option (Nat × (Nat → Int32))} {ret : Option FieldType} {post : Option Value → zI → zJ → zP → Prop} {V : Nat → zI → zJ → zP → Nat → List Value → List Value → Prop} (hV : z_Cl own cc d n1 ini sc ret post V) {n : Nat} {I : zI} {J : zJ} {P : zP} {pc : Nat} {ls r : List Value} {i o d1 n2 mL : Nat} {y : MethodName} {cy : ByteArray} {a0 a1 : Value} {post1 : Option Value → zI → zJ → zP → Prop} (hd : decode cc pc = .ok (.invokespecial i, 3)) (hm : z_MI own i y cy mL 2) (hSp : z_Sp d1 y cy mL none n n2 I J P [.ref o, a0, a1] post1) (hd1 : d1 + 1 ≤ d) (hn2 : n2 ≤ n1) (hr : z_lr r) (k : ∀ (v : Option Value) (I1 : zI) (J1 : zJ) (P1 : zP), post1 v I1 J1 P1 → V n2 I1 J1 P1 (pc + 3) ls (v.toList ++ r)) : V n I J P pc ls (a1 :: a0 :: .ref o :: r) := hV _ _ _ _ _ _ _ _ _ hd ⟨rfl, Or.inr ⟨y, cy, mL, 2, d1, n2, o, [a0, a1], r, post1, rfl, hm.1, hm.2.1, hm.2.2.1, rfl, hd1, hm.2.2.2, hr, hn2, hSp, k⟩⟩
theorem r_is2 {own : String} {cc : ByteArray} {d n1 : Nat} {ini : Bool} {sc : Option (Nat × (Nat → Int32))} {ret : Option FieldType} {post : Option Value → zI → zJ → zP → Prop} {V : Nat → zI → zJ → zP → Nat → List Value → List Value → Prop} (hV : z_Cl own cc d n1 ini sc ret post V) {n : Nat} {I : zI} {J : zJ} {P : zP} {pc : Nat} {ls r : List Value} {i d1 n2 mL : Nat} {y : MethodName} {cy : ByteArray} {rt : Option FieldType} {a0 a1 : Value} {post1 : Option Value → zI → zJ → zP → Prop} (hd : decode cc pc = .ok (.invokestatic i, 3)) (hm : z_MS own i y cy mL rt 2) (hSp : z_Sp d1 y cy mL rt n n2 I J P [a0, a1] post1) (hd1 : d1 + 1 ≤ d) (hn2 : n2 ≤ n1) (hr : z_lr r) (k : ∀ (v : Option Value) (I1 : zI) (J1 : zJ) (P1 : zP), post1 v I1 J1 P1 → V n2 I1 J1 P1 (pc + 3) ls (v.toList ++ r)) : V n I J P pc ls (a1 :: a0 :: r) := hV _ _ _ _ _ _ _ _ _ hd ⟨rfl, y, cy, mL, rt, 2, d1, n2, [a0, a1], r, post1, rfl, hm.1, hm.2.1, rfl, hd1, hm.2.2, hr, hn2, hSp, k⟩
theorem r_iv3 {own : String} {cc : ByteArray} {d n1 : Nat} {ini : Bool} {sc : Option (Nat × (Nat → Int32))} {ret : Option FieldType} {post : Option Value → zI → zJ → zP → Prop} {V : Nat → zI → zJ → zP → Nat → List Value → List Value → Prop} (hV : z_Cl own cc d n1 ini sc ret post V) {n : Nat} {I : zI} {J : zJ} {P : zP} {pc : Nat} {ls r : List Value} {i ci o d1 n2 mL : Nat} {y : MethodName} {cy : ByteArray} {rt : Option FieldType} {a0 a1 a2 : Value} {post1 : Option Value → zI → zJ → zP → Prop} (hd : decode cc pc = .ok (.invokevirtual i, 3)) (hm : z_MV own i ci y cy mL rt 3) (hSp : z_Sp d1 y cy mL rt n n2 I J P [.ref o, a0, a1, a2] post1) (ho : o < n) (hs : zSH o = .inl ci) (hd1 : d1 + 1 ≤ d) (hn2 : n2 ≤ n1) (hr : z_lr r) (k : ∀ (v : Option Value) (I1 : zI) (J1 : zJ) (P1 : zP), post1 v I1 J1 P1 → V n2 I1 J1 P1 (pc + 3) ls (v.toList ++ r)) : V n I J P pc ls (a2 :: a1 :: a0 :: .ref o :: r) := hV _ _ _ _ _ _ _ _ _ hd ⟨rfl, y, cy, mL, rt, 3, d1, n2, o, ci, [a0, a1, a2], r, post1, rfl, hm.1, hm.2.1, hm.2.2.1, rfl, ho, hs, hm.2.2.2.1, hm.2.2.2.2.1, hd1, hm.2.2.2.2.2, hr, hn2, hSp, k⟩
theorem r_in3 {own : String} {cc : ByteArray} {d n1 : Nat} {ini : Bool} {sc : Option (Nat × (Nat → Int32))} {ret : Option FieldType} {post : Option Value → zI → zJ → zP → Prop} {V : Nat → zI → zJ → zP → Nat → List Value → List Value → Prop} (hV : z_Cl own cc d n1 ini sc ret post V) {n : Nat} {I : zI} {J : zJ} {P : zP} {pc : Nat} {ls r : List Value} {i o d1 n2 mL : Nat} {y : MethodName} {cy : ByteArray} {a0 a1 a2 : Value} {post1 : Option Value → zI → zJ → zP → Prop} (hd : decode cc pc = .ok (.invokespecial i, 3)) (hm : z_MI own i y cy mL 3) (hSp : z_Sp d1 y cy mL none n n2 I J P [.ref o, a0, a1, a2] post1) (hd1 : d1 + 1 ≤ d) (hn2 : n2 ≤ n1) (hr : z_lr r) (k : ∀ (v : Option Value) (I1 : zI) (J1 : zJ) (P1 : zP), post1 v I1 J1 P1 → V n2 I1 J1 P1 (pc + 3) ls (v.toList ++ r)) : V n I J P pc ls (a2 :: a1 :: a0 :: .ref o :: r) := hV _ _ _ _ _ _ _ _ _ hd ⟨rfl, Or.inr ⟨y, cy, mL, 3, d1, n2, o, [a0, a1, a2], r, post1, rfl, hm.1, hm.2.1, hm.2.2.1, rfl, hd1, hm.2.2.2, hr, hn2, hSp, k⟩⟩
theorem r_is3 {own : String} {cc : ByteArray} {d n1 : Nat} {ini : Bool} {sc : Option (Nat × (Nat → Int32))} {ret : Option FieldType} {post : Option Value → zI → zJ → zP → Prop} {V : Nat → zI → zJ → zP → Nat → List Value → List Value → Prop} (hV : z_Cl own cc d n1 ini sc ret post V) {n : Nat} {I : zI} {J : zJ} {P : zP} {pc : Nat} {ls r : List Value} {i d1 n2 mL : Nat} {y : MethodName} {cy : ByteArray} {rt : Option FieldType} {a0 a1 a2 : Value} {post1 : Option Value → zI → zJ → zP → Prop} (hd : decode cc pc = .ok (.invokestatic i, 3)) (hm : z_MS own i y cy mL rt 3) (hSp : z_Sp d1 y cy mL rt n n2 I J P [a0, a1, a2] post1) (hd1 : d1 + 1 ≤ d) (hn2 : n2 ≤ n1) (hr : z_lr r) (k : ∀ (v : Option Value) (I1 : zI) (J1 : zJ) (P1 : zP), post1 v I1 J1 P1 → V n2 I1 J1 P1 (pc + 3) ls (v.toList ++ r)) : V n I J P pc ls (a2 :: a1 :: a0 :: r) := hV _ _ _ _ _ _ _ _ _ hd ⟨rfl, y, cy, mL, rt, 3, d1, n2, [a0, a1, a2], r, post1, rfl, hm.1, hm.2.1, rfl, hd1, hm.2.2, hr, hn2, hSp, k⟩
theorem r_iv4 {own : String} {cc : ByteArray} {d n1 : Nat} {ini : Bool} {sc : Option (Nat × (Nat → Int32))} {ret : Option FieldType} {post : Option Value → zI → zJ → zP → Prop} {V : Nat → zI → zJ → zP → Nat → List Value → List Value → Prop} (hV : z_Cl own cc d n1 ini sc ret post V) {n : Nat} {I : zI} {J : zJ} {P : zP} {pc : Nat} {ls r : List Value} {i ci o d1 n2 mL : Nat} {y : MethodName} {cy : ByteArray} {rt : Option FieldType} {a0 a1 a2 a3 : Value} {post1 : Option Value → zI → zJ → zP → Prop} (hd : decode cc pc = .ok (.invokevirtual i, 3)) (hm : z_MV own i ci y cy mL rt 4) (hSp : z_Sp d1 y cy mL rt n n2 I J P [.ref o, a0, a1, a2, a3] post1) (ho : o < n) (hs : zSH o = .inl ci) (hd1 : d1 + 1 ≤ d) (hn2 : n2 ≤ n1) (hr : z_lr r) (k : ∀ (v : Option Value) (I1 : zI) (J1 : zJ) (P1 : zP), post1 v I1 J1 P1 → V n2 I1 J1 P1 (pc + 3) ls (v.toList ++ r)) : V n I J P pc ls (a3 :: a2 :: a1 :: a0 :: .ref o :: r) := hV _ _ _ _ _ _ _ _ _ hd ⟨rfl, y, cy, mL, rt, 4, d1, n2, o, ci, [a0, a1, a2, a3], r, post1, rfl, hm.1, hm.2.1, hm.2.2.1, rfl, ho, hs, hm.2.2.2.1, hm.2.2.2.2.1, hd1, hm.2.2.2.2.2, hr, hn2, hSp, k⟩
theorem r_in4 {own : String} {cc : ByteArray} {d n1 : Nat} {ini : Bool} {sc : Option (Nat × (Nat → Int32))} {ret : Option FieldType} {post : Option Value → zI → zJ → zP → Prop} {V : Nat → zI → zJ → zP → Nat → List Value → List Value → Prop} (hV : z_Cl own cc d n1 ini sc ret post V) {n : Nat} {I : zI} {J : zJ} {P : zP} {pc : Nat} {ls r : List Value} {i o d1 n2 mL : Nat} {y : MethodName} {cy : ByteArray} {a0 a1 a2 a3 : Value} {post1 : Option Value → zI → zJ → zP → Prop} (hd : decode cc pc = .ok (.invokespecial i, 3)) (hm : z_MI own i y cy mL 4) (hSp : z_Sp d1 y cy mL none n n2 I J P [.ref o, a0, a1, a2, a3] post1) (hd1 : d1 + 1 ≤ d) (hn2 : n2 ≤ n1) (hr : z_lr r) (k : ∀ (v : Option Value) (I1 : zI) (J1 : zJ) (P1 : zP), post1 v I1 J1 P1 → V n2 I1 J1 P1 (pc + 3) ls (v.toList ++ r)) : V n I J P pc ls (a3 :: a2 :: a1 :: a0 :: .ref o :: r) := hV _ _ _ _ _ _ _ _ _ hd ⟨rfl, Or.inr ⟨y, cy, mL, 4, d1, n2, o, [a0, a1, a2, a3], r, post1, rfl, hm.1, hm.2.1, hm.2.2.1, rfl, hd1, hm.2.2.2, hr, hn2, hSp, k⟩⟩
theorem r_is4 {own : String} {cc : ByteArray} {d n1 : Nat} {ini : Bool} {sc : Option (Nat × (Nat → Int32))} {ret : Option FieldType} {post : Option Value → zI → zJ → zP → Prop} {V : Nat → zI → zJ → zP → Nat → List Value → List Value → Prop} (hV : z_Cl own cc d n1 ini sc ret post V) {n : Nat} {I : zI} {J : zJ} {P : zP} {pc : Nat} {ls r : List Value} {i d1 n2 mL : Nat} {y : MethodName} {cy : ByteArray} {rt : Option FieldType} {a0 a1 a2 a3 : Value} {post1 : Option Value → zI → zJ → zP → Prop} (hd : decode cc pc = .ok (.invokestatic i, 3)) (hm : z_MS own i y cy mL rt 4) (hSp : z_Sp d1 y cy mL rt n n2 I J P [a0, a1, a2, a3] post1) (hd1 : d1 + 1 ≤ d) (hn2 : n2 ≤ n1) (hr : z_lr r) (k : ∀ (v : Option Value) (I1 : zI) (J1 : zJ) (P1 : zP), post1 v I1 J1 P1 → V n2 I1 J1 P1 (pc + 3) ls (v.toList ++ r)) : V n I J P pc ls (a3 :: a2 :: a1 :: a0 :: r) := hV _ _ _ _ _ _ _ _ _ hd ⟨rfl, y, cy, mL, rt, 4, d1, n2, [a0, a1, a2, a3], r, post1, rfl, hm.1, hm.2.1, rfl, hd1, hm.2.2, hr, hn2, hSp, k⟩
theorem r_iv5 {own : String} {cc : ByteArray} {d n1 : Nat} {ini : Bool} {sc : Option (Nat × (Nat → Int32))} {ret : Option FieldType} {post : Option Value → zI → zJ → zP → Prop} {V : Nat → zI → zJ → zP → Nat → List Value → List Value → Prop} (hV : z_Cl own cc d n1 ini sc ret post V) {n : Nat} {I : zI} {J : zJ} {P : zP} {pc : Nat} {ls r : List Value} {i ci o d1 n2 mL : Nat} {y : MethodName} {cy : ByteArray} {rt : Option FieldType} {a0 a1 a2 a3 a4 : Value} {post1 : Option Value → zI → zJ → zP → Prop} (hd : decode cc pc = .ok (.invokevirtual i, 3)) (hm : z_MV own i ci y cy mL rt 5) (hSp : z_Sp d1 y cy mL rt n n2 I J P [.ref o, a0, a1, a2, a3, a4] post1) (ho : o < n) (hs : zSH o = .inl ci) (hd1 : d1 + 1 ≤ d) (hn2 : n2 ≤ n1) (hr : z_lr r) (k : ∀ (v : Option Value) (I1 : zI) (J1 : zJ) (P1 : zP), post1 v I1 J1 P1 → V n2 I1 J1 P1 (pc + 3) ls (v.toList ++ r)) : V n I J P pc ls (a4 :: a3 :: a2 :: a1 :: a0 :: .ref o :: r) := hV _ _ _ _ _ _ _ _ _ hd ⟨rfl, y, cy, mL, rt, 5, d1, n2, o, ci, [a0, a1, a2, a3, a4], r, post1, rfl, hm.1, hm.2.1, hm.2.2.1, rfl, ho, hs, hm.2.2.2.1, hm.2.2.2.2.1, hd1, hm.2.2.2.2.2, hr, hn2, hSp, k⟩
theorem r_in5 {own : String} {cc : ByteArray} {d n1 : Nat} {ini : Bool} {sc : Option (Nat × (Nat → Int32))} {ret : Option FieldType} {post : Option Value → zI → zJ → zP → Prop} {V : Nat → zI → zJ → zP → Nat → List Value → List Value → Prop} (hV : z_Cl own cc d n1 ini sc ret post V) {n : Nat} {I : zI} {J : zJ} {P : zP} {pc : Nat} {ls r : List Value} {i o d1 n2 mL : Nat} {y : MethodName} {cy : ByteArray} {a0 a1 a2 a3 a4 : Value} {post1 : Option Value → zI → zJ → zP → Prop} (hd : decode cc pc = .ok (.invokespecial i, 3)) (hm : z_MI own i y cy mL 5) (hSp : z_Sp d1 y cy mL none n n2 I J P [.ref o, a0, a1, a2, a3, a4] post1) (hd1 : d1 + 1 ≤ d) (hn2 : n2 ≤ n1) (hr : z_lr r) (k : ∀ (v : Option Value) (I1 : zI) (J1 : zJ) (P1 : zP), post1 v I1 J1 P1 → V n2 I1 J1 P1 (pc + 3) ls (v.toList ++ r)) : V n I J P pc ls (a4 :: a3 :: a2 :: a1 :: a0 :: .ref o :: r) := hV _ _ _ _ _ _ _ _ _ hd ⟨rfl, Or.inr ⟨y, cy, mL, 5, d1, n2, o, [a0, a1, a2, a3, a4], r, post1, rfl, hm.1, hm.2.1, hm.2.2.1, rfl, hd1, hm.2.2.2, hr, hn2, hSp, k⟩⟩
theorem r_is5 {own : String} {cc : ByteArray} {d n1 : Nat} {ini : Bool} {sc : Option (Nat × (Nat → Int32))} {ret : Option FieldType} {post : Option Value → zI → zJ → zP → Prop} {V : Nat → zI → zJ → zP → Nat → List Value → List Value → Prop} (hV : z_Cl own cc d n1 ini sc ret post V) {n : Nat} {I : zI} {J : zJ} {P : zP} {pc : Nat} {ls r : List Value} {i d1 n2 mL : Nat} {y : MethodName} {cy : ByteArray} {rt : Option FieldType} {a0 a1 a2 a3 a4 : Value} {post1 : Option Value → zI → zJ → zP → Prop} (hd : decode cc pc = .ok (.invokestatic i, 3)) (hm : z_MS own i y cy mL rt 5) (hSp : z_Sp d1 y cy mL rt n n2 I J P [a0, a1, a2, a3, a4] post1) (hd1 : d1 + 1 ≤ d) (hn2 : n2 ≤ n1) (hr : z_lr r) (k : ∀ (v : Option Value) (I1 : zI) (J1 : zJ) (P1 : zP), post1 v I1 J1 P1 → V n2 I1 J1 P1 (pc + 3) ls (v.toList ++ r)) : V n I J P pc ls (a4 :: a3 :: a2 :: a1 :: a0 :: r) := hV _ _ _ _ _ _ _ _ _ hd ⟨rfl, y, cy, mL, rt, 5, d1, n2, [a0, a1, a2, a3, a4], r, post1, rfl, hm.1, hm.2.1, rfl, hd1, hm.2.2, hr, hn2, hSp, k⟩
theorem r_iv6 {own : String} {cc : ByteArray} {d n1 : Nat} {ini : Bool} {sc : Option (Nat × (Nat → Int32))} {ret : Option FieldType} {post : Option Value → zI → zJ → zP → Prop} {V : Nat → zI → zJ → zP → Nat → List Value → List Value → Prop} (hV : z_Cl own cc d n1 ini sc ret post V) {n : Nat} {I : zI} {J : zJ} {P : zP} {pc : Nat} {ls r : List Value} {i ci o d1 n2 mL : Nat} {y : MethodName} {cy : ByteArray} {rt : Option FieldType} {a0 a1 a2 a3 a4 a5 : Value} {post1 : Option Value → zI → zJ → zP → Prop} (hd : decode cc pc = .ok (.invokevirtual i, 3)) (hm : z_MV own i ci y cy mL rt 6) (hSp : z_Sp d1 y cy mL rt n n2 I J P [.ref o, a0, a1, a2, a3, a4, a5] post1) (ho : o < n) (hs : zSH o = .inl ci) (hd1 : d1 + 1 ≤ d) (hn2 : n2 ≤ n1) (hr : z_lr r) (k : ∀ (v : Option Value) (I1 : zI) (J1 : zJ) (P1 : zP), post1 v I1 J1 P1 → V n2 I1 J1 P1 (pc + 3) ls (v.toList ++ r)) : V n I J P pc ls (a5 :: a4 :: a3 :: a2 :: a1 :: a0 :: .ref o :: r) := hV _ _ _ _ _ _ _ _ _ hd ⟨rfl, y, cy, mL, rt, 6, d1, n2, o, ci, [a0, a1, a2, a3, a4, a5], r, post1, rfl, hm.1, hm.2.1, hm.2.2.1, rfl, ho, hs, hm.2.2.2.1, hm.2.2.2.2.1, hd1, hm.2.2.2.2.2, hr, hn2, hSp, k⟩
theorem r_in6 {own : String} {cc : ByteArray} {d n1 : Nat} {ini : Bool} {sc : Option (Nat × (Nat → Int32))} {ret : Option FieldType} {post : Option Value → zI → zJ → zP → Prop} {V : Nat → zI → zJ → zP → Nat → List Value → List Value → Prop} (hV : z_Cl own cc d n1 ini sc ret post V) {n : Nat} {I : zI} {J : zJ} {P : zP} {pc : Nat} {ls r : List Value} {i o d1 n2 mL : Nat} {y : MethodName} {cy : ByteArray} {a0 a1 a2 a3 a4 a5 : Value} {post1 : Option Value → zI → zJ → zP → Prop} (hd : decode cc pc = .ok (.invokespecial i, 3)) (hm : z_MI own i y cy mL 6) (hSp : z_Sp d1 y cy mL none n n2 I J P [.ref o, a0, a1, a2, a3, a4, a5] post1) (hd1 : d1 + 1 ≤ d) (hn2 : n2 ≤ n1) (hr : z_lr r) (k : ∀ (v : Option Value) (I1 : zI) (J1 : zJ) (P1 : zP), post1 v I1 J1 P1 → V n2 I1 J1 P1 (pc + 3) ls (v.toList ++ r)) : V n I J P pc ls (a5 :: a4 :: a3 :: a2 :: a1 :: a0 :: .ref o :: r) := hV _ _ _ _ _ _ _ _ _ hd ⟨rfl, Or.inr ⟨y, cy, mL, 6, d1, n2, o, [a0, a1, a2, a3, a4, a5], r, post1, rfl, hm.1, hm.2.1, hm.2.2.1, rfl, hd1, hm.2.2.2, hr, hn2, hSp, k⟩⟩
theorem r_is6 {own : String} {cc : ByteArray} {d n1 : Nat} {ini : Bool} {sc : Option (Nat × (Nat → Int32))} {ret : Option FieldType} {post : Option Value → zI → zJ → zP → Prop} {V : Nat → zI → zJ → zP → Nat → List Value → List Value → Prop} (hV : z_Cl own cc d n1 ini sc ret post V) {n : Nat} {I : zI} {J : zJ} {P : zP} {pc : Nat} {ls r : List Value} {i d1 n2 mL : Nat} {y : MethodName} {cy : ByteArray} {rt : Option FieldType} {a0 a1 a2 a3 a4 a5 : Value} {post1 : Option Value → zI → zJ → zP → Prop} (hd : decode cc pc = .ok (.invokestatic i, 3)) (hm : z_MS own i y cy mL rt 6) (hSp : z_Sp d1 y cy mL rt n n2 I J P [a0, a1, a2, a3, a4, a5] post1) (hd1 : d1 + 1 ≤ d) (hn2 : n2 ≤ n1) (hr : z_lr r) (k : ∀ (v : Option Value) (I1 : zI) (J1 : zJ) (P1 : zP), post1 v I1 J1 P1 → V n2 I1 J1 P1 (pc + 3) ls (v.toList ++ r)) : V n I J P pc ls (a5 :: a4 :: a3 :: a2 :: a1 :: a0 :: r) := hV _ _ _ _ _ _ _ _ _ hd ⟨rfl, y, cy, mL, rt, 6, d1, n2, [a0, a1, a2, a3, a4, a5], r, post1, rfl, hm.1, hm.2.1, rfl, hd1, hm.2.2, hr, hn2, hSp, k⟩
theorem r_is7 {own : String} {cc : ByteArray} {d n1 : Nat} {ini : Bool} {sc : Option (Nat × (Nat → Int32))} {ret : Option FieldType} {post : Option Value → zI → zJ → zP → Prop} {V : Nat → zI → zJ → zP → Nat → List Value → List Value → Prop} (hV : z_Cl own cc d n1 ini sc ret post V) {n : Nat} {I : zI} {J : zJ} {P : zP} {pc : Nat} {ls r : List Value} {i d1 n2 mL : Nat} {y : MethodName} {cy : ByteArray} {rt : Option FieldType} {a0 a1 a2 a3 a4 a5 a6 : Value} {post1 : Option Value → zI → zJ → zP → Prop} (hd : decode cc pc = .ok (.invokestatic i, 3)) (hm : z_MS own i y cy mL rt 7) (hSp : z_Sp d1 y cy mL rt n n2 I J P [a0, a1, a2, a3, a4, a5, a6] post1) (hd1 : d1 + 1 ≤ d) (hn2 : n2 ≤ n1) (hr : z_lr r) (k : ∀ (v : Option Value) (I1 : zI) (J1 : zJ) (P1 : zP), post1 v I1 J1 P1 → V n2 I1 J1 P1 (pc + 3) ls (v.toList ++ r)) : V n I J P pc ls (a6 :: a5 :: a4 :: a3 :: a2 :: a1 :: a0 :: r) := hV _ _ _ _ _ _ _ _ _ hd ⟨rfl, y, cy, mL, rt, 7, d1, n2, [a0, a1, a2, a3, a4, a5, a6], r, post1, rfl, hm.1, hm.2.1, rfl, hd1, hm.2.2, hr, hn2, hSp, k⟩
theorem r_objinit {own : String} {cc : ByteArray} {d n1 : Nat} {ini : Bool} {sc : Option (Nat × (Nat → Int32))} {ret : Option FieldType} {post : Option Value → zI → zJ → zP → Prop} {V : Nat → zI → zJ → zP → Nat → List Value → List Value → Prop} (hV : z_Cl own cc d n1 ini sc ret post V) {n : Nat} {I : zI} {J : zJ} {P : zP} {pc : Nat} {ls r : List Value} {i o : Nat} (hd : decode cc pc = .ok (.invokespecial i, 3)) (hl : Cond.methodLink own i Lib.objectInit ∈ z_good) (hd1 : 1 ≤ d) (hr : z_lr r) (k : V n I J P (pc + 3) ls r) : V n I J P pc ls (.ref o :: r) := hV _ _ _ _ _ _ _ _ _ hd ⟨rfl, Or.inl ⟨o, r, rfl, hl, hd1, hr, k⟩⟩
theorem r_iret {own : String} {cc : ByteArray} {d n1 : Nat} {ini : Bool} {sc : Option (Nat × (Nat → Int32))} {ret : Option FieldType} {post : Option Value → zI → zJ → zP → Prop} {V : Nat → zI → zJ → zP → Nat → List Value → List Value → Prop} (hV : z_Cl own cc d n1 ini sc ret post V) {n : Nat} {I : zI} {J : zJ} {P : zP} {pc : Nat} {ls r : List Value} {x : Int32} (hd : decode cc pc = .ok (.ireturn, 1)) (hr : ret = some .int) (hn : n = n1) (k : post (some (.int x)) I J P) : V n I J P pc ls [.int x] := hV _ _ _ _ _ _ _ _ _ hd ⟨rfl, x, .int, rfl, hr, rfl, hn, k⟩
theorem r_zret {own : String} {cc : ByteArray} {d n1 : Nat} {ini : Bool} {sc : Option (Nat × (Nat → Int32))} {ret : Option FieldType} {post : Option Value → zI → zJ → zP → Prop} {V : Nat → zI → zJ → zP → Nat → List Value → List Value → Prop} (hV : z_Cl own cc d n1 ini sc ret post V) {n : Nat} {I : zI} {J : zJ} {P : zP} {pc : Nat} {ls r : List Value} {x : Int32} (hd : decode cc pc = .ok (.ireturn, 1)) (hr : ret = some .boolean) (hx : x = 0 ∨ x = 1) (hn : n = n1) (k : post (some (.int x)) I J P) : V n I J P pc ls [.int x] := hV _ _ _ _ _ _ _ _ _ hd ⟨rfl, x, .boolean, rfl, hr, by rcases hx with rfl | rfl <;> rfl, hn, k⟩
theorem r_lret {own : String} {cc : ByteArray} {d n1 : Nat} {ini : Bool} {sc : Option (Nat × (Nat → Int32))} {ret : Option FieldType} {post : Option Value → zI → zJ → zP → Prop} {V : Nat → zI → zJ → zP → Nat → List Value → List Value → Prop} (hV : z_Cl own cc d n1 ini sc ret post V) {n : Nat} {I : zI} {J : zJ} {P : zP} {pc : Nat} {ls r : List Value} {x : Int64} (hd : decode cc pc = .ok (.lreturn, 1)) (hr : ret = some .long) (hn : n = n1) (k : post (some (.long x)) I J P) : V n I J P pc ls [.long x] := hV _ _ _ _ _ _ _ _ _ hd ⟨rfl, x, rfl, hr, hn, k⟩
theorem r_vret {own : String} {cc : ByteArray} {d n1 : Nat} {ini : Bool} {sc : Option (Nat × (Nat → Int32))} {ret : Option FieldType} {post : Option Value → zI → zJ → zP → Prop} {V : Nat → zI → zJ → zP → Nat → List Value → List Value → Prop} (hV : z_Cl own cc d n1 ini sc ret post V) {n : Nat} {I : zI} {J : zJ} {P : zP} {pc : Nat} {ls r : List Value} (hd : decode cc pc = .ok (.return_, 1)) (hr : ret = none) (hn : n = n1) (k : post none I J P) : V n I J P pc ls [] := hV _ _ _ _ _ _ _ _ _ hd ⟨rfl, rfl, hr, hn, k⟩
end
section
theorem fl_X8_9 : z_FL RX8 9 8 0 false := ⟨⟨by decide, by decide, rfl, Or.inl (z_gd 65 (by decide +kernel) rfl)⟩, rfl⟩
theorem pf_X8_9 : z_pf RX8 true 9 8 0 := Or.inr ⟨rfl, rfl, rfl, (z_gd 65 (by decide +kernel) rfl)⟩
theorem fl_X8_15 : z_FL RX8 15 8 1 true := ⟨⟨by decide, by decide, rfl, Or.inl (z_gd 66 (by decide +kernel) rfl)⟩, rfl⟩
theorem pf_X8_15 (ini : Bool) : z_pf RX8 ini 15 8 1 := Or.inl rfl
theorem fl_X7_15 : z_FL RX7 15 7 0 true := ⟨⟨by decide, by decide, rfl, Or.inl (z_gd 79 (by decide +kernel) rfl)⟩, rfl⟩
theorem pf_X7_15 (ini : Bool) : z_pf RX7 ini 15 7 0 := Or.inl rfl
theorem fl_X7_19 : z_FL RX7 19 7 1 true := ⟨⟨by decide, by decide, rfl, Or.inl (z_gd 80 (by decide +kernel) rfl)⟩, rfl⟩
theorem pf_X7_19 (ini : Bool) : z_pf RX7 ini 19 7 1 := Or.inl rfl
theorem fl_X7_22 : z_FL RX7 22 7 2 true := ⟨⟨by decide, by decide, rfl, Or.inl (z_gd 81 (by decide +kernel) rfl)⟩, rfl⟩
theorem pf_X7_22 (ini : Bool) : z_pf RX7 ini 22 7 2 := Or.inl rfl
theorem fl_X7_25 : z_FL RX7 25 7 3 true := ⟨⟨by decide, by decide, rfl, Or.inl (z_gd 83 (by decide +kernel) rfl)⟩, rfl⟩
theorem pf_X7_25 (ini : Bool) : z_pf RX7 ini 25 7 3 := Or.inl rfl
theorem fl_X7_28 : z_FL RX7 28 7 4 true := ⟨⟨by decide, by decide, rfl, Or.inl (z_gd 85 (by decide +kernel) rfl)⟩, rfl⟩
theorem pf_X7_28 (ini : Bool) : z_pf RX7 ini 28 7 4 := Or.inl rfl
theorem fl_X7_31 : z_FL RX7 31 7 5 true := ⟨⟨by decide, by decide, rfl, Or.inl (z_gd 86 (by decide +kernel) rfl)⟩, rfl⟩
theorem pf_X7_31 (ini : Bool) : z_pf RX7 ini 31 7 5 := Or.inl rfl
theorem fl_X7_9 : z_FL RX7 9 7 6 false := ⟨⟨by decide, by decide, rfl, Or.inl (z_gd 88 (by decide +kernel) rfl)⟩, rfl⟩
theorem pf_X7_9 : z_pf RX7 true 9 7 6 := Or.inr ⟨rfl, rfl, rfl, (z_gd 88 (by decide +kernel) rfl)⟩
theorem fl_X0_11 : z_FL RX0 11 0 0 false := ⟨⟨by decide, by decide, rfl, Or.inl (z_gd 113 (by decide +kernel) rfl)⟩, rfl⟩
theorem pf_X0_11 : z_pf RX0 true 11 0 0 := Or.inr ⟨rfl, rfl, rfl, (z_gd 113 (by decide +kernel) rfl)⟩
theorem fl_X0_26 : z_FL RX0 26 0 1 true := ⟨⟨by decide, by decide, rfl, Or.inl (z_gd 114 (by decide +kernel) rfl)⟩, rfl⟩
theorem pf_X0_26 (ini : Bool) : z_pf RX0 ini 26 0 1 := Or.inl rfl
theorem fl_X0_18 : z_FL RX0 18 0 2 true := ⟨⟨by decide, by decide, rfl, Or.inl (z_gd 116 (by decide +kernel) rfl)⟩, rfl⟩
theorem pf_X0_18 (ini : Bool) : z_pf RX0 ini 18 0 2 := Or.inl rfl
theorem fl_X6_11 : z_FL RX6 11 6 0 false := ⟨⟨by decide, by decide, rfl, Or.inl (z_gd 132 (by decide +kernel) rfl)⟩, rfl⟩
theorem pf_X6_11 : z_pf RX6 true 11 6 0 := Or.inr ⟨rfl, rfl, rfl, (z_gd 132 (by decide +kernel) rfl)⟩
theorem fl_X6_17 : z_FL RX6 17 6 1 false := ⟨⟨by decide, by decide, rfl, Or.inl (z_gd 133 (by decide +kernel) rfl)⟩, rfl⟩
theorem pf_X6_17 : z_pf RX6 true 17 6 1 := Or.inr ⟨rfl, rfl, rfl, (z_gd 133 (by decide +kernel) rfl)⟩
theorem fl_X9_24 : z_FL RX9 24 9 0 true := ⟨⟨by decide, by decide, rfl, Or.inl (z_gd 146 (by decide +kernel) rfl)⟩, rfl⟩
theorem pf_X9_24 (ini : Bool) : z_pf RX9 ini 24 9 0 := Or.inl rfl
theorem fl_X9_9 : z_FL RX9 9 9 1 false := ⟨⟨by decide, by decide, rfl, Or.inl (z_gd 147 (by decide +kernel) rfl)⟩, rfl⟩
theorem pf_X9_9 : z_pf RX9 true 9 9 1 := Or.inr ⟨rfl, rfl, rfl, (z_gd 147 (by decide +kernel) rfl)⟩
theorem fl_X9_15 : z_FL RX9 15 9 2 false := ⟨⟨by decide, by decide, rfl, Or.inl (z_gd 148 (by decide +kernel) rfl)⟩, rfl⟩
theorem pf_X9_15 : z_pf RX9 true 15 9 2 := Or.inr ⟨rfl, rfl, rfl, (z_gd 148 (by decide +kernel) rfl)⟩
theorem fl_X3_12 : z_FL RX3 12 3 0 false := ⟨⟨by decide, by decide, rfl, Or.inl (z_gd 164 (by decide +kernel) rfl)⟩, rfl⟩
theorem pf_X3_12 : z_pf RX3 true 12 3 0 := Or.inr ⟨rfl, rfl, rfl, (z_gd 164 (by decide +kernel) rfl)⟩
theorem fl_X3_18 : z_FL RX3 18 3 1 false := ⟨⟨by decide, by decide, rfl, Or.inl (z_gd 165 (by decide +kernel) rfl)⟩, rfl⟩
theorem pf_X3_18 : z_pf RX3 true 18 3 1 := Or.inr ⟨rfl, rfl, rfl, (z_gd 165 (by decide +kernel) rfl)⟩
theorem fl_X3_21 : z_FL RX3 21 3 2 false := ⟨⟨by decide, by decide, rfl, Or.inl (z_gd 166 (by decide +kernel) rfl)⟩, rfl⟩
theorem pf_X3_21 : z_pf RX3 true 21 3 2 := Or.inr ⟨rfl, rfl, rfl, (z_gd 166 (by decide +kernel) rfl)⟩
theorem fl_X3_25 : z_FL RX3 25 3 3 false := ⟨⟨by decide, by decide, rfl, Or.inl (z_gd 167 (by decide +kernel) rfl)⟩, rfl⟩
theorem pf_X3_25 : z_pf RX3 true 25 3 3 := Or.inr ⟨rfl, rfl, rfl, (z_gd 167 (by decide +kernel) rfl)⟩
theorem fl_X3_28 : z_FL RX3 28 3 4 true := ⟨⟨by decide, by decide, rfl, Or.inl (z_gd 168 (by decide +kernel) rfl)⟩, rfl⟩
theorem pf_X3_28 (ini : Bool) : z_pf RX3 ini 28 3 4 := Or.inl rfl
theorem fl_X3_32 : z_FL RX3 32 3 5 true := ⟨⟨by decide, by decide, rfl, Or.inl (z_gd 169 (by decide +kernel) rfl)⟩, rfl⟩
theorem pf_X3_32 (ini : Bool) : z_pf RX3 ini 32 3 5 := Or.inl rfl
theorem fl_X3_39 : z_FL RX3 39 3 6 true := ⟨⟨by decide, by decide, rfl, Or.inl (z_gd 170 (by decide +kernel) rfl)⟩, rfl⟩
theorem pf_X3_39 (ini : Bool) : z_pf RX3 ini 39 3 6 := Or.inl rfl
theorem fl_X3_70 : z_FL RX3 70 3 7 true := ⟨⟨by decide, by decide, rfl, Or.inl (z_gd 172 (by decide +kernel) rfl)⟩, rfl⟩
theorem pf_X3_70 (ini : Bool) : z_pf RX3 ini 70 3 7 := Or.inl rfl
theorem fl_X3_73 : z_FL RX3 73 3 8 true := ⟨⟨by decide, by decide, rfl, Or.inl (z_gd 174 (by decide +kernel) rfl)⟩, rfl⟩
theorem pf_X3_73 (ini : Bool) : z_pf RX3 ini 73 3 8 := Or.inl rfl
theorem fl_X3_76 : z_FL RX3 76 3 9 true := ⟨⟨by decide, by decide, rfl, Or.inl (z_gd 176 (by decide +kernel) rfl)⟩, rfl⟩
theorem pf_X3_76 (ini : Bool) : z_pf RX3 ini 76 3 9 := Or.inl rfl
theorem fl_X3_79 : z_FL RX3 79 3 10 true := ⟨⟨by decide, by decide, rfl, Or.inl (z_gd 178 (by decide +kernel) rfl)⟩, rfl⟩
theorem pf_X3_79 (ini : Bool) : z_pf RX3 ini 79 3 10 := Or.inl rfl
theorem fl_X10_9 : z_FL RX10 9 10 0 false := ⟨⟨by decide, by decide, rfl, Or.inl (z_gd 209 (by decide +kernel) rfl)⟩, rfl⟩
theorem pf_X10_9 (ini : Bool) : z_pf RX10 ini 9 10 0 := Or.inl rfl
theorem fl_X5_11 : z_FL RX5 11 5 0 false := ⟨⟨by decide, by decide, rfl, Or.inl (z_gd 219 (by decide +kernel) rfl)⟩, rfl⟩
theorem pf_X5_11 (ini : Bool) : z_pf RX5 ini 11 5 0 := Or.inl rfl
theorem fl_X5_15 : z_FL RX5 15 5 1 false := ⟨⟨by decide, by decide, rfl, Or.inl (z_gd 220 (by decide +kernel) rfl)⟩, rfl⟩
theorem pf_X5_15 (ini : Bool) : z_pf RX5 ini 15 5 1 := Or.inl rfl
theorem fl_X5_18 : z_FL RX5 18 5 2 true := ⟨⟨by decide, by decide, rfl, Or.inl (z_gd 221 (by decide +kernel) rfl)⟩, rfl⟩
theorem pf_X5_18 (ini : Bool) : z_pf RX5 ini 18 5 2 := Or.inl rfl
theorem fl_X2_9 : z_FL RX2 9 2 0 false := ⟨⟨by decide, by decide, rfl, Or.inl (z_gd 235 (by decide +kernel) rfl)⟩, rfl⟩
theorem pf_X2_9 : z_pf RX2 true 9 2 0 := Or.inr ⟨rfl, rfl, rfl, (z_gd 235 (by decide +kernel) rfl)⟩
theorem fl_X2_15 : z_FL RX2 15 2 1 false := ⟨⟨by decide, by decide, rfl, Or.inl (z_gd 236 (by decide +kernel) rfl)⟩, rfl⟩
theorem pf_X2_15 : z_pf RX2 true 15 2 1 := Or.inr ⟨rfl, rfl, rfl, (z_gd 236 (by decide +kernel) rfl)⟩
theorem fl_X2_24 : z_FL RX2 24 2 2 true := ⟨⟨by decide, by decide, rfl, Or.inl (z_gd 237 (by decide +kernel) rfl)⟩, rfl⟩
theorem pf_X2_24 (ini : Bool) : z_pf RX2 ini 24 2 2 := Or.inl rfl
theorem fl_X2_27 : z_FL RX2 27 2 3 true := ⟨⟨by decide, by decide, rfl, Or.inl (z_gd 238 (by decide +kernel) rfl)⟩, rfl⟩
theorem pf_X2_27 (ini : Bool) : z_pf RX2 ini 27 2 3 := Or.inl rfl
theorem fl_X1_43 : z_FL RX1 43 1 0 true := ⟨⟨by decide, by decide, rfl, Or.inl (z_gd 270 (by decide +kernel) rfl)⟩, rfl⟩
theorem pf_X1_43 (ini : Bool) : z_pf RX1 ini 43 1 0 := Or.inl rfl
theorem fl_X1_47 : z_FL RX1 47 1 1 true := ⟨⟨by decide, by decide, rfl, Or.inl (z_gd 274 (by decide +kernel) rfl)⟩, rfl⟩
theorem pf_X1_47 (ini : Bool) : z_pf RX1 ini 47 1 1 := Or.inl rfl
theorem fl_X1_50 : z_FL RX1 50 1 2 true := ⟨⟨by decide, by decide, rfl, Or.inl (z_gd 276 (by decide +kernel) rfl)⟩, rfl⟩
theorem pf_X1_50 (ini : Bool) : z_pf RX1 ini 50 1 2 := Or.inl rfl
theorem fl_X1_53 : z_FL RX1 53 1 3 true := ⟨⟨by decide, by decide, rfl, Or.inl (z_gd 279 (by decide +kernel) rfl)⟩, rfl⟩
theorem pf_X1_53 (ini : Bool) : z_pf RX1 ini 53 1 3 := Or.inl rfl
theorem fl_X1_9 : z_FL RX1 9 1 4 false := ⟨⟨by decide, by decide, rfl, Or.inl (z_gd 282 (by decide +kernel) rfl)⟩, rfl⟩
theorem pf_X1_9 : z_pf RX1 true 9 1 4 := Or.inr ⟨rfl, rfl, rfl, (z_gd 282 (by decide +kernel) rfl)⟩
theorem fl_X1_15 : z_FL RX1 15 1 5 false := ⟨⟨by decide, by decide, rfl, Or.inl (z_gd 283 (by decide +kernel) rfl)⟩, rfl⟩
theorem pf_X1_15 : z_pf RX1 true 15 1 5 := Or.inr ⟨rfl, rfl, rfl, (z_gd 283 (by decide +kernel) rfl)⟩
theorem fl_X1_18 : z_FL RX1 18 1 6 false := ⟨⟨by decide, by decide, rfl, Or.inl (z_gd 284 (by decide +kernel) rfl)⟩, rfl⟩
theorem pf_X1_18 : z_pf RX1 true 18 1 6 := Or.inr ⟨rfl, rfl, rfl, (z_gd 284 (by decide +kernel) rfl)⟩
theorem fl_X1_21 : z_FL RX1 21 1 7 false := ⟨⟨by decide, by decide, rfl, Or.inl (z_gd 285 (by decide +kernel) rfl)⟩, rfl⟩
theorem pf_X1_21 : z_pf RX1 true 21 1 7 := Or.inr ⟨rfl, rfl, rfl, (z_gd 285 (by decide +kernel) rfl)⟩
theorem fl_X1_24 : z_FL RX1 24 1 8 false := ⟨⟨by decide, by decide, rfl, Or.inl (z_gd 286 (by decide +kernel) rfl)⟩, rfl⟩
theorem pf_X1_24 : z_pf RX1 true 24 1 8 := Or.inr ⟨rfl, rfl, rfl, (z_gd 286 (by decide +kernel) rfl)⟩
theorem fl_X11_10 : z_FL RX11 10 11 0 false := ⟨⟨by decide, by decide, rfl, Or.inl (z_gd 306 (by decide +kernel) rfl)⟩, rfl⟩
theorem pf_X11_10 : z_pf RX11 true 10 11 0 := Or.inr ⟨rfl, rfl, rfl, (z_gd 306 (by decide +kernel) rfl)⟩
theorem fl_X11_19 : z_FL RX11 19 11 1 false := ⟨⟨by decide, by decide, rfl, Or.inl (z_gd 307 (by decide +kernel) rfl)⟩, rfl⟩
theorem pf_X11_19 : z_pf RX11 true 19 11 1 := Or.inr ⟨rfl, rfl, rfl, (z_gd 307 (by decide +kernel) rfl)⟩
theorem fl_X11_26 : z_FL RX11 26 11 2 false := ⟨⟨by decide, by decide, rfl, Or.inl (z_gd 308 (by decide +kernel) rfl)⟩, rfl⟩
theorem pf_X11_26 : z_pf RX11 true 26 11 2 := Or.inr ⟨rfl, rfl, rfl, (z_gd 308 (by decide +kernel) rfl)⟩
theorem fl_X11_33 : z_FL RX11 33 11 3 false := ⟨⟨by decide, by decide, rfl, Or.inl (z_gd 309 (by decide +kernel) rfl)⟩, rfl⟩
theorem pf_X11_33 : z_pf RX11 true 33 11 3 := Or.inr ⟨rfl, rfl, rfl, (z_gd 309 (by decide +kernel) rfl)⟩
theorem fl_X11_40 : z_FL RX11 40 11 4 false := ⟨⟨by decide, by decide, rfl, Or.inl (z_gd 310 (by decide +kernel) rfl)⟩, rfl⟩
theorem pf_X11_40 : z_pf RX11 true 40 11 4 := Or.inr ⟨rfl, rfl, rfl, (z_gd 310 (by decide +kernel) rfl)⟩
theorem fl_X11_47 : z_FL RX11 47 11 5 false := ⟨⟨by decide, by decide, rfl, Or.inl (z_gd 311 (by decide +kernel) rfl)⟩, rfl⟩
theorem pf_X11_47 : z_pf RX11 true 47 11 5 := Or.inr ⟨rfl, rfl, rfl, (z_gd 311 (by decide +kernel) rfl)⟩
theorem fl_X11_54 : z_FL RX11 54 11 6 false := ⟨⟨by decide, by decide, rfl, Or.inl (z_gd 312 (by decide +kernel) rfl)⟩, rfl⟩
theorem pf_X11_54 : z_pf RX11 true 54 11 6 := Or.inr ⟨rfl, rfl, rfl, (z_gd 312 (by decide +kernel) rfl)⟩
theorem fl_X11_61 : z_FL RX11 61 11 7 false := ⟨⟨by decide, by decide, rfl, Or.inl (z_gd 313 (by decide +kernel) rfl)⟩, rfl⟩
theorem pf_X11_61 : z_pf RX11 true 61 11 7 := Or.inr ⟨rfl, rfl, rfl, (z_gd 313 (by decide +kernel) rfl)⟩
theorem fl_X11_68 : z_FL RX11 68 11 8 false := ⟨⟨by decide, by decide, rfl, Or.inl (z_gd 314 (by decide +kernel) rfl)⟩, rfl⟩
theorem pf_X11_68 : z_pf RX11 true 68 11 8 := Or.inr ⟨rfl, rfl, rfl, (z_gd 314 (by decide +kernel) rfl)⟩
theorem fl_X11_72 : z_FL RX11 72 11 9 false := ⟨⟨by decide, by decide, rfl, Or.inl (z_gd 315 (by decide +kernel) rfl)⟩, rfl⟩
theorem pf_X11_72 : z_pf RX11 true 72 11 9 := Or.inr ⟨rfl, rfl, rfl, (z_gd 315 (by decide +kernel) rfl)⟩
theorem fl_X11_79 : z_FL RX11 79 11 10 false := ⟨⟨by decide, by decide, rfl, Or.inl (z_gd 316 (by decide +kernel) rfl)⟩, rfl⟩
theorem pf_X11_79 (ini : Bool) : z_pf RX11 ini 79 11 10 := Or.inl rfl
theorem fl_X11_83 : z_FL RX11 83 11 11 false := ⟨⟨by decide, by decide, rfl, Or.inl (z_gd 317 (by decide +kernel) rfl)⟩, rfl⟩
theorem pf_X11_83 (ini : Bool) : z_pf RX11 ini 83 11 11 := Or.inl rfl
theorem fl_X12_104 : z_FL RX12 104 12 0 true := ⟨⟨by decide, by decide, rfl, Or.inl (z_gd 782 (by decide +kernel) rfl)⟩, rfl⟩
theorem pf_X12_104 (ini : Bool) : z_pf RX12 ini 104 12 0 := Or.inl rfl
theorem fl_X12_7 : z_FL RX12 7 12 1 false := ⟨⟨by decide, by decide, rfl, Or.inl (z_gd 783 (by decide +kernel) rfl)⟩, rfl⟩
theorem pf_X12_7 : z_pf RX12 true 7 12 1 := Or.inr ⟨rfl, rfl, rfl, (z_gd 783 (by decide +kernel) rfl)⟩
theorem fl_X12_116 : z_FL RX12 116 12 2 true := ⟨⟨by decide, by decide, rfl, Or.inl (z_gd 784 (by decide +kernel) rfl)⟩, rfl⟩
theorem pf_X12_116 (ini : Bool) : z_pf RX12 ini 116 12 2 := Or.inl rfl
theorem fl_X12_119 : z_FL RX12 119 12 3 true := ⟨⟨by decide, by decide, rfl, Or.inl (z_gd 785 (by decide +kernel) rfl)⟩, rfl⟩
theorem pf_X12_119 (ini : Bool) : z_pf RX12 ini 119 12 3 := Or.inl rfl
theorem fl_X12_13 : z_FL RX12 13 12 4 true := ⟨⟨by decide, by decide, rfl, Or.inl (z_gd 786 (by decide +kernel) rfl)⟩, rfl⟩
theorem pf_X12_13 (ini : Bool) : z_pf RX12 ini 13 12 4 := Or.inl rfl
theorem fl_X12_159 : z_FL RX12 159 12 5 true := ⟨⟨by decide, by decide, rfl, Or.inl (z_gd 787 (by decide +kernel) rfl)⟩, rfl⟩
theorem pf_X12_159 (ini : Bool) : z_pf RX12 ini 159 12 5 := Or.inl rfl
theorem fl_X12_162 : z_FL RX12 162 12 6 true := ⟨⟨by decide, by decide, rfl, Or.inl (z_gd 788 (by decide +kernel) rfl)⟩, rfl⟩
theorem pf_X12_162 (ini : Bool) : z_pf RX12 ini 162 12 6 := Or.inl rfl
theorem fl_X12_17 : z_FL RX12 17 12 7 false := ⟨⟨by decide, by decide, rfl, Or.inl (z_gd 789 (by decide +kernel) rfl)⟩, rfl⟩
theorem pf_X12_17 : z_pf RX12 true 17 12 7 := Or.inr ⟨rfl, rfl, rfl, (z_gd 789 (by decide +kernel) rfl)⟩
theorem fl_X12_111 : z_FL RX12 111 12 8 true := ⟨⟨by decide, by decide, rfl, Or.inl (z_gd 790 (by decide +kernel) rfl)⟩, rfl⟩
theorem pf_X12_111 (ini : Bool) : z_pf RX12 ini 111 12 8 := Or.inl rfl
theorem fl_X12_20 : z_FL RX12 20 12 9 false := ⟨⟨by decide, by decide, rfl, Or.inl (z_gd 791 (by decide +kernel) rfl)⟩, rfl⟩
theorem pf_X12_20 : z_pf RX12 true 20 12 9 := Or.inr ⟨rfl, rfl, rfl, (z_gd 791 (by decide +kernel) rfl)⟩
theorem fl_X12_23 : z_FL RX12 23 12 10 false := ⟨⟨by decide, by decide, rfl, Or.inl (z_gd 792 (by decide +kernel) rfl)⟩, rfl⟩
theorem pf_X12_23 : z_pf RX12 true 23 12 10 := Or.inr ⟨rfl, rfl, rfl, (z_gd 792 (by decide +kernel) rfl)⟩
theorem fl_X12_26 : z_FL RX12 26 12 11 false := ⟨⟨by decide, by decide, rfl, Or.inl (z_gd 793 (by decide +kernel) rfl)⟩, rfl⟩
theorem pf_X12_26 : z_pf RX12 true 26 12 11 := Or.inr ⟨rfl, rfl, rfl, (z_gd 793 (by decide +kernel) rfl)⟩
theorem fl_X12_122 : z_FL RX12 122 12 12 true := ⟨⟨by decide, by decide, rfl, Or.inl (z_gd 794 (by decide +kernel) rfl)⟩, rfl⟩
theorem pf_X12_122 (ini : Bool) : z_pf RX12 ini 122 12 12 := Or.inl rfl
theorem fl_X12_149 : z_FL RX12 149 12 13 true := ⟨⟨by decide, by decide, rfl, Or.inl (z_gd 795 (by decide +kernel) rfl)⟩, rfl⟩
theorem pf_X12_149 (ini : Bool) : z_pf RX12 ini 149 12 13 := Or.inl rfl
theorem fl_X12_133 : z_FL RX12 133 12 14 true := ⟨⟨by decide, by decide, rfl, Or.inl (z_gd 796 (by decide +kernel) rfl)⟩, rfl⟩
theorem pf_X12_133 (ini : Bool) : z_pf RX12 ini 133 12 14 := Or.inl rfl
theorem fl_X12_136 : z_FL RX12 136 12 15 true := ⟨⟨by decide, by decide, rfl, Or.inl (z_gd 797 (by decide +kernel) rfl)⟩, rfl⟩
theorem pf_X12_136 (ini : Bool) : z_pf RX12 ini 136 12 15 := Or.inl rfl
theorem fl_X12_29 : z_FL RX12 29 12 16 false := ⟨⟨by decide, by decide, rfl, Or.inl (z_gd 798 (by decide +kernel) rfl)⟩, rfl⟩
theorem pf_X12_29 : z_pf RX12 true 29 12 16 := Or.inr ⟨rfl, rfl, rfl, (z_gd 798 (by decide +kernel) rfl)⟩
theorem fl_X12_32 : z_FL RX12 32 12 17 false := ⟨⟨by decide, by decide, rfl, Or.inl (z_gd 799 (by decide +kernel) rfl)⟩, rfl⟩
theorem pf_X12_32 : z_pf RX12 true 32 12 17 := Or.inr ⟨rfl, rfl, rfl, (z_gd 799 (by decide +kernel) rfl)⟩
theorem fl_X12_35 : z_FL RX12 35 12 18 false := ⟨⟨by decide, by decide, rfl, Or.inl (z_gd 800 (by decide +kernel) rfl)⟩, rfl⟩
theorem pf_X12_35 : z_pf RX12 true 35 12 18 := Or.inr ⟨rfl, rfl, rfl, (z_gd 800 (by decide +kernel) rfl)⟩
theorem fl_X12_38 : z_FL RX12 38 12 19 false := ⟨⟨by decide, by decide, rfl, Or.inl (z_gd 801 (by decide +kernel) rfl)⟩, rfl⟩
theorem pf_X12_38 : z_pf RX12 true 38 12 19 := Or.inr ⟨rfl, rfl, rfl, (z_gd 801 (by decide +kernel) rfl)⟩
theorem fl_X12_41 : z_FL RX12 41 12 20 false := ⟨⟨by decide, by decide, rfl, Or.inl (z_gd 802 (by decide +kernel) rfl)⟩, rfl⟩
theorem pf_X12_41 : z_pf RX12 true 41 12 20 := Or.inr ⟨rfl, rfl, rfl, (z_gd 802 (by decide +kernel) rfl)⟩
theorem fl_X12_165 : z_FL RX12 165 12 21 true := ⟨⟨by decide, by decide, rfl, Or.inl (z_gd 803 (by decide +kernel) rfl)⟩, rfl⟩
theorem pf_X12_165 (ini : Bool) : z_pf RX12 ini 165 12 21 := Or.inl rfl
theorem fl_X12_168 : z_FL RX12 168 12 22 true := ⟨⟨by decide, by decide, rfl, Or.inl (z_gd 804 (by decide +kernel) rfl)⟩, rfl⟩
theorem pf_X12_168 (ini : Bool) : z_pf RX12 ini 168 12 22 := Or.inl rfl
theorem fl_X12_171 : z_FL RX12 171 12 23 true := ⟨⟨by decide, by decide, rfl, Or.inl (z_gd 805 (by decide +kernel) rfl)⟩, rfl⟩
theorem pf_X12_171 (ini : Bool) : z_pf RX12 ini 171 12 23 := Or.inl rfl
theorem fl_X12_174 : z_FL RX12 174 12 24 true := ⟨⟨by decide, by decide, rfl, Or.inl (z_gd 806 (by decide +kernel) rfl)⟩, rfl⟩
theorem pf_X12_174 (ini : Bool) : z_pf RX12 ini 174 12 24 := Or.inl rfl
theorem fl_X12_44 : z_FL RX12 44 12 25 false := ⟨⟨by decide, by decide, rfl, Or.inl (z_gd 807 (by decide +kernel) rfl)⟩, rfl⟩
theorem pf_X12_44 : z_pf RX12 true 44 12 25 := Or.inr ⟨rfl, rfl, rfl, (z_gd 807 (by decide +kernel) rfl)⟩
theorem fl_X12_47 : z_FL RX12 47 12 26 false := ⟨⟨by decide, by decide, rfl, Or.inl (z_gd 808 (by decide +kernel) rfl)⟩, rfl⟩
theorem pf_X12_47 : z_pf RX12 true 47 12 26 := Or.inr ⟨rfl, rfl, rfl, (z_gd 808 (by decide +kernel) rfl)⟩
theorem fl_X12_177 : z_FL RX12 177 12 27 true := ⟨⟨by decide, by decide, rfl, Or.inl (z_gd 809 (by decide +kernel) rfl)⟩, rfl⟩
theorem pf_X12_177 (ini : Bool) : z_pf RX12 ini 177 12 27 := Or.inl rfl
theorem fl_X12_50 : z_FL RX12 50 12 28 false := ⟨⟨by decide, by decide, rfl, Or.inl (z_gd 810 (by decide +kernel) rfl)⟩, rfl⟩
theorem pf_X12_50 : z_pf RX12 true 50 12 28 := Or.inr ⟨rfl, rfl, rfl, (z_gd 810 (by decide +kernel) rfl)⟩
theorem fl_X12_53 : z_FL RX12 53 12 29 false := ⟨⟨by decide, by decide, rfl, Or.inl (z_gd 811 (by decide +kernel) rfl)⟩, rfl⟩
theorem pf_X12_53 : z_pf RX12 true 53 12 29 := Or.inr ⟨rfl, rfl, rfl, (z_gd 811 (by decide +kernel) rfl)⟩
theorem fl_X12_57 : z_FL RX12 57 12 30 false := ⟨⟨by decide, by decide, rfl, Or.inl (z_gd 812 (by decide +kernel) rfl)⟩, rfl⟩
theorem pf_X12_57 : z_pf RX12 true 57 12 30 := Or.inr ⟨rfl, rfl, rfl, (z_gd 812 (by decide +kernel) rfl)⟩
theorem fl_X12_60 : z_FL RX12 60 12 31 false := ⟨⟨by decide, by decide, rfl, Or.inl (z_gd 813 (by decide +kernel) rfl)⟩, rfl⟩
theorem pf_X12_60 : z_pf RX12 true 60 12 31 := Or.inr ⟨rfl, rfl, rfl, (z_gd 813 (by decide +kernel) rfl)⟩
theorem fl_X12_223 : z_FL RX12 223 12 32 true := ⟨⟨by decide, by decide, rfl, Or.inl (z_gd 814 (by decide +kernel) rfl)⟩, rfl⟩
theorem pf_X12_223 (ini : Bool) : z_pf RX12 ini 223 12 32 := Or.inl rfl
theorem fl_X12_226 : z_FL RX12 226 12 33 true := ⟨⟨by decide, by decide, rfl, Or.inl (z_gd 815 (by decide +kernel) rfl)⟩, rfl⟩
theorem pf_X12_226 (ini : Bool) : z_pf RX12 ini 226 12 33 := Or.inl rfl
theorem fl_X12_229 : z_FL RX12 229 12 34 true := ⟨⟨by decide, by decide, rfl, Or.inl (z_gd 816 (by decide +kernel) rfl)⟩, rfl⟩
theorem pf_X12_229 (ini : Bool) : z_pf RX12 ini 229 12 34 := Or.inl rfl
theorem fl_X12_232 : z_FL RX12 232 12 35 true := ⟨⟨by decide, by decide, rfl, Or.inl (z_gd 817 (by decide +kernel) rfl)⟩, rfl⟩
theorem pf_X12_232 (ini : Bool) : z_pf RX12 ini 232 12 35 := Or.inl rfl
theorem fl_X12_63 : z_FL RX12 63 12 36 false := ⟨⟨by decide, by decide, rfl, Or.inl (z_gd 818 (by decide +kernel) rfl)⟩, rfl⟩
theorem pf_X12_63 : z_pf RX12 true 63 12 36 := Or.inr ⟨rfl, rfl, rfl, (z_gd 818 (by decide +kernel) rfl)⟩
theorem fl_X12_66 : z_FL RX12 66 12 37 false := ⟨⟨by decide, by decide, rfl, Or.inl (z_gd 819 (by decide +kernel) rfl)⟩, rfl⟩
theorem pf_X12_66 : z_pf RX12 true 66 12 37 := Or.inr ⟨rfl, rfl, rfl, (z_gd 819 (by decide +kernel) rfl)⟩
theorem fl_X12_69 : z_FL RX12 69 12 38 false := ⟨⟨by decide, by decide, rfl, Or.inl (z_gd 820 (by decide +kernel) rfl)⟩, rfl⟩
theorem pf_X12_69 : z_pf RX12 true 69 12 38 := Or.inr ⟨rfl, rfl, rfl, (z_gd 820 (by decide +kernel) rfl)⟩
theorem fl_X12_72 : z_FL RX12 72 12 39 false := ⟨⟨by decide, by decide, rfl, Or.inl (z_gd 821 (by decide +kernel) rfl)⟩, rfl⟩
theorem pf_X12_72 : z_pf RX12 true 72 12 39 := Or.inr ⟨rfl, rfl, rfl, (z_gd 821 (by decide +kernel) rfl)⟩
theorem fl_X12_75 : z_FL RX12 75 12 40 false := ⟨⟨by decide, by decide, rfl, Or.inl (z_gd 822 (by decide +kernel) rfl)⟩, rfl⟩
theorem pf_X12_75 : z_pf RX12 true 75 12 40 := Or.inr ⟨rfl, rfl, rfl, (z_gd 822 (by decide +kernel) rfl)⟩
theorem fl_X12_78 : z_FL RX12 78 12 41 false := ⟨⟨by decide, by decide, rfl, Or.inl (z_gd 823 (by decide +kernel) rfl)⟩, rfl⟩
theorem pf_X12_78 : z_pf RX12 true 78 12 41 := Or.inr ⟨rfl, rfl, rfl, (z_gd 823 (by decide +kernel) rfl)⟩
theorem fl_X12_81 : z_FL RX12 81 12 42 false := ⟨⟨by decide, by decide, rfl, Or.inl (z_gd 824 (by decide +kernel) rfl)⟩, rfl⟩
theorem pf_X12_81 : z_pf RX12 true 81 12 42 := Or.inr ⟨rfl, rfl, rfl, (z_gd 824 (by decide +kernel) rfl)⟩
theorem fl_X12_84 : z_FL RX12 84 12 43 false := ⟨⟨by decide, by decide, rfl, Or.inl (z_gd 825 (by decide +kernel) rfl)⟩, rfl⟩
theorem pf_X12_84 : z_pf RX12 true 84 12 43 := Or.inr ⟨rfl, rfl, rfl, (z_gd 825 (by decide +kernel) rfl)⟩
theorem fl_X12_87 : z_FL RX12 87 12 44 false := ⟨⟨by decide, by decide, rfl, Or.inl (z_gd 826 (by decide +kernel) rfl)⟩, rfl⟩
theorem pf_X12_87 : z_pf RX12 true 87 12 44 := Or.inr ⟨rfl, rfl, rfl, (z_gd 826 (by decide +kernel) rfl)⟩
theorem fl_X12_90 : z_FL RX12 90 12 45 false := ⟨⟨by decide, by decide, rfl, Or.inl (z_gd 827 (by decide +kernel) rfl)⟩, rfl⟩
theorem pf_X12_90 : z_pf RX12 true 90 12 45 := Or.inr ⟨rfl, rfl, rfl, (z_gd 827 (by decide +kernel) rfl)⟩
theorem fl_X12_93 : z_FL RX12 93 12 46 false := ⟨⟨by decide, by decide, rfl, Or.inl (z_gd 828 (by decide +kernel) rfl)⟩, rfl⟩
theorem pf_X12_93 : z_pf RX12 true 93 12 46 := Or.inr ⟨rfl, rfl, rfl, (z_gd 828 (by decide +kernel) rfl)⟩
theorem fl_X12_96 : z_FL RX12 96 12 47 false := ⟨⟨by decide, by decide, rfl, Or.inl (z_gd 829 (by decide +kernel) rfl)⟩, rfl⟩
theorem pf_X12_96 : z_pf RX12 true 96 12 47 := Or.inr ⟨rfl, rfl, rfl, (z_gd 829 (by decide +kernel) rfl)⟩
theorem fl_X12_100 : z_FL RX12 100 12 48 false := ⟨⟨by decide, by decide, rfl, Or.inl (z_gd 830 (by decide +kernel) rfl)⟩, rfl⟩
theorem pf_X12_100 : z_pf RX12 true 100 12 48 := Or.inr ⟨rfl, rfl, rfl, (z_gd 830 (by decide +kernel) rfl)⟩
theorem fl_X11_127 : z_FL RX11 127 7 2 true := ⟨⟨by decide, by decide, rfl, Or.inr ⟨"StepsShared", (z_ns 82 (by decide +kernel) rfl)⟩⟩, rfl⟩
theorem pf_X11_127 (ini : Bool) : z_pf RX11 ini 127 7 2 := Or.inl rfl
theorem fl_X11_130 : z_FL RX11 130 7 3 true := ⟨⟨by decide, by decide, rfl, Or.inr ⟨"StepsShared", (z_ns 84 (by decide +kernel) rfl)⟩⟩, rfl⟩
theorem pf_X11_130 (ini : Bool) : z_pf RX11 ini 130 7 3 := Or.inl rfl
theorem fl_X11_140 : z_FL RX11 140 7 5 true := ⟨⟨by decide, by decide, rfl, Or.inr ⟨"StepsShared", (z_ns 87 (by decide +kernel) rfl)⟩⟩, rfl⟩
theorem pf_X11_140 (ini : Bool) : z_pf RX11 ini 140 7 5 := Or.inl rfl
theorem fl_X11_137 : z_FL RX11 137 0 1 true := ⟨⟨by decide, by decide, rfl, Or.inr ⟨"StepsShared", (z_ns 115 (by decide +kernel) rfl)⟩⟩, rfl⟩
theorem pf_X11_137 (ini : Bool) : z_pf RX11 ini 137 0 1 := Or.inl rfl
theorem fl_X11_236 : z_FL RX11 236 3 6 true := ⟨⟨by decide, by decide, rfl, Or.inr ⟨"StepsShared", (z_ns 171 (by decide +kernel) rfl)⟩⟩, rfl⟩
theorem pf_X11_236 (ini : Bool) : z_pf RX11 ini 236 3 6 := Or.inl rfl
theorem fl_X11_240 : z_FL RX11 240 3 7 true := ⟨⟨by decide, by decide, rfl, Or.inr ⟨"StepsShared", (z_ns 173 (by decide +kernel) rfl)⟩⟩, rfl⟩
theorem pf_X11_240 (ini : Bool) : z_pf RX11 ini 240 3 7 := Or.inl rfl
theorem fl_X11_243 : z_FL RX11 243 3 8 true := ⟨⟨by decide, by decide, rfl, Or.inr ⟨"StepsShared", (z_ns 175 (by decide +kernel) rfl)⟩⟩, rfl⟩
theorem pf_X11_243 (ini : Bool) : z_pf RX11 ini 243 3 8 := Or.inl rfl
theorem fl_X11_244 : z_FL RX11 244 3 9 true := ⟨⟨by decide, by decide, rfl, Or.inr ⟨"StepsShared", (z_ns 177 (by decide +kernel) rfl)⟩⟩, rfl⟩
theorem pf_X11_244 (ini : Bool) : z_pf RX11 ini 244 3 9 := Or.inl rfl
theorem fl_X11_247 : z_FL RX11 247 3 10 true := ⟨⟨by decide, by decide, rfl, Or.inr ⟨"StepsShared", (z_ns 179 (by decide +kernel) rfl)⟩⟩, rfl⟩
theorem pf_X11_247 (ini : Bool) : z_pf RX11 ini 247 3 10 := Or.inl rfl
theorem fl_X11_287 : z_FL RX11 287 2 3 true := ⟨⟨by decide, by decide, rfl, Or.inr ⟨"StepsShared", (z_ns 239 (by decide +kernel) rfl)⟩⟩, rfl⟩
theorem pf_X11_287 (ini : Bool) : z_pf RX11 ini 287 2 3 := Or.inl rfl
theorem fl_X9_29 : z_FL RX9 29 1 0 true := ⟨⟨by decide, by decide, rfl, Or.inr ⟨"StepsShared", (z_ns 271 (by decide +kernel) rfl)⟩⟩, rfl⟩
theorem pf_X9_29 (ini : Bool) : z_pf RX9 ini 29 1 0 := Or.inl rfl
theorem fl_X5_42 : z_FL RX5 42 1 0 true := ⟨⟨by decide, by decide, rfl, Or.inr ⟨"StepsShared", (z_ns 272 (by decide +kernel) rfl)⟩⟩, rfl⟩
theorem pf_X5_42 (ini : Bool) : z_pf RX5 ini 42 1 0 := Or.inl rfl
theorem fl_X11_118 : z_FL RX11 118 1 0 true := ⟨⟨by decide, by decide, rfl, Or.inr ⟨"StepsShared", (z_ns 273 (by decide +kernel) rfl)⟩⟩, rfl⟩
theorem pf_X11_118 (ini : Bool) : z_pf RX11 ini 118 1 0 := Or.inl rfl
theorem fl_X11_106 : z_FL RX11 106 1 1 true := ⟨⟨by decide, by decide, rfl, Or.inr ⟨"StepsShared", (z_ns 275 (by decide +kernel) rfl)⟩⟩, rfl⟩
theorem pf_X11_106 (ini : Bool) : z_pf RX11 ini 106 1 1 := Or.inl rfl
theorem fl_X11_124 : z_FL RX11 124 1 2 true := ⟨⟨by decide, by decide, rfl, Or.inr ⟨"StepsShared", (z_ns 277 (by decide +kernel) rfl)⟩⟩, rfl⟩
theorem pf_X11_124 (ini : Bool) : z_pf RX11 ini 124 1 2 := Or.inl rfl
theorem fl_X2_18 : z_FL RX2 18 1 3 true := ⟨⟨by decide, by decide, rfl, Or.inr ⟨"StepsShared", (z_ns 278 (by decide +kernel) rfl)⟩⟩, rfl⟩
theorem pf_X2_18 (ini : Bool) : z_pf RX2 ini 18 1 3 := Or.inl rfl
theorem fl_X3_43 : z_FL RX3 43 1 3 true := ⟨⟨by decide, by decide, rfl, Or.inr ⟨"StepsShared", (z_ns 280 (by decide +kernel) rfl)⟩⟩, rfl⟩
theorem pf_X3_43 (ini : Bool) : z_pf RX3 ini 43 1 3 := Or.inl rfl
theorem fl_X11_121 : z_FL RX11 121 1 3 true := ⟨⟨by decide, by decide, rfl, Or.inr ⟨"StepsShared", (z_ns 281 (by decide +kernel) rfl)⟩⟩, rfl⟩
theorem pf_X11_121 (ini : Bool) : z_pf RX11 ini 121 1 3 := Or.inl rfl
theorem mi_L_9 : z_MI RL 9 yX11_init cX11_init 1 0 := ⟨⟨Or.inl (z_gd 53 (by decide +kernel) rfl), (z_gd 36 (by decide +kernel) rfl), (z_gd 55 (by decide +kernel) rfl), by decide +kernel, by decide +kernel, by decide +kernel⟩, (z_gd 54 (by decide +kernel) rfl), rfl, by decide⟩
theorem oi_X11_1 : Cond.methodLink RX11 1 Lib.objectInit ∈ z_good := (z_gd 56 (by decide +kernel) rfl)
theorem oi_X8_3 : Cond.methodLink RX8 3 Lib.objectInit ∈ z_good := (z_gd 64 (by decide +kernel) rfl)
theorem oi_X7_3 : Cond.methodLink RX7 3 Lib.objectInit ∈ z_good := (z_gd 78 (by decide +kernel) rfl)
theorem oi_X0_3 : Cond.methodLink RX0 3 Lib.objectInit ∈ z_good := (z_gd 109 (by decide +kernel) rfl)
theorem oi_X6_3 : Cond.methodLink RX6 3 Lib.objectInit ∈ z_good := (z_gd 129 (by decide +kernel) rfl)
theorem oi_X9_3 : Cond.methodLink RX9 3 Lib.objectInit ∈ z_good := (z_gd 145 (by decide +kernel) rfl)
end
section
theorem oi_X3_3 : Cond.methodLink RX3 3 Lib.objectInit ∈ z_good := (z_gd 161 (by decide +kernel) rfl)
theorem oi_X10_3 : Cond.methodLink RX10 3 Lib.objectInit ∈ z_good := (z_gd 208 (by decide +kernel) rfl)
theorem oi_X5_3 : Cond.methodLink RX5 3 Lib.objectInit ∈ z_good := (z_gd 218 (by decide +kernel) rfl)
theorem oi_X2_3 : Cond.methodLink RX2 3 Lib.objectInit ∈ z_good := (z_gd 234 (by decide +kernel) rfl)
theorem oi_X1_3 : Cond.methodLink RX1 3 Lib.objectInit ∈ z_good := (z_gd 254 (by decide +kernel) rfl)
theorem mv_X1_27 : z_MV RX1 27 1 yX1_begin cX1_begin 4 none 2 := ⟨⟨Or.inl (z_gd 255 (by decide +kernel) rfl), (z_gd 46 (by decide +kernel) rfl), (z_gd 258 (by decide +kernel) rfl), by decide +kernel, by decide +kernel, by decide +kernel⟩, (z_gd 257 (by decide +kernel) rfl), (z_gd 0 (by decide +kernel) rfl), by decide, rfl, by decide⟩
theorem ms_X1_34 : z_MS RX1 34 yJ9_min_7cf53 cJ9_min_7cf53 2 (some .int) 2 := ⟨⟨Or.inl (z_gd 259 (by decide +kernel) rfl), (z_gd 47 (by decide +kernel) rfl), (z_gd 261 (by decide +kernel) rfl), by decide +kernel, by decide +kernel, by decide +kernel⟩, (z_gd 260 (by decide +kernel) rfl), by decide⟩
theorem ms_X1_40 : z_MS RX1 40 yJ9_max_7cf53 cJ9_max_7cf53 2 (some .int) 2 := ⟨⟨Or.inl (z_gd 262 (by decide +kernel) rfl), (z_gd 47 (by decide +kernel) rfl), (z_gd 264 (by decide +kernel) rfl), by decide +kernel, by decide +kernel, by decide +kernel⟩, (z_gd 263 (by decide +kernel) rfl), by decide⟩
theorem mv_X1_31 : z_MV RX1 31 1 yX1_measure cX1_measure 5 none 0 := ⟨⟨Or.inl (z_gd 265 (by decide +kernel) rfl), (z_gd 46 (by decide +kernel) rfl), (z_gd 268 (by decide +kernel) rfl), by decide +kernel, by decide +kernel, by decide +kernel⟩, (z_gd 267 (by decide +kernel) rfl), (z_gd 1 (by decide +kernel) rfl), by decide, rfl, by decide⟩
theorem mv_L_15 : z_MV RL 15 11 yX11_write cX11_write 4 (some .int) 2 := ⟨⟨Or.inl (z_gd 343 (by decide +kernel) rfl), (z_gd 36 (by decide +kernel) rfl), (z_gd 346 (by decide +kernel) rfl), by decide +kernel, by decide +kernel, by decide +kernel⟩, (z_gd 344 (by decide +kernel) rfl), (z_gd 345 (by decide +kernel) rfl), by decide, rfl, by decide⟩
theorem mv_X11_86 : z_MV RX11 86 8 yX8_size cX8_size 1 (some .int) 0 := ⟨⟨Or.inl (z_gd 347 (by decide +kernel) rfl), (z_gd 37 (by decide +kernel) rfl), (z_gd 350 (by decide +kernel) rfl), by decide +kernel, by decide +kernel, by decide +kernel⟩, (z_gd 348 (by decide +kernel) rfl), (z_gd 349 (by decide +kernel) rfl), by decide, rfl, by decide⟩
theorem mv_X11_90 : z_MV RX11 90 8 yX8_append cX8_append 5 none 2 := ⟨⟨Or.inl (z_gd 351 (by decide +kernel) rfl), (z_gd 37 (by decide +kernel) rfl), (z_gd 354 (by decide +kernel) rfl), by decide +kernel, by decide +kernel, by decide +kernel⟩, (z_gd 352 (by decide +kernel) rfl), (z_gd 353 (by decide +kernel) rfl), by decide, rfl, by decide⟩
theorem mv_L_20 : z_MV RL 20 11 yX11_wipe cX11_wipe 2 (some .int) 0 := ⟨⟨Or.inl (z_gd 355 (by decide +kernel) rfl), (z_gd 36 (by decide +kernel) rfl), (z_gd 358 (by decide +kernel) rfl), by decide +kernel, by decide +kernel, by decide +kernel⟩, (z_gd 356 (by decide +kernel) rfl), (z_gd 357 (by decide +kernel) rfl), by decide, rfl, by decide⟩
theorem mv_X11_94 : z_MV RX11 94 8 yX8_empty cX8_empty 1 none 0 := ⟨⟨Or.inl (z_gd 359 (by decide +kernel) rfl), (z_gd 37 (by decide +kernel) rfl), (z_gd 362 (by decide +kernel) rfl), by decide +kernel, by decide +kernel, by decide +kernel⟩, (z_gd 360 (by decide +kernel) rfl), (z_gd 361 (by decide +kernel) rfl), by decide, rfl, by decide⟩
theorem mv_L_25 : z_MV RL 25 11 yX11_fault cX11_fault 1 (some .int) 0 := ⟨⟨Or.inl (z_gd 363 (by decide +kernel) rfl), (z_gd 36 (by decide +kernel) rfl), (z_gd 366 (by decide +kernel) rfl), by decide +kernel, by decide +kernel, by decide +kernel⟩, (z_gd 364 (by decide +kernel) rfl), (z_gd 365 (by decide +kernel) rfl), by decide, rfl, by decide⟩
theorem ms_X11_97 : z_MS RX11 97 yX4_firstFault cX4_firstFault 8 (some .int) 2 := ⟨⟨Or.inl (z_gd 367 (by decide +kernel) rfl), (z_gd 49 (by decide +kernel) rfl), (z_gd 369 (by decide +kernel) rfl), by decide +kernel, by decide +kernel, by decide +kernel⟩, (z_gd 368 (by decide +kernel) rfl), by decide⟩
theorem mv_X4_9 : z_MV RX4 9 8 yX8_size cX8_size 1 (some .int) 0 := ⟨⟨Or.inl (z_gd 370 (by decide +kernel) rfl), (z_gd 37 (by decide +kernel) rfl), (z_gd 350 (by decide +kernel) rfl), by decide +kernel, by decide +kernel, by decide +kernel⟩, (z_gd 348 (by decide +kernel) rfl), (z_gd 349 (by decide +kernel) rfl), by decide, rfl, by decide⟩
theorem ms_X4_15 : z_MS RX4 15 yX4_headFault cX4_headFault 2 (some .int) 1 := ⟨⟨Or.inl (z_gd 371 (by decide +kernel) rfl), (z_gd 49 (by decide +kernel) rfl), (z_gd 373 (by decide +kernel) rfl), by decide +kernel, by decide +kernel, by decide +kernel⟩, (z_gd 372 (by decide +kernel) rfl), by decide⟩
theorem ms_X4_41 : z_MS RX4 41 yX4_fitsHead cX4_fitsHead 3 (some .boolean) 2 := ⟨⟨Or.inl (z_gd 374 (by decide +kernel) rfl), (z_gd 49 (by decide +kernel) rfl), (z_gd 376 (by decide +kernel) rfl), by decide +kernel, by decide +kernel, by decide +kernel⟩, (z_gd 375 (by decide +kernel) rfl), by decide⟩
theorem mv_X4_31 : z_MV RX4 31 8 yX8_signAt cX8_signAt 2 (some .int) 1 := ⟨⟨Or.inl (z_gd 377 (by decide +kernel) rfl), (z_gd 37 (by decide +kernel) rfl), (z_gd 380 (by decide +kernel) rfl), by decide +kernel, by decide +kernel, by decide +kernel⟩, (z_gd 378 (by decide +kernel) rfl), (z_gd 379 (by decide +kernel) rfl), by decide, rfl, by decide⟩
theorem mv_X4_21 : z_MV RX4 21 8 yX8_figureAt cX8_figureAt 3 (some .int) 1 := ⟨⟨Or.inl (z_gd 381 (by decide +kernel) rfl), (z_gd 37 (by decide +kernel) rfl), (z_gd 384 (by decide +kernel) rfl), by decide +kernel, by decide +kernel, by decide +kernel⟩, (z_gd 382 (by decide +kernel) rfl), (z_gd 383 (by decide +kernel) rfl), by decide, rfl, by decide⟩
theorem mv_X8_19 : z_MV RX8 19 8 yX8_signAt cX8_signAt 2 (some .int) 1 := ⟨⟨Or.inl (z_gd 385 (by decide +kernel) rfl), (z_gd 37 (by decide +kernel) rfl), (z_gd 380 (by decide +kernel) rfl), by decide +kernel, by decide +kernel, by decide +kernel⟩, (z_gd 378 (by decide +kernel) rfl), (z_gd 379 (by decide +kernel) rfl), by decide, rfl, by decide⟩
theorem ms_X4_34 : z_MS RX4 34 yX4_readRoad cX4_readRoad 7 (some .int) 3 := ⟨⟨Or.inl (z_gd 387 (by decide +kernel) rfl), (z_gd 49 (by decide +kernel) rfl), (z_gd 389 (by decide +kernel) rfl), by decide +kernel, by decide +kernel, by decide +kernel⟩, (z_gd 388 (by decide +kernel) rfl), by decide⟩
theorem mv_X4_45 : z_MV RX4 45 1 yX1_hasRoomForRoad cX1_hasRoomForRoad 1 (some .boolean) 0 := ⟨⟨Or.inl (z_gd 390 (by decide +kernel) rfl), (z_gd 46 (by decide +kernel) rfl), (z_gd 393 (by decide +kernel) rfl), by decide +kernel, by decide +kernel, by decide +kernel⟩, (z_gd 391 (by decide +kernel) rfl), (z_gd 392 (by decide +kernel) rfl), by decide, rfl, by decide⟩
theorem mv_X4_49 : z_MV RX4 49 1 yX1_hasFreePairAt cX1_hasFreePairAt 3 (some .boolean) 1 := ⟨⟨Or.inl (z_gd 394 (by decide +kernel) rfl), (z_gd 46 (by decide +kernel) rfl), (z_gd 397 (by decide +kernel) rfl), by decide +kernel, by decide +kernel, by decide +kernel⟩, (z_gd 395 (by decide +kernel) rfl), (z_gd 396 (by decide +kernel) rfl), by decide, rfl, by decide⟩
theorem mv_X1_60 : z_MV RX1 60 1 yX1_isFreePair cX1_isFreePair 3 (some .boolean) 2 := ⟨⟨Or.inl (z_gd 398 (by decide +kernel) rfl), (z_gd 46 (by decide +kernel) rfl), (z_gd 401 (by decide +kernel) rfl), by decide +kernel, by decide +kernel, by decide +kernel⟩, (z_gd 399 (by decide +kernel) rfl), (z_gd 400 (by decide +kernel) rfl), by decide, rfl, by decide⟩
theorem mv_X1_56 : z_MV RX1 56 1 yX1_isPlace cX1_isPlace 2 (some .boolean) 1 := ⟨⟨Or.inl (z_gd 402 (by decide +kernel) rfl), (z_gd 46 (by decide +kernel) rfl), (z_gd 405 (by decide +kernel) rfl), by decide +kernel, by decide +kernel, by decide +kernel⟩, (z_gd 403 (by decide +kernel) rfl), (z_gd 404 (by decide +kernel) rfl), by decide, rfl, by decide⟩
theorem mv_X4_53 : z_MV RX4 53 1 yX1_isFreePair cX1_isFreePair 3 (some .boolean) 2 := ⟨⟨Or.inl (z_gd 406 (by decide +kernel) rfl), (z_gd 46 (by decide +kernel) rfl), (z_gd 401 (by decide +kernel) rfl), by decide +kernel, by decide +kernel, by decide +kernel⟩, (z_gd 399 (by decide +kernel) rfl), (z_gd 400 (by decide +kernel) rfl), by decide, rfl, by decide⟩
theorem mv_X4_57 : z_MV RX4 57 1 yX1_addRoad cX1_addRoad 4 none 3 := ⟨⟨Or.inl (z_gd 407 (by decide +kernel) rfl), (z_gd 46 (by decide +kernel) rfl), (z_gd 410 (by decide +kernel) rfl), by decide +kernel, by decide +kernel, by decide +kernel⟩, (z_gd 408 (by decide +kernel) rfl), (z_gd 409 (by decide +kernel) rfl), by decide, rfl, by decide⟩
theorem ms_X4_38 : z_MS RX4 38 yX4_readErrand cX4_readErrand 6 (some .int) 3 := ⟨⟨Or.inl (z_gd 411 (by decide +kernel) rfl), (z_gd 49 (by decide +kernel) rfl), (z_gd 413 (by decide +kernel) rfl), by decide +kernel, by decide +kernel, by decide +kernel⟩, (z_gd 412 (by decide +kernel) rfl), by decide⟩
theorem mv_X4_61 : z_MV RX4 61 1 yX1_hasRoomForErrand cX1_hasRoomForErrand 1 (some .boolean) 0 := ⟨⟨Or.inl (z_gd 414 (by decide +kernel) rfl), (z_gd 46 (by decide +kernel) rfl), (z_gd 417 (by decide +kernel) rfl), by decide +kernel, by decide +kernel, by decide +kernel⟩, (z_gd 415 (by decide +kernel) rfl), (z_gd 416 (by decide +kernel) rfl), by decide, rfl, by decide⟩
theorem mv_X4_64 : z_MV RX4 64 1 yX1_isPlace cX1_isPlace 2 (some .boolean) 1 := ⟨⟨Or.inl (z_gd 418 (by decide +kernel) rfl), (z_gd 46 (by decide +kernel) rfl), (z_gd 405 (by decide +kernel) rfl), by decide +kernel, by decide +kernel, by decide +kernel⟩, (z_gd 403 (by decide +kernel) rfl), (z_gd 404 (by decide +kernel) rfl), by decide, rfl, by decide⟩
theorem mv_X4_67 : z_MV RX4 67 1 yX1_addErrand cX1_addErrand 4 none 3 := ⟨⟨Or.inl (z_gd 419 (by decide +kernel) rfl), (z_gd 46 (by decide +kernel) rfl), (z_gd 422 (by decide +kernel) rfl), by decide +kernel, by decide +kernel, by decide +kernel⟩, (z_gd 420 (by decide +kernel) rfl), (z_gd 421 (by decide +kernel) rfl), by decide, rfl, by decide⟩
theorem mv_X1_64 : z_MV RX1 64 1 yX1_hasRoomForErrand cX1_hasRoomForErrand 1 (some .boolean) 0 := ⟨⟨Or.inl (z_gd 423 (by decide +kernel) rfl), (z_gd 46 (by decide +kernel) rfl), (z_gd 417 (by decide +kernel) rfl), by decide +kernel, by decide +kernel, by decide +kernel⟩, (z_gd 415 (by decide +kernel) rfl), (z_gd 416 (by decide +kernel) rfl), by decide, rfl, by decide⟩
theorem mv_L_29 : z_MV RL 29 11 yX11_day cX11_day 2 (some .int) 0 := ⟨⟨Or.inl (z_gd 424 (by decide +kernel) rfl), (z_gd 36 (by decide +kernel) rfl), (z_gd 427 (by decide +kernel) rfl), by decide +kernel, by decide +kernel, by decide +kernel⟩, (z_gd 425 (by decide +kernel) rfl), (z_gd 426 (by decide +kernel) rfl), by decide, rfl, by decide⟩
theorem mv_X11_110 : z_MV RX11 110 7 yX7_begin cX7_begin 2 none 1 := ⟨⟨Or.inl (z_gd 429 (by decide +kernel) rfl), (z_gd 38 (by decide +kernel) rfl), (z_gd 432 (by decide +kernel) rfl), by decide +kernel, by decide +kernel, by decide +kernel⟩, (z_gd 430 (by decide +kernel) rfl), (z_gd 431 (by decide +kernel) rfl), by decide, rfl, by decide⟩
theorem mv_X11_114 : z_MV RX11 114 0 yX0_forget cX0_forget 1 none 0 := ⟨⟨Or.inl (z_gd 433 (by decide +kernel) rfl), (z_gd 39 (by decide +kernel) rfl), (z_gd 436 (by decide +kernel) rfl), by decide +kernel, by decide +kernel, by decide +kernel⟩, (z_gd 434 (by decide +kernel) rfl), (z_gd 435 (by decide +kernel) rfl), by decide, rfl, by decide⟩
theorem mv_X11_117 : z_MV RX11 117 6 yX6_forget cX6_forget 2 none 0 := ⟨⟨Or.inl (z_gd 437 (by decide +kernel) rfl), (z_gd 40 (by decide +kernel) rfl), (z_gd 440 (by decide +kernel) rfl), by decide +kernel, by decide +kernel, by decide +kernel⟩, (z_gd 438 (by decide +kernel) rfl), (z_gd 439 (by decide +kernel) rfl), by decide, rfl, by decide⟩
theorem mv_L_33 : z_MV RL 33 11 yX11_about cX11_about 2 (some .int) 1 := ⟨⟨Or.inl (z_gd 441 (by decide +kernel) rfl), (z_gd 36 (by decide +kernel) rfl), (z_gd 444 (by decide +kernel) rfl), by decide +kernel, by decide +kernel, by decide +kernel⟩, (z_gd 442 (by decide +kernel) rfl), (z_gd 443 (by decide +kernel) rfl), by decide, rfl, by decide⟩
theorem mv_X11_133 : z_MV RX11 133 1 yX1_worthOfSet cX1_worthOfSet 4 (some .int) 1 := ⟨⟨Or.inl (z_gd 445 (by decide +kernel) rfl), (z_gd 46 (by decide +kernel) rfl), (z_gd 448 (by decide +kernel) rfl), by decide +kernel, by decide +kernel, by decide +kernel⟩, (z_gd 446 (by decide +kernel) rfl), (z_gd 447 (by decide +kernel) rfl), by decide, rfl, by decide⟩
theorem mv_X1_78 : z_MV RX1 78 1 yX1_worthOf cX1_worthOf 2 (some .int) 1 := ⟨⟨Or.inl (z_gd 449 (by decide +kernel) rfl), (z_gd 46 (by decide +kernel) rfl), (z_gd 452 (by decide +kernel) rfl), by decide +kernel, by decide +kernel, by decide +kernel⟩, (z_gd 450 (by decide +kernel) rfl), (z_gd 451 (by decide +kernel) rfl), by decide, rfl, by decide⟩
theorem mv_X1_72 : z_MV RX1 72 1 yX1_isErrand cX1_isErrand 2 (some .boolean) 1 := ⟨⟨Or.inl (z_gd 453 (by decide +kernel) rfl), (z_gd 46 (by decide +kernel) rfl), (z_gd 456 (by decide +kernel) rfl), by decide +kernel, by decide +kernel, by decide +kernel⟩, (z_gd 454 (by decide +kernel) rfl), (z_gd 455 (by decide +kernel) rfl), by decide, rfl, by decide⟩
theorem mv_X11_143 : z_MV RX11 143 7 yX7_owedToThem cX7_owedToThem 3 (some .int) 0 := ⟨⟨Or.inl (z_gd 457 (by decide +kernel) rfl), (z_gd 38 (by decide +kernel) rfl), (z_gd 460 (by decide +kernel) rfl), by decide +kernel, by decide +kernel, by decide +kernel⟩, (z_gd 458 (by decide +kernel) rfl), (z_gd 459 (by decide +kernel) rfl), by decide, rfl, by decide⟩
theorem ms_X7_40 : z_MS RX7 40 yX7_owedFor cX7_owedFor 3 (some .int) 1 := ⟨⟨Or.inl (z_gd 461 (by decide +kernel) rfl), (z_gd 38 (by decide +kernel) rfl), (z_gd 463 (by decide +kernel) rfl), by decide +kernel, by decide +kernel, by decide +kernel⟩, (z_gd 462 (by decide +kernel) rfl), by decide⟩
theorem ms_X7_34 : z_MS RX7 34 yJ9_abs_0f7a4 cJ9_abs_0f7a4 1 (some .int) 1 := ⟨⟨Or.inl (z_gd 464 (by decide +kernel) rfl), (z_gd 47 (by decide +kernel) rfl), (z_gd 466 (by decide +kernel) rfl), by decide +kernel, by decide +kernel, by decide +kernel⟩, (z_gd 465 (by decide +kernel) rfl), by decide⟩
theorem mv_L_38 : z_MV RL 38 11 yX11_at cX11_at 2 (some .int) 1 := ⟨⟨Or.inl (z_gd 467 (by decide +kernel) rfl), (z_gd 36 (by decide +kernel) rfl), (z_gd 470 (by decide +kernel) rfl), by decide +kernel, by decide +kernel, by decide +kernel⟩, (z_gd 468 (by decide +kernel) rfl), (z_gd 469 (by decide +kernel) rfl), by decide, rfl, by decide⟩
theorem ms_X11_146 : z_MS RX11 146 yX11_isWalker cX11_isWalker 1 (some .boolean) 1 := ⟨⟨Or.inl (z_gd 471 (by decide +kernel) rfl), (z_gd 36 (by decide +kernel) rfl), (z_gd 473 (by decide +kernel) rfl), by decide +kernel, by decide +kernel, by decide +kernel⟩, (z_gd 472 (by decide +kernel) rfl), by decide⟩
theorem mv_X11_150 : z_MV RX11 150 7 yX7_placeOf cX7_placeOf 2 (some .int) 1 := ⟨⟨Or.inl (z_gd 474 (by decide +kernel) rfl), (z_gd 38 (by decide +kernel) rfl), (z_gd 477 (by decide +kernel) rfl), by decide +kernel, by decide +kernel, by decide +kernel⟩, (z_gd 475 (by decide +kernel) rfl), (z_gd 476 (by decide +kernel) rfl), by decide, rfl, by decide⟩
theorem mv_L_42 : z_MV RL 42 11 yX11_far cX11_far 3 (some .int) 2 := ⟨⟨Or.inl (z_gd 478 (by decide +kernel) rfl), (z_gd 36 (by decide +kernel) rfl), (z_gd 481 (by decide +kernel) rfl), by decide +kernel, by decide +kernel, by decide +kernel⟩, (z_gd 479 (by decide +kernel) rfl), (z_gd 480 (by decide +kernel) rfl), by decide, rfl, by decide⟩
theorem mv_X11_153 : z_MV RX11 153 1 yX1_isPlace cX1_isPlace 2 (some .boolean) 1 := ⟨⟨Or.inl (z_gd 482 (by decide +kernel) rfl), (z_gd 46 (by decide +kernel) rfl), (z_gd 405 (by decide +kernel) rfl), by decide +kernel, by decide +kernel, by decide +kernel⟩, (z_gd 403 (by decide +kernel) rfl), (z_gd 404 (by decide +kernel) rfl), by decide, rfl, by decide⟩
theorem mv_X11_156 : z_MV RX11 156 1 yX1_between cX1_between 3 (some .int) 2 := ⟨⟨Or.inl (z_gd 483 (by decide +kernel) rfl), (z_gd 46 (by decide +kernel) rfl), (z_gd 486 (by decide +kernel) rfl), by decide +kernel, by decide +kernel, by decide +kernel⟩, (z_gd 484 (by decide +kernel) rfl), (z_gd 485 (by decide +kernel) rfl), by decide, rfl, by decide⟩
theorem ms_X11_160 : z_MS RX11 160 yX11_toldSteps cX11_toldSteps 1 (some .int) 1 := ⟨⟨Or.inl (z_gd 487 (by decide +kernel) rfl), (z_gd 36 (by decide +kernel) rfl), (z_gd 489 (by decide +kernel) rfl), by decide +kernel, by decide +kernel, by decide +kernel⟩, (z_gd 488 (by decide +kernel) rfl), by decide⟩
theorem mv_L_47 : z_MV RL 47 11 yX11_errand cX11_errand 3 (some .int) 2 := ⟨⟨Or.inl (z_gd 491 (by decide +kernel) rfl), (z_gd 36 (by decide +kernel) rfl), (z_gd 494 (by decide +kernel) rfl), by decide +kernel, by decide +kernel, by decide +kernel⟩, (z_gd 492 (by decide +kernel) rfl), (z_gd 493 (by decide +kernel) rfl), by decide, rfl, by decide⟩
theorem mv_X11_163 : z_MV RX11 163 1 yX1_isErrand cX1_isErrand 2 (some .boolean) 1 := ⟨⟨Or.inl (z_gd 495 (by decide +kernel) rfl), (z_gd 46 (by decide +kernel) rfl), (z_gd 456 (by decide +kernel) rfl), by decide +kernel, by decide +kernel, by decide +kernel⟩, (z_gd 454 (by decide +kernel) rfl), (z_gd 455 (by decide +kernel) rfl), by decide, rfl, by decide⟩
theorem mv_X11_166 : z_MV RX11 166 1 yX1_siteOf cX1_siteOf 2 (some .int) 1 := ⟨⟨Or.inl (z_gd 496 (by decide +kernel) rfl), (z_gd 46 (by decide +kernel) rfl), (z_gd 499 (by decide +kernel) rfl), by decide +kernel, by decide +kernel, by decide +kernel⟩, (z_gd 497 (by decide +kernel) rfl), (z_gd 498 (by decide +kernel) rfl), by decide, rfl, by decide⟩
theorem mv_X11_169 : z_MV RX11 169 1 yX1_worthOf cX1_worthOf 2 (some .int) 1 := ⟨⟨Or.inl (z_gd 500 (by decide +kernel) rfl), (z_gd 46 (by decide +kernel) rfl), (z_gd 452 (by decide +kernel) rfl), by decide +kernel, by decide +kernel, by decide +kernel⟩, (z_gd 450 (by decide +kernel) rfl), (z_gd 451 (by decide +kernel) rfl), by decide, rfl, by decide⟩
theorem mv_X11_172 : z_MV RX11 172 1 yX1_doerOf cX1_doerOf 2 (some .int) 1 := ⟨⟨Or.inl (z_gd 501 (by decide +kernel) rfl), (z_gd 46 (by decide +kernel) rfl), (z_gd 504 (by decide +kernel) rfl), by decide +kernel, by decide +kernel, by decide +kernel⟩, (z_gd 502 (by decide +kernel) rfl), (z_gd 503 (by decide +kernel) rfl), by decide, rfl, by decide⟩
theorem mv_X11_175 : z_MV RX11 175 7 yX7_isDone cX7_isDone 2 (some .boolean) 1 := ⟨⟨Or.inl (z_gd 505 (by decide +kernel) rfl), (z_gd 38 (by decide +kernel) rfl), (z_gd 508 (by decide +kernel) rfl), by decide +kernel, by decide +kernel, by decide +kernel⟩, (z_gd 506 (by decide +kernel) rfl), (z_gd 507 (by decide +kernel) rfl), by decide, rfl, by decide⟩
theorem mv_X11_178 : z_MV RX11 178 7 yX7_whoDid cX7_whoDid 2 (some .int) 1 := ⟨⟨Or.inl (z_gd 509 (by decide +kernel) rfl), (z_gd 38 (by decide +kernel) rfl), (z_gd 512 (by decide +kernel) rfl), by decide +kernel, by decide +kernel, by decide +kernel⟩, (z_gd 510 (by decide +kernel) rfl), (z_gd 511 (by decide +kernel) rfl), by decide, rfl, by decide⟩
theorem mv_L_51 : z_MV RL 51 11 yX11_walk cX11_walk 4 (some .int) 2 := ⟨⟨Or.inl (z_gd 513 (by decide +kernel) rfl), (z_gd 36 (by decide +kernel) rfl), (z_gd 516 (by decide +kernel) rfl), by decide +kernel, by decide +kernel, by decide +kernel⟩, (z_gd 514 (by decide +kernel) rfl), (z_gd 515 (by decide +kernel) rfl), by decide, rfl, by decide⟩
theorem mv_X11_181 : z_MV RX11 181 11 yX11_walkCost cX11_walkCost 3 (some .int) 2 := ⟨⟨Or.inl (z_gd 517 (by decide +kernel) rfl), (z_gd 36 (by decide +kernel) rfl), (z_gd 520 (by decide +kernel) rfl), by decide +kernel, by decide +kernel, by decide +kernel⟩, (z_gd 519 (by decide +kernel) rfl), (z_gd 2 (by decide +kernel) rfl), by decide, rfl, by decide⟩
theorem mv_X11_184 : z_MV RX11 184 0 yX0_remember cX0_remember 2 none 1 := ⟨⟨Or.inl (z_gd 521 (by decide +kernel) rfl), (z_gd 39 (by decide +kernel) rfl), (z_gd 524 (by decide +kernel) rfl), by decide +kernel, by decide +kernel, by decide +kernel⟩, (z_gd 522 (by decide +kernel) rfl), (z_gd 523 (by decide +kernel) rfl), by decide, rfl, by decide⟩
theorem mv_X0_22 : z_MV RX0 22 7 yX7_copyOf cX7_copyOf 3 none 1 := ⟨⟨Or.inl (z_gd 525 (by decide +kernel) rfl), (z_gd 38 (by decide +kernel) rfl), (z_gd 528 (by decide +kernel) rfl), by decide +kernel, by decide +kernel, by decide +kernel⟩, (z_gd 526 (by decide +kernel) rfl), (z_gd 527 (by decide +kernel) rfl), by decide, rfl, by decide⟩
theorem mv_X11_188 : z_MV RX11 188 7 yX7_move cX7_move 3 none 2 := ⟨⟨Or.inl (z_gd 529 (by decide +kernel) rfl), (z_gd 38 (by decide +kernel) rfl), (z_gd 532 (by decide +kernel) rfl), by decide +kernel, by decide +kernel, by decide +kernel⟩, (z_gd 530 (by decide +kernel) rfl), (z_gd 531 (by decide +kernel) rfl), by decide, rfl, by decide⟩
theorem mv_L_55 : z_MV RL 55 11 yX11_carry cX11_carry 4 (some .int) 2 := ⟨⟨Or.inl (z_gd 533 (by decide +kernel) rfl), (z_gd 36 (by decide +kernel) rfl), (z_gd 536 (by decide +kernel) rfl), by decide +kernel, by decide +kernel, by decide +kernel⟩, (z_gd 534 (by decide +kernel) rfl), (z_gd 535 (by decide +kernel) rfl), by decide, rfl, by decide⟩
theorem mv_L_59 : z_MV RL 59 11 yX11_done cX11_done 3 (some .int) 2 := ⟨⟨Or.inl (z_gd 537 (by decide +kernel) rfl), (z_gd 36 (by decide +kernel) rfl), (z_gd 540 (by decide +kernel) rfl), by decide +kernel, by decide +kernel, by decide +kernel⟩, (z_gd 538 (by decide +kernel) rfl), (z_gd 539 (by decide +kernel) rfl), by decide, rfl, by decide⟩
theorem mv_X11_192 : z_MV RX11 192 1 yX1_canDo cX1_canDo 3 (some .boolean) 2 := ⟨⟨Or.inl (z_gd 541 (by decide +kernel) rfl), (z_gd 46 (by decide +kernel) rfl), (z_gd 544 (by decide +kernel) rfl), by decide +kernel, by decide +kernel, by decide +kernel⟩, (z_gd 542 (by decide +kernel) rfl), (z_gd 543 (by decide +kernel) rfl), by decide, rfl, by decide⟩
theorem mv_X11_196 : z_MV RX11 196 7 yX7_markDone cX7_markDone 3 none 2 := ⟨⟨Or.inl (z_gd 545 (by decide +kernel) rfl), (z_gd 38 (by decide +kernel) rfl), (z_gd 548 (by decide +kernel) rfl), by decide +kernel, by decide +kernel, by decide +kernel⟩, (z_gd 546 (by decide +kernel) rfl), (z_gd 547 (by decide +kernel) rfl), by decide, rfl, by decide⟩
theorem mv_L_63 : z_MV RL 63 11 yX11_loan cX11_loan 3 (some .int) 2 := ⟨⟨Or.inl (z_gd 549 (by decide +kernel) rfl), (z_gd 36 (by decide +kernel) rfl), (z_gd 552 (by decide +kernel) rfl), by decide +kernel, by decide +kernel, by decide +kernel⟩, (z_gd 550 (by decide +kernel) rfl), (z_gd 551 (by decide +kernel) rfl), by decide, rfl, by decide⟩
theorem mv_X11_199 : z_MV RX11 199 7 yX7_addLoan cX7_addLoan 2 none 1 := ⟨⟨Or.inl (z_gd 553 (by decide +kernel) rfl), (z_gd 38 (by decide +kernel) rfl), (z_gd 556 (by decide +kernel) rfl), by decide +kernel, by decide +kernel, by decide +kernel⟩, (z_gd 554 (by decide +kernel) rfl), (z_gd 555 (by decide +kernel) rfl), by decide, rfl, by decide⟩
theorem mv_L_68 : z_MV RL 68 11 yX11_back cX11_back 1 (some .int) 0 := ⟨⟨Or.inl (z_gd 557 (by decide +kernel) rfl), (z_gd 36 (by decide +kernel) rfl), (z_gd 560 (by decide +kernel) rfl), by decide +kernel, by decide +kernel, by decide +kernel⟩, (z_gd 558 (by decide +kernel) rfl), (z_gd 559 (by decide +kernel) rfl), by decide, rfl, by decide⟩
theorem mv_X11_202 : z_MV RX11 202 7 yX7_owedForFirstLoan cX7_owedForFirstLoan 1 (some .int) 0 := ⟨⟨Or.inl (z_gd 561 (by decide +kernel) rfl), (z_gd 38 (by decide +kernel) rfl), (z_gd 564 (by decide +kernel) rfl), by decide +kernel, by decide +kernel, by decide +kernel⟩, (z_gd 562 (by decide +kernel) rfl), (z_gd 563 (by decide +kernel) rfl), by decide, rfl, by decide⟩
theorem mv_X11_205 : z_MV RX11 205 7 yX7_giveFirstLoanBack cX7_giveFirstLoanBack 2 none 0 := ⟨⟨Or.inl (z_gd 565 (by decide +kernel) rfl), (z_gd 38 (by decide +kernel) rfl), (z_gd 568 (by decide +kernel) rfl), by decide +kernel, by decide +kernel, by decide +kernel⟩, (z_gd 566 (by decide +kernel) rfl), (z_gd 567 (by decide +kernel) rfl), by decide, rfl, by decide⟩
theorem mv_X7_43 : z_MV RX7 43 7 yX7_owedForFirstLoan cX7_owedForFirstLoan 1 (some .int) 0 := ⟨⟨Or.inl (z_gd 569 (by decide +kernel) rfl), (z_gd 38 (by decide +kernel) rfl), (z_gd 564 (by decide +kernel) rfl), by decide +kernel, by decide +kernel, by decide +kernel⟩, (z_gd 562 (by decide +kernel) rfl), (z_gd 563 (by decide +kernel) rfl), by decide, rfl, by decide⟩
theorem mv_L_72 : z_MV RL 72 11 yX11_undo cX11_undo 1 (some .int) 0 := ⟨⟨Or.inl (z_gd 570 (by decide +kernel) rfl), (z_gd 36 (by decide +kernel) rfl), (z_gd 573 (by decide +kernel) rfl), by decide +kernel, by decide +kernel, by decide +kernel⟩, (z_gd 571 (by decide +kernel) rfl), (z_gd 572 (by decide +kernel) rfl), by decide, rfl, by decide⟩
theorem mv_X11_208 : z_MV RX11 208 0 yX0_takeLastBack cX0_takeLastBack 2 none 1 := ⟨⟨Or.inl (z_gd 574 (by decide +kernel) rfl), (z_gd 39 (by decide +kernel) rfl), (z_gd 577 (by decide +kernel) rfl), by decide +kernel, by decide +kernel, by decide +kernel⟩, (z_gd 575 (by decide +kernel) rfl), (z_gd 576 (by decide +kernel) rfl), by decide, rfl, by decide⟩
theorem mv_L_76 : z_MV RL 76 11 yX11_judge cX11_judge 8 (some .int) 3 := ⟨⟨Or.inl (z_gd 578 (by decide +kernel) rfl), (z_gd 36 (by decide +kernel) rfl), (z_gd 581 (by decide +kernel) rfl), by decide +kernel, by decide +kernel, by decide +kernel⟩, (z_gd 579 (by decide +kernel) rfl), (z_gd 580 (by decide +kernel) rfl), by decide, rfl, by decide⟩
theorem mv_X11_211 : z_MV RX11 211 11 yX11_splitRow cX11_splitRow 5 (some .boolean) 2 := ⟨⟨Or.inl (z_gd 582 (by decide +kernel) rfl), (z_gd 36 (by decide +kernel) rfl), (z_gd 585 (by decide +kernel) rfl), by decide +kernel, by decide +kernel, by decide +kernel⟩, (z_gd 584 (by decide +kernel) rfl), (z_gd 3 (by decide +kernel) rfl), by decide, rfl, by decide⟩
theorem mv_L_81 : z_MV RL 81 11 yX11_tour cX11_tour 3 (some .int) 2 := ⟨⟨Or.inl (z_gd 586 (by decide +kernel) rfl), (z_gd 36 (by decide +kernel) rfl), (z_gd 589 (by decide +kernel) rfl), by decide +kernel, by decide +kernel, by decide +kernel⟩, (z_gd 587 (by decide +kernel) rfl), (z_gd 588 (by decide +kernel) rfl), by decide, rfl, by decide⟩
theorem mv_X11_214 : z_MV RX11 214 1 yX1_allErrands cX1_allErrands 1 (some .int) 0 := ⟨⟨Or.inl (z_gd 590 (by decide +kernel) rfl), (z_gd 46 (by decide +kernel) rfl), (z_gd 593 (by decide +kernel) rfl), by decide +kernel, by decide +kernel, by decide +kernel⟩, (z_gd 591 (by decide +kernel) rfl), (z_gd 592 (by decide +kernel) rfl), by decide, rfl, by decide⟩
theorem mv_X11_217 : z_MV RX11 217 11 yX11_openTo cX11_openTo 2 (some .int) 1 := ⟨⟨Or.inl (z_gd 594 (by decide +kernel) rfl), (z_gd 36 (by decide +kernel) rfl), (z_gd 597 (by decide +kernel) rfl), by decide +kernel, by decide +kernel, by decide +kernel⟩, (z_gd 596 (by decide +kernel) rfl), (z_gd 4 (by decide +kernel) rfl), by decide, rfl, by decide⟩
theorem mv_X11_250 : z_MV RX11 250 1 yX1_allFor cX1_allFor 4 (some .int) 1 := ⟨⟨Or.inl (z_gd 598 (by decide +kernel) rfl), (z_gd 46 (by decide +kernel) rfl), (z_gd 601 (by decide +kernel) rfl), by decide +kernel, by decide +kernel, by decide +kernel⟩, (z_gd 599 (by decide +kernel) rfl), (z_gd 600 (by decide +kernel) rfl), by decide, rfl, by decide⟩
theorem mv_X1_75 : z_MV RX1 75 1 yX1_canDo cX1_canDo 3 (some .boolean) 2 := ⟨⟨Or.inl (z_gd 602 (by decide +kernel) rfl), (z_gd 46 (by decide +kernel) rfl), (z_gd 544 (by decide +kernel) rfl), by decide +kernel, by decide +kernel, by decide +kernel⟩, (z_gd 542 (by decide +kernel) rfl), (z_gd 543 (by decide +kernel) rfl), by decide, rfl, by decide⟩
theorem mv_X11_220 : z_MV RX11 220 9 yX9_begin cX9_begin 7 none 3 := ⟨⟨Or.inl (z_gd 603 (by decide +kernel) rfl), (z_gd 41 (by decide +kernel) rfl), (z_gd 606 (by decide +kernel) rfl), by decide +kernel, by decide +kernel, by decide +kernel⟩, (z_gd 604 (by decide +kernel) rfl), (z_gd 605 (by decide +kernel) rfl), by decide, rfl, by decide⟩
theorem mv_X9_18 : z_MV RX9 18 1 yX1_isPlace cX1_isPlace 2 (some .boolean) 1 := ⟨⟨Or.inl (z_gd 607 (by decide +kernel) rfl), (z_gd 46 (by decide +kernel) rfl), (z_gd 405 (by decide +kernel) rfl), by decide +kernel, by decide +kernel, by decide +kernel⟩, (z_gd 403 (by decide +kernel) rfl), (z_gd 404 (by decide +kernel) rfl), by decide, rfl, by decide⟩
theorem mv_X9_32 : z_MV RX9 32 9 yX9_goOn cX9_goOn 8 none 4 := ⟨⟨Or.inl (z_gd 609 (by decide +kernel) rfl), (z_gd 41 (by decide +kernel) rfl), (z_gd 612 (by decide +kernel) rfl), by decide +kernel, by decide +kernel, by decide +kernel⟩, (z_gd 611 (by decide +kernel) rfl), (z_gd 5 (by decide +kernel) rfl), by decide, rfl, by decide⟩
theorem mv_X9_36 : z_MV RX9 36 1 yX1_between cX1_between 3 (some .int) 2 := ⟨⟨Or.inl (z_gd 613 (by decide +kernel) rfl), (z_gd 46 (by decide +kernel) rfl), (z_gd 486 (by decide +kernel) rfl), by decide +kernel, by decide +kernel, by decide +kernel⟩, (z_gd 484 (by decide +kernel) rfl), (z_gd 485 (by decide +kernel) rfl), by decide, rfl, by decide⟩
theorem ms_X9_40 : z_MS RX9 40 yJ9_min_7cf53 cJ9_min_7cf53 2 (some .int) 2 := ⟨⟨Or.inl (z_gd 614 (by decide +kernel) rfl), (z_gd 47 (by decide +kernel) rfl), (z_gd 261 (by decide +kernel) rfl), by decide +kernel, by decide +kernel, by decide +kernel⟩, (z_gd 260 (by decide +kernel) rfl), by decide⟩
theorem mv_X11_223 : z_MV RX11 223 1 yX1_placesOfSet cX1_placesOfSet 4 (some .int) 1 := ⟨⟨Or.inl (z_gd 615 (by decide +kernel) rfl), (z_gd 46 (by decide +kernel) rfl), (z_gd 618 (by decide +kernel) rfl), by decide +kernel, by decide +kernel, by decide +kernel⟩, (z_gd 616 (by decide +kernel) rfl), (z_gd 617 (by decide +kernel) rfl), by decide, rfl, by decide⟩
theorem mv_X1_82 : z_MV RX1 82 1 yX1_siteOf cX1_siteOf 2 (some .int) 1 := ⟨⟨Or.inl (z_gd 619 (by decide +kernel) rfl), (z_gd 46 (by decide +kernel) rfl), (z_gd 499 (by decide +kernel) rfl), by decide +kernel, by decide +kernel, by decide +kernel⟩, (z_gd 497 (by decide +kernel) rfl), (z_gd 498 (by decide +kernel) rfl), by decide, rfl, by decide⟩
theorem mv_X11_226 : z_MV RX11 226 9 yX9_by cX9_by 3 (some .int) 1 := ⟨⟨Or.inl (z_gd 620 (by decide +kernel) rfl), (z_gd 41 (by decide +kernel) rfl), (z_gd 623 (by decide +kernel) rfl), by decide +kernel, by decide +kernel, by decide +kernel⟩, (z_gd 621 (by decide +kernel) rfl), (z_gd 622 (by decide +kernel) rfl), by decide, rfl, by decide⟩
theorem mv_L_85 : z_MV RL 85 11 yX11_plan cX11_plan 2 (some .int) 1 := ⟨⟨Or.inl (z_gd 624 (by decide +kernel) rfl), (z_gd 36 (by decide +kernel) rfl), (z_gd 627 (by decide +kernel) rfl), by decide +kernel, by decide +kernel, by decide +kernel⟩, (z_gd 625 (by decide +kernel) rfl), (z_gd 626 (by decide +kernel) rfl), by decide, rfl, by decide⟩
theorem mv_X11_229 : z_MV RX11 229 3 yX3_offer cX3_offer 3 none 2 := ⟨⟨Or.inl (z_gd 628 (by decide +kernel) rfl), (z_gd 42 (by decide +kernel) rfl), (z_gd 631 (by decide +kernel) rfl), by decide +kernel, by decide +kernel, by decide +kernel⟩, (z_gd 629 (by decide +kernel) rfl), (z_gd 630 (by decide +kernel) rfl), by decide, rfl, by decide⟩
theorem mv_X11_232 : z_MV RX11 232 3 yX3_settle cX3_settle 9 none 5 := ⟨⟨Or.inl (z_gd 632 (by decide +kernel) rfl), (z_gd 42 (by decide +kernel) rfl), (z_gd 635 (by decide +kernel) rfl), by decide +kernel, by decide +kernel, by decide +kernel⟩, (z_gd 633 (by decide +kernel) rfl), (z_gd 634 (by decide +kernel) rfl), by decide, rfl, by decide⟩
theorem mv_X3_35 : z_MV RX3 35 9 yX9_begin cX9_begin 7 none 3 := ⟨⟨Or.inl (z_gd 636 (by decide +kernel) rfl), (z_gd 41 (by decide +kernel) rfl), (z_gd 606 (by decide +kernel) rfl), by decide +kernel, by decide +kernel, by decide +kernel⟩, (z_gd 604 (by decide +kernel) rfl), (z_gd 605 (by decide +kernel) rfl), by decide, rfl, by decide⟩
theorem mv_X3_48 : z_MV RX3 48 1 yX1_worthOfSet cX1_worthOfSet 4 (some .int) 1 := ⟨⟨Or.inl (z_gd 637 (by decide +kernel) rfl), (z_gd 46 (by decide +kernel) rfl), (z_gd 448 (by decide +kernel) rfl), by decide +kernel, by decide +kernel, by decide +kernel⟩, (z_gd 446 (by decide +kernel) rfl), (z_gd 447 (by decide +kernel) rfl), by decide, rfl, by decide⟩
theorem ms_X3_52 : z_MS RX3 52 yX3_isPartOf cX3_isPartOf 2 (some .boolean) 2 := ⟨⟨Or.inl (z_gd 638 (by decide +kernel) rfl), (z_gd 42 (by decide +kernel) rfl), (z_gd 640 (by decide +kernel) rfl), by decide +kernel, by decide +kernel, by decide +kernel⟩, (z_gd 639 (by decide +kernel) rfl), by decide⟩
theorem mv_X3_56 : z_MV RX3 56 1 yX1_placesOfSet cX1_placesOfSet 4 (some .int) 1 := ⟨⟨Or.inl (z_gd 641 (by decide +kernel) rfl), (z_gd 46 (by decide +kernel) rfl), (z_gd 618 (by decide +kernel) rfl), by decide +kernel, by decide +kernel, by decide +kernel⟩, (z_gd 616 (by decide +kernel) rfl), (z_gd 617 (by decide +kernel) rfl), by decide, rfl, by decide⟩
theorem mv_X3_59 : z_MV RX3 59 9 yX9_by cX9_by 3 (some .int) 1 := ⟨⟨Or.inl (z_gd 642 (by decide +kernel) rfl), (z_gd 41 (by decide +kernel) rfl), (z_gd 623 (by decide +kernel) rfl), by decide +kernel, by decide +kernel, by decide +kernel⟩, (z_gd 621 (by decide +kernel) rfl), (z_gd 622 (by decide +kernel) rfl), by decide, rfl, by decide⟩
theorem mv_X3_63 : z_MV RX3 63 3 yX3_tryWith cX3_tryWith 7 none 4 := ⟨⟨Or.inl (z_gd 644 (by decide +kernel) rfl), (z_gd 42 (by decide +kernel) rfl), (z_gd 647 (by decide +kernel) rfl), by decide +kernel, by decide +kernel, by decide +kernel⟩, (z_gd 646 (by decide +kernel) rfl), (z_gd 6 (by decide +kernel) rfl), by decide, rfl, by decide⟩
theorem mv_X3_67 : z_MV RX3 67 3 yX3_isBetter cX3_isBetter 3 (some .boolean) 2 := ⟨⟨Or.inl (z_gd 648 (by decide +kernel) rfl), (z_gd 42 (by decide +kernel) rfl), (z_gd 651 (by decide +kernel) rfl), by decide +kernel, by decide +kernel, by decide +kernel⟩, (z_gd 650 (by decide +kernel) rfl), (z_gd 7 (by decide +kernel) rfl), by decide, rfl, by decide⟩
theorem mv_L_89 : z_MV RL 89 11 yX11_live cX11_live 4 (some .int) 0 := ⟨⟨Or.inl (z_gd 652 (by decide +kernel) rfl), (z_gd 36 (by decide +kernel) rfl), (z_gd 655 (by decide +kernel) rfl), by decide +kernel, by decide +kernel, by decide +kernel⟩, (z_gd 653 (by decide +kernel) rfl), (z_gd 654 (by decide +kernel) rfl), by decide, rfl, by decide⟩
theorem mv_L_93 : z_MV RL 93 11 yX11_byTurns cX11_byTurns 6 (some .int) 1 := ⟨⟨Or.inl (z_gd 656 (by decide +kernel) rfl), (z_gd 36 (by decide +kernel) rfl), (z_gd 659 (by decide +kernel) rfl), by decide +kernel, by decide +kernel, by decide +kernel⟩, (z_gd 657 (by decide +kernel) rfl), (z_gd 658 (by decide +kernel) rfl), by decide, rfl, by decide⟩
theorem ms_X11_253 : z_MS RX11 253 yJ6_bitCount_0f7a4 cJ6_bitCount_0f7a4 1 (some .int) 1 := ⟨⟨Or.inl (z_gd 660 (by decide +kernel) rfl), (z_gd 50 (by decide +kernel) rfl), (z_gd 662 (by decide +kernel) rfl), by decide +kernel, by decide +kernel, by decide +kernel⟩, (z_gd 661 (by decide +kernel) rfl), by decide⟩
theorem mv_X11_258 : z_MV RX11 258 10 yX10_begin cX10_begin 2 none 1 := ⟨⟨Or.inl (z_gd 666 (by decide +kernel) rfl), (z_gd 43 (by decide +kernel) rfl), (z_gd 669 (by decide +kernel) rfl), by decide +kernel, by decide +kernel, by decide +kernel⟩, (z_gd 667 (by decide +kernel) rfl), (z_gd 668 (by decide +kernel) rfl), by decide, rfl, by decide⟩
theorem mv_X11_261 : z_MV RX11 261 10 yX10_homeward cX10_homeward 2 (some .int) 1 := ⟨⟨Or.inl (z_gd 670 (by decide +kernel) rfl), (z_gd 43 (by decide +kernel) rfl), (z_gd 673 (by decide +kernel) rfl), by decide +kernel, by decide +kernel, by decide +kernel⟩, (z_gd 671 (by decide +kernel) rfl), (z_gd 672 (by decide +kernel) rfl), by decide, rfl, by decide⟩
theorem mv_X10_15 : z_MV RX10 15 1 yX1_between cX1_between 3 (some .int) 2 := ⟨⟨Or.inl (z_gd 674 (by decide +kernel) rfl), (z_gd 46 (by decide +kernel) rfl), (z_gd 486 (by decide +kernel) rfl), by decide +kernel, by decide +kernel, by decide +kernel⟩, (z_gd 484 (by decide +kernel) rfl), (z_gd 485 (by decide +kernel) rfl), by decide, rfl, by decide⟩
theorem mv_X10_21 : z_MV RX10 21 10 yX10_homeward cX10_homeward 2 (some .int) 1 := ⟨⟨Or.inl (z_gd 678 (by decide +kernel) rfl), (z_gd 43 (by decide +kernel) rfl), (z_gd 673 (by decide +kernel) rfl), by decide +kernel, by decide +kernel, by decide +kernel⟩, (z_gd 671 (by decide +kernel) rfl), (z_gd 672 (by decide +kernel) rfl), by decide, rfl, by decide⟩
theorem ms_X10_25 : z_MS RX10 25 yX10_play cX10_play 16 (some .int) 7 := ⟨⟨Or.inl (z_gd 679 (by decide +kernel) rfl), (z_gd 43 (by decide +kernel) rfl), (z_gd 677 (by decide +kernel) rfl), by decide +kernel, by decide +kernel, by decide +kernel⟩, (z_gd 676 (by decide +kernel) rfl), by decide⟩
theorem mv_X10_29 : z_MV RX10 29 1 yX1_canDo cX1_canDo 3 (some .boolean) 2 := ⟨⟨Or.inl (z_gd 680 (by decide +kernel) rfl), (z_gd 46 (by decide +kernel) rfl), (z_gd 544 (by decide +kernel) rfl), by decide +kernel, by decide +kernel, by decide +kernel⟩, (z_gd 542 (by decide +kernel) rfl), (z_gd 543 (by decide +kernel) rfl), by decide, rfl, by decide⟩
theorem mv_X10_33 : z_MV RX10 33 1 yX1_siteOf cX1_siteOf 2 (some .int) 1 := ⟨⟨Or.inl (z_gd 681 (by decide +kernel) rfl), (z_gd 46 (by decide +kernel) rfl), (z_gd 499 (by decide +kernel) rfl), by decide +kernel, by decide +kernel, by decide +kernel⟩, (z_gd 497 (by decide +kernel) rfl), (z_gd 498 (by decide +kernel) rfl), by decide, rfl, by decide⟩
theorem mv_X10_36 : z_MV RX10 36 1 yX1_worthOf cX1_worthOf 2 (some .int) 1 := ⟨⟨Or.inl (z_gd 682 (by decide +kernel) rfl), (z_gd 46 (by decide +kernel) rfl), (z_gd 452 (by decide +kernel) rfl), by decide +kernel, by decide +kernel, by decide +kernel⟩, (z_gd 450 (by decide +kernel) rfl), (z_gd 451 (by decide +kernel) rfl), by decide, rfl, by decide⟩
theorem ms_X10_39 : z_MS RX10 39 yX10_share cX10_share 2 (some .int) 2 := ⟨⟨Or.inl (z_gd 683 (by decide +kernel) rfl), (z_gd 43 (by decide +kernel) rfl), (z_gd 685 (by decide +kernel) rfl), by decide +kernel, by decide +kernel, by decide +kernel⟩, (z_gd 684 (by decide +kernel) rfl), by decide⟩
theorem ms_X11_268 : z_MS RX11 268 yX10_share cX10_share 2 (some .int) 2 := ⟨⟨Or.inl (z_gd 686 (by decide +kernel) rfl), (z_gd 43 (by decide +kernel) rfl), (z_gd 685 (by decide +kernel) rfl), by decide +kernel, by decide +kernel, by decide +kernel⟩, (z_gd 684 (by decide +kernel) rfl), by decide⟩
theorem mv_L_97 : z_MV RL 97 11 yX11_ledger cX11_ledger 7 (some .long) 3 := ⟨⟨Or.inl (z_gd 687 (by decide +kernel) rfl), (z_gd 36 (by decide +kernel) rfl), (z_gd 690 (by decide +kernel) rfl), by decide +kernel, by decide +kernel, by decide +kernel⟩, (z_gd 688 (by decide +kernel) rfl), (z_gd 689 (by decide +kernel) rfl), by decide, rfl, by decide⟩
theorem mv_X11_275 : z_MV RX11 275 5 yX5_count cX5_count 8 none 4 := ⟨⟨Or.inl (z_gd 693 (by decide +kernel) rfl), (z_gd 44 (by decide +kernel) rfl), (z_gd 696 (by decide +kernel) rfl), by decide +kernel, by decide +kernel, by decide +kernel⟩, (z_gd 694 (by decide +kernel) rfl), (z_gd 695 (by decide +kernel) rfl), by decide, rfl, by decide⟩
theorem mv_X5_22 : z_MV RX5 22 5 yX5_clear cX5_clear 4 none 1 := ⟨⟨Or.inl (z_gd 697 (by decide +kernel) rfl), (z_gd 44 (by decide +kernel) rfl), (z_gd 700 (by decide +kernel) rfl), by decide +kernel, by decide +kernel, by decide +kernel⟩, (z_gd 699 (by decide +kernel) rfl), (z_gd 8 (by decide +kernel) rfl), by decide, rfl, by decide⟩
theorem mv_X5_26 : z_MV RX5 26 1 yX1_isPlace cX1_isPlace 2 (some .boolean) 1 := ⟨⟨Or.inl (z_gd 701 (by decide +kernel) rfl), (z_gd 46 (by decide +kernel) rfl), (z_gd 405 (by decide +kernel) rfl), by decide +kernel, by decide +kernel, by decide +kernel⟩, (z_gd 403 (by decide +kernel) rfl), (z_gd 404 (by decide +kernel) rfl), by decide, rfl, by decide⟩
theorem ms_X5_32 : z_MS RX5 32 yJ9_min_7cf53 cJ9_min_7cf53 2 (some .int) 2 := ⟨⟨Or.inl (z_gd 702 (by decide +kernel) rfl), (z_gd 47 (by decide +kernel) rfl), (z_gd 261 (by decide +kernel) rfl), by decide +kernel, by decide +kernel, by decide +kernel⟩, (z_gd 260 (by decide +kernel) rfl), by decide⟩
theorem mv_X5_38 : z_MV RX5 38 1 yX1_farthest cX1_farthest 4 (some .int) 0 := ⟨⟨Or.inl (z_gd 703 (by decide +kernel) rfl), (z_gd 46 (by decide +kernel) rfl), (z_gd 706 (by decide +kernel) rfl), by decide +kernel, by decide +kernel, by decide +kernel⟩, (z_gd 704 (by decide +kernel) rfl), (z_gd 705 (by decide +kernel) rfl), by decide, rfl, by decide⟩
theorem mv_X1_69 : z_MV RX1 69 1 yX1_between cX1_between 3 (some .int) 2 := ⟨⟨Or.inl (z_gd 707 (by decide +kernel) rfl), (z_gd 46 (by decide +kernel) rfl), (z_gd 486 (by decide +kernel) rfl), by decide +kernel, by decide +kernel, by decide +kernel⟩, (z_gd 484 (by decide +kernel) rfl), (z_gd 485 (by decide +kernel) rfl), by decide, rfl, by decide⟩
theorem mv_X5_45 : z_MV RX5 45 5 yX5_goOn cX5_goOn 7 none 3 := ⟨⟨Or.inl (z_gd 708 (by decide +kernel) rfl), (z_gd 44 (by decide +kernel) rfl), (z_gd 711 (by decide +kernel) rfl), by decide +kernel, by decide +kernel, by decide +kernel⟩, (z_gd 710 (by decide +kernel) rfl), (z_gd 9 (by decide +kernel) rfl), by decide, rfl, by decide⟩
theorem mv_X5_49 : z_MV RX5 49 1 yX1_between cX1_between 3 (some .int) 2 := ⟨⟨Or.inl (z_gd 712 (by decide +kernel) rfl), (z_gd 46 (by decide +kernel) rfl), (z_gd 486 (by decide +kernel) rfl), by decide +kernel, by decide +kernel, by decide +kernel⟩, (z_gd 484 (by decide +kernel) rfl), (z_gd 485 (by decide +kernel) rfl), by decide, rfl, by decide⟩
theorem mv_X11_278 : z_MV RX11 278 5 yX5_endingAt cX5_endingAt 3 (some .int) 2 := ⟨⟨Or.inl (z_gd 714 (by decide +kernel) rfl), (z_gd 44 (by decide +kernel) rfl), (z_gd 717 (by decide +kernel) rfl), by decide +kernel, by decide +kernel, by decide +kernel⟩, (z_gd 715 (by decide +kernel) rfl), (z_gd 716 (by decide +kernel) rfl), by decide, rfl, by decide⟩
theorem mv_L_102 : z_MV RL 102 11 yX11_ends cX11_ends 6 (some .int) 3 := ⟨⟨Or.inl (z_gd 718 (by decide +kernel) rfl), (z_gd 36 (by decide +kernel) rfl), (z_gd 721 (by decide +kernel) rfl), by decide +kernel, by decide +kernel, by decide +kernel⟩, (z_gd 719 (by decide +kernel) rfl), (z_gd 720 (by decide +kernel) rfl), by decide, rfl, by decide⟩
theorem mv_L_106 : z_MV RL 106 11 yX11_chance cX11_chance 10 (some .long) 3 := ⟨⟨Or.inl (z_gd 722 (by decide +kernel) rfl), (z_gd 36 (by decide +kernel) rfl), (z_gd 725 (by decide +kernel) rfl), by decide +kernel, by decide +kernel, by decide +kernel⟩, (z_gd 723 (by decide +kernel) rfl), (z_gd 724 (by decide +kernel) rfl), by decide, rfl, by decide⟩
theorem mv_X11_281 : z_MV RX11 281 11 yX11_prepareGuess cX11_prepareGuess 2 none 1 := ⟨⟨Or.inl (z_gd 726 (by decide +kernel) rfl), (z_gd 36 (by decide +kernel) rfl), (z_gd 729 (by decide +kernel) rfl), by decide +kernel, by decide +kernel, by decide +kernel⟩, (z_gd 728 (by decide +kernel) rfl), (z_gd 10 (by decide +kernel) rfl), by decide, rfl, by decide⟩
theorem mv_X11_308 : z_MV RX11 308 2 yX2_prepare cX2_prepare 7 none 3 := ⟨⟨Or.inl (z_gd 730 (by decide +kernel) rfl), (z_gd 45 (by decide +kernel) rfl), (z_gd 733 (by decide +kernel) rfl), by decide +kernel, by decide +kernel, by decide +kernel⟩, (z_gd 731 (by decide +kernel) rfl), (z_gd 732 (by decide +kernel) rfl), by decide, rfl, by decide⟩
theorem mv_X2_30 : z_MV RX2 30 1 yX1_placesOfSet cX1_placesOfSet 4 (some .int) 1 := ⟨⟨Or.inl (z_gd 734 (by decide +kernel) rfl), (z_gd 46 (by decide +kernel) rfl), (z_gd 618 (by decide +kernel) rfl), by decide +kernel, by decide +kernel, by decide +kernel⟩, (z_gd 616 (by decide +kernel) rfl), (z_gd 617 (by decide +kernel) rfl), by decide, rfl, by decide⟩
theorem mv_X2_34 : z_MV RX2 34 9 yX9_by cX9_by 3 (some .int) 1 := ⟨⟨Or.inl (z_gd 735 (by decide +kernel) rfl), (z_gd 41 (by decide +kernel) rfl), (z_gd 623 (by decide +kernel) rfl), by decide +kernel, by decide +kernel, by decide +kernel⟩, (z_gd 621 (by decide +kernel) rfl), (z_gd 622 (by decide +kernel) rfl), by decide, rfl, by decide⟩
theorem mv_X11_284 : z_MV RX11 284 2 yX2_weightWithin cX2_weightWithin 4 (some .int) 1 := ⟨⟨Or.inl (z_gd 736 (by decide +kernel) rfl), (z_gd 45 (by decide +kernel) rfl), (z_gd 739 (by decide +kernel) rfl), by decide +kernel, by decide +kernel, by decide +kernel⟩, (z_gd 737 (by decide +kernel) rfl), (z_gd 738 (by decide +kernel) rfl), by decide, rfl, by decide⟩
theorem ms_X11_290 : z_MS RX11 290 yX11_commonDivisor cX11_commonDivisor 11 (some .long) 2 := ⟨⟨Or.inl (z_gd 740 (by decide +kernel) rfl), (z_gd 36 (by decide +kernel) rfl), (z_gd 742 (by decide +kernel) rfl), by decide +kernel, by decide +kernel, by decide +kernel⟩, (z_gd 741 (by decide +kernel) rfl), by decide⟩
theorem mv_L_111 : z_MV RL 111 11 yX11_spare cX11_spare 3 (some .int) 2 := ⟨⟨Or.inl (z_gd 743 (by decide +kernel) rfl), (z_gd 36 (by decide +kernel) rfl), (z_gd 746 (by decide +kernel) rfl), by decide +kernel, by decide +kernel, by decide +kernel⟩, (z_gd 744 (by decide +kernel) rfl), (z_gd 745 (by decide +kernel) rfl), by decide, rfl, by decide⟩
theorem mv_X11_294 : z_MV RX11 294 2 yX2_leastSteps cX2_leastSteps 6 (some .int) 1 := ⟨⟨Or.inl (z_gd 747 (by decide +kernel) rfl), (z_gd 45 (by decide +kernel) rfl), (z_gd 750 (by decide +kernel) rfl), by decide +kernel, by decide +kernel, by decide +kernel⟩, (z_gd 748 (by decide +kernel) rfl), (z_gd 749 (by decide +kernel) rfl), by decide, rfl, by decide⟩
theorem mv_X2_41 : z_MV RX2 41 2 yX2_weightWithin cX2_weightWithin 4 (some .int) 1 := ⟨⟨Or.inl (z_gd 752 (by decide +kernel) rfl), (z_gd 45 (by decide +kernel) rfl), (z_gd 739 (by decide +kernel) rfl), by decide +kernel, by decide +kernel, by decide +kernel⟩, (z_gd 737 (by decide +kernel) rfl), (z_gd 738 (by decide +kernel) rfl), by decide, rfl, by decide⟩
theorem mv_L_115 : z_MV RL 115 11 yX11_keep cX11_keep 2 (some .int) 1 := ⟨⟨Or.inl (z_gd 753 (by decide +kernel) rfl), (z_gd 36 (by decide +kernel) rfl), (z_gd 756 (by decide +kernel) rfl), by decide +kernel, by decide +kernel, by decide +kernel⟩, (z_gd 754 (by decide +kernel) rfl), (z_gd 755 (by decide +kernel) rfl), by decide, rfl, by decide⟩
theorem mv_X11_297 : z_MV RX11 297 6 yX6_put cX6_put 3 none 2 := ⟨⟨Or.inl (z_gd 757 (by decide +kernel) rfl), (z_gd 40 (by decide +kernel) rfl), (z_gd 760 (by decide +kernel) rfl), by decide +kernel, by decide +kernel, by decide +kernel⟩, (z_gd 758 (by decide +kernel) rfl), (z_gd 759 (by decide +kernel) rfl), by decide, rfl, by decide⟩
theorem mv_X6_22 : z_MV RX6 22 7 yX7_copyOf cX7_copyOf 3 none 1 := ⟨⟨Or.inl (z_gd 761 (by decide +kernel) rfl), (z_gd 38 (by decide +kernel) rfl), (z_gd 528 (by decide +kernel) rfl), by decide +kernel, by decide +kernel, by decide +kernel⟩, (z_gd 526 (by decide +kernel) rfl), (z_gd 527 (by decide +kernel) rfl), by decide, rfl, by decide⟩
theorem mv_L_119 : z_MV RL 119 11 yX11_again cX11_again 2 (some .int) 1 := ⟨⟨Or.inl (z_gd 762 (by decide +kernel) rfl), (z_gd 36 (by decide +kernel) rfl), (z_gd 765 (by decide +kernel) rfl), by decide +kernel, by decide +kernel, by decide +kernel⟩, (z_gd 763 (by decide +kernel) rfl), (z_gd 764 (by decide +kernel) rfl), by decide, rfl, by decide⟩
theorem mv_X11_301 : z_MV RX11 301 6 yX6_holds cX6_holds 2 (some .boolean) 1 := ⟨⟨Or.inl (z_gd 766 (by decide +kernel) rfl), (z_gd 40 (by decide +kernel) rfl), (z_gd 769 (by decide +kernel) rfl), by decide +kernel, by decide +kernel, by decide +kernel⟩, (z_gd 767 (by decide +kernel) rfl), (z_gd 768 (by decide +kernel) rfl), by decide, rfl, by decide⟩
theorem mv_X11_304 : z_MV RX11 304 6 yX6_fetch cX6_fetch 3 none 2 := ⟨⟨Or.inl (z_gd 770 (by decide +kernel) rfl), (z_gd 40 (by decide +kernel) rfl), (z_gd 773 (by decide +kernel) rfl), by decide +kernel, by decide +kernel, by decide +kernel⟩, (z_gd 771 (by decide +kernel) rfl), (z_gd 772 (by decide +kernel) rfl), by decide, rfl, by decide⟩
theorem mv_X6_26 : z_MV RX6 26 6 yX6_holds cX6_holds 2 (some .boolean) 1 := ⟨⟨Or.inl (z_gd 774 (by decide +kernel) rfl), (z_gd 40 (by decide +kernel) rfl), (z_gd 769 (by decide +kernel) rfl), by decide +kernel, by decide +kernel, by decide +kernel⟩, (z_gd 767 (by decide +kernel) rfl), (z_gd 768 (by decide +kernel) rfl), by decide, rfl, by decide⟩
theorem mi_L_12 : z_MI RL 12 yX12_init cX12_init 2 0 := ⟨⟨Or.inl (z_gd 777 (by decide +kernel) rfl), (z_gd 48 (by decide +kernel) rfl), (z_gd 779 (by decide +kernel) rfl), by decide +kernel, by decide +kernel, by decide +kernel⟩, (z_gd 778 (by decide +kernel) rfl), rfl, by decide⟩
theorem oi_X12_1 : Cond.methodLink RX12 1 Lib.objectInit ∈ z_good := (z_gd 780 (by decide +kernel) rfl)
theorem mv_L_19 : z_MV RL 19 12 yX12_write cX12_write 5 (some .int) 2 := ⟨⟨Or.inl (z_gd 931 (by decide +kernel) rfl), (z_gd 48 (by decide +kernel) rfl), (z_gd 934 (by decide +kernel) rfl), by decide +kernel, by decide +kernel, by decide +kernel⟩, (z_gd 932 (by decide +kernel) rfl), (z_gd 933 (by decide +kernel) rfl), by decide, rfl, by decide⟩
theorem ms_X12_107 : z_MS RX12 107 yX12_in cX12_in 6 (some .boolean) 3 := ⟨⟨Or.inl (z_gd 936 (by decide +kernel) rfl), (z_gd 48 (by decide +kernel) rfl), (z_gd 938 (by decide +kernel) rfl), by decide +kernel, by decide +kernel, by decide +kernel⟩, (z_gd 937 (by decide +kernel) rfl), by decide⟩
theorem mv_L_24 : z_MV RL 24 12 yX12_wipe cX12_wipe 2 (some .int) 0 := ⟨⟨Or.inl (z_gd 939 (by decide +kernel) rfl), (z_gd 48 (by decide +kernel) rfl), (z_gd 942 (by decide +kernel) rfl), by decide +kernel, by decide +kernel, by decide +kernel⟩, (z_gd 940 (by decide +kernel) rfl), (z_gd 941 (by decide +kernel) rfl), by decide, rfl, by decide⟩
theorem mv_L_28 : z_MV RL 28 12 yX12_fault cX12_fault 1 (some .int) 0 := ⟨⟨Or.inl (z_gd 943 (by decide +kernel) rfl), (z_gd 48 (by decide +kernel) rfl), (z_gd 946 (by decide +kernel) rfl), by decide +kernel, by decide +kernel, by decide +kernel⟩, (z_gd 944 (by decide +kernel) rfl), (z_gd 945 (by decide +kernel) rfl), by decide, rfl, by decide⟩
theorem mv_X12_155 : z_MV RX12 155 12 yX12_readDay cX12_readDay 3 (some .int) 0 := ⟨⟨Or.inl (z_gd 947 (by decide +kernel) rfl), (z_gd 48 (by decide +kernel) rfl), (z_gd 950 (by decide +kernel) rfl), by decide +kernel, by decide +kernel, by decide +kernel⟩, (z_gd 949 (by decide +kernel) rfl), (z_gd 11 (by decide +kernel) rfl), by decide, rfl, by decide⟩
theorem mv_X12_129 : z_MV RX12 129 12 yX12_figure cX12_figure 3 (some .int) 2 := ⟨⟨Or.inl (z_gd 951 (by decide +kernel) rfl), (z_gd 48 (by decide +kernel) rfl), (z_gd 954 (by decide +kernel) rfl), by decide +kernel, by decide +kernel, by decide +kernel⟩, (z_gd 953 (by decide +kernel) rfl), (z_gd 12 (by decide +kernel) rfl), by decide, rfl, by decide⟩
theorem mv_X12_152 : z_MV RX12 152 12 yX12_readPart cX12_readPart 2 (some .boolean) 0 := ⟨⟨Or.inl (z_gd 955 (by decide +kernel) rfl), (z_gd 48 (by decide +kernel) rfl), (z_gd 958 (by decide +kernel) rfl), by decide +kernel, by decide +kernel, by decide +kernel⟩, (z_gd 957 (by decide +kernel) rfl), (z_gd 13 (by decide +kernel) rfl), by decide, rfl, by decide⟩
theorem mv_X12_139 : z_MV RX12 139 12 yX12_hasPair cX12_hasPair 3 (some .boolean) 0 := ⟨⟨Or.inl (z_gd 959 (by decide +kernel) rfl), (z_gd 48 (by decide +kernel) rfl), (z_gd 962 (by decide +kernel) rfl), by decide +kernel, by decide +kernel, by decide +kernel⟩, (z_gd 961 (by decide +kernel) rfl), (z_gd 14 (by decide +kernel) rfl), by decide, rfl, by decide⟩
theorem mv_X12_125 : z_MV RX12 125 12 yX12_hasPartner cX12_hasPartner 4 (some .boolean) 1 := ⟨⟨Or.inl (z_gd 963 (by decide +kernel) rfl), (z_gd 48 (by decide +kernel) rfl), (z_gd 966 (by decide +kernel) rfl), by decide +kernel, by decide +kernel, by decide +kernel⟩, (z_gd 965 (by decide +kernel) rfl), (z_gd 15 (by decide +kernel) rfl), by decide, rfl, by decide⟩
theorem mv_X12_143 : z_MV RX12 143 12 yX12_readRoad cX12_readRoad 5 (some .boolean) 0 := ⟨⟨Or.inl (z_gd 967 (by decide +kernel) rfl), (z_gd 48 (by decide +kernel) rfl), (z_gd 970 (by decide +kernel) rfl), by decide +kernel, by decide +kernel, by decide +kernel⟩, (z_gd 969 (by decide +kernel) rfl), (z_gd 16 (by decide +kernel) rfl), by decide, rfl, by decide⟩
theorem mv_X12_146 : z_MV RX12 146 12 yX12_readErrand cX12_readErrand 4 (some .boolean) 0 := ⟨⟨Or.inl (z_gd 971 (by decide +kernel) rfl), (z_gd 48 (by decide +kernel) rfl), (z_gd 974 (by decide +kernel) rfl), by decide +kernel, by decide +kernel, by decide +kernel⟩, (z_gd 973 (by decide +kernel) rfl), (z_gd 17 (by decide +kernel) rfl), by decide, rfl, by decide⟩
theorem mv_L_32 : z_MV RL 32 12 yX12_day cX12_day 4 (some .int) 0 := ⟨⟨Or.inl (z_gd 975 (by decide +kernel) rfl), (z_gd 48 (by decide +kernel) rfl), (z_gd 978 (by decide +kernel) rfl), by decide +kernel, by decide +kernel, by decide +kernel⟩, (z_gd 976 (by decide +kernel) rfl), (z_gd 977 (by decide +kernel) rfl), by decide, rfl, by decide⟩
theorem mv_L_37 : z_MV RL 37 12 yX12_about cX12_about 4 (some .int) 1 := ⟨⟨Or.inl (z_gd 979 (by decide +kernel) rfl), (z_gd 48 (by decide +kernel) rfl), (z_gd 982 (by decide +kernel) rfl), by decide +kernel, by decide +kernel, by decide +kernel⟩, (z_gd 980 (by decide +kernel) rfl), (z_gd 981 (by decide +kernel) rfl), by decide, rfl, by decide⟩
theorem ms_X12_184 : z_MS RX12 184 yX12_owed cX12_owed 2 (some .int) 1 := ⟨⟨Or.inl (z_gd 983 (by decide +kernel) rfl), (z_gd 48 (by decide +kernel) rfl), (z_gd 985 (by decide +kernel) rfl), by decide +kernel, by decide +kernel, by decide +kernel⟩, (z_gd 984 (by decide +kernel) rfl), by decide⟩
theorem mv_X12_188 : z_MV RX12 188 12 yX12_worthOf cX12_worthOf 4 (some .int) 1 := ⟨⟨Or.inl (z_gd 986 (by decide +kernel) rfl), (z_gd 48 (by decide +kernel) rfl), (z_gd 989 (by decide +kernel) rfl), by decide +kernel, by decide +kernel, by decide +kernel⟩, (z_gd 988 (by decide +kernel) rfl), (z_gd 18 (by decide +kernel) rfl), by decide, rfl, by decide⟩
theorem ms_X12_180 : z_MS RX12 180 yX12_has cX12_has 2 (some .boolean) 2 := ⟨⟨Or.inl (z_gd 990 (by decide +kernel) rfl), (z_gd 48 (by decide +kernel) rfl), (z_gd 992 (by decide +kernel) rfl), by decide +kernel, by decide +kernel, by decide +kernel⟩, (z_gd 991 (by decide +kernel) rfl), by decide⟩
theorem mv_L_41 : z_MV RL 41 12 yX12_at cX12_at 2 (some .int) 1 := ⟨⟨Or.inl (z_gd 993 (by decide +kernel) rfl), (z_gd 48 (by decide +kernel) rfl), (z_gd 996 (by decide +kernel) rfl), by decide +kernel, by decide +kernel, by decide +kernel⟩, (z_gd 994 (by decide +kernel) rfl), (z_gd 995 (by decide +kernel) rfl), by decide, rfl, by decide⟩
theorem ms_X12_191 : z_MS RX12 191 yX12_noWalker cX12_noWalker 1 (some .boolean) 1 := ⟨⟨Or.inl (z_gd 997 (by decide +kernel) rfl), (z_gd 48 (by decide +kernel) rfl), (z_gd 999 (by decide +kernel) rfl), by decide +kernel, by decide +kernel, by decide +kernel⟩, (z_gd 998 (by decide +kernel) rfl), by decide⟩
theorem mv_L_46 : z_MV RL 46 12 yX12_far cX12_far 3 (some .int) 2 := ⟨⟨Or.inl (z_gd 1000 (by decide +kernel) rfl), (z_gd 48 (by decide +kernel) rfl), (z_gd 1003 (by decide +kernel) rfl), by decide +kernel, by decide +kernel, by decide +kernel⟩, (z_gd 1001 (by decide +kernel) rfl), (z_gd 1002 (by decide +kernel) rfl), by decide, rfl, by decide⟩
theorem mv_X12_194 : z_MV RX12 194 12 yX12_noPlace cX12_noPlace 2 (some .boolean) 1 := ⟨⟨Or.inl (z_gd 1004 (by decide +kernel) rfl), (z_gd 48 (by decide +kernel) rfl), (z_gd 1007 (by decide +kernel) rfl), by decide +kernel, by decide +kernel, by decide +kernel⟩, (z_gd 1006 (by decide +kernel) rfl), (z_gd 19 (by decide +kernel) rfl), by decide, rfl, by decide⟩
theorem mv_L_50 : z_MV RL 50 12 yX12_errand cX12_errand 3 (some .int) 2 := ⟨⟨Or.inl (z_gd 1008 (by decide +kernel) rfl), (z_gd 48 (by decide +kernel) rfl), (z_gd 1011 (by decide +kernel) rfl), by decide +kernel, by decide +kernel, by decide +kernel⟩, (z_gd 1009 (by decide +kernel) rfl), (z_gd 1010 (by decide +kernel) rfl), by decide, rfl, by decide⟩
theorem mv_X12_197 : z_MV RX12 197 12 yX12_noErrand cX12_noErrand 2 (some .boolean) 1 := ⟨⟨Or.inl (z_gd 1012 (by decide +kernel) rfl), (z_gd 48 (by decide +kernel) rfl), (z_gd 1015 (by decide +kernel) rfl), by decide +kernel, by decide +kernel, by decide +kernel⟩, (z_gd 1014 (by decide +kernel) rfl), (z_gd 20 (by decide +kernel) rfl), by decide, rfl, by decide⟩
theorem mv_L_54 : z_MV RL 54 12 yX12_walk cX12_walk 3 (some .int) 2 := ⟨⟨Or.inl (z_gd 1016 (by decide +kernel) rfl), (z_gd 48 (by decide +kernel) rfl), (z_gd 1019 (by decide +kernel) rfl), by decide +kernel, by decide +kernel, by decide +kernel⟩, (z_gd 1017 (by decide +kernel) rfl), (z_gd 1018 (by decide +kernel) rfl), by decide, rfl, by decide⟩
theorem mv_X12_204 : z_MV RX12 204 12 yX12_mayWalk cX12_mayWalk 5 (some .boolean) 4 := ⟨⟨Or.inl (z_gd 1020 (by decide +kernel) rfl), (z_gd 48 (by decide +kernel) rfl), (z_gd 1023 (by decide +kernel) rfl), by decide +kernel, by decide +kernel, by decide +kernel⟩, (z_gd 1022 (by decide +kernel) rfl), (z_gd 21 (by decide +kernel) rfl), by decide, rfl, by decide⟩
theorem mv_X12_208 : z_MV RX12 208 12 yX12_note cX12_note 2 none 0 := ⟨⟨Or.inl (z_gd 1024 (by decide +kernel) rfl), (z_gd 48 (by decide +kernel) rfl), (z_gd 1027 (by decide +kernel) rfl), by decide +kernel, by decide +kernel, by decide +kernel⟩, (z_gd 1026 (by decide +kernel) rfl), (z_gd 22 (by decide +kernel) rfl), by decide, rfl, by decide⟩
theorem mv_X12_200 : z_MV RX12 200 12 yX12_layPage cX12_layPage 4 none 2 := ⟨⟨Or.inl (z_gd 1028 (by decide +kernel) rfl), (z_gd 48 (by decide +kernel) rfl), (z_gd 1031 (by decide +kernel) rfl), by decide +kernel, by decide +kernel, by decide +kernel⟩, (z_gd 1030 (by decide +kernel) rfl), (z_gd 23 (by decide +kernel) rfl), by decide, rfl, by decide⟩
theorem mv_L_58 : z_MV RL 58 12 yX12_carry cX12_carry 3 (some .int) 2 := ⟨⟨Or.inl (z_gd 1032 (by decide +kernel) rfl), (z_gd 48 (by decide +kernel) rfl), (z_gd 1035 (by decide +kernel) rfl), by decide +kernel, by decide +kernel, by decide +kernel⟩, (z_gd 1033 (by decide +kernel) rfl), (z_gd 1034 (by decide +kernel) rfl), by decide, rfl, by decide⟩
theorem mv_L_62 : z_MV RL 62 12 yX12_done cX12_done 3 (some .int) 2 := ⟨⟨Or.inl (z_gd 1036 (by decide +kernel) rfl), (z_gd 48 (by decide +kernel) rfl), (z_gd 1039 (by decide +kernel) rfl), by decide +kernel, by decide +kernel, by decide +kernel⟩, (z_gd 1037 (by decide +kernel) rfl), (z_gd 1038 (by decide +kernel) rfl), by decide, rfl, by decide⟩
theorem mv_X12_211 : z_MV RX12 211 12 yX12_canDo cX12_canDo 3 (some .boolean) 2 := ⟨⟨Or.inl (z_gd 1040 (by decide +kernel) rfl), (z_gd 48 (by decide +kernel) rfl), (z_gd 1043 (by decide +kernel) rfl), by decide +kernel, by decide +kernel, by decide +kernel⟩, (z_gd 1042 (by decide +kernel) rfl), (z_gd 24 (by decide +kernel) rfl), by decide, rfl, by decide⟩
theorem mv_L_67 : z_MV RL 67 12 yX12_loan cX12_loan 3 (some .int) 2 := ⟨⟨Or.inl (z_gd 1044 (by decide +kernel) rfl), (z_gd 48 (by decide +kernel) rfl), (z_gd 1047 (by decide +kernel) rfl), by decide +kernel, by decide +kernel, by decide +kernel⟩, (z_gd 1045 (by decide +kernel) rfl), (z_gd 1046 (by decide +kernel) rfl), by decide, rfl, by decide⟩
theorem mv_L_71 : z_MV RL 71 12 yX12_back cX12_back 2 (some .int) 0 := ⟨⟨Or.inl (z_gd 1049 (by decide +kernel) rfl), (z_gd 48 (by decide +kernel) rfl), (z_gd 1052 (by decide +kernel) rfl), by decide +kernel, by decide +kernel, by decide +kernel⟩, (z_gd 1050 (by decide +kernel) rfl), (z_gd 1051 (by decide +kernel) rfl), by decide, rfl, by decide⟩
theorem mv_L_75 : z_MV RL 75 12 yX12_undo cX12_undo 1 (some .int) 0 := ⟨⟨Or.inl (z_gd 1053 (by decide +kernel) rfl), (z_gd 48 (by decide +kernel) rfl), (z_gd 1056 (by decide +kernel) rfl), by decide +kernel, by decide +kernel, by decide +kernel⟩, (z_gd 1054 (by decide +kernel) rfl), (z_gd 1055 (by decide +kernel) rfl), by decide, rfl, by decide⟩
theorem mv_X12_216 : z_MV RX12 216 12 yX12_takePage cX12_takePage 4 none 2 := ⟨⟨Or.inl (z_gd 1057 (by decide +kernel) rfl), (z_gd 48 (by decide +kernel) rfl), (z_gd 1060 (by decide +kernel) rfl), by decide +kernel, by decide +kernel, by decide +kernel⟩, (z_gd 1059 (by decide +kernel) rfl), (z_gd 25 (by decide +kernel) rfl), by decide, rfl, by decide⟩
theorem mv_L_80 : z_MV RL 80 12 yX12_judge cX12_judge 9 (some .int) 3 := ⟨⟨Or.inl (z_gd 1061 (by decide +kernel) rfl), (z_gd 48 (by decide +kernel) rfl), (z_gd 1064 (by decide +kernel) rfl), by decide +kernel, by decide +kernel, by decide +kernel⟩, (z_gd 1062 (by decide +kernel) rfl), (z_gd 1063 (by decide +kernel) rfl), by decide, rfl, by decide⟩
theorem mv_L_84 : z_MV RL 84 12 yX12_tour cX12_tour 4 (some .int) 2 := ⟨⟨Or.inl (z_gd 1065 (by decide +kernel) rfl), (z_gd 48 (by decide +kernel) rfl), (z_gd 1068 (by decide +kernel) rfl), by decide +kernel, by decide +kernel, by decide +kernel⟩, (z_gd 1066 (by decide +kernel) rfl), (z_gd 1067 (by decide +kernel) rfl), by decide, rfl, by decide⟩
theorem mv_X12_219 : z_MV RX12 219 12 yX12_layTours cX12_layTours 11 none 3 := ⟨⟨Or.inl (z_gd 1069 (by decide +kernel) rfl), (z_gd 48 (by decide +kernel) rfl), (z_gd 1072 (by decide +kernel) rfl), by decide +kernel, by decide +kernel, by decide +kernel⟩, (z_gd 1071 (by decide +kernel) rfl), (z_gd 26 (by decide +kernel) rfl), by decide, rfl, by decide⟩
theorem mv_L_88 : z_MV RL 88 12 yX12_plan cX12_plan 2 (some .int) 1 := ⟨⟨Or.inl (z_gd 1073 (by decide +kernel) rfl), (z_gd 48 (by decide +kernel) rfl), (z_gd 1076 (by decide +kernel) rfl), by decide +kernel, by decide +kernel, by decide +kernel⟩, (z_gd 1074 (by decide +kernel) rfl), (z_gd 1075 (by decide +kernel) rfl), by decide, rfl, by decide⟩
theorem mv_X12_237 : z_MV RX12 237 12 yX12_findPlan cX12_findPlan 7 none 2 := ⟨⟨Or.inl (z_gd 1078 (by decide +kernel) rfl), (z_gd 48 (by decide +kernel) rfl), (z_gd 1081 (by decide +kernel) rfl), by decide +kernel, by decide +kernel, by decide +kernel⟩, (z_gd 1080 (by decide +kernel) rfl), (z_gd 27 (by decide +kernel) rfl), by decide, rfl, by decide⟩
theorem mv_L_92 : z_MV RL 92 12 yX12_live cX12_live 4 (some .int) 0 := ⟨⟨Or.inl (z_gd 1082 (by decide +kernel) rfl), (z_gd 48 (by decide +kernel) rfl), (z_gd 1085 (by decide +kernel) rfl), by decide +kernel, by decide +kernel, by decide +kernel⟩, (z_gd 1083 (by decide +kernel) rfl), (z_gd 1084 (by decide +kernel) rfl), by decide, rfl, by decide⟩
theorem mv_L_96 : z_MV RL 96 12 yX12_byTurns cX12_byTurns 7 (some .int) 1 := ⟨⟨Or.inl (z_gd 1086 (by decide +kernel) rfl), (z_gd 48 (by decide +kernel) rfl), (z_gd 1089 (by decide +kernel) rfl), by decide +kernel, by decide +kernel, by decide +kernel⟩, (z_gd 1087 (by decide +kernel) rfl), (z_gd 1088 (by decide +kernel) rfl), by decide, rfl, by decide⟩
theorem mv_X12_241 : z_MV RX12 241 12 yX12_canBoth cX12_canBoth 4 (some .boolean) 1 := ⟨⟨Or.inl (z_gd 1090 (by decide +kernel) rfl), (z_gd 48 (by decide +kernel) rfl), (z_gd 1093 (by decide +kernel) rfl), by decide +kernel, by decide +kernel, by decide +kernel⟩, (z_gd 1092 (by decide +kernel) rfl), (z_gd 28 (by decide +kernel) rfl), by decide, rfl, by decide⟩
theorem mv_X12_244 : z_MV RX12 244 12 yX12_take cX12_take 5 none 3 := ⟨⟨Or.inl (z_gd 1094 (by decide +kernel) rfl), (z_gd 48 (by decide +kernel) rfl), (z_gd 1097 (by decide +kernel) rfl), by decide +kernel, by decide +kernel, by decide +kernel⟩, (z_gd 1096 (by decide +kernel) rfl), (z_gd 29 (by decide +kernel) rfl), by decide, rfl, by decide⟩
theorem mv_X12_247 : z_MV RX12 247 12 yX12_choose cX12_choose 8 (some .boolean) 2 := ⟨⟨Or.inl (z_gd 1098 (by decide +kernel) rfl), (z_gd 48 (by decide +kernel) rfl), (z_gd 1101 (by decide +kernel) rfl), by decide +kernel, by decide +kernel, by decide +kernel⟩, (z_gd 1100 (by decide +kernel) rfl), (z_gd 30 (by decide +kernel) rfl), by decide, rfl, by decide⟩
theorem mv_L_101 : z_MV RL 101 12 yX12_ledger cX12_ledger 7 (some .long) 3 := ⟨⟨Or.inl (z_gd 1102 (by decide +kernel) rfl), (z_gd 48 (by decide +kernel) rfl), (z_gd 1105 (by decide +kernel) rfl), by decide +kernel, by decide +kernel, by decide +kernel⟩, (z_gd 1103 (by decide +kernel) rfl), (z_gd 1104 (by decide +kernel) rfl), by decide, rfl, by decide⟩
theorem mv_X12_256 : z_MV RX12 256 12 yX12_layWays cX12_layWays 8 none 3 := ⟨⟨Or.inl (z_gd 1109 (by decide +kernel) rfl), (z_gd 48 (by decide +kernel) rfl), (z_gd 1112 (by decide +kernel) rfl), by decide +kernel, by decide +kernel, by decide +kernel⟩, (z_gd 1111 (by decide +kernel) rfl), (z_gd 31 (by decide +kernel) rfl), by decide, rfl, by decide⟩
theorem mv_L_105 : z_MV RL 105 12 yX12_ends cX12_ends 6 (some .int) 3 := ⟨⟨Or.inl (z_gd 1113 (by decide +kernel) rfl), (z_gd 48 (by decide +kernel) rfl), (z_gd 1116 (by decide +kernel) rfl), by decide +kernel, by decide +kernel, by decide +kernel⟩, (z_gd 1114 (by decide +kernel) rfl), (z_gd 1115 (by decide +kernel) rfl), by decide, rfl, by decide⟩
theorem mv_L_110 : z_MV RL 110 12 yX12_chance cX12_chance 8 (some .long) 3 := ⟨⟨Or.inl (z_gd 1117 (by decide +kernel) rfl), (z_gd 48 (by decide +kernel) rfl), (z_gd 1120 (by decide +kernel) rfl), by decide +kernel, by decide +kernel, by decide +kernel⟩, (z_gd 1118 (by decide +kernel) rfl), (z_gd 1119 (by decide +kernel) rfl), by decide, rfl, by decide⟩
theorem mv_X12_261 : z_MV RX12 261 12 yX12_layAll cX12_layAll 2 none 0 := ⟨⟨Or.inl (z_gd 1122 (by decide +kernel) rfl), (z_gd 48 (by decide +kernel) rfl), (z_gd 1125 (by decide +kernel) rfl), by decide +kernel, by decide +kernel, by decide +kernel⟩, (z_gd 1124 (by decide +kernel) rfl), (z_gd 32 (by decide +kernel) rfl), by decide, rfl, by decide⟩
theorem mv_X12_264 : z_MV RX12 264 12 yX12_within cX12_within 9 (some .long) 2 := ⟨⟨Or.inl (z_gd 1126 (by decide +kernel) rfl), (z_gd 48 (by decide +kernel) rfl), (z_gd 1129 (by decide +kernel) rfl), by decide +kernel, by decide +kernel, by decide +kernel⟩, (z_gd 1128 (by decide +kernel) rfl), (z_gd 33 (by decide +kernel) rfl), by decide, rfl, by decide⟩
theorem mv_X12_268 : z_MV RX12 268 12 yX12_whole cX12_whole 4 (some .long) 0 := ⟨⟨Or.inl (z_gd 1130 (by decide +kernel) rfl), (z_gd 48 (by decide +kernel) rfl), (z_gd 1133 (by decide +kernel) rfl), by decide +kernel, by decide +kernel, by decide +kernel⟩, (z_gd 1132 (by decide +kernel) rfl), (z_gd 34 (by decide +kernel) rfl), by decide, rfl, by decide⟩
theorem ms_X12_272 : z_MS RX12 272 yX12_divisor cX12_divisor 10 (some .long) 2 := ⟨⟨Or.inl (z_gd 1134 (by decide +kernel) rfl), (z_gd 48 (by decide +kernel) rfl), (z_gd 1136 (by decide +kernel) rfl), by decide +kernel, by decide +kernel, by decide +kernel⟩, (z_gd 1135 (by decide +kernel) rfl), by decide⟩
theorem mv_L_114 : z_MV RL 114 12 yX12_spare cX12_spare 4 (some .int) 2 := ⟨⟨Or.inl (z_gd 1137 (by decide +kernel) rfl), (z_gd 48 (by decide +kernel) rfl), (z_gd 1140 (by decide +kernel) rfl), by decide +kernel, by decide +kernel, by decide +kernel⟩, (z_gd 1138 (by decide +kernel) rfl), (z_gd 1139 (by decide +kernel) rfl), by decide, rfl, by decide⟩
theorem mv_L_118 : z_MV RL 118 12 yX12_keep cX12_keep 2 (some .int) 1 := ⟨⟨Or.inl (z_gd 1142 (by decide +kernel) rfl), (z_gd 48 (by decide +kernel) rfl), (z_gd 1145 (by decide +kernel) rfl), by decide +kernel, by decide +kernel, by decide +kernel⟩, (z_gd 1143 (by decide +kernel) rfl), (z_gd 1144 (by decide +kernel) rfl), by decide, rfl, by decide⟩
theorem mv_L_122 : z_MV RL 122 12 yX12_again cX12_again 2 (some .int) 1 := ⟨⟨Or.inl (z_gd 1146 (by decide +kernel) rfl), (z_gd 48 (by decide +kernel) rfl), (z_gd 1149 (by decide +kernel) rfl), by decide +kernel, by decide +kernel, by decide +kernel⟩, (z_gd 1147 (by decide +kernel) rfl), (z_gd 1148 (by decide +kernel) rfl), by decide, rfl, by decide⟩
theorem mi_X11_9 : z_MI RX11 9 yX8_init cX8_init 1 0 := ⟨⟨Or.inr ⟨"StepsShared", (z_ns 61 (by decide +kernel) rfl)⟩, (z_gd 37 (by decide +kernel) rfl), (z_gd 63 (by decide +kernel) rfl), by decide +kernel, by decide +kernel, by decide +kernel⟩, (z_gd 62 (by decide +kernel) rfl), rfl, by decide⟩
theorem mi_X11_18 : z_MI RX11 18 yX7_init cX7_init 1 0 := ⟨⟨Or.inr ⟨"StepsShared", (z_ns 75 (by decide +kernel) rfl)⟩, (z_gd 38 (by decide +kernel) rfl), (z_gd 77 (by decide +kernel) rfl), by decide +kernel, by decide +kernel, by decide +kernel⟩, (z_gd 76 (by decide +kernel) rfl), rfl, by decide⟩
theorem mi_X11_25 : z_MI RX11 25 yX0_init cX0_init 2 0 := ⟨⟨Or.inr ⟨"StepsShared", (z_ns 106 (by decide +kernel) rfl)⟩, (z_gd 39 (by decide +kernel) rfl), (z_gd 108 (by decide +kernel) rfl), by decide +kernel, by decide +kernel, by decide +kernel⟩, (z_gd 107 (by decide +kernel) rfl), rfl, by decide⟩
theorem mi_X0_17 : z_MI RX0 17 yX7_init cX7_init 1 0 := ⟨⟨Or.inr ⟨"StepsShared", (z_ns 112 (by decide +kernel) rfl)⟩, (z_gd 38 (by decide +kernel) rfl), (z_gd 77 (by decide +kernel) rfl), by decide +kernel, by decide +kernel, by decide +kernel⟩, (z_gd 76 (by decide +kernel) rfl), rfl, by decide⟩
theorem mi_X11_32 : z_MI RX11 32 yX6_init cX6_init 2 0 := ⟨⟨Or.inr ⟨"StepsShared", (z_ns 126 (by decide +kernel) rfl)⟩, (z_gd 40 (by decide +kernel) rfl), (z_gd 128 (by decide +kernel) rfl), by decide +kernel, by decide +kernel, by decide +kernel⟩, (z_gd 127 (by decide +kernel) rfl), rfl, by decide⟩
theorem mi_X6_21 : z_MI RX6 21 yX7_init cX7_init 1 0 := ⟨⟨Or.inr ⟨"StepsShared", (z_ns 131 (by decide +kernel) rfl)⟩, (z_gd 38 (by decide +kernel) rfl), (z_gd 77 (by decide +kernel) rfl), by decide +kernel, by decide +kernel, by decide +kernel⟩, (z_gd 76 (by decide +kernel) rfl), rfl, by decide⟩
theorem mi_X11_39 : z_MI RX11 39 yX9_init cX9_init 1 0 := ⟨⟨Or.inr ⟨"StepsShared", (z_ns 142 (by decide +kernel) rfl)⟩, (z_gd 41 (by decide +kernel) rfl), (z_gd 144 (by decide +kernel) rfl), by decide +kernel, by decide +kernel, by decide +kernel⟩, (z_gd 143 (by decide +kernel) rfl), rfl, by decide⟩
theorem mi_X11_46 : z_MI RX11 46 yX3_init cX3_init 1 0 := ⟨⟨Or.inr ⟨"StepsShared", (z_ns 158 (by decide +kernel) rfl)⟩, (z_gd 42 (by decide +kernel) rfl), (z_gd 160 (by decide +kernel) rfl), by decide +kernel, by decide +kernel, by decide +kernel⟩, (z_gd 159 (by decide +kernel) rfl), rfl, by decide⟩
theorem mi_X3_11 : z_MI RX3 11 yX9_init cX9_init 1 0 := ⟨⟨Or.inr ⟨"StepsShared", (z_ns 163 (by decide +kernel) rfl)⟩, (z_gd 41 (by decide +kernel) rfl), (z_gd 144 (by decide +kernel) rfl), by decide +kernel, by decide +kernel, by decide +kernel⟩, (z_gd 143 (by decide +kernel) rfl), rfl, by decide⟩
theorem mi_X11_53 : z_MI RX11 53 yX10_init cX10_init 1 0 := ⟨⟨Or.inr ⟨"StepsShared", (z_ns 205 (by decide +kernel) rfl)⟩, (z_gd 43 (by decide +kernel) rfl), (z_gd 207 (by decide +kernel) rfl), by decide +kernel, by decide +kernel, by decide +kernel⟩, (z_gd 206 (by decide +kernel) rfl), rfl, by decide⟩
theorem mi_X11_60 : z_MI RX11 60 yX5_init cX5_init 1 0 := ⟨⟨Or.inr ⟨"StepsShared", (z_ns 215 (by decide +kernel) rfl)⟩, (z_gd 44 (by decide +kernel) rfl), (z_gd 217 (by decide +kernel) rfl), by decide +kernel, by decide +kernel, by decide +kernel⟩, (z_gd 216 (by decide +kernel) rfl), rfl, by decide⟩
theorem mi_X11_67 : z_MI RX11 67 yX2_init cX2_init 1 0 := ⟨⟨Or.inr ⟨"StepsShared", (z_ns 231 (by decide +kernel) rfl)⟩, (z_gd 45 (by decide +kernel) rfl), (z_gd 233 (by decide +kernel) rfl), by decide +kernel, by decide +kernel, by decide +kernel⟩, (z_gd 232 (by decide +kernel) rfl), rfl, by decide⟩
theorem mi_X11_78 : z_MI RX11 78 yX1_init cX1_init 1 0 := ⟨⟨Or.inr ⟨"StepsShared", (z_ns 251 (by decide +kernel) rfl)⟩, (z_gd 46 (by decide +kernel) rfl), (z_gd 253 (by decide +kernel) rfl), by decide +kernel, by decide +kernel, by decide +kernel⟩, (z_gd 252 (by decide +kernel) rfl), rfl, by decide⟩
theorem mv_X4_25 : z_MV RX4 25 1 yX1_begin cX1_begin 4 none 2 := ⟨⟨Or.inr ⟨"StepsShared", (z_ns 386 (by decide +kernel) rfl)⟩, (z_gd 46 (by decide +kernel) rfl), (z_gd 258 (by decide +kernel) rfl), by decide +kernel, by decide +kernel, by decide +kernel⟩, (z_gd 257 (by decide +kernel) rfl), (z_gd 0 (by decide +kernel) rfl), by decide, rfl, by decide⟩
theorem mv_X11_103 : z_MV RX11 103 1 yX1_measure cX1_measure 5 none 0 := ⟨⟨Or.inr ⟨"StepsShared", (z_ns 428 (by decide +kernel) rfl)⟩, (z_gd 46 (by decide +kernel) rfl), (z_gd 268 (by decide +kernel) rfl), by decide +kernel, by decide +kernel, by decide +kernel⟩, (z_gd 267 (by decide +kernel) rfl), (z_gd 1 (by decide +kernel) rfl), by decide, rfl, by decide⟩
theorem ms_X11_264 : z_MS RX11 264 yX10_play cX10_play 16 (some .int) 7 := ⟨⟨Or.inr ⟨"StepsShared", (z_ns 675 (by decide +kernel) rfl)⟩, (z_gd 43 (by decide +kernel) rfl), (z_gd 677 (by decide +kernel) rfl), by decide +kernel, by decide +kernel, by decide +kernel⟩, (z_gd 676 (by decide +kernel) rfl), by decide⟩
theorem nw_L_7 : 11 < 13 ∧ Cond.classLink RL 7 (zR 11) ∈ z_good ∧ Cond.instantiable (zR 11) (zN 11) ∈ z_good ∧ Cond.initialized (zR 11) ∈ z_good := ⟨by decide, (z_gd 51 (by decide +kernel) rfl), (z_gd 52 (by decide +kernel) rfl), (z_gd 36 (by decide +kernel) rfl)⟩
theorem nw_X11_7 : 8 < 13 ∧ Cond.classLink RX11 7 (zR 8) ∈ z_good ∧ Cond.instantiable (zR 8) (zN 8) ∈ z_good ∧ Cond.initialized (zR 8) ∈ z_good := ⟨by decide, (z_gd 59 (by decide +kernel) rfl), (z_gd 60 (by decide +kernel) rfl), (z_gd 37 (by decide +kernel) rfl)⟩
theorem nw_X11_16 : 7 < 13 ∧ Cond.classLink RX11 16 (zR 7) ∈ z_good ∧ Cond.instantiable (zR 7) (zN 7) ∈ z_good ∧ Cond.initialized (zR 7) ∈ z_good := ⟨by decide, (z_gd 73 (by decide +kernel) rfl), (z_gd 74 (by decide +kernel) rfl), (z_gd 38 (by decide +kernel) rfl)⟩
theorem an_X11_16 : Cond.classLink RX11 16 "StepsShared$Standing" ∈ z_good := (z_gd 73 (by decide +kernel) rfl)
theorem nw_X11_23 : 0 < 13 ∧ Cond.classLink RX11 23 (zR 0) ∈ z_good ∧ Cond.instantiable (zR 0) (zN 0) ∈ z_good ∧ Cond.initialized (zR 0) ∈ z_good := ⟨by decide, (z_gd 104 (by decide +kernel) rfl), (z_gd 105 (by decide +kernel) rfl), (z_gd 39 (by decide +kernel) rfl)⟩
theorem nw_X0_9 : 7 < 13 ∧ Cond.classLink RX0 9 (zR 7) ∈ z_good ∧ Cond.instantiable (zR 7) (zN 7) ∈ z_good ∧ Cond.initialized (zR 7) ∈ z_good := ⟨by decide, (z_gd 110 (by decide +kernel) rfl), (z_gd 74 (by decide +kernel) rfl), (z_gd 38 (by decide +kernel) rfl)⟩
theorem an_X0_9 : Cond.classLink RX0 9 "StepsShared$Standing" ∈ z_good := (z_gd 110 (by decide +kernel) rfl)
theorem nw_X11_30 : 6 < 13 ∧ Cond.classLink RX11 30 (zR 6) ∈ z_good ∧ Cond.instantiable (zR 6) (zN 6) ∈ z_good ∧ Cond.initialized (zR 6) ∈ z_good := ⟨by decide, (z_gd 124 (by decide +kernel) rfl), (z_gd 125 (by decide +kernel) rfl), (z_gd 40 (by decide +kernel) rfl)⟩
theorem nw_X6_9 : 7 < 13 ∧ Cond.classLink RX6 9 (zR 7) ∈ z_good ∧ Cond.instantiable (zR 7) (zN 7) ∈ z_good ∧ Cond.initialized (zR 7) ∈ z_good := ⟨by decide, (z_gd 130 (by decide +kernel) rfl), (z_gd 74 (by decide +kernel) rfl), (z_gd 38 (by decide +kernel) rfl)⟩
theorem an_X6_9 : Cond.classLink RX6 9 "StepsShared$Standing" ∈ z_good := (z_gd 130 (by decide +kernel) rfl)
theorem nw_X11_37 : 9 < 13 ∧ Cond.classLink RX11 37 (zR 9) ∈ z_good ∧ Cond.instantiable (zR 9) (zN 9) ∈ z_good ∧ Cond.initialized (zR 9) ∈ z_good := ⟨by decide, (z_gd 140 (by decide +kernel) rfl), (z_gd 141 (by decide +kernel) rfl), (z_gd 41 (by decide +kernel) rfl)⟩
theorem nw_X11_44 : 3 < 13 ∧ Cond.classLink RX11 44 (zR 3) ∈ z_good ∧ Cond.instantiable (zR 3) (zN 3) ∈ z_good ∧ Cond.initialized (zR 3) ∈ z_good := ⟨by decide, (z_gd 156 (by decide +kernel) rfl), (z_gd 157 (by decide +kernel) rfl), (z_gd 42 (by decide +kernel) rfl)⟩
theorem nw_X3_9 : 9 < 13 ∧ Cond.classLink RX3 9 (zR 9) ∈ z_good ∧ Cond.instantiable (zR 9) (zN 9) ∈ z_good ∧ Cond.initialized (zR 9) ∈ z_good := ⟨by decide, (z_gd 162 (by decide +kernel) rfl), (z_gd 141 (by decide +kernel) rfl), (z_gd 41 (by decide +kernel) rfl)⟩
theorem nw_X11_51 : 10 < 13 ∧ Cond.classLink RX11 51 (zR 10) ∈ z_good ∧ Cond.instantiable (zR 10) (zN 10) ∈ z_good ∧ Cond.initialized (zR 10) ∈ z_good := ⟨by decide, (z_gd 203 (by decide +kernel) rfl), (z_gd 204 (by decide +kernel) rfl), (z_gd 43 (by decide +kernel) rfl)⟩
theorem nw_X11_58 : 5 < 13 ∧ Cond.classLink RX11 58 (zR 5) ∈ z_good ∧ Cond.instantiable (zR 5) (zN 5) ∈ z_good ∧ Cond.initialized (zR 5) ∈ z_good := ⟨by decide, (z_gd 213 (by decide +kernel) rfl), (z_gd 214 (by decide +kernel) rfl), (z_gd 44 (by decide +kernel) rfl)⟩
theorem nw_X11_65 : 2 < 13 ∧ Cond.classLink RX11 65 (zR 2) ∈ z_good ∧ Cond.instantiable (zR 2) (zN 2) ∈ z_good ∧ Cond.initialized (zR 2) ∈ z_good := ⟨by decide, (z_gd 229 (by decide +kernel) rfl), (z_gd 230 (by decide +kernel) rfl), (z_gd 45 (by decide +kernel) rfl)⟩
theorem nw_X11_76 : 1 < 13 ∧ Cond.classLink RX11 76 (zR 1) ∈ z_good ∧ Cond.instantiable (zR 1) (zN 1) ∈ z_good ∧ Cond.initialized (zR 1) ∈ z_good := ⟨by decide, (z_gd 249 (by decide +kernel) rfl), (z_gd 250 (by decide +kernel) rfl), (z_gd 46 (by decide +kernel) rfl)⟩
theorem nw_L_10 : 12 < 13 ∧ Cond.classLink RL 10 (zR 12) ∈ z_good ∧ Cond.instantiable (zR 12) (zN 12) ∈ z_good ∧ Cond.initialized (zR 12) ∈ z_good := ⟨by decide, (z_gd 775 (by decide +kernel) rfl), (z_gd 776 (by decide +kernel) rfl), (z_gd 48 (by decide +kernel) rfl)⟩
theorem ac_int : (ArrayType.int = .int ∨ ArrayType.int = .long ∨ ArrayType.int = .boolean) ∧ Cond.arrayClass (newarray.typeOf .int) ∈ z_good := ⟨by decide, (z_gd 72 (by decide +kernel) rfl)⟩
theorem ac_boolean : (ArrayType.boolean = .int ∨ ArrayType.boolean = .long ∨ ArrayType.boolean = .boolean) ∧ Cond.arrayClass (newarray.typeOf .boolean) ∈ z_good := ⟨by decide, (z_gd 139 (by decide +kernel) rfl)⟩
theorem ac_long : (ArrayType.long = .int ∨ ArrayType.long = .long ∨ ArrayType.long = .boolean) ∧ Cond.arrayClass (newarray.typeOf .long) ∈ z_good := ⟨by decide, (z_gd 930 (by decide +kernel) rfl)⟩
theorem ct_X1_68 : Cond.constant RX1 68 (1000000) ∈ z_good := (z_gd 269 (by decide +kernel) rfl)
theorem ct_X11_307 : Cond.constant RX11 307 (1000000) ∈ z_good := (z_gd 490 (by decide +kernel) rfl)
theorem ct_X9_28 : Cond.constant RX9 28 (1000000) ∈ z_good := (z_gd 608 (by decide +kernel) rfl)
theorem ct_X3_62 : Cond.constant RX3 62 (1000000) ∈ z_good := (z_gd 643 (by decide +kernel) rfl)
theorem ct_J6_265 : Cond.constant RJ6 265 (1431655765) ∈ z_good := (z_gd 663 (by decide +kernel) rfl)
theorem ct_J6_266 : Cond.constant RJ6 266 (858993459) ∈ z_good := (z_gd 664 (by decide +kernel) rfl)
theorem ct_J6_267 : Cond.constant RJ6 267 (252645135) ∈ z_good := (z_gd 665 (by decide +kernel) rfl)
theorem ct_X5_52 : Cond.constant RX5 52 (1000000) ∈ z_good := (z_gd 713 (by decide +kernel) rfl)
theorem ct_X12_103 : Cond.constant RX12 103 (99999) ∈ z_good := (z_gd 781 (by decide +kernel) rfl)
theorem cl_X11_271 : Cond.constantLong RX11 271 (-1) ∈ z_good := (z_gd 691 (by decide +kernel) rfl)
theorem cl_X11_273 : Cond.constantLong RX11 273 (-2) ∈ z_good := (z_gd 692 (by decide +kernel) rfl)
theorem cl_X2_39 : Cond.constantLong RX2 39 (100) ∈ z_good := (z_gd 751 (by decide +kernel) rfl)
theorem cl_X12_114 : Cond.constantLong RX12 114 (8) ∈ z_good := (z_gd 935 (by decide +kernel) rfl)
theorem cl_X12_214 : Cond.constantLong RX12 214 (99) ∈ z_good := (z_gd 1048 (by decide +kernel) rfl)
theorem cl_X12_235 : Cond.constantLong RX12 235 (3) ∈ z_good := (z_gd 1077 (by decide +kernel) rfl)
theorem cl_X12_250 : Cond.constantLong RX12 250 (-1) ∈ z_good := (z_gd 1106 (by decide +kernel) rfl)
theorem cl_X12_252 : Cond.constantLong RX12 252 (999) ∈ z_good := (z_gd 1107 (by decide +kernel) rfl)
theorem cl_X12_254 : Cond.constantLong RX12 254 (-2) ∈ z_good := (z_gd 1108 (by decide +kernel) rfl)
theorem cl_X12_259 : Cond.constantLong RX12 259 (10) ∈ z_good := (z_gd 1121 (by decide +kernel) rfl)
theorem cl_X12_276 : Cond.constantLong RX12 276 (100) ∈ z_good := (z_gd 1141 (by decide +kernel) rfl)
theorem cl_L_13 : Cond.constantLong RL 13 (4294967295) ∈ z_good := (z_gd 1150 (by decide +kernel) rfl)
end
