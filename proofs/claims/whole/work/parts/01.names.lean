-- ===== PART A: goes FIRST, ahead of the names: the tables' words, and 'selects' of the private methods out of them =====
/-- a private method of a class that the tables say can be made, by its rows of tables_1 -/
def lw_okq (q : MethodName × Nat) : Prop := (q.1.cls ≠ "java/lang/invoke/MethodHandle" ∧ q.1.cls ≠ "java/lang/invoke/VarHandle") ∧ Cond.instantiable q.1.cls q.2 ∈ tables_1 ∧ Cond.privateMethod q.1 ∈ tables_1 ∧ Cond.instanceMethod q.1 ∈ tables_1
theorem lw_p0 : lw_okq (⟨"TumblingRock", "beginAnew", "()V"⟩, 11) := ⟨⟨by decide +kernel, by decide +kernel⟩, List.mem_of_getElem? (i := 18) (by decide +kernel), List.mem_of_getElem? (i := 488) (by decide +kernel), List.mem_of_getElem? (i := 489) (by decide +kernel)⟩
theorem lw_p1 : lw_okq (⟨"TumblingRock", "standingAt", "(I)I"⟩, 11) := ⟨⟨by decide +kernel, by decide +kernel⟩, List.mem_of_getElem? (i := 18) (by decide +kernel), List.mem_of_getElem? (i := 513) (by decide +kernel), List.mem_of_getElem? (i := 514) (by decide +kernel)⟩
theorem lw_p2 : lw_okq (⟨"TumblingRock", "isTurning", "(I)Z"⟩, 11) := ⟨⟨by decide +kernel, by decide +kernel⟩, List.mem_of_getElem? (i := 18) (by decide +kernel), List.mem_of_getElem? (i := 526) (by decide +kernel), List.mem_of_getElem? (i := 527) (by decide +kernel)⟩
theorem lw_p3 : lw_okq (⟨"TumblingRock", "isPlace", "(I)Z"⟩, 11) := ⟨⟨by decide +kernel, by decide +kernel⟩, List.mem_of_getElem? (i := 18) (by decide +kernel), List.mem_of_getElem? (i := 538) (by decide +kernel), List.mem_of_getElem? (i := 539) (by decide +kernel)⟩
theorem lw_p4 : lw_okq (⟨"TumblingRockModel", "here", "()I"⟩, 33) := ⟨⟨by decide +kernel, by decide +kernel⟩, List.mem_of_getElem? (i := 868) (by decide +kernel), List.mem_of_getElem? (i := 989) (by decide +kernel), List.mem_of_getElem? (i := 990) (by decide +kernel)⟩
theorem lw_p5 : lw_okq (⟨"TumblingRockModel", "takeClause", "()V"⟩, 33) := ⟨⟨by decide +kernel, by decide +kernel⟩, List.mem_of_getElem? (i := 868) (by decide +kernel), List.mem_of_getElem? (i := 993) (by decide +kernel), List.mem_of_getElem? (i := 994) (by decide +kernel)⟩
theorem lw_p6 : lw_okq (⟨"TumblingRockModel", "takeWord", "()V"⟩, 33) := ⟨⟨by decide +kernel, by decide +kernel⟩, List.mem_of_getElem? (i := 868) (by decide +kernel), List.mem_of_getElem? (i := 997) (by decide +kernel), List.mem_of_getElem? (i := 998) (by decide +kernel)⟩
theorem lw_p7 : lw_okq (⟨"TumblingRockModel", "isWord", "(IIIIII)Z"⟩, 33) := ⟨⟨by decide +kernel, by decide +kernel⟩, List.mem_of_getElem? (i := 868) (by decide +kernel), List.mem_of_getElem? (i := 1003) (by decide +kernel), List.mem_of_getElem? (i := 1004) (by decide +kernel)⟩
theorem lw_p8 : lw_okq (⟨"TumblingRockModel", "want", "(ZII)Z"⟩, 33) := ⟨⟨by decide +kernel, by decide +kernel⟩, List.mem_of_getElem? (i := 868) (by decide +kernel), List.mem_of_getElem? (i := 1007) (by decide +kernel), List.mem_of_getElem? (i := 1008) (by decide +kernel)⟩
theorem lw_p9 : lw_okq (⟨"TumblingRockModel", "takeTurn", "()V"⟩, 33) := ⟨⟨by decide +kernel, by decide +kernel⟩, List.mem_of_getElem? (i := 868) (by decide +kernel), List.mem_of_getElem? (i := 1011) (by decide +kernel), List.mem_of_getElem? (i := 1012) (by decide +kernel)⟩
theorem lw_p10 : lw_okq (⟨"TumblingRockModel", "takeNumber", "(II)I"⟩, 33) := ⟨⟨by decide +kernel, by decide +kernel⟩, List.mem_of_getElem? (i := 868) (by decide +kernel), List.mem_of_getElem? (i := 1015) (by decide +kernel), List.mem_of_getElem? (i := 1016) (by decide +kernel)⟩
theorem lw_p11 : lw_okq (⟨"TumblingRockModel", "takePlace", "()V"⟩, 33) := ⟨⟨by decide +kernel, by decide +kernel⟩, List.mem_of_getElem? (i := 868) (by decide +kernel), List.mem_of_getElem? (i := 1022) (by decide +kernel), List.mem_of_getElem? (i := 1023) (by decide +kernel)⟩
theorem lw_p12 : lw_okq (⟨"TumblingRockModel", "takeWay", "()V"⟩, 33) := ⟨⟨by decide +kernel, by decide +kernel⟩, List.mem_of_getElem? (i := 868) (by decide +kernel), List.mem_of_getElem? (i := 1026) (by decide +kernel), List.mem_of_getElem? (i := 1027) (by decide +kernel)⟩
theorem lw_p13 : lw_okq (⟨"TumblingRockModel", "takePush", "()V"⟩, 33) := ⟨⟨by decide +kernel, by decide +kernel⟩, List.mem_of_getElem? (i := 868) (by decide +kernel), List.mem_of_getElem? (i := 1033) (by decide +kernel), List.mem_of_getElem? (i := 1034) (by decide +kernel)⟩
theorem lw_p14 : lw_okq (⟨"TumblingRockModel", "litNow", "()I"⟩, 33) := ⟨⟨by decide +kernel, by decide +kernel⟩, List.mem_of_getElem? (i := 868) (by decide +kernel), List.mem_of_getElem? (i := 1048) (by decide +kernel), List.mem_of_getElem? (i := 1049) (by decide +kernel)⟩
theorem lw_p15 : lw_okq (⟨"TumblingRockModel", "isLit", "(II)Z"⟩, 33) := ⟨⟨by decide +kernel, by decide +kernel⟩, List.mem_of_getElem? (i := 868) (by decide +kernel), List.mem_of_getElem? (i := 1052) (by decide +kernel), List.mem_of_getElem? (i := 1053) (by decide +kernel)⟩
def lw_privs_1 : List (MethodName × Nat) := [(⟨"TumblingRock", "beginAnew", "()V"⟩, 11), (⟨"TumblingRock", "standingAt", "(I)I"⟩, 11), (⟨"TumblingRock", "isTurning", "(I)Z"⟩, 11), (⟨"TumblingRock", "isPlace", "(I)Z"⟩, 11), (⟨"TumblingRockModel", "here", "()I"⟩, 33), (⟨"TumblingRockModel", "takeClause", "()V"⟩, 33), (⟨"TumblingRockModel", "takeWord", "()V"⟩, 33), (⟨"TumblingRockModel", "isWord", "(IIIIII)Z"⟩, 33), (⟨"TumblingRockModel", "want", "(ZII)Z"⟩, 33), (⟨"TumblingRockModel", "takeTurn", "()V"⟩, 33), (⟨"TumblingRockModel", "takeNumber", "(II)I"⟩, 33), (⟨"TumblingRockModel", "takePlace", "()V"⟩, 33), (⟨"TumblingRockModel", "takeWay", "()V"⟩, 33), (⟨"TumblingRockModel", "takePush", "()V"⟩, 33), (⟨"TumblingRockModel", "litNow", "()I"⟩, 33), (⟨"TumblingRockModel", "isLit", "(II)Z"⟩, 33)]
theorem lw_r1 : ∀ q ∈ lw_privs_1, lw_okq q := List.forall_mem_cons.mpr ⟨lw_p0, List.forall_mem_cons.mpr ⟨lw_p1, List.forall_mem_cons.mpr ⟨lw_p2, List.forall_mem_cons.mpr ⟨lw_p3, List.forall_mem_cons.mpr ⟨lw_p4, List.forall_mem_cons.mpr ⟨lw_p5, List.forall_mem_cons.mpr ⟨lw_p6, List.forall_mem_cons.mpr ⟨lw_p7, List.forall_mem_cons.mpr ⟨lw_p8, List.forall_mem_cons.mpr ⟨lw_p9, List.forall_mem_cons.mpr ⟨lw_p10, List.forall_mem_cons.mpr ⟨lw_p11, List.forall_mem_cons.mpr ⟨lw_p12, List.forall_mem_cons.mpr ⟨lw_p13, List.forall_mem_cons.mpr ⟨lw_p14, List.forall_mem_cons.mpr ⟨lw_p15, fun _ h => absurd h List.not_mem_nil⟩⟩⟩⟩⟩⟩⟩⟩⟩⟩⟩⟩⟩⟩⟩⟩
theorem lw_p16 : lw_okq (⟨"TumblingRockModel", "heightNow", "(II)I"⟩, 33) := ⟨⟨by decide +kernel, by decide +kernel⟩, List.mem_of_getElem? (i := 868) (by decide +kernel), List.mem_of_getElem? (i := 1056) (by decide +kernel), List.mem_of_getElem? (i := 1057) (by decide +kernel)⟩
theorem lw_p17 : lw_okq (⟨"TumblingRockModel", "takeShifts", "()V"⟩, 33) := ⟨⟨by decide +kernel, by decide +kernel⟩, List.mem_of_getElem? (i := 868) (by decide +kernel), List.mem_of_getElem? (i := 1060) (by decide +kernel), List.mem_of_getElem? (i := 1061) (by decide +kernel)⟩
theorem lw_p18 : lw_okq (⟨"TumblingRockModel", "heightBy", "(II)I"⟩, 33) := ⟨⟨by decide +kernel, by decide +kernel⟩, List.mem_of_getElem? (i := 868) (by decide +kernel), List.mem_of_getElem? (i := 1064) (by decide +kernel), List.mem_of_getElem? (i := 1065) (by decide +kernel)⟩
theorem lw_p19 : lw_okq (⟨"TumblingRockModel", "isTurning", "(I)Z"⟩, 33) := ⟨⟨by decide +kernel, by decide +kernel⟩, List.mem_of_getElem? (i := 868) (by decide +kernel), List.mem_of_getElem? (i := 1075) (by decide +kernel), List.mem_of_getElem? (i := 1076) (by decide +kernel)⟩
theorem lw_p20 : lw_okq (⟨"TumblingRockModel", "isPlace", "(I)Z"⟩, 33) := ⟨⟨by decide +kernel, by decide +kernel⟩, List.mem_of_getElem? (i := 868) (by decide +kernel), List.mem_of_getElem? (i := 1084) (by decide +kernel), List.mem_of_getElem? (i := 1085) (by decide +kernel)⟩
theorem lw_p21 : lw_okq (⟨"TumblingRockModel", "dark", "(I)I"⟩, 33) := ⟨⟨by decide +kernel, by decide +kernel⟩, List.mem_of_getElem? (i := 868) (by decide +kernel), List.mem_of_getElem? (i := 1089) (by decide +kernel), List.mem_of_getElem? (i := 1090) (by decide +kernel)⟩
theorem lw_p22 : lw_okq (⟨"TumblingRockModel", "litSteps", "(I)I"⟩, 33) := ⟨⟨by decide +kernel, by decide +kernel⟩, List.mem_of_getElem? (i := 868) (by decide +kernel), List.mem_of_getElem? (i := 1093) (by decide +kernel), List.mem_of_getElem? (i := 1094) (by decide +kernel)⟩
theorem lw_p23 : lw_okq (⟨"TumblingRockModel", "pass", "(I)I"⟩, 33) := ⟨⟨by decide +kernel, by decide +kernel⟩, List.mem_of_getElem? (i := 868) (by decide +kernel), List.mem_of_getElem? (i := 1111) (by decide +kernel), List.mem_of_getElem? (i := 1112) (by decide +kernel)⟩
theorem lw_p24 : lw_okq (⟨"TumblingRockModel", "draw", "(I)I"⟩, 33) := ⟨⟨by decide +kernel, by decide +kernel⟩, List.mem_of_getElem? (i := 868) (by decide +kernel), List.mem_of_getElem? (i := 1133) (by decide +kernel), List.mem_of_getElem? (i := 1134) (by decide +kernel)⟩
theorem lw_p25 : lw_okq (⟨"TumblingRockModel", "wayByDraw", "()I"⟩, 33) := ⟨⟨by decide +kernel, by decide +kernel⟩, List.mem_of_getElem? (i := 868) (by decide +kernel), List.mem_of_getElem? (i := 1141) (by decide +kernel), List.mem_of_getElem? (i := 1142) (by decide +kernel)⟩
theorem lw_p26 : lw_okq (⟨"TumblingRockModel", "bestNext", "(III)I"⟩, 33) := ⟨⟨by decide +kernel, by decide +kernel⟩, List.mem_of_getElem? (i := 868) (by decide +kernel), List.mem_of_getElem? (i := 1166) (by decide +kernel), List.mem_of_getElem? (i := 1167) (by decide +kernel)⟩
theorem lw_p27 : lw_okq (⟨"TumblingRockModel", "mayGo", "(II)Z"⟩, 33) := ⟨⟨by decide +kernel, by decide +kernel⟩, List.mem_of_getElem? (i := 868) (by decide +kernel), List.mem_of_getElem? (i := 1170) (by decide +kernel), List.mem_of_getElem? (i := 1171) (by decide +kernel)⟩
theorem lw_p28 : lw_okq (⟨"TumblingRockModel", "codes", "()I"⟩, 33) := ⟨⟨by decide +kernel, by decide +kernel⟩, List.mem_of_getElem? (i := 868) (by decide +kernel), List.mem_of_getElem? (i := 1196) (by decide +kernel), List.mem_of_getElem? (i := 1197) (by decide +kernel)⟩
theorem lw_p29 : lw_okq (⟨"TumblingRockModel", "fitsAll", "(I)Z"⟩, 33) := ⟨⟨by decide +kernel, by decide +kernel⟩, List.mem_of_getElem? (i := 868) (by decide +kernel), List.mem_of_getElem? (i := 1200) (by decide +kernel), List.mem_of_getElem? (i := 1201) (by decide +kernel)⟩
theorem lw_p30 : lw_okq (⟨"TumblingRockModel", "countFits", "()I"⟩, 33) := ⟨⟨by decide +kernel, by decide +kernel⟩, List.mem_of_getElem? (i := 868) (by decide +kernel), List.mem_of_getElem? (i := 1208) (by decide +kernel), List.mem_of_getElem? (i := 1209) (by decide +kernel)⟩
theorem lw_p31 : lw_okq (⟨"TumblingRockModel", "findFar", "(I)V"⟩, 33) := ⟨⟨by decide +kernel, by decide +kernel⟩, List.mem_of_getElem? (i := 868) (by decide +kernel), List.mem_of_getElem? (i := 1216) (by decide +kernel), List.mem_of_getElem? (i := 1217) (by decide +kernel)⟩
def lw_privs_2 : List (MethodName × Nat) := [(⟨"TumblingRockModel", "heightNow", "(II)I"⟩, 33), (⟨"TumblingRockModel", "takeShifts", "()V"⟩, 33), (⟨"TumblingRockModel", "heightBy", "(II)I"⟩, 33), (⟨"TumblingRockModel", "isTurning", "(I)Z"⟩, 33), (⟨"TumblingRockModel", "isPlace", "(I)Z"⟩, 33), (⟨"TumblingRockModel", "dark", "(I)I"⟩, 33), (⟨"TumblingRockModel", "litSteps", "(I)I"⟩, 33), (⟨"TumblingRockModel", "pass", "(I)I"⟩, 33), (⟨"TumblingRockModel", "draw", "(I)I"⟩, 33), (⟨"TumblingRockModel", "wayByDraw", "()I"⟩, 33), (⟨"TumblingRockModel", "bestNext", "(III)I"⟩, 33), (⟨"TumblingRockModel", "mayGo", "(II)Z"⟩, 33), (⟨"TumblingRockModel", "codes", "()I"⟩, 33), (⟨"TumblingRockModel", "fitsAll", "(I)Z"⟩, 33), (⟨"TumblingRockModel", "countFits", "()I"⟩, 33), (⟨"TumblingRockModel", "findFar", "(I)V"⟩, 33)]
theorem lw_r2 : ∀ q ∈ lw_privs_2, lw_okq q := List.forall_mem_cons.mpr ⟨lw_p16, List.forall_mem_cons.mpr ⟨lw_p17, List.forall_mem_cons.mpr ⟨lw_p18, List.forall_mem_cons.mpr ⟨lw_p19, List.forall_mem_cons.mpr ⟨lw_p20, List.forall_mem_cons.mpr ⟨lw_p21, List.forall_mem_cons.mpr ⟨lw_p22, List.forall_mem_cons.mpr ⟨lw_p23, List.forall_mem_cons.mpr ⟨lw_p24, List.forall_mem_cons.mpr ⟨lw_p25, List.forall_mem_cons.mpr ⟨lw_p26, List.forall_mem_cons.mpr ⟨lw_p27, List.forall_mem_cons.mpr ⟨lw_p28, List.forall_mem_cons.mpr ⟨lw_p29, List.forall_mem_cons.mpr ⟨lw_p30, List.forall_mem_cons.mpr ⟨lw_p31, fun _ h => absurd h List.not_mem_nil⟩⟩⟩⟩⟩⟩⟩⟩⟩⟩⟩⟩⟩⟩⟩⟩
theorem lw_p32 : lw_okq (⟨"TumblingRockModel", "codeBy", "(II)I"⟩, 33) := ⟨⟨by decide +kernel, by decide +kernel⟩, List.mem_of_getElem? (i := 868) (by decide +kernel), List.mem_of_getElem? (i := 1220) (by decide +kernel), List.mem_of_getElem? (i := 1221) (by decide +kernel)⟩
theorem lw_p33 : lw_okq (⟨"TumblingRockModel", "copy", "(II)V"⟩, 33) := ⟨⟨by decide +kernel, by decide +kernel⟩, List.mem_of_getElem? (i := 868) (by decide +kernel), List.mem_of_getElem? (i := 1244) (by decide +kernel), List.mem_of_getElem? (i := 1245) (by decide +kernel)⟩
def lw_privs_3 : List (MethodName × Nat) := [(⟨"TumblingRockModel", "codeBy", "(II)I"⟩, 33), (⟨"TumblingRockModel", "copy", "(II)V"⟩, 33)]
theorem lw_r3 : ∀ q ∈ lw_privs_3, lw_okq q := List.forall_mem_cons.mpr ⟨lw_p32, List.forall_mem_cons.mpr ⟨lw_p33, fun _ h => absurd h List.not_mem_nil⟩⟩
def lw_privs : List (MethodName × Nat) := lw_privs_1 ++ (lw_privs_2 ++ (lw_privs_3))
def lw_tbl : List Cond := k2_sels lw_privs ++ tables_1
theorem lw_privs_ok : ∀ q ∈ lw_privs, lw_okq q := by
  show ∀ q ∈ lw_privs_1 ++ (lw_privs_2 ++ (lw_privs_3)), lw_okq q
  exact List.forall_mem_append.mpr ⟨lw_r1, List.forall_mem_append.mpr ⟨lw_r2, lw_r3⟩⟩
-- ===== end of PART A =====
def RX0 : String := "TumblingRock$Book"
def TX0 : u_T := fun k => match k with
  | 0 => ("TumblingRock$Book", "rows", "[I", true)
  | _ => ("TumblingRock$Book", "length", "I", false)
def tyX0 : Nat → FieldType := fun k => match k with
  | 0 => .array .int
  | _ => .int
theorem nmX0 : ∀ a, a < 2 → ∀ b, b < 2 → a ≠ b → (TX0 a).2.1 ≠ (TX0 b).2.1 := by decide +kernel
theorem tyX0_ok : ∀ k, k < 2 → parseFieldDescriptor (TX0 k).2.2.1 = some (tyX0 k) := by decide +kernel
abbrev cX0_init : ByteArray := prog_2_method_1_code
def yX0_init : MethodName := ⟨RX0, "<init>", "()V"⟩
abbrev cX0_add : ByteArray := prog_2_method_2_code
def yX0_add : MethodName := ⟨RX0, "add", "(I)Z"⟩
abbrev cX0_firstWrong : ByteArray := prog_2_method_3_code
def yX0_firstWrong : MethodName := ⟨RX0, "firstWrong", "(LTumblingRock$Rock;)I"⟩
abbrev cX0_lightOf : ByteArray := prog_2_method_4_code
def yX0_lightOf : MethodName := ⟨RX0, "lightOf", "(LTumblingRock$Rock;I)I"⟩
def RX1 : String := "TumblingRock$Farm"
def TX1 : u_T := fun k => match k with
  | 0 => ("TumblingRock$Farm", "shifts", "I", false)
  | 1 => ("TumblingRock$Farm", "where", "I", false)
  | 2 => ("TumblingRock$Farm", "step", "I", false)
  | 3 => ("TumblingRock$Farm", "light", "I", false)
  | _ => ("TumblingRock$Farm", "seed", "I", false)
def tyX1 : Nat → FieldType := fun k => match k with
  | 0 => .int
  | 1 => .int
  | 2 => .int
  | 3 => .int
  | _ => .int
theorem nmX1 : ∀ a, a < 5 → ∀ b, b < 5 → a ≠ b → (TX1 a).2.1 ≠ (TX1 b).2.1 := by decide +kernel
theorem tyX1_ok : ∀ k, k < 5 → parseFieldDescriptor (TX1 k).2.2.1 = some (tyX1 k) := by decide +kernel
abbrev cX1_init : ByteArray := prog_3_method_1_code
def yX1_init : MethodName := ⟨RX1, "<init>", "()V"⟩
abbrev cX1_begin : ByteArray := prog_3_method_2_code
def yX1_begin : MethodName := ⟨RX1, "begin", "()V"⟩
abbrev cX1_become : ByteArray := prog_3_method_3_code
def yX1_become : MethodName := ⟨RX1, "become", "(LTumblingRock$Farm;)V"⟩
abbrev cX1_goOn : ByteArray := prog_3_method_4_code
def yX1_goOn : MethodName := ⟨RX1, "goOn", "(LTumblingRock$Rock;)I"⟩
abbrev cX1_draw : ByteArray := prog_3_method_5_code
def yX1_draw : MethodName := ⟨RX1, "draw", "(I)I"⟩
abbrev cX1_goByDraws : ByteArray := prog_3_method_6_code
def yX1_goByDraws : MethodName := ⟨RX1, "goByDraws", "(LTumblingRock$Rock;)I"⟩
abbrev cX1_goByDraw : ByteArray := prog_3_method_7_code
def yX1_goByDraw : MethodName := ⟨RX1, "goByDraw", "(I)V"⟩
def RX2 : String := "TumblingRock$Mender"
def TX2 : u_T := fun k => match k with
  | 0 => ("TumblingRock$Mender", "far", "[I", true)
  | 1 => ("TumblingRock$Mender", "queue", "[I", true)
  | _ => ("TumblingRock$Mender", "queued", "I", false)
def tyX2 : Nat → FieldType := fun k => match k with
  | 0 => .array .int
  | 1 => .array .int
  | _ => .int
theorem nmX2 : ∀ a, a < 3 → ∀ b, b < 3 → a ≠ b → (TX2 a).2.1 ≠ (TX2 b).2.1 := by decide +kernel
theorem tyX2_ok : ∀ k, k < 3 → parseFieldDescriptor (TX2 k).2.2.1 = some (tyX2 k) := by decide +kernel
abbrev cX2_init : ByteArray := prog_4_method_1_code
def yX2_init : MethodName := ⟨RX2, "<init>", "()V"⟩
abbrev cX2_fewest : ByteArray := prog_4_method_2_code
def yX2_fewest : MethodName := ⟨RX2, "fewest", "(LTumblingRock$Rock;II)I"⟩
abbrev cX2_reach : ByteArray := prog_4_method_3_code
def yX2_reach : MethodName := ⟨RX2, "reach", "(II)V"⟩
abbrev cX2_pushAt : ByteArray := prog_4_method_4_code
def yX2_pushAt : MethodName := ⟨RX2, "pushAt", "(LTumblingRock$Rock;II)I"⟩
abbrev cX2_leastNearer : ByteArray := prog_4_method_5_code
def yX2_leastNearer : MethodName := ⟨RX2, "leastNearer", "(LTumblingRock$Rock;I)I"⟩
def RX3 : String := "TumblingRock$Reader"
def TX3 : u_T := fun k => match k with
  | 0 => ("TumblingRock$Reader", "text", "LTumblingRock$Text;", true)
  | 1 => ("TumblingRock$Reader", "at", "I", false)
  | 2 => ("TumblingRock$Reader", "fault", "I", false)
  | _ => ("TumblingRock$Reader", "faultAt", "I", false)
def tyX3 : Nat → FieldType := fun k => match k with
  | 0 => .object "TumblingRock$Text"
  | 1 => .int
  | 2 => .int
  | _ => .int
theorem nmX3 : ∀ a, a < 4 → ∀ b, b < 4 → a ≠ b → (TX3 a).2.1 ≠ (TX3 b).2.1 := by decide +kernel
theorem tyX3_ok : ∀ k, k < 4 → parseFieldDescriptor (TX3 k).2.2.1 = some (tyX3 k) := by decide +kernel
abbrev cX3_init : ByteArray := prog_5_method_1_code
def yX3_init : MethodName := ⟨RX3, "<init>", "(LTumblingRock$Text;)V"⟩
abbrev cX3_reads : ByteArray := prog_5_method_2_code
def yX3_reads : MethodName := ⟨RX3, "reads", "(LTumblingRock$Rock;)Z"⟩
abbrev cX3_refuse : ByteArray := prog_5_method_3_code
def yX3_refuse : MethodName := ⟨RX3, "refuse", "(II)V"⟩
abbrev cX3_passBlanks : ByteArray := prog_5_method_4_code
def yX3_passBlanks : MethodName := ⟨RX3, "passBlanks", "()V"⟩
abbrev cX3_readClause : ByteArray := prog_5_method_5_code
def yX3_readClause : MethodName := ⟨RX3, "readClause", "(LTumblingRock$Rock;)V"⟩
abbrev cX3_hasRoom : ByteArray := prog_5_method_6_code
def yX3_hasRoom : MethodName := ⟨RX3, "hasRoom", "(III)Z"⟩
abbrev cX3_readTurning : ByteArray := prog_5_method_7_code
def yX3_readTurning : MethodName := ⟨RX3, "readTurning", "(LTumblingRock$Rock;)V"⟩
abbrev cX3_readPlace : ByteArray := prog_5_method_8_code
def yX3_readPlace : MethodName := ⟨RX3, "readPlace", "(LTumblingRock$Rock;)V"⟩
abbrev cX3_readWay : ByteArray := prog_5_method_9_code
def yX3_readWay : MethodName := ⟨RX3, "readWay", "(LTumblingRock$Rock;)V"⟩
abbrev cX3_readPush : ByteArray := prog_5_method_10_code
def yX3_readPush : MethodName := ⟨RX3, "readPush", "(LTumblingRock$Rock;)V"⟩
abbrev cX3_readNumber : ByteArray := prog_5_method_11_code
def yX3_readNumber : MethodName := ⟨RX3, "readNumber", "(I)I"⟩
abbrev cX3_readEnd : ByteArray := prog_5_method_12_code
def yX3_readEnd : MethodName := ⟨RX3, "readEnd", "()V"⟩
def RX4 : String := "TumblingRock$Rock"
def TX4 : u_T := fun k => match k with
  | 0 => ("TumblingRock$Rock", "turnings", "I", false)
  | 1 => ("TumblingRock$Rock", "places", "I", false)
  | 2 => ("TumblingRock$Rock", "ways", "I", false)
  | 3 => ("TumblingRock$Rock", "pushes", "I", false)
  | 4 => ("TumblingRock$Rock", "standings", "I", false)
  | 5 => ("TumblingRock$Rock", "period", "I", false)
  | 6 => ("TumblingRock$Rock", "sizes", "[I", true)
  | 7 => ("TumblingRock$Rock", "weights", "[I", true)
  | 8 => ("TumblingRock$Rock", "parts", "[I", true)
  | 9 => ("TumblingRock$Rock", "faces", "[I", true)
  | 10 => ("TumblingRock$Rock", "roads", "[I", true)
  | 11 => ("TumblingRock$Rock", "shoves", "[I", true)
  | 12 => ("TumblingRock$Rock", "lit", "[I", true)
  | _ => ("TumblingRock$Rock", "later", "[I", true)
def tyX4 : Nat → FieldType := fun k => match k with
  | 0 => .int
  | 1 => .int
  | 2 => .int
  | 3 => .int
  | 4 => .int
  | 5 => .int
  | 6 => .array .int
  | 7 => .array .int
  | 8 => .array .int
  | 9 => .array .int
  | 10 => .array .int
  | 11 => .array .int
  | 12 => .array .int
  | _ => .array .int
theorem nmX4 : ∀ a, a < 14 → ∀ b, b < 14 → a ≠ b → (TX4 a).2.1 ≠ (TX4 b).2.1 := by decide +kernel
theorem tyX4_ok : ∀ k, k < 14 → parseFieldDescriptor (TX4 k).2.2.1 = some (tyX4 k) := by decide +kernel
abbrev cX4_init : ByteArray := prog_6_method_1_code
def yX4_init : MethodName := ⟨RX4, "<init>", "()V"⟩
abbrev cX4_clear : ByteArray := prog_6_method_2_code
def yX4_clear : MethodName := ⟨RX4, "clear", "()V"⟩
abbrev cX4_addTurning : ByteArray := prog_6_method_3_code
def yX4_addTurning : MethodName := ⟨RX4, "addTurning", "()V"⟩
abbrev cX4_addPart : ByteArray := prog_6_method_4_code
def yX4_addPart : MethodName := ⟨RX4, "addPart", "(I)V"⟩
abbrev cX4_addPlace : ByteArray := prog_6_method_5_code
def yX4_addPlace : MethodName := ⟨RX4, "addPlace", "(III)V"⟩
abbrev cX4_addWay : ByteArray := prog_6_method_6_code
def yX4_addWay : MethodName := ⟨RX4, "addWay", "(II)V"⟩
abbrev cX4_addPush : ByteArray := prog_6_method_7_code
def yX4_addPush : MethodName := ⟨RX4, "addPush", "(III)V"⟩
abbrev cX4_settle : ByteArray := prog_6_method_8_code
def yX4_settle : MethodName := ⟨RX4, "settle", "()V"⟩
abbrev cX4_leastPeriod : ByteArray := prog_6_method_9_code
def yX4_leastPeriod : MethodName := ⟨RX4, "leastPeriod", "()I"⟩
abbrev cX4_placesAboveNought : ByteArray := prog_6_method_10_code
def yX4_placesAboveNought : MethodName := ⟨RX4, "placesAboveNought", "(I)I"⟩
abbrev cX4_size : ByteArray := prog_6_method_11_code
def yX4_size : MethodName := ⟨RX4, "size", "(I)I"⟩
abbrev cX4_part : ByteArray := prog_6_method_12_code
def yX4_part : MethodName := ⟨RX4, "part", "(II)I"⟩
abbrev cX4_face : ByteArray := prog_6_method_13_code
def yX4_face : MethodName := ⟨RX4, "face", "(II)I"⟩
abbrev cX4_road : ByteArray := prog_6_method_14_code
def yX4_road : MethodName := ⟨RX4, "road", "(I)I"⟩
abbrev cX4_shove : ByteArray := prog_6_method_15_code
def yX4_shove : MethodName := ⟨RX4, "shove", "(II)I"⟩
abbrev cX4_leads : ByteArray := prog_6_method_16_code
def yX4_leads : MethodName := ⟨RX4, "leads", "(II)Z"⟩
abbrev cX4_digit : ByteArray := prog_6_method_17_code
def yX4_digit : MethodName := ⟨RX4, "digit", "(II)I"⟩
abbrev cX4_moved : ByteArray := prog_6_method_18_code
def yX4_moved : MethodName := ⟨RX4, "moved", "(IIII)I"⟩
abbrev cX4_turned : ByteArray := prog_6_method_19_code
def yX4_turned : MethodName := ⟨RX4, "turned", "(III)I"⟩
abbrev cX4_knocked : ByteArray := prog_6_method_20_code
def yX4_knocked : MethodName := ⟨RX4, "knocked", "(III)I"⟩
abbrev cX4_pushed : ByteArray := prog_6_method_21_code
def yX4_pushed : MethodName := ⟨RX4, "pushed", "(II)I"⟩
abbrev cX4_unpushed : ByteArray := prog_6_method_22_code
def yX4_unpushed : MethodName := ⟨RX4, "unpushed", "(II)I"⟩
abbrev cX4_backBy : ByteArray := prog_6_method_23_code
def yX4_backBy : MethodName := ⟨RX4, "backBy", "(II)I"⟩
abbrev cX4_shiftedBy : ByteArray := prog_6_method_24_code
def yX4_shiftedBy : MethodName := ⟨RX4, "shiftedBy", "(I)I"⟩
abbrev cX4_standingOf : ByteArray := prog_6_method_25_code
def yX4_standingOf : MethodName := ⟨RX4, "standingOf", "(III)I"⟩
abbrev cX4_canStand : ByteArray := prog_6_method_26_code
def yX4_canStand : MethodName := ⟨RX4, "canStand", "(II)Z"⟩
abbrev cX4_heightOf : ByteArray := prog_6_method_27_code
def yX4_heightOf : MethodName := ⟨RX4, "heightOf", "(II)I"⟩
abbrev cX4_litSet : ByteArray := prog_6_method_28_code
def yX4_litSet : MethodName := ⟨RX4, "litSet", "(I)I"⟩
abbrev cX4_litBit : ByteArray := prog_6_method_29_code
def yX4_litBit : MethodName := ⟨RX4, "litBit", "(II)I"⟩
abbrev cX4_stepLater : ByteArray := prog_6_method_30_code
def yX4_stepLater : MethodName := ⟨RX4, "stepLater", "(I)I"⟩
abbrev cX4_stepsTillLit : ByteArray := prog_6_method_31_code
def yX4_stepsTillLit : MethodName := ⟨RX4, "stepsTillLit", "(II)I"⟩
abbrev cX4_stepsOfLight : ByteArray := prog_6_method_32_code
def yX4_stepsOfLight : MethodName := ⟨RX4, "stepsOfLight", "(II)I"⟩
abbrev cX4_litSteps : ByteArray := prog_6_method_33_code
def yX4_litSteps : MethodName := ⟨RX4, "litSteps", "(II)I"⟩
abbrev cX4_longestDark : ByteArray := prog_6_method_34_code
def yX4_longestDark : MethodName := ⟨RX4, "longestDark", "(II)I"⟩
abbrev cX4_stepsTillStanding : ByteArray := prog_6_method_35_code
def yX4_stepsTillStanding : MethodName := ⟨RX4, "stepsTillStanding", "(II)I"⟩
abbrev cX4_stepsTillCross : ByteArray := prog_6_method_36_code
def yX4_stepsTillCross : MethodName := ⟨RX4, "stepsTillCross", "(III)I"⟩
def RX5 : String := "TumblingRock$Route"
def TX5 : u_T := fun k => match k with
  | 0 => ("TumblingRock$Route", "best", "[I", true)
  | _ => ("TumblingRock$Route", "lit", "[I", true)
def tyX5 : Nat → FieldType := fun k => match k with
  | 0 => .array .int
  | _ => .array .int
theorem nmX5 : ∀ a, a < 2 → ∀ b, b < 2 → a ≠ b → (TX5 a).2.1 ≠ (TX5 b).2.1 := by decide +kernel
theorem tyX5_ok : ∀ k, k < 2 → parseFieldDescriptor (TX5 k).2.2.1 = some (tyX5 k) := by decide +kernel
abbrev cX5_init : ByteArray := prog_7_method_1_code
def yX5_init : MethodName := ⟨RX5, "<init>", "()V"⟩
abbrev cX5_weigh : ByteArray := prog_7_method_2_code
def yX5_weigh : MethodName := ⟨RX5, "weigh", "(LTumblingRock$Rock;II)V"⟩
abbrev cX5_bestFrom : ByteArray := prog_7_method_3_code
def yX5_bestFrom : MethodName := ⟨RX5, "bestFrom", "(LTumblingRock$Rock;II)I"⟩
abbrev cX5_lightBy : ByteArray := prog_7_method_4_code
def yX5_lightBy : MethodName := ⟨RX5, "lightBy", "(II)I"⟩
abbrev cX5_mostLight : ByteArray := prog_7_method_5_code
def yX5_mostLight : MethodName := ⟨RX5, "mostLight", "(II)I"⟩
abbrev cX5_placeBehind : ByteArray := prog_7_method_6_code
def yX5_placeBehind : MethodName := ⟨RX5, "placeBehind", "(LTumblingRock$Rock;II)I"⟩
abbrev cX5_leastGood : ByteArray := prog_7_method_7_code
def yX5_leastGood : MethodName := ⟨RX5, "leastGood", "(LTumblingRock$Rock;II)I"⟩
abbrev cX5_fewestLitSteps : ByteArray := prog_7_method_8_code
def yX5_fewestLitSteps : MethodName := ⟨RX5, "fewestLitSteps", "(LTumblingRock$Rock;III)I"⟩
abbrev cX5_spread : ByteArray := prog_7_method_9_code
def yX5_spread : MethodName := ⟨RX5, "spread", "(LTumblingRock$Rock;I)I"⟩
def RX6 : String := "TumblingRock$Sight"
def TX6 : u_T := fun k => match k with
  | 0 => ("TumblingRock$Sight", "seen", "I", false)
  | 1 => ("TumblingRock$Sight", "fitting", "I", false)
  | 2 => ("TumblingRock$Sight", "lookPlace", "I", false)
  | 3 => ("TumblingRock$Sight", "lookStep", "I", false)
  | 4 => ("TumblingRock$Sight", "lookPart", "I", false)
  | 5 => ("TumblingRock$Sight", "looked", "Z", false)
  | 6 => ("TumblingRock$Sight", "fits", "[I", true)
  | _ => ("TumblingRock$Sight", "lit", "[I", true)
def tyX6 : Nat → FieldType := fun k => match k with
  | 0 => .int
  | 1 => .int
  | 2 => .int
  | 3 => .int
  | 4 => .int
  | 5 => .boolean
  | 6 => .array .int
  | _ => .array .int
theorem nmX6 : ∀ a, a < 8 → ∀ b, b < 8 → a ≠ b → (TX6 a).2.1 ≠ (TX6 b).2.1 := by decide +kernel
theorem tyX6_ok : ∀ k, k < 8 → parseFieldDescriptor (TX6 k).2.2.1 = some (tyX6 k) := by decide +kernel
abbrev cX6_init : ByteArray := prog_8_method_1_code
def yX6_init : MethodName := ⟨RX6, "<init>", "()V"⟩
abbrev cX6_forget : ByteArray := prog_8_method_2_code
def yX6_forget : MethodName := ⟨RX6, "forget", "(LTumblingRock$Rock;)V"⟩
abbrev cX6_fitAt : ByteArray := prog_8_method_3_code
def yX6_fitAt : MethodName := ⟨RX6, "fitAt", "(I)I"⟩
abbrev cX6_narrow : ByteArray := prog_8_method_4_code
def yX6_narrow : MethodName := ⟨RX6, "narrow", "(LTumblingRock$Rock;IIZ)V"⟩
abbrev cX6_findLook : ByteArray := prog_8_method_5_code
def yX6_findLook : MethodName := ⟨RX6, "findLook", "(LTumblingRock$Rock;)V"⟩
abbrev cX6_countLit : ByteArray := prog_8_method_6_code
def yX6_countLit : MethodName := ⟨RX6, "countLit", "(LTumblingRock$Rock;)V"⟩
abbrev cX6_addLit : ByteArray := prog_8_method_7_code
def yX6_addLit : MethodName := ⟨RX6, "addLit", "(II)V"⟩
abbrev cX6_tryLook : ByteArray := prog_8_method_8_code
def yX6_tryLook : MethodName := ⟨RX6, "tryLook", "(II)V"⟩
def RX7 : String := "TumblingRock$Text"
def TX7 : u_T := fun k => match k with
  | 0 => ("TumblingRock$Text", "bytes", "[I", true)
  | _ => ("TumblingRock$Text", "length", "I", false)
def tyX7 : Nat → FieldType := fun k => match k with
  | 0 => .array .int
  | _ => .int
theorem nmX7 : ∀ a, a < 2 → ∀ b, b < 2 → a ≠ b → (TX7 a).2.1 ≠ (TX7 b).2.1 := by decide +kernel
theorem tyX7_ok : ∀ k, k < 2 → parseFieldDescriptor (TX7 k).2.2.1 = some (tyX7 k) := by decide +kernel
abbrev cX7_init : ByteArray := prog_9_method_1_code
def yX7_init : MethodName := ⟨RX7, "<init>", "()V"⟩
abbrev cX7_take : ByteArray := prog_9_method_2_code
def yX7_take : MethodName := ⟨RX7, "take", "(IJ)Z"⟩
abbrev cX7_byteAt : ByteArray := prog_9_method_3_code
def yX7_byteAt : MethodName := ⟨RX7, "byteAt", "(I)I"⟩
abbrev cX7_isLetter : ByteArray := prog_9_method_4_code
def yX7_isLetter : MethodName := ⟨RX7, "isLetter", "(I)Z"⟩
abbrev cX7_isFigure : ByteArray := prog_9_method_5_code
def yX7_isFigure : MethodName := ⟨RX7, "isFigure", "(I)Z"⟩
abbrev cX7_spells : ByteArray := prog_9_method_6_code
def yX7_spells : MethodName := ⟨RX7, "spells", "(IILjava/lang/String;)Z"⟩
def RX8 : String := "TumblingRock"
def TX8 : u_T := fun k => match k with
  | 0 => ("TumblingRock", "text", "LTumblingRock$Text;", true)
  | 1 => ("TumblingRock", "reader", "LTumblingRock$Reader;", true)
  | 2 => ("TumblingRock", "farm", "LTumblingRock$Farm;", true)
  | 3 => ("TumblingRock", "images", "[LTumblingRock$Farm;", true)
  | 4 => ("TumblingRock", "kept", "[Z", true)
  | 5 => ("TumblingRock", "sight", "LTumblingRock$Sight;", true)
  | 6 => ("TumblingRock", "route", "LTumblingRock$Route;", true)
  | 7 => ("TumblingRock", "mender", "LTumblingRock$Mender;", true)
  | 8 => ("TumblingRock", "book", "LTumblingRock$Book;", true)
  | 9 => ("TumblingRock", "rock", "LTumblingRock$Rock;", false)
  | _ => ("TumblingRock", "spare", "LTumblingRock$Rock;", false)
def tyX8 : Nat → FieldType := fun k => match k with
  | 0 => .object "TumblingRock$Text"
  | 1 => .object "TumblingRock$Reader"
  | 2 => .object "TumblingRock$Farm"
  | 3 => .array (.object "TumblingRock$Farm")
  | 4 => .array .boolean
  | 5 => .object "TumblingRock$Sight"
  | 6 => .object "TumblingRock$Route"
  | 7 => .object "TumblingRock$Mender"
  | 8 => .object "TumblingRock$Book"
  | 9 => .object "TumblingRock$Rock"
  | _ => .object "TumblingRock$Rock"
theorem nmX8 : ∀ a, a < 11 → ∀ b, b < 11 → a ≠ b → (TX8 a).2.1 ≠ (TX8 b).2.1 := by decide +kernel
theorem tyX8_ok : ∀ k, k < 11 → parseFieldDescriptor (TX8 k).2.2.1 = some (tyX8 k) := by decide +kernel
abbrev cX8_init : ByteArray := prog_1_method_1_code
def yX8_init : MethodName := ⟨RX8, "<init>", "()V"⟩
abbrev cX8_feed : ByteArray := prog_1_method_2_code
def yX8_feed : MethodName := ⟨RX8, "feed", "(IJ)I"⟩
abbrev cX8_rock : ByteArray := prog_1_method_3_code
def yX8_rock : MethodName := ⟨RX8, "rock", "()I"⟩
abbrev cX8_fault : ByteArray := prog_1_method_4_code
def yX8_fault : MethodName := ⟨RX8, "fault", "()I"⟩
abbrev cX8_told : ByteArray := prog_1_method_5_code
def yX8_told : MethodName := ⟨RX8, "told", "(I)I"⟩
abbrev cX8_turning : ByteArray := prog_1_method_6_code
def yX8_turning : MethodName := ⟨RX8, "turning", "(II)I"⟩
abbrev cX8_place : ByteArray := prog_1_method_7_code
def yX8_place : MethodName := ⟨RX8, "place", "(II)I"⟩
abbrev cX8_height : ByteArray := prog_1_method_8_code
def yX8_height : MethodName := ⟨RX8, "height", "(II)I"⟩
abbrev cX8_stay : ByteArray := prog_1_method_9_code
def yX8_stay : MethodName := ⟨RX8, "stay", "(I)I"⟩
abbrev cX8_go : ByteArray := prog_1_method_10_code
def yX8_go : MethodName := ⟨RX8, "go", "(I)I"⟩
abbrev cX8_knock : ByteArray := prog_1_method_11_code
def yX8_knock : MethodName := ⟨RX8, "knock", "(II)I"⟩
abbrev cX8_push : ByteArray := prog_1_method_12_code
def yX8_push : MethodName := ⟨RX8, "push", "(I)I"⟩
abbrev cX8_drift : ByteArray := prog_1_method_13_code
def yX8_drift : MethodName := ⟨RX8, "drift", "(I)I"⟩
abbrev cX8_next : ByteArray := prog_1_method_14_code
def yX8_next : MethodName := ⟨RX8, "next", "(III)I"⟩
abbrev cX8_share : ByteArray := prog_1_method_15_code
def yX8_share : MethodName := ⟨RX8, "share", "(II)I"⟩
abbrev cX8_stand : ByteArray := prog_1_method_16_code
def yX8_stand : MethodName := ⟨RX8, "stand", "(IIII)I"⟩
abbrev cX8_way : ByteArray := prog_1_method_17_code
def yX8_way : MethodName := ⟨RX8, "way", "(IIII)I"⟩
abbrev cX8_mail : ByteArray := prog_1_method_18_code
def yX8_mail : MethodName := ⟨RX8, "mail", "(III)I"⟩
abbrev cX8_cross : ByteArray := prog_1_method_19_code
def yX8_cross : MethodName := ⟨RX8, "cross", "(III)I"⟩
abbrev cX8_store : ByteArray := prog_1_method_20_code
def yX8_store : MethodName := ⟨RX8, "store", "()I"⟩
abbrev cX8_see : ByteArray := prog_1_method_21_code
def yX8_see : MethodName := ⟨RX8, "see", "(IIZ)I"⟩
abbrev cX8_fits : ByteArray := prog_1_method_22_code
def yX8_fits : MethodName := ⟨RX8, "fits", "(II)I"⟩
abbrev cX8_look : ByteArray := prog_1_method_23_code
def yX8_look : MethodName := ⟨RX8, "look", "(I)I"⟩
abbrev cX8_mend : ByteArray := prog_1_method_24_code
def yX8_mend : MethodName := ⟨RX8, "mend", "(IIII)I"⟩
abbrev cX8_write : ByteArray := prog_1_method_25_code
def yX8_write : MethodName := ⟨RX8, "write", "(I)I"⟩
abbrev cX8_tear : ByteArray := prog_1_method_26_code
def yX8_tear : MethodName := ⟨RX8, "tear", "()I"⟩
abbrev cX8_judge : ByteArray := prog_1_method_27_code
def yX8_judge : MethodName := ⟨RX8, "judge", "(I)I"⟩
abbrev cX8_seed : ByteArray := prog_1_method_28_code
def yX8_seed : MethodName := ⟨RX8, "seed", "(I)I"⟩
abbrev cX8_keep : ByteArray := prog_1_method_29_code
def yX8_keep : MethodName := ⟨RX8, "keep", "(I)I"⟩
abbrev cX8_goBack : ByteArray := prog_1_method_30_code
def yX8_goBack : MethodName := ⟨RX8, "goBack", "(I)I"⟩
abbrev cX8_beginAnew : ByteArray := prog_1_method_31_code
def yX8_beginAnew : MethodName := ⟨RX8, "beginAnew", "()V"⟩
abbrev cX8_standingAt : ByteArray := prog_1_method_32_code
def yX8_standingAt : MethodName := ⟨RX8, "standingAt", "(I)I"⟩
abbrev cX8_isTurning : ByteArray := prog_1_method_33_code
def yX8_isTurning : MethodName := ⟨RX8, "isTurning", "(I)Z"⟩
abbrev cX8_isPlace : ByteArray := prog_1_method_34_code
def yX8_isPlace : MethodName := ⟨RX8, "isPlace", "(I)Z"⟩
abbrev cX8_isStep : ByteArray := prog_1_method_35_code
def yX8_isStep : MethodName := ⟨RX8, "isStep", "(I)Z"⟩
abbrev cX8_areShifts : ByteArray := prog_1_method_36_code
def yX8_areShifts : MethodName := ⟨RX8, "areShifts", "(III)Z"⟩
abbrev cX8_inside : ByteArray := prog_1_method_37_code
def yX8_inside : MethodName := ⟨RX8, "inside", "(III)Z"⟩
abbrev cX8_leftOver : ByteArray := prog_1_method_38_code
def yX8_leftOver : MethodName := ⟨RX8, "leftOver", "(II)I"⟩
abbrev cX8_at : ByteArray := prog_1_method_39_code
def yX8_at : MethodName := ⟨RX8, "at", "([II)I"⟩
abbrev cX8_put : ByteArray := prog_1_method_40_code
def yX8_put : MethodName := ⟨RX8, "put", "([III)V"⟩
abbrev cX8_bit : ByteArray := prog_1_method_41_code
def yX8_bit : MethodName := ⟨RX8, "bit", "(II)I"⟩
abbrev cX8_memberAt : ByteArray := prog_1_method_42_code
def yX8_memberAt : MethodName := ⟨RX8, "memberAt", "(II)I"⟩
abbrev cX8_commonDivisor : ByteArray := prog_1_method_43_code
def yX8_commonDivisor : MethodName := ⟨RX8, "commonDivisor", "(II)I"⟩
def RX9 : String := "TumblingRockModel"
def TX9 : u_T := fun k => match k with
  | 0 => ("TumblingRockModel", "w", "[I", true)
  | 1 => ("TumblingRockModel", "isKept", "[Z", true)
  | 2 => ("TumblingRockModel", "part", "[I", true)
  | 3 => ("TumblingRockModel", "many", "[I", true)
  | 4 => ("TumblingRockModel", "faces", "[I", true)
  | 5 => ("TumblingRockModel", "ways", "[I", true)
  | 6 => ("TumblingRockModel", "pushes", "[I", true)
  | 7 => ("TumblingRockModel", "turnings", "I", false)
  | 8 => ("TumblingRockModel", "places", "I", false)
  | 9 => ("TumblingRockModel", "wayMany", "I", false)
  | 10 => ("TumblingRockModel", "pushMany", "I", false)
  | 11 => ("TumblingRockModel", "newTurnings", "I", false)
  | 12 => ("TumblingRockModel", "newPlaces", "I", false)
  | 13 => ("TumblingRockModel", "newWays", "I", false)
  | 14 => ("TumblingRockModel", "newPushes", "I", false)
  | 15 => ("TumblingRockModel", "text", "[I", true)
  | 16 => ("TumblingRockModel", "textSize", "I", false)
  | 17 => ("TumblingRockModel", "at", "I", false)
  | 18 => ("TumblingRockModel", "first", "I", false)
  | 19 => ("TumblingRockModel", "length", "I", false)
  | 20 => ("TumblingRockModel", "faultOf", "I", false)
  | 21 => ("TumblingRockModel", "fault", "I", false)
  | 22 => ("TumblingRockModel", "period", "I", false)
  | 23 => ("TumblingRockModel", "shift", "[I", true)
  | 24 => ("TumblingRockModel", "most", "[I", true)
  | 25 => ("TumblingRockModel", "seenPlace", "[I", true)
  | 26 => ("TumblingRockModel", "seenStep", "[I", true)
  | 27 => ("TumblingRockModel", "seenLit", "[Z", true)
  | 28 => ("TumblingRockModel", "seenMany", "I", false)
  | 29 => ("TumblingRockModel", "lit", "[I", true)
  | 30 => ("TumblingRockModel", "far", "[I", true)
  | 31 => ("TumblingRockModel", "book", "[I", true)
  | _ => ("TumblingRockModel", "written", "I", false)
def tyX9 : Nat → FieldType := fun k => match k with
  | 0 => .array .int
  | 1 => .array .boolean
  | 2 => .array .int
  | 3 => .array .int
  | 4 => .array .int
  | 5 => .array .int
  | 6 => .array .int
  | 7 => .int
  | 8 => .int
  | 9 => .int
  | 10 => .int
  | 11 => .int
  | 12 => .int
  | 13 => .int
  | 14 => .int
  | 15 => .array .int
  | 16 => .int
  | 17 => .int
  | 18 => .int
  | 19 => .int
  | 20 => .int
  | 21 => .int
  | 22 => .int
  | 23 => .array .int
  | 24 => .array .int
  | 25 => .array .int
  | 26 => .array .int
  | 27 => .array .boolean
  | 28 => .int
  | 29 => .array .int
  | 30 => .array .int
  | 31 => .array .int
  | _ => .int
theorem nmX9 : ∀ a, a < 33 → ∀ b, b < 33 → a ≠ b → (TX9 a).2.1 ≠ (TX9 b).2.1 := by decide +kernel
theorem tyX9_ok : ∀ k, k < 33 → parseFieldDescriptor (TX9 k).2.2.1 = some (tyX9 k) := by decide +kernel
abbrev cX9_init : ByteArray := prog_11_method_1_code
def yX9_init : MethodName := ⟨RX9, "<init>", "()V"⟩
abbrev cX9_in : ByteArray := prog_11_method_3_code
def yX9_in : MethodName := ⟨RX9, "in", "(JJJ)Z"⟩
abbrev cX9_one : ByteArray := prog_11_method_4_code
def yX9_one : MethodName := ⟨RX9, "one", "(Z)I"⟩
abbrev cX9_has : ByteArray := prog_11_method_5_code
def yX9_has : MethodName := ⟨RX9, "has", "(II)Z"⟩
abbrev cX9_feed : ByteArray := prog_11_method_6_code
def yX9_feed : MethodName := ⟨RX9, "feed", "(IJ)I"⟩
abbrev cX9_here : ByteArray := prog_11_method_7_code
def yX9_here : MethodName := ⟨RX9, "here", "()I"⟩
abbrev cX9_want : ByteArray := prog_11_method_8_code
def yX9_want : MethodName := ⟨RX9, "want", "(ZII)Z"⟩
abbrev cX9_takeWord : ByteArray := prog_11_method_9_code
def yX9_takeWord : MethodName := ⟨RX9, "takeWord", "()V"⟩
abbrev cX9_isWord : ByteArray := prog_11_method_10_code
def yX9_isWord : MethodName := ⟨RX9, "isWord", "(IIIIII)Z"⟩
abbrev cX9_takeNumber : ByteArray := prog_11_method_11_code
def yX9_takeNumber : MethodName := ⟨RX9, "takeNumber", "(II)I"⟩
abbrev cX9_takeTurn : ByteArray := prog_11_method_12_code
def yX9_takeTurn : MethodName := ⟨RX9, "takeTurn", "()V"⟩
abbrev cX9_takePlace : ByteArray := prog_11_method_13_code
def yX9_takePlace : MethodName := ⟨RX9, "takePlace", "()V"⟩
abbrev cX9_takeWay : ByteArray := prog_11_method_14_code
def yX9_takeWay : MethodName := ⟨RX9, "takeWay", "()V"⟩
abbrev cX9_takePush : ByteArray := prog_11_method_15_code
def yX9_takePush : MethodName := ⟨RX9, "takePush", "()V"⟩
abbrev cX9_takeClause : ByteArray := prog_11_method_16_code
def yX9_takeClause : MethodName := ⟨RX9, "takeClause", "()V"⟩
abbrev cX9_rock : ByteArray := prog_11_method_17_code
def yX9_rock : MethodName := ⟨RX9, "rock", "()I"⟩
abbrev cX9_fault : ByteArray := prog_11_method_18_code
def yX9_fault : MethodName := ⟨RX9, "fault", "()I"⟩
abbrev cX9_common : ByteArray := prog_11_method_19_code
def yX9_common : MethodName := ⟨RX9, "common", "(II)I"⟩
abbrev cX9_isPlace : ByteArray := prog_11_method_20_code
def yX9_isPlace : MethodName := ⟨RX9, "isPlace", "(I)Z"⟩
abbrev cX9_isTurning : ByteArray := prog_11_method_21_code
def yX9_isTurning : MethodName := ⟨RX9, "isTurning", "(I)Z"⟩
abbrev cX9_isStep : ByteArray := prog_11_method_22_code
def yX9_isStep : MethodName := ⟨RX9, "isStep", "(I)Z"⟩
abbrev cX9_takeShifts : ByteArray := prog_11_method_23_code
def yX9_takeShifts : MethodName := ⟨RX9, "takeShifts", "()V"⟩
abbrev cX9_heightBy : ByteArray := prog_11_method_24_code
def yX9_heightBy : MethodName := ⟨RX9, "heightBy", "(II)I"⟩
abbrev cX9_heightNow : ByteArray := prog_11_method_25_code
def yX9_heightNow : MethodName := ⟨RX9, "heightNow", "(II)I"⟩
abbrev cX9_isLit : ByteArray := prog_11_method_26_code
def yX9_isLit : MethodName := ⟨RX9, "isLit", "(II)Z"⟩
abbrev cX9_litNow : ByteArray := prog_11_method_27_code
def yX9_litNow : MethodName := ⟨RX9, "litNow", "()I"⟩
abbrev cX9_told : ByteArray := prog_11_method_28_code
def yX9_told : MethodName := ⟨RX9, "told", "(I)I"⟩
abbrev cX9_turning : ByteArray := prog_11_method_29_code
def yX9_turning : MethodName := ⟨RX9, "turning", "(II)I"⟩
abbrev cX9_litSteps : ByteArray := prog_11_method_30_code
def yX9_litSteps : MethodName := ⟨RX9, "litSteps", "(I)I"⟩
abbrev cX9_dark : ByteArray := prog_11_method_31_code
def yX9_dark : MethodName := ⟨RX9, "dark", "(I)I"⟩
abbrev cX9_place : ByteArray := prog_11_method_32_code
def yX9_place : MethodName := ⟨RX9, "place", "(II)I"⟩
abbrev cX9_height : ByteArray := prog_11_method_33_code
def yX9_height : MethodName := ⟨RX9, "height", "(II)I"⟩
abbrev cX9_pass : ByteArray := prog_11_method_34_code
def yX9_pass : MethodName := ⟨RX9, "pass", "(I)I"⟩
abbrev cX9_stay : ByteArray := prog_11_method_35_code
def yX9_stay : MethodName := ⟨RX9, "stay", "(I)I"⟩
abbrev cX9_go : ByteArray := prog_11_method_36_code
def yX9_go : MethodName := ⟨RX9, "go", "(I)I"⟩
abbrev cX9_knock : ByteArray := prog_11_method_37_code
def yX9_knock : MethodName := ⟨RX9, "knock", "(II)I"⟩
abbrev cX9_push : ByteArray := prog_11_method_38_code
def yX9_push : MethodName := ⟨RX9, "push", "(I)I"⟩
abbrev cX9_draw : ByteArray := prog_11_method_39_code
def yX9_draw : MethodName := ⟨RX9, "draw", "(I)I"⟩
abbrev cX9_ones : ByteArray := prog_11_method_40_code
def yX9_ones : MethodName := ⟨RX9, "ones", "(I)I"⟩
abbrev cX9_wayByDraw : ByteArray := prog_11_method_41_code
def yX9_wayByDraw : MethodName := ⟨RX9, "wayByDraw", "()I"⟩
abbrev cX9_drift : ByteArray := prog_11_method_42_code
def yX9_drift : MethodName := ⟨RX9, "drift", "(I)I"⟩
abbrev cX9_next : ByteArray := prog_11_method_43_code
def yX9_next : MethodName := ⟨RX9, "next", "(III)I"⟩
abbrev cX9_share : ByteArray := prog_11_method_44_code
def yX9_share : MethodName := ⟨RX9, "share", "(II)I"⟩
abbrev cX9_stand : ByteArray := prog_11_method_45_code
def yX9_stand : MethodName := ⟨RX9, "stand", "(IIII)I"⟩
abbrev cX9_mayGo : ByteArray := prog_11_method_46_code
def yX9_mayGo : MethodName := ⟨RX9, "mayGo", "(II)Z"⟩
abbrev cX9_bestNext : ByteArray := prog_11_method_47_code
def yX9_bestNext : MethodName := ⟨RX9, "bestNext", "(III)I"⟩
abbrev cX9_way : ByteArray := prog_11_method_48_code
def yX9_way : MethodName := ⟨RX9, "way", "(IIII)I"⟩
abbrev cX9_mail : ByteArray := prog_11_method_49_code
def yX9_mail : MethodName := ⟨RX9, "mail", "(III)I"⟩
abbrev cX9_cross : ByteArray := prog_11_method_50_code
def yX9_cross : MethodName := ⟨RX9, "cross", "(III)I"⟩
abbrev cX9_store : ByteArray := prog_11_method_51_code
def yX9_store : MethodName := ⟨RX9, "store", "()I"⟩
abbrev cX9_see : ByteArray := prog_11_method_52_code
def yX9_see : MethodName := ⟨RX9, "see", "(IIZ)I"⟩
abbrev cX9_codes : ByteArray := prog_11_method_53_code
def yX9_codes : MethodName := ⟨RX9, "codes", "()I"⟩
abbrev cX9_fitsAll : ByteArray := prog_11_method_54_code
def yX9_fitsAll : MethodName := ⟨RX9, "fitsAll", "(I)Z"⟩
abbrev cX9_fits : ByteArray := prog_11_method_55_code
def yX9_fits : MethodName := ⟨RX9, "fits", "(II)I"⟩
abbrev cX9_countFits : ByteArray := prog_11_method_56_code
def yX9_countFits : MethodName := ⟨RX9, "countFits", "()I"⟩
abbrev cX9_look : ByteArray := prog_11_method_57_code
def yX9_look : MethodName := ⟨RX9, "look", "(I)I"⟩
abbrev cX9_codeBy : ByteArray := prog_11_method_58_code
def yX9_codeBy : MethodName := ⟨RX9, "codeBy", "(II)I"⟩
abbrev cX9_findFar : ByteArray := prog_11_method_59_code
def yX9_findFar : MethodName := ⟨RX9, "findFar", "(I)V"⟩
abbrev cX9_mend : ByteArray := prog_11_method_60_code
def yX9_mend : MethodName := ⟨RX9, "mend", "(IIII)I"⟩
abbrev cX9_write : ByteArray := prog_11_method_61_code
def yX9_write : MethodName := ⟨RX9, "write", "(I)I"⟩
abbrev cX9_tear : ByteArray := prog_11_method_62_code
def yX9_tear : MethodName := ⟨RX9, "tear", "()I"⟩
abbrev cX9_judge : ByteArray := prog_11_method_63_code
def yX9_judge : MethodName := ⟨RX9, "judge", "(I)I"⟩
abbrev cX9_seed : ByteArray := prog_11_method_64_code
def yX9_seed : MethodName := ⟨RX9, "seed", "(I)I"⟩
abbrev cX9_copy : ByteArray := prog_11_method_65_code
def yX9_copy : MethodName := ⟨RX9, "copy", "(II)V"⟩
abbrev cX9_keep : ByteArray := prog_11_method_66_code
def yX9_keep : MethodName := ⟨RX9, "keep", "(I)I"⟩
abbrev cX9_goBack : ByteArray := prog_11_method_67_code
def yX9_goBack : MethodName := ⟨RX9, "goBack", "(I)I"⟩
def RJ6 : String := "java/lang/Integer"
abbrev cJ6_bitCount_0f7a4 : ByteArray := prog_12_method_49_code
def yJ6_bitCount_0f7a4 : MethodName := ⟨RJ6, "bitCount", "(I)I"⟩
def RJ9 : String := "java/lang/Math"
abbrev cJ9_max_7cf53 : ByteArray := prog_13_method_65_code
def yJ9_max_7cf53 : MethodName := ⟨RJ9, "max", "(II)I"⟩
abbrev cJ9_min_7cf53 : ByteArray := prog_13_method_69_code
def yJ9_min_7cf53 : MethodName := ⟨RJ9, "min", "(II)I"⟩
def RJ0 : String := "java/lang/String"
abbrev cJ0_length_8abf5 : ByteArray := prog_14_method_54_code
def yJ0_length_8abf5 : MethodName := ⟨RJ0, "length", "()I"⟩
abbrev cJ0_charAt_5068e : ByteArray := prog_14_method_56_code
def yJ0_charAt_5068e : MethodName := ⟨RJ0, "charAt", "(I)C"⟩
abbrev cJ0_coder_7d493 : ByteArray := prog_14_method_152_code
def yJ0_coder_7d493 : MethodName := ⟨RJ0, "coder", "()B"⟩
abbrev cJ0_isLatin1_aae02 : ByteArray := prog_14_method_154_code
def yJ0_isLatin1_aae02 : MethodName := ⟨RJ0, "isLatin1", "()Z"⟩
abbrev cJ0_checkIndex_df160 : ByteArray := prog_14_method_155_code
def yJ0_checkIndex_df160 : MethodName := ⟨RJ0, "checkIndex", "(II)V"⟩
def RJ1 : String := "java/lang/StringLatin1"
abbrev cJ1_charAt_3b067 : ByteArray := prog_15_method_2_code
def yJ1_charAt_3b067 : MethodName := ⟨RJ1, "charAt", "([BI)C"⟩
def RJ2 : String := "java/lang/StringUTF16"
abbrev cJ2_getChar_3b067 : ByteArray := prog_16_method_5_code
def yJ2_getChar_3b067 : MethodName := ⟨RJ2, "getChar", "([BI)C"⟩
abbrev cJ2_length_9d52b : ByteArray := prog_16_method_6_code
def yJ2_length_9d52b : MethodName := ⟨RJ2, "length", "([B)I"⟩
abbrev cJ2_charAt_3b067 : ByteArray := prog_16_method_83_code
def yJ2_charAt_3b067 : MethodName := ⟨RJ2, "charAt", "([BI)C"⟩
abbrev cJ2_checkIndex_2214a : ByteArray := prog_16_method_91_code
def yJ2_checkIndex_2214a : MethodName := ⟨RJ2, "checkIndex", "(I[B)V"⟩
def RJ3 : String := "jdk/internal/util/Preconditions"
abbrev cJ3_checkIndex_8e157 : ByteArray := prog_17_method_11_code
def yJ3_checkIndex_8e157 : MethodName := ⟨RJ3, "checkIndex", "(IILjava/util/function/BiFunction;)I"⟩
abbrev vwCl : List vw_C := [(RX0, TX0, 2), (RX1, TX1, 5), (RX2, TX2, 3), (RX3, TX3, 4), (RX4, TX4, 14), (RX5, TX5, 2), (RX6, TX6, 8), (RX7, TX7, 2), (RX8, TX8, 11), (RX9, TX9, 33)]
/-- the words that every method is given: the tables, but those that do not keep -/
def q_G : List Cond := lw_tbl.filter goodWord
theorem q_t1 : ∀ w ∈ tables_1_1, w ∈ lw_tbl := fun w h => List.mem_append_right _ (show w ∈ tables_1 from List.mem_append_left _ h)
theorem q_t2 : ∀ w ∈ tables_1_2, w ∈ lw_tbl := fun w h => List.mem_append_right _ (show w ∈ tables_1 from List.mem_append_right _ (List.mem_append_left _ h))
theorem q_t3 : ∀ w ∈ tables_1_3, w ∈ lw_tbl := fun w h => List.mem_append_right _ (show w ∈ tables_1 from List.mem_append_right _ (List.mem_append_right _ (List.mem_append_left _ h)))
theorem q_t4 : ∀ w ∈ tables_1_4, w ∈ lw_tbl := fun w h => List.mem_append_right _ (show w ∈ tables_1 from List.mem_append_right _ (List.mem_append_right _ (List.mem_append_right _ (List.mem_append_left _ h))))
theorem q_t5 : ∀ w ∈ tables_1_5, w ∈ lw_tbl := fun w h => List.mem_append_right _ (show w ∈ tables_1 from List.mem_append_right _ (List.mem_append_right _ (List.mem_append_right _ (List.mem_append_right _ (List.mem_append_left _ h)))))
theorem q_t6 : ∀ w ∈ tables_1_6, w ∈ lw_tbl := fun w h => List.mem_append_right _ (show w ∈ tables_1 from List.mem_append_right _ (List.mem_append_right _ (List.mem_append_right _ (List.mem_append_right _ (List.mem_append_right _ (h))))))
theorem q_inG {w : Cond} (h : w ∈ lw_tbl) (hg : goodWord w = true := by rfl) : w ∈ q_G := List.mem_filter.mpr ⟨h, hg⟩
theorem q_gN {c c1 : Cond} (h5 : c1 ∈ q_G) : GoodIn (c :: q_G) (c1 :: q_G) := fun w hw => by
  have hw : w ∈ q_G := by
    rcases List.mem_cons.mp hw with h | h
    · rw [h]; exact h5
    · exact h
  exact ⟨List.mem_cons_of_mem _ hw, good_of_word (List.mem_filter.mp hw).2⟩
theorem q_gV {c c1 a1 a2 a3 a4 : Cond} (h1 : a1 ∈ q_G) (h2 : a2 ∈ q_G) (h3 : a3 ∈ q_G) (h4 : a4 ∈ q_G) (h5 : c1 ∈ q_G) : GoodIn (c :: q_G) ([a1, a2, a3, a4] ++ (c1 :: q_G)) := fun w hw => by
  have hw : w ∈ q_G := by
    rcases List.mem_append.mp hw with h | h
    · simp only [List.mem_cons, List.not_mem_nil, or_false] at h
      rcases h with h | h | h | h <;> rw [h] <;> assumption
    · rcases List.mem_cons.mp h with h | h
      · rw [h]; exact h5
      · exact h
  exact ⟨List.mem_cons_of_mem _ hw, good_of_word (List.mem_filter.mp hw).2⟩
theorem q_gS {c c1 a1 a2 a3 : Cond} (h1 : a1 ∈ q_G) (h2 : a2 ∈ q_G) (h3 : a3 ∈ q_G) (h5 : c1 ∈ q_G) : GoodIn (c :: q_G) ([a1, a2, a3] ++ (c1 :: q_G)) := fun w hw => by
  have hw : w ∈ q_G := by
    rcases List.mem_append.mp hw with h | h
    · simp only [List.mem_cons, List.not_mem_nil, or_false] at h
      rcases h with h | h | h <;> rw [h] <;> assumption
    · rcases List.mem_cons.mp h with h | h
      · rw [h]; exact h5
      · exact h
  exact ⟨List.mem_cons_of_mem _ hw, good_of_word (List.mem_filter.mp hw).2⟩
theorem q_layX0_0 : u_lay RX0 TX0 0 ∈ q_G := q_inG (q_t1 _ (List.mem_of_getElem? (i := 165) (by decide +kernel))) (by decide +kernel)
theorem q_layX0_1 : u_lay RX0 TX0 1 ∈ q_G := q_inG (q_t1 _ (List.mem_of_getElem? (i := 167) (by decide +kernel))) (by decide +kernel)
theorem q_laysX0 : ∀ k, k < 2 → u_lay RX0 TX0 k ∈ q_G := fun k hk => match k, hk with
  | 0, _ => q_layX0_0
  | 1, _ => q_layX0_1
  | k + 2, hk => absurd hk (by omega)
theorem q_inX0 : ∀ w ∈ u_ws RX0 TX0 2, w ∈ q_G := fun w hw => by
  obtain ⟨k, hk, rfl⟩ := List.mem_map.mp hw
  exact q_laysX0 k (List.mem_range.mp hk)
theorem q_layX1_0 : u_lay RX1 TX1 0 ∈ q_G := q_inG (q_t1 _ (List.mem_of_getElem? (i := 78) (by decide +kernel))) (by decide +kernel)
theorem q_layX1_1 : u_lay RX1 TX1 1 ∈ q_G := q_inG (q_t1 _ (List.mem_of_getElem? (i := 80) (by decide +kernel))) (by decide +kernel)
theorem q_layX1_2 : u_lay RX1 TX1 2 ∈ q_G := q_inG (q_t1 _ (List.mem_of_getElem? (i := 82) (by decide +kernel))) (by decide +kernel)
theorem q_layX1_3 : u_lay RX1 TX1 3 ∈ q_G := q_inG (q_t1 _ (List.mem_of_getElem? (i := 84) (by decide +kernel))) (by decide +kernel)
theorem q_layX1_4 : u_lay RX1 TX1 4 ∈ q_G := q_inG (q_t1 _ (List.mem_of_getElem? (i := 86) (by decide +kernel))) (by decide +kernel)
theorem q_laysX1 : ∀ k, k < 5 → u_lay RX1 TX1 k ∈ q_G := fun k hk => match k, hk with
  | 0, _ => q_layX1_0
  | 1, _ => q_layX1_1
  | 2, _ => q_layX1_2
  | 3, _ => q_layX1_3
  | 4, _ => q_layX1_4
  | k + 5, hk => absurd hk (by omega)
theorem q_inX1 : ∀ w ∈ u_ws RX1 TX1 5, w ∈ q_G := fun w hw => by
  obtain ⟨k, hk, rfl⟩ := List.mem_map.mp hw
  exact q_laysX1 k (List.mem_range.mp hk)
theorem q_layX2_0 : u_lay RX2 TX2 0 ∈ q_G := q_inG (q_t1 _ (List.mem_of_getElem? (i := 149) (by decide +kernel))) (by decide +kernel)
theorem q_layX2_1 : u_lay RX2 TX2 1 ∈ q_G := q_inG (q_t1 _ (List.mem_of_getElem? (i := 151) (by decide +kernel))) (by decide +kernel)
theorem q_layX2_2 : u_lay RX2 TX2 2 ∈ q_G := q_inG (q_t1 _ (List.mem_of_getElem? (i := 153) (by decide +kernel))) (by decide +kernel)
theorem q_laysX2 : ∀ k, k < 3 → u_lay RX2 TX2 k ∈ q_G := fun k hk => match k, hk with
  | 0, _ => q_layX2_0
  | 1, _ => q_layX2_1
  | 2, _ => q_layX2_2
  | k + 3, hk => absurd hk (by omega)
theorem q_inX2 : ∀ w ∈ u_ws RX2 TX2 3, w ∈ q_G := fun w hw => by
  obtain ⟨k, hk, rfl⟩ := List.mem_map.mp hw
  exact q_laysX2 k (List.mem_range.mp hk)
theorem q_layX3_0 : u_lay RX3 TX3 0 ∈ q_G := q_inG (q_t1 _ (List.mem_of_getElem? (i := 53) (by decide +kernel))) (by decide +kernel)
theorem q_layX3_1 : u_lay RX3 TX3 1 ∈ q_G := q_inG (q_t1 _ (List.mem_of_getElem? (i := 55) (by decide +kernel))) (by decide +kernel)
theorem q_layX3_2 : u_lay RX3 TX3 2 ∈ q_G := q_inG (q_t1 _ (List.mem_of_getElem? (i := 57) (by decide +kernel))) (by decide +kernel)
theorem q_layX3_3 : u_lay RX3 TX3 3 ∈ q_G := q_inG (q_t1 _ (List.mem_of_getElem? (i := 59) (by decide +kernel))) (by decide +kernel)
theorem q_laysX3 : ∀ k, k < 4 → u_lay RX3 TX3 k ∈ q_G := fun k hk => match k, hk with
  | 0, _ => q_layX3_0
  | 1, _ => q_layX3_1
  | 2, _ => q_layX3_2
  | 3, _ => q_layX3_3
  | k + 4, hk => absurd hk (by omega)
theorem q_inX3 : ∀ w ∈ u_ws RX3 TX3 4, w ∈ q_G := fun w hw => by
  obtain ⟨k, hk, rfl⟩ := List.mem_map.mp hw
  exact q_laysX3 k (List.mem_range.mp hk)
theorem q_layX4_0 : u_lay RX4 TX4 0 ∈ q_G := q_inG (q_t2 _ (List.mem_of_getElem? (i := 11) (by decide +kernel))) (by decide +kernel)
theorem q_layX4_1 : u_lay RX4 TX4 1 ∈ q_G := q_inG (q_t2 _ (List.mem_of_getElem? (i := 13) (by decide +kernel))) (by decide +kernel)
theorem q_layX4_2 : u_lay RX4 TX4 2 ∈ q_G := q_inG (q_t2 _ (List.mem_of_getElem? (i := 15) (by decide +kernel))) (by decide +kernel)
theorem q_layX4_3 : u_lay RX4 TX4 3 ∈ q_G := q_inG (q_t2 _ (List.mem_of_getElem? (i := 17) (by decide +kernel))) (by decide +kernel)
theorem q_layX4_4 : u_lay RX4 TX4 4 ∈ q_G := q_inG (q_t2 _ (List.mem_of_getElem? (i := 19) (by decide +kernel))) (by decide +kernel)
theorem q_layX4_5 : u_lay RX4 TX4 5 ∈ q_G := q_inG (q_t2 _ (List.mem_of_getElem? (i := 21) (by decide +kernel))) (by decide +kernel)
theorem q_layX4_6 : u_lay RX4 TX4 6 ∈ q_G := q_inG (q_t2 _ (List.mem_of_getElem? (i := 23) (by decide +kernel))) (by decide +kernel)
theorem q_layX4_7 : u_lay RX4 TX4 7 ∈ q_G := q_inG (q_t2 _ (List.mem_of_getElem? (i := 25) (by decide +kernel))) (by decide +kernel)
theorem q_layX4_8 : u_lay RX4 TX4 8 ∈ q_G := q_inG (q_t2 _ (List.mem_of_getElem? (i := 27) (by decide +kernel))) (by decide +kernel)
theorem q_layX4_9 : u_lay RX4 TX4 9 ∈ q_G := q_inG (q_t2 _ (List.mem_of_getElem? (i := 29) (by decide +kernel))) (by decide +kernel)
theorem q_layX4_10 : u_lay RX4 TX4 10 ∈ q_G := q_inG (q_t2 _ (List.mem_of_getElem? (i := 31) (by decide +kernel))) (by decide +kernel)
theorem q_layX4_11 : u_lay RX4 TX4 11 ∈ q_G := q_inG (q_t2 _ (List.mem_of_getElem? (i := 33) (by decide +kernel))) (by decide +kernel)
theorem q_layX4_12 : u_lay RX4 TX4 12 ∈ q_G := q_inG (q_t2 _ (List.mem_of_getElem? (i := 35) (by decide +kernel))) (by decide +kernel)
theorem q_layX4_13 : u_lay RX4 TX4 13 ∈ q_G := q_inG (q_t2 _ (List.mem_of_getElem? (i := 37) (by decide +kernel))) (by decide +kernel)
theorem q_laysX4 : ∀ k, k < 14 → u_lay RX4 TX4 k ∈ q_G := fun k hk => match k, hk with
  | 0, _ => q_layX4_0
  | 1, _ => q_layX4_1
  | 2, _ => q_layX4_2
  | 3, _ => q_layX4_3
  | 4, _ => q_layX4_4
  | 5, _ => q_layX4_5
  | 6, _ => q_layX4_6
  | 7, _ => q_layX4_7
  | 8, _ => q_layX4_8
  | 9, _ => q_layX4_9
  | 10, _ => q_layX4_10
  | 11, _ => q_layX4_11
  | 12, _ => q_layX4_12
  | 13, _ => q_layX4_13
  | k + 14, hk => absurd hk (by omega)
theorem q_inX4 : ∀ w ∈ u_ws RX4 TX4 14, w ∈ q_G := fun w hw => by
  obtain ⟨k, hk, rfl⟩ := List.mem_map.mp hw
  exact q_laysX4 k (List.mem_range.mp hk)
theorem q_layX5_0 : u_lay RX5 TX5 0 ∈ q_G := q_inG (q_t1 _ (List.mem_of_getElem? (i := 135) (by decide +kernel))) (by decide +kernel)
theorem q_layX5_1 : u_lay RX5 TX5 1 ∈ q_G := q_inG (q_t1 _ (List.mem_of_getElem? (i := 137) (by decide +kernel))) (by decide +kernel)
theorem q_laysX5 : ∀ k, k < 2 → u_lay RX5 TX5 k ∈ q_G := fun k hk => match k, hk with
  | 0, _ => q_layX5_0
  | 1, _ => q_layX5_1
  | k + 2, hk => absurd hk (by omega)
theorem q_inX5 : ∀ w ∈ u_ws RX5 TX5 2, w ∈ q_G := fun w hw => by
  obtain ⟨k, hk, rfl⟩ := List.mem_map.mp hw
  exact q_laysX5 k (List.mem_range.mp hk)
theorem q_layX6_0 : u_lay RX6 TX6 0 ∈ q_G := q_inG (q_t1 _ (List.mem_of_getElem? (i := 109) (by decide +kernel))) (by decide +kernel)
theorem q_layX6_1 : u_lay RX6 TX6 1 ∈ q_G := q_inG (q_t1 _ (List.mem_of_getElem? (i := 111) (by decide +kernel))) (by decide +kernel)
theorem q_layX6_2 : u_lay RX6 TX6 2 ∈ q_G := q_inG (q_t1 _ (List.mem_of_getElem? (i := 113) (by decide +kernel))) (by decide +kernel)
theorem q_layX6_3 : u_lay RX6 TX6 3 ∈ q_G := q_inG (q_t1 _ (List.mem_of_getElem? (i := 115) (by decide +kernel))) (by decide +kernel)
theorem q_layX6_4 : u_lay RX6 TX6 4 ∈ q_G := q_inG (q_t1 _ (List.mem_of_getElem? (i := 117) (by decide +kernel))) (by decide +kernel)
theorem q_layX6_5 : u_lay RX6 TX6 5 ∈ q_G := q_inG (q_t1 _ (List.mem_of_getElem? (i := 119) (by decide +kernel))) (by decide +kernel)
theorem q_layX6_6 : u_lay RX6 TX6 6 ∈ q_G := q_inG (q_t1 _ (List.mem_of_getElem? (i := 121) (by decide +kernel))) (by decide +kernel)
theorem q_layX6_7 : u_lay RX6 TX6 7 ∈ q_G := q_inG (q_t1 _ (List.mem_of_getElem? (i := 123) (by decide +kernel))) (by decide +kernel)
theorem q_laysX6 : ∀ k, k < 8 → u_lay RX6 TX6 k ∈ q_G := fun k hk => match k, hk with
  | 0, _ => q_layX6_0
  | 1, _ => q_layX6_1
  | 2, _ => q_layX6_2
  | 3, _ => q_layX6_3
  | 4, _ => q_layX6_4
  | 5, _ => q_layX6_5
  | 6, _ => q_layX6_6
  | 7, _ => q_layX6_7
  | k + 8, hk => absurd hk (by omega)
theorem q_inX6 : ∀ w ∈ u_ws RX6 TX6 8, w ∈ q_G := fun w hw => by
  obtain ⟨k, hk, rfl⟩ := List.mem_map.mp hw
  exact q_laysX6 k (List.mem_range.mp hk)
theorem q_layX7_0 : u_lay RX7 TX7 0 ∈ q_G := q_inG (q_t1 _ (List.mem_of_getElem? (i := 35) (by decide +kernel))) (by decide +kernel)
theorem q_layX7_1 : u_lay RX7 TX7 1 ∈ q_G := q_inG (q_t1 _ (List.mem_of_getElem? (i := 37) (by decide +kernel))) (by decide +kernel)
theorem q_laysX7 : ∀ k, k < 2 → u_lay RX7 TX7 k ∈ q_G := fun k hk => match k, hk with
  | 0, _ => q_layX7_0
  | 1, _ => q_layX7_1
  | k + 2, hk => absurd hk (by omega)
theorem q_inX7 : ∀ w ∈ u_ws RX7 TX7 2, w ∈ q_G := fun w hw => by
  obtain ⟨k, hk, rfl⟩ := List.mem_map.mp hw
  exact q_laysX7 k (List.mem_range.mp hk)
theorem q_layX8_0 : u_lay RX8 TX8 0 ∈ q_G := q_inG (q_t2 _ (List.mem_of_getElem? (i := 51) (by decide +kernel))) (by decide +kernel)
theorem q_layX8_1 : u_lay RX8 TX8 1 ∈ q_G := q_inG (q_t2 _ (List.mem_of_getElem? (i := 53) (by decide +kernel))) (by decide +kernel)
theorem q_layX8_2 : u_lay RX8 TX8 2 ∈ q_G := q_inG (q_t2 _ (List.mem_of_getElem? (i := 55) (by decide +kernel))) (by decide +kernel)
theorem q_layX8_3 : u_lay RX8 TX8 3 ∈ q_G := q_inG (q_t2 _ (List.mem_of_getElem? (i := 57) (by decide +kernel))) (by decide +kernel)
theorem q_layX8_4 : u_lay RX8 TX8 4 ∈ q_G := q_inG (q_t2 _ (List.mem_of_getElem? (i := 59) (by decide +kernel))) (by decide +kernel)
theorem q_layX8_5 : u_lay RX8 TX8 5 ∈ q_G := q_inG (q_t2 _ (List.mem_of_getElem? (i := 61) (by decide +kernel))) (by decide +kernel)
theorem q_layX8_6 : u_lay RX8 TX8 6 ∈ q_G := q_inG (q_t2 _ (List.mem_of_getElem? (i := 63) (by decide +kernel))) (by decide +kernel)
theorem q_layX8_7 : u_lay RX8 TX8 7 ∈ q_G := q_inG (q_t2 _ (List.mem_of_getElem? (i := 65) (by decide +kernel))) (by decide +kernel)
theorem q_layX8_8 : u_lay RX8 TX8 8 ∈ q_G := q_inG (q_t2 _ (List.mem_of_getElem? (i := 67) (by decide +kernel))) (by decide +kernel)
theorem q_layX8_9 : u_lay RX8 TX8 9 ∈ q_G := q_inG (q_t2 _ (List.mem_of_getElem? (i := 69) (by decide +kernel))) (by decide +kernel)
theorem q_layX8_10 : u_lay RX8 TX8 10 ∈ q_G := q_inG (q_t2 _ (List.mem_of_getElem? (i := 71) (by decide +kernel))) (by decide +kernel)
theorem q_laysX8 : ∀ k, k < 11 → u_lay RX8 TX8 k ∈ q_G := fun k hk => match k, hk with
  | 0, _ => q_layX8_0
  | 1, _ => q_layX8_1
  | 2, _ => q_layX8_2
  | 3, _ => q_layX8_3
  | 4, _ => q_layX8_4
  | 5, _ => q_layX8_5
  | 6, _ => q_layX8_6
  | 7, _ => q_layX8_7
  | 8, _ => q_layX8_8
  | 9, _ => q_layX8_9
  | 10, _ => q_layX8_10
  | k + 11, hk => absurd hk (by omega)
theorem q_inX8 : ∀ w ∈ u_ws RX8 TX8 11, w ∈ q_G := fun w hw => by
  obtain ⟨k, hk, rfl⟩ := List.mem_map.mp hw
  exact q_laysX8 k (List.mem_range.mp hk)
theorem q_layX9_0 : u_lay RX9 TX9 0 ∈ q_G := q_inG (q_t4 _ (List.mem_of_getElem? (i := 186) (by decide +kernel))) (by decide +kernel)
theorem q_layX9_1 : u_lay RX9 TX9 1 ∈ q_G := q_inG (q_t4 _ (List.mem_of_getElem? (i := 188) (by decide +kernel))) (by decide +kernel)
theorem q_layX9_2 : u_lay RX9 TX9 2 ∈ q_G := q_inG (q_t4 _ (List.mem_of_getElem? (i := 190) (by decide +kernel))) (by decide +kernel)
theorem q_layX9_3 : u_lay RX9 TX9 3 ∈ q_G := q_inG (q_t4 _ (List.mem_of_getElem? (i := 192) (by decide +kernel))) (by decide +kernel)
theorem q_layX9_4 : u_lay RX9 TX9 4 ∈ q_G := q_inG (q_t4 _ (List.mem_of_getElem? (i := 194) (by decide +kernel))) (by decide +kernel)
theorem q_layX9_5 : u_lay RX9 TX9 5 ∈ q_G := q_inG (q_t4 _ (List.mem_of_getElem? (i := 196) (by decide +kernel))) (by decide +kernel)
theorem q_layX9_6 : u_lay RX9 TX9 6 ∈ q_G := q_inG (q_t4 _ (List.mem_of_getElem? (i := 198) (by decide +kernel))) (by decide +kernel)
theorem q_layX9_7 : u_lay RX9 TX9 7 ∈ q_G := q_inG (q_t4 _ (List.mem_of_getElem? (i := 200) (by decide +kernel))) (by decide +kernel)
theorem q_layX9_8 : u_lay RX9 TX9 8 ∈ q_G := q_inG (q_t4 _ (List.mem_of_getElem? (i := 202) (by decide +kernel))) (by decide +kernel)
theorem q_layX9_9 : u_lay RX9 TX9 9 ∈ q_G := q_inG (q_t4 _ (List.mem_of_getElem? (i := 204) (by decide +kernel))) (by decide +kernel)
theorem q_layX9_10 : u_lay RX9 TX9 10 ∈ q_G := q_inG (q_t4 _ (List.mem_of_getElem? (i := 206) (by decide +kernel))) (by decide +kernel)
theorem q_layX9_11 : u_lay RX9 TX9 11 ∈ q_G := q_inG (q_t4 _ (List.mem_of_getElem? (i := 208) (by decide +kernel))) (by decide +kernel)
theorem q_layX9_12 : u_lay RX9 TX9 12 ∈ q_G := q_inG (q_t4 _ (List.mem_of_getElem? (i := 210) (by decide +kernel))) (by decide +kernel)
theorem q_layX9_13 : u_lay RX9 TX9 13 ∈ q_G := q_inG (q_t4 _ (List.mem_of_getElem? (i := 212) (by decide +kernel))) (by decide +kernel)
theorem q_layX9_14 : u_lay RX9 TX9 14 ∈ q_G := q_inG (q_t4 _ (List.mem_of_getElem? (i := 214) (by decide +kernel))) (by decide +kernel)
theorem q_layX9_15 : u_lay RX9 TX9 15 ∈ q_G := q_inG (q_t4 _ (List.mem_of_getElem? (i := 216) (by decide +kernel))) (by decide +kernel)
theorem q_layX9_16 : u_lay RX9 TX9 16 ∈ q_G := q_inG (q_t4 _ (List.mem_of_getElem? (i := 218) (by decide +kernel))) (by decide +kernel)
theorem q_layX9_17 : u_lay RX9 TX9 17 ∈ q_G := q_inG (q_t4 _ (List.mem_of_getElem? (i := 220) (by decide +kernel))) (by decide +kernel)
theorem q_layX9_18 : u_lay RX9 TX9 18 ∈ q_G := q_inG (q_t4 _ (List.mem_of_getElem? (i := 222) (by decide +kernel))) (by decide +kernel)
theorem q_layX9_19 : u_lay RX9 TX9 19 ∈ q_G := q_inG (q_t4 _ (List.mem_of_getElem? (i := 224) (by decide +kernel))) (by decide +kernel)
theorem q_layX9_20 : u_lay RX9 TX9 20 ∈ q_G := q_inG (q_t4 _ (List.mem_of_getElem? (i := 226) (by decide +kernel))) (by decide +kernel)
theorem q_layX9_21 : u_lay RX9 TX9 21 ∈ q_G := q_inG (q_t4 _ (List.mem_of_getElem? (i := 228) (by decide +kernel))) (by decide +kernel)
theorem q_layX9_22 : u_lay RX9 TX9 22 ∈ q_G := q_inG (q_t4 _ (List.mem_of_getElem? (i := 230) (by decide +kernel))) (by decide +kernel)
theorem q_layX9_23 : u_lay RX9 TX9 23 ∈ q_G := q_inG (q_t4 _ (List.mem_of_getElem? (i := 232) (by decide +kernel))) (by decide +kernel)
theorem q_layX9_24 : u_lay RX9 TX9 24 ∈ q_G := q_inG (q_t4 _ (List.mem_of_getElem? (i := 234) (by decide +kernel))) (by decide +kernel)
theorem q_layX9_25 : u_lay RX9 TX9 25 ∈ q_G := q_inG (q_t4 _ (List.mem_of_getElem? (i := 236) (by decide +kernel))) (by decide +kernel)
theorem q_layX9_26 : u_lay RX9 TX9 26 ∈ q_G := q_inG (q_t4 _ (List.mem_of_getElem? (i := 238) (by decide +kernel))) (by decide +kernel)
theorem q_layX9_27 : u_lay RX9 TX9 27 ∈ q_G := q_inG (q_t5 _ (List.mem_of_getElem? (i := 0) (by decide +kernel))) (by decide +kernel)
theorem q_layX9_28 : u_lay RX9 TX9 28 ∈ q_G := q_inG (q_t5 _ (List.mem_of_getElem? (i := 2) (by decide +kernel))) (by decide +kernel)
theorem q_layX9_29 : u_lay RX9 TX9 29 ∈ q_G := q_inG (q_t5 _ (List.mem_of_getElem? (i := 4) (by decide +kernel))) (by decide +kernel)
theorem q_layX9_30 : u_lay RX9 TX9 30 ∈ q_G := q_inG (q_t5 _ (List.mem_of_getElem? (i := 6) (by decide +kernel))) (by decide +kernel)
theorem q_layX9_31 : u_lay RX9 TX9 31 ∈ q_G := q_inG (q_t5 _ (List.mem_of_getElem? (i := 8) (by decide +kernel))) (by decide +kernel)
theorem q_layX9_32 : u_lay RX9 TX9 32 ∈ q_G := q_inG (q_t5 _ (List.mem_of_getElem? (i := 10) (by decide +kernel))) (by decide +kernel)
theorem q_laysX9 : ∀ k, k < 33 → u_lay RX9 TX9 k ∈ q_G := fun k hk => match k, hk with
  | 0, _ => q_layX9_0
  | 1, _ => q_layX9_1
  | 2, _ => q_layX9_2
  | 3, _ => q_layX9_3
  | 4, _ => q_layX9_4
  | 5, _ => q_layX9_5
  | 6, _ => q_layX9_6
  | 7, _ => q_layX9_7
  | 8, _ => q_layX9_8
  | 9, _ => q_layX9_9
  | 10, _ => q_layX9_10
  | 11, _ => q_layX9_11
  | 12, _ => q_layX9_12
  | 13, _ => q_layX9_13
  | 14, _ => q_layX9_14
  | 15, _ => q_layX9_15
  | 16, _ => q_layX9_16
  | 17, _ => q_layX9_17
  | 18, _ => q_layX9_18
  | 19, _ => q_layX9_19
  | 20, _ => q_layX9_20
  | 21, _ => q_layX9_21
  | 22, _ => q_layX9_22
  | 23, _ => q_layX9_23
  | 24, _ => q_layX9_24
  | 25, _ => q_layX9_25
  | 26, _ => q_layX9_26
  | 27, _ => q_layX9_27
  | 28, _ => q_layX9_28
  | 29, _ => q_layX9_29
  | 30, _ => q_layX9_30
  | 31, _ => q_layX9_31
  | 32, _ => q_layX9_32
  | k + 33, hk => absurd hk (by omega)
theorem q_inX9 : ∀ w ∈ u_ws RX9 TX9 33, w ∈ q_G := fun w hw => by
  obtain ⟨k, hk, rfl⟩ := List.mem_map.mp hw
  exact q_laysX9 k (List.mem_range.mp hk)
