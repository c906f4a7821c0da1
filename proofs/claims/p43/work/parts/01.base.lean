-- ===== PART A: goes FIRST, ahead of the names: the tables' words, and 'selects' of the private methods out of them =====
/-- a private method of a class that the tables say can be made, by its rows of tables_1 -/
def lw_okq (q : MethodName × Nat) : Prop := (q.1.cls ≠ "java/lang/invoke/MethodHandle" ∧ q.1.cls ≠ "java/lang/invoke/VarHandle") ∧ Cond.instantiable q.1.cls q.2 ∈ tables_1 ∧ Cond.privateMethod q.1 ∈ tables_1 ∧ Cond.instanceMethod q.1 ∈ tables_1
theorem lw_p0 : lw_okq (⟨"java/lang/Throwable", "fillInStackTrace", "(I)Ljava/lang/Throwable;"⟩, 6) := ⟨⟨by decide +kernel, by decide +kernel⟩, List.mem_of_getElem? (i := 367) (by decide +kernel), List.mem_of_getElem? (i := 365) (by decide +kernel), List.mem_of_getElem? (i := 366) (by decide +kernel)⟩
theorem lw_p1 : lw_okq (⟨"BellObservatory$Past", "slotAt", "(I)LBellObservatory$Town;"⟩, 3) := ⟨⟨by decide +kernel, by decide +kernel⟩, List.mem_of_getElem? (i := 156) (by decide +kernel), List.mem_of_getElem? (i := 436) (by decide +kernel), List.mem_of_getElem? (i := 437) (by decide +kernel)⟩
theorem lw_p2 : lw_okq (⟨"BellObservatory$Town", "hearAt", "(III)I"⟩, 11) := ⟨⟨by decide +kernel, by decide +kernel⟩, List.mem_of_getElem? (i := 47) (by decide +kernel), List.mem_of_getElem? (i := 705) (by decide +kernel), List.mem_of_getElem? (i := 706) (by decide +kernel)⟩
theorem lw_p3 : lw_okq (⟨"BellObservatory$Houses", "turnAt", "(I)I"⟩, 6) := ⟨⟨by decide +kernel, by decide +kernel⟩, List.mem_of_getElem? (i := 53) (by decide +kernel), List.mem_of_getElem? (i := 852) (by decide +kernel), List.mem_of_getElem? (i := 853) (by decide +kernel)⟩
theorem lw_p4 : lw_okq (⟨"BellObservatory$Town", "countFit", "(II)I"⟩, 11) := ⟨⟨by decide +kernel, by decide +kernel⟩, List.mem_of_getElem? (i := 47) (by decide +kernel), List.mem_of_getElem? (i := 1013) (by decide +kernel), List.mem_of_getElem? (i := 1014) (by decide +kernel)⟩
theorem lw_p5 : lw_okq (⟨"BellObservatory$Ways", "measure", "(LBellObservatory$Town;I)V"⟩, 6) := ⟨⟨by decide +kernel, by decide +kernel⟩, List.mem_of_getElem? (i := 219) (by decide +kernel), List.mem_of_getElem? (i := 1032) (by decide +kernel), List.mem_of_getElem? (i := 1033) (by decide +kernel)⟩
theorem lw_p6 : lw_okq (⟨"BellObservatory$Ways", "lower", "(LBellObservatory$Town;I)V"⟩, 6) := ⟨⟨by decide +kernel, by decide +kernel⟩, List.mem_of_getElem? (i := 219) (by decide +kernel), List.mem_of_getElem? (i := 1046) (by decide +kernel), List.mem_of_getElem? (i := 1047) (by decide +kernel)⟩
theorem lw_p7 : lw_okq (⟨"BellObservatory$Ways", "lowerAlong", "(LBellObservatory$Town;II)Z"⟩, 6) := ⟨⟨by decide +kernel, by decide +kernel⟩, List.mem_of_getElem? (i := 219) (by decide +kernel), List.mem_of_getElem? (i := 1050) (by decide +kernel), List.mem_of_getElem? (i := 1051) (by decide +kernel)⟩
theorem lw_p8 : lw_okq (⟨"BellObservatory$Ways", "lowerFrom", "(LBellObservatory$Town;II)Z"⟩, 6) := ⟨⟨by decide +kernel, by decide +kernel⟩, List.mem_of_getElem? (i := 219) (by decide +kernel), List.mem_of_getElem? (i := 1054) (by decide +kernel), List.mem_of_getElem? (i := 1055) (by decide +kernel)⟩
theorem lw_p9 : lw_okq (⟨"BellObservatory$Ways", "nearest", "(LBellObservatory$Houses;)I"⟩, 6) := ⟨⟨by decide +kernel, by decide +kernel⟩, List.mem_of_getElem? (i := 219) (by decide +kernel), List.mem_of_getElem? (i := 1105) (by decide +kernel), List.mem_of_getElem? (i := 1106) (by decide +kernel)⟩
theorem lw_p10 : lw_okq (⟨"BellObservatory$Houses", "rankOf", "(I)I"⟩, 6) := ⟨⟨by decide +kernel, by decide +kernel⟩, List.mem_of_getElem? (i := 53) (by decide +kernel), List.mem_of_getElem? (i := 1125) (by decide +kernel), List.mem_of_getElem? (i := 1126) (by decide +kernel)⟩
theorem lw_p11 : lw_okq (⟨"BellObservatory$Houses", "isAhead", "(II)Z"⟩, 6) := ⟨⟨by decide +kernel, by decide +kernel⟩, List.mem_of_getElem? (i := 53) (by decide +kernel), List.mem_of_getElem? (i := 1129) (by decide +kernel), List.mem_of_getElem? (i := 1130) (by decide +kernel)⟩
theorem lw_p12 : lw_okq (⟨"BellObservatory$Sheet", "putSign", "(C)V"⟩, 2) := ⟨⟨by decide +kernel, by decide +kernel⟩, List.mem_of_getElem? (i := 244) (by decide +kernel), List.mem_of_getElem? (i := 1167) (by decide +kernel), List.mem_of_getElem? (i := 1168) (by decide +kernel)⟩
theorem lw_p13 : lw_okq (⟨"BellObservatory$Sheet", "putNumber", "(I)V"⟩, 2) := ⟨⟨by decide +kernel, by decide +kernel⟩, List.mem_of_getElem? (i := 244) (by decide +kernel), List.mem_of_getElem? (i := 1468) (by decide +kernel), List.mem_of_getElem? (i := 1469) (by decide +kernel)⟩
theorem lw_p14 : lw_okq (⟨"BellObservatory$Orders", "readOrder", "()Z"⟩, 7) := ⟨⟨by decide +kernel, by decide +kernel⟩, List.mem_of_getElem? (i := 190) (by decide +kernel), List.mem_of_getElem? (i := 1609) (by decide +kernel), List.mem_of_getElem? (i := 1610) (by decide +kernel)⟩
theorem lw_p15 : lw_okq (⟨"BellObservatory$Orders", "signHere", "()I"⟩, 7) := ⟨⟨by decide +kernel, by decide +kernel⟩, List.mem_of_getElem? (i := 190) (by decide +kernel), List.mem_of_getElem? (i := 1613) (by decide +kernel), List.mem_of_getElem? (i := 1614) (by decide +kernel)⟩
def lw_privs_1 : List (MethodName × Nat) := [(⟨"java/lang/Throwable", "fillInStackTrace", "(I)Ljava/lang/Throwable;"⟩, 6), (⟨"BellObservatory$Past", "slotAt", "(I)LBellObservatory$Town;"⟩, 3), (⟨"BellObservatory$Town", "hearAt", "(III)I"⟩, 11), (⟨"BellObservatory$Houses", "turnAt", "(I)I"⟩, 6), (⟨"BellObservatory$Town", "countFit", "(II)I"⟩, 11), (⟨"BellObservatory$Ways", "measure", "(LBellObservatory$Town;I)V"⟩, 6), (⟨"BellObservatory$Ways", "lower", "(LBellObservatory$Town;I)V"⟩, 6), (⟨"BellObservatory$Ways", "lowerAlong", "(LBellObservatory$Town;II)Z"⟩, 6), (⟨"BellObservatory$Ways", "lowerFrom", "(LBellObservatory$Town;II)Z"⟩, 6), (⟨"BellObservatory$Ways", "nearest", "(LBellObservatory$Houses;)I"⟩, 6), (⟨"BellObservatory$Houses", "rankOf", "(I)I"⟩, 6), (⟨"BellObservatory$Houses", "isAhead", "(II)Z"⟩, 6), (⟨"BellObservatory$Sheet", "putSign", "(C)V"⟩, 2), (⟨"BellObservatory$Sheet", "putNumber", "(I)V"⟩, 2), (⟨"BellObservatory$Orders", "readOrder", "()Z"⟩, 7), (⟨"BellObservatory$Orders", "signHere", "()I"⟩, 7)]
theorem lw_r1 : ∀ q ∈ lw_privs_1, lw_okq q := List.forall_mem_cons.mpr ⟨lw_p0, List.forall_mem_cons.mpr ⟨lw_p1, List.forall_mem_cons.mpr ⟨lw_p2, List.forall_mem_cons.mpr ⟨lw_p3, List.forall_mem_cons.mpr ⟨lw_p4, List.forall_mem_cons.mpr ⟨lw_p5, List.forall_mem_cons.mpr ⟨lw_p6, List.forall_mem_cons.mpr ⟨lw_p7, List.forall_mem_cons.mpr ⟨lw_p8, List.forall_mem_cons.mpr ⟨lw_p9, List.forall_mem_cons.mpr ⟨lw_p10, List.forall_mem_cons.mpr ⟨lw_p11, List.forall_mem_cons.mpr ⟨lw_p12, List.forall_mem_cons.mpr ⟨lw_p13, List.forall_mem_cons.mpr ⟨lw_p14, List.forall_mem_cons.mpr ⟨lw_p15, fun _ h => absurd h List.not_mem_nil⟩⟩⟩⟩⟩⟩⟩⟩⟩⟩⟩⟩⟩⟩⟩⟩
theorem lw_p16 : lw_okq (⟨"BellObservatory$Orders", "readForm", "(Ljava/lang/String;)Z"⟩, 7) := ⟨⟨by decide +kernel, by decide +kernel⟩, List.mem_of_getElem? (i := 190) (by decide +kernel), List.mem_of_getElem? (i := 1631) (by decide +kernel), List.mem_of_getElem? (i := 1632) (by decide +kernel)⟩
theorem lw_p17 : lw_okq (⟨"BellObservatory$Orders", "readSign", "(C)Z"⟩, 7) := ⟨⟨by decide +kernel, by decide +kernel⟩, List.mem_of_getElem? (i := 190) (by decide +kernel), List.mem_of_getElem? (i := 1637) (by decide +kernel), List.mem_of_getElem? (i := 1638) (by decide +kernel)⟩
theorem lw_p18 : lw_okq (⟨"BellObservatory$Orders", "readNumber", "(Z)I"⟩, 7) := ⟨⟨by decide +kernel, by decide +kernel⟩, List.mem_of_getElem? (i := 190) (by decide +kernel), List.mem_of_getElem? (i := 1641) (by decide +kernel), List.mem_of_getElem? (i := 1642) (by decide +kernel)⟩
theorem lw_p19 : lw_okq (⟨"BellObservatory$Orders", "digitHere", "()I"⟩, 7) := ⟨⟨by decide +kernel, by decide +kernel⟩, List.mem_of_getElem? (i := 190) (by decide +kernel), List.mem_of_getElem? (i := 1645) (by decide +kernel), List.mem_of_getElem? (i := 1646) (by decide +kernel)⟩
theorem lw_p20 : lw_okq (⟨"BellObservatory", "judgeOrder", "(IIII)I"⟩, 9) := ⟨⟨by decide +kernel, by decide +kernel⟩, List.mem_of_getElem? (i := 39) (by decide +kernel), List.mem_of_getElem? (i := 1668) (by decide +kernel), List.mem_of_getElem? (i := 1669) (by decide +kernel)⟩
theorem lw_p21 : lw_okq (⟨"BellObservatory", "doOrder", "(IIII)V"⟩, 9) := ⟨⟨by decide +kernel, by decide +kernel⟩, List.mem_of_getElem? (i := 39) (by decide +kernel), List.mem_of_getElem? (i := 1672) (by decide +kernel), List.mem_of_getElem? (i := 1673) (by decide +kernel)⟩
def lw_privs_2 : List (MethodName × Nat) := [(⟨"BellObservatory$Orders", "readForm", "(Ljava/lang/String;)Z"⟩, 7), (⟨"BellObservatory$Orders", "readSign", "(C)Z"⟩, 7), (⟨"BellObservatory$Orders", "readNumber", "(Z)I"⟩, 7), (⟨"BellObservatory$Orders", "digitHere", "()I"⟩, 7), (⟨"BellObservatory", "judgeOrder", "(IIII)I"⟩, 9), (⟨"BellObservatory", "doOrder", "(IIII)V"⟩, 9)]
theorem lw_r2 : ∀ q ∈ lw_privs_2, lw_okq q := List.forall_mem_cons.mpr ⟨lw_p16, List.forall_mem_cons.mpr ⟨lw_p17, List.forall_mem_cons.mpr ⟨lw_p18, List.forall_mem_cons.mpr ⟨lw_p19, List.forall_mem_cons.mpr ⟨lw_p20, List.forall_mem_cons.mpr ⟨lw_p21, fun _ h => absurd h List.not_mem_nil⟩⟩⟩⟩⟩⟩
def lw_privs : List (MethodName × Nat) := lw_privs_1 ++ (lw_privs_2)
def lw_tbl : List Cond := k2_sels lw_privs ++ tables_1
theorem lw_privs_ok : ∀ q ∈ lw_privs, lw_okq q := by
  show ∀ q ∈ lw_privs_1 ++ (lw_privs_2), lw_okq q
  exact List.forall_mem_append.mpr ⟨lw_r1, lw_r2⟩
/-- the streams that the claim lets the run draw from -/
abbrev lw_cs : List Choice := [Jvm.Choice.named "NaN.bits"]
theorem lw_bits : nanBits ∈ lw_cs := by first | decide | exact List.mem_cons_self | simp [lw_cs, nanBits]
def RX0 : String := "BellObservatory$Grid"
def TX0 : u_T := fun k => match k with
  | _ => ("", "", "", false)
def tyX0 : Nat → FieldType := fun k => match k with
  | _ => .int
abbrev wsX00 : List Cond := u_ws RX0 TX0 0
theorem nmX0 : ∀ a, a < 0 → ∀ b, b < 0 → a ≠ b → (TX0 a).2.1 ≠ (TX0 b).2.1 := by decide +kernel
theorem tyX0_ok : ∀ k, k < 0 → parseFieldDescriptor (TX0 k).2.2.1 = some (tyX0 k) := by decide +kernel
abbrev cX0_isCell : ByteArray := prog_2_method_2_code
def yX0_isCell : MethodName := ⟨RX0, "isCell", "(I)Z"⟩
abbrev cX0_rowOf : ByteArray := prog_2_method_3_code
def yX0_rowOf : MethodName := ⟨RX0, "rowOf", "(I)I"⟩
abbrev cX0_columnOf : ByteArray := prog_2_method_4_code
def yX0_columnOf : MethodName := ⟨RX0, "columnOf", "(I)I"⟩
abbrev cX0_cellAt : ByteArray := prog_2_method_5_code
def yX0_cellAt : MethodName := ⟨RX0, "cellAt", "(II)I"⟩
abbrev cX0_distance : ByteArray := prog_2_method_6_code
def yX0_distance : MethodName := ⟨RX0, "distance", "(II)I"⟩
abbrev cX0_nextTo : ByteArray := prog_2_method_7_code
def yX0_nextTo : MethodName := ⟨RX0, "nextTo", "(II)I"⟩
def RX1 : String := "BellObservatory$Halls"
def TX1 : u_T := fun k => match k with
  | 0 => ("BellObservatory$Halls", "size", "I", false)
  | 1 => ("BellObservatory$Halls", "rows", "[I", true)
  | 2 => ("BellObservatory$Halls", "firsts", "[I", true)
  | _ => ("BellObservatory$Halls", "lasts", "[I", true)
def tyX1 : Nat → FieldType := fun k => match k with
  | 0 => .int
  | 1 => .array .int
  | 2 => .array .int
  | _ => .array .int
abbrev wsX10 : List Cond := u_ws RX1 TX1 4
theorem nmX1 : ∀ a, a < 4 → ∀ b, b < 4 → a ≠ b → (TX1 a).2.1 ≠ (TX1 b).2.1 := by decide +kernel
theorem tyX1_ok : ∀ k, k < 4 → parseFieldDescriptor (TX1 k).2.2.1 = some (tyX1 k) := by decide +kernel
abbrev cX1_init : ByteArray := prog_3_method_1_code
def yX1_init : MethodName := ⟨RX1, "<init>", "()V"⟩
abbrev cX1_size : ByteArray := prog_3_method_2_code
def yX1_size : MethodName := ⟨RX1, "size", "()I"⟩
abbrev cX1_has : ByteArray := prog_3_method_3_code
def yX1_has : MethodName := ⟨RX1, "has", "(I)Z"⟩
abbrev cX1_isFull : ByteArray := prog_3_method_4_code
def yX1_isFull : MethodName := ⟨RX1, "isFull", "()Z"⟩
abbrev cX1_around : ByteArray := prog_3_method_5_code
def yX1_around : MethodName := ⟨RX1, "around", "(I)I"⟩
abbrev cX1_add : ByteArray := prog_3_method_6_code
def yX1_add : MethodName := ⟨RX1, "add", "(III)I"⟩
abbrev cX1_remove : ByteArray := prog_3_method_7_code
def yX1_remove : MethodName := ⟨RX1, "remove", "(I)I"⟩
abbrev cX1_take : ByteArray := prog_3_method_8_code
def yX1_take : MethodName := ⟨RX1, "take", "(LBellObservatory$Halls;)V"⟩
def RX2 : String := "BellObservatory$Houses"
def TX2 : u_T := fun k => match k with
  | 0 => ("BellObservatory$Houses", "size", "I", false)
  | 1 => ("BellObservatory$Houses", "cells", "[I", true)
  | 2 => ("BellObservatory$Houses", "froms", "[I", true)
  | 3 => ("BellObservatory$Houses", "tos", "[I", true)
  | 4 => ("BellObservatory$Houses", "rings", "[I", true)
  | _ => ("BellObservatory$Houses", "pranks", "[I", true)
def tyX2 : Nat → FieldType := fun k => match k with
  | 0 => .int
  | 1 => .array .int
  | 2 => .array .int
  | 3 => .array .int
  | 4 => .array .int
  | _ => .array .int
abbrev wsX20 : List Cond := u_ws RX2 TX2 6
theorem nmX2 : ∀ a, a < 6 → ∀ b, b < 6 → a ≠ b → (TX2 a).2.1 ≠ (TX2 b).2.1 := by decide +kernel
theorem tyX2_ok : ∀ k, k < 6 → parseFieldDescriptor (TX2 k).2.2.1 = some (tyX2 k) := by decide +kernel
abbrev cX2_init : ByteArray := prog_4_method_1_code
def yX2_init : MethodName := ⟨RX2, "<init>", "()V"⟩
abbrev cX2_size : ByteArray := prog_4_method_2_code
def yX2_size : MethodName := ⟨RX2, "size", "()I"⟩
abbrev cX2_has : ByteArray := prog_4_method_3_code
def yX2_has : MethodName := ⟨RX2, "has", "(I)Z"⟩
abbrev cX2_isFull : ByteArray := prog_4_method_4_code
def yX2_isFull : MethodName := ⟨RX2, "isFull", "()Z"⟩
abbrev cX2_on : ByteArray := prog_4_method_5_code
def yX2_on : MethodName := ⟨RX2, "on", "(I)I"⟩
abbrev cX2_cellAt : ByteArray := prog_4_method_6_code
def yX2_cellAt : MethodName := ⟨RX2, "cellAt", "(I)I"⟩
abbrev cX2_fromAt : ByteArray := prog_4_method_7_code
def yX2_fromAt : MethodName := ⟨RX2, "fromAt", "(I)I"⟩
abbrev cX2_toAt : ByteArray := prog_4_method_8_code
def yX2_toAt : MethodName := ⟨RX2, "toAt", "(I)I"⟩
abbrev cX2_ringsAt : ByteArray := prog_4_method_9_code
def yX2_ringsAt : MethodName := ⟨RX2, "ringsAt", "(I)I"⟩
abbrev cX2_pranksAt : ByteArray := prog_4_method_10_code
def yX2_pranksAt : MethodName := ⟨RX2, "pranksAt", "(I)I"⟩
abbrev cX2_add : ByteArray := prog_4_method_11_code
def yX2_add : MethodName := ⟨RX2, "add", "(III)I"⟩
abbrev cX2_remove : ByteArray := prog_4_method_12_code
def yX2_remove : MethodName := ⟨RX2, "remove", "(I)I"⟩
abbrev cX2_countRing : ByteArray := prog_4_method_13_code
def yX2_countRing : MethodName := ⟨RX2, "countRing", "(IZ)V"⟩
abbrev cX2_sleepAt : ByteArray := prog_4_method_14_code
def yX2_sleepAt : MethodName := ⟨RX2, "sleepAt", "(I)I"⟩
abbrev cX2_sleepSum : ByteArray := prog_4_method_15_code
def yX2_sleepSum : MethodName := ⟨RX2, "sleepSum", "()I"⟩
abbrev cX2_isAsleep : ByteArray := prog_4_method_16_code
def yX2_isAsleep : MethodName := ⟨RX2, "isAsleep", "(II)Z"⟩
abbrev cX2_sleepers : ByteArray := prog_4_method_17_code
def yX2_sleepers : MethodName := ⟨RX2, "sleepers", "(I)I"⟩
abbrev cX2_sleepersByTurns : ByteArray := prog_4_method_18_code
def yX2_sleepersByTurns : MethodName := ⟨RX2, "sleepersByTurns", "(I)I"⟩
abbrev cX2_turnAt : ByteArray := prog_4_method_19_code
def yX2_turnAt : MethodName := ⟨RX2, "turnAt", "(I)I"⟩
abbrev cX2_areSleepersAlike : ByteArray := prog_4_method_20_code
def yX2_areSleepersAlike : MethodName := ⟨RX2, "areSleepersAlike", "()Z"⟩
abbrev cX2_deepestHour : ByteArray := prog_4_method_21_code
def yX2_deepestHour : MethodName := ⟨RX2, "deepestHour", "()I"⟩
abbrev cX2_atRank : ByteArray := prog_4_method_22_code
def yX2_atRank : MethodName := ⟨RX2, "atRank", "(I)I"⟩
abbrev cX2_rankOf : ByteArray := prog_4_method_23_code
def yX2_rankOf : MethodName := ⟨RX2, "rankOf", "(I)I"⟩
abbrev cX2_isAhead : ByteArray := prog_4_method_24_code
def yX2_isAhead : MethodName := ⟨RX2, "isAhead", "(II)Z"⟩
abbrev cX2_take : ByteArray := prog_4_method_25_code
def yX2_take : MethodName := ⟨RX2, "take", "(LBellObservatory$Houses;)V"⟩
def RX3 : String := "BellObservatory$Orders"
def TX3 : u_T := fun k => match k with
  | 0 => ("BellObservatory$Orders", "signs", "[C", true)
  | 1 => ("BellObservatory$Orders", "kinds", "[I", true)
  | 2 => ("BellObservatory$Orders", "numbers", "[I", true)
  | 3 => ("BellObservatory$Orders", "size", "I", false)
  | 4 => ("BellObservatory$Orders", "count", "I", false)
  | 5 => ("BellObservatory$Orders", "place", "I", false)
  | _ => ("BellObservatory$Orders", "errorPlace", "I", false)
def tyX3 : Nat → FieldType := fun k => match k with
  | 0 => .array .char
  | 1 => .array .int
  | 2 => .array .int
  | 3 => .int
  | 4 => .int
  | 5 => .int
  | _ => .int
abbrev wsX30 : List Cond := u_ws RX3 TX3 7
theorem nmX3 : ∀ a, a < 7 → ∀ b, b < 7 → a ≠ b → (TX3 a).2.1 ≠ (TX3 b).2.1 := by decide +kernel
theorem tyX3_ok : ∀ k, k < 7 → parseFieldDescriptor (TX3 k).2.2.1 = some (tyX3 k) := by decide +kernel
abbrev cX3_init : ByteArray := prog_5_method_1_code
def yX3_init : MethodName := ⟨RX3, "<init>", "()V"⟩
abbrev cX3_size : ByteArray := prog_5_method_2_code
def yX3_size : MethodName := ⟨RX3, "size", "()I"⟩
abbrev cX3_count : ByteArray := prog_5_method_3_code
def yX3_count : MethodName := ⟨RX3, "count", "()I"⟩
abbrev cX3_isFull : ByteArray := prog_5_method_5_code
def yX3_isFull : MethodName := ⟨RX3, "isFull", "()Z"⟩
abbrev cX3_add : ByteArray := prog_5_method_6_code
def yX3_add : MethodName := ⟨RX3, "add", "(C)I"⟩
abbrev cX3_clear : ByteArray := prog_5_method_7_code
def yX3_clear : MethodName := ⟨RX3, "clear", "()V"⟩
abbrev cX3_kindAt : ByteArray := prog_5_method_8_code
def yX3_kindAt : MethodName := ⟨RX3, "kindAt", "(I)I"⟩
abbrev cX3_numberAt : ByteArray := prog_5_method_9_code
def yX3_numberAt : MethodName := ⟨RX3, "numberAt", "(II)I"⟩
abbrev cX3_read : ByteArray := prog_5_method_10_code
def yX3_read : MethodName := ⟨RX3, "read", "()Z"⟩
abbrev cX3_readOrder : ByteArray := prog_5_method_11_code
def yX3_readOrder : MethodName := ⟨RX3, "readOrder", "()Z"⟩
abbrev cX3_kindOf : ByteArray := prog_5_method_12_code
def yX3_kindOf : MethodName := ⟨RX3, "kindOf", "(I)I"⟩
abbrev cX3_formOf : ByteArray := prog_5_method_13_code
def yX3_formOf : MethodName := ⟨RX3, "formOf", "(I)Ljava/lang/String;"⟩
abbrev cX3_readForm : ByteArray := prog_5_method_14_code
def yX3_readForm : MethodName := ⟨RX3, "readForm", "(Ljava/lang/String;)Z"⟩
abbrev cX3_readSign : ByteArray := prog_5_method_15_code
def yX3_readSign : MethodName := ⟨RX3, "readSign", "(C)Z"⟩
abbrev cX3_readNumber : ByteArray := prog_5_method_16_code
def yX3_readNumber : MethodName := ⟨RX3, "readNumber", "(Z)I"⟩
abbrev cX3_digitHere : ByteArray := prog_5_method_17_code
def yX3_digitHere : MethodName := ⟨RX3, "digitHere", "()I"⟩
abbrev cX3_signHere : ByteArray := prog_5_method_18_code
def yX3_signHere : MethodName := ⟨RX3, "signHere", "()I"⟩
def RX4 : String := "BellObservatory$Past"
def TX4 : u_T := fun k => match k with
  | 0 => ("BellObservatory$Past", "towns", "[LBellObservatory$Town;", true)
  | 1 => ("BellObservatory$Past", "size", "I", false)
  | _ => ("BellObservatory$Past", "next", "I", false)
def tyX4 : Nat → FieldType := fun k => match k with
  | 0 => .array (.object "BellObservatory$Town")
  | 1 => .int
  | _ => .int
abbrev wsX40 : List Cond := u_ws RX4 TX4 3
theorem nmX4 : ∀ a, a < 3 → ∀ b, b < 3 → a ≠ b → (TX4 a).2.1 ≠ (TX4 b).2.1 := by decide +kernel
theorem tyX4_ok : ∀ k, k < 3 → parseFieldDescriptor (TX4 k).2.2.1 = some (tyX4 k) := by decide +kernel
abbrev cX4_init : ByteArray := prog_6_method_1_code
def yX4_init : MethodName := ⟨RX4, "<init>", "()V"⟩
abbrev cX4_size : ByteArray := prog_6_method_2_code
def yX4_size : MethodName := ⟨RX4, "size", "()I"⟩
abbrev cX4_push : ByteArray := prog_6_method_4_code
def yX4_push : MethodName := ⟨RX4, "push", "(LBellObservatory$Town;)V"⟩
abbrev cX4_pop : ByteArray := prog_6_method_5_code
def yX4_pop : MethodName := ⟨RX4, "pop", "(LBellObservatory$Town;)V"⟩
abbrev cX4_slotAt : ByteArray := prog_6_method_6_code
def yX4_slotAt : MethodName := ⟨RX4, "slotAt", "(I)LBellObservatory$Town;"⟩
def RX5 : String := "BellObservatory$Posts"
def TX5 : u_T := fun k => match k with
  | 0 => ("BellObservatory$Posts", "size", "I", false)
  | 1 => ("BellObservatory$Posts", "cells", "[I", true)
  | _ => ("BellObservatory$Posts", "tolds", "[I", true)
def tyX5 : Nat → FieldType := fun k => match k with
  | 0 => .int
  | 1 => .array .int
  | _ => .array .int
abbrev wsX50 : List Cond := u_ws RX5 TX5 3
theorem nmX5 : ∀ a, a < 3 → ∀ b, b < 3 → a ≠ b → (TX5 a).2.1 ≠ (TX5 b).2.1 := by decide +kernel
theorem tyX5_ok : ∀ k, k < 3 → parseFieldDescriptor (TX5 k).2.2.1 = some (tyX5 k) := by decide +kernel
abbrev cX5_init : ByteArray := prog_7_method_1_code
def yX5_init : MethodName := ⟨RX5, "<init>", "()V"⟩
abbrev cX5_size : ByteArray := prog_7_method_2_code
def yX5_size : MethodName := ⟨RX5, "size", "()I"⟩
abbrev cX5_has : ByteArray := prog_7_method_3_code
def yX5_has : MethodName := ⟨RX5, "has", "(I)Z"⟩
abbrev cX5_isFull : ByteArray := prog_7_method_4_code
def yX5_isFull : MethodName := ⟨RX5, "isFull", "()Z"⟩
abbrev cX5_on : ByteArray := prog_7_method_5_code
def yX5_on : MethodName := ⟨RX5, "on", "(I)I"⟩
abbrev cX5_cellAt : ByteArray := prog_7_method_6_code
def yX5_cellAt : MethodName := ⟨RX5, "cellAt", "(I)I"⟩
abbrev cX5_toldAt : ByteArray := prog_7_method_7_code
def yX5_toldAt : MethodName := ⟨RX5, "toldAt", "(I)I"⟩
abbrev cX5_add : ByteArray := prog_7_method_8_code
def yX5_add : MethodName := ⟨RX5, "add", "(I)I"⟩
abbrev cX5_remove : ByteArray := prog_7_method_9_code
def yX5_remove : MethodName := ⟨RX5, "remove", "(I)I"⟩
abbrev cX5_setTold : ByteArray := prog_7_method_10_code
def yX5_setTold : MethodName := ⟨RX5, "setTold", "(II)V"⟩
abbrev cX5_forgetTold : ByteArray := prog_7_method_11_code
def yX5_forgetTold : MethodName := ⟨RX5, "forgetTold", "()V"⟩
abbrev cX5_countTellers : ByteArray := prog_7_method_12_code
def yX5_countTellers : MethodName := ⟨RX5, "countTellers", "()I"⟩
abbrev cX5_firstTeller : ByteArray := prog_7_method_13_code
def yX5_firstTeller : MethodName := ⟨RX5, "firstTeller", "()I"⟩
abbrev cX5_isAgreedOn : ByteArray := prog_7_method_14_code
def yX5_isAgreedOn : MethodName := ⟨RX5, "isAgreedOn", "(I)Z"⟩
abbrev cX5_take : ByteArray := prog_7_method_15_code
def yX5_take : MethodName := ⟨RX5, "take", "(LBellObservatory$Posts;)V"⟩
def RX6 : String := "BellObservatory$Reason"
def TX6 : u_T := fun k => match k with
  | 0 => ("BellObservatory$Reason", "number", "I", false)
  | _ => ("BellObservatory$Reason", "detail", "I", false)
def tyX6 : Nat → FieldType := fun k => match k with
  | 0 => .int
  | _ => .int
abbrev wsX60 : List Cond := u_ws RX6 TX6 2
theorem nmX6 : ∀ a, a < 2 → ∀ b, b < 2 → a ≠ b → (TX6 a).2.1 ≠ (TX6 b).2.1 := by decide +kernel
theorem tyX6_ok : ∀ k, k < 2 → parseFieldDescriptor (TX6 k).2.2.1 = some (tyX6 k) := by decide +kernel
abbrev cX6_init : ByteArray := prog_8_method_1_code
def yX6_init : MethodName := ⟨RX6, "<init>", "()V"⟩
abbrev cX6_isGiven : ByteArray := prog_8_method_2_code
def yX6_isGiven : MethodName := ⟨RX6, "isGiven", "()Z"⟩
abbrev cX6_refuse : ByteArray := prog_8_method_3_code
def yX6_refuse : MethodName := ⟨RX6, "refuse", "(II)I"⟩
def RX7 : String := "BellObservatory$Rows"
def TX7 : u_T := fun k => match k with
  | _ => ("", "", "", false)
def tyX7 : Nat → FieldType := fun k => match k with
  | _ => .int
abbrev wsX70 : List Cond := u_ws RX7 TX7 0
theorem nmX7 : ∀ a, a < 0 → ∀ b, b < 0 → a ≠ b → (TX7 a).2.1 ≠ (TX7 b).2.1 := by decide +kernel
theorem tyX7_ok : ∀ k, k < 0 → parseFieldDescriptor (TX7 k).2.2.1 = some (tyX7 k) := by decide +kernel
abbrev cX7_at : ByteArray := prog_9_method_2_code
def yX7_at : MethodName := ⟨RX7, "at", "([II)I"⟩
abbrev cX7_put : ByteArray := prog_9_method_3_code
def yX7_put : MethodName := ⟨RX7, "put", "([III)V"⟩
abbrev cX7_take : ByteArray := prog_9_method_4_code
def yX7_take : MethodName := ⟨RX7, "take", "([I[I)V"⟩
abbrev cX7_closeGap : ByteArray := prog_9_method_5_code
def yX7_closeGap : MethodName := ⟨RX7, "closeGap", "([II)V"⟩
abbrev cX7_sum : ByteArray := prog_9_method_6_code
def yX7_sum : MethodName := ⟨RX7, "sum", "([I)I"⟩
abbrev cX7_placeOf : ByteArray := prog_9_method_7_code
def yX7_placeOf : MethodName := ⟨RX7, "placeOf", "([III)I"⟩
def RX8 : String := "BellObservatory$Sheet"
def TX8 : u_T := fun k => match k with
  | 0 => ("BellObservatory$Sheet", "signs", "[C", true)
  | _ => ("BellObservatory$Sheet", "size", "I", false)
def tyX8 : Nat → FieldType := fun k => match k with
  | 0 => .array .char
  | _ => .int
abbrev wsX80 : List Cond := u_ws RX8 TX8 2
theorem nmX8 : ∀ a, a < 2 → ∀ b, b < 2 → a ≠ b → (TX8 a).2.1 ≠ (TX8 b).2.1 := by decide +kernel
theorem tyX8_ok : ∀ k, k < 2 → parseFieldDescriptor (TX8 k).2.2.1 = some (tyX8 k) := by decide +kernel
abbrev cX8_init : ByteArray := prog_10_method_1_code
def yX8_init : MethodName := ⟨RX8, "<init>", "()V"⟩
abbrev cX8_has : ByteArray := prog_10_method_2_code
def yX8_has : MethodName := ⟨RX8, "has", "(I)Z"⟩
abbrev cX8_signAt : ByteArray := prog_10_method_3_code
def yX8_signAt : MethodName := ⟨RX8, "signAt", "(I)C"⟩
abbrev cX8_writeRow : ByteArray := prog_10_method_4_code
def yX8_writeRow : MethodName := ⟨RX8, "writeRow", "(LBellObservatory$Town;I)I"⟩
abbrev cX8_signOf : ByteArray := prog_10_method_5_code
def yX8_signOf : MethodName := ⟨RX8, "signOf", "(LBellObservatory$Town;I)C"⟩
abbrev cX8_writeHouse : ByteArray := prog_10_method_6_code
def yX8_writeHouse : MethodName := ⟨RX8, "writeHouse", "(LBellObservatory$Houses;II)I"⟩
abbrev cX8_putNumber : ByteArray := prog_10_method_7_code
def yX8_putNumber : MethodName := ⟨RX8, "putNumber", "(I)V"⟩
abbrev cX8_digit : ByteArray := prog_10_method_8_code
def yX8_digit : MethodName := ⟨RX8, "digit", "(I)C"⟩
abbrev cX8_putSign : ByteArray := prog_10_method_9_code
def yX8_putSign : MethodName := ⟨RX8, "putSign", "(C)V"⟩
def RX9 : String := "BellObservatory$Town"
def TX9 : u_T := fun k => match k with
  | 0 => ("BellObservatory$Town", "houses", "LBellObservatory$Houses;", true)
  | 1 => ("BellObservatory$Town", "halls", "LBellObservatory$Halls;", true)
  | 2 => ("BellObservatory$Town", "posts", "LBellObservatory$Posts;", true)
  | 3 => ("BellObservatory$Town", "blocks", "[I", true)
  | 4 => ("BellObservatory$Town", "kinds", "[I", true)
  | 5 => ("BellObservatory$Town", "hour", "I", false)
  | 6 => ("BellObservatory$Town", "day", "I", false)
  | 7 => ("BellObservatory$Town", "prankHouse", "I", false)
  | 8 => ("BellObservatory$Town", "bells", "I", false)
  | 9 => ("BellObservatory$Town", "echoes", "I", false)
  | _ => ("BellObservatory$Town", "bellPranks", "I", false)
def tyX9 : Nat → FieldType := fun k => match k with
  | 0 => .object "BellObservatory$Houses"
  | 1 => .object "BellObservatory$Halls"
  | 2 => .object "BellObservatory$Posts"
  | 3 => .array .int
  | 4 => .array .int
  | 5 => .int
  | 6 => .int
  | 7 => .int
  | 8 => .int
  | 9 => .int
  | _ => .int
abbrev wsX90 : List Cond := u_ws RX9 TX9 11
theorem nmX9 : ∀ a, a < 11 → ∀ b, b < 11 → a ≠ b → (TX9 a).2.1 ≠ (TX9 b).2.1 := by decide +kernel
theorem tyX9_ok : ∀ k, k < 11 → parseFieldDescriptor (TX9 k).2.2.1 = some (tyX9 k) := by decide +kernel
abbrev cX9_init : ByteArray := prog_11_method_1_code
def yX9_init : MethodName := ⟨RX9, "<init>", "()V"⟩
abbrev cX9_take : ByteArray := prog_11_method_2_code
def yX9_take : MethodName := ⟨RX9, "take", "(LBellObservatory$Town;)V"⟩
abbrev cX9_judgeHouse : ByteArray := prog_11_method_3_code
def yX9_judgeHouse : MethodName := ⟨RX9, "judgeHouse", "(IIILBellObservatory$Reason;)I"⟩
abbrev cX9_judgeBlock : ByteArray := prog_11_method_4_code
def yX9_judgeBlock : MethodName := ⟨RX9, "judgeBlock", "(ILBellObservatory$Reason;)I"⟩
abbrev cX9_judgeHall : ByteArray := prog_11_method_5_code
def yX9_judgeHall : MethodName := ⟨RX9, "judgeHall", "(IIILBellObservatory$Reason;)I"⟩
abbrev cX9_judgeHours : ByteArray := prog_11_method_6_code
def yX9_judgeHours : MethodName := ⟨RX9, "judgeHours", "(I)I"⟩
abbrev cX9_judgeRing : ByteArray := prog_11_method_7_code
def yX9_judgeRing : MethodName := ⟨RX9, "judgeRing", "(III)I"⟩
abbrev cX9_judgePost : ByteArray := prog_11_method_8_code
def yX9_judgePost : MethodName := ⟨RX9, "judgePost", "(ILBellObservatory$Reason;)I"⟩
abbrev cX9_judgeTell : ByteArray := prog_11_method_9_code
def yX9_judgeTell : MethodName := ⟨RX9, "judgeTell", "(IILBellObservatory$Reason;)I"⟩
abbrev cX9_isBlocked : ByteArray := prog_11_method_10_code
def yX9_isBlocked : MethodName := ⟨RX9, "isBlocked", "(I)Z"⟩
abbrev cX9_turnBlock : ByteArray := prog_11_method_11_code
def yX9_turnBlock : MethodName := ⟨RX9, "turnBlock", "(I)Z"⟩
abbrev cX9_countBlocks : ByteArray := prog_11_method_12_code
def yX9_countBlocks : MethodName := ⟨RX9, "countBlocks", "()I"⟩
abbrev cX9_letPass : ByteArray := prog_11_method_13_code
def yX9_letPass : MethodName := ⟨RX9, "letPass", "(I)I"⟩
abbrev cX9_kindAt : ByteArray := prog_11_method_14_code
def yX9_kindAt : MethodName := ⟨RX9, "kindAt", "(IIII)I"⟩
abbrev cX9_isEchoed : ByteArray := prog_11_method_15_code
def yX9_isEchoed : MethodName := ⟨RX9, "isEchoed", "(II)Z"⟩
abbrev cX9_shortsLeft : ByteArray := prog_11_method_16_code
def yX9_shortsLeft : MethodName := ⟨RX9, "shortsLeft", "(III)I"⟩
abbrev cX9_isHeardAt : ByteArray := prog_11_method_17_code
def yX9_isHeardAt : MethodName := ⟨RX9, "isHeardAt", "(IIII)Z"⟩
abbrev cX9_countHearers : ByteArray := prog_11_method_18_code
def yX9_countHearers : MethodName := ⟨RX9, "countHearers", "(III)I"⟩
abbrev cX9_ringAt : ByteArray := prog_11_method_19_code
def yX9_ringAt : MethodName := ⟨RX9, "ringAt", "(III)I"⟩
abbrev cX9_hearAt : ByteArray := prog_11_method_20_code
def yX9_hearAt : MethodName := ⟨RX9, "hearAt", "(III)I"⟩
abbrev cX9_countKind : ByteArray := prog_11_method_21_code
def yX9_countKind : MethodName := ⟨RX9, "countKind", "(I)I"⟩
abbrev cX9_countRings : ByteArray := prog_11_method_22_code
def yX9_countRings : MethodName := ⟨RX9, "countRings", "()I"⟩
abbrev cX9_areRingsComplete : ByteArray := prog_11_method_23_code
def yX9_areRingsComplete : MethodName := ⟨RX9, "areRingsComplete", "()Z"⟩
abbrev cX9_hasPrank : ByteArray := prog_11_method_24_code
def yX9_hasPrank : MethodName := ⟨RX9, "hasPrank", "()Z"⟩
abbrev cX9_canBeFrom : ByteArray := prog_11_method_25_code
def yX9_canBeFrom : MethodName := ⟨RX9, "canBeFrom", "(I)Z"⟩
abbrev cX9_countFits : ByteArray := prog_11_method_26_code
def yX9_countFits : MethodName := ⟨RX9, "countFits", "()I"⟩
abbrev cX9_countFitsAround : ByteArray := prog_11_method_27_code
def yX9_countFitsAround : MethodName := ⟨RX9, "countFitsAround", "()I"⟩
abbrev cX9_countFit : ByteArray := prog_11_method_28_code
def yX9_countFit : MethodName := ⟨RX9, "countFit", "(II)I"⟩
abbrev cX9_fitAt : ByteArray := prog_11_method_29_code
def yX9_fitAt : MethodName := ⟨RX9, "fitAt", "(I)I"⟩
abbrev cX9_countOf : ByteArray := prog_11_method_30_code
def yX9_countOf : MethodName := ⟨RX9, "countOf", "(I)I"⟩
def RX10 : String := "BellObservatory$Ways"
def TX10 : u_T := fun k => match k with
  | 0 => ("BellObservatory$Ways", "steps", "[I", true)
  | 1 => ("BellObservatory$Ways", "queue", "[I", true)
  | 2 => ("BellObservatory$Ways", "lows", "[I", true)
  | 3 => ("BellObservatory$Ways", "stops", "[I", true)
  | 4 => ("BellObservatory$Ways", "stopCount", "I", false)
  | _ => ("BellObservatory$Ways", "stepSum", "I", false)
def tyX10 : Nat → FieldType := fun k => match k with
  | 0 => .array .int
  | 1 => .array .int
  | 2 => .array .int
  | 3 => .array .int
  | 4 => .int
  | _ => .int
abbrev wsX100 : List Cond := u_ws RX10 TX10 6
theorem nmX10 : ∀ a, a < 6 → ∀ b, b < 6 → a ≠ b → (TX10 a).2.1 ≠ (TX10 b).2.1 := by decide +kernel
theorem tyX10_ok : ∀ k, k < 6 → parseFieldDescriptor (TX10 k).2.2.1 = some (tyX10 k) := by decide +kernel
abbrev cX10_init : ByteArray := prog_12_method_1_code
def yX10_init : MethodName := ⟨RX10, "<init>", "()V"⟩
abbrev cX10_stepsTo : ByteArray := prog_12_method_2_code
def yX10_stepsTo : MethodName := ⟨RX10, "stepsTo", "(LBellObservatory$Town;II)I"⟩
abbrev cX10_lowestTo : ByteArray := prog_12_method_3_code
def yX10_lowestTo : MethodName := ⟨RX10, "lowestTo", "(LBellObservatory$Town;II)I"⟩
abbrev cX10_areWaysAlike : ByteArray := prog_12_method_4_code
def yX10_areWaysAlike : MethodName := ⟨RX10, "areWaysAlike", "(LBellObservatory$Town;)Z"⟩
abbrev cX10_measure : ByteArray := prog_12_method_5_code
def yX10_measure : MethodName := ⟨RX10, "measure", "(LBellObservatory$Town;I)V"⟩
abbrev cX10_lower : ByteArray := prog_12_method_6_code
def yX10_lower : MethodName := ⟨RX10, "lower", "(LBellObservatory$Town;I)V"⟩
abbrev cX10_lowerAlong : ByteArray := prog_12_method_7_code
def yX10_lowerAlong : MethodName := ⟨RX10, "lowerAlong", "(LBellObservatory$Town;II)Z"⟩
abbrev cX10_lowerFrom : ByteArray := prog_12_method_8_code
def yX10_lowerFrom : MethodName := ⟨RX10, "lowerFrom", "(LBellObservatory$Town;II)Z"⟩
abbrev cX10_clear : ByteArray := prog_12_method_9_code
def yX10_clear : MethodName := ⟨RX10, "clear", "([I)V"⟩
abbrev cX10_goRound : ByteArray := prog_12_method_10_code
def yX10_goRound : MethodName := ⟨RX10, "goRound", "(LBellObservatory$Town;)V"⟩
abbrev cX10_nearest : ByteArray := prog_12_method_11_code
def yX10_nearest : MethodName := ⟨RX10, "nearest", "(LBellObservatory$Houses;)I"⟩
abbrev cX10_stopAt : ByteArray := prog_12_method_12_code
def yX10_stopAt : MethodName := ⟨RX10, "stopAt", "(I)I"⟩
abbrev cX10_roundSteps : ByteArray := prog_12_method_13_code
def yX10_roundSteps : MethodName := ⟨RX10, "roundSteps", "()I"⟩
def RX11 : String := "BellObservatory"
def TX11 : u_T := fun k => match k with
  | 0 => ("BellObservatory", "town", "LBellObservatory$Town;", true)
  | 1 => ("BellObservatory", "ahead", "LBellObservatory$Town;", true)
  | 2 => ("BellObservatory", "kept", "LBellObservatory$Town;", true)
  | 3 => ("BellObservatory", "isKept", "Z", false)
  | 4 => ("BellObservatory", "past", "LBellObservatory$Past;", true)
  | 5 => ("BellObservatory", "reason", "LBellObservatory$Reason;", true)
  | 6 => ("BellObservatory", "orders", "LBellObservatory$Orders;", true)
  | 7 => ("BellObservatory", "ways", "LBellObservatory$Ways;", true)
  | _ => ("BellObservatory", "sheet", "LBellObservatory$Sheet;", true)
def tyX11 : Nat → FieldType := fun k => match k with
  | 0 => .object "BellObservatory$Town"
  | 1 => .object "BellObservatory$Town"
  | 2 => .object "BellObservatory$Town"
  | 3 => .boolean
  | 4 => .object "BellObservatory$Past"
  | 5 => .object "BellObservatory$Reason"
  | 6 => .object "BellObservatory$Orders"
  | 7 => .object "BellObservatory$Ways"
  | _ => .object "BellObservatory$Sheet"
abbrev wsX110 : List Cond := u_ws RX11 TX11 9
theorem nmX11 : ∀ a, a < 9 → ∀ b, b < 9 → a ≠ b → (TX11 a).2.1 ≠ (TX11 b).2.1 := by decide +kernel
theorem tyX11_ok : ∀ k, k < 9 → parseFieldDescriptor (TX11 k).2.2.1 = some (tyX11 k) := by decide +kernel
abbrev cX11_init : ByteArray := prog_1_method_1_code
def yX11_init : MethodName := ⟨RX11, "<init>", "()V"⟩
abbrev cX11_house : ByteArray := prog_1_method_2_code
def yX11_house : MethodName := ⟨RX11, "house", "(III)I"⟩
abbrev cX11_goAway : ByteArray := prog_1_method_3_code
def yX11_goAway : MethodName := ⟨RX11, "goAway", "(I)I"⟩
abbrev cX11_block : ByteArray := prog_1_method_4_code
def yX11_block : MethodName := ⟨RX11, "block", "(I)Z"⟩
abbrev cX11_hall : ByteArray := prog_1_method_5_code
def yX11_hall : MethodName := ⟨RX11, "hall", "(III)I"⟩
abbrev cX11_dropHall : ByteArray := prog_1_method_6_code
def yX11_dropHall : MethodName := ⟨RX11, "dropHall", "(I)I"⟩
abbrev cX11_pass : ByteArray := prog_1_method_7_code
def yX11_pass : MethodName := ⟨RX11, "pass", "(I)I"⟩
abbrev cX11_houseOf : ByteArray := prog_1_method_8_code
def yX11_houseOf : MethodName := ⟨RX11, "houseOf", "(II)I"⟩
abbrev cX11_asleep : ByteArray := prog_1_method_9_code
def yX11_asleep : MethodName := ⟨RX11, "asleep", "(IZ)I"⟩
abbrev cX11_deepest : ByteArray := prog_1_method_10_code
def yX11_deepest : MethodName := ⟨RX11, "deepest", "()I"⟩
abbrev cX11_ring : ByteArray := prog_1_method_11_code
def yX11_ring : MethodName := ⟨RX11, "ring", "(III)I"⟩
abbrev cX11_classOf : ByteArray := prog_1_method_12_code
def yX11_classOf : MethodName := ⟨RX11, "classOf", "(IIII)I"⟩
abbrev cX11_echo : ByteArray := prog_1_method_13_code
def yX11_echo : MethodName := ⟨RX11, "echo", "(III)I"⟩
abbrev cX11_heard : ByteArray := prog_1_method_14_code
def yX11_heard : MethodName := ⟨RX11, "heard", "(III)I"⟩
abbrev cX11_rings : ByteArray := prog_1_method_15_code
def yX11_rings : MethodName := ⟨RX11, "rings", "(I)I"⟩
abbrev cX11_post : ByteArray := prog_1_method_16_code
def yX11_post : MethodName := ⟨RX11, "post", "(I)I"⟩
abbrev cX11_dropPost : ByteArray := prog_1_method_17_code
def yX11_dropPost : MethodName := ⟨RX11, "dropPost", "(I)I"⟩
abbrev cX11_tell : ByteArray := prog_1_method_18_code
def yX11_tell : MethodName := ⟨RX11, "tell", "(II)I"⟩
abbrev cX11_postOf : ByteArray := prog_1_method_19_code
def yX11_postOf : MethodName := ⟨RX11, "postOf", "(II)I"⟩
abbrev cX11_fits : ByteArray := prog_1_method_20_code
def yX11_fits : MethodName := ⟨RX11, "fits", "(I)Z"⟩
abbrev cX11_fitting : ByteArray := prog_1_method_21_code
def yX11_fitting : MethodName := ⟨RX11, "fitting", "(Z)I"⟩
abbrev cX11_fix : ByteArray := prog_1_method_22_code
def yX11_fix : MethodName := ⟨RX11, "fix", "(I)I"⟩
abbrev cX11_apart : ByteArray := prog_1_method_23_code
def yX11_apart : MethodName := ⟨RX11, "apart", "(II)I"⟩
abbrev cX11_way : ByteArray := prog_1_method_24_code
def yX11_way : MethodName := ⟨RX11, "way", "(IIZ)I"⟩
abbrev cX11_round : ByteArray := prog_1_method_25_code
def yX11_round : MethodName := ⟨RX11, "round", "(I)I"⟩
abbrev cX11_steps : ByteArray := prog_1_method_26_code
def yX11_steps : MethodName := ⟨RX11, "steps", "()I"⟩
abbrev cX11_ranked : ByteArray := prog_1_method_27_code
def yX11_ranked : MethodName := ⟨RX11, "ranked", "(I)I"⟩
abbrev cX11_line : ByteArray := prog_1_method_28_code
def yX11_line : MethodName := ⟨RX11, "line", "(I)I"⟩
abbrev cX11_houseLine : ByteArray := prog_1_method_29_code
def yX11_houseLine : MethodName := ⟨RX11, "houseLine", "(I)I"⟩
abbrev cX11_character : ByteArray := prog_1_method_30_code
def yX11_character : MethodName := ⟨RX11, "character", "(I)C"⟩
abbrev cX11_append : ByteArray := prog_1_method_31_code
def yX11_append : MethodName := ⟨RX11, "append", "(C)I"⟩
abbrev cX11_run : ByteArray := prog_1_method_32_code
def yX11_run : MethodName := ⟨RX11, "run", "()I"⟩
abbrev cX11_refusal : ByteArray := prog_1_method_34_code
def yX11_refusal : MethodName := ⟨RX11, "refusal", "(Z)I"⟩
abbrev cX11_account : ByteArray := prog_1_method_35_code
def yX11_account : MethodName := ⟨RX11, "account", "(I)I"⟩
abbrev cX11_isWell : ByteArray := prog_1_method_36_code
def yX11_isWell : MethodName := ⟨RX11, "isWell", "()Z"⟩
abbrev cX11_meanSleep : ByteArray := prog_1_method_37_code
def yX11_meanSleep : MethodName := ⟨RX11, "meanSleep", "()D"⟩
abbrev cX11_prankShare : ByteArray := prog_1_method_38_code
def yX11_prankShare : MethodName := ⟨RX11, "prankShare", "()F"⟩
abbrev cX11_undo : ByteArray := prog_1_method_39_code
def yX11_undo : MethodName := ⟨RX11, "undo", "()I"⟩
abbrev cX11_judgeOrder : ByteArray := prog_1_method_42_code
def yX11_judgeOrder : MethodName := ⟨RX11, "judgeOrder", "(IIII)I"⟩
abbrev cX11_doOrder : ByteArray := prog_1_method_43_code
def yX11_doOrder : MethodName := ⟨RX11, "doOrder", "(IIII)V"⟩
abbrev cX11_demandFine : ByteArray := prog_1_method_44_code
def yX11_demandFine : MethodName := ⟨RX11, "demandFine", "(I)V"⟩
abbrev cX11_demandListed : ByteArray := prog_1_method_45_code
def yX11_demandListed : MethodName := ⟨RX11, "demandListed", "(Z)V"⟩
abbrev cX11_demandProper : ByteArray := prog_1_method_46_code
def yX11_demandProper : MethodName := ⟨RX11, "demandProper", "(Z)V"⟩
abbrev cX11_demandFound : ByteArray := prog_1_method_47_code
def yX11_demandFound : MethodName := ⟨RX11, "demandFound", "(Z)V"⟩
abbrev cX11_demandReady : ByteArray := prog_1_method_48_code
def yX11_demandReady : MethodName := ⟨RX11, "demandReady", "(Z)V"⟩
abbrev cX11_demandDivisor : ByteArray := prog_1_method_49_code
def yX11_demandDivisor : MethodName := ⟨RX11, "demandDivisor", "(I)V"⟩
abbrev cX11_isWithin : ByteArray := prog_1_method_50_code
def yX11_isWithin : MethodName := ⟨RX11, "isWithin", "(III)Z"⟩
abbrev cX11_isHour : ByteArray := prog_1_method_51_code
def yX11_isHour : MethodName := ⟨RX11, "isHour", "(I)Z"⟩
abbrev cX11_isLane : ByteArray := prog_1_method_52_code
def yX11_isLane : MethodName := ⟨RX11, "isLane", "(I)Z"⟩
abbrev cX11_isTones : ByteArray := prog_1_method_53_code
def yX11_isTones : MethodName := ⟨RX11, "isTones", "(I)Z"⟩
def RX12 : String := "BellObservatoryModel"
def TX12 : u_T := fun k => match k with
  | _ => ("", "", "", false)
def tyX12 : Nat → FieldType := fun k => match k with
  | _ => .int
abbrev wsX120 : List Cond := u_ws RX12 TX12 0
theorem nmX12 : ∀ a, a < 0 → ∀ b, b < 0 → a ≠ b → (TX12 a).2.1 ≠ (TX12 b).2.1 := by decide +kernel
theorem tyX12_ok : ∀ k, k < 0 → parseFieldDescriptor (TX12 k).2.2.1 = some (tyX12 k) := by decide +kernel
def RJx145de : String := "java/io/Serializable"
def TJx145de : u_T := fun k => match k with
  | _ => ("", "", "", false)
def tyJx145de : Nat → FieldType := fun k => match k with
  | _ => .int
abbrev wsJx145de0 : List Cond := u_ws RJx145de TJx145de 0
theorem nmJx145de : ∀ a, a < 0 → ∀ b, b < 0 → a ≠ b → (TJx145de a).2.1 ≠ (TJx145de b).2.1 := by decide +kernel
theorem tyJx145de_ok : ∀ k, k < 0 → parseFieldDescriptor (TJx145de k).2.2.1 = some (tyJx145de k) := by decide +kernel
def RJ5 : String := "java/lang/AbstractStringBuilder"
def TJ5 : u_T := fun k => match k with
  | _ => ("", "", "", false)
def tyJ5 : Nat → FieldType := fun k => match k with
  | _ => .int
abbrev wsJ50 : List Cond := u_ws RJ5 TJ5 0
theorem nmJ5 : ∀ a, a < 0 → ∀ b, b < 0 → a ≠ b → (TJ5 a).2.1 ≠ (TJ5 b).2.1 := by decide +kernel
theorem tyJ5_ok : ∀ k, k < 0 → parseFieldDescriptor (TJ5 k).2.2.1 = some (tyJ5 k) := by decide +kernel
abbrev cJ5_init_d00df : ByteArray := prog_16_method_2_code
def yJ5_init_d00df : MethodName := ⟨RJ5, "<init>", "(I)V"⟩
abbrev cJ5_length_8abf5 : ByteArray := prog_16_method_6_code
def yJ5_length_8abf5 : MethodName := ⟨RJ5, "length", "()I"⟩
abbrev cJ5_ensureCapacityInternal_d00df : ByteArray := prog_16_method_9_code
def yJ5_ensureCapacityInternal_d00df : MethodName := ⟨RJ5, "ensureCapacityInternal", "(I)V"⟩
abbrev cJ5_newCapacity_0f7a4 : ByteArray := prog_16_method_10_code
def yJ5_newCapacity_0f7a4 : MethodName := ⟨RJ5, "newCapacity", "(I)I"⟩
abbrev cJ5_inflate_da8c8 : ByteArray := prog_16_method_11_code
def yJ5_inflate_da8c8 : MethodName := ⟨RJ5, "inflate", "()V"⟩
abbrev cJ5_append_cf1ce : ByteArray := prog_16_method_22_code
def yJ5_append_cf1ce : MethodName := ⟨RJ5, "append", "(Ljava/lang/String;)Ljava/lang/AbstractStringBuilder;"⟩
abbrev cJ5_appendNull_278bc : ByteArray := prog_16_method_26_code
def yJ5_appendNull_278bc : MethodName := ⟨RJ5, "appendNull", "()Ljava/lang/AbstractStringBuilder;"⟩
abbrev cJ5_append_c97b9 : ByteArray := prog_16_method_32_code
def yJ5_append_c97b9 : MethodName := ⟨RJ5, "append", "(I)Ljava/lang/AbstractStringBuilder;"⟩
abbrev cJ5_getValue_6d5f1 : ByteArray := prog_16_method_64_code
def yJ5_getValue_6d5f1 : MethodName := ⟨RJ5, "getValue", "()[B"⟩
abbrev cJ5_isLatin1_aae02 : ByteArray := prog_16_method_68_code
def yJ5_isLatin1_aae02 : MethodName := ⟨RJ5, "isLatin1", "()Z"⟩
abbrev cJ5_inflateIfNeededFor_a7421 : ByteArray := prog_16_method_71_code
def yJ5_inflateIfNeededFor_a7421 : MethodName := ⟨RJ5, "inflateIfNeededFor", "(Ljava/lang/String;)V"⟩
abbrev cJ5_putStringAt_47b60 : ByteArray := prog_16_method_73_code
def yJ5_putStringAt_47b60 : MethodName := ⟨RJ5, "putStringAt", "(ILjava/lang/String;)V"⟩
def RJx2cfe8 : String := "java/lang/Appendable"
def TJx2cfe8 : u_T := fun k => match k with
  | _ => ("", "", "", false)
def tyJx2cfe8 : Nat → FieldType := fun k => match k with
  | _ => .int
abbrev wsJx2cfe80 : List Cond := u_ws RJx2cfe8 TJx2cfe8 0
theorem nmJx2cfe8 : ∀ a, a < 0 → ∀ b, b < 0 → a ≠ b → (TJx2cfe8 a).2.1 ≠ (TJx2cfe8 b).2.1 := by decide +kernel
theorem tyJx2cfe8_ok : ∀ k, k < 0 → parseFieldDescriptor (TJx2cfe8 k).2.2.1 = some (tyJx2cfe8 k) := by decide +kernel
def RJx00060 : String := "java/lang/ArrayIndexOutOfBoundsException"
def TJx00060 : u_T := fun k => match k with
  | 0 => ("java/lang/Throwable", "backtrace", "Ljava/lang/Object;", false)
  | 1 => ("java/lang/Throwable", "detailMessage", "Ljava/lang/String;", false)
  | 2 => ("java/lang/Throwable", "cause", "Ljava/lang/Throwable;", false)
  | 3 => ("java/lang/Throwable", "stackTrace", "[Ljava/lang/StackTraceElement;", false)
  | 4 => ("java/lang/Throwable", "depth", "I", false)
  | _ => ("java/lang/Throwable", "suppressedExceptions", "Ljava/util/List;", false)
def tyJx00060 : Nat → FieldType := fun k => match k with
  | 0 => .object "java/lang/Object"
  | 1 => .object "java/lang/String"
  | 2 => .object "java/lang/Throwable"
  | 3 => .array (.object "java/lang/StackTraceElement")
  | 4 => .int
  | _ => .object "java/util/List"
abbrev wsJx000600 : List Cond := u_ws RJx00060 TJx00060 6
theorem nmJx00060 : ∀ a, a < 6 → ∀ b, b < 6 → a ≠ b → (TJx00060 a).2.1 ≠ (TJx00060 b).2.1 := by decide +kernel
theorem tyJx00060_ok : ∀ k, k < 6 → parseFieldDescriptor (TJx00060 k).2.2.1 = some (tyJx00060 k) := by decide +kernel
abbrev cJx00060_init_a7421 : ByteArray := prog_19_method_2_code
def yJx00060_init_a7421 : MethodName := ⟨RJx00060, "<init>", "(Ljava/lang/String;)V"⟩
def RJx9f9b0 : String := "java/lang/CharSequence"
def TJx9f9b0 : u_T := fun k => match k with
  | _ => ("", "", "", false)
def tyJx9f9b0 : Nat → FieldType := fun k => match k with
  | _ => .int
abbrev wsJx9f9b00 : List Cond := u_ws RJx9f9b0 TJx9f9b0 0
theorem nmJx9f9b0 : ∀ a, a < 0 → ∀ b, b < 0 → a ≠ b → (TJx9f9b0 a).2.1 ≠ (TJx9f9b0 b).2.1 := by decide +kernel
theorem tyJx9f9b0_ok : ∀ k, k < 0 → parseFieldDescriptor (TJx9f9b0 k).2.2.1 = some (tyJx9f9b0 k) := by decide +kernel
def RJx8e188 : String := "java/lang/Cloneable"
def TJx8e188 : u_T := fun k => match k with
  | _ => ("", "", "", false)
def tyJx8e188 : Nat → FieldType := fun k => match k with
  | _ => .int
abbrev wsJx8e1880 : List Cond := u_ws RJx8e188 TJx8e188 0
theorem nmJx8e188 : ∀ a, a < 0 → ∀ b, b < 0 → a ≠ b → (TJx8e188 a).2.1 ≠ (TJx8e188 b).2.1 := by decide +kernel
theorem tyJx8e188_ok : ∀ k, k < 0 → parseFieldDescriptor (TJx8e188 k).2.2.1 = some (tyJx8e188 k) := by decide +kernel
def RJxb160c : String := "java/lang/Comparable"
def TJxb160c : u_T := fun k => match k with
  | _ => ("", "", "", false)
def tyJxb160c : Nat → FieldType := fun k => match k with
  | _ => .int
abbrev wsJxb160c0 : List Cond := u_ws RJxb160c TJxb160c 0
theorem nmJxb160c : ∀ a, a < 0 → ∀ b, b < 0 → a ≠ b → (TJxb160c a).2.1 ≠ (TJxb160c b).2.1 := by decide +kernel
theorem tyJxb160c_ok : ∀ k, k < 0 → parseFieldDescriptor (TJxb160c k).2.2.1 = some (tyJxb160c k) := by decide +kernel
def RJ6 : String := "java/lang/Integer"
def TJ6 : u_T := fun k => match k with
  | _ => ("", "", "", false)
def tyJ6 : Nat → FieldType := fun k => match k with
  | _ => .int
abbrev wsJ60 : List Cond := u_ws RJ6 TJ6 0
theorem nmJ6 : ∀ a, a < 0 → ∀ b, b < 0 → a ≠ b → (TJ6 a).2.1 ≠ (TJ6 b).2.1 := by decide +kernel
theorem tyJ6_ok : ∀ k, k < 0 → parseFieldDescriptor (TJ6 k).2.2.1 = some (tyJ6 k) := by decide +kernel
abbrev cJ6_getChars_ba4f3 : ByteArray := prog_27_method_12_code
def yJ6_getChars_ba4f3 : MethodName := ⟨RJ6, "getChars", "(II[B)I"⟩
abbrev cJ6_stringSize_0f7a4 : ByteArray := prog_27_method_13_code
def yJ6_stringSize_0f7a4 : MethodName := ⟨RJ6, "stringSize", "(I)I"⟩
def RJ9 : String := "java/lang/Math"
def TJ9 : u_T := fun k => match k with
  | _ => ("", "", "", false)
def tyJ9 : Nat → FieldType := fun k => match k with
  | _ => .int
abbrev wsJ90 : List Cond := u_ws RJ9 TJ9 0
theorem nmJ9 : ∀ a, a < 0 → ∀ b, b < 0 → a ≠ b → (TJ9 a).2.1 ≠ (TJ9 b).2.1 := by decide +kernel
theorem tyJ9_ok : ∀ k, k < 0 → parseFieldDescriptor (TJ9 k).2.2.1 = some (tyJ9 k) := by decide +kernel
abbrev cJ9_abs_0f7a4 : ByteArray := prog_28_method_59_code
def yJ9_abs_0f7a4 : MethodName := ⟨RJ9, "abs", "(I)I"⟩
abbrev cJ9_max_7cf53 : ByteArray := prog_28_method_65_code
def yJ9_max_7cf53 : MethodName := ⟨RJ9, "max", "(II)I"⟩
abbrev cJ9_min_7cf53 : ByteArray := prog_28_method_69_code
def yJ9_min_7cf53 : MethodName := ⟨RJ9, "min", "(II)I"⟩
def RJxd2413 : String := "java/lang/Number"
def TJxd2413 : u_T := fun k => match k with
  | _ => ("", "", "", false)
def tyJxd2413 : Nat → FieldType := fun k => match k with
  | _ => .int
abbrev wsJxd24130 : List Cond := u_ws RJxd2413 TJxd2413 0
theorem nmJxd2413 : ∀ a, a < 0 → ∀ b, b < 0 → a ≠ b → (TJxd2413 a).2.1 ≠ (TJxd2413 b).2.1 := by decide +kernel
theorem tyJxd2413_ok : ∀ k, k < 0 → parseFieldDescriptor (TJxd2413 k).2.2.1 = some (tyJxd2413 k) := by decide +kernel
def RJ0 : String := "java/lang/String"
def TJ0 : u_T := fun k => match k with
  | 0 => ("java/lang/String", "value", "[B", true)
  | 1 => ("java/lang/String", "coder", "B", true)
  | 2 => ("java/lang/String", "hash", "I", false)
  | _ => ("java/lang/String", "hashIsZero", "Z", false)
def tyJ0 : Nat → FieldType := fun k => match k with
  | 0 => .array .byte
  | 1 => .byte
  | 2 => .int
  | _ => .boolean
abbrev wsJ00 : List Cond := u_ws RJ0 TJ0 4
theorem nmJ0 : ∀ a, a < 4 → ∀ b, b < 4 → a ≠ b → (TJ0 a).2.1 ≠ (TJ0 b).2.1 := by decide +kernel
theorem tyJ0_ok : ∀ k, k < 4 → parseFieldDescriptor (TJ0 k).2.2.1 = some (tyJ0 k) := by decide +kernel
abbrev cJ0_init_81219 : ByteArray := prog_31_method_53_code
def yJ0_init_81219 : MethodName := ⟨RJ0, "<init>", "(Ljava/lang/StringBuilder;)V"⟩
abbrev cJ0_length_8abf5 : ByteArray := prog_31_method_54_code
def yJ0_length_8abf5 : MethodName := ⟨RJ0, "length", "()I"⟩
abbrev cJ0_charAt_5068e : ByteArray := prog_31_method_56_code
def yJ0_charAt_5068e : MethodName := ⟨RJ0, "charAt", "(I)C"⟩
abbrev cJ0_substring_b52d3 : ByteArray := prog_31_method_91_code
def yJ0_substring_b52d3 : MethodName := ⟨RJ0, "substring", "(I)Ljava/lang/String;"⟩
abbrev cJ0_substring_37a41 : ByteArray := prog_31_method_92_code
def yJ0_substring_37a41 : MethodName := ⟨RJ0, "substring", "(II)Ljava/lang/String;"⟩
abbrev cJ0_getBytes_840e7 : ByteArray := prog_31_method_147_code
def yJ0_getBytes_840e7 : MethodName := ⟨RJ0, "getBytes", "([BIB)V"⟩
abbrev cJ0_init_db425 : ByteArray := prog_31_method_150_code
def yJ0_init_db425 : MethodName := ⟨RJ0, "<init>", "(Ljava/lang/AbstractStringBuilder;Ljava/lang/Void;)V"⟩
abbrev cJ0_init_031fb : ByteArray := prog_31_method_151_code
def yJ0_init_031fb : MethodName := ⟨RJ0, "<init>", "([BB)V"⟩
abbrev cJ0_coder_7d493 : ByteArray := prog_31_method_152_code
def yJ0_coder_7d493 : MethodName := ⟨RJ0, "coder", "()B"⟩
abbrev cJ0_isLatin1_aae02 : ByteArray := prog_31_method_154_code
def yJ0_isLatin1_aae02 : MethodName := ⟨RJ0, "isLatin1", "()Z"⟩
abbrev cJ0_checkIndex_df160 : ByteArray := prog_31_method_155_code
def yJ0_checkIndex_df160 : MethodName := ⟨RJ0, "checkIndex", "(II)V"⟩
abbrev cJ0_checkBoundsOffCount_cabcc : ByteArray := prog_31_method_157_code
def yJ0_checkBoundsOffCount_cabcc : MethodName := ⟨RJ0, "checkBoundsOffCount", "(III)I"⟩
abbrev cJ0_checkBoundsBeginEnd_23922 : ByteArray := prog_31_method_158_code
def yJ0_checkBoundsBeginEnd_23922 : MethodName := ⟨RJ0, "checkBoundsBeginEnd", "(III)V"⟩
def RJ4 : String := "java/lang/StringBuilder"
def TJ4 : u_T := fun k => match k with
  | 0 => ("java/lang/AbstractStringBuilder", "value", "[B", false)
  | 1 => ("java/lang/AbstractStringBuilder", "coder", "B", false)
  | 2 => ("java/lang/AbstractStringBuilder", "maybeLatin1", "Z", false)
  | _ => ("java/lang/AbstractStringBuilder", "count", "I", false)
def tyJ4 : Nat → FieldType := fun k => match k with
  | 0 => .array .byte
  | 1 => .byte
  | 2 => .boolean
  | _ => .int
abbrev wsJ40 : List Cond := u_ws RJ4 TJ4 4
theorem nmJ4 : ∀ a, a < 4 → ∀ b, b < 4 → a ≠ b → (TJ4 a).2.1 ≠ (TJ4 b).2.1 := by decide +kernel
theorem tyJ4_ok : ∀ k, k < 4 → parseFieldDescriptor (TJ4 k).2.2.1 = some (tyJ4 k) := by decide +kernel
abbrev cJ4_init_da8c8 : ByteArray := prog_32_method_1_code
def yJ4_init_da8c8 : MethodName := ⟨RJ4, "<init>", "()V"⟩
abbrev cJ4_append_15ec4 : ByteArray := prog_32_method_7_code
def yJ4_append_15ec4 : MethodName := ⟨RJ4, "append", "(Ljava/lang/String;)Ljava/lang/StringBuilder;"⟩
abbrev cJ4_append_bf812 : ByteArray := prog_32_method_15_code
def yJ4_append_bf812 : MethodName := ⟨RJ4, "append", "(I)Ljava/lang/StringBuilder;"⟩
abbrev cJ4_toString_0e30d : ByteArray := prog_32_method_42_code
def yJ4_toString_0e30d : MethodName := ⟨RJ4, "toString", "()Ljava/lang/String;"⟩
abbrev cJ4_length_8abf5 : ByteArray := prog_32_method_93_code
def yJ4_length_8abf5 : MethodName := ⟨RJ4, "length", "()I"⟩
def RJ1 : String := "java/lang/StringLatin1"
def TJ1 : u_T := fun k => match k with
  | _ => ("", "", "", false)
def tyJ1 : Nat → FieldType := fun k => match k with
  | _ => .int
abbrev wsJ10 : List Cond := u_ws RJ1 TJ1 0
theorem nmJ1 : ∀ a, a < 0 → ∀ b, b < 0 → a ≠ b → (TJ1 a).2.1 ≠ (TJ1 b).2.1 := by decide +kernel
theorem tyJ1_ok : ∀ k, k < 0 → parseFieldDescriptor (TJ1 k).2.2.1 = some (tyJ1 k) := by decide +kernel
abbrev cJ1_charAt_3b067 : ByteArray := prog_33_method_2_code
def yJ1_charAt_3b067 : MethodName := ⟨RJ1, "charAt", "([BI)C"⟩
abbrev cJ1_newString_b4f7a : ByteArray := prog_33_method_47_code
def yJ1_newString_b4f7a : MethodName := ⟨RJ1, "newString", "([BII)Ljava/lang/String;"⟩
abbrev cJ1_inflate_0e8fd : ByteArray := prog_33_method_50_code
def yJ1_inflate_0e8fd : MethodName := ⟨RJ1, "inflate", "([BI[BII)V"⟩
def RJ2 : String := "java/lang/StringUTF16"
def TJ2 : u_T := fun k => match k with
  | _ => ("", "", "", false)
def tyJ2 : Nat → FieldType := fun k => match k with
  | _ => .int
abbrev wsJ20 : List Cond := u_ws RJ2 TJ2 0
theorem nmJ2 : ∀ a, a < 0 → ∀ b, b < 0 → a ≠ b → (TJ2 a).2.1 ≠ (TJ2 b).2.1 := by decide +kernel
theorem tyJ2_ok : ∀ k, k < 0 → parseFieldDescriptor (TJ2 k).2.2.1 = some (tyJ2 k) := by decide +kernel
abbrev cJ2_newBytesFor_77867 : ByteArray := prog_34_method_2_code
def yJ2_newBytesFor_77867 : MethodName := ⟨RJ2, "newBytesFor", "(I)[B"⟩
abbrev cJ2_newBytesLength_0f7a4 : ByteArray := prog_34_method_3_code
def yJ2_newBytesLength_0f7a4 : MethodName := ⟨RJ2, "newBytesLength", "(I)I"⟩
abbrev cJ2_putChar_b72d1 : ByteArray := prog_34_method_4_code
def yJ2_putChar_b72d1 : MethodName := ⟨RJ2, "putChar", "([BII)V"⟩
abbrev cJ2_getChar_3b067 : ByteArray := prog_34_method_5_code
def yJ2_getChar_3b067 : MethodName := ⟨RJ2, "getChar", "([BI)C"⟩
abbrev cJ2_length_9d52b : ByteArray := prog_34_method_6_code
def yJ2_length_9d52b : MethodName := ⟨RJ2, "length", "([B)I"⟩
abbrev cJ2_coderFromArrayLen_85cad : ByteArray := prog_34_method_15_code
def yJ2_coderFromArrayLen_85cad : MethodName := ⟨RJ2, "coderFromArrayLen", "([BI)B"⟩
abbrev cJ2_compress_39247 : ByteArray := prog_34_method_17_code
def yJ2_compress_39247 : MethodName := ⟨RJ2, "compress", "([BII)[B"⟩
abbrev cJ2_compress_5af95 : ByteArray := prog_34_method_22_code
def yJ2_compress_5af95 : MethodName := ⟨RJ2, "compress", "([BI[BII)I"⟩
abbrev cJ2_newString_b4f7a : ByteArray := prog_34_method_69_code
def yJ2_newString_b4f7a : MethodName := ⟨RJ2, "newString", "([BII)Ljava/lang/String;"⟩
abbrev cJ2_getChars_46870 : ByteArray := prog_34_method_77_code
def yJ2_getChars_46870 : MethodName := ⟨RJ2, "getChars", "(III[B)I"⟩
abbrev cJ2_putCharsAt_cd4e5 : ByteArray := prog_34_method_81_code
def yJ2_putCharsAt_cd4e5 : MethodName := ⟨RJ2, "putCharsAt", "([BICCCC)I"⟩
abbrev cJ2_charAt_3b067 : ByteArray := prog_34_method_83_code
def yJ2_charAt_3b067 : MethodName := ⟨RJ2, "charAt", "([BI)C"⟩
abbrev cJ2_inflate_0e8fd : ByteArray := prog_34_method_86_code
def yJ2_inflate_0e8fd : MethodName := ⟨RJ2, "inflate", "([BI[BII)V"⟩
abbrev cJ2_getChars_ba4f3 : ByteArray := prog_34_method_89_code
def yJ2_getChars_ba4f3 : MethodName := ⟨RJ2, "getChars", "(II[B)I"⟩
abbrev cJ2_checkIndex_2214a : ByteArray := prog_34_method_91_code
def yJ2_checkIndex_2214a : MethodName := ⟨RJ2, "checkIndex", "(I[B)V"⟩
abbrev cJ2_checkBoundsBeginEnd_d044e : ByteArray := prog_34_method_93_code
def yJ2_checkBoundsBeginEnd_d044e : MethodName := ⟨RJ2, "checkBoundsBeginEnd", "(II[B)V"⟩
abbrev cJ2_checkBoundsOffCount_d044e : ByteArray := prog_34_method_94_code
def yJ2_checkBoundsOffCount_d044e : MethodName := ⟨RJ2, "checkBoundsOffCount", "(II[B)V"⟩
def RJ10 : String := "java/lang/System"
def TJ10 : u_T := fun k => match k with
  | _ => ("", "", "", false)
def tyJ10 : Nat → FieldType := fun k => match k with
  | _ => .int
abbrev wsJ100 : List Cond := u_ws RJ10 TJ10 0
theorem nmJ10 : ∀ a, a < 0 → ∀ b, b < 0 → a ≠ b → (TJ10 a).2.1 ≠ (TJ10 b).2.1 := by decide +kernel
theorem tyJ10_ok : ∀ k, k < 0 → parseFieldDescriptor (TJ10 k).2.2.1 = some (tyJ10 k) := by decide +kernel
def RJxfd54e : String := "java/lang/constant/Constable"
def TJxfd54e : u_T := fun k => match k with
  | _ => ("", "", "", false)
def tyJxfd54e : Nat → FieldType := fun k => match k with
  | _ => .int
abbrev wsJxfd54e0 : List Cond := u_ws RJxfd54e TJxfd54e 0
theorem nmJxfd54e : ∀ a, a < 0 → ∀ b, b < 0 → a ≠ b → (TJxfd54e a).2.1 ≠ (TJxfd54e b).2.1 := by decide +kernel
theorem tyJxfd54e_ok : ∀ k, k < 0 → parseFieldDescriptor (TJxfd54e k).2.2.1 = some (tyJxfd54e k) := by decide +kernel
def RJx3cf43 : String := "java/lang/constant/ConstantDesc"
def TJx3cf43 : u_T := fun k => match k with
  | _ => ("", "", "", false)
def tyJx3cf43 : Nat → FieldType := fun k => match k with
  | _ => .int
abbrev wsJx3cf430 : List Cond := u_ws RJx3cf43 TJx3cf43 0
theorem nmJx3cf43 : ∀ a, a < 0 → ∀ b, b < 0 → a ≠ b → (TJx3cf43 a).2.1 ≠ (TJx3cf43 b).2.1 := by decide +kernel
theorem tyJx3cf43_ok : ∀ k, k < 0 → parseFieldDescriptor (TJx3cf43 k).2.2.1 = some (tyJx3cf43 k) := by decide +kernel
def RJ7 : String := "java/util/Arrays"
def TJ7 : u_T := fun k => match k with
  | _ => ("", "", "", false)
def tyJ7 : Nat → FieldType := fun k => match k with
  | _ => .int
abbrev wsJ70 : List Cond := u_ws RJ7 TJ7 0
theorem nmJ7 : ∀ a, a < 0 → ∀ b, b < 0 → a ≠ b → (TJ7 a).2.1 ≠ (TJ7 b).2.1 := by decide +kernel
theorem tyJ7_ok : ∀ k, k < 0 → parseFieldDescriptor (TJ7 k).2.2.1 = some (tyJ7 k) := by decide +kernel
abbrev cJ7_copyOf_9075b : ByteArray := prog_40_method_121_code
def yJ7_copyOf_9075b : MethodName := ⟨RJ7, "copyOf", "([BI)[B"⟩
abbrev cJ7_checkLength_df160 : ByteArray := prog_40_method_131_code
def yJ7_checkLength_df160 : MethodName := ⟨RJ7, "checkLength", "(II)V"⟩
abbrev cJ7_copyOfRange_39247 : ByteArray := prog_40_method_132_code
def yJ7_copyOfRange_39247 : MethodName := ⟨RJ7, "copyOfRange", "([BII)[B"⟩
abbrev cJ7_copyOfRangeByte_39247 : ByteArray := prog_40_method_133_code
def yJ7_copyOfRangeByte_39247 : MethodName := ⟨RJ7, "copyOfRangeByte", "([BII)[B"⟩
def RJ8 : String := "jdk/internal/util/ArraysSupport"
def TJ8 : u_T := fun k => match k with
  | _ => ("", "", "", false)
def tyJ8 : Nat → FieldType := fun k => match k with
  | _ => .int
abbrev wsJ80 : List Cond := u_ws RJ8 TJ8 0
theorem nmJ8 : ∀ a, a < 0 → ∀ b, b < 0 → a ≠ b → (TJ8 a).2.1 ≠ (TJ8 b).2.1 := by decide +kernel
theorem tyJ8_ok : ∀ k, k < 0 → parseFieldDescriptor (TJ8 k).2.2.1 = some (tyJ8 k) := by decide +kernel
abbrev cJ8_newLength_cabcc : ByteArray := prog_42_method_27_code
def yJ8_newLength_cabcc : MethodName := ⟨RJ8, "newLength", "(III)I"⟩
abbrev cJ8_hugeLength_7cf53 : ByteArray := prog_42_method_28_code
def yJ8_hugeLength_7cf53 : MethodName := ⟨RJ8, "hugeLength", "(II)I"⟩
def RJ3 : String := "jdk/internal/util/Preconditions"
def TJ3 : u_T := fun k => match k with
  | _ => ("", "", "", false)
def tyJ3 : Nat → FieldType := fun k => match k with
  | _ => .int
abbrev wsJ30 : List Cond := u_ws RJ3 TJ3 0
theorem nmJ3 : ∀ a, a < 0 → ∀ b, b < 0 → a ≠ b → (TJ3 a).2.1 ≠ (TJ3 b).2.1 := by decide +kernel
theorem tyJ3_ok : ∀ k, k < 0 → parseFieldDescriptor (TJ3 k).2.2.1 = some (tyJ3 k) := by decide +kernel
abbrev cJ3_checkIndex_8e157 : ByteArray := prog_43_method_11_code
def yJ3_checkIndex_8e157 : MethodName := ⟨RJ3, "checkIndex", "(IILjava/util/function/BiFunction;)I"⟩
abbrev cJ3_checkFromToIndex_8c36e : ByteArray := prog_43_method_12_code
def yJ3_checkFromToIndex_8c36e : MethodName := ⟨RJ3, "checkFromToIndex", "(IIILjava/util/function/BiFunction;)I"⟩
abbrev cJ3_checkFromIndexSize_8c36e : ByteArray := prog_43_method_13_code
def yJ3_checkFromIndexSize_8c36e : MethodName := ⟨RJ3, "checkFromIndexSize", "(IIILjava/util/function/BiFunction;)I"⟩
def RL : String := "BellObservatoryLaw"
abbrev cL_cell : ByteArray := method_2_code
def yL_cell : MethodName := ⟨RL, "cell", "([II)I"⟩
abbrev cL_house : ByteArray := method_3_code
def yL_house : MethodName := ⟨RL, "house", "(LBellObservatory;III)I"⟩
abbrev cL_goAway : ByteArray := method_4_code
def yL_goAway : MethodName := ⟨RL, "goAway", "(LBellObservatory;I)I"⟩
abbrev cL_block : ByteArray := method_5_code
def yL_block : MethodName := ⟨RL, "block", "(LBellObservatory;I)I"⟩
abbrev cL_hall : ByteArray := method_6_code
def yL_hall : MethodName := ⟨RL, "hall", "(LBellObservatory;III)I"⟩
abbrev cL_dropHall : ByteArray := method_7_code
def yL_dropHall : MethodName := ⟨RL, "dropHall", "(LBellObservatory;I)I"⟩
abbrev cL_pass : ByteArray := method_8_code
def yL_pass : MethodName := ⟨RL, "pass", "(LBellObservatory;I)I"⟩
abbrev cL_of : ByteArray := method_9_code
def yL_of : MethodName := ⟨RL, "of", "(LBellObservatory;II)I"⟩
abbrev cL_asleep : ByteArray := method_10_code
def yL_asleep : MethodName := ⟨RL, "asleep", "(LBellObservatory;IZ)I"⟩
abbrev cL_deepest : ByteArray := method_11_code
def yL_deepest : MethodName := ⟨RL, "deepest", "(LBellObservatory;)I"⟩
abbrev cL_ring : ByteArray := method_12_code
def yL_ring : MethodName := ⟨RL, "ring", "(LBellObservatory;III)I"⟩
abbrev cL_classOf : ByteArray := method_13_code
def yL_classOf : MethodName := ⟨RL, "classOf", "(LBellObservatory;IIII)I"⟩
abbrev cL_echo : ByteArray := method_14_code
def yL_echo : MethodName := ⟨RL, "echo", "(LBellObservatory;III)I"⟩
abbrev cL_heard : ByteArray := method_15_code
def yL_heard : MethodName := ⟨RL, "heard", "(LBellObservatory;III)I"⟩
abbrev cL_rings : ByteArray := method_16_code
def yL_rings : MethodName := ⟨RL, "rings", "(LBellObservatory;I)I"⟩
abbrev cL_post : ByteArray := method_17_code
def yL_post : MethodName := ⟨RL, "post", "(LBellObservatory;I)I"⟩
abbrev cL_dropPost : ByteArray := method_18_code
def yL_dropPost : MethodName := ⟨RL, "dropPost", "(LBellObservatory;I)I"⟩
abbrev cL_tell : ByteArray := method_19_code
def yL_tell : MethodName := ⟨RL, "tell", "(LBellObservatory;II)I"⟩
abbrev cL_postOf : ByteArray := method_20_code
def yL_postOf : MethodName := ⟨RL, "postOf", "(LBellObservatory;II)I"⟩
abbrev cL_fits : ByteArray := method_21_code
def yL_fits : MethodName := ⟨RL, "fits", "(LBellObservatory;I)I"⟩
abbrev cL_fitting : ByteArray := method_22_code
def yL_fitting : MethodName := ⟨RL, "fitting", "(LBellObservatory;Z)I"⟩
abbrev cL_fix : ByteArray := method_23_code
def yL_fix : MethodName := ⟨RL, "fix", "(LBellObservatory;I)I"⟩
abbrev cL_apart : ByteArray := method_24_code
def yL_apart : MethodName := ⟨RL, "apart", "(LBellObservatory;II)I"⟩
abbrev cL_way : ByteArray := method_25_code
def yL_way : MethodName := ⟨RL, "way", "(LBellObservatory;IIZ)I"⟩
abbrev cL_round : ByteArray := method_26_code
def yL_round : MethodName := ⟨RL, "round", "(LBellObservatory;I)I"⟩
abbrev cL_ranked : ByteArray := method_27_code
def yL_ranked : MethodName := ⟨RL, "ranked", "(LBellObservatory;I)I"⟩
abbrev cL_line : ByteArray := method_28_code
def yL_line : MethodName := ⟨RL, "line", "(LBellObservatory;I)I"⟩
abbrev cL_houseLine : ByteArray := method_29_code
def yL_houseLine : MethodName := ⟨RL, "houseLine", "(LBellObservatory;I)I"⟩
abbrev cL_character : ByteArray := method_30_code
def yL_character : MethodName := ⟨RL, "character", "(LBellObservatory;I)I"⟩
abbrev cL_append : ByteArray := method_31_code
def yL_append : MethodName := ⟨RL, "append", "(LBellObservatory;C)I"⟩
abbrev cL_runs : ByteArray := method_32_code
def yL_runs : MethodName := ⟨RL, "runs", "(LBellObservatory;)I"⟩
abbrev cL_refusal : ByteArray := method_33_code
def yL_refusal : MethodName := ⟨RL, "refusal", "(LBellObservatory;Z)I"⟩
abbrev cL_undo : ByteArray := method_34_code
def yL_undo : MethodName := ⟨RL, "undo", "(LBellObservatory;)I"⟩
abbrev cL_run : ByteArray := method_35_code
def yL_run : MethodName := ⟨RL, "run", "(LBellObservatory;Ljava/lang/String;)I"⟩
abbrev cL_drawn : ByteArray := method_36_code
def yL_drawn : MethodName := ⟨RL, "drawn", "([I[Z)LBellObservatory;"⟩
abbrev cL_sleeps : ByteArray := method_37_code
def yL_sleeps : MethodName := ⟨RL, "sleeps", "(LBellObservatory;II)Z"⟩
abbrev cL_far : ByteArray := method_38_code
def yL_far : MethodName := ⟨RL, "far", "(II)I"⟩
abbrev cL_kind : ByteArray := method_39_code
def yL_kind : MethodName := ⟨RL, "kind", "(LBellObservatory;IIII)I"⟩
abbrev cL_areInHall : ByteArray := method_40_code
def yL_areInHall : MethodName := ⟨RL, "areInHall", "(LBellObservatory;II)Z"⟩
abbrev cL_law : ByteArray := code
def yL_law : MethodName := ⟨RL, "law", "([I)Z"⟩
abbrev cL_slept : ByteArray := method_42_code
def yL_slept : MethodName := ⟨RL, "slept", "(LBellObservatory;)Z"⟩
abbrev cL_rung : ByteArray := method_43_code
def yL_rung : MethodName := ⟨RL, "rung", "([ILBellObservatory;)Z"⟩
abbrev cL_looked : ByteArray := method_44_code
def yL_looked : MethodName := ⟨RL, "looked", "(LBellObservatory;[Z)Z"⟩
abbrev cL_steps : ByteArray := method_45_code
def yL_steps : MethodName := ⟨RL, "steps", "(I[Z)[I"⟩
abbrev cL_gone : ByteArray := method_46_code
def yL_gone : MethodName := ⟨RL, "gone", "([ILBellObservatory;[Z)Z"⟩
abbrev cL_spells : ByteArray := method_47_code
def yL_spells : MethodName := ⟨RL, "spells", "(LBellObservatory;ILjava/lang/String;)Z"⟩
abbrev cL_lines : ByteArray := method_48_code
def yL_lines : MethodName := ⟨RL, "lines", "(LBellObservatory;[Z)Z"⟩
abbrev cL_sum : ByteArray := method_49_code
def yL_sum : MethodName := ⟨RL, "sum", "(LBellObservatory;)J"⟩
abbrev cL_undone : ByteArray := method_50_code
def yL_undone : MethodName := ⟨RL, "undone", "([ILBellObservatory;)Z"⟩
abbrev vwCl : List vw_C := [(RJ0, TJ0, 4), (RJx00060, TJx00060, 6), (RX1, TX1, 4), (RX2, TX2, 6), (RX3, TX3, 7), (RX4, TX4, 3), (RX5, TX5, 3), (RX6, TX6, 2), (RX8, TX8, 2), (RX9, TX9, 11), (RX10, TX10, 6), (RX11, TX11, 9), (RJ4, TJ4, 4)]
/-- all the words of the tables that a callee may be handed -/
def lw_all : List Cond := lw_tbl.filter goodWord
abbrev wA (c : Cond) : List Cond := c :: lw_all
theorem lw_m {w : Cond} (h : w ∈ lw_tbl) (hg : goodWord w = true) : w ∈ lw_all := List.mem_filter.mpr ⟨h, hg⟩
theorem lw_good : ∀ w ∈ lw_all, goodWord w = true := fun _ h => (List.mem_filter.mp h).2
theorem lw_in : ∀ w ∈ lw_all, w ∈ lw_tbl := fun _ h => (List.mem_filter.mp h).1
theorem lw_i1 {w : Cond} (h : w ∈ tables_1_1) : w ∈ lw_tbl := List.mem_append_right _ (show w ∈ tables_1 from List.mem_append_left _ h)
theorem lw_i2 {w : Cond} (h : w ∈ tables_1_2) : w ∈ lw_tbl := List.mem_append_right _ (show w ∈ tables_1 from List.mem_append_right _ (List.mem_append_left _ h))
theorem lw_i3 {w : Cond} (h : w ∈ tables_1_3) : w ∈ lw_tbl := List.mem_append_right _ (show w ∈ tables_1 from List.mem_append_right _ (List.mem_append_right _ (List.mem_append_left _ h)))
theorem lw_i4 {w : Cond} (h : w ∈ tables_1_4) : w ∈ lw_tbl := List.mem_append_right _ (show w ∈ tables_1 from List.mem_append_right _ (List.mem_append_right _ (List.mem_append_right _ (List.mem_append_left _ h))))
theorem lw_i5 {w : Cond} (h : w ∈ tables_1_5) : w ∈ lw_tbl := List.mem_append_right _ (show w ∈ tables_1 from List.mem_append_right _ (List.mem_append_right _ (List.mem_append_right _ (List.mem_append_right _ (List.mem_append_left _ h)))))
theorem lw_i6 {w : Cond} (h : w ∈ tables_1_6) : w ∈ lw_tbl := List.mem_append_right _ (show w ∈ tables_1 from List.mem_append_right _ (List.mem_append_right _ (List.mem_append_right _ (List.mem_append_right _ (List.mem_append_right _ (List.mem_append_left _ h))))))
theorem lw_i7 {w : Cond} (h : w ∈ tables_1_7) : w ∈ lw_tbl := List.mem_append_right _ (show w ∈ tables_1 from List.mem_append_right _ (List.mem_append_right _ (List.mem_append_right _ (List.mem_append_right _ (List.mem_append_right _ (List.mem_append_right _ (List.mem_append_left _ h)))))))
theorem lw_i8 {w : Cond} (h : w ∈ tables_1_8) : w ∈ lw_tbl := List.mem_append_right _ (show w ∈ tables_1 from List.mem_append_right _ (List.mem_append_right _ (List.mem_append_right _ (List.mem_append_right _ (List.mem_append_right _ (List.mem_append_right _ (List.mem_append_right _ (h))))))))
theorem lw_i0 {w : Cond} (h : w ∈ k2_sels lw_privs) : w ∈ lw_tbl := List.mem_append_left _ h
