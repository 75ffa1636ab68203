-- ===== PART A: goes FIRST, ahead of the names: the tables' words, and 'selects' of the private methods out of them =====
/-- a private method of a class that the tables say can be made, by its rows of tables_1 -/
def lw_okq (q : MethodName × Nat) : Prop := (q.1.cls ≠ "java/lang/invoke/MethodHandle" ∧ q.1.cls ≠ "java/lang/invoke/VarHandle") ∧ Cond.instantiable q.1.cls q.2 ∈ tables_1 ∧ Cond.privateMethod q.1 ∈ tables_1 ∧ Cond.instanceMethod q.1 ∈ tables_1
theorem lw_p0 : lw_okq (⟨"KilnKeeper", "beginChange", "()V"⟩, 9) := ⟨⟨by decide +kernel, by decide +kernel⟩, List.mem_of_getElem? (i := 27) (by decide +kernel), List.mem_of_getElem? (i := 371) (by decide +kernel), List.mem_of_getElem? (i := 372) (by decide +kernel)⟩
theorem lw_p1 : lw_okq (⟨"KilnKeeper", "endChange", "(I)I"⟩, 9) := ⟨⟨by decide +kernel, by decide +kernel⟩, List.mem_of_getElem? (i := 27) (by decide +kernel), List.mem_of_getElem? (i := 414) (by decide +kernel), List.mem_of_getElem? (i := 415) (by decide +kernel)⟩
theorem lw_p2 : lw_okq (⟨"KilnKeeper$Changes", "kilnAt", "(I)LKilnKeeper$Kiln;"⟩, 3) := ⟨⟨by decide +kernel, by decide +kernel⟩, List.mem_of_getElem? (i := 193) (by decide +kernel), List.mem_of_getElem? (i := 422) (by decide +kernel), List.mem_of_getElem? (i := 423) (by decide +kernel)⟩
theorem lw_p3 : lw_okq (⟨"KilnKeeper$LagRow", "shiftBy", "(I)V"⟩, 2) := ⟨⟨by decide +kernel, by decide +kernel⟩, List.mem_of_getElem? (i := 68) (by decide +kernel), List.mem_of_getElem? (i := 460) (by decide +kernel), List.mem_of_getElem? (i := 461) (by decide +kernel)⟩
theorem lw_p4 : lw_okq (⟨"KilnKeeper$Reader", "readOrder", "(ILKilnKeeper$Order;)I"⟩, 2) := ⟨⟨by decide +kernel, by decide +kernel⟩, List.mem_of_getElem? (i := 226) (by decide +kernel), List.mem_of_getElem? (i := 778) (by decide +kernel), List.mem_of_getElem? (i := 779) (by decide +kernel)⟩
theorem lw_p5 : lw_okq (⟨"KilnKeeper$Reader", "readForm", "(LKilnKeeper$Word;ILKilnKeeper$Order;)I"⟩, 2) := ⟨⟨by decide +kernel, by decide +kernel⟩, List.mem_of_getElem? (i := 226) (by decide +kernel), List.mem_of_getElem? (i := 784) (by decide +kernel), List.mem_of_getElem? (i := 785) (by decide +kernel)⟩
theorem lw_p6 : lw_okq (⟨"KilnKeeper$Reader", "endOfDigits", "(II)I"⟩, 2) := ⟨⟨by decide +kernel, by decide +kernel⟩, List.mem_of_getElem? (i := 226) (by decide +kernel), List.mem_of_getElem? (i := 793) (by decide +kernel), List.mem_of_getElem? (i := 794) (by decide +kernel)⟩
theorem lw_p7 : lw_okq (⟨"KilnKeeper$Reader", "digitAt", "(I)I"⟩, 2) := ⟨⟨by decide +kernel, by decide +kernel⟩, List.mem_of_getElem? (i := 226) (by decide +kernel), List.mem_of_getElem? (i := 797) (by decide +kernel), List.mem_of_getElem? (i := 798) (by decide +kernel)⟩
theorem lw_p8 : lw_okq (⟨"KilnKeeper$Reader", "numberFrom", "(II)I"⟩, 2) := ⟨⟨by decide +kernel, by decide +kernel⟩, List.mem_of_getElem? (i := 226) (by decide +kernel), List.mem_of_getElem? (i := 811) (by decide +kernel), List.mem_of_getElem? (i := 812) (by decide +kernel)⟩
theorem lw_p9 : lw_okq (⟨"KilnKeeper$Reader", "isSignAt", "(IC)Z"⟩, 2) := ⟨⟨by decide +kernel, by decide +kernel⟩, List.mem_of_getElem? (i := 226) (by decide +kernel), List.mem_of_getElem? (i := 816) (by decide +kernel), List.mem_of_getElem? (i := 817) (by decide +kernel)⟩
theorem lw_p10 : lw_okq (⟨"KilnKeeper", "carryOut", "(LKilnKeeper$Order;)I"⟩, 9) := ⟨⟨by decide +kernel, by decide +kernel⟩, List.mem_of_getElem? (i := 27) (by decide +kernel), List.mem_of_getElem? (i := 849) (by decide +kernel), List.mem_of_getElem? (i := 850) (by decide +kernel)⟩
theorem lw_p11 : lw_okq (⟨"KilnKeeper$Regulator", "sumWith", "(I)I"⟩, 6) := ⟨⟨by decide +kernel, by decide +kernel⟩, List.mem_of_getElem? (i := 41) (by decide +kernel), List.mem_of_getElem? (i := 874) (by decide +kernel), List.mem_of_getElem? (i := 875) (by decide +kernel)⟩
theorem lw_p12 : lw_okq (⟨"KilnKeeper", "tryMinutes", "(I)LKilnKeeper$Kiln;"⟩, 9) := ⟨⟨by decide +kernel, by decide +kernel⟩, List.mem_of_getElem? (i := 27) (by decide +kernel), List.mem_of_getElem? (i := 926) (by decide +kernel), List.mem_of_getElem? (i := 927) (by decide +kernel)⟩
theorem lw_p13 : lw_okq (⟨"KilnKeeper$Rack", "countAheadOf", "(I)I"⟩, 2) := ⟨⟨by decide +kernel, by decide +kernel⟩, List.mem_of_getElem? (i := 114) (by decide +kernel), List.mem_of_getElem? (i := 1030) (by decide +kernel), List.mem_of_getElem? (i := 1031) (by decide +kernel)⟩
def lw_privs_1 : List (MethodName × Nat) := [(⟨"KilnKeeper", "beginChange", "()V"⟩, 9), (⟨"KilnKeeper", "endChange", "(I)I"⟩, 9), (⟨"KilnKeeper$Changes", "kilnAt", "(I)LKilnKeeper$Kiln;"⟩, 3), (⟨"KilnKeeper$LagRow", "shiftBy", "(I)V"⟩, 2), (⟨"KilnKeeper$Reader", "readOrder", "(ILKilnKeeper$Order;)I"⟩, 2), (⟨"KilnKeeper$Reader", "readForm", "(LKilnKeeper$Word;ILKilnKeeper$Order;)I"⟩, 2), (⟨"KilnKeeper$Reader", "endOfDigits", "(II)I"⟩, 2), (⟨"KilnKeeper$Reader", "digitAt", "(I)I"⟩, 2), (⟨"KilnKeeper$Reader", "numberFrom", "(II)I"⟩, 2), (⟨"KilnKeeper$Reader", "isSignAt", "(IC)Z"⟩, 2), (⟨"KilnKeeper", "carryOut", "(LKilnKeeper$Order;)I"⟩, 9), (⟨"KilnKeeper$Regulator", "sumWith", "(I)I"⟩, 6), (⟨"KilnKeeper", "tryMinutes", "(I)LKilnKeeper$Kiln;"⟩, 9), (⟨"KilnKeeper$Rack", "countAheadOf", "(I)I"⟩, 2)]
theorem lw_r1 : ∀ q ∈ lw_privs_1, lw_okq q := List.forall_mem_cons.mpr ⟨lw_p0, List.forall_mem_cons.mpr ⟨lw_p1, List.forall_mem_cons.mpr ⟨lw_p2, List.forall_mem_cons.mpr ⟨lw_p3, List.forall_mem_cons.mpr ⟨lw_p4, List.forall_mem_cons.mpr ⟨lw_p5, List.forall_mem_cons.mpr ⟨lw_p6, List.forall_mem_cons.mpr ⟨lw_p7, List.forall_mem_cons.mpr ⟨lw_p8, List.forall_mem_cons.mpr ⟨lw_p9, List.forall_mem_cons.mpr ⟨lw_p10, List.forall_mem_cons.mpr ⟨lw_p11, List.forall_mem_cons.mpr ⟨lw_p12, List.forall_mem_cons.mpr ⟨lw_p13, fun _ h => absurd h List.not_mem_nil⟩⟩⟩⟩⟩⟩⟩⟩⟩⟩⟩⟩⟩⟩
def lw_privs : List (MethodName × Nat) := lw_privs_1
def lw_tbl : List Cond := k2_sels lw_privs ++ tables_1
theorem lw_privs_ok : ∀ q ∈ lw_privs, lw_okq q := lw_r1
/-- the streams that the claim lets the run draw from -/
abbrev lw_cs : List Choice := [Jvm.Choice.named "NaN.bits"]
theorem lw_bits : nanBits ∈ lw_cs := by first | decide | exact List.mem_cons_self | simp [lw_cs, nanBits]
def RX0 : String := "KilnKeeper$1"
def TX0 : u_T := fun k => match k with
  | _ => ("", "", "", false)
def tyX0 : Nat → FieldType := fun k => match k with
  | _ => .int
theorem nmX0 : ∀ a, a < 0 → ∀ b, b < 0 → a ≠ b → (TX0 a).2.1 ≠ (TX0 b).2.1 := by decide +kernel
theorem tyX0_ok : ∀ k, k < 0 → parseFieldDescriptor (TX0 k).2.2.1 = some (tyX0 k) := by decide +kernel
def RX1 : String := "KilnKeeper$Book"
def TX1 : u_T := fun k => match k with
  | 0 => ("KilnKeeper$Book", "minutes", "I", false)
  | 1 => ("KilnKeeper$Book", "fuelLeft", "I", false)
  | 2 => ("KilnKeeper$Book", "fuelThatCame", "I", false)
  | 3 => ("KilnKeeper$Book", "burntFuel", "I", false)
  | 4 => ("KilnKeeper$Book", "amounts", "[I", true)
  | _ => ("KilnKeeper$Book", "log", "[I", true)
def tyX1 : Nat → FieldType := fun k => match k with
  | 0 => .int
  | 1 => .int
  | 2 => .int
  | 3 => .int
  | 4 => .array .int
  | _ => .array .int
theorem nmX1 : ∀ a, a < 6 → ∀ b, b < 6 → a ≠ b → (TX1 a).2.1 ≠ (TX1 b).2.1 := by decide +kernel
theorem tyX1_ok : ∀ k, k < 6 → parseFieldDescriptor (TX1 k).2.2.1 = some (tyX1 k) := by decide +kernel
abbrev cX1_init : ByteArray := prog_3_method_1_code
def yX1_init : MethodName := ⟨RX1, "<init>", "()V"⟩
abbrev cX1_copyFrom : ByteArray := prog_3_method_2_code
def yX1_copyFrom : MethodName := ⟨RX1, "copyFrom", "(LKilnKeeper$Book;)V"⟩
abbrev cX1_addFuel : ByteArray := prog_3_method_3_code
def yX1_addFuel : MethodName := ⟨RX1, "addFuel", "(I)I"⟩
abbrev cX1_burn : ByteArray := prog_3_method_4_code
def yX1_burn : MethodName := ⟨RX1, "burn", "(I)I"⟩
abbrev cX1_logMinute : ByteArray := prog_3_method_5_code
def yX1_logMinute : MethodName := ⟨RX1, "logMinute", "(IIII)V"⟩
abbrev cX1_loggedNumber : ByteArray := prog_3_method_6_code
def yX1_loggedNumber : MethodName := ⟨RX1, "loggedNumber", "(II)I"⟩
abbrev cX1_burntByAmounts : ByteArray := prog_3_method_7_code
def yX1_burntByAmounts : MethodName := ⟨RX1, "burntByAmounts", "()I"⟩
abbrev cX1_isInBalance : ByteArray := prog_3_method_8_code
def yX1_isInBalance : MethodName := ⟨RX1, "isInBalance", "()Z"⟩
abbrev cX1_logStart : ByteArray := prog_3_method_9_code
def yX1_logStart : MethodName := ⟨RX1, "logStart", "(I)I"⟩
def RX2 : String := "KilnKeeper$Changes"
def TX2 : u_T := fun k => match k with
  | 0 => ("KilnKeeper$Changes", "count", "I", false)
  | 1 => ("KilnKeeper$Changes", "start", "I", false)
  | _ => ("KilnKeeper$Changes", "kilns", "[LKilnKeeper$Kiln;", true)
def tyX2 : Nat → FieldType := fun k => match k with
  | 0 => .int
  | 1 => .int
  | _ => .array (.object "KilnKeeper$Kiln")
theorem nmX2 : ∀ a, a < 3 → ∀ b, b < 3 → a ≠ b → (TX2 a).2.1 ≠ (TX2 b).2.1 := by decide +kernel
theorem tyX2_ok : ∀ k, k < 3 → parseFieldDescriptor (TX2 k).2.2.1 = some (tyX2 k) := by decide +kernel
abbrev cX2_init : ByteArray := prog_4_method_1_code
def yX2_init : MethodName := ⟨RX2, "<init>", "()V"⟩
abbrev cX2_keep : ByteArray := prog_4_method_2_code
def yX2_keep : MethodName := ⟨RX2, "keep", "(LKilnKeeper$Kiln;)V"⟩
abbrev cX2_takeBack : ByteArray := prog_4_method_3_code
def yX2_takeBack : MethodName := ⟨RX2, "takeBack", "(LKilnKeeper$Kiln;)I"⟩
abbrev cX2_kilnAt : ByteArray := prog_4_method_4_code
def yX2_kilnAt : MethodName := ⟨RX2, "kilnAt", "(I)LKilnKeeper$Kiln;"⟩
def RX3 : String := "KilnKeeper$Kiln"
def TX3 : u_T := fun k => match k with
  | 0 => ("KilnKeeper$Kiln", "degrees", "I", false)
  | 1 => ("KilnKeeper$Kiln", "aimedDegrees", "I", false)
  | 2 => ("KilnKeeper$Kiln", "overshoot", "I", false)
  | 3 => ("KilnKeeper$Kiln", "damper", "I", false)
  | 4 => ("KilnKeeper$Kiln", "regulator", "LKilnKeeper$Regulator;", true)
  | 5 => ("KilnKeeper$Kiln", "lagRow", "LKilnKeeper$LagRow;", true)
  | 6 => ("KilnKeeper$Kiln", "book", "LKilnKeeper$Book;", true)
  | _ => ("KilnKeeper$Kiln", "rack", "LKilnKeeper$Rack;", true)
def tyX3 : Nat → FieldType := fun k => match k with
  | 0 => .int
  | 1 => .int
  | 2 => .int
  | 3 => .int
  | 4 => .object "KilnKeeper$Regulator"
  | 5 => .object "KilnKeeper$LagRow"
  | 6 => .object "KilnKeeper$Book"
  | _ => .object "KilnKeeper$Rack"
theorem nmX3 : ∀ a, a < 8 → ∀ b, b < 8 → a ≠ b → (TX3 a).2.1 ≠ (TX3 b).2.1 := by decide +kernel
theorem tyX3_ok : ∀ k, k < 8 → parseFieldDescriptor (TX3 k).2.2.1 = some (tyX3 k) := by decide +kernel
abbrev cX3_init : ByteArray := prog_5_method_1_code
def yX3_init : MethodName := ⟨RX3, "<init>", "()V"⟩
abbrev cX3_copyFrom : ByteArray := prog_5_method_2_code
def yX3_copyFrom : MethodName := ⟨RX3, "copyFrom", "(LKilnKeeper$Kiln;)V"⟩
abbrev cX3_error : ByteArray := prog_5_method_3_code
def yX3_error : MethodName := ⟨RX3, "error", "()I"⟩
abbrev cX3_aimAt : ByteArray := prog_5_method_4_code
def yX3_aimAt : MethodName := ⟨RX3, "aimAt", "(ILKilnKeeper$Refusal;)I"⟩
abbrev cX3_tellLag : ByteArray := prog_5_method_5_code
def yX3_tellLag : MethodName := ⟨RX3, "tellLag", "(ILKilnKeeper$Refusal;)I"⟩
abbrev cX3_letGo : ByteArray := prog_5_method_6_code
def yX3_letGo : MethodName := ⟨RX3, "letGo", "(I)I"⟩
abbrev cX3_passMinute : ByteArray := prog_5_method_7_code
def yX3_passMinute : MethodName := ⟨RX3, "passMinute", "()V"⟩
abbrev cX3_write : ByteArray := prog_5_method_8_code
def yX3_write : MethodName := ⟨RX3, "write", "(Ljava/lang/StringBuilder;)V"⟩
abbrev cX3_accountOf : ByteArray := prog_5_method_9_code
def yX3_accountOf : MethodName := ⟨RX3, "accountOf", "(I)I"⟩
def RX4 : String := "KilnKeeper$LagRow"
def TX4 : u_T := fun k => match k with
  | 0 => ("KilnKeeper$LagRow", "length", "I", false)
  | _ => ("KilnKeeper$LagRow", "dampers", "[I", true)
def tyX4 : Nat → FieldType := fun k => match k with
  | 0 => .int
  | _ => .array .int
theorem nmX4 : ∀ a, a < 2 → ∀ b, b < 2 → a ≠ b → (TX4 a).2.1 ≠ (TX4 b).2.1 := by decide +kernel
theorem tyX4_ok : ∀ k, k < 2 → parseFieldDescriptor (TX4 k).2.2.1 = some (tyX4 k) := by decide +kernel
abbrev cX4_init : ByteArray := prog_6_method_1_code
def yX4_init : MethodName := ⟨RX4, "<init>", "()V"⟩
abbrev cX4_copyFrom : ByteArray := prog_6_method_2_code
def yX4_copyFrom : MethodName := ⟨RX4, "copyFrom", "(LKilnKeeper$LagRow;)V"⟩
abbrev cX4_passThrough : ByteArray := prog_6_method_3_code
def yX4_passThrough : MethodName := ⟨RX4, "passThrough", "(I)I"⟩
abbrev cX4_resize : ByteArray := prog_6_method_4_code
def yX4_resize : MethodName := ⟨RX4, "resize", "(II)V"⟩
abbrev cX4_write : ByteArray := prog_6_method_5_code
def yX4_write : MethodName := ⟨RX4, "write", "(Ljava/lang/StringBuilder;)V"⟩
abbrev cX4_shiftBy : ByteArray := prog_6_method_6_code
def yX4_shiftBy : MethodName := ⟨RX4, "shiftBy", "(I)V"⟩
def RX5 : String := "KilnKeeper$Order"
def TX5 : u_T := fun k => match k with
  | 0 => ("KilnKeeper$Order", "word", "LKilnKeeper$Word;", false)
  | _ => ("KilnKeeper$Order", "numbers", "[I", true)
def tyX5 : Nat → FieldType := fun k => match k with
  | 0 => .object "KilnKeeper$Word"
  | _ => .array .int
theorem nmX5 : ∀ a, a < 2 → ∀ b, b < 2 → a ≠ b → (TX5 a).2.1 ≠ (TX5 b).2.1 := by decide +kernel
theorem tyX5_ok : ∀ k, k < 2 → parseFieldDescriptor (TX5 k).2.2.1 = some (tyX5 k) := by decide +kernel
abbrev cX5_init : ByteArray := prog_7_method_1_code
def yX5_init : MethodName := ⟨RX5, "<init>", "()V"⟩
def RX6 : String := "KilnKeeper$Pot"
def TX6 : u_T := fun k => match k with
  | 0 => ("KilnKeeper$Pot", "shock", "I", false)
  | 1 => ("KilnKeeper$Pot", "needed", "I", false)
  | 2 => ("KilnKeeper$Pot", "soaking", "I", false)
  | 3 => ("KilnKeeper$Pot", "state", "I", false)
  | 4 => ("KilnKeeper$Pot", "soaked", "I", false)
  | 5 => ("KilnKeeper$Pot", "isWithin", "Z", false)
  | _ => ("KilnKeeper$Pot", "mostJump", "I", false)
def tyX6 : Nat → FieldType := fun k => match k with
  | 0 => .int
  | 1 => .int
  | 2 => .int
  | 3 => .int
  | 4 => .int
  | 5 => .boolean
  | _ => .int
theorem nmX6 : ∀ a, a < 7 → ∀ b, b < 7 → a ≠ b → (TX6 a).2.1 ≠ (TX6 b).2.1 := by decide +kernel
theorem tyX6_ok : ∀ k, k < 7 → parseFieldDescriptor (TX6 k).2.2.1 = some (tyX6 k) := by decide +kernel
abbrev cX6_init : ByteArray := prog_8_method_1_code
def yX6_init : MethodName := ⟨RX6, "<init>", "()V"⟩
abbrev cX6_copyFrom : ByteArray := prog_8_method_2_code
def yX6_copyFrom : MethodName := ⟨RX6, "copyFrom", "(LKilnKeeper$Pot;)V"⟩
abbrev cX6_begin : ByteArray := prog_8_method_3_code
def yX6_begin : MethodName := ⟨RX6, "begin", "(III)V"⟩
abbrev cX6_passMinute : ByteArray := prog_8_method_4_code
def yX6_passMinute : MethodName := ⟨RX6, "passMinute", "(II)V"⟩
abbrev cX6_isAheadOf : ByteArray := prog_8_method_5_code
def yX6_isAheadOf : MethodName := ⟨RX6, "isAheadOf", "(LKilnKeeper$Pot;)Z"⟩
abbrev cX6_number : ByteArray := prog_8_method_6_code
def yX6_number : MethodName := ⟨RX6, "number", "(I)I"⟩
def RX7 : String := "KilnKeeper$Rack"
def TX7 : u_T := fun k => match k with
  | 0 => ("KilnKeeper$Rack", "count", "I", false)
  | _ => ("KilnKeeper$Rack", "pots", "[LKilnKeeper$Pot;", true)
def tyX7 : Nat → FieldType := fun k => match k with
  | 0 => .int
  | _ => .array (.object "KilnKeeper$Pot")
theorem nmX7 : ∀ a, a < 2 → ∀ b, b < 2 → a ≠ b → (TX7 a).2.1 ≠ (TX7 b).2.1 := by decide +kernel
theorem tyX7_ok : ∀ k, k < 2 → parseFieldDescriptor (TX7 k).2.2.1 = some (tyX7 k) := by decide +kernel
abbrev cX7_init : ByteArray := prog_9_method_1_code
def yX7_init : MethodName := ⟨RX7, "<init>", "()V"⟩
abbrev cX7_copyFrom : ByteArray := prog_9_method_2_code
def yX7_copyFrom : MethodName := ⟨RX7, "copyFrom", "(LKilnKeeper$Rack;)V"⟩
abbrev cX7_find : ByteArray := prog_9_method_3_code
def yX7_find : MethodName := ⟨RX7, "find", "(I)LKilnKeeper$Pot;"⟩
abbrev cX7_addPot : ByteArray := prog_9_method_4_code
def yX7_addPot : MethodName := ⟨RX7, "addPot", "(IIILKilnKeeper$Refusal;)I"⟩
abbrev cX7_bringIn : ByteArray := prog_9_method_5_code
def yX7_bringIn : MethodName := ⟨RX7, "bringIn", "(IILKilnKeeper$Refusal;)I"⟩
abbrev cX7_bringOut : ByteArray := prog_9_method_6_code
def yX7_bringOut : MethodName := ⟨RX7, "bringOut", "(IILKilnKeeper$Refusal;)I"⟩
abbrev cX7_passMinute : ByteArray := prog_9_method_7_code
def yX7_passMinute : MethodName := ⟨RX7, "passMinute", "(II)V"⟩
abbrev cX7_potAtPlace : ByteArray := prog_9_method_8_code
def yX7_potAtPlace : MethodName := ⟨RX7, "potAtPlace", "(I)I"⟩
abbrev cX7_countAheadOf : ByteArray := prog_9_method_9_code
def yX7_countAheadOf : MethodName := ⟨RX7, "countAheadOf", "(I)I"⟩
abbrev cX7_countOf : ByteArray := prog_9_method_10_code
def yX7_countOf : MethodName := ⟨RX7, "countOf", "(I)I"⟩
abbrev cX7_countWithin : ByteArray := prog_9_method_11_code
def yX7_countWithin : MethodName := ⟨RX7, "countWithin", "()I"⟩
abbrev cX7_crackedSet : ByteArray := prog_9_method_12_code
def yX7_crackedSet : MethodName := ⟨RX7, "crackedSet", "()I"⟩
abbrev cX7_isNoneSoakedTooLong : ByteArray := prog_9_method_13_code
def yX7_isNoneSoakedTooLong : MethodName := ⟨RX7, "isNoneSoakedTooLong", "()Z"⟩
def RX8 : String := "KilnKeeper$Reader"
def TX8 : u_T := fun k => match k with
  | 0 => ("KilnKeeper$Reader", "text", "Ljava/lang/StringBuilder;", true)
  | _ => ("KilnKeeper$Reader", "orders", "[LKilnKeeper$Order;", true)
def tyX8 : Nat → FieldType := fun k => match k with
  | 0 => .object "java/lang/StringBuilder"
  | _ => .array (.object "KilnKeeper$Order")
theorem nmX8 : ∀ a, a < 2 → ∀ b, b < 2 → a ≠ b → (TX8 a).2.1 ≠ (TX8 b).2.1 := by decide +kernel
theorem tyX8_ok : ∀ k, k < 2 → parseFieldDescriptor (TX8 k).2.2.1 = some (tyX8 k) := by decide +kernel
abbrev cX8_init : ByteArray := prog_10_method_1_code
def yX8_init : MethodName := ⟨RX8, "<init>", "()V"⟩
abbrev cX8_textLength : ByteArray := prog_10_method_2_code
def yX8_textLength : MethodName := ⟨RX8, "textLength", "()I"⟩
abbrev cX8_clearText : ByteArray := prog_10_method_3_code
def yX8_clearText : MethodName := ⟨RX8, "clearText", "()V"⟩
abbrev cX8_addCode : ByteArray := prog_10_method_4_code
def yX8_addCode : MethodName := ⟨RX8, "addCode", "(I)I"⟩
abbrev cX8_orderAt : ByteArray := prog_10_method_5_code
def yX8_orderAt : MethodName := ⟨RX8, "orderAt", "(I)LKilnKeeper$Order;"⟩
abbrev cX8_read : ByteArray := prog_10_method_6_code
def yX8_read : MethodName := ⟨RX8, "read", "()I"⟩
abbrev cX8_readOrder : ByteArray := prog_10_method_7_code
def yX8_readOrder : MethodName := ⟨RX8, "readOrder", "(ILKilnKeeper$Order;)I"⟩
abbrev cX8_readForm : ByteArray := prog_10_method_8_code
def yX8_readForm : MethodName := ⟨RX8, "readForm", "(LKilnKeeper$Word;ILKilnKeeper$Order;)I"⟩
abbrev cX8_endOfDigits : ByteArray := prog_10_method_9_code
def yX8_endOfDigits : MethodName := ⟨RX8, "endOfDigits", "(II)I"⟩
abbrev cX8_numberFrom : ByteArray := prog_10_method_10_code
def yX8_numberFrom : MethodName := ⟨RX8, "numberFrom", "(II)I"⟩
abbrev cX8_digitAt : ByteArray := prog_10_method_11_code
def yX8_digitAt : MethodName := ⟨RX8, "digitAt", "(I)I"⟩
abbrev cX8_isSignAt : ByteArray := prog_10_method_12_code
def yX8_isSignAt : MethodName := ⟨RX8, "isSignAt", "(IC)Z"⟩
abbrev cX8_faultAt : ByteArray := prog_10_method_13_code
def yX8_faultAt : MethodName := ⟨RX8, "faultAt", "(I)I"⟩
abbrev cX8_placeOfFault : ByteArray := prog_10_method_14_code
def yX8_placeOfFault : MethodName := ⟨RX8, "placeOfFault", "(I)I"⟩
def RX9 : String := "KilnKeeper$Refusal"
def TX9 : u_T := fun k => match k with
  | 0 => ("KilnKeeper$Refusal", "cause", "I", false)
  | _ => ("KilnKeeper$Refusal", "detail", "I", false)
def tyX9 : Nat → FieldType := fun k => match k with
  | 0 => .int
  | _ => .int
theorem nmX9 : ∀ a, a < 2 → ∀ b, b < 2 → a ≠ b → (TX9 a).2.1 ≠ (TX9 b).2.1 := by decide +kernel
theorem tyX9_ok : ∀ k, k < 2 → parseFieldDescriptor (TX9 k).2.2.1 = some (tyX9 k) := by decide +kernel
abbrev cX9_init : ByteArray := prog_11_method_1_code
def yX9_init : MethodName := ⟨RX9, "<init>", "()V"⟩
abbrev cX9_because : ByteArray := prog_11_method_2_code
def yX9_because : MethodName := ⟨RX9, "because", "(II)I"⟩
def RX10 : String := "KilnKeeper$Regulator"
def TX10 : u_T := fun k => match k with
  | 0 => ("KilnKeeper$Regulator", "errorGain", "I", false)
  | 1 => ("KilnKeeper$Regulator", "sumGain", "I", false)
  | 2 => ("KilnKeeper$Regulator", "changeGain", "I", false)
  | 3 => ("KilnKeeper$Regulator", "cap", "I", false)
  | 4 => ("KilnKeeper$Regulator", "sum", "I", false)
  | _ => ("KilnKeeper$Regulator", "latestError", "I", false)
def tyX10 : Nat → FieldType := fun k => match k with
  | 0 => .int
  | 1 => .int
  | 2 => .int
  | 3 => .int
  | 4 => .int
  | _ => .int
theorem nmX10 : ∀ a, a < 6 → ∀ b, b < 6 → a ≠ b → (TX10 a).2.1 ≠ (TX10 b).2.1 := by decide +kernel
theorem tyX10_ok : ∀ k, k < 6 → parseFieldDescriptor (TX10 k).2.2.1 = some (tyX10 k) := by decide +kernel
abbrev cX10_init : ByteArray := prog_12_method_1_code
def yX10_init : MethodName := ⟨RX10, "<init>", "()V"⟩
abbrev cX10_copyFrom : ByteArray := prog_12_method_2_code
def yX10_copyFrom : MethodName := ⟨RX10, "copyFrom", "(LKilnKeeper$Regulator;)V"⟩
abbrev cX10_tellGains : ByteArray := prog_12_method_3_code
def yX10_tellGains : MethodName := ⟨RX10, "tellGains", "(III)I"⟩
abbrev cX10_tellCap : ByteArray := prog_12_method_4_code
def yX10_tellCap : MethodName := ⟨RX10, "tellCap", "(ILKilnKeeper$Refusal;)I"⟩
abbrev cX10_wantedDamper : ByteArray := prog_12_method_5_code
def yX10_wantedDamper : MethodName := ⟨RX10, "wantedDamper", "(I)I"⟩
abbrev cX10_noteError : ByteArray := prog_12_method_6_code
def yX10_noteError : MethodName := ⟨RX10, "noteError", "(I)V"⟩
abbrev cX10_sumWith : ByteArray := prog_12_method_7_code
def yX10_sumWith : MethodName := ⟨RX10, "sumWith", "(I)I"⟩
def RX11 : String := "KilnKeeper$Word"
def TX11 : u_T := fun k => match k with
  | _ => ("", "", "", false)
def tyX11 : Nat → FieldType := fun k => match k with
  | _ => .int
theorem nmX11 : ∀ a, a < 0 → ∀ b, b < 0 → a ≠ b → (TX11 a).2.1 ≠ (TX11 b).2.1 := by decide +kernel
theorem tyX11_ok : ∀ k, k < 0 → parseFieldDescriptor (TX11 k).2.2.1 = some (tyX11 k) := by decide +kernel
def RX12 : String := "KilnKeeper"
def TX12 : u_T := fun k => match k with
  | 0 => ("KilnKeeper", "kiln", "LKilnKeeper$Kiln;", true)
  | 1 => ("KilnKeeper", "spare", "LKilnKeeper$Kiln;", true)
  | 2 => ("KilnKeeper", "snapshot", "LKilnKeeper$Kiln;", true)
  | 3 => ("KilnKeeper", "isSaved", "Z", false)
  | 4 => ("KilnKeeper", "changes", "LKilnKeeper$Changes;", true)
  | 5 => ("KilnKeeper", "refusal", "LKilnKeeper$Refusal;", true)
  | 6 => ("KilnKeeper", "unheard", "LKilnKeeper$Refusal;", true)
  | 7 => ("KilnKeeper", "reader", "LKilnKeeper$Reader;", true)
  | _ => ("KilnKeeper", "line", "Ljava/lang/StringBuilder;", true)
def tyX12 : Nat → FieldType := fun k => match k with
  | 0 => .object "KilnKeeper$Kiln"
  | 1 => .object "KilnKeeper$Kiln"
  | 2 => .object "KilnKeeper$Kiln"
  | 3 => .boolean
  | 4 => .object "KilnKeeper$Changes"
  | 5 => .object "KilnKeeper$Refusal"
  | 6 => .object "KilnKeeper$Refusal"
  | 7 => .object "KilnKeeper$Reader"
  | _ => .object "java/lang/StringBuilder"
theorem nmX12 : ∀ a, a < 9 → ∀ b, b < 9 → a ≠ b → (TX12 a).2.1 ≠ (TX12 b).2.1 := by decide +kernel
theorem tyX12_ok : ∀ k, k < 9 → parseFieldDescriptor (TX12 k).2.2.1 = some (tyX12 k) := by decide +kernel
abbrev cX12_init : ByteArray := prog_1_method_1_code
def yX12_init : MethodName := ⟨RX12, "<init>", "()V"⟩
abbrev cX12_aim : ByteArray := prog_1_method_2_code
def yX12_aim : MethodName := ⟨RX12, "aim", "(I)I"⟩
abbrev cX12_gains : ByteArray := prog_1_method_3_code
def yX12_gains : MethodName := ⟨RX12, "gains", "(III)I"⟩
abbrev cX12_cap : ByteArray := prog_1_method_4_code
def yX12_cap : MethodName := ⟨RX12, "cap", "(I)I"⟩
abbrev cX12_lag : ByteArray := prog_1_method_5_code
def yX12_lag : MethodName := ⟨RX12, "lag", "(I)I"⟩
abbrev cX12_fuel : ByteArray := prog_1_method_6_code
def yX12_fuel : MethodName := ⟨RX12, "fuel", "(I)I"⟩
abbrev cX12_go : ByteArray := prog_1_method_7_code
def yX12_go : MethodName := ⟨RX12, "go", "(I)I"⟩
abbrev cX12_pot : ByteArray := prog_1_method_8_code
def yX12_pot : MethodName := ⟨RX12, "pot", "(III)I"⟩
abbrev cX12_put : ByteArray := prog_1_method_9_code
def yX12_put : MethodName := ⟨RX12, "put", "(I)I"⟩
abbrev cX12_take : ByteArray := prog_1_method_10_code
def yX12_take : MethodName := ⟨RX12, "take", "(I)I"⟩
abbrev cX12_potOf : ByteArray := prog_1_method_11_code
def yX12_potOf : MethodName := ⟨RX12, "potOf", "(II)I"⟩
abbrev cX12_firedIn : ByteArray := prog_1_method_12_code
def yX12_firedIn : MethodName := ⟨RX12, "firedIn", "(I)I"⟩
abbrev cX12_wouldCrack : ByteArray := prog_1_method_13_code
def yX12_wouldCrack : MethodName := ⟨RX12, "wouldCrack", "(I)I"⟩
abbrev cX12_ranked : ByteArray := prog_1_method_14_code
def yX12_ranked : MethodName := ⟨RX12, "ranked", "(I)I"⟩
abbrev cX12_degreesIn : ByteArray := prog_1_method_15_code
def yX12_degreesIn : MethodName := ⟨RX12, "degreesIn", "(I)I"⟩
abbrev cX12_wanted : ByteArray := prog_1_method_16_code
def yX12_wanted : MethodName := ⟨RX12, "wanted", "()I"⟩
abbrev cX12_settlesIn : ByteArray := prog_1_method_17_code
def yX12_settlesIn : MethodName := ⟨RX12, "settlesIn", "()I"⟩
abbrev cX12_wouldOvershoot : ByteArray := prog_1_method_18_code
def yX12_wouldOvershoot : MethodName := ⟨RX12, "wouldOvershoot", "(I)I"⟩
abbrev cX12_logged : ByteArray := prog_1_method_19_code
def yX12_logged : MethodName := ⟨RX12, "logged", "(II)I"⟩
abbrev cX12_burnt : ByteArray := prog_1_method_20_code
def yX12_burnt : MethodName := ⟨RX12, "burnt", "()I"⟩
abbrev cX12_burntAgain : ByteArray := prog_1_method_21_code
def yX12_burntAgain : MethodName := ⟨RX12, "burntAgain", "()I"⟩
abbrev cX12_minutesWith : ByteArray := prog_1_method_22_code
def yX12_minutesWith : MethodName := ⟨RX12, "minutesWith", "(I)I"⟩
abbrev cX12_append : ByteArray := prog_1_method_23_code
def yX12_append : MethodName := ⟨RX12, "append", "(I)I"⟩
abbrev cX12_run : ByteArray := prog_1_method_24_code
def yX12_run : MethodName := ⟨RX12, "run", "()I"⟩
abbrev cX12_tell : ByteArray := prog_1_method_25_code
def yX12_tell : MethodName := ⟨RX12, "tell", "()I"⟩
abbrev cX12_character : ByteArray := prog_1_method_27_code
def yX12_character : MethodName := ⟨RX12, "character", "(I)I"⟩
abbrev cX12_account : ByteArray := prog_1_method_29_code
def yX12_account : MethodName := ⟨RX12, "account", "(I)I"⟩
abbrev cX12_isBalanced : ByteArray := prog_1_method_30_code
def yX12_isBalanced : MethodName := ⟨RX12, "isBalanced", "()I"⟩
abbrev cX12_meanBurnt : ByteArray := prog_1_method_31_code
def yX12_meanBurnt : MethodName := ⟨RX12, "meanBurnt", "()D"⟩
abbrev cX12_firedShare : ByteArray := prog_1_method_32_code
def yX12_firedShare : MethodName := ⟨RX12, "firedShare", "()F"⟩
abbrev cX12_undo : ByteArray := prog_1_method_33_code
def yX12_undo : MethodName := ⟨RX12, "undo", "()I"⟩
abbrev cX12_save : ByteArray := prog_1_method_34_code
def yX12_save : MethodName := ⟨RX12, "save", "()I"⟩
abbrev cX12_restore : ByteArray := prog_1_method_35_code
def yX12_restore : MethodName := ⟨RX12, "restore", "()I"⟩
abbrev cX12_beginChange : ByteArray := prog_1_method_36_code
def yX12_beginChange : MethodName := ⟨RX12, "beginChange", "()V"⟩
abbrev cX12_endChange : ByteArray := prog_1_method_37_code
def yX12_endChange : MethodName := ⟨RX12, "endChange", "(I)I"⟩
abbrev cX12_tryMinutes : ByteArray := prog_1_method_38_code
def yX12_tryMinutes : MethodName := ⟨RX12, "tryMinutes", "(I)LKilnKeeper$Kiln;"⟩
abbrev cX12_carryOut : ByteArray := prog_1_method_39_code
def yX12_carryOut : MethodName := ⟨RX12, "carryOut", "(LKilnKeeper$Order;)I"⟩
abbrev cX12_isFrom : ByteArray := prog_1_method_40_code
def yX12_isFrom : MethodName := ⟨RX12, "isFrom", "(III)Z"⟩
abbrev cX12_between : ByteArray := prog_1_method_41_code
def yX12_between : MethodName := ⟨RX12, "between", "(III)I"⟩
abbrev cX12_numberAt : ByteArray := prog_1_method_42_code
def yX12_numberAt : MethodName := ⟨RX12, "numberAt", "([II)I"⟩
abbrev cX12_setNumberAt : ByteArray := prog_1_method_43_code
def yX12_setNumberAt : MethodName := ⟨RX12, "setNumberAt", "([III)V"⟩
abbrev cX12_copyRow : ByteArray := prog_1_method_44_code
def yX12_copyRow : MethodName := ⟨RX12, "copyRow", "([I[I)V"⟩
def RX13 : String := "KilnKeeperModel"
def TX13 : u_T := fun k => match k with
  | _ => ("", "", "", false)
def tyX13 : Nat → FieldType := fun k => match k with
  | _ => .int
theorem nmX13 : ∀ a, a < 0 → ∀ b, b < 0 → a ≠ b → (TX13 a).2.1 ≠ (TX13 b).2.1 := by decide +kernel
theorem tyX13_ok : ∀ k, k < 0 → parseFieldDescriptor (TX13 k).2.2.1 = some (tyX13 k) := by decide +kernel
def RJ5 : String := "java/lang/AbstractStringBuilder"
def TJ5 : u_T := fun k => match k with
  | _ => ("", "", "", false)
def tyJ5 : Nat → FieldType := fun k => match k with
  | _ => .int
theorem nmJ5 : ∀ a, a < 0 → ∀ b, b < 0 → a ≠ b → (TJ5 a).2.1 ≠ (TJ5 b).2.1 := by decide +kernel
theorem tyJ5_ok : ∀ k, k < 0 → parseFieldDescriptor (TJ5 k).2.2.1 = some (tyJ5 k) := by decide +kernel
abbrev cJ5_init_d00df : ByteArray := prog_16_method_2_code
def yJ5_init_d00df : MethodName := ⟨RJ5, "<init>", "(I)V"⟩
abbrev cJ5_length_8abf5 : ByteArray := prog_16_method_6_code
def yJ5_length_8abf5 : MethodName := ⟨RJ5, "length", "()I"⟩
abbrev cJ5_ensureCapacityInternal_d00df : ByteArray := prog_16_method_9_code
def yJ5_ensureCapacityInternal_d00df : MethodName := ⟨RJ5, "ensureCapacityInternal", "(I)V"⟩
abbrev cJ5_newCapacity_0f7a4 : ByteArray := prog_16_method_10_code
def yJ5_newCapacity_0f7a4 : MethodName := ⟨RJ5, "newCapacity", "(I)I"⟩
abbrev cJ5_inflate_da8c8 : ByteArray := prog_16_method_11_code
def yJ5_inflate_da8c8 : MethodName := ⟨RJ5, "inflate", "()V"⟩
abbrev cJ5_setLength_d00df : ByteArray := prog_16_method_13_code
def yJ5_setLength_d00df : MethodName := ⟨RJ5, "setLength", "(I)V"⟩
abbrev cJ5_charAt_5068e : ByteArray := prog_16_method_14_code
def yJ5_charAt_5068e : MethodName := ⟨RJ5, "charAt", "(I)C"⟩
abbrev cJ5_append_cf1ce : ByteArray := prog_16_method_22_code
def yJ5_append_cf1ce : MethodName := ⟨RJ5, "append", "(Ljava/lang/String;)Ljava/lang/AbstractStringBuilder;"⟩
abbrev cJ5_appendNull_278bc : ByteArray := prog_16_method_26_code
def yJ5_appendNull_278bc : MethodName := ⟨RJ5, "appendNull", "()Ljava/lang/AbstractStringBuilder;"⟩
abbrev cJ5_append_3fe6f : ByteArray := prog_16_method_31_code
def yJ5_append_3fe6f : MethodName := ⟨RJ5, "append", "(C)Ljava/lang/AbstractStringBuilder;"⟩
abbrev cJ5_append_c97b9 : ByteArray := prog_16_method_32_code
def yJ5_append_c97b9 : MethodName := ⟨RJ5, "append", "(I)Ljava/lang/AbstractStringBuilder;"⟩
abbrev cJ5_getValue_6d5f1 : ByteArray := prog_16_method_64_code
def yJ5_getValue_6d5f1 : MethodName := ⟨RJ5, "getValue", "()[B"⟩
abbrev cJ5_isLatin1_aae02 : ByteArray := prog_16_method_68_code
def yJ5_isLatin1_aae02 : MethodName := ⟨RJ5, "isLatin1", "()Z"⟩
abbrev cJ5_inflateIfNeededFor_a7421 : ByteArray := prog_16_method_71_code
def yJ5_inflateIfNeededFor_a7421 : MethodName := ⟨RJ5, "inflateIfNeededFor", "(Ljava/lang/String;)V"⟩
abbrev cJ5_putStringAt_47b60 : ByteArray := prog_16_method_73_code
def yJ5_putStringAt_47b60 : MethodName := ⟨RJ5, "putStringAt", "(ILjava/lang/String;)V"⟩
def RJx8e188 : String := "java/lang/Cloneable"
def TJx8e188 : u_T := fun k => match k with
  | _ => ("", "", "", false)
def tyJx8e188 : Nat → FieldType := fun k => match k with
  | _ => .int
theorem nmJx8e188 : ∀ a, a < 0 → ∀ b, b < 0 → a ≠ b → (TJx8e188 a).2.1 ≠ (TJx8e188 b).2.1 := by decide +kernel
theorem tyJx8e188_ok : ∀ k, k < 0 → parseFieldDescriptor (TJx8e188 k).2.2.1 = some (tyJx8e188 k) := by decide +kernel
def RJx29ce0 : String := "java/lang/Enum"
def TJx29ce0 : u_T := fun k => match k with
  | _ => ("", "", "", false)
def tyJx29ce0 : Nat → FieldType := fun k => match k with
  | _ => .int
theorem nmJx29ce0 : ∀ a, a < 0 → ∀ b, b < 0 → a ≠ b → (TJx29ce0 a).2.1 ≠ (TJx29ce0 b).2.1 := by decide +kernel
theorem tyJx29ce0_ok : ∀ k, k < 0 → parseFieldDescriptor (TJx29ce0 k).2.2.1 = some (tyJx29ce0 k) := by decide +kernel
abbrev cJx29ce0_ordinal_8abf5 : ByteArray := prog_18_method_2_code
def yJx29ce0_ordinal_8abf5 : MethodName := ⟨RJx29ce0, "ordinal", "()I"⟩
def RJ6 : String := "java/lang/Integer"
def TJ6 : u_T := fun k => match k with
  | _ => ("", "", "", false)
def tyJ6 : Nat → FieldType := fun k => match k with
  | _ => .int
theorem nmJ6 : ∀ a, a < 0 → ∀ b, b < 0 → a ≠ b → (TJ6 a).2.1 ≠ (TJ6 b).2.1 := by decide +kernel
theorem tyJ6_ok : ∀ k, k < 0 → parseFieldDescriptor (TJ6 k).2.2.1 = some (tyJ6 k) := by decide +kernel
abbrev cJ6_getChars_ba4f3 : ByteArray := prog_19_method_12_code
def yJ6_getChars_ba4f3 : MethodName := ⟨RJ6, "getChars", "(II[B)I"⟩
abbrev cJ6_stringSize_0f7a4 : ByteArray := prog_19_method_13_code
def yJ6_stringSize_0f7a4 : MethodName := ⟨RJ6, "stringSize", "(I)I"⟩
abbrev cJ6_bitCount_0f7a4 : ByteArray := prog_19_method_49_code
def yJ6_bitCount_0f7a4 : MethodName := ⟨RJ6, "bitCount", "(I)I"⟩
def RJ9 : String := "java/lang/Math"
def TJ9 : u_T := fun k => match k with
  | _ => ("", "", "", false)
def tyJ9 : Nat → FieldType := fun k => match k with
  | _ => .int
theorem nmJ9 : ∀ a, a < 0 → ∀ b, b < 0 → a ≠ b → (TJ9 a).2.1 ≠ (TJ9 b).2.1 := by decide +kernel
theorem tyJ9_ok : ∀ k, k < 0 → parseFieldDescriptor (TJ9 k).2.2.1 = some (tyJ9 k) := by decide +kernel
abbrev cJ9_floorDiv_7cf53 : ByteArray := prog_20_method_47_code
def yJ9_floorDiv_7cf53 : MethodName := ⟨RJ9, "floorDiv", "(II)I"⟩
abbrev cJ9_abs_0f7a4 : ByteArray := prog_20_method_59_code
def yJ9_abs_0f7a4 : MethodName := ⟨RJ9, "abs", "(I)I"⟩
abbrev cJ9_max_7cf53 : ByteArray := prog_20_method_65_code
def yJ9_max_7cf53 : MethodName := ⟨RJ9, "max", "(II)I"⟩
abbrev cJ9_min_7cf53 : ByteArray := prog_20_method_69_code
def yJ9_min_7cf53 : MethodName := ⟨RJ9, "min", "(II)I"⟩
def RJ0 : String := "java/lang/String"
def TJ0 : u_T := fun k => match k with
  | 0 => ("java/lang/String", "value", "[B", true)
  | 1 => ("java/lang/String", "coder", "B", true)
  | 2 => ("java/lang/String", "hash", "I", false)
  | _ => ("java/lang/String", "hashIsZero", "Z", false)
def tyJ0 : Nat → FieldType := fun k => match k with
  | 0 => .array .byte
  | 1 => .byte
  | 2 => .int
  | _ => .boolean
theorem nmJ0 : ∀ a, a < 4 → ∀ b, b < 4 → a ≠ b → (TJ0 a).2.1 ≠ (TJ0 b).2.1 := by decide +kernel
theorem tyJ0_ok : ∀ k, k < 4 → parseFieldDescriptor (TJ0 k).2.2.1 = some (tyJ0 k) := by decide +kernel
abbrev cJ0_init_81219 : ByteArray := prog_21_method_53_code
def yJ0_init_81219 : MethodName := ⟨RJ0, "<init>", "(Ljava/lang/StringBuilder;)V"⟩
abbrev cJ0_length_8abf5 : ByteArray := prog_21_method_54_code
def yJ0_length_8abf5 : MethodName := ⟨RJ0, "length", "()I"⟩
abbrev cJ0_charAt_5068e : ByteArray := prog_21_method_56_code
def yJ0_charAt_5068e : MethodName := ⟨RJ0, "charAt", "(I)C"⟩
abbrev cJ0_getBytes_840e7 : ByteArray := prog_21_method_147_code
def yJ0_getBytes_840e7 : MethodName := ⟨RJ0, "getBytes", "([BIB)V"⟩
abbrev cJ0_init_db425 : ByteArray := prog_21_method_150_code
def yJ0_init_db425 : MethodName := ⟨RJ0, "<init>", "(Ljava/lang/AbstractStringBuilder;Ljava/lang/Void;)V"⟩
abbrev cJ0_coder_7d493 : ByteArray := prog_21_method_152_code
def yJ0_coder_7d493 : MethodName := ⟨RJ0, "coder", "()B"⟩
abbrev cJ0_isLatin1_aae02 : ByteArray := prog_21_method_154_code
def yJ0_isLatin1_aae02 : MethodName := ⟨RJ0, "isLatin1", "()Z"⟩
abbrev cJ0_checkIndex_df160 : ByteArray := prog_21_method_155_code
def yJ0_checkIndex_df160 : MethodName := ⟨RJ0, "checkIndex", "(II)V"⟩
abbrev cJ0_checkBoundsOffCount_cabcc : ByteArray := prog_21_method_157_code
def yJ0_checkBoundsOffCount_cabcc : MethodName := ⟨RJ0, "checkBoundsOffCount", "(III)I"⟩
abbrev cJ0_checkBoundsBeginEnd_23922 : ByteArray := prog_21_method_158_code
def yJ0_checkBoundsBeginEnd_23922 : MethodName := ⟨RJ0, "checkBoundsBeginEnd", "(III)V"⟩
def RJ4 : String := "java/lang/StringBuilder"
def TJ4 : u_T := fun k => match k with
  | 0 => ("java/lang/AbstractStringBuilder", "value", "[B", false)
  | 1 => ("java/lang/AbstractStringBuilder", "coder", "B", false)
  | 2 => ("java/lang/AbstractStringBuilder", "maybeLatin1", "Z", false)
  | _ => ("java/lang/AbstractStringBuilder", "count", "I", false)
def tyJ4 : Nat → FieldType := fun k => match k with
  | 0 => .array .byte
  | 1 => .byte
  | 2 => .boolean
  | _ => .int
theorem nmJ4 : ∀ a, a < 4 → ∀ b, b < 4 → a ≠ b → (TJ4 a).2.1 ≠ (TJ4 b).2.1 := by decide +kernel
theorem tyJ4_ok : ∀ k, k < 4 → parseFieldDescriptor (TJ4 k).2.2.1 = some (tyJ4 k) := by decide +kernel
abbrev cJ4_init_da8c8 : ByteArray := prog_22_method_1_code
def yJ4_init_da8c8 : MethodName := ⟨RJ4, "<init>", "()V"⟩
abbrev cJ4_append_15ec4 : ByteArray := prog_22_method_7_code
def yJ4_append_15ec4 : MethodName := ⟨RJ4, "append", "(Ljava/lang/String;)Ljava/lang/StringBuilder;"⟩
abbrev cJ4_append_cf468 : ByteArray := prog_22_method_14_code
def yJ4_append_cf468 : MethodName := ⟨RJ4, "append", "(C)Ljava/lang/StringBuilder;"⟩
abbrev cJ4_append_bf812 : ByteArray := prog_22_method_15_code
def yJ4_append_bf812 : MethodName := ⟨RJ4, "append", "(I)Ljava/lang/StringBuilder;"⟩
abbrev cJ4_toString_0e30d : ByteArray := prog_22_method_42_code
def yJ4_toString_0e30d : MethodName := ⟨RJ4, "toString", "()Ljava/lang/String;"⟩
abbrev cJ4_charAt_5068e : ByteArray := prog_22_method_88_code
def yJ4_charAt_5068e : MethodName := ⟨RJ4, "charAt", "(I)C"⟩
abbrev cJ4_setLength_d00df : ByteArray := prog_22_method_89_code
def yJ4_setLength_d00df : MethodName := ⟨RJ4, "setLength", "(I)V"⟩
abbrev cJ4_length_8abf5 : ByteArray := prog_22_method_93_code
def yJ4_length_8abf5 : MethodName := ⟨RJ4, "length", "()I"⟩
def RJ1 : String := "java/lang/StringLatin1"
def TJ1 : u_T := fun k => match k with
  | _ => ("", "", "", false)
def tyJ1 : Nat → FieldType := fun k => match k with
  | _ => .int
theorem nmJ1 : ∀ a, a < 0 → ∀ b, b < 0 → a ≠ b → (TJ1 a).2.1 ≠ (TJ1 b).2.1 := by decide +kernel
theorem tyJ1_ok : ∀ k, k < 0 → parseFieldDescriptor (TJ1 k).2.2.1 = some (tyJ1 k) := by decide +kernel
abbrev cJ1_charAt_3b067 : ByteArray := prog_23_method_2_code
def yJ1_charAt_3b067 : MethodName := ⟨RJ1, "charAt", "([BI)C"⟩
abbrev cJ1_canEncode_fc78d : ByteArray := prog_23_method_3_code
def yJ1_canEncode_fc78d : MethodName := ⟨RJ1, "canEncode", "(C)Z"⟩
abbrev cJ1_fillNull_b72d1 : ByteArray := prog_23_method_48_code
def yJ1_fillNull_b72d1 : MethodName := ⟨RJ1, "fillNull", "([BII)V"⟩
abbrev cJ1_inflate_0e8fd : ByteArray := prog_23_method_50_code
def yJ1_inflate_0e8fd : MethodName := ⟨RJ1, "inflate", "([BI[BII)V"⟩
def RJ2 : String := "java/lang/StringUTF16"
def TJ2 : u_T := fun k => match k with
  | _ => ("", "", "", false)
def tyJ2 : Nat → FieldType := fun k => match k with
  | _ => .int
theorem nmJ2 : ∀ a, a < 0 → ∀ b, b < 0 → a ≠ b → (TJ2 a).2.1 ≠ (TJ2 b).2.1 := by decide +kernel
theorem tyJ2_ok : ∀ k, k < 0 → parseFieldDescriptor (TJ2 k).2.2.1 = some (tyJ2 k) := by decide +kernel
abbrev cJ2_newBytesFor_77867 : ByteArray := prog_24_method_2_code
def yJ2_newBytesFor_77867 : MethodName := ⟨RJ2, "newBytesFor", "(I)[B"⟩
abbrev cJ2_newBytesLength_0f7a4 : ByteArray := prog_24_method_3_code
def yJ2_newBytesLength_0f7a4 : MethodName := ⟨RJ2, "newBytesLength", "(I)I"⟩
abbrev cJ2_putChar_b72d1 : ByteArray := prog_24_method_4_code
def yJ2_putChar_b72d1 : MethodName := ⟨RJ2, "putChar", "([BII)V"⟩
abbrev cJ2_getChar_3b067 : ByteArray := prog_24_method_5_code
def yJ2_getChar_3b067 : MethodName := ⟨RJ2, "getChar", "([BI)C"⟩
abbrev cJ2_length_9d52b : ByteArray := prog_24_method_6_code
def yJ2_length_9d52b : MethodName := ⟨RJ2, "length", "([B)I"⟩
abbrev cJ2_coderFromArrayLen_85cad : ByteArray := prog_24_method_15_code
def yJ2_coderFromArrayLen_85cad : MethodName := ⟨RJ2, "coderFromArrayLen", "([BI)B"⟩
abbrev cJ2_compress_39247 : ByteArray := prog_24_method_17_code
def yJ2_compress_39247 : MethodName := ⟨RJ2, "compress", "([BII)[B"⟩
abbrev cJ2_compress_5af95 : ByteArray := prog_24_method_22_code
def yJ2_compress_5af95 : MethodName := ⟨RJ2, "compress", "([BI[BII)I"⟩
abbrev cJ2_fillNull_b72d1 : ByteArray := prog_24_method_70_code
def yJ2_fillNull_b72d1 : MethodName := ⟨RJ2, "fillNull", "([BII)V"⟩
abbrev cJ2_putCharSB_b72d1 : ByteArray := prog_24_method_71_code
def yJ2_putCharSB_b72d1 : MethodName := ⟨RJ2, "putCharSB", "([BII)V"⟩
abbrev cJ2_getChars_46870 : ByteArray := prog_24_method_77_code
def yJ2_getChars_46870 : MethodName := ⟨RJ2, "getChars", "(III[B)I"⟩
abbrev cJ2_putCharsAt_cd4e5 : ByteArray := prog_24_method_81_code
def yJ2_putCharsAt_cd4e5 : MethodName := ⟨RJ2, "putCharsAt", "([BICCCC)I"⟩
abbrev cJ2_charAt_3b067 : ByteArray := prog_24_method_83_code
def yJ2_charAt_3b067 : MethodName := ⟨RJ2, "charAt", "([BI)C"⟩
abbrev cJ2_inflate_0e8fd : ByteArray := prog_24_method_86_code
def yJ2_inflate_0e8fd : MethodName := ⟨RJ2, "inflate", "([BI[BII)V"⟩
abbrev cJ2_getChars_ba4f3 : ByteArray := prog_24_method_89_code
def yJ2_getChars_ba4f3 : MethodName := ⟨RJ2, "getChars", "(II[B)I"⟩
abbrev cJ2_checkIndex_2214a : ByteArray := prog_24_method_91_code
def yJ2_checkIndex_2214a : MethodName := ⟨RJ2, "checkIndex", "(I[B)V"⟩
abbrev cJ2_checkBoundsBeginEnd_d044e : ByteArray := prog_24_method_93_code
def yJ2_checkBoundsBeginEnd_d044e : MethodName := ⟨RJ2, "checkBoundsBeginEnd", "(II[B)V"⟩
abbrev cJ2_checkBoundsOffCount_d044e : ByteArray := prog_24_method_94_code
def yJ2_checkBoundsOffCount_d044e : MethodName := ⟨RJ2, "checkBoundsOffCount", "(II[B)V"⟩
def RJ10 : String := "java/lang/System"
def TJ10 : u_T := fun k => match k with
  | _ => ("", "", "", false)
def tyJ10 : Nat → FieldType := fun k => match k with
  | _ => .int
theorem nmJ10 : ∀ a, a < 0 → ∀ b, b < 0 → a ≠ b → (TJ10 a).2.1 ≠ (TJ10 b).2.1 := by decide +kernel
theorem tyJ10_ok : ∀ k, k < 0 → parseFieldDescriptor (TJ10 k).2.2.1 = some (tyJ10 k) := by decide +kernel
def RJ7 : String := "java/util/Arrays"
def TJ7 : u_T := fun k => match k with
  | _ => ("", "", "", false)
def tyJ7 : Nat → FieldType := fun k => match k with
  | _ => .int
theorem nmJ7 : ∀ a, a < 0 → ∀ b, b < 0 → a ≠ b → (TJ7 a).2.1 ≠ (TJ7 b).2.1 := by decide +kernel
theorem tyJ7_ok : ∀ k, k < 0 → parseFieldDescriptor (TJ7 k).2.2.1 = some (tyJ7 k) := by decide +kernel
abbrev cJ7_rangeCheck_23922 : ByteArray := prog_26_method_30_code
def yJ7_rangeCheck_23922 : MethodName := ⟨RJ7, "rangeCheck", "(III)V"⟩
abbrev cJ7_fill_eb02e : ByteArray := prog_26_method_110_code
def yJ7_fill_eb02e : MethodName := ⟨RJ7, "fill", "([BIIB)V"⟩
abbrev cJ7_copyOf_9075b : ByteArray := prog_26_method_121_code
def yJ7_copyOf_9075b : MethodName := ⟨RJ7, "copyOf", "([BI)[B"⟩
abbrev cJ7_checkLength_df160 : ByteArray := prog_26_method_131_code
def yJ7_checkLength_df160 : MethodName := ⟨RJ7, "checkLength", "(II)V"⟩
abbrev cJ7_copyOfRange_39247 : ByteArray := prog_26_method_132_code
def yJ7_copyOfRange_39247 : MethodName := ⟨RJ7, "copyOfRange", "([BII)[B"⟩
abbrev cJ7_copyOfRangeByte_39247 : ByteArray := prog_26_method_133_code
def yJ7_copyOfRangeByte_39247 : MethodName := ⟨RJ7, "copyOfRangeByte", "([BII)[B"⟩
def RJ8 : String := "jdk/internal/util/ArraysSupport"
def TJ8 : u_T := fun k => match k with
  | _ => ("", "", "", false)
def tyJ8 : Nat → FieldType := fun k => match k with
  | _ => .int
theorem nmJ8 : ∀ a, a < 0 → ∀ b, b < 0 → a ≠ b → (TJ8 a).2.1 ≠ (TJ8 b).2.1 := by decide +kernel
theorem tyJ8_ok : ∀ k, k < 0 → parseFieldDescriptor (TJ8 k).2.2.1 = some (tyJ8 k) := by decide +kernel
abbrev cJ8_newLength_cabcc : ByteArray := prog_27_method_27_code
def yJ8_newLength_cabcc : MethodName := ⟨RJ8, "newLength", "(III)I"⟩
abbrev cJ8_hugeLength_7cf53 : ByteArray := prog_27_method_28_code
def yJ8_hugeLength_7cf53 : MethodName := ⟨RJ8, "hugeLength", "(II)I"⟩
def RJ3 : String := "jdk/internal/util/Preconditions"
def TJ3 : u_T := fun k => match k with
  | _ => ("", "", "", false)
def tyJ3 : Nat → FieldType := fun k => match k with
  | _ => .int
theorem nmJ3 : ∀ a, a < 0 → ∀ b, b < 0 → a ≠ b → (TJ3 a).2.1 ≠ (TJ3 b).2.1 := by decide +kernel
theorem tyJ3_ok : ∀ k, k < 0 → parseFieldDescriptor (TJ3 k).2.2.1 = some (tyJ3 k) := by decide +kernel
abbrev cJ3_checkIndex_8e157 : ByteArray := prog_28_method_11_code
def yJ3_checkIndex_8e157 : MethodName := ⟨RJ3, "checkIndex", "(IILjava/util/function/BiFunction;)I"⟩
abbrev cJ3_checkFromToIndex_8c36e : ByteArray := prog_28_method_12_code
def yJ3_checkFromToIndex_8c36e : MethodName := ⟨RJ3, "checkFromToIndex", "(IIILjava/util/function/BiFunction;)I"⟩
abbrev cJ3_checkFromIndexSize_8c36e : ByteArray := prog_28_method_13_code
def yJ3_checkFromIndexSize_8c36e : MethodName := ⟨RJ3, "checkFromIndexSize", "(IIILjava/util/function/BiFunction;)I"⟩
def RL : String := "KilnKeeperLaw"
abbrev cL_cell : ByteArray := method_2_code
def yL_cell : MethodName := ⟨RL, "cell", "([II)I"⟩
abbrev cL_pick : ByteArray := method_3_code
def yL_pick : MethodName := ⟨RL, "pick", "([III)I"⟩
abbrev cL_runs : ByteArray := method_4_code
def yL_runs : MethodName := ⟨RL, "runs", "(LKilnKeeper;Ljava/lang/String;)I"⟩
abbrev cL_law : ByteArray := code
def yL_law : MethodName := ⟨RL, "law", "([I)Z"⟩
abbrev cL_does : ByteArray := method_8_code
def yL_does : MethodName := ⟨RL, "does", "([IIILKilnKeeper;)I"⟩
abbrev cL_goes : ByteArray := method_9_code
def yL_goes : MethodName := ⟨RL, "goes", "(LKilnKeeper;I)I"⟩
abbrev cL_sum : ByteArray := method_10_code
def yL_sum : MethodName := ⟨RL, "sum", "(LKilnKeeper;)J"⟩
abbrev cL_isWhole : ByteArray := method_11_code
def yL_isWhole : MethodName := ⟨RL, "isWhole", "(LKilnKeeper;)Z"⟩
abbrev cL_isKept : ByteArray := method_12_code
def yL_isKept : MethodName := ⟨RL, "isKept", "(LKilnKeeper;[JI)Z"⟩
theorem dX1_init_0 : decode cX1_init 0 = .ok (.aload_n 0, 1) := by decide +kernel
theorem dX1_init_1 : decode cX1_init 1 = .ok (.invokespecial 3, 3) := by decide +kernel
theorem dX1_init_4 : decode cX1_init 4 = .ok (.aload_n 0, 1) := by decide +kernel
theorem dX1_init_5 : decode cX1_init 5 = .ok (.iconst 0, 1) := by decide +kernel
theorem dX1_init_6 : decode cX1_init 6 = .ok (.putfield 9, 3) := by decide +kernel
theorem dX1_init_9 : decode cX1_init 9 = .ok (.aload_n 0, 1) := by decide +kernel
theorem dX1_init_10 : decode cX1_init 10 = .ok (.iconst 0, 1) := by decide +kernel
theorem dX1_init_11 : decode cX1_init 11 = .ok (.putfield 15, 3) := by decide +kernel
theorem dX1_init_14 : decode cX1_init 14 = .ok (.aload_n 0, 1) := by decide +kernel
theorem dX1_init_15 : decode cX1_init 15 = .ok (.iconst 0, 1) := by decide +kernel
theorem dX1_init_16 : decode cX1_init 16 = .ok (.putfield 18, 3) := by decide +kernel
theorem dX1_init_19 : decode cX1_init 19 = .ok (.aload_n 0, 1) := by decide +kernel
theorem dX1_init_20 : decode cX1_init 20 = .ok (.iconst 0, 1) := by decide +kernel
theorem dX1_init_21 : decode cX1_init 21 = .ok (.putfield 21, 3) := by decide +kernel
theorem dX1_init_24 : decode cX1_init 24 = .ok (.aload_n 0, 1) := by decide +kernel
theorem dX1_init_25 : decode cX1_init 25 = .ok (.bipush 101, 2) := by decide +kernel
theorem dX1_init_27 : decode cX1_init 27 = .ok (.newarray .int, 2) := by decide +kernel
theorem dX1_init_29 : decode cX1_init 29 = .ok (.putfield 24, 3) := by decide +kernel
theorem dX1_init_32 : decode cX1_init 32 = .ok (.aload_n 0, 1) := by decide +kernel
theorem dX1_init_33 : decode cX1_init 33 = .ok (.bipush 48, 2) := by decide +kernel
theorem dX1_init_35 : decode cX1_init 35 = .ok (.newarray .int, 2) := by decide +kernel
theorem dX1_init_37 : decode cX1_init 37 = .ok (.putfield 28, 3) := by decide +kernel
theorem dX1_init_40 : decode cX1_init 40 = .ok (.return_, 1) := by decide +kernel
theorem dX1_copyFrom_0 : decode cX1_copyFrom 0 = .ok (.aload_n 0, 1) := by decide +kernel
theorem dX1_copyFrom_1 : decode cX1_copyFrom 1 = .ok (.aload_n 1, 1) := by decide +kernel
theorem dX1_copyFrom_2 : decode cX1_copyFrom 2 = .ok (.getfield 9, 3) := by decide +kernel
theorem dX1_copyFrom_5 : decode cX1_copyFrom 5 = .ok (.putfield 9, 3) := by decide +kernel
theorem dX1_copyFrom_8 : decode cX1_copyFrom 8 = .ok (.aload_n 0, 1) := by decide +kernel
theorem dX1_copyFrom_9 : decode cX1_copyFrom 9 = .ok (.aload_n 1, 1) := by decide +kernel
theorem dX1_copyFrom_10 : decode cX1_copyFrom 10 = .ok (.getfield 15, 3) := by decide +kernel
theorem dX1_copyFrom_13 : decode cX1_copyFrom 13 = .ok (.putfield 15, 3) := by decide +kernel
theorem dX1_copyFrom_16 : decode cX1_copyFrom 16 = .ok (.aload_n 0, 1) := by decide +kernel
theorem dX1_copyFrom_17 : decode cX1_copyFrom 17 = .ok (.aload_n 1, 1) := by decide +kernel
theorem dX1_copyFrom_18 : decode cX1_copyFrom 18 = .ok (.getfield 18, 3) := by decide +kernel
theorem dX1_copyFrom_21 : decode cX1_copyFrom 21 = .ok (.putfield 18, 3) := by decide +kernel
theorem dX1_copyFrom_24 : decode cX1_copyFrom 24 = .ok (.aload_n 0, 1) := by decide +kernel
theorem dX1_copyFrom_25 : decode cX1_copyFrom 25 = .ok (.aload_n 1, 1) := by decide +kernel
theorem dX1_copyFrom_26 : decode cX1_copyFrom 26 = .ok (.getfield 21, 3) := by decide +kernel
theorem dX1_copyFrom_29 : decode cX1_copyFrom 29 = .ok (.putfield 21, 3) := by decide +kernel
theorem dX1_copyFrom_32 : decode cX1_copyFrom 32 = .ok (.aload_n 1, 1) := by decide +kernel
theorem dX1_copyFrom_33 : decode cX1_copyFrom 33 = .ok (.getfield 24, 3) := by decide +kernel
theorem dX1_copyFrom_36 : decode cX1_copyFrom 36 = .ok (.aload_n 0, 1) := by decide +kernel
theorem dX1_copyFrom_37 : decode cX1_copyFrom 37 = .ok (.getfield 24, 3) := by decide +kernel
theorem dX1_copyFrom_40 : decode cX1_copyFrom 40 = .ok (.invokestatic 31, 3) := by decide +kernel
theorem dX1_copyFrom_43 : decode cX1_copyFrom 43 = .ok (.aload_n 1, 1) := by decide +kernel
theorem dX1_copyFrom_44 : decode cX1_copyFrom 44 = .ok (.getfield 28, 3) := by decide +kernel
theorem dX1_copyFrom_47 : decode cX1_copyFrom 47 = .ok (.aload_n 0, 1) := by decide +kernel
theorem dX1_copyFrom_48 : decode cX1_copyFrom 48 = .ok (.getfield 28, 3) := by decide +kernel
theorem dX1_copyFrom_51 : decode cX1_copyFrom 51 = .ok (.invokestatic 31, 3) := by decide +kernel
theorem dX1_copyFrom_54 : decode cX1_copyFrom 54 = .ok (.return_, 1) := by decide +kernel
theorem dX1_addFuel_0 : decode cX1_addFuel 0 = .ok (.iconst 1, 1) := by decide +kernel
theorem dX1_addFuel_1 : decode cX1_addFuel 1 = .ok (.iload_n 1, 1) := by decide +kernel
theorem dX1_addFuel_2 : decode cX1_addFuel 2 = .ok (.sipush 9999, 3) := by decide +kernel
theorem dX1_addFuel_5 : decode cX1_addFuel 5 = .ok (.invokestatic 35, 3) := by decide +kernel
theorem dX1_addFuel_8 : decode cX1_addFuel 8 = .ok (.ifCond .ne 7, 3) := by decide +kernel
theorem dX1_addFuel_11 : decode cX1_addFuel 11 = .ok (.sipush (-10002), 3) := by decide +kernel
theorem dX1_addFuel_14 : decode cX1_addFuel 14 = .ok (.ireturn, 1) := by decide +kernel
theorem dX1_addFuel_15 : decode cX1_addFuel 15 = .ok (.aload_n 0, 1) := by decide +kernel
theorem dX1_addFuel_16 : decode cX1_addFuel 16 = .ok (.dup, 1) := by decide +kernel
theorem dX1_addFuel_17 : decode cX1_addFuel 17 = .ok (.getfield 18, 3) := by decide +kernel
theorem dX1_addFuel_20 : decode cX1_addFuel 20 = .ok (.iload_n 1, 1) := by decide +kernel
theorem dX1_addFuel_21 : decode cX1_addFuel 21 = .ok (.iadd, 1) := by decide +kernel
theorem dX1_addFuel_22 : decode cX1_addFuel 22 = .ok (.putfield 18, 3) := by decide +kernel
theorem dX1_addFuel_25 : decode cX1_addFuel 25 = .ok (.aload_n 0, 1) := by decide +kernel
theorem dX1_addFuel_26 : decode cX1_addFuel 26 = .ok (.dup, 1) := by decide +kernel
theorem dX1_addFuel_27 : decode cX1_addFuel 27 = .ok (.getfield 15, 3) := by decide +kernel
theorem dX1_addFuel_30 : decode cX1_addFuel 30 = .ok (.iload_n 1, 1) := by decide +kernel
theorem dX1_addFuel_31 : decode cX1_addFuel 31 = .ok (.iadd, 1) := by decide +kernel
theorem dX1_addFuel_32 : decode cX1_addFuel 32 = .ok (.putfield 15, 3) := by decide +kernel
theorem dX1_addFuel_35 : decode cX1_addFuel 35 = .ok (.aload_n 0, 1) := by decide +kernel
theorem dX1_addFuel_36 : decode cX1_addFuel 36 = .ok (.getfield 15, 3) := by decide +kernel
theorem dX1_addFuel_39 : decode cX1_addFuel 39 = .ok (.ireturn, 1) := by decide +kernel
theorem dX1_burn_0 : decode cX1_burn 0 = .ok (.iload_n 1, 1) := by decide +kernel
theorem dX1_burn_1 : decode cX1_burn 1 = .ok (.aload_n 0, 1) := by decide +kernel
theorem dX1_burn_2 : decode cX1_burn 2 = .ok (.getfield 15, 3) := by decide +kernel
theorem dX1_burn_5 : decode cX1_burn 5 = .ok (.invokestatic 39, 3) := by decide +kernel
theorem dX1_burn_8 : decode cX1_burn 8 = .ok (.istore_n 2, 1) := by decide +kernel
theorem dX1_burn_9 : decode cX1_burn 9 = .ok (.aload_n 0, 1) := by decide +kernel
theorem dX1_burn_10 : decode cX1_burn 10 = .ok (.dup, 1) := by decide +kernel
theorem dX1_burn_11 : decode cX1_burn 11 = .ok (.getfield 15, 3) := by decide +kernel
theorem dX1_burn_14 : decode cX1_burn 14 = .ok (.iload_n 2, 1) := by decide +kernel
theorem dX1_burn_15 : decode cX1_burn 15 = .ok (.isub, 1) := by decide +kernel
theorem dX1_burn_16 : decode cX1_burn 16 = .ok (.putfield 15, 3) := by decide +kernel
theorem dX1_burn_19 : decode cX1_burn 19 = .ok (.aload_n 0, 1) := by decide +kernel
theorem dX1_burn_20 : decode cX1_burn 20 = .ok (.dup, 1) := by decide +kernel
theorem dX1_burn_21 : decode cX1_burn 21 = .ok (.getfield 21, 3) := by decide +kernel
theorem dX1_burn_24 : decode cX1_burn 24 = .ok (.iload_n 2, 1) := by decide +kernel
theorem dX1_burn_25 : decode cX1_burn 25 = .ok (.iadd, 1) := by decide +kernel
theorem dX1_burn_26 : decode cX1_burn 26 = .ok (.putfield 21, 3) := by decide +kernel
theorem dX1_burn_29 : decode cX1_burn 29 = .ok (.aload_n 0, 1) := by decide +kernel
theorem dX1_burn_30 : decode cX1_burn 30 = .ok (.getfield 24, 3) := by decide +kernel
theorem dX1_burn_33 : decode cX1_burn 33 = .ok (.iload_n 2, 1) := by decide +kernel
theorem dX1_burn_34 : decode cX1_burn 34 = .ok (.aload_n 0, 1) := by decide +kernel
theorem dX1_burn_35 : decode cX1_burn 35 = .ok (.getfield 24, 3) := by decide +kernel
theorem dX1_burn_38 : decode cX1_burn 38 = .ok (.iload_n 2, 1) := by decide +kernel
theorem dX1_burn_39 : decode cX1_burn 39 = .ok (.invokestatic 45, 3) := by decide +kernel
theorem dX1_burn_42 : decode cX1_burn 42 = .ok (.iconst 1, 1) := by decide +kernel
theorem dX1_burn_43 : decode cX1_burn 43 = .ok (.iadd, 1) := by decide +kernel
theorem dX1_burn_44 : decode cX1_burn 44 = .ok (.invokestatic 49, 3) := by decide +kernel
theorem dX1_burn_47 : decode cX1_burn 47 = .ok (.iload_n 2, 1) := by decide +kernel
theorem dX1_burn_48 : decode cX1_burn 48 = .ok (.ireturn, 1) := by decide +kernel
theorem dX1_logMinute_0 : decode cX1_logMinute 0 = .ok (.aload_n 0, 1) := by decide +kernel
theorem dX1_logMinute_1 : decode cX1_logMinute 1 = .ok (.getfield 9, 3) := by decide +kernel
theorem dX1_logMinute_4 : decode cX1_logMinute 4 = .ok (.invokestatic 53, 3) := by decide +kernel
theorem dX1_logMinute_7 : decode cX1_logMinute 7 = .ok (.istore 5, 2) := by decide +kernel
theorem dX1_logMinute_9 : decode cX1_logMinute 9 = .ok (.aload_n 0, 1) := by decide +kernel
theorem dX1_logMinute_10 : decode cX1_logMinute 10 = .ok (.getfield 28, 3) := by decide +kernel
theorem dX1_logMinute_13 : decode cX1_logMinute 13 = .ok (.iload 5, 2) := by decide +kernel
theorem dX1_logMinute_15 : decode cX1_logMinute 15 = .ok (.iload_n 1, 1) := by decide +kernel
theorem dX1_logMinute_16 : decode cX1_logMinute 16 = .ok (.invokestatic 49, 3) := by decide +kernel
theorem dX1_logMinute_19 : decode cX1_logMinute 19 = .ok (.aload_n 0, 1) := by decide +kernel
theorem dX1_logMinute_20 : decode cX1_logMinute 20 = .ok (.getfield 28, 3) := by decide +kernel
theorem dX1_logMinute_23 : decode cX1_logMinute 23 = .ok (.iload 5, 2) := by decide +kernel
theorem dX1_logMinute_25 : decode cX1_logMinute 25 = .ok (.iconst 1, 1) := by decide +kernel
theorem dX1_logMinute_26 : decode cX1_logMinute 26 = .ok (.iadd, 1) := by decide +kernel
theorem dX1_logMinute_27 : decode cX1_logMinute 27 = .ok (.iload_n 2, 1) := by decide +kernel
theorem dX1_logMinute_28 : decode cX1_logMinute 28 = .ok (.invokestatic 49, 3) := by decide +kernel
theorem dX1_logMinute_31 : decode cX1_logMinute 31 = .ok (.aload_n 0, 1) := by decide +kernel
theorem dX1_logMinute_32 : decode cX1_logMinute 32 = .ok (.getfield 28, 3) := by decide +kernel
theorem dX1_logMinute_35 : decode cX1_logMinute 35 = .ok (.iload 5, 2) := by decide +kernel
theorem dX1_logMinute_37 : decode cX1_logMinute 37 = .ok (.iconst 2, 1) := by decide +kernel
theorem dX1_logMinute_38 : decode cX1_logMinute 38 = .ok (.iadd, 1) := by decide +kernel
theorem dX1_logMinute_39 : decode cX1_logMinute 39 = .ok (.iload_n 3, 1) := by decide +kernel
theorem dX1_logMinute_40 : decode cX1_logMinute 40 = .ok (.invokestatic 49, 3) := by decide +kernel
theorem dX1_logMinute_43 : decode cX1_logMinute 43 = .ok (.aload_n 0, 1) := by decide +kernel
theorem dX1_logMinute_44 : decode cX1_logMinute 44 = .ok (.getfield 28, 3) := by decide +kernel
theorem dX1_logMinute_47 : decode cX1_logMinute 47 = .ok (.iload 5, 2) := by decide +kernel
theorem dX1_logMinute_49 : decode cX1_logMinute 49 = .ok (.iconst 3, 1) := by decide +kernel
theorem dX1_logMinute_50 : decode cX1_logMinute 50 = .ok (.iadd, 1) := by decide +kernel
theorem dX1_logMinute_51 : decode cX1_logMinute 51 = .ok (.iload 4, 2) := by decide +kernel
theorem dX1_logMinute_53 : decode cX1_logMinute 53 = .ok (.invokestatic 49, 3) := by decide +kernel
theorem dX1_logMinute_56 : decode cX1_logMinute 56 = .ok (.aload_n 0, 1) := by decide +kernel
theorem dX1_logMinute_57 : decode cX1_logMinute 57 = .ok (.dup, 1) := by decide +kernel
theorem dX1_logMinute_58 : decode cX1_logMinute 58 = .ok (.getfield 9, 3) := by decide +kernel
theorem dX1_logMinute_61 : decode cX1_logMinute 61 = .ok (.iconst 1, 1) := by decide +kernel
theorem dX1_logMinute_62 : decode cX1_logMinute 62 = .ok (.iadd, 1) := by decide +kernel
theorem dX1_logMinute_63 : decode cX1_logMinute 63 = .ok (.putfield 9, 3) := by decide +kernel
theorem dX1_logMinute_66 : decode cX1_logMinute 66 = .ok (.return_, 1) := by decide +kernel
theorem dX1_loggedNumber_0 : decode cX1_loggedNumber 0 = .ok (.iload_n 1, 1) := by decide +kernel
theorem dX1_loggedNumber_1 : decode cX1_loggedNumber 1 = .ok (.ifCond .lt 16, 3) := by decide +kernel
theorem dX1_loggedNumber_4 : decode cX1_loggedNumber 4 = .ok (.iload_n 1, 1) := by decide +kernel
theorem dX1_loggedNumber_5 : decode cX1_loggedNumber 5 = .ok (.aload_n 0, 1) := by decide +kernel
theorem dX1_loggedNumber_6 : decode cX1_loggedNumber 6 = .ok (.getfield 9, 3) := by decide +kernel
theorem dX1_loggedNumber_9 : decode cX1_loggedNumber 9 = .ok (.bipush 12, 2) := by decide +kernel
theorem dX1_loggedNumber_11 : decode cX1_loggedNumber 11 = .ok (.invokestatic 39, 3) := by decide +kernel
theorem dX1_loggedNumber_14 : decode cX1_loggedNumber 14 = .ok (.if_icmp .lt 7, 3) := by decide +kernel
theorem dX1_loggedNumber_17 : decode cX1_loggedNumber 17 = .ok (.sipush (-10001), 3) := by decide +kernel
theorem dX1_loggedNumber_20 : decode cX1_loggedNumber 20 = .ok (.ireturn, 1) := by decide +kernel
theorem dX1_loggedNumber_21 : decode cX1_loggedNumber 21 = .ok (.iconst 0, 1) := by decide +kernel
theorem dX1_loggedNumber_22 : decode cX1_loggedNumber 22 = .ok (.iload_n 2, 1) := by decide +kernel
theorem dX1_loggedNumber_23 : decode cX1_loggedNumber 23 = .ok (.iconst 3, 1) := by decide +kernel
theorem dX1_loggedNumber_24 : decode cX1_loggedNumber 24 = .ok (.invokestatic 35, 3) := by decide +kernel
theorem dX1_loggedNumber_27 : decode cX1_loggedNumber 27 = .ok (.ifCond .ne 7, 3) := by decide +kernel
theorem dX1_loggedNumber_30 : decode cX1_loggedNumber 30 = .ok (.sipush (-10002), 3) := by decide +kernel
theorem dX1_loggedNumber_33 : decode cX1_loggedNumber 33 = .ok (.ireturn, 1) := by decide +kernel
theorem dX1_loggedNumber_34 : decode cX1_loggedNumber 34 = .ok (.aload_n 0, 1) := by decide +kernel
theorem dX1_loggedNumber_35 : decode cX1_loggedNumber 35 = .ok (.getfield 28, 3) := by decide +kernel
theorem dX1_loggedNumber_38 : decode cX1_loggedNumber 38 = .ok (.aload_n 0, 1) := by decide +kernel
theorem dX1_loggedNumber_39 : decode cX1_loggedNumber 39 = .ok (.getfield 9, 3) := by decide +kernel
theorem dX1_loggedNumber_42 : decode cX1_loggedNumber 42 = .ok (.iconst 1, 1) := by decide +kernel
theorem dX1_loggedNumber_43 : decode cX1_loggedNumber 43 = .ok (.isub, 1) := by decide +kernel
theorem dX1_loggedNumber_44 : decode cX1_loggedNumber 44 = .ok (.iload_n 1, 1) := by decide +kernel
theorem dX1_loggedNumber_45 : decode cX1_loggedNumber 45 = .ok (.isub, 1) := by decide +kernel
theorem dX1_loggedNumber_46 : decode cX1_loggedNumber 46 = .ok (.invokestatic 53, 3) := by decide +kernel
theorem dX1_loggedNumber_49 : decode cX1_loggedNumber 49 = .ok (.iload_n 2, 1) := by decide +kernel
theorem dX1_loggedNumber_50 : decode cX1_loggedNumber 50 = .ok (.iadd, 1) := by decide +kernel
theorem dX1_loggedNumber_51 : decode cX1_loggedNumber 51 = .ok (.invokestatic 45, 3) := by decide +kernel
theorem dX1_loggedNumber_54 : decode cX1_loggedNumber 54 = .ok (.ireturn, 1) := by decide +kernel
theorem dX1_burntByAmounts_0 : decode cX1_burntByAmounts 0 = .ok (.iconst 0, 1) := by decide +kernel
theorem dX1_burntByAmounts_1 : decode cX1_burntByAmounts 1 = .ok (.istore_n 1, 1) := by decide +kernel
theorem dX1_burntByAmounts_2 : decode cX1_burntByAmounts 2 = .ok (.iconst 0, 1) := by decide +kernel
theorem dX1_burntByAmounts_3 : decode cX1_burntByAmounts 3 = .ok (.istore_n 2, 1) := by decide +kernel
theorem dX1_burntByAmounts_4 : decode cX1_burntByAmounts 4 = .ok (.iload_n 2, 1) := by decide +kernel
theorem dX1_burntByAmounts_5 : decode cX1_burntByAmounts 5 = .ok (.aload_n 0, 1) := by decide +kernel
theorem dX1_burntByAmounts_6 : decode cX1_burntByAmounts 6 = .ok (.getfield 24, 3) := by decide +kernel
theorem dX1_burntByAmounts_9 : decode cX1_burntByAmounts 9 = .ok (.arraylength, 1) := by decide +kernel
theorem dX1_burntByAmounts_10 : decode cX1_burntByAmounts 10 = .ok (.if_icmp .ge 20, 3) := by decide +kernel
theorem dX1_burntByAmounts_13 : decode cX1_burntByAmounts 13 = .ok (.iload_n 1, 1) := by decide +kernel
theorem dX1_burntByAmounts_14 : decode cX1_burntByAmounts 14 = .ok (.iload_n 2, 1) := by decide +kernel
theorem dX1_burntByAmounts_15 : decode cX1_burntByAmounts 15 = .ok (.aload_n 0, 1) := by decide +kernel
theorem dX1_burntByAmounts_16 : decode cX1_burntByAmounts 16 = .ok (.getfield 24, 3) := by decide +kernel
theorem dX1_burntByAmounts_19 : decode cX1_burntByAmounts 19 = .ok (.iload_n 2, 1) := by decide +kernel
theorem dX1_burntByAmounts_20 : decode cX1_burntByAmounts 20 = .ok (.iaload, 1) := by decide +kernel
theorem dX1_burntByAmounts_21 : decode cX1_burntByAmounts 21 = .ok (.imul, 1) := by decide +kernel
theorem dX1_burntByAmounts_22 : decode cX1_burntByAmounts 22 = .ok (.iadd, 1) := by decide +kernel
theorem dX1_burntByAmounts_23 : decode cX1_burntByAmounts 23 = .ok (.istore_n 1, 1) := by decide +kernel
theorem dX1_burntByAmounts_24 : decode cX1_burntByAmounts 24 = .ok (.iinc 2 1, 3) := by decide +kernel
theorem dX1_burntByAmounts_27 : decode cX1_burntByAmounts 27 = .ok (.goto (-23), 3) := by decide +kernel
theorem dX1_burntByAmounts_30 : decode cX1_burntByAmounts 30 = .ok (.iload_n 1, 1) := by decide +kernel
theorem dX1_burntByAmounts_31 : decode cX1_burntByAmounts 31 = .ok (.ireturn, 1) := by decide +kernel
theorem dX1_isInBalance_0 : decode cX1_isInBalance 0 = .ok (.iconst 0, 1) := by decide +kernel
theorem dX1_isInBalance_1 : decode cX1_isInBalance 1 = .ok (.istore_n 1, 1) := by decide +kernel
theorem dX1_isInBalance_2 : decode cX1_isInBalance 2 = .ok (.iconst 0, 1) := by decide +kernel
theorem dX1_isInBalance_3 : decode cX1_isInBalance 3 = .ok (.istore_n 2, 1) := by decide +kernel
theorem dX1_isInBalance_4 : decode cX1_isInBalance 4 = .ok (.iload_n 2, 1) := by decide +kernel
theorem dX1_isInBalance_5 : decode cX1_isInBalance 5 = .ok (.aload_n 0, 1) := by decide +kernel
theorem dX1_isInBalance_6 : decode cX1_isInBalance 6 = .ok (.getfield 24, 3) := by decide +kernel
theorem dX1_isInBalance_9 : decode cX1_isInBalance 9 = .ok (.arraylength, 1) := by decide +kernel
theorem dX1_isInBalance_10 : decode cX1_isInBalance 10 = .ok (.if_icmp .ge 18, 3) := by decide +kernel
theorem dX1_isInBalance_13 : decode cX1_isInBalance 13 = .ok (.iload_n 1, 1) := by decide +kernel
theorem dX1_isInBalance_14 : decode cX1_isInBalance 14 = .ok (.aload_n 0, 1) := by decide +kernel
theorem dX1_isInBalance_15 : decode cX1_isInBalance 15 = .ok (.getfield 24, 3) := by decide +kernel
theorem dX1_isInBalance_18 : decode cX1_isInBalance 18 = .ok (.iload_n 2, 1) := by decide +kernel
theorem dX1_isInBalance_19 : decode cX1_isInBalance 19 = .ok (.iaload, 1) := by decide +kernel
theorem dX1_isInBalance_20 : decode cX1_isInBalance 20 = .ok (.iadd, 1) := by decide +kernel
theorem dX1_isInBalance_21 : decode cX1_isInBalance 21 = .ok (.istore_n 1, 1) := by decide +kernel
theorem dX1_isInBalance_22 : decode cX1_isInBalance 22 = .ok (.iinc 2 1, 3) := by decide +kernel
theorem dX1_isInBalance_25 : decode cX1_isInBalance 25 = .ok (.goto (-21), 3) := by decide +kernel
theorem dX1_isInBalance_28 : decode cX1_isInBalance 28 = .ok (.aload_n 0, 1) := by decide +kernel
theorem dX1_isInBalance_29 : decode cX1_isInBalance 29 = .ok (.getfield 18, 3) := by decide +kernel
theorem dX1_isInBalance_32 : decode cX1_isInBalance 32 = .ok (.aload_n 0, 1) := by decide +kernel
theorem dX1_isInBalance_33 : decode cX1_isInBalance 33 = .ok (.getfield 15, 3) := by decide +kernel
theorem dX1_isInBalance_36 : decode cX1_isInBalance 36 = .ok (.aload_n 0, 1) := by decide +kernel
theorem dX1_isInBalance_37 : decode cX1_isInBalance 37 = .ok (.getfield 21, 3) := by decide +kernel
theorem dX1_isInBalance_40 : decode cX1_isInBalance 40 = .ok (.iadd, 1) := by decide +kernel
theorem dX1_isInBalance_41 : decode cX1_isInBalance 41 = .ok (.if_icmp .ne 26, 3) := by decide +kernel
theorem dX1_isInBalance_44 : decode cX1_isInBalance 44 = .ok (.aload_n 0, 1) := by decide +kernel
theorem dX1_isInBalance_45 : decode cX1_isInBalance 45 = .ok (.getfield 21, 3) := by decide +kernel
theorem dX1_isInBalance_48 : decode cX1_isInBalance 48 = .ok (.aload_n 0, 1) := by decide +kernel
theorem dX1_isInBalance_49 : decode cX1_isInBalance 49 = .ok (.invokevirtual 57, 3) := by decide +kernel
theorem dX1_isInBalance_52 : decode cX1_isInBalance 52 = .ok (.if_icmp .ne 15, 3) := by decide +kernel
theorem dX1_isInBalance_55 : decode cX1_isInBalance 55 = .ok (.aload_n 0, 1) := by decide +kernel
theorem dX1_isInBalance_56 : decode cX1_isInBalance 56 = .ok (.getfield 9, 3) := by decide +kernel
theorem dX1_isInBalance_59 : decode cX1_isInBalance 59 = .ok (.iload_n 1, 1) := by decide +kernel
theorem dX1_isInBalance_60 : decode cX1_isInBalance 60 = .ok (.if_icmp .ne 7, 3) := by decide +kernel
theorem dX1_isInBalance_63 : decode cX1_isInBalance 63 = .ok (.iconst 1, 1) := by decide +kernel
theorem dX1_isInBalance_64 : decode cX1_isInBalance 64 = .ok (.goto 4, 3) := by decide +kernel
theorem dX1_isInBalance_67 : decode cX1_isInBalance 67 = .ok (.iconst 0, 1) := by decide +kernel
theorem dX1_isInBalance_68 : decode cX1_isInBalance 68 = .ok (.ireturn, 1) := by decide +kernel
theorem dX1_logStart_0 : decode cX1_logStart 0 = .ok (.iload_n 0, 1) := by decide +kernel
theorem dX1_logStart_1 : decode cX1_logStart 1 = .ok (.bipush 12, 2) := by decide +kernel
theorem dX1_logStart_3 : decode cX1_logStart 3 = .ok (.irem, 1) := by decide +kernel
theorem dX1_logStart_4 : decode cX1_logStart 4 = .ok (.iconst 4, 1) := by decide +kernel
theorem dX1_logStart_5 : decode cX1_logStart 5 = .ok (.imul, 1) := by decide +kernel
theorem dX1_logStart_6 : decode cX1_logStart 6 = .ok (.ireturn, 1) := by decide +kernel
theorem dX2_init_0 : decode cX2_init 0 = .ok (.aload_n 0, 1) := by decide +kernel
theorem dX2_init_1 : decode cX2_init 1 = .ok (.invokespecial 3, 3) := by decide +kernel
theorem dX2_init_4 : decode cX2_init 4 = .ok (.aload_n 0, 1) := by decide +kernel
theorem dX2_init_5 : decode cX2_init 5 = .ok (.iconst 0, 1) := by decide +kernel
theorem dX2_init_6 : decode cX2_init 6 = .ok (.putfield 9, 3) := by decide +kernel
theorem dX2_init_9 : decode cX2_init 9 = .ok (.aload_n 0, 1) := by decide +kernel
theorem dX2_init_10 : decode cX2_init 10 = .ok (.iconst 0, 1) := by decide +kernel
theorem dX2_init_11 : decode cX2_init 11 = .ok (.putfield 15, 3) := by decide +kernel
theorem dX2_init_14 : decode cX2_init 14 = .ok (.aload_n 0, 1) := by decide +kernel
theorem dX2_init_15 : decode cX2_init 15 = .ok (.bipush 8, 2) := by decide +kernel
theorem dX2_init_17 : decode cX2_init 17 = .ok (.anewarray 18, 3) := by decide +kernel
theorem dX2_init_20 : decode cX2_init 20 = .ok (.putfield 20, 3) := by decide +kernel
theorem dX2_init_23 : decode cX2_init 23 = .ok (.iconst 0, 1) := by decide +kernel
theorem dX2_init_24 : decode cX2_init 24 = .ok (.istore_n 1, 1) := by decide +kernel
theorem dX2_init_25 : decode cX2_init 25 = .ok (.iload_n 1, 1) := by decide +kernel
theorem dX2_init_26 : decode cX2_init 26 = .ok (.aload_n 0, 1) := by decide +kernel
theorem dX2_init_27 : decode cX2_init 27 = .ok (.getfield 20, 3) := by decide +kernel
theorem dX2_init_30 : decode cX2_init 30 = .ok (.arraylength, 1) := by decide +kernel
theorem dX2_init_31 : decode cX2_init 31 = .ok (.if_icmp .ge 22, 3) := by decide +kernel
theorem dX2_init_34 : decode cX2_init 34 = .ok (.aload_n 0, 1) := by decide +kernel
theorem dX2_init_35 : decode cX2_init 35 = .ok (.getfield 20, 3) := by decide +kernel
theorem dX2_init_38 : decode cX2_init 38 = .ok (.iload_n 1, 1) := by decide +kernel
theorem dX2_init_39 : decode cX2_init 39 = .ok (.new 18, 3) := by decide +kernel
theorem dX2_init_42 : decode cX2_init 42 = .ok (.dup, 1) := by decide +kernel
theorem dX2_init_43 : decode cX2_init 43 = .ok (.invokespecial 24, 3) := by decide +kernel
theorem dX2_init_46 : decode cX2_init 46 = .ok (.aastore, 1) := by decide +kernel
theorem dX2_init_47 : decode cX2_init 47 = .ok (.iinc 1 1, 3) := by decide +kernel
theorem dX2_init_50 : decode cX2_init 50 = .ok (.goto (-25), 3) := by decide +kernel
theorem dX2_init_53 : decode cX2_init 53 = .ok (.return_, 1) := by decide +kernel
theorem dX2_keep_0 : decode cX2_keep 0 = .ok (.aload_n 0, 1) := by decide +kernel
theorem dX2_keep_1 : decode cX2_keep 1 = .ok (.getfield 9, 3) := by decide +kernel
theorem dX2_keep_4 : decode cX2_keep 4 = .ok (.bipush 8, 2) := by decide +kernel
theorem dX2_keep_6 : decode cX2_keep 6 = .ok (.if_icmp .ne 26, 3) := by decide +kernel
theorem dX2_keep_9 : decode cX2_keep 9 = .ok (.aload_n 0, 1) := by decide +kernel
theorem dX2_keep_10 : decode cX2_keep 10 = .ok (.aload_n 0, 1) := by decide +kernel
theorem dX2_keep_11 : decode cX2_keep 11 = .ok (.getfield 15, 3) := by decide +kernel
theorem dX2_keep_14 : decode cX2_keep 14 = .ok (.iconst 1, 1) := by decide +kernel
theorem dX2_keep_15 : decode cX2_keep 15 = .ok (.iadd, 1) := by decide +kernel
theorem dX2_keep_16 : decode cX2_keep 16 = .ok (.bipush 8, 2) := by decide +kernel
theorem dX2_keep_18 : decode cX2_keep 18 = .ok (.irem, 1) := by decide +kernel
theorem dX2_keep_19 : decode cX2_keep 19 = .ok (.putfield 15, 3) := by decide +kernel
theorem dX2_keep_22 : decode cX2_keep 22 = .ok (.aload_n 0, 1) := by decide +kernel
theorem dX2_keep_23 : decode cX2_keep 23 = .ok (.dup, 1) := by decide +kernel
theorem dX2_keep_24 : decode cX2_keep 24 = .ok (.getfield 9, 3) := by decide +kernel
theorem dX2_keep_27 : decode cX2_keep 27 = .ok (.iconst 1, 1) := by decide +kernel
theorem dX2_keep_28 : decode cX2_keep 28 = .ok (.isub, 1) := by decide +kernel
theorem dX2_keep_29 : decode cX2_keep 29 = .ok (.putfield 9, 3) := by decide +kernel
theorem dX2_keep_32 : decode cX2_keep 32 = .ok (.aload_n 0, 1) := by decide +kernel
theorem dX2_keep_33 : decode cX2_keep 33 = .ok (.aload_n 0, 1) := by decide +kernel
theorem dX2_keep_34 : decode cX2_keep 34 = .ok (.getfield 9, 3) := by decide +kernel
theorem dX2_keep_37 : decode cX2_keep 37 = .ok (.invokevirtual 25, 3) := by decide +kernel
theorem dX2_keep_40 : decode cX2_keep 40 = .ok (.astore_n 2, 1) := by decide +kernel
theorem dX2_keep_41 : decode cX2_keep 41 = .ok (.aload_n 2, 1) := by decide +kernel
theorem dX2_keep_42 : decode cX2_keep 42 = .ok (.ifnull 8, 3) := by decide +kernel
theorem dX2_keep_45 : decode cX2_keep 45 = .ok (.aload_n 2, 1) := by decide +kernel
theorem dX2_keep_46 : decode cX2_keep 46 = .ok (.aload_n 1, 1) := by decide +kernel
theorem dX2_keep_47 : decode cX2_keep 47 = .ok (.invokevirtual 29, 3) := by decide +kernel
theorem dX2_keep_50 : decode cX2_keep 50 = .ok (.aload_n 0, 1) := by decide +kernel
theorem dX2_keep_51 : decode cX2_keep 51 = .ok (.dup, 1) := by decide +kernel
theorem dX2_keep_52 : decode cX2_keep 52 = .ok (.getfield 9, 3) := by decide +kernel
theorem dX2_keep_55 : decode cX2_keep 55 = .ok (.iconst 1, 1) := by decide +kernel
theorem dX2_keep_56 : decode cX2_keep 56 = .ok (.iadd, 1) := by decide +kernel
theorem dX2_keep_57 : decode cX2_keep 57 = .ok (.putfield 9, 3) := by decide +kernel
theorem dX2_keep_60 : decode cX2_keep 60 = .ok (.return_, 1) := by decide +kernel
theorem dX2_takeBack_0 : decode cX2_takeBack 0 = .ok (.aload_n 0, 1) := by decide +kernel
theorem dX2_takeBack_1 : decode cX2_takeBack 1 = .ok (.getfield 9, 3) := by decide +kernel
theorem dX2_takeBack_4 : decode cX2_takeBack 4 = .ok (.ifCond .ne 7, 3) := by decide +kernel
theorem dX2_takeBack_7 : decode cX2_takeBack 7 = .ok (.sipush (-10005), 3) := by decide +kernel
theorem dX2_takeBack_10 : decode cX2_takeBack 10 = .ok (.ireturn, 1) := by decide +kernel
theorem dX2_takeBack_11 : decode cX2_takeBack 11 = .ok (.aload_n 0, 1) := by decide +kernel
theorem dX2_takeBack_12 : decode cX2_takeBack 12 = .ok (.dup, 1) := by decide +kernel
theorem dX2_takeBack_13 : decode cX2_takeBack 13 = .ok (.getfield 9, 3) := by decide +kernel
theorem dX2_takeBack_16 : decode cX2_takeBack 16 = .ok (.iconst 1, 1) := by decide +kernel
theorem dX2_takeBack_17 : decode cX2_takeBack 17 = .ok (.isub, 1) := by decide +kernel
theorem dX2_takeBack_18 : decode cX2_takeBack 18 = .ok (.putfield 9, 3) := by decide +kernel
theorem dX2_takeBack_21 : decode cX2_takeBack 21 = .ok (.aload_n 0, 1) := by decide +kernel
theorem dX2_takeBack_22 : decode cX2_takeBack 22 = .ok (.aload_n 0, 1) := by decide +kernel
theorem dX2_takeBack_23 : decode cX2_takeBack 23 = .ok (.getfield 9, 3) := by decide +kernel
theorem dX2_takeBack_26 : decode cX2_takeBack 26 = .ok (.invokevirtual 25, 3) := by decide +kernel
theorem dX2_takeBack_29 : decode cX2_takeBack 29 = .ok (.astore_n 2, 1) := by decide +kernel
theorem dX2_takeBack_30 : decode cX2_takeBack 30 = .ok (.aload_n 2, 1) := by decide +kernel
theorem dX2_takeBack_31 : decode cX2_takeBack 31 = .ok (.ifnull 8, 3) := by decide +kernel
theorem dX2_takeBack_34 : decode cX2_takeBack 34 = .ok (.aload_n 1, 1) := by decide +kernel
theorem dX2_takeBack_35 : decode cX2_takeBack 35 = .ok (.aload_n 2, 1) := by decide +kernel
theorem dX2_takeBack_36 : decode cX2_takeBack 36 = .ok (.invokevirtual 29, 3) := by decide +kernel
theorem dX2_takeBack_39 : decode cX2_takeBack 39 = .ok (.aload_n 0, 1) := by decide +kernel
theorem dX2_takeBack_40 : decode cX2_takeBack 40 = .ok (.getfield 9, 3) := by decide +kernel
theorem dX2_takeBack_43 : decode cX2_takeBack 43 = .ok (.ireturn, 1) := by decide +kernel
theorem dX2_kilnAt_0 : decode cX2_kilnAt 0 = .ok (.aload_n 0, 1) := by decide +kernel
theorem dX2_kilnAt_1 : decode cX2_kilnAt 1 = .ok (.getfield 15, 3) := by decide +kernel
theorem dX2_kilnAt_4 : decode cX2_kilnAt 4 = .ok (.iload_n 1, 1) := by decide +kernel
theorem dX2_kilnAt_5 : decode cX2_kilnAt 5 = .ok (.iadd, 1) := by decide +kernel
theorem dX2_kilnAt_6 : decode cX2_kilnAt 6 = .ok (.bipush 8, 2) := by decide +kernel
theorem dX2_kilnAt_8 : decode cX2_kilnAt 8 = .ok (.irem, 1) := by decide +kernel
theorem dX2_kilnAt_9 : decode cX2_kilnAt 9 = .ok (.istore_n 2, 1) := by decide +kernel
theorem dX2_kilnAt_10 : decode cX2_kilnAt 10 = .ok (.iload_n 2, 1) := by decide +kernel
theorem dX2_kilnAt_11 : decode cX2_kilnAt 11 = .ok (.ifCond .lt 21, 3) := by decide +kernel
theorem dX2_kilnAt_14 : decode cX2_kilnAt 14 = .ok (.iload_n 2, 1) := by decide +kernel
theorem dX2_kilnAt_15 : decode cX2_kilnAt 15 = .ok (.aload_n 0, 1) := by decide +kernel
theorem dX2_kilnAt_16 : decode cX2_kilnAt 16 = .ok (.getfield 20, 3) := by decide +kernel
theorem dX2_kilnAt_19 : decode cX2_kilnAt 19 = .ok (.arraylength, 1) := by decide +kernel
theorem dX2_kilnAt_20 : decode cX2_kilnAt 20 = .ok (.if_icmp .ge 12, 3) := by decide +kernel
theorem dX2_kilnAt_23 : decode cX2_kilnAt 23 = .ok (.aload_n 0, 1) := by decide +kernel
theorem dX2_kilnAt_24 : decode cX2_kilnAt 24 = .ok (.getfield 20, 3) := by decide +kernel
theorem dX2_kilnAt_27 : decode cX2_kilnAt 27 = .ok (.iload_n 2, 1) := by decide +kernel
theorem dX2_kilnAt_28 : decode cX2_kilnAt 28 = .ok (.aaload, 1) := by decide +kernel
theorem dX2_kilnAt_29 : decode cX2_kilnAt 29 = .ok (.goto 4, 3) := by decide +kernel
theorem dX2_kilnAt_32 : decode cX2_kilnAt 32 = .ok (.aconst_null, 1) := by decide +kernel
theorem dX2_kilnAt_33 : decode cX2_kilnAt 33 = .ok (.areturn, 1) := by decide +kernel
theorem dX3_init_0 : decode cX3_init 0 = .ok (.aload_n 0, 1) := by decide +kernel
theorem dX3_init_1 : decode cX3_init 1 = .ok (.invokespecial 3, 3) := by decide +kernel
theorem dX3_init_4 : decode cX3_init 4 = .ok (.aload_n 0, 1) := by decide +kernel
theorem dX3_init_5 : decode cX3_init 5 = .ok (.bipush 20, 2) := by decide +kernel
theorem dX3_init_7 : decode cX3_init 7 = .ok (.putfield 9, 3) := by decide +kernel
theorem dX3_init_10 : decode cX3_init 10 = .ok (.aload_n 0, 1) := by decide +kernel
theorem dX3_init_11 : decode cX3_init 11 = .ok (.bipush 20, 2) := by decide +kernel
theorem dX3_init_13 : decode cX3_init 13 = .ok (.putfield 15, 3) := by decide +kernel
theorem dX3_init_16 : decode cX3_init 16 = .ok (.aload_n 0, 1) := by decide +kernel
theorem dX3_init_17 : decode cX3_init 17 = .ok (.iconst 0, 1) := by decide +kernel
theorem dX3_init_18 : decode cX3_init 18 = .ok (.putfield 18, 3) := by decide +kernel
theorem dX3_init_21 : decode cX3_init 21 = .ok (.aload_n 0, 1) := by decide +kernel
theorem dX3_init_22 : decode cX3_init 22 = .ok (.iconst 0, 1) := by decide +kernel
theorem dX3_init_23 : decode cX3_init 23 = .ok (.putfield 21, 3) := by decide +kernel
theorem dX3_init_26 : decode cX3_init 26 = .ok (.aload_n 0, 1) := by decide +kernel
theorem dX3_init_27 : decode cX3_init 27 = .ok (.new 24, 3) := by decide +kernel
theorem dX3_init_30 : decode cX3_init 30 = .ok (.dup, 1) := by decide +kernel
theorem dX3_init_31 : decode cX3_init 31 = .ok (.invokespecial 26, 3) := by decide +kernel
theorem dX3_init_34 : decode cX3_init 34 = .ok (.putfield 27, 3) := by decide +kernel
theorem dX3_init_37 : decode cX3_init 37 = .ok (.aload_n 0, 1) := by decide +kernel
theorem dX3_init_38 : decode cX3_init 38 = .ok (.new 31, 3) := by decide +kernel
theorem dX3_init_41 : decode cX3_init 41 = .ok (.dup, 1) := by decide +kernel
theorem dX3_init_42 : decode cX3_init 42 = .ok (.invokespecial 33, 3) := by decide +kernel
theorem dX3_init_45 : decode cX3_init 45 = .ok (.putfield 34, 3) := by decide +kernel
theorem dX3_init_48 : decode cX3_init 48 = .ok (.aload_n 0, 1) := by decide +kernel
theorem dX3_init_49 : decode cX3_init 49 = .ok (.new 38, 3) := by decide +kernel
theorem dX3_init_52 : decode cX3_init 52 = .ok (.dup, 1) := by decide +kernel
theorem dX3_init_53 : decode cX3_init 53 = .ok (.invokespecial 40, 3) := by decide +kernel
theorem dX3_init_56 : decode cX3_init 56 = .ok (.putfield 41, 3) := by decide +kernel
theorem dX3_init_59 : decode cX3_init 59 = .ok (.aload_n 0, 1) := by decide +kernel
theorem dX3_init_60 : decode cX3_init 60 = .ok (.new 45, 3) := by decide +kernel
theorem dX3_init_63 : decode cX3_init 63 = .ok (.dup, 1) := by decide +kernel
theorem dX3_init_64 : decode cX3_init 64 = .ok (.invokespecial 47, 3) := by decide +kernel
theorem dX3_init_67 : decode cX3_init 67 = .ok (.putfield 48, 3) := by decide +kernel
theorem dX3_init_70 : decode cX3_init 70 = .ok (.return_, 1) := by decide +kernel
theorem dX3_copyFrom_0 : decode cX3_copyFrom 0 = .ok (.aload_n 0, 1) := by decide +kernel
theorem dX3_copyFrom_1 : decode cX3_copyFrom 1 = .ok (.aload_n 1, 1) := by decide +kernel
theorem dX3_copyFrom_2 : decode cX3_copyFrom 2 = .ok (.getfield 9, 3) := by decide +kernel
theorem dX3_copyFrom_5 : decode cX3_copyFrom 5 = .ok (.putfield 9, 3) := by decide +kernel
theorem dX3_copyFrom_8 : decode cX3_copyFrom 8 = .ok (.aload_n 0, 1) := by decide +kernel
theorem dX3_copyFrom_9 : decode cX3_copyFrom 9 = .ok (.aload_n 1, 1) := by decide +kernel
theorem dX3_copyFrom_10 : decode cX3_copyFrom 10 = .ok (.getfield 15, 3) := by decide +kernel
theorem dX3_copyFrom_13 : decode cX3_copyFrom 13 = .ok (.putfield 15, 3) := by decide +kernel
theorem dX3_copyFrom_16 : decode cX3_copyFrom 16 = .ok (.aload_n 0, 1) := by decide +kernel
theorem dX3_copyFrom_17 : decode cX3_copyFrom 17 = .ok (.aload_n 1, 1) := by decide +kernel
theorem dX3_copyFrom_18 : decode cX3_copyFrom 18 = .ok (.getfield 18, 3) := by decide +kernel
theorem dX3_copyFrom_21 : decode cX3_copyFrom 21 = .ok (.putfield 18, 3) := by decide +kernel
theorem dX3_copyFrom_24 : decode cX3_copyFrom 24 = .ok (.aload_n 0, 1) := by decide +kernel
theorem dX3_copyFrom_25 : decode cX3_copyFrom 25 = .ok (.aload_n 1, 1) := by decide +kernel
theorem dX3_copyFrom_26 : decode cX3_copyFrom 26 = .ok (.getfield 21, 3) := by decide +kernel
theorem dX3_copyFrom_29 : decode cX3_copyFrom 29 = .ok (.putfield 21, 3) := by decide +kernel
theorem dX3_copyFrom_32 : decode cX3_copyFrom 32 = .ok (.aload_n 0, 1) := by decide +kernel
theorem dX3_copyFrom_33 : decode cX3_copyFrom 33 = .ok (.getfield 27, 3) := by decide +kernel
theorem dX3_copyFrom_36 : decode cX3_copyFrom 36 = .ok (.aload_n 1, 1) := by decide +kernel
theorem dX3_copyFrom_37 : decode cX3_copyFrom 37 = .ok (.getfield 27, 3) := by decide +kernel
theorem dX3_copyFrom_40 : decode cX3_copyFrom 40 = .ok (.invokevirtual 52, 3) := by decide +kernel
theorem dX3_copyFrom_43 : decode cX3_copyFrom 43 = .ok (.aload_n 0, 1) := by decide +kernel
theorem dX3_copyFrom_44 : decode cX3_copyFrom 44 = .ok (.getfield 34, 3) := by decide +kernel
theorem dX3_copyFrom_47 : decode cX3_copyFrom 47 = .ok (.aload_n 1, 1) := by decide +kernel
theorem dX3_copyFrom_48 : decode cX3_copyFrom 48 = .ok (.getfield 34, 3) := by decide +kernel
theorem dX3_copyFrom_51 : decode cX3_copyFrom 51 = .ok (.invokevirtual 56, 3) := by decide +kernel
theorem dX3_copyFrom_54 : decode cX3_copyFrom 54 = .ok (.aload_n 0, 1) := by decide +kernel
theorem dX3_copyFrom_55 : decode cX3_copyFrom 55 = .ok (.getfield 41, 3) := by decide +kernel
theorem dX3_copyFrom_58 : decode cX3_copyFrom 58 = .ok (.aload_n 1, 1) := by decide +kernel
theorem dX3_copyFrom_59 : decode cX3_copyFrom 59 = .ok (.getfield 41, 3) := by decide +kernel
theorem dX3_copyFrom_62 : decode cX3_copyFrom 62 = .ok (.invokevirtual 59, 3) := by decide +kernel
theorem dX3_copyFrom_65 : decode cX3_copyFrom 65 = .ok (.aload_n 0, 1) := by decide +kernel
theorem dX3_copyFrom_66 : decode cX3_copyFrom 66 = .ok (.getfield 48, 3) := by decide +kernel
theorem dX3_copyFrom_69 : decode cX3_copyFrom 69 = .ok (.aload_n 1, 1) := by decide +kernel
theorem dX3_copyFrom_70 : decode cX3_copyFrom 70 = .ok (.getfield 48, 3) := by decide +kernel
theorem dX3_copyFrom_73 : decode cX3_copyFrom 73 = .ok (.invokevirtual 62, 3) := by decide +kernel
theorem dX3_copyFrom_76 : decode cX3_copyFrom 76 = .ok (.return_, 1) := by decide +kernel
theorem dX3_error_0 : decode cX3_error 0 = .ok (.aload_n 0, 1) := by decide +kernel
theorem dX3_error_1 : decode cX3_error 1 = .ok (.getfield 15, 3) := by decide +kernel
theorem dX3_error_4 : decode cX3_error 4 = .ok (.aload_n 0, 1) := by decide +kernel
theorem dX3_error_5 : decode cX3_error 5 = .ok (.getfield 9, 3) := by decide +kernel
theorem dX3_error_8 : decode cX3_error 8 = .ok (.isub, 1) := by decide +kernel
theorem dX3_error_9 : decode cX3_error 9 = .ok (.ireturn, 1) := by decide +kernel
theorem dX3_aimAt_0 : decode cX3_aimAt 0 = .ok (.bipush 20, 2) := by decide +kernel
theorem dX3_aimAt_2 : decode cX3_aimAt 2 = .ok (.iload_n 1, 1) := by decide +kernel
theorem dX3_aimAt_3 : decode cX3_aimAt 3 = .ok (.sipush 1200, 3) := by decide +kernel
theorem dX3_aimAt_6 : decode cX3_aimAt 6 = .ok (.invokestatic 65, 3) := by decide +kernel
theorem dX3_aimAt_9 : decode cX3_aimAt 9 = .ok (.ifCond .ne 7, 3) := by decide +kernel
theorem dX3_aimAt_12 : decode cX3_aimAt 12 = .ok (.sipush (-10002), 3) := by decide +kernel
theorem dX3_aimAt_15 : decode cX3_aimAt 15 = .ok (.ireturn, 1) := by decide +kernel
theorem dX3_aimAt_16 : decode cX3_aimAt 16 = .ok (.iload_n 1, 1) := by decide +kernel
theorem dX3_aimAt_17 : decode cX3_aimAt 17 = .ok (.aload_n 0, 1) := by decide +kernel
theorem dX3_aimAt_18 : decode cX3_aimAt 18 = .ok (.getfield 15, 3) := by decide +kernel
theorem dX3_aimAt_21 : decode cX3_aimAt 21 = .ok (.if_icmp .ne 13, 3) := by decide +kernel
theorem dX3_aimAt_24 : decode cX3_aimAt 24 = .ok (.aload_n 2, 1) := by decide +kernel
theorem dX3_aimAt_25 : decode cX3_aimAt 25 = .ok (.iconst 5, 1) := by decide +kernel
theorem dX3_aimAt_26 : decode cX3_aimAt 26 = .ok (.aload_n 0, 1) := by decide +kernel
theorem dX3_aimAt_27 : decode cX3_aimAt 27 = .ok (.getfield 15, 3) := by decide +kernel
theorem dX3_aimAt_30 : decode cX3_aimAt 30 = .ok (.invokevirtual 69, 3) := by decide +kernel
theorem dX3_aimAt_33 : decode cX3_aimAt 33 = .ok (.ireturn, 1) := by decide +kernel
theorem dX3_aimAt_34 : decode cX3_aimAt 34 = .ok (.aload_n 0, 1) := by decide +kernel
theorem dX3_aimAt_35 : decode cX3_aimAt 35 = .ok (.getfield 15, 3) := by decide +kernel
theorem dX3_aimAt_38 : decode cX3_aimAt 38 = .ok (.istore_n 3, 1) := by decide +kernel
theorem dX3_aimAt_39 : decode cX3_aimAt 39 = .ok (.aload_n 0, 1) := by decide +kernel
theorem dX3_aimAt_40 : decode cX3_aimAt 40 = .ok (.iload_n 1, 1) := by decide +kernel
theorem dX3_aimAt_41 : decode cX3_aimAt 41 = .ok (.putfield 15, 3) := by decide +kernel
theorem dX3_aimAt_44 : decode cX3_aimAt 44 = .ok (.aload_n 0, 1) := by decide +kernel
theorem dX3_aimAt_45 : decode cX3_aimAt 45 = .ok (.iconst 0, 1) := by decide +kernel
theorem dX3_aimAt_46 : decode cX3_aimAt 46 = .ok (.putfield 18, 3) := by decide +kernel
theorem dX3_aimAt_49 : decode cX3_aimAt 49 = .ok (.iload_n 3, 1) := by decide +kernel
theorem dX3_aimAt_50 : decode cX3_aimAt 50 = .ok (.ireturn, 1) := by decide +kernel
theorem dX3_tellLag_0 : decode cX3_tellLag 0 = .ok (.iconst 0, 1) := by decide +kernel
theorem dX3_tellLag_1 : decode cX3_tellLag 1 = .ok (.iload_n 1, 1) := by decide +kernel
theorem dX3_tellLag_2 : decode cX3_tellLag 2 = .ok (.iconst 5, 1) := by decide +kernel
theorem dX3_tellLag_3 : decode cX3_tellLag 3 = .ok (.invokestatic 65, 3) := by decide +kernel
theorem dX3_tellLag_6 : decode cX3_tellLag 6 = .ok (.ifCond .ne 7, 3) := by decide +kernel
theorem dX3_tellLag_9 : decode cX3_tellLag 9 = .ok (.sipush (-10002), 3) := by decide +kernel
theorem dX3_tellLag_12 : decode cX3_tellLag 12 = .ok (.ireturn, 1) := by decide +kernel
theorem dX3_tellLag_13 : decode cX3_tellLag 13 = .ok (.aload_n 0, 1) := by decide +kernel
theorem dX3_tellLag_14 : decode cX3_tellLag 14 = .ok (.getfield 34, 3) := by decide +kernel
theorem dX3_tellLag_17 : decode cX3_tellLag 17 = .ok (.getfield 75, 3) := by decide +kernel
theorem dX3_tellLag_20 : decode cX3_tellLag 20 = .ok (.istore_n 3, 1) := by decide +kernel
theorem dX3_tellLag_21 : decode cX3_tellLag 21 = .ok (.iload_n 1, 1) := by decide +kernel
theorem dX3_tellLag_22 : decode cX3_tellLag 22 = .ok (.iload_n 3, 1) := by decide +kernel
theorem dX3_tellLag_23 : decode cX3_tellLag 23 = .ok (.if_icmp .ne 10, 3) := by decide +kernel
theorem dX3_tellLag_26 : decode cX3_tellLag 26 = .ok (.aload_n 2, 1) := by decide +kernel
theorem dX3_tellLag_27 : decode cX3_tellLag 27 = .ok (.iconst 5, 1) := by decide +kernel
theorem dX3_tellLag_28 : decode cX3_tellLag 28 = .ok (.iload_n 3, 1) := by decide +kernel
theorem dX3_tellLag_29 : decode cX3_tellLag 29 = .ok (.invokevirtual 69, 3) := by decide +kernel
theorem dX3_tellLag_32 : decode cX3_tellLag 32 = .ok (.ireturn, 1) := by decide +kernel
theorem dX3_tellLag_33 : decode cX3_tellLag 33 = .ok (.aload_n 0, 1) := by decide +kernel
theorem dX3_tellLag_34 : decode cX3_tellLag 34 = .ok (.getfield 34, 3) := by decide +kernel
theorem dX3_tellLag_37 : decode cX3_tellLag 37 = .ok (.iload_n 1, 1) := by decide +kernel
theorem dX3_tellLag_38 : decode cX3_tellLag 38 = .ok (.aload_n 0, 1) := by decide +kernel
theorem dX3_tellLag_39 : decode cX3_tellLag 39 = .ok (.getfield 21, 3) := by decide +kernel
theorem dX3_tellLag_42 : decode cX3_tellLag 42 = .ok (.invokevirtual 78, 3) := by decide +kernel
theorem dX3_tellLag_45 : decode cX3_tellLag 45 = .ok (.iload_n 3, 1) := by decide +kernel
theorem dX3_tellLag_46 : decode cX3_tellLag 46 = .ok (.ireturn, 1) := by decide +kernel
theorem dX3_letGo_0 : decode cX3_letGo 0 = .ok (.iconst 1, 1) := by decide +kernel
theorem dX3_letGo_1 : decode cX3_letGo 1 = .ok (.iload_n 1, 1) := by decide +kernel
theorem dX3_letGo_2 : decode cX3_letGo 2 = .ok (.sipush 300, 3) := by decide +kernel
theorem dX3_letGo_5 : decode cX3_letGo 5 = .ok (.invokestatic 65, 3) := by decide +kernel
theorem dX3_letGo_8 : decode cX3_letGo 8 = .ok (.ifCond .ne 7, 3) := by decide +kernel
theorem dX3_letGo_11 : decode cX3_letGo 11 = .ok (.sipush (-10002), 3) := by decide +kernel
theorem dX3_letGo_14 : decode cX3_letGo 14 = .ok (.ireturn, 1) := by decide +kernel
theorem dX3_letGo_15 : decode cX3_letGo 15 = .ok (.iconst 0, 1) := by decide +kernel
theorem dX3_letGo_16 : decode cX3_letGo 16 = .ok (.istore_n 2, 1) := by decide +kernel
theorem dX3_letGo_17 : decode cX3_letGo 17 = .ok (.iload_n 2, 1) := by decide +kernel
theorem dX3_letGo_18 : decode cX3_letGo 18 = .ok (.iload_n 1, 1) := by decide +kernel
theorem dX3_letGo_19 : decode cX3_letGo 19 = .ok (.if_icmp .ge 13, 3) := by decide +kernel
theorem dX3_letGo_22 : decode cX3_letGo 22 = .ok (.aload_n 0, 1) := by decide +kernel
theorem dX3_letGo_23 : decode cX3_letGo 23 = .ok (.invokevirtual 82, 3) := by decide +kernel
theorem dX3_letGo_26 : decode cX3_letGo 26 = .ok (.iinc 2 1, 3) := by decide +kernel
theorem dX3_letGo_29 : decode cX3_letGo 29 = .ok (.goto (-12), 3) := by decide +kernel
theorem dX3_letGo_32 : decode cX3_letGo 32 = .ok (.aload_n 0, 1) := by decide +kernel
theorem dX3_letGo_33 : decode cX3_letGo 33 = .ok (.getfield 9, 3) := by decide +kernel
theorem dX3_letGo_36 : decode cX3_letGo 36 = .ok (.ireturn, 1) := by decide +kernel
theorem dX3_passMinute_0 : decode cX3_passMinute 0 = .ok (.aload_n 0, 1) := by decide +kernel
theorem dX3_passMinute_1 : decode cX3_passMinute 1 = .ok (.invokevirtual 85, 3) := by decide +kernel
theorem dX3_passMinute_4 : decode cX3_passMinute 4 = .ok (.istore_n 1, 1) := by decide +kernel
theorem dX3_passMinute_5 : decode cX3_passMinute 5 = .ok (.aload_n 0, 1) := by decide +kernel
theorem dX3_passMinute_6 : decode cX3_passMinute 6 = .ok (.getfield 9, 3) := by decide +kernel
theorem dX3_passMinute_9 : decode cX3_passMinute 9 = .ok (.istore_n 2, 1) := by decide +kernel
theorem dX3_passMinute_10 : decode cX3_passMinute 10 = .ok (.aload_n 0, 1) := by decide +kernel
theorem dX3_passMinute_11 : decode cX3_passMinute 11 = .ok (.getfield 34, 3) := by decide +kernel
theorem dX3_passMinute_14 : decode cX3_passMinute 14 = .ok (.aload_n 0, 1) := by decide +kernel
theorem dX3_passMinute_15 : decode cX3_passMinute 15 = .ok (.getfield 27, 3) := by decide +kernel
theorem dX3_passMinute_18 : decode cX3_passMinute 18 = .ok (.iload_n 1, 1) := by decide +kernel
theorem dX3_passMinute_19 : decode cX3_passMinute 19 = .ok (.invokevirtual 89, 3) := by decide +kernel
theorem dX3_passMinute_22 : decode cX3_passMinute 22 = .ok (.invokevirtual 93, 3) := by decide +kernel
theorem dX3_passMinute_25 : decode cX3_passMinute 25 = .ok (.istore_n 3, 1) := by decide +kernel
theorem dX3_passMinute_26 : decode cX3_passMinute 26 = .ok (.aload_n 0, 1) := by decide +kernel
theorem dX3_passMinute_27 : decode cX3_passMinute 27 = .ok (.getfield 27, 3) := by decide +kernel
theorem dX3_passMinute_30 : decode cX3_passMinute 30 = .ok (.iload_n 1, 1) := by decide +kernel
theorem dX3_passMinute_31 : decode cX3_passMinute 31 = .ok (.invokevirtual 96, 3) := by decide +kernel
theorem dX3_passMinute_34 : decode cX3_passMinute 34 = .ok (.aload_n 0, 1) := by decide +kernel
theorem dX3_passMinute_35 : decode cX3_passMinute 35 = .ok (.aload_n 0, 1) := by decide +kernel
theorem dX3_passMinute_36 : decode cX3_passMinute 36 = .ok (.getfield 21, 3) := by decide +kernel
theorem dX3_passMinute_39 : decode cX3_passMinute 39 = .ok (.bipush 20, 2) := by decide +kernel
theorem dX3_passMinute_41 : decode cX3_passMinute 41 = .ok (.isub, 1) := by decide +kernel
theorem dX3_passMinute_42 : decode cX3_passMinute 42 = .ok (.iload_n 3, 1) := by decide +kernel
theorem dX3_passMinute_43 : decode cX3_passMinute 43 = .ok (.aload_n 0, 1) := by decide +kernel
theorem dX3_passMinute_44 : decode cX3_passMinute 44 = .ok (.getfield 21, 3) := by decide +kernel
theorem dX3_passMinute_47 : decode cX3_passMinute 47 = .ok (.bipush 20, 2) := by decide +kernel
theorem dX3_passMinute_49 : decode cX3_passMinute 49 = .ok (.iadd, 1) := by decide +kernel
theorem dX3_passMinute_50 : decode cX3_passMinute 50 = .ok (.invokestatic 100, 3) := by decide +kernel
theorem dX3_passMinute_53 : decode cX3_passMinute 53 = .ok (.putfield 21, 3) := by decide +kernel
theorem dX3_passMinute_56 : decode cX3_passMinute 56 = .ok (.aload_n 0, 1) := by decide +kernel
theorem dX3_passMinute_57 : decode cX3_passMinute 57 = .ok (.getfield 41, 3) := by decide +kernel
theorem dX3_passMinute_60 : decode cX3_passMinute 60 = .ok (.aload_n 0, 1) := by decide +kernel
theorem dX3_passMinute_61 : decode cX3_passMinute 61 = .ok (.getfield 21, 3) := by decide +kernel
theorem dX3_passMinute_64 : decode cX3_passMinute 64 = .ok (.invokevirtual 104, 3) := by decide +kernel
theorem dX3_passMinute_67 : decode cX3_passMinute 67 = .ok (.istore 4, 2) := by decide +kernel
theorem dX3_passMinute_69 : decode cX3_passMinute 69 = .ok (.aload_n 0, 1) := by decide +kernel
theorem dX3_passMinute_70 : decode cX3_passMinute 70 = .ok (.bipush 20, 2) := by decide +kernel
theorem dX3_passMinute_72 : decode cX3_passMinute 72 = .ok (.iload_n 2, 1) := by decide +kernel
theorem dX3_passMinute_73 : decode cX3_passMinute 73 = .ok (.iload 4, 2) := by decide +kernel
theorem dX3_passMinute_75 : decode cX3_passMinute 75 = .ok (.iconst 2, 1) := by decide +kernel
theorem dX3_passMinute_76 : decode cX3_passMinute 76 = .ok (.idiv, 1) := by decide +kernel
theorem dX3_passMinute_77 : decode cX3_passMinute 77 = .ok (.iadd, 1) := by decide +kernel
theorem dX3_passMinute_78 : decode cX3_passMinute 78 = .ok (.iload_n 2, 1) := by decide +kernel
theorem dX3_passMinute_79 : decode cX3_passMinute 79 = .ok (.bipush 20, 2) := by decide +kernel
theorem dX3_passMinute_81 : decode cX3_passMinute 81 = .ok (.isub, 1) := by decide +kernel
theorem dX3_passMinute_82 : decode cX3_passMinute 82 = .ok (.bipush 25, 2) := by decide +kernel
theorem dX3_passMinute_84 : decode cX3_passMinute 84 = .ok (.idiv, 1) := by decide +kernel
theorem dX3_passMinute_85 : decode cX3_passMinute 85 = .ok (.isub, 1) := by decide +kernel
theorem dX3_passMinute_86 : decode cX3_passMinute 86 = .ok (.invokestatic 107, 3) := by decide +kernel
theorem dX3_passMinute_89 : decode cX3_passMinute 89 = .ok (.putfield 9, 3) := by decide +kernel
theorem dX3_passMinute_92 : decode cX3_passMinute 92 = .ok (.aload_n 0, 1) := by decide +kernel
theorem dX3_passMinute_93 : decode cX3_passMinute 93 = .ok (.aload_n 0, 1) := by decide +kernel
theorem dX3_passMinute_94 : decode cX3_passMinute 94 = .ok (.getfield 18, 3) := by decide +kernel
theorem dX3_passMinute_97 : decode cX3_passMinute 97 = .ok (.aload_n 0, 1) := by decide +kernel
theorem dX3_passMinute_98 : decode cX3_passMinute 98 = .ok (.getfield 9, 3) := by decide +kernel
theorem dX3_passMinute_101 : decode cX3_passMinute 101 = .ok (.aload_n 0, 1) := by decide +kernel
theorem dX3_passMinute_102 : decode cX3_passMinute 102 = .ok (.getfield 15, 3) := by decide +kernel
theorem dX3_passMinute_105 : decode cX3_passMinute 105 = .ok (.isub, 1) := by decide +kernel
theorem dX3_passMinute_106 : decode cX3_passMinute 106 = .ok (.invokestatic 107, 3) := by decide +kernel
theorem dX3_passMinute_109 : decode cX3_passMinute 109 = .ok (.putfield 18, 3) := by decide +kernel
theorem dX3_passMinute_112 : decode cX3_passMinute 112 = .ok (.aload_n 0, 1) := by decide +kernel
theorem dX3_passMinute_113 : decode cX3_passMinute 113 = .ok (.getfield 41, 3) := by decide +kernel
theorem dX3_passMinute_116 : decode cX3_passMinute 116 = .ok (.aload_n 0, 1) := by decide +kernel
theorem dX3_passMinute_117 : decode cX3_passMinute 117 = .ok (.getfield 9, 3) := by decide +kernel
theorem dX3_passMinute_120 : decode cX3_passMinute 120 = .ok (.aload_n 0, 1) := by decide +kernel
theorem dX3_passMinute_121 : decode cX3_passMinute 121 = .ok (.getfield 21, 3) := by decide +kernel
theorem dX3_passMinute_124 : decode cX3_passMinute 124 = .ok (.iload_n 1, 1) := by decide +kernel
theorem dX3_passMinute_125 : decode cX3_passMinute 125 = .ok (.iload 4, 2) := by decide +kernel
theorem dX3_passMinute_127 : decode cX3_passMinute 127 = .ok (.invokevirtual 112, 3) := by decide +kernel
theorem dX3_passMinute_130 : decode cX3_passMinute 130 = .ok (.aload_n 0, 1) := by decide +kernel
theorem dX3_passMinute_131 : decode cX3_passMinute 131 = .ok (.getfield 48, 3) := by decide +kernel
theorem dX3_passMinute_134 : decode cX3_passMinute 134 = .ok (.aload_n 0, 1) := by decide +kernel
theorem dX3_passMinute_135 : decode cX3_passMinute 135 = .ok (.getfield 9, 3) := by decide +kernel
theorem dX3_passMinute_138 : decode cX3_passMinute 138 = .ok (.aload_n 0, 1) := by decide +kernel
theorem dX3_passMinute_139 : decode cX3_passMinute 139 = .ok (.getfield 9, 3) := by decide +kernel
theorem dX3_passMinute_142 : decode cX3_passMinute 142 = .ok (.iload_n 2, 1) := by decide +kernel
theorem dX3_passMinute_143 : decode cX3_passMinute 143 = .ok (.isub, 1) := by decide +kernel
theorem dX3_passMinute_144 : decode cX3_passMinute 144 = .ok (.invokestatic 116, 3) := by decide +kernel
theorem dX3_passMinute_147 : decode cX3_passMinute 147 = .ok (.invokevirtual 119, 3) := by decide +kernel
theorem dX3_passMinute_150 : decode cX3_passMinute 150 = .ok (.return_, 1) := by decide +kernel
theorem dX3_write_0 : decode cX3_write 0 = .ok (.aload_n 1, 1) := by decide +kernel
theorem dX3_write_1 : decode cX3_write 1 = .ok (.aload_n 0, 1) := by decide +kernel
theorem dX3_write_2 : decode cX3_write 2 = .ok (.getfield 9, 3) := by decide +kernel
theorem dX3_write_5 : decode cX3_write 5 = .ok (.invokevirtual 121, 3) := by decide +kernel
theorem dX3_write_8 : decode cX3_write 8 = .ok (.bipush 62, 2) := by decide +kernel
theorem dX3_write_10 : decode cX3_write 10 = .ok (.invokevirtual 127, 3) := by decide +kernel
theorem dX3_write_13 : decode cX3_write 13 = .ok (.aload_n 0, 1) := by decide +kernel
theorem dX3_write_14 : decode cX3_write 14 = .ok (.getfield 15, 3) := by decide +kernel
theorem dX3_write_17 : decode cX3_write 17 = .ok (.invokevirtual 121, 3) := by decide +kernel
theorem dX3_write_20 : decode cX3_write 20 = .ok (.pop, 1) := by decide +kernel
theorem dX3_write_21 : decode cX3_write 21 = .ok (.aload_n 1, 1) := by decide +kernel
theorem dX3_write_22 : decode cX3_write 22 = .ok (.bipush 100, 2) := by decide +kernel
theorem dX3_write_24 : decode cX3_write 24 = .ok (.invokevirtual 127, 3) := by decide +kernel
theorem dX3_write_27 : decode cX3_write 27 = .ok (.aload_n 0, 1) := by decide +kernel
theorem dX3_write_28 : decode cX3_write 28 = .ok (.getfield 21, 3) := by decide +kernel
theorem dX3_write_31 : decode cX3_write 31 = .ok (.invokevirtual 121, 3) := by decide +kernel
theorem dX3_write_34 : decode cX3_write 34 = .ok (.pop, 1) := by decide +kernel
theorem dX3_write_35 : decode cX3_write 35 = .ok (.aload_n 1, 1) := by decide +kernel
theorem dX3_write_36 : decode cX3_write 36 = .ok (.bipush 102, 2) := by decide +kernel
theorem dX3_write_38 : decode cX3_write 38 = .ok (.invokevirtual 127, 3) := by decide +kernel
theorem dX3_write_41 : decode cX3_write 41 = .ok (.aload_n 0, 1) := by decide +kernel
theorem dX3_write_42 : decode cX3_write 42 = .ok (.getfield 41, 3) := by decide +kernel
theorem dX3_write_45 : decode cX3_write 45 = .ok (.getfield 130, 3) := by decide +kernel
theorem dX3_write_48 : decode cX3_write 48 = .ok (.invokevirtual 121, 3) := by decide +kernel
theorem dX3_write_51 : decode cX3_write 51 = .ok (.pop, 1) := by decide +kernel
theorem dX3_write_52 : decode cX3_write 52 = .ok (.aload_n 0, 1) := by decide +kernel
theorem dX3_write_53 : decode cX3_write 53 = .ok (.getfield 34, 3) := by decide +kernel
theorem dX3_write_56 : decode cX3_write 56 = .ok (.aload_n 1, 1) := by decide +kernel
theorem dX3_write_57 : decode cX3_write 57 = .ok (.invokevirtual 133, 3) := by decide +kernel
theorem dX3_write_60 : decode cX3_write 60 = .ok (.return_, 1) := by decide +kernel
theorem dX3_accountOf_0 : decode cX3_accountOf 0 = .ok (.iload_n 1, 1) := by decide +kernel
theorem dX3_accountOf_1 : decode cX3_accountOf 1 = .ok (.tableswitch 196 0 15 #[79, 87, 92, 97, 102, 110, 118, 123, 131, 139, 144, 152, 161, 170, 179, 188], 79) := by decide +kernel
theorem dX3_accountOf_80 : decode cX3_accountOf 80 = .ok (.aload_n 0, 1) := by decide +kernel
theorem dX3_accountOf_81 : decode cX3_accountOf 81 = .ok (.getfield 41, 3) := by decide +kernel
theorem dX3_accountOf_84 : decode cX3_accountOf 84 = .ok (.getfield 137, 3) := by decide +kernel
theorem dX3_accountOf_87 : decode cX3_accountOf 87 = .ok (.ireturn, 1) := by decide +kernel
theorem dX3_accountOf_88 : decode cX3_accountOf 88 = .ok (.aload_n 0, 1) := by decide +kernel
theorem dX3_accountOf_89 : decode cX3_accountOf 89 = .ok (.getfield 9, 3) := by decide +kernel
theorem dX3_accountOf_92 : decode cX3_accountOf 92 = .ok (.ireturn, 1) := by decide +kernel
theorem dX3_accountOf_93 : decode cX3_accountOf 93 = .ok (.aload_n 0, 1) := by decide +kernel
theorem dX3_accountOf_94 : decode cX3_accountOf 94 = .ok (.getfield 15, 3) := by decide +kernel
theorem dX3_accountOf_97 : decode cX3_accountOf 97 = .ok (.ireturn, 1) := by decide +kernel
theorem dX3_accountOf_98 : decode cX3_accountOf 98 = .ok (.aload_n 0, 1) := by decide +kernel
theorem dX3_accountOf_99 : decode cX3_accountOf 99 = .ok (.invokevirtual 85, 3) := by decide +kernel
theorem dX3_accountOf_102 : decode cX3_accountOf 102 = .ok (.ireturn, 1) := by decide +kernel
theorem dX3_accountOf_103 : decode cX3_accountOf 103 = .ok (.aload_n 0, 1) := by decide +kernel
theorem dX3_accountOf_104 : decode cX3_accountOf 104 = .ok (.getfield 27, 3) := by decide +kernel
theorem dX3_accountOf_107 : decode cX3_accountOf 107 = .ok (.getfield 140, 3) := by decide +kernel
theorem dX3_accountOf_110 : decode cX3_accountOf 110 = .ok (.ireturn, 1) := by decide +kernel
theorem dX3_accountOf_111 : decode cX3_accountOf 111 = .ok (.aload_n 0, 1) := by decide +kernel
theorem dX3_accountOf_112 : decode cX3_accountOf 112 = .ok (.getfield 27, 3) := by decide +kernel
theorem dX3_accountOf_115 : decode cX3_accountOf 115 = .ok (.getfield 143, 3) := by decide +kernel
theorem dX3_accountOf_118 : decode cX3_accountOf 118 = .ok (.ireturn, 1) := by decide +kernel
theorem dX3_accountOf_119 : decode cX3_accountOf 119 = .ok (.aload_n 0, 1) := by decide +kernel
theorem dX3_accountOf_120 : decode cX3_accountOf 120 = .ok (.getfield 21, 3) := by decide +kernel
theorem dX3_accountOf_123 : decode cX3_accountOf 123 = .ok (.ireturn, 1) := by decide +kernel
theorem dX3_accountOf_124 : decode cX3_accountOf 124 = .ok (.aload_n 0, 1) := by decide +kernel
theorem dX3_accountOf_125 : decode cX3_accountOf 125 = .ok (.getfield 41, 3) := by decide +kernel
theorem dX3_accountOf_128 : decode cX3_accountOf 128 = .ok (.getfield 130, 3) := by decide +kernel
theorem dX3_accountOf_131 : decode cX3_accountOf 131 = .ok (.ireturn, 1) := by decide +kernel
theorem dX3_accountOf_132 : decode cX3_accountOf 132 = .ok (.aload_n 0, 1) := by decide +kernel
theorem dX3_accountOf_133 : decode cX3_accountOf 133 = .ok (.getfield 41, 3) := by decide +kernel
theorem dX3_accountOf_136 : decode cX3_accountOf 136 = .ok (.getfield 146, 3) := by decide +kernel
theorem dX3_accountOf_139 : decode cX3_accountOf 139 = .ok (.ireturn, 1) := by decide +kernel
theorem dX3_accountOf_140 : decode cX3_accountOf 140 = .ok (.aload_n 0, 1) := by decide +kernel
theorem dX3_accountOf_141 : decode cX3_accountOf 141 = .ok (.getfield 18, 3) := by decide +kernel
theorem dX3_accountOf_144 : decode cX3_accountOf 144 = .ok (.ireturn, 1) := by decide +kernel
theorem dX3_accountOf_145 : decode cX3_accountOf 145 = .ok (.aload_n 0, 1) := by decide +kernel
theorem dX3_accountOf_146 : decode cX3_accountOf 146 = .ok (.getfield 48, 3) := by decide +kernel
theorem dX3_accountOf_149 : decode cX3_accountOf 149 = .ok (.getfield 149, 3) := by decide +kernel
theorem dX3_accountOf_152 : decode cX3_accountOf 152 = .ok (.ireturn, 1) := by decide +kernel
theorem dX3_accountOf_153 : decode cX3_accountOf 153 = .ok (.aload_n 0, 1) := by decide +kernel
theorem dX3_accountOf_154 : decode cX3_accountOf 154 = .ok (.getfield 48, 3) := by decide +kernel
theorem dX3_accountOf_157 : decode cX3_accountOf 157 = .ok (.iconst 0, 1) := by decide +kernel
theorem dX3_accountOf_158 : decode cX3_accountOf 158 = .ok (.invokevirtual 152, 3) := by decide +kernel
theorem dX3_accountOf_161 : decode cX3_accountOf 161 = .ok (.ireturn, 1) := by decide +kernel
theorem dX3_accountOf_162 : decode cX3_accountOf 162 = .ok (.aload_n 0, 1) := by decide +kernel
theorem dX3_accountOf_163 : decode cX3_accountOf 163 = .ok (.getfield 48, 3) := by decide +kernel
theorem dX3_accountOf_166 : decode cX3_accountOf 166 = .ok (.iconst 1, 1) := by decide +kernel
theorem dX3_accountOf_167 : decode cX3_accountOf 167 = .ok (.invokevirtual 152, 3) := by decide +kernel
theorem dX3_accountOf_170 : decode cX3_accountOf 170 = .ok (.ireturn, 1) := by decide +kernel
theorem dX3_accountOf_171 : decode cX3_accountOf 171 = .ok (.aload_n 0, 1) := by decide +kernel
theorem dX3_accountOf_172 : decode cX3_accountOf 172 = .ok (.getfield 48, 3) := by decide +kernel
theorem dX3_accountOf_175 : decode cX3_accountOf 175 = .ok (.iconst 2, 1) := by decide +kernel
theorem dX3_accountOf_176 : decode cX3_accountOf 176 = .ok (.invokevirtual 152, 3) := by decide +kernel
theorem dX3_accountOf_179 : decode cX3_accountOf 179 = .ok (.ireturn, 1) := by decide +kernel
theorem dX3_accountOf_180 : decode cX3_accountOf 180 = .ok (.aload_n 0, 1) := by decide +kernel
theorem dX3_accountOf_181 : decode cX3_accountOf 181 = .ok (.getfield 48, 3) := by decide +kernel
theorem dX3_accountOf_184 : decode cX3_accountOf 184 = .ok (.iconst 3, 1) := by decide +kernel
theorem dX3_accountOf_185 : decode cX3_accountOf 185 = .ok (.invokevirtual 152, 3) := by decide +kernel
theorem dX3_accountOf_188 : decode cX3_accountOf 188 = .ok (.ireturn, 1) := by decide +kernel
theorem dX3_accountOf_189 : decode cX3_accountOf 189 = .ok (.aload_n 0, 1) := by decide +kernel
theorem dX3_accountOf_190 : decode cX3_accountOf 190 = .ok (.getfield 48, 3) := by decide +kernel
theorem dX3_accountOf_193 : decode cX3_accountOf 193 = .ok (.invokevirtual 155, 3) := by decide +kernel
theorem dX3_accountOf_196 : decode cX3_accountOf 196 = .ok (.ireturn, 1) := by decide +kernel
theorem dX3_accountOf_197 : decode cX3_accountOf 197 = .ok (.sipush (-10002), 3) := by decide +kernel
theorem dX3_accountOf_200 : decode cX3_accountOf 200 = .ok (.ireturn, 1) := by decide +kernel
theorem dX4_init_0 : decode cX4_init 0 = .ok (.aload_n 0, 1) := by decide +kernel
theorem dX4_init_1 : decode cX4_init 1 = .ok (.invokespecial 3, 3) := by decide +kernel
theorem dX4_init_4 : decode cX4_init 4 = .ok (.aload_n 0, 1) := by decide +kernel
theorem dX4_init_5 : decode cX4_init 5 = .ok (.iconst 0, 1) := by decide +kernel
theorem dX4_init_6 : decode cX4_init 6 = .ok (.putfield 9, 3) := by decide +kernel
theorem dX4_init_9 : decode cX4_init 9 = .ok (.aload_n 0, 1) := by decide +kernel
theorem dX4_init_10 : decode cX4_init 10 = .ok (.iconst 5, 1) := by decide +kernel
theorem dX4_init_11 : decode cX4_init 11 = .ok (.newarray .int, 2) := by decide +kernel
theorem dX4_init_13 : decode cX4_init 13 = .ok (.putfield 15, 3) := by decide +kernel
theorem dX4_init_16 : decode cX4_init 16 = .ok (.return_, 1) := by decide +kernel
theorem dX4_copyFrom_0 : decode cX4_copyFrom 0 = .ok (.aload_n 0, 1) := by decide +kernel
theorem dX4_copyFrom_1 : decode cX4_copyFrom 1 = .ok (.aload_n 1, 1) := by decide +kernel
theorem dX4_copyFrom_2 : decode cX4_copyFrom 2 = .ok (.getfield 9, 3) := by decide +kernel
theorem dX4_copyFrom_5 : decode cX4_copyFrom 5 = .ok (.putfield 9, 3) := by decide +kernel
theorem dX4_copyFrom_8 : decode cX4_copyFrom 8 = .ok (.aload_n 1, 1) := by decide +kernel
theorem dX4_copyFrom_9 : decode cX4_copyFrom 9 = .ok (.getfield 15, 3) := by decide +kernel
theorem dX4_copyFrom_12 : decode cX4_copyFrom 12 = .ok (.aload_n 0, 1) := by decide +kernel
theorem dX4_copyFrom_13 : decode cX4_copyFrom 13 = .ok (.getfield 15, 3) := by decide +kernel
theorem dX4_copyFrom_16 : decode cX4_copyFrom 16 = .ok (.invokestatic 19, 3) := by decide +kernel
theorem dX4_copyFrom_19 : decode cX4_copyFrom 19 = .ok (.return_, 1) := by decide +kernel
theorem dX4_passThrough_0 : decode cX4_passThrough 0 = .ok (.aload_n 0, 1) := by decide +kernel
theorem dX4_passThrough_1 : decode cX4_passThrough 1 = .ok (.getfield 9, 3) := by decide +kernel
theorem dX4_passThrough_4 : decode cX4_passThrough 4 = .ok (.ifCond .ne 5, 3) := by decide +kernel
theorem dX4_passThrough_7 : decode cX4_passThrough 7 = .ok (.iload_n 1, 1) := by decide +kernel
theorem dX4_passThrough_8 : decode cX4_passThrough 8 = .ok (.ireturn, 1) := by decide +kernel
theorem dX4_passThrough_9 : decode cX4_passThrough 9 = .ok (.aload_n 0, 1) := by decide +kernel
theorem dX4_passThrough_10 : decode cX4_passThrough 10 = .ok (.getfield 15, 3) := by decide +kernel
theorem dX4_passThrough_13 : decode cX4_passThrough 13 = .ok (.iconst 0, 1) := by decide +kernel
theorem dX4_passThrough_14 : decode cX4_passThrough 14 = .ok (.invokestatic 23, 3) := by decide +kernel
theorem dX4_passThrough_17 : decode cX4_passThrough 17 = .ok (.istore_n 2, 1) := by decide +kernel
theorem dX4_passThrough_18 : decode cX4_passThrough 18 = .ok (.aload_n 0, 1) := by decide +kernel
theorem dX4_passThrough_19 : decode cX4_passThrough 19 = .ok (.iconst (-1), 1) := by decide +kernel
theorem dX4_passThrough_20 : decode cX4_passThrough 20 = .ok (.invokevirtual 27, 3) := by decide +kernel
theorem dX4_passThrough_23 : decode cX4_passThrough 23 = .ok (.aload_n 0, 1) := by decide +kernel
theorem dX4_passThrough_24 : decode cX4_passThrough 24 = .ok (.getfield 15, 3) := by decide +kernel
theorem dX4_passThrough_27 : decode cX4_passThrough 27 = .ok (.aload_n 0, 1) := by decide +kernel
theorem dX4_passThrough_28 : decode cX4_passThrough 28 = .ok (.getfield 9, 3) := by decide +kernel
theorem dX4_passThrough_31 : decode cX4_passThrough 31 = .ok (.iconst 1, 1) := by decide +kernel
theorem dX4_passThrough_32 : decode cX4_passThrough 32 = .ok (.isub, 1) := by decide +kernel
theorem dX4_passThrough_33 : decode cX4_passThrough 33 = .ok (.iload_n 1, 1) := by decide +kernel
theorem dX4_passThrough_34 : decode cX4_passThrough 34 = .ok (.invokestatic 31, 3) := by decide +kernel
theorem dX4_passThrough_37 : decode cX4_passThrough 37 = .ok (.iload_n 2, 1) := by decide +kernel
theorem dX4_passThrough_38 : decode cX4_passThrough 38 = .ok (.ireturn, 1) := by decide +kernel
theorem dX4_resize_0 : decode cX4_resize 0 = .ok (.iload_n 1, 1) := by decide +kernel
theorem dX4_resize_1 : decode cX4_resize 1 = .ok (.aload_n 0, 1) := by decide +kernel
theorem dX4_resize_2 : decode cX4_resize 2 = .ok (.getfield 9, 3) := by decide +kernel
theorem dX4_resize_5 : decode cX4_resize 5 = .ok (.isub, 1) := by decide +kernel
theorem dX4_resize_6 : decode cX4_resize 6 = .ok (.istore_n 3, 1) := by decide +kernel
theorem dX4_resize_7 : decode cX4_resize 7 = .ok (.aload_n 0, 1) := by decide +kernel
theorem dX4_resize_8 : decode cX4_resize 8 = .ok (.iload_n 3, 1) := by decide +kernel
theorem dX4_resize_9 : decode cX4_resize 9 = .ok (.invokevirtual 27, 3) := by decide +kernel
theorem dX4_resize_12 : decode cX4_resize 12 = .ok (.iconst 0, 1) := by decide +kernel
theorem dX4_resize_13 : decode cX4_resize 13 = .ok (.istore 4, 2) := by decide +kernel
theorem dX4_resize_15 : decode cX4_resize 15 = .ok (.iload 4, 2) := by decide +kernel
theorem dX4_resize_17 : decode cX4_resize 17 = .ok (.iload_n 3, 1) := by decide +kernel
theorem dX4_resize_18 : decode cX4_resize 18 = .ok (.if_icmp .ge 19, 3) := by decide +kernel
theorem dX4_resize_21 : decode cX4_resize 21 = .ok (.aload_n 0, 1) := by decide +kernel
theorem dX4_resize_22 : decode cX4_resize 22 = .ok (.getfield 15, 3) := by decide +kernel
theorem dX4_resize_25 : decode cX4_resize 25 = .ok (.iload 4, 2) := by decide +kernel
theorem dX4_resize_27 : decode cX4_resize 27 = .ok (.iload_n 2, 1) := by decide +kernel
theorem dX4_resize_28 : decode cX4_resize 28 = .ok (.invokestatic 31, 3) := by decide +kernel
theorem dX4_resize_31 : decode cX4_resize 31 = .ok (.iinc 4 1, 3) := by decide +kernel
theorem dX4_resize_34 : decode cX4_resize 34 = .ok (.goto (-19), 3) := by decide +kernel
theorem dX4_resize_37 : decode cX4_resize 37 = .ok (.aload_n 0, 1) := by decide +kernel
theorem dX4_resize_38 : decode cX4_resize 38 = .ok (.iload_n 1, 1) := by decide +kernel
theorem dX4_resize_39 : decode cX4_resize 39 = .ok (.putfield 9, 3) := by decide +kernel
theorem dX4_resize_42 : decode cX4_resize 42 = .ok (.return_, 1) := by decide +kernel
theorem dX4_write_0 : decode cX4_write 0 = .ok (.iconst 0, 1) := by decide +kernel
theorem dX4_write_1 : decode cX4_write 1 = .ok (.istore_n 2, 1) := by decide +kernel
theorem dX4_write_2 : decode cX4_write 2 = .ok (.iload_n 2, 1) := by decide +kernel
theorem dX4_write_3 : decode cX4_write 3 = .ok (.aload_n 0, 1) := by decide +kernel
theorem dX4_write_4 : decode cX4_write 4 = .ok (.getfield 9, 3) := by decide +kernel
theorem dX4_write_7 : decode cX4_write 7 = .ok (.if_icmp .ge 27, 3) := by decide +kernel
theorem dX4_write_10 : decode cX4_write 10 = .ok (.aload_n 1, 1) := by decide +kernel
theorem dX4_write_11 : decode cX4_write 11 = .ok (.bipush 126, 2) := by decide +kernel
theorem dX4_write_13 : decode cX4_write 13 = .ok (.invokevirtual 35, 3) := by decide +kernel
theorem dX4_write_16 : decode cX4_write 16 = .ok (.aload_n 0, 1) := by decide +kernel
theorem dX4_write_17 : decode cX4_write 17 = .ok (.getfield 15, 3) := by decide +kernel
theorem dX4_write_20 : decode cX4_write 20 = .ok (.iload_n 2, 1) := by decide +kernel
theorem dX4_write_21 : decode cX4_write 21 = .ok (.invokestatic 23, 3) := by decide +kernel
theorem dX4_write_24 : decode cX4_write 24 = .ok (.invokevirtual 41, 3) := by decide +kernel
theorem dX4_write_27 : decode cX4_write 27 = .ok (.pop, 1) := by decide +kernel
theorem dX4_write_28 : decode cX4_write 28 = .ok (.iinc 2 1, 3) := by decide +kernel
theorem dX4_write_31 : decode cX4_write 31 = .ok (.goto (-29), 3) := by decide +kernel
theorem dX4_write_34 : decode cX4_write 34 = .ok (.return_, 1) := by decide +kernel
theorem dX4_shiftBy_0 : decode cX4_shiftBy 0 = .ok (.iload_n 1, 1) := by decide +kernel
theorem dX4_shiftBy_1 : decode cX4_shiftBy 1 = .ok (.ifCond .ge 37, 3) := by decide +kernel
theorem dX4_shiftBy_4 : decode cX4_shiftBy 4 = .ok (.iconst 0, 1) := by decide +kernel
theorem dX4_shiftBy_5 : decode cX4_shiftBy 5 = .ok (.istore_n 2, 1) := by decide +kernel
theorem dX4_shiftBy_6 : decode cX4_shiftBy 6 = .ok (.iload_n 2, 1) := by decide +kernel
theorem dX4_shiftBy_7 : decode cX4_shiftBy 7 = .ok (.iconst 5, 1) := by decide +kernel
theorem dX4_shiftBy_8 : decode cX4_shiftBy 8 = .ok (.if_icmp .ge 27, 3) := by decide +kernel
theorem dX4_shiftBy_11 : decode cX4_shiftBy 11 = .ok (.aload_n 0, 1) := by decide +kernel
theorem dX4_shiftBy_12 : decode cX4_shiftBy 12 = .ok (.getfield 15, 3) := by decide +kernel
theorem dX4_shiftBy_15 : decode cX4_shiftBy 15 = .ok (.iload_n 2, 1) := by decide +kernel
theorem dX4_shiftBy_16 : decode cX4_shiftBy 16 = .ok (.iload_n 1, 1) := by decide +kernel
theorem dX4_shiftBy_17 : decode cX4_shiftBy 17 = .ok (.iadd, 1) := by decide +kernel
theorem dX4_shiftBy_18 : decode cX4_shiftBy 18 = .ok (.aload_n 0, 1) := by decide +kernel
theorem dX4_shiftBy_19 : decode cX4_shiftBy 19 = .ok (.getfield 15, 3) := by decide +kernel
theorem dX4_shiftBy_22 : decode cX4_shiftBy 22 = .ok (.iload_n 2, 1) := by decide +kernel
theorem dX4_shiftBy_23 : decode cX4_shiftBy 23 = .ok (.invokestatic 23, 3) := by decide +kernel
theorem dX4_shiftBy_26 : decode cX4_shiftBy 26 = .ok (.invokestatic 31, 3) := by decide +kernel
theorem dX4_shiftBy_29 : decode cX4_shiftBy 29 = .ok (.iinc 2 1, 3) := by decide +kernel
theorem dX4_shiftBy_32 : decode cX4_shiftBy 32 = .ok (.goto (-26), 3) := by decide +kernel
theorem dX4_shiftBy_35 : decode cX4_shiftBy 35 = .ok (.goto 33, 3) := by decide +kernel
theorem dX4_shiftBy_38 : decode cX4_shiftBy 38 = .ok (.iconst 4, 1) := by decide +kernel
theorem dX4_shiftBy_39 : decode cX4_shiftBy 39 = .ok (.istore_n 2, 1) := by decide +kernel
theorem dX4_shiftBy_40 : decode cX4_shiftBy 40 = .ok (.iload_n 2, 1) := by decide +kernel
theorem dX4_shiftBy_41 : decode cX4_shiftBy 41 = .ok (.ifCond .lt 27, 3) := by decide +kernel
theorem dX4_shiftBy_44 : decode cX4_shiftBy 44 = .ok (.aload_n 0, 1) := by decide +kernel
theorem dX4_shiftBy_45 : decode cX4_shiftBy 45 = .ok (.getfield 15, 3) := by decide +kernel
theorem dX4_shiftBy_48 : decode cX4_shiftBy 48 = .ok (.iload_n 2, 1) := by decide +kernel
theorem dX4_shiftBy_49 : decode cX4_shiftBy 49 = .ok (.iload_n 1, 1) := by decide +kernel
theorem dX4_shiftBy_50 : decode cX4_shiftBy 50 = .ok (.iadd, 1) := by decide +kernel
theorem dX4_shiftBy_51 : decode cX4_shiftBy 51 = .ok (.aload_n 0, 1) := by decide +kernel
theorem dX4_shiftBy_52 : decode cX4_shiftBy 52 = .ok (.getfield 15, 3) := by decide +kernel
theorem dX4_shiftBy_55 : decode cX4_shiftBy 55 = .ok (.iload_n 2, 1) := by decide +kernel
theorem dX4_shiftBy_56 : decode cX4_shiftBy 56 = .ok (.invokestatic 23, 3) := by decide +kernel
theorem dX4_shiftBy_59 : decode cX4_shiftBy 59 = .ok (.invokestatic 31, 3) := by decide +kernel
theorem dX4_shiftBy_62 : decode cX4_shiftBy 62 = .ok (.iinc 2 (-1), 3) := by decide +kernel
theorem dX4_shiftBy_65 : decode cX4_shiftBy 65 = .ok (.goto (-25), 3) := by decide +kernel
theorem dX4_shiftBy_68 : decode cX4_shiftBy 68 = .ok (.return_, 1) := by decide +kernel
theorem dX5_init_0 : decode cX5_init 0 = .ok (.aload_n 0, 1) := by decide +kernel
theorem dX5_init_1 : decode cX5_init 1 = .ok (.invokespecial 3, 3) := by decide +kernel
theorem dX5_init_4 : decode cX5_init 4 = .ok (.aload_n 0, 1) := by decide +kernel
theorem dX5_init_5 : decode cX5_init 5 = .ok (.getstatic 9, 3) := by decide +kernel
theorem dX5_init_8 : decode cX5_init 8 = .ok (.putfield 15, 3) := by decide +kernel
theorem dX5_init_11 : decode cX5_init 11 = .ok (.aload_n 0, 1) := by decide +kernel
theorem dX5_init_12 : decode cX5_init 12 = .ok (.iconst 3, 1) := by decide +kernel
theorem dX5_init_13 : decode cX5_init 13 = .ok (.newarray .int, 2) := by decide +kernel
theorem dX5_init_15 : decode cX5_init 15 = .ok (.putfield 20, 3) := by decide +kernel
theorem dX5_init_18 : decode cX5_init 18 = .ok (.return_, 1) := by decide +kernel
theorem dX6_init_0 : decode cX6_init 0 = .ok (.aload_n 0, 1) := by decide +kernel
theorem dX6_init_1 : decode cX6_init 1 = .ok (.invokespecial 3, 3) := by decide +kernel
theorem dX6_init_4 : decode cX6_init 4 = .ok (.aload_n 0, 1) := by decide +kernel
theorem dX6_init_5 : decode cX6_init 5 = .ok (.iconst 0, 1) := by decide +kernel
theorem dX6_init_6 : decode cX6_init 6 = .ok (.putfield 9, 3) := by decide +kernel
theorem dX6_init_9 : decode cX6_init 9 = .ok (.aload_n 0, 1) := by decide +kernel
theorem dX6_init_10 : decode cX6_init 10 = .ok (.iconst 0, 1) := by decide +kernel
theorem dX6_init_11 : decode cX6_init 11 = .ok (.putfield 15, 3) := by decide +kernel
theorem dX6_init_14 : decode cX6_init 14 = .ok (.aload_n 0, 1) := by decide +kernel
theorem dX6_init_15 : decode cX6_init 15 = .ok (.iconst 0, 1) := by decide +kernel
theorem dX6_init_16 : decode cX6_init 16 = .ok (.putfield 18, 3) := by decide +kernel
theorem dX6_init_19 : decode cX6_init 19 = .ok (.aload_n 0, 1) := by decide +kernel
theorem dX6_init_20 : decode cX6_init 20 = .ok (.iconst 0, 1) := by decide +kernel
theorem dX6_init_21 : decode cX6_init 21 = .ok (.putfield 21, 3) := by decide +kernel
theorem dX6_init_24 : decode cX6_init 24 = .ok (.aload_n 0, 1) := by decide +kernel
theorem dX6_init_25 : decode cX6_init 25 = .ok (.iconst 0, 1) := by decide +kernel
theorem dX6_init_26 : decode cX6_init 26 = .ok (.putfield 24, 3) := by decide +kernel
theorem dX6_init_29 : decode cX6_init 29 = .ok (.aload_n 0, 1) := by decide +kernel
theorem dX6_init_30 : decode cX6_init 30 = .ok (.iconst 0, 1) := by decide +kernel
theorem dX6_init_31 : decode cX6_init 31 = .ok (.putfield 27, 3) := by decide +kernel
theorem dX6_init_34 : decode cX6_init 34 = .ok (.aload_n 0, 1) := by decide +kernel
theorem dX6_init_35 : decode cX6_init 35 = .ok (.iconst 0, 1) := by decide +kernel
theorem dX6_init_36 : decode cX6_init 36 = .ok (.putfield 31, 3) := by decide +kernel
theorem dX6_init_39 : decode cX6_init 39 = .ok (.return_, 1) := by decide +kernel
theorem dX6_copyFrom_0 : decode cX6_copyFrom 0 = .ok (.aload_n 0, 1) := by decide +kernel
theorem dX6_copyFrom_1 : decode cX6_copyFrom 1 = .ok (.aload_n 1, 1) := by decide +kernel
theorem dX6_copyFrom_2 : decode cX6_copyFrom 2 = .ok (.getfield 9, 3) := by decide +kernel
theorem dX6_copyFrom_5 : decode cX6_copyFrom 5 = .ok (.putfield 9, 3) := by decide +kernel
theorem dX6_copyFrom_8 : decode cX6_copyFrom 8 = .ok (.aload_n 0, 1) := by decide +kernel
theorem dX6_copyFrom_9 : decode cX6_copyFrom 9 = .ok (.aload_n 1, 1) := by decide +kernel
theorem dX6_copyFrom_10 : decode cX6_copyFrom 10 = .ok (.getfield 15, 3) := by decide +kernel
theorem dX6_copyFrom_13 : decode cX6_copyFrom 13 = .ok (.putfield 15, 3) := by decide +kernel
theorem dX6_copyFrom_16 : decode cX6_copyFrom 16 = .ok (.aload_n 0, 1) := by decide +kernel
theorem dX6_copyFrom_17 : decode cX6_copyFrom 17 = .ok (.aload_n 1, 1) := by decide +kernel
theorem dX6_copyFrom_18 : decode cX6_copyFrom 18 = .ok (.getfield 18, 3) := by decide +kernel
theorem dX6_copyFrom_21 : decode cX6_copyFrom 21 = .ok (.putfield 18, 3) := by decide +kernel
theorem dX6_copyFrom_24 : decode cX6_copyFrom 24 = .ok (.aload_n 0, 1) := by decide +kernel
theorem dX6_copyFrom_25 : decode cX6_copyFrom 25 = .ok (.aload_n 1, 1) := by decide +kernel
theorem dX6_copyFrom_26 : decode cX6_copyFrom 26 = .ok (.getfield 21, 3) := by decide +kernel
theorem dX6_copyFrom_29 : decode cX6_copyFrom 29 = .ok (.putfield 21, 3) := by decide +kernel
theorem dX6_copyFrom_32 : decode cX6_copyFrom 32 = .ok (.aload_n 0, 1) := by decide +kernel
theorem dX6_copyFrom_33 : decode cX6_copyFrom 33 = .ok (.aload_n 1, 1) := by decide +kernel
theorem dX6_copyFrom_34 : decode cX6_copyFrom 34 = .ok (.getfield 24, 3) := by decide +kernel
theorem dX6_copyFrom_37 : decode cX6_copyFrom 37 = .ok (.putfield 24, 3) := by decide +kernel
theorem dX6_copyFrom_40 : decode cX6_copyFrom 40 = .ok (.aload_n 0, 1) := by decide +kernel
theorem dX6_copyFrom_41 : decode cX6_copyFrom 41 = .ok (.aload_n 1, 1) := by decide +kernel
theorem dX6_copyFrom_42 : decode cX6_copyFrom 42 = .ok (.getfield 27, 3) := by decide +kernel
theorem dX6_copyFrom_45 : decode cX6_copyFrom 45 = .ok (.putfield 27, 3) := by decide +kernel
theorem dX6_copyFrom_48 : decode cX6_copyFrom 48 = .ok (.aload_n 0, 1) := by decide +kernel
theorem dX6_copyFrom_49 : decode cX6_copyFrom 49 = .ok (.aload_n 1, 1) := by decide +kernel
theorem dX6_copyFrom_50 : decode cX6_copyFrom 50 = .ok (.getfield 31, 3) := by decide +kernel
theorem dX6_copyFrom_53 : decode cX6_copyFrom 53 = .ok (.putfield 31, 3) := by decide +kernel
theorem dX6_copyFrom_56 : decode cX6_copyFrom 56 = .ok (.return_, 1) := by decide +kernel
theorem dX6_begin_0 : decode cX6_begin 0 = .ok (.aload_n 0, 1) := by decide +kernel
theorem dX6_begin_1 : decode cX6_begin 1 = .ok (.iload_n 1, 1) := by decide +kernel
theorem dX6_begin_2 : decode cX6_begin 2 = .ok (.putfield 9, 3) := by decide +kernel
theorem dX6_begin_5 : decode cX6_begin 5 = .ok (.aload_n 0, 1) := by decide +kernel
theorem dX6_begin_6 : decode cX6_begin 6 = .ok (.iload_n 2, 1) := by decide +kernel
theorem dX6_begin_7 : decode cX6_begin 7 = .ok (.putfield 15, 3) := by decide +kernel
theorem dX6_begin_10 : decode cX6_begin 10 = .ok (.aload_n 0, 1) := by decide +kernel
theorem dX6_begin_11 : decode cX6_begin 11 = .ok (.iload_n 3, 1) := by decide +kernel
theorem dX6_begin_12 : decode cX6_begin 12 = .ok (.putfield 18, 3) := by decide +kernel
theorem dX6_begin_15 : decode cX6_begin 15 = .ok (.aload_n 0, 1) := by decide +kernel
theorem dX6_begin_16 : decode cX6_begin 16 = .ok (.iconst 0, 1) := by decide +kernel
theorem dX6_begin_17 : decode cX6_begin 17 = .ok (.putfield 21, 3) := by decide +kernel
theorem dX6_begin_20 : decode cX6_begin 20 = .ok (.aload_n 0, 1) := by decide +kernel
theorem dX6_begin_21 : decode cX6_begin 21 = .ok (.iconst 0, 1) := by decide +kernel
theorem dX6_begin_22 : decode cX6_begin 22 = .ok (.putfield 24, 3) := by decide +kernel
theorem dX6_begin_25 : decode cX6_begin 25 = .ok (.aload_n 0, 1) := by decide +kernel
theorem dX6_begin_26 : decode cX6_begin 26 = .ok (.iconst 0, 1) := by decide +kernel
theorem dX6_begin_27 : decode cX6_begin 27 = .ok (.putfield 27, 3) := by decide +kernel
theorem dX6_begin_30 : decode cX6_begin 30 = .ok (.aload_n 0, 1) := by decide +kernel
theorem dX6_begin_31 : decode cX6_begin 31 = .ok (.iconst 0, 1) := by decide +kernel
theorem dX6_begin_32 : decode cX6_begin 32 = .ok (.putfield 31, 3) := by decide +kernel
theorem dX6_begin_35 : decode cX6_begin 35 = .ok (.return_, 1) := by decide +kernel
theorem dX6_passMinute_0 : decode cX6_passMinute 0 = .ok (.aload_n 0, 1) := by decide +kernel
theorem dX6_passMinute_1 : decode cX6_passMinute 1 = .ok (.getfield 21, 3) := by decide +kernel
theorem dX6_passMinute_4 : decode cX6_passMinute 4 = .ok (.iconst 1, 1) := by decide +kernel
theorem dX6_passMinute_5 : decode cX6_passMinute 5 = .ok (.if_icmp .eq 4, 3) := by decide +kernel
theorem dX6_passMinute_8 : decode cX6_passMinute 8 = .ok (.return_, 1) := by decide +kernel
theorem dX6_passMinute_9 : decode cX6_passMinute 9 = .ok (.aload_n 0, 1) := by decide +kernel
theorem dX6_passMinute_10 : decode cX6_passMinute 10 = .ok (.aload_n 0, 1) := by decide +kernel
theorem dX6_passMinute_11 : decode cX6_passMinute 11 = .ok (.getfield 31, 3) := by decide +kernel
theorem dX6_passMinute_14 : decode cX6_passMinute 14 = .ok (.iload_n 2, 1) := by decide +kernel
theorem dX6_passMinute_15 : decode cX6_passMinute 15 = .ok (.invokestatic 34, 3) := by decide +kernel
theorem dX6_passMinute_18 : decode cX6_passMinute 18 = .ok (.putfield 31, 3) := by decide +kernel
theorem dX6_passMinute_21 : decode cX6_passMinute 21 = .ok (.iload_n 2, 1) := by decide +kernel
theorem dX6_passMinute_22 : decode cX6_passMinute 22 = .ok (.aload_n 0, 1) := by decide +kernel
theorem dX6_passMinute_23 : decode cX6_passMinute 23 = .ok (.getfield 9, 3) := by decide +kernel
theorem dX6_passMinute_26 : decode cX6_passMinute 26 = .ok (.if_icmp .gt 14, 3) := by decide +kernel
theorem dX6_passMinute_29 : decode cX6_passMinute 29 = .ok (.iload_n 1, 1) := by decide +kernel
theorem dX6_passMinute_30 : decode cX6_passMinute 30 = .ok (.aload_n 0, 1) := by decide +kernel
theorem dX6_passMinute_31 : decode cX6_passMinute 31 = .ok (.getfield 15, 3) := by decide +kernel
theorem dX6_passMinute_34 : decode cX6_passMinute 34 = .ok (.isub, 1) := by decide +kernel
theorem dX6_passMinute_35 : decode cX6_passMinute 35 = .ok (.bipush 80, 2) := by decide +kernel
theorem dX6_passMinute_37 : decode cX6_passMinute 37 = .ok (.if_icmp .le 9, 3) := by decide +kernel
theorem dX6_passMinute_40 : decode cX6_passMinute 40 = .ok (.aload_n 0, 1) := by decide +kernel
theorem dX6_passMinute_41 : decode cX6_passMinute 41 = .ok (.iconst 3, 1) := by decide +kernel
theorem dX6_passMinute_42 : decode cX6_passMinute 42 = .ok (.putfield 21, 3) := by decide +kernel
theorem dX6_passMinute_45 : decode cX6_passMinute 45 = .ok (.return_, 1) := by decide +kernel
theorem dX6_passMinute_46 : decode cX6_passMinute 46 = .ok (.iload_n 1, 1) := by decide +kernel
theorem dX6_passMinute_47 : decode cX6_passMinute 47 = .ok (.aload_n 0, 1) := by decide +kernel
theorem dX6_passMinute_48 : decode cX6_passMinute 48 = .ok (.getfield 15, 3) := by decide +kernel
theorem dX6_passMinute_51 : decode cX6_passMinute 51 = .ok (.if_icmp .lt 13, 3) := by decide +kernel
theorem dX6_passMinute_54 : decode cX6_passMinute 54 = .ok (.aload_n 0, 1) := by decide +kernel
theorem dX6_passMinute_55 : decode cX6_passMinute 55 = .ok (.dup, 1) := by decide +kernel
theorem dX6_passMinute_56 : decode cX6_passMinute 56 = .ok (.getfield 24, 3) := by decide +kernel
theorem dX6_passMinute_59 : decode cX6_passMinute 59 = .ok (.iconst 1, 1) := by decide +kernel
theorem dX6_passMinute_60 : decode cX6_passMinute 60 = .ok (.iadd, 1) := by decide +kernel
theorem dX6_passMinute_61 : decode cX6_passMinute 61 = .ok (.putfield 24, 3) := by decide +kernel
theorem dX6_passMinute_64 : decode cX6_passMinute 64 = .ok (.aload_n 0, 1) := by decide +kernel
theorem dX6_passMinute_65 : decode cX6_passMinute 65 = .ok (.getfield 24, 3) := by decide +kernel
theorem dX6_passMinute_68 : decode cX6_passMinute 68 = .ok (.aload_n 0, 1) := by decide +kernel
theorem dX6_passMinute_69 : decode cX6_passMinute 69 = .ok (.getfield 18, 3) := by decide +kernel
theorem dX6_passMinute_72 : decode cX6_passMinute 72 = .ok (.if_icmp .lt 8, 3) := by decide +kernel
theorem dX6_passMinute_75 : decode cX6_passMinute 75 = .ok (.aload_n 0, 1) := by decide +kernel
theorem dX6_passMinute_76 : decode cX6_passMinute 76 = .ok (.iconst 2, 1) := by decide +kernel
theorem dX6_passMinute_77 : decode cX6_passMinute 77 = .ok (.putfield 21, 3) := by decide +kernel
theorem dX6_passMinute_80 : decode cX6_passMinute 80 = .ok (.return_, 1) := by decide +kernel
theorem dX6_isAheadOf_0 : decode cX6_isAheadOf 0 = .ok (.aload_n 0, 1) := by decide +kernel
theorem dX6_isAheadOf_1 : decode cX6_isAheadOf 1 = .ok (.getfield 18, 3) := by decide +kernel
theorem dX6_isAheadOf_4 : decode cX6_isAheadOf 4 = .ok (.aload_n 0, 1) := by decide +kernel
theorem dX6_isAheadOf_5 : decode cX6_isAheadOf 5 = .ok (.getfield 24, 3) := by decide +kernel
theorem dX6_isAheadOf_8 : decode cX6_isAheadOf 8 = .ok (.isub, 1) := by decide +kernel
theorem dX6_isAheadOf_9 : decode cX6_isAheadOf 9 = .ok (.istore_n 2, 1) := by decide +kernel
theorem dX6_isAheadOf_10 : decode cX6_isAheadOf 10 = .ok (.aload_n 1, 1) := by decide +kernel
theorem dX6_isAheadOf_11 : decode cX6_isAheadOf 11 = .ok (.getfield 18, 3) := by decide +kernel
theorem dX6_isAheadOf_14 : decode cX6_isAheadOf 14 = .ok (.aload_n 1, 1) := by decide +kernel
theorem dX6_isAheadOf_15 : decode cX6_isAheadOf 15 = .ok (.getfield 24, 3) := by decide +kernel
theorem dX6_isAheadOf_18 : decode cX6_isAheadOf 18 = .ok (.isub, 1) := by decide +kernel
theorem dX6_isAheadOf_19 : decode cX6_isAheadOf 19 = .ok (.istore_n 3, 1) := by decide +kernel
theorem dX6_isAheadOf_20 : decode cX6_isAheadOf 20 = .ok (.iload_n 2, 1) := by decide +kernel
theorem dX6_isAheadOf_21 : decode cX6_isAheadOf 21 = .ok (.iload_n 3, 1) := by decide +kernel
theorem dX6_isAheadOf_22 : decode cX6_isAheadOf 22 = .ok (.if_icmp .lt 19, 3) := by decide +kernel
theorem dX6_isAheadOf_25 : decode cX6_isAheadOf 25 = .ok (.iload_n 2, 1) := by decide +kernel
theorem dX6_isAheadOf_26 : decode cX6_isAheadOf 26 = .ok (.iload_n 3, 1) := by decide +kernel
theorem dX6_isAheadOf_27 : decode cX6_isAheadOf 27 = .ok (.if_icmp .ne 18, 3) := by decide +kernel
theorem dX6_isAheadOf_30 : decode cX6_isAheadOf 30 = .ok (.aload_n 0, 1) := by decide +kernel
theorem dX6_isAheadOf_31 : decode cX6_isAheadOf 31 = .ok (.getfield 15, 3) := by decide +kernel
theorem dX6_isAheadOf_34 : decode cX6_isAheadOf 34 = .ok (.aload_n 1, 1) := by decide +kernel
theorem dX6_isAheadOf_35 : decode cX6_isAheadOf 35 = .ok (.getfield 15, 3) := by decide +kernel
theorem dX6_isAheadOf_38 : decode cX6_isAheadOf 38 = .ok (.if_icmp .le 7, 3) := by decide +kernel
theorem dX6_isAheadOf_41 : decode cX6_isAheadOf 41 = .ok (.iconst 1, 1) := by decide +kernel
theorem dX6_isAheadOf_42 : decode cX6_isAheadOf 42 = .ok (.goto 4, 3) := by decide +kernel
theorem dX6_isAheadOf_45 : decode cX6_isAheadOf 45 = .ok (.iconst 0, 1) := by decide +kernel
theorem dX6_isAheadOf_46 : decode cX6_isAheadOf 46 = .ok (.ireturn, 1) := by decide +kernel
theorem dX6_number_0 : decode cX6_number 0 = .ok (.iload_n 1, 1) := by decide +kernel
theorem dX6_number_1 : decode cX6_number 1 = .ok (.tableswitch 86 0 6 #[43, 48, 53, 58, 63, 68, 81], 43) := by decide +kernel
theorem dX6_number_44 : decode cX6_number 44 = .ok (.aload_n 0, 1) := by decide +kernel
theorem dX6_number_45 : decode cX6_number 45 = .ok (.getfield 9, 3) := by decide +kernel
theorem dX6_number_48 : decode cX6_number 48 = .ok (.ireturn, 1) := by decide +kernel
theorem dX6_number_49 : decode cX6_number 49 = .ok (.aload_n 0, 1) := by decide +kernel
theorem dX6_number_50 : decode cX6_number 50 = .ok (.getfield 15, 3) := by decide +kernel
theorem dX6_number_53 : decode cX6_number 53 = .ok (.ireturn, 1) := by decide +kernel
theorem dX6_number_54 : decode cX6_number 54 = .ok (.aload_n 0, 1) := by decide +kernel
theorem dX6_number_55 : decode cX6_number 55 = .ok (.getfield 18, 3) := by decide +kernel
theorem dX6_number_58 : decode cX6_number 58 = .ok (.ireturn, 1) := by decide +kernel
theorem dX6_number_59 : decode cX6_number 59 = .ok (.aload_n 0, 1) := by decide +kernel
theorem dX6_number_60 : decode cX6_number 60 = .ok (.getfield 21, 3) := by decide +kernel
theorem dX6_number_63 : decode cX6_number 63 = .ok (.ireturn, 1) := by decide +kernel
theorem dX6_number_64 : decode cX6_number 64 = .ok (.aload_n 0, 1) := by decide +kernel
theorem dX6_number_65 : decode cX6_number 65 = .ok (.getfield 24, 3) := by decide +kernel
theorem dX6_number_68 : decode cX6_number 68 = .ok (.ireturn, 1) := by decide +kernel
theorem dX6_number_69 : decode cX6_number 69 = .ok (.aload_n 0, 1) := by decide +kernel
theorem dX6_number_70 : decode cX6_number 70 = .ok (.getfield 27, 3) := by decide +kernel
theorem dX6_number_73 : decode cX6_number 73 = .ok (.ifCond .eq 7, 3) := by decide +kernel
theorem dX6_number_76 : decode cX6_number 76 = .ok (.iconst 1, 1) := by decide +kernel
theorem dX6_number_77 : decode cX6_number 77 = .ok (.goto 4, 3) := by decide +kernel
theorem dX6_number_80 : decode cX6_number 80 = .ok (.iconst 0, 1) := by decide +kernel
theorem dX6_number_81 : decode cX6_number 81 = .ok (.ireturn, 1) := by decide +kernel
theorem dX6_number_82 : decode cX6_number 82 = .ok (.aload_n 0, 1) := by decide +kernel
theorem dX6_number_83 : decode cX6_number 83 = .ok (.getfield 31, 3) := by decide +kernel
theorem dX6_number_86 : decode cX6_number 86 = .ok (.ireturn, 1) := by decide +kernel
theorem dX6_number_87 : decode cX6_number 87 = .ok (.sipush (-10002), 3) := by decide +kernel
theorem dX6_number_90 : decode cX6_number 90 = .ok (.ireturn, 1) := by decide +kernel
theorem dX7_init_0 : decode cX7_init 0 = .ok (.aload_n 0, 1) := by decide +kernel
theorem dX7_init_1 : decode cX7_init 1 = .ok (.invokespecial 3, 3) := by decide +kernel
theorem dX7_init_4 : decode cX7_init 4 = .ok (.aload_n 0, 1) := by decide +kernel
theorem dX7_init_5 : decode cX7_init 5 = .ok (.iconst 0, 1) := by decide +kernel
theorem dX7_init_6 : decode cX7_init 6 = .ok (.putfield 9, 3) := by decide +kernel
theorem dX7_init_9 : decode cX7_init 9 = .ok (.aload_n 0, 1) := by decide +kernel
theorem dX7_init_10 : decode cX7_init 10 = .ok (.bipush 8, 2) := by decide +kernel
theorem dX7_init_12 : decode cX7_init 12 = .ok (.anewarray 15, 3) := by decide +kernel
theorem dX7_init_15 : decode cX7_init 15 = .ok (.putfield 17, 3) := by decide +kernel
theorem dX7_init_18 : decode cX7_init 18 = .ok (.iconst 0, 1) := by decide +kernel
theorem dX7_init_19 : decode cX7_init 19 = .ok (.istore_n 1, 1) := by decide +kernel
theorem dX7_init_20 : decode cX7_init 20 = .ok (.iload_n 1, 1) := by decide +kernel
theorem dX7_init_21 : decode cX7_init 21 = .ok (.aload_n 0, 1) := by decide +kernel
theorem dX7_init_22 : decode cX7_init 22 = .ok (.getfield 17, 3) := by decide +kernel
theorem dX7_init_25 : decode cX7_init 25 = .ok (.arraylength, 1) := by decide +kernel
theorem dX7_init_26 : decode cX7_init 26 = .ok (.if_icmp .ge 22, 3) := by decide +kernel
theorem dX7_init_29 : decode cX7_init 29 = .ok (.aload_n 0, 1) := by decide +kernel
theorem dX7_init_30 : decode cX7_init 30 = .ok (.getfield 17, 3) := by decide +kernel
theorem dX7_init_33 : decode cX7_init 33 = .ok (.iload_n 1, 1) := by decide +kernel
theorem dX7_init_34 : decode cX7_init 34 = .ok (.new 15, 3) := by decide +kernel
theorem dX7_init_37 : decode cX7_init 37 = .ok (.dup, 1) := by decide +kernel
theorem dX7_init_38 : decode cX7_init 38 = .ok (.invokespecial 21, 3) := by decide +kernel
theorem dX7_init_41 : decode cX7_init 41 = .ok (.aastore, 1) := by decide +kernel
theorem dX7_init_42 : decode cX7_init 42 = .ok (.iinc 1 1, 3) := by decide +kernel
theorem dX7_init_45 : decode cX7_init 45 = .ok (.goto (-25), 3) := by decide +kernel
theorem dX7_init_48 : decode cX7_init 48 = .ok (.return_, 1) := by decide +kernel
theorem dX7_copyFrom_0 : decode cX7_copyFrom 0 = .ok (.aload_n 0, 1) := by decide +kernel
theorem dX7_copyFrom_1 : decode cX7_copyFrom 1 = .ok (.aload_n 1, 1) := by decide +kernel
theorem dX7_copyFrom_2 : decode cX7_copyFrom 2 = .ok (.getfield 9, 3) := by decide +kernel
theorem dX7_copyFrom_5 : decode cX7_copyFrom 5 = .ok (.putfield 9, 3) := by decide +kernel
theorem dX7_copyFrom_8 : decode cX7_copyFrom 8 = .ok (.iconst 0, 1) := by decide +kernel
theorem dX7_copyFrom_9 : decode cX7_copyFrom 9 = .ok (.istore_n 2, 1) := by decide +kernel
theorem dX7_copyFrom_10 : decode cX7_copyFrom 10 = .ok (.iload_n 2, 1) := by decide +kernel
theorem dX7_copyFrom_11 : decode cX7_copyFrom 11 = .ok (.aload_n 0, 1) := by decide +kernel
theorem dX7_copyFrom_12 : decode cX7_copyFrom 12 = .ok (.getfield 9, 3) := by decide +kernel
theorem dX7_copyFrom_15 : decode cX7_copyFrom 15 = .ok (.if_icmp .ge 37, 3) := by decide +kernel
theorem dX7_copyFrom_18 : decode cX7_copyFrom 18 = .ok (.aload_n 1, 1) := by decide +kernel
theorem dX7_copyFrom_19 : decode cX7_copyFrom 19 = .ok (.iload_n 2, 1) := by decide +kernel
theorem dX7_copyFrom_20 : decode cX7_copyFrom 20 = .ok (.invokevirtual 22, 3) := by decide +kernel
theorem dX7_copyFrom_23 : decode cX7_copyFrom 23 = .ok (.astore_n 3, 1) := by decide +kernel
theorem dX7_copyFrom_24 : decode cX7_copyFrom 24 = .ok (.aload_n 0, 1) := by decide +kernel
theorem dX7_copyFrom_25 : decode cX7_copyFrom 25 = .ok (.iload_n 2, 1) := by decide +kernel
theorem dX7_copyFrom_26 : decode cX7_copyFrom 26 = .ok (.invokevirtual 22, 3) := by decide +kernel
theorem dX7_copyFrom_29 : decode cX7_copyFrom 29 = .ok (.astore 4, 2) := by decide +kernel
theorem dX7_copyFrom_31 : decode cX7_copyFrom 31 = .ok (.aload_n 3, 1) := by decide +kernel
theorem dX7_copyFrom_32 : decode cX7_copyFrom 32 = .ok (.ifnull 14, 3) := by decide +kernel
theorem dX7_copyFrom_35 : decode cX7_copyFrom 35 = .ok (.aload 4, 2) := by decide +kernel
theorem dX7_copyFrom_37 : decode cX7_copyFrom 37 = .ok (.ifnull 9, 3) := by decide +kernel
theorem dX7_copyFrom_40 : decode cX7_copyFrom 40 = .ok (.aload 4, 2) := by decide +kernel
theorem dX7_copyFrom_42 : decode cX7_copyFrom 42 = .ok (.aload_n 3, 1) := by decide +kernel
theorem dX7_copyFrom_43 : decode cX7_copyFrom 43 = .ok (.invokevirtual 26, 3) := by decide +kernel
theorem dX7_copyFrom_46 : decode cX7_copyFrom 46 = .ok (.iinc 2 1, 3) := by decide +kernel
theorem dX7_copyFrom_49 : decode cX7_copyFrom 49 = .ok (.goto (-39), 3) := by decide +kernel
theorem dX7_copyFrom_52 : decode cX7_copyFrom 52 = .ok (.return_, 1) := by decide +kernel
theorem dX7_find_0 : decode cX7_find 0 = .ok (.iload_n 1, 1) := by decide +kernel
theorem dX7_find_1 : decode cX7_find 1 = .ok (.ifCond .lt 29, 3) := by decide +kernel
theorem dX7_find_4 : decode cX7_find 4 = .ok (.iload_n 1, 1) := by decide +kernel
theorem dX7_find_5 : decode cX7_find 5 = .ok (.aload_n 0, 1) := by decide +kernel
theorem dX7_find_6 : decode cX7_find 6 = .ok (.getfield 9, 3) := by decide +kernel
theorem dX7_find_9 : decode cX7_find 9 = .ok (.if_icmp .ge 21, 3) := by decide +kernel
theorem dX7_find_12 : decode cX7_find 12 = .ok (.iload_n 1, 1) := by decide +kernel
theorem dX7_find_13 : decode cX7_find 13 = .ok (.aload_n 0, 1) := by decide +kernel
theorem dX7_find_14 : decode cX7_find 14 = .ok (.getfield 17, 3) := by decide +kernel
theorem dX7_find_17 : decode cX7_find 17 = .ok (.arraylength, 1) := by decide +kernel
theorem dX7_find_18 : decode cX7_find 18 = .ok (.if_icmp .ge 12, 3) := by decide +kernel
theorem dX7_find_21 : decode cX7_find 21 = .ok (.aload_n 0, 1) := by decide +kernel
theorem dX7_find_22 : decode cX7_find 22 = .ok (.getfield 17, 3) := by decide +kernel
theorem dX7_find_25 : decode cX7_find 25 = .ok (.iload_n 1, 1) := by decide +kernel
theorem dX7_find_26 : decode cX7_find 26 = .ok (.aaload, 1) := by decide +kernel
theorem dX7_find_27 : decode cX7_find 27 = .ok (.goto 4, 3) := by decide +kernel
theorem dX7_find_30 : decode cX7_find 30 = .ok (.aconst_null, 1) := by decide +kernel
theorem dX7_find_31 : decode cX7_find 31 = .ok (.areturn, 1) := by decide +kernel
theorem dX7_addPot_0 : decode cX7_addPot 0 = .ok (.iconst 1, 1) := by decide +kernel
theorem dX7_addPot_1 : decode cX7_addPot 1 = .ok (.iload_n 1, 1) := by decide +kernel
theorem dX7_addPot_2 : decode cX7_addPot 2 = .ok (.bipush 60, 2) := by decide +kernel
theorem dX7_addPot_4 : decode cX7_addPot 4 = .ok (.invokestatic 30, 3) := by decide +kernel
theorem dX7_addPot_7 : decode cX7_addPot 7 = .ok (.ifCond .eq 25, 3) := by decide +kernel
theorem dX7_addPot_10 : decode cX7_addPot 10 = .ok (.bipush 100, 2) := by decide +kernel
theorem dX7_addPot_12 : decode cX7_addPot 12 = .ok (.iload_n 2, 1) := by decide +kernel
theorem dX7_addPot_13 : decode cX7_addPot 13 = .ok (.sipush 1200, 3) := by decide +kernel
theorem dX7_addPot_16 : decode cX7_addPot 16 = .ok (.invokestatic 30, 3) := by decide +kernel
theorem dX7_addPot_19 : decode cX7_addPot 19 = .ok (.ifCond .eq 13, 3) := by decide +kernel
theorem dX7_addPot_22 : decode cX7_addPot 22 = .ok (.iconst 1, 1) := by decide +kernel
theorem dX7_addPot_23 : decode cX7_addPot 23 = .ok (.iload_n 3, 1) := by decide +kernel
theorem dX7_addPot_24 : decode cX7_addPot 24 = .ok (.bipush 99, 2) := by decide +kernel
theorem dX7_addPot_26 : decode cX7_addPot 26 = .ok (.invokestatic 30, 3) := by decide +kernel
theorem dX7_addPot_29 : decode cX7_addPot 29 = .ok (.ifCond .ne 7, 3) := by decide +kernel
theorem dX7_addPot_32 : decode cX7_addPot 32 = .ok (.sipush (-10002), 3) := by decide +kernel
theorem dX7_addPot_35 : decode cX7_addPot 35 = .ok (.ireturn, 1) := by decide +kernel
theorem dX7_addPot_36 : decode cX7_addPot 36 = .ok (.aload_n 0, 1) := by decide +kernel
theorem dX7_addPot_37 : decode cX7_addPot 37 = .ok (.getfield 9, 3) := by decide +kernel
theorem dX7_addPot_40 : decode cX7_addPot 40 = .ok (.bipush 8, 2) := by decide +kernel
theorem dX7_addPot_42 : decode cX7_addPot 42 = .ok (.if_icmp .lt 14, 3) := by decide +kernel
theorem dX7_addPot_45 : decode cX7_addPot 45 = .ok (.aload 4, 2) := by decide +kernel
theorem dX7_addPot_47 : decode cX7_addPot 47 = .ok (.iconst 1, 1) := by decide +kernel
theorem dX7_addPot_48 : decode cX7_addPot 48 = .ok (.aload_n 0, 1) := by decide +kernel
theorem dX7_addPot_49 : decode cX7_addPot 49 = .ok (.getfield 9, 3) := by decide +kernel
theorem dX7_addPot_52 : decode cX7_addPot 52 = .ok (.invokevirtual 34, 3) := by decide +kernel
theorem dX7_addPot_55 : decode cX7_addPot 55 = .ok (.ireturn, 1) := by decide +kernel
theorem dX7_addPot_56 : decode cX7_addPot 56 = .ok (.aload_n 0, 1) := by decide +kernel
theorem dX7_addPot_57 : decode cX7_addPot 57 = .ok (.getfield 9, 3) := by decide +kernel
theorem dX7_addPot_60 : decode cX7_addPot 60 = .ok (.istore 5, 2) := by decide +kernel
theorem dX7_addPot_62 : decode cX7_addPot 62 = .ok (.aload_n 0, 1) := by decide +kernel
theorem dX7_addPot_63 : decode cX7_addPot 63 = .ok (.dup, 1) := by decide +kernel
theorem dX7_addPot_64 : decode cX7_addPot 64 = .ok (.getfield 9, 3) := by decide +kernel
theorem dX7_addPot_67 : decode cX7_addPot 67 = .ok (.iconst 1, 1) := by decide +kernel
theorem dX7_addPot_68 : decode cX7_addPot 68 = .ok (.iadd, 1) := by decide +kernel
theorem dX7_addPot_69 : decode cX7_addPot 69 = .ok (.putfield 9, 3) := by decide +kernel
theorem dX7_addPot_72 : decode cX7_addPot 72 = .ok (.aload_n 0, 1) := by decide +kernel
theorem dX7_addPot_73 : decode cX7_addPot 73 = .ok (.iload 5, 2) := by decide +kernel
theorem dX7_addPot_75 : decode cX7_addPot 75 = .ok (.invokevirtual 22, 3) := by decide +kernel
theorem dX7_addPot_78 : decode cX7_addPot 78 = .ok (.astore 6, 2) := by decide +kernel
theorem dX7_addPot_80 : decode cX7_addPot 80 = .ok (.aload 6, 2) := by decide +kernel
theorem dX7_addPot_82 : decode cX7_addPot 82 = .ok (.ifnull 11, 3) := by decide +kernel
theorem dX7_addPot_85 : decode cX7_addPot 85 = .ok (.aload 6, 2) := by decide +kernel
theorem dX7_addPot_87 : decode cX7_addPot 87 = .ok (.iload_n 1, 1) := by decide +kernel
theorem dX7_addPot_88 : decode cX7_addPot 88 = .ok (.iload_n 2, 1) := by decide +kernel
theorem dX7_addPot_89 : decode cX7_addPot 89 = .ok (.iload_n 3, 1) := by decide +kernel
theorem dX7_addPot_90 : decode cX7_addPot 90 = .ok (.invokevirtual 40, 3) := by decide +kernel
theorem dX7_addPot_93 : decode cX7_addPot 93 = .ok (.iload 5, 2) := by decide +kernel
theorem dX7_addPot_95 : decode cX7_addPot 95 = .ok (.ireturn, 1) := by decide +kernel
theorem dX7_bringIn_0 : decode cX7_bringIn 0 = .ok (.aload_n 0, 1) := by decide +kernel
theorem dX7_bringIn_1 : decode cX7_bringIn 1 = .ok (.iload_n 1, 1) := by decide +kernel
theorem dX7_bringIn_2 : decode cX7_bringIn 2 = .ok (.invokevirtual 22, 3) := by decide +kernel
theorem dX7_bringIn_5 : decode cX7_bringIn 5 = .ok (.astore 4, 2) := by decide +kernel
theorem dX7_bringIn_7 : decode cX7_bringIn 7 = .ok (.aload 4, 2) := by decide +kernel
theorem dX7_bringIn_9 : decode cX7_bringIn 9 = .ok (.ifnonnull 7, 3) := by decide +kernel
theorem dX7_bringIn_12 : decode cX7_bringIn 12 = .ok (.sipush (-10001), 3) := by decide +kernel
theorem dX7_bringIn_15 : decode cX7_bringIn 15 = .ok (.ireturn, 1) := by decide +kernel
theorem dX7_bringIn_16 : decode cX7_bringIn 16 = .ok (.aload 4, 2) := by decide +kernel
theorem dX7_bringIn_18 : decode cX7_bringIn 18 = .ok (.getfield 44, 3) := by decide +kernel
theorem dX7_bringIn_21 : decode cX7_bringIn 21 = .ok (.ifCond .eq 14, 3) := by decide +kernel
theorem dX7_bringIn_24 : decode cX7_bringIn 24 = .ok (.aload_n 3, 1) := by decide +kernel
theorem dX7_bringIn_25 : decode cX7_bringIn 25 = .ok (.iconst 2, 1) := by decide +kernel
theorem dX7_bringIn_26 : decode cX7_bringIn 26 = .ok (.aload 4, 2) := by decide +kernel
theorem dX7_bringIn_28 : decode cX7_bringIn 28 = .ok (.getfield 44, 3) := by decide +kernel
theorem dX7_bringIn_31 : decode cX7_bringIn 31 = .ok (.invokevirtual 34, 3) := by decide +kernel
theorem dX7_bringIn_34 : decode cX7_bringIn 34 = .ok (.ireturn, 1) := by decide +kernel
theorem dX7_bringIn_35 : decode cX7_bringIn 35 = .ok (.iload_n 2, 1) := by decide +kernel
theorem dX7_bringIn_36 : decode cX7_bringIn 36 = .ok (.bipush 60, 2) := by decide +kernel
theorem dX7_bringIn_38 : decode cX7_bringIn 38 = .ok (.if_icmp .le 10, 3) := by decide +kernel
theorem dX7_bringIn_41 : decode cX7_bringIn 41 = .ok (.aload_n 3, 1) := by decide +kernel
theorem dX7_bringIn_42 : decode cX7_bringIn 42 = .ok (.iconst 4, 1) := by decide +kernel
theorem dX7_bringIn_43 : decode cX7_bringIn 43 = .ok (.iload_n 2, 1) := by decide +kernel
theorem dX7_bringIn_44 : decode cX7_bringIn 44 = .ok (.invokevirtual 34, 3) := by decide +kernel
theorem dX7_bringIn_47 : decode cX7_bringIn 47 = .ok (.ireturn, 1) := by decide +kernel
theorem dX7_bringIn_48 : decode cX7_bringIn 48 = .ok (.aload_n 0, 1) := by decide +kernel
theorem dX7_bringIn_49 : decode cX7_bringIn 49 = .ok (.invokevirtual 47, 3) := by decide +kernel
theorem dX7_bringIn_52 : decode cX7_bringIn 52 = .ok (.istore 5, 2) := by decide +kernel
theorem dX7_bringIn_54 : decode cX7_bringIn 54 = .ok (.iload 5, 2) := by decide +kernel
theorem dX7_bringIn_56 : decode cX7_bringIn 56 = .ok (.iconst 4, 1) := by decide +kernel
theorem dX7_bringIn_57 : decode cX7_bringIn 57 = .ok (.if_icmp .lt 11, 3) := by decide +kernel
theorem dX7_bringIn_60 : decode cX7_bringIn 60 = .ok (.aload_n 3, 1) := by decide +kernel
theorem dX7_bringIn_61 : decode cX7_bringIn 61 = .ok (.iconst 1, 1) := by decide +kernel
theorem dX7_bringIn_62 : decode cX7_bringIn 62 = .ok (.iload 5, 2) := by decide +kernel
theorem dX7_bringIn_64 : decode cX7_bringIn 64 = .ok (.invokevirtual 34, 3) := by decide +kernel
theorem dX7_bringIn_67 : decode cX7_bringIn 67 = .ok (.ireturn, 1) := by decide +kernel
theorem dX7_bringIn_68 : decode cX7_bringIn 68 = .ok (.aload 4, 2) := by decide +kernel
theorem dX7_bringIn_70 : decode cX7_bringIn 70 = .ok (.iconst 1, 1) := by decide +kernel
theorem dX7_bringIn_71 : decode cX7_bringIn 71 = .ok (.putfield 44, 3) := by decide +kernel
theorem dX7_bringIn_74 : decode cX7_bringIn 74 = .ok (.aload 4, 2) := by decide +kernel
theorem dX7_bringIn_76 : decode cX7_bringIn 76 = .ok (.iconst 1, 1) := by decide +kernel
theorem dX7_bringIn_77 : decode cX7_bringIn 77 = .ok (.putfield 51, 3) := by decide +kernel
theorem dX7_bringIn_80 : decode cX7_bringIn 80 = .ok (.iload 5, 2) := by decide +kernel
theorem dX7_bringIn_82 : decode cX7_bringIn 82 = .ok (.iconst 1, 1) := by decide +kernel
theorem dX7_bringIn_83 : decode cX7_bringIn 83 = .ok (.iadd, 1) := by decide +kernel
theorem dX7_bringIn_84 : decode cX7_bringIn 84 = .ok (.ireturn, 1) := by decide +kernel
theorem dX7_bringOut_0 : decode cX7_bringOut 0 = .ok (.aload_n 0, 1) := by decide +kernel
theorem dX7_bringOut_1 : decode cX7_bringOut 1 = .ok (.iload_n 1, 1) := by decide +kernel
theorem dX7_bringOut_2 : decode cX7_bringOut 2 = .ok (.invokevirtual 22, 3) := by decide +kernel
theorem dX7_bringOut_5 : decode cX7_bringOut 5 = .ok (.astore 4, 2) := by decide +kernel
theorem dX7_bringOut_7 : decode cX7_bringOut 7 = .ok (.aload 4, 2) := by decide +kernel
theorem dX7_bringOut_9 : decode cX7_bringOut 9 = .ok (.ifnonnull 7, 3) := by decide +kernel
theorem dX7_bringOut_12 : decode cX7_bringOut 12 = .ok (.sipush (-10001), 3) := by decide +kernel
theorem dX7_bringOut_15 : decode cX7_bringOut 15 = .ok (.ireturn, 1) := by decide +kernel
theorem dX7_bringOut_16 : decode cX7_bringOut 16 = .ok (.aload 4, 2) := by decide +kernel
theorem dX7_bringOut_18 : decode cX7_bringOut 18 = .ok (.getfield 51, 3) := by decide +kernel
theorem dX7_bringOut_21 : decode cX7_bringOut 21 = .ok (.ifCond .ne 14, 3) := by decide +kernel
theorem dX7_bringOut_24 : decode cX7_bringOut 24 = .ok (.aload_n 3, 1) := by decide +kernel
theorem dX7_bringOut_25 : decode cX7_bringOut 25 = .ok (.iconst 3, 1) := by decide +kernel
theorem dX7_bringOut_26 : decode cX7_bringOut 26 = .ok (.aload 4, 2) := by decide +kernel
theorem dX7_bringOut_28 : decode cX7_bringOut 28 = .ok (.getfield 44, 3) := by decide +kernel
theorem dX7_bringOut_31 : decode cX7_bringOut 31 = .ok (.invokevirtual 34, 3) := by decide +kernel
theorem dX7_bringOut_34 : decode cX7_bringOut 34 = .ok (.ireturn, 1) := by decide +kernel
theorem dX7_bringOut_35 : decode cX7_bringOut 35 = .ok (.iload_n 2, 1) := by decide +kernel
theorem dX7_bringOut_36 : decode cX7_bringOut 36 = .ok (.bipush 60, 2) := by decide +kernel
theorem dX7_bringOut_38 : decode cX7_bringOut 38 = .ok (.if_icmp .le 10, 3) := by decide +kernel
theorem dX7_bringOut_41 : decode cX7_bringOut 41 = .ok (.aload_n 3, 1) := by decide +kernel
theorem dX7_bringOut_42 : decode cX7_bringOut 42 = .ok (.iconst 4, 1) := by decide +kernel
theorem dX7_bringOut_43 : decode cX7_bringOut 43 = .ok (.iload_n 2, 1) := by decide +kernel
theorem dX7_bringOut_44 : decode cX7_bringOut 44 = .ok (.invokevirtual 34, 3) := by decide +kernel
theorem dX7_bringOut_47 : decode cX7_bringOut 47 = .ok (.ireturn, 1) := by decide +kernel
theorem dX7_bringOut_48 : decode cX7_bringOut 48 = .ok (.aload 4, 2) := by decide +kernel
theorem dX7_bringOut_50 : decode cX7_bringOut 50 = .ok (.iconst 0, 1) := by decide +kernel
theorem dX7_bringOut_51 : decode cX7_bringOut 51 = .ok (.putfield 51, 3) := by decide +kernel
theorem dX7_bringOut_54 : decode cX7_bringOut 54 = .ok (.aload 4, 2) := by decide +kernel
theorem dX7_bringOut_56 : decode cX7_bringOut 56 = .ok (.getfield 44, 3) := by decide +kernel
theorem dX7_bringOut_59 : decode cX7_bringOut 59 = .ok (.iconst 1, 1) := by decide +kernel
theorem dX7_bringOut_60 : decode cX7_bringOut 60 = .ok (.if_icmp .ne 9, 3) := by decide +kernel
theorem dX7_bringOut_63 : decode cX7_bringOut 63 = .ok (.aload 4, 2) := by decide +kernel
theorem dX7_bringOut_65 : decode cX7_bringOut 65 = .ok (.iconst 0, 1) := by decide +kernel
theorem dX7_bringOut_66 : decode cX7_bringOut 66 = .ok (.putfield 44, 3) := by decide +kernel
theorem dX7_bringOut_69 : decode cX7_bringOut 69 = .ok (.aload 4, 2) := by decide +kernel
theorem dX7_bringOut_71 : decode cX7_bringOut 71 = .ok (.getfield 44, 3) := by decide +kernel
theorem dX7_bringOut_74 : decode cX7_bringOut 74 = .ok (.ireturn, 1) := by decide +kernel
theorem dX7_passMinute_0 : decode cX7_passMinute 0 = .ok (.iconst 0, 1) := by decide +kernel
theorem dX7_passMinute_1 : decode cX7_passMinute 1 = .ok (.istore_n 3, 1) := by decide +kernel
theorem dX7_passMinute_2 : decode cX7_passMinute 2 = .ok (.iload_n 3, 1) := by decide +kernel
theorem dX7_passMinute_3 : decode cX7_passMinute 3 = .ok (.aload_n 0, 1) := by decide +kernel
theorem dX7_passMinute_4 : decode cX7_passMinute 4 = .ok (.getfield 9, 3) := by decide +kernel
theorem dX7_passMinute_7 : decode cX7_passMinute 7 = .ok (.if_icmp .ge 28, 3) := by decide +kernel
theorem dX7_passMinute_10 : decode cX7_passMinute 10 = .ok (.aload_n 0, 1) := by decide +kernel
theorem dX7_passMinute_11 : decode cX7_passMinute 11 = .ok (.iload_n 3, 1) := by decide +kernel
theorem dX7_passMinute_12 : decode cX7_passMinute 12 = .ok (.invokevirtual 22, 3) := by decide +kernel
theorem dX7_passMinute_15 : decode cX7_passMinute 15 = .ok (.astore 4, 2) := by decide +kernel
theorem dX7_passMinute_17 : decode cX7_passMinute 17 = .ok (.aload 4, 2) := by decide +kernel
theorem dX7_passMinute_19 : decode cX7_passMinute 19 = .ok (.ifnull 10, 3) := by decide +kernel
theorem dX7_passMinute_22 : decode cX7_passMinute 22 = .ok (.aload 4, 2) := by decide +kernel
theorem dX7_passMinute_24 : decode cX7_passMinute 24 = .ok (.iload_n 1, 1) := by decide +kernel
theorem dX7_passMinute_25 : decode cX7_passMinute 25 = .ok (.iload_n 2, 1) := by decide +kernel
theorem dX7_passMinute_26 : decode cX7_passMinute 26 = .ok (.invokevirtual 55, 3) := by decide +kernel
theorem dX7_passMinute_29 : decode cX7_passMinute 29 = .ok (.iinc 3 1, 3) := by decide +kernel
theorem dX7_passMinute_32 : decode cX7_passMinute 32 = .ok (.goto (-30), 3) := by decide +kernel
theorem dX7_passMinute_35 : decode cX7_passMinute 35 = .ok (.return_, 1) := by decide +kernel
theorem dX7_potAtPlace_0 : decode cX7_potAtPlace 0 = .ok (.iconst 0, 1) := by decide +kernel
theorem dX7_potAtPlace_1 : decode cX7_potAtPlace 1 = .ok (.istore_n 2, 1) := by decide +kernel
theorem dX7_potAtPlace_2 : decode cX7_potAtPlace 2 = .ok (.iload_n 2, 1) := by decide +kernel
theorem dX7_potAtPlace_3 : decode cX7_potAtPlace 3 = .ok (.aload_n 0, 1) := by decide +kernel
theorem dX7_potAtPlace_4 : decode cX7_potAtPlace 4 = .ok (.getfield 9, 3) := by decide +kernel
theorem dX7_potAtPlace_7 : decode cX7_potAtPlace 7 = .ok (.if_icmp .ge 20, 3) := by decide +kernel
theorem dX7_potAtPlace_10 : decode cX7_potAtPlace 10 = .ok (.aload_n 0, 1) := by decide +kernel
theorem dX7_potAtPlace_11 : decode cX7_potAtPlace 11 = .ok (.iload_n 2, 1) := by decide +kernel
theorem dX7_potAtPlace_12 : decode cX7_potAtPlace 12 = .ok (.invokevirtual 59, 3) := by decide +kernel
theorem dX7_potAtPlace_15 : decode cX7_potAtPlace 15 = .ok (.iload_n 1, 1) := by decide +kernel
theorem dX7_potAtPlace_16 : decode cX7_potAtPlace 16 = .ok (.if_icmp .ne 5, 3) := by decide +kernel
theorem dX7_potAtPlace_19 : decode cX7_potAtPlace 19 = .ok (.iload_n 2, 1) := by decide +kernel
theorem dX7_potAtPlace_20 : decode cX7_potAtPlace 20 = .ok (.ireturn, 1) := by decide +kernel
theorem dX7_potAtPlace_21 : decode cX7_potAtPlace 21 = .ok (.iinc 2 1, 3) := by decide +kernel
theorem dX7_potAtPlace_24 : decode cX7_potAtPlace 24 = .ok (.goto (-22), 3) := by decide +kernel
theorem dX7_potAtPlace_27 : decode cX7_potAtPlace 27 = .ok (.sipush (-10001), 3) := by decide +kernel
theorem dX7_potAtPlace_30 : decode cX7_potAtPlace 30 = .ok (.ireturn, 1) := by decide +kernel
theorem dX7_countAheadOf_0 : decode cX7_countAheadOf 0 = .ok (.aload_n 0, 1) := by decide +kernel
theorem dX7_countAheadOf_1 : decode cX7_countAheadOf 1 = .ok (.iload_n 1, 1) := by decide +kernel
theorem dX7_countAheadOf_2 : decode cX7_countAheadOf 2 = .ok (.invokevirtual 22, 3) := by decide +kernel
theorem dX7_countAheadOf_5 : decode cX7_countAheadOf 5 = .ok (.astore_n 2, 1) := by decide +kernel
theorem dX7_countAheadOf_6 : decode cX7_countAheadOf 6 = .ok (.iconst 0, 1) := by decide +kernel
theorem dX7_countAheadOf_7 : decode cX7_countAheadOf 7 = .ok (.istore_n 3, 1) := by decide +kernel
theorem dX7_countAheadOf_8 : decode cX7_countAheadOf 8 = .ok (.iconst 0, 1) := by decide +kernel
theorem dX7_countAheadOf_9 : decode cX7_countAheadOf 9 = .ok (.istore 4, 2) := by decide +kernel
theorem dX7_countAheadOf_11 : decode cX7_countAheadOf 11 = .ok (.iload 4, 2) := by decide +kernel
theorem dX7_countAheadOf_13 : decode cX7_countAheadOf 13 = .ok (.aload_n 0, 1) := by decide +kernel
theorem dX7_countAheadOf_14 : decode cX7_countAheadOf 14 = .ok (.getfield 9, 3) := by decide +kernel
theorem dX7_countAheadOf_17 : decode cX7_countAheadOf 17 = .ok (.if_icmp .ge 59, 3) := by decide +kernel
theorem dX7_countAheadOf_20 : decode cX7_countAheadOf 20 = .ok (.aload_n 0, 1) := by decide +kernel
theorem dX7_countAheadOf_21 : decode cX7_countAheadOf 21 = .ok (.iload 4, 2) := by decide +kernel
theorem dX7_countAheadOf_23 : decode cX7_countAheadOf 23 = .ok (.invokevirtual 22, 3) := by decide +kernel
theorem dX7_countAheadOf_26 : decode cX7_countAheadOf 26 = .ok (.astore 5, 2) := by decide +kernel
theorem dX7_countAheadOf_28 : decode cX7_countAheadOf 28 = .ok (.aload_n 2, 1) := by decide +kernel
theorem dX7_countAheadOf_29 : decode cX7_countAheadOf 29 = .ok (.ifnull 41, 3) := by decide +kernel
theorem dX7_countAheadOf_32 : decode cX7_countAheadOf 32 = .ok (.aload 5, 2) := by decide +kernel
theorem dX7_countAheadOf_34 : decode cX7_countAheadOf 34 = .ok (.ifnull 36, 3) := by decide +kernel
theorem dX7_countAheadOf_37 : decode cX7_countAheadOf 37 = .ok (.iload 4, 2) := by decide +kernel
theorem dX7_countAheadOf_39 : decode cX7_countAheadOf 39 = .ok (.iload_n 1, 1) := by decide +kernel
theorem dX7_countAheadOf_40 : decode cX7_countAheadOf 40 = .ok (.if_icmp .eq 30, 3) := by decide +kernel
theorem dX7_countAheadOf_43 : decode cX7_countAheadOf 43 = .ok (.aload 5, 2) := by decide +kernel
theorem dX7_countAheadOf_45 : decode cX7_countAheadOf 45 = .ok (.aload_n 2, 1) := by decide +kernel
theorem dX7_countAheadOf_46 : decode cX7_countAheadOf 46 = .ok (.invokevirtual 63, 3) := by decide +kernel
theorem dX7_countAheadOf_49 : decode cX7_countAheadOf 49 = .ok (.ifCond .ne 18, 3) := by decide +kernel
theorem dX7_countAheadOf_52 : decode cX7_countAheadOf 52 = .ok (.aload_n 2, 1) := by decide +kernel
theorem dX7_countAheadOf_53 : decode cX7_countAheadOf 53 = .ok (.aload 5, 2) := by decide +kernel
theorem dX7_countAheadOf_55 : decode cX7_countAheadOf 55 = .ok (.invokevirtual 63, 3) := by decide +kernel
theorem dX7_countAheadOf_58 : decode cX7_countAheadOf 58 = .ok (.ifCond .ne 12, 3) := by decide +kernel
theorem dX7_countAheadOf_61 : decode cX7_countAheadOf 61 = .ok (.iload 4, 2) := by decide +kernel
theorem dX7_countAheadOf_63 : decode cX7_countAheadOf 63 = .ok (.iload_n 1, 1) := by decide +kernel
theorem dX7_countAheadOf_64 : decode cX7_countAheadOf 64 = .ok (.if_icmp .ge 6, 3) := by decide +kernel
theorem dX7_countAheadOf_67 : decode cX7_countAheadOf 67 = .ok (.iinc 3 1, 3) := by decide +kernel
theorem dX7_countAheadOf_70 : decode cX7_countAheadOf 70 = .ok (.iinc 4 1, 3) := by decide +kernel
theorem dX7_countAheadOf_73 : decode cX7_countAheadOf 73 = .ok (.goto (-62), 3) := by decide +kernel
theorem dX7_countAheadOf_76 : decode cX7_countAheadOf 76 = .ok (.iload_n 3, 1) := by decide +kernel
theorem dX7_countAheadOf_77 : decode cX7_countAheadOf 77 = .ok (.ireturn, 1) := by decide +kernel
theorem dX7_countOf_0 : decode cX7_countOf 0 = .ok (.iconst 0, 1) := by decide +kernel
theorem dX7_countOf_1 : decode cX7_countOf 1 = .ok (.istore_n 2, 1) := by decide +kernel
theorem dX7_countOf_2 : decode cX7_countOf 2 = .ok (.iconst 0, 1) := by decide +kernel
theorem dX7_countOf_3 : decode cX7_countOf 3 = .ok (.istore_n 3, 1) := by decide +kernel
theorem dX7_countOf_4 : decode cX7_countOf 4 = .ok (.iload_n 3, 1) := by decide +kernel
theorem dX7_countOf_5 : decode cX7_countOf 5 = .ok (.aload_n 0, 1) := by decide +kernel
theorem dX7_countOf_6 : decode cX7_countOf 6 = .ok (.getfield 9, 3) := by decide +kernel
theorem dX7_countOf_9 : decode cX7_countOf 9 = .ok (.if_icmp .ge 33, 3) := by decide +kernel
theorem dX7_countOf_12 : decode cX7_countOf 12 = .ok (.aload_n 0, 1) := by decide +kernel
theorem dX7_countOf_13 : decode cX7_countOf 13 = .ok (.iload_n 3, 1) := by decide +kernel
theorem dX7_countOf_14 : decode cX7_countOf 14 = .ok (.invokevirtual 22, 3) := by decide +kernel
theorem dX7_countOf_17 : decode cX7_countOf 17 = .ok (.astore 4, 2) := by decide +kernel
theorem dX7_countOf_19 : decode cX7_countOf 19 = .ok (.aload 4, 2) := by decide +kernel
theorem dX7_countOf_21 : decode cX7_countOf 21 = .ok (.ifnull 15, 3) := by decide +kernel
theorem dX7_countOf_24 : decode cX7_countOf 24 = .ok (.aload 4, 2) := by decide +kernel
theorem dX7_countOf_26 : decode cX7_countOf 26 = .ok (.getfield 44, 3) := by decide +kernel
theorem dX7_countOf_29 : decode cX7_countOf 29 = .ok (.iload_n 1, 1) := by decide +kernel
theorem dX7_countOf_30 : decode cX7_countOf 30 = .ok (.if_icmp .ne 6, 3) := by decide +kernel
theorem dX7_countOf_33 : decode cX7_countOf 33 = .ok (.iinc 2 1, 3) := by decide +kernel
theorem dX7_countOf_36 : decode cX7_countOf 36 = .ok (.iinc 3 1, 3) := by decide +kernel
theorem dX7_countOf_39 : decode cX7_countOf 39 = .ok (.goto (-35), 3) := by decide +kernel
theorem dX7_countOf_42 : decode cX7_countOf 42 = .ok (.iload_n 2, 1) := by decide +kernel
theorem dX7_countOf_43 : decode cX7_countOf 43 = .ok (.ireturn, 1) := by decide +kernel
theorem dX7_countWithin_0 : decode cX7_countWithin 0 = .ok (.iconst 0, 1) := by decide +kernel
theorem dX7_countWithin_1 : decode cX7_countWithin 1 = .ok (.istore_n 1, 1) := by decide +kernel
theorem dX7_countWithin_2 : decode cX7_countWithin 2 = .ok (.iconst 0, 1) := by decide +kernel
theorem dX7_countWithin_3 : decode cX7_countWithin 3 = .ok (.istore_n 2, 1) := by decide +kernel
theorem dX7_countWithin_4 : decode cX7_countWithin 4 = .ok (.iload_n 2, 1) := by decide +kernel
theorem dX7_countWithin_5 : decode cX7_countWithin 5 = .ok (.aload_n 0, 1) := by decide +kernel
theorem dX7_countWithin_6 : decode cX7_countWithin 6 = .ok (.getfield 9, 3) := by decide +kernel
theorem dX7_countWithin_9 : decode cX7_countWithin 9 = .ok (.if_icmp .ge 29, 3) := by decide +kernel
theorem dX7_countWithin_12 : decode cX7_countWithin 12 = .ok (.aload_n 0, 1) := by decide +kernel
theorem dX7_countWithin_13 : decode cX7_countWithin 13 = .ok (.iload_n 2, 1) := by decide +kernel
theorem dX7_countWithin_14 : decode cX7_countWithin 14 = .ok (.invokevirtual 22, 3) := by decide +kernel
theorem dX7_countWithin_17 : decode cX7_countWithin 17 = .ok (.astore_n 3, 1) := by decide +kernel
theorem dX7_countWithin_18 : decode cX7_countWithin 18 = .ok (.aload_n 3, 1) := by decide +kernel
theorem dX7_countWithin_19 : decode cX7_countWithin 19 = .ok (.ifnull 13, 3) := by decide +kernel
theorem dX7_countWithin_22 : decode cX7_countWithin 22 = .ok (.aload_n 3, 1) := by decide +kernel
theorem dX7_countWithin_23 : decode cX7_countWithin 23 = .ok (.getfield 51, 3) := by decide +kernel
theorem dX7_countWithin_26 : decode cX7_countWithin 26 = .ok (.ifCond .eq 6, 3) := by decide +kernel
theorem dX7_countWithin_29 : decode cX7_countWithin 29 = .ok (.iinc 1 1, 3) := by decide +kernel
theorem dX7_countWithin_32 : decode cX7_countWithin 32 = .ok (.iinc 2 1, 3) := by decide +kernel
theorem dX7_countWithin_35 : decode cX7_countWithin 35 = .ok (.goto (-31), 3) := by decide +kernel
theorem dX7_countWithin_38 : decode cX7_countWithin 38 = .ok (.iload_n 1, 1) := by decide +kernel
theorem dX7_countWithin_39 : decode cX7_countWithin 39 = .ok (.ireturn, 1) := by decide +kernel
theorem dX7_crackedSet_0 : decode cX7_crackedSet 0 = .ok (.iconst 0, 1) := by decide +kernel
theorem dX7_crackedSet_1 : decode cX7_crackedSet 1 = .ok (.istore_n 1, 1) := by decide +kernel
theorem dX7_crackedSet_2 : decode cX7_crackedSet 2 = .ok (.iconst 0, 1) := by decide +kernel
theorem dX7_crackedSet_3 : decode cX7_crackedSet 3 = .ok (.istore_n 2, 1) := by decide +kernel
theorem dX7_crackedSet_4 : decode cX7_crackedSet 4 = .ok (.iload_n 2, 1) := by decide +kernel
theorem dX7_crackedSet_5 : decode cX7_crackedSet 5 = .ok (.aload_n 0, 1) := by decide +kernel
theorem dX7_crackedSet_6 : decode cX7_crackedSet 6 = .ok (.getfield 9, 3) := by decide +kernel
theorem dX7_crackedSet_9 : decode cX7_crackedSet 9 = .ok (.if_icmp .ge 33, 3) := by decide +kernel
theorem dX7_crackedSet_12 : decode cX7_crackedSet 12 = .ok (.aload_n 0, 1) := by decide +kernel
theorem dX7_crackedSet_13 : decode cX7_crackedSet 13 = .ok (.iload_n 2, 1) := by decide +kernel
theorem dX7_crackedSet_14 : decode cX7_crackedSet 14 = .ok (.invokevirtual 22, 3) := by decide +kernel
theorem dX7_crackedSet_17 : decode cX7_crackedSet 17 = .ok (.astore_n 3, 1) := by decide +kernel
theorem dX7_crackedSet_18 : decode cX7_crackedSet 18 = .ok (.aload_n 3, 1) := by decide +kernel
theorem dX7_crackedSet_19 : decode cX7_crackedSet 19 = .ok (.ifnull 17, 3) := by decide +kernel
theorem dX7_crackedSet_22 : decode cX7_crackedSet 22 = .ok (.aload_n 3, 1) := by decide +kernel
theorem dX7_crackedSet_23 : decode cX7_crackedSet 23 = .ok (.getfield 44, 3) := by decide +kernel
theorem dX7_crackedSet_26 : decode cX7_crackedSet 26 = .ok (.iconst 3, 1) := by decide +kernel
theorem dX7_crackedSet_27 : decode cX7_crackedSet 27 = .ok (.if_icmp .ne 9, 3) := by decide +kernel
theorem dX7_crackedSet_30 : decode cX7_crackedSet 30 = .ok (.iload_n 1, 1) := by decide +kernel
theorem dX7_crackedSet_31 : decode cX7_crackedSet 31 = .ok (.iconst 1, 1) := by decide +kernel
theorem dX7_crackedSet_32 : decode cX7_crackedSet 32 = .ok (.iload_n 2, 1) := by decide +kernel
theorem dX7_crackedSet_33 : decode cX7_crackedSet 33 = .ok (.ishl, 1) := by decide +kernel
theorem dX7_crackedSet_34 : decode cX7_crackedSet 34 = .ok (.ior, 1) := by decide +kernel
theorem dX7_crackedSet_35 : decode cX7_crackedSet 35 = .ok (.istore_n 1, 1) := by decide +kernel
theorem dX7_crackedSet_36 : decode cX7_crackedSet 36 = .ok (.iinc 2 1, 3) := by decide +kernel
theorem dX7_crackedSet_39 : decode cX7_crackedSet 39 = .ok (.goto (-35), 3) := by decide +kernel
theorem dX7_crackedSet_42 : decode cX7_crackedSet 42 = .ok (.iload_n 1, 1) := by decide +kernel
theorem dX7_crackedSet_43 : decode cX7_crackedSet 43 = .ok (.ireturn, 1) := by decide +kernel
theorem dX7_isNoneSoakedTooLong_0 : decode cX7_isNoneSoakedTooLong 0 = .ok (.iconst 0, 1) := by decide +kernel
theorem dX7_isNoneSoakedTooLong_1 : decode cX7_isNoneSoakedTooLong 1 = .ok (.istore_n 1, 1) := by decide +kernel
theorem dX7_isNoneSoakedTooLong_2 : decode cX7_isNoneSoakedTooLong 2 = .ok (.iload_n 1, 1) := by decide +kernel
theorem dX7_isNoneSoakedTooLong_3 : decode cX7_isNoneSoakedTooLong 3 = .ok (.aload_n 0, 1) := by decide +kernel
theorem dX7_isNoneSoakedTooLong_4 : decode cX7_isNoneSoakedTooLong 4 = .ok (.getfield 9, 3) := by decide +kernel
theorem dX7_isNoneSoakedTooLong_7 : decode cX7_isNoneSoakedTooLong 7 = .ok (.if_icmp .ge 32, 3) := by decide +kernel
theorem dX7_isNoneSoakedTooLong_10 : decode cX7_isNoneSoakedTooLong 10 = .ok (.aload_n 0, 1) := by decide +kernel
theorem dX7_isNoneSoakedTooLong_11 : decode cX7_isNoneSoakedTooLong 11 = .ok (.iload_n 1, 1) := by decide +kernel
theorem dX7_isNoneSoakedTooLong_12 : decode cX7_isNoneSoakedTooLong 12 = .ok (.invokevirtual 22, 3) := by decide +kernel
theorem dX7_isNoneSoakedTooLong_15 : decode cX7_isNoneSoakedTooLong 15 = .ok (.astore_n 2, 1) := by decide +kernel
theorem dX7_isNoneSoakedTooLong_16 : decode cX7_isNoneSoakedTooLong 16 = .ok (.aload_n 2, 1) := by decide +kernel
theorem dX7_isNoneSoakedTooLong_17 : decode cX7_isNoneSoakedTooLong 17 = .ok (.ifnull 16, 3) := by decide +kernel
theorem dX7_isNoneSoakedTooLong_20 : decode cX7_isNoneSoakedTooLong 20 = .ok (.aload_n 2, 1) := by decide +kernel
theorem dX7_isNoneSoakedTooLong_21 : decode cX7_isNoneSoakedTooLong 21 = .ok (.getfield 67, 3) := by decide +kernel
theorem dX7_isNoneSoakedTooLong_24 : decode cX7_isNoneSoakedTooLong 24 = .ok (.aload_n 2, 1) := by decide +kernel
theorem dX7_isNoneSoakedTooLong_25 : decode cX7_isNoneSoakedTooLong 25 = .ok (.getfield 70, 3) := by decide +kernel
theorem dX7_isNoneSoakedTooLong_28 : decode cX7_isNoneSoakedTooLong 28 = .ok (.if_icmp .le 5, 3) := by decide +kernel
theorem dX7_isNoneSoakedTooLong_31 : decode cX7_isNoneSoakedTooLong 31 = .ok (.iconst 0, 1) := by decide +kernel
theorem dX7_isNoneSoakedTooLong_32 : decode cX7_isNoneSoakedTooLong 32 = .ok (.ireturn, 1) := by decide +kernel
theorem dX7_isNoneSoakedTooLong_33 : decode cX7_isNoneSoakedTooLong 33 = .ok (.iinc 1 1, 3) := by decide +kernel
theorem dX7_isNoneSoakedTooLong_36 : decode cX7_isNoneSoakedTooLong 36 = .ok (.goto (-34), 3) := by decide +kernel
theorem dX7_isNoneSoakedTooLong_39 : decode cX7_isNoneSoakedTooLong 39 = .ok (.iconst 1, 1) := by decide +kernel
theorem dX7_isNoneSoakedTooLong_40 : decode cX7_isNoneSoakedTooLong 40 = .ok (.ireturn, 1) := by decide +kernel
theorem dX8_init_0 : decode cX8_init 0 = .ok (.aload_n 0, 1) := by decide +kernel
theorem dX8_init_1 : decode cX8_init 1 = .ok (.invokespecial 3, 3) := by decide +kernel
theorem dX8_init_4 : decode cX8_init 4 = .ok (.aload_n 0, 1) := by decide +kernel
theorem dX8_init_5 : decode cX8_init 5 = .ok (.new 9, 3) := by decide +kernel
theorem dX8_init_8 : decode cX8_init 8 = .ok (.dup, 1) := by decide +kernel
theorem dX8_init_9 : decode cX8_init 9 = .ok (.invokespecial 11, 3) := by decide +kernel
theorem dX8_init_12 : decode cX8_init 12 = .ok (.putfield 12, 3) := by decide +kernel
theorem dX8_init_15 : decode cX8_init 15 = .ok (.aload_n 0, 1) := by decide +kernel
theorem dX8_init_16 : decode cX8_init 16 = .ok (.bipush 12, 2) := by decide +kernel
theorem dX8_init_18 : decode cX8_init 18 = .ok (.anewarray 18, 3) := by decide +kernel
theorem dX8_init_21 : decode cX8_init 21 = .ok (.putfield 20, 3) := by decide +kernel
theorem dX8_init_24 : decode cX8_init 24 = .ok (.iconst 0, 1) := by decide +kernel
theorem dX8_init_25 : decode cX8_init 25 = .ok (.istore_n 1, 1) := by decide +kernel
theorem dX8_init_26 : decode cX8_init 26 = .ok (.iload_n 1, 1) := by decide +kernel
theorem dX8_init_27 : decode cX8_init 27 = .ok (.aload_n 0, 1) := by decide +kernel
theorem dX8_init_28 : decode cX8_init 28 = .ok (.getfield 20, 3) := by decide +kernel
theorem dX8_init_31 : decode cX8_init 31 = .ok (.arraylength, 1) := by decide +kernel
theorem dX8_init_32 : decode cX8_init 32 = .ok (.if_icmp .ge 22, 3) := by decide +kernel
theorem dX8_init_35 : decode cX8_init 35 = .ok (.aload_n 0, 1) := by decide +kernel
theorem dX8_init_36 : decode cX8_init 36 = .ok (.getfield 20, 3) := by decide +kernel
theorem dX8_init_39 : decode cX8_init 39 = .ok (.iload_n 1, 1) := by decide +kernel
theorem dX8_init_40 : decode cX8_init 40 = .ok (.new 18, 3) := by decide +kernel
theorem dX8_init_43 : decode cX8_init 43 = .ok (.dup, 1) := by decide +kernel
theorem dX8_init_44 : decode cX8_init 44 = .ok (.invokespecial 24, 3) := by decide +kernel
theorem dX8_init_47 : decode cX8_init 47 = .ok (.aastore, 1) := by decide +kernel
theorem dX8_init_48 : decode cX8_init 48 = .ok (.iinc 1 1, 3) := by decide +kernel
theorem dX8_init_51 : decode cX8_init 51 = .ok (.goto (-25), 3) := by decide +kernel
theorem dX8_init_54 : decode cX8_init 54 = .ok (.return_, 1) := by decide +kernel
theorem dX8_textLength_0 : decode cX8_textLength 0 = .ok (.aload_n 0, 1) := by decide +kernel
theorem dX8_textLength_1 : decode cX8_textLength 1 = .ok (.getfield 12, 3) := by decide +kernel
theorem dX8_textLength_4 : decode cX8_textLength 4 = .ok (.invokevirtual 25, 3) := by decide +kernel
theorem dX8_textLength_7 : decode cX8_textLength 7 = .ok (.ireturn, 1) := by decide +kernel
theorem dX8_clearText_0 : decode cX8_clearText 0 = .ok (.aload_n 0, 1) := by decide +kernel
theorem dX8_clearText_1 : decode cX8_clearText 1 = .ok (.getfield 12, 3) := by decide +kernel
theorem dX8_clearText_4 : decode cX8_clearText 4 = .ok (.iconst 0, 1) := by decide +kernel
theorem dX8_clearText_5 : decode cX8_clearText 5 = .ok (.invokevirtual 29, 3) := by decide +kernel
theorem dX8_clearText_8 : decode cX8_clearText 8 = .ok (.return_, 1) := by decide +kernel
theorem dX8_addCode_0 : decode cX8_addCode 0 = .ok (.bipush 32, 2) := by decide +kernel
theorem dX8_addCode_2 : decode cX8_addCode 2 = .ok (.iload_n 1, 1) := by decide +kernel
theorem dX8_addCode_3 : decode cX8_addCode 3 = .ok (.bipush 126, 2) := by decide +kernel
theorem dX8_addCode_5 : decode cX8_addCode 5 = .ok (.invokestatic 33, 3) := by decide +kernel
theorem dX8_addCode_8 : decode cX8_addCode 8 = .ok (.ifCond .ne 7, 3) := by decide +kernel
theorem dX8_addCode_11 : decode cX8_addCode 11 = .ok (.sipush (-10002), 3) := by decide +kernel
theorem dX8_addCode_14 : decode cX8_addCode 14 = .ok (.ireturn, 1) := by decide +kernel
theorem dX8_addCode_15 : decode cX8_addCode 15 = .ok (.aload_n 0, 1) := by decide +kernel
theorem dX8_addCode_16 : decode cX8_addCode 16 = .ok (.getfield 12, 3) := by decide +kernel
theorem dX8_addCode_19 : decode cX8_addCode 19 = .ok (.invokevirtual 25, 3) := by decide +kernel
theorem dX8_addCode_22 : decode cX8_addCode 22 = .ok (.bipush 60, 2) := by decide +kernel
theorem dX8_addCode_24 : decode cX8_addCode 24 = .ok (.if_icmp .lt 7, 3) := by decide +kernel
theorem dX8_addCode_27 : decode cX8_addCode 27 = .ok (.sipush (-10003), 3) := by decide +kernel
theorem dX8_addCode_30 : decode cX8_addCode 30 = .ok (.ireturn, 1) := by decide +kernel
theorem dX8_addCode_31 : decode cX8_addCode 31 = .ok (.aload_n 0, 1) := by decide +kernel
theorem dX8_addCode_32 : decode cX8_addCode 32 = .ok (.getfield 12, 3) := by decide +kernel
theorem dX8_addCode_35 : decode cX8_addCode 35 = .ok (.iload_n 1, 1) := by decide +kernel
theorem dX8_addCode_36 : decode cX8_addCode 36 = .ok (.i2c, 1) := by decide +kernel
theorem dX8_addCode_37 : decode cX8_addCode 37 = .ok (.invokevirtual 37, 3) := by decide +kernel
theorem dX8_addCode_40 : decode cX8_addCode 40 = .ok (.pop, 1) := by decide +kernel
theorem dX8_addCode_41 : decode cX8_addCode 41 = .ok (.aload_n 0, 1) := by decide +kernel
theorem dX8_addCode_42 : decode cX8_addCode 42 = .ok (.getfield 12, 3) := by decide +kernel
theorem dX8_addCode_45 : decode cX8_addCode 45 = .ok (.invokevirtual 25, 3) := by decide +kernel
theorem dX8_addCode_48 : decode cX8_addCode 48 = .ok (.ireturn, 1) := by decide +kernel
theorem dX8_orderAt_0 : decode cX8_orderAt 0 = .ok (.iload_n 1, 1) := by decide +kernel
theorem dX8_orderAt_1 : decode cX8_orderAt 1 = .ok (.ifCond .lt 21, 3) := by decide +kernel
theorem dX8_orderAt_4 : decode cX8_orderAt 4 = .ok (.iload_n 1, 1) := by decide +kernel
theorem dX8_orderAt_5 : decode cX8_orderAt 5 = .ok (.aload_n 0, 1) := by decide +kernel
theorem dX8_orderAt_6 : decode cX8_orderAt 6 = .ok (.getfield 20, 3) := by decide +kernel
theorem dX8_orderAt_9 : decode cX8_orderAt 9 = .ok (.arraylength, 1) := by decide +kernel
theorem dX8_orderAt_10 : decode cX8_orderAt 10 = .ok (.if_icmp .ge 12, 3) := by decide +kernel
theorem dX8_orderAt_13 : decode cX8_orderAt 13 = .ok (.aload_n 0, 1) := by decide +kernel
theorem dX8_orderAt_14 : decode cX8_orderAt 14 = .ok (.getfield 20, 3) := by decide +kernel
theorem dX8_orderAt_17 : decode cX8_orderAt 17 = .ok (.iload_n 1, 1) := by decide +kernel
theorem dX8_orderAt_18 : decode cX8_orderAt 18 = .ok (.aaload, 1) := by decide +kernel
theorem dX8_orderAt_19 : decode cX8_orderAt 19 = .ok (.goto 4, 3) := by decide +kernel
theorem dX8_orderAt_22 : decode cX8_orderAt 22 = .ok (.aconst_null, 1) := by decide +kernel
theorem dX8_orderAt_23 : decode cX8_orderAt 23 = .ok (.areturn, 1) := by decide +kernel
theorem dX8_read_0 : decode cX8_read 0 = .ok (.iconst 0, 1) := by decide +kernel
theorem dX8_read_1 : decode cX8_read 1 = .ok (.istore_n 1, 1) := by decide +kernel
theorem dX8_read_2 : decode cX8_read 2 = .ok (.iconst 0, 1) := by decide +kernel
theorem dX8_read_3 : decode cX8_read 3 = .ok (.istore_n 2, 1) := by decide +kernel
theorem dX8_read_4 : decode cX8_read 4 = .ok (.iload_n 2, 1) := by decide +kernel
theorem dX8_read_5 : decode cX8_read 5 = .ok (.bipush 12, 2) := by decide +kernel
theorem dX8_read_7 : decode cX8_read 7 = .ok (.if_icmp .ge 68, 3) := by decide +kernel
theorem dX8_read_10 : decode cX8_read 10 = .ok (.aload_n 0, 1) := by decide +kernel
theorem dX8_read_11 : decode cX8_read 11 = .ok (.iload_n 1, 1) := by decide +kernel
theorem dX8_read_12 : decode cX8_read 12 = .ok (.aload_n 0, 1) := by decide +kernel
theorem dX8_read_13 : decode cX8_read 13 = .ok (.iload_n 2, 1) := by decide +kernel
theorem dX8_read_14 : decode cX8_read 14 = .ok (.invokevirtual 41, 3) := by decide +kernel
theorem dX8_read_17 : decode cX8_read 17 = .ok (.invokevirtual 45, 3) := by decide +kernel
theorem dX8_read_20 : decode cX8_read 20 = .ok (.istore_n 3, 1) := by decide +kernel
theorem dX8_read_21 : decode cX8_read 21 = .ok (.iload_n 3, 1) := by decide +kernel
theorem dX8_read_22 : decode cX8_read 22 = .ok (.ifCond .ge 12, 3) := by decide +kernel
theorem dX8_read_25 : decode cX8_read 25 = .ok (.sipush (-20000), 3) := by decide +kernel
theorem dX8_read_28 : decode cX8_read 28 = .ok (.iload_n 3, 1) := by decide +kernel
theorem dX8_read_29 : decode cX8_read 29 = .ok (.invokestatic 49, 3) := by decide +kernel
theorem dX8_read_32 : decode cX8_read 32 = .ok (.isub, 1) := by decide +kernel
theorem dX8_read_33 : decode cX8_read 33 = .ok (.ireturn, 1) := by decide +kernel
theorem dX8_read_34 : decode cX8_read 34 = .ok (.iload_n 3, 1) := by decide +kernel
theorem dX8_read_35 : decode cX8_read 35 = .ok (.aload_n 0, 1) := by decide +kernel
theorem dX8_read_36 : decode cX8_read 36 = .ok (.getfield 12, 3) := by decide +kernel
theorem dX8_read_39 : decode cX8_read 39 = .ok (.invokevirtual 25, 3) := by decide +kernel
theorem dX8_read_42 : decode cX8_read 42 = .ok (.if_icmp .ne 7, 3) := by decide +kernel
theorem dX8_read_45 : decode cX8_read 45 = .ok (.iload_n 2, 1) := by decide +kernel
theorem dX8_read_46 : decode cX8_read 46 = .ok (.iconst 1, 1) := by decide +kernel
theorem dX8_read_47 : decode cX8_read 47 = .ok (.iadd, 1) := by decide +kernel
theorem dX8_read_48 : decode cX8_read 48 = .ok (.ireturn, 1) := by decide +kernel
theorem dX8_read_49 : decode cX8_read 49 = .ok (.aload_n 0, 1) := by decide +kernel
theorem dX8_read_50 : decode cX8_read 50 = .ok (.iload_n 3, 1) := by decide +kernel
theorem dX8_read_51 : decode cX8_read 51 = .ok (.bipush 59, 2) := by decide +kernel
theorem dX8_read_53 : decode cX8_read 53 = .ok (.invokevirtual 53, 3) := by decide +kernel
theorem dX8_read_56 : decode cX8_read 56 = .ok (.ifCond .ne 9, 3) := by decide +kernel
theorem dX8_read_59 : decode cX8_read 59 = .ok (.sipush (-20000), 3) := by decide +kernel
theorem dX8_read_62 : decode cX8_read 62 = .ok (.iload_n 3, 1) := by decide +kernel
theorem dX8_read_63 : decode cX8_read 63 = .ok (.isub, 1) := by decide +kernel
theorem dX8_read_64 : decode cX8_read 64 = .ok (.ireturn, 1) := by decide +kernel
theorem dX8_read_65 : decode cX8_read 65 = .ok (.iload_n 3, 1) := by decide +kernel
theorem dX8_read_66 : decode cX8_read 66 = .ok (.iconst 1, 1) := by decide +kernel
theorem dX8_read_67 : decode cX8_read 67 = .ok (.iadd, 1) := by decide +kernel
theorem dX8_read_68 : decode cX8_read 68 = .ok (.istore_n 1, 1) := by decide +kernel
theorem dX8_read_69 : decode cX8_read 69 = .ok (.iinc 2 1, 3) := by decide +kernel
theorem dX8_read_72 : decode cX8_read 72 = .ok (.goto (-68), 3) := by decide +kernel
theorem dX8_read_75 : decode cX8_read 75 = .ok (.sipush (-20000), 3) := by decide +kernel
theorem dX8_read_78 : decode cX8_read 78 = .ok (.iload_n 1, 1) := by decide +kernel
theorem dX8_read_79 : decode cX8_read 79 = .ok (.isub, 1) := by decide +kernel
theorem dX8_read_80 : decode cX8_read 80 = .ok (.ireturn, 1) := by decide +kernel
theorem dX8_readOrder_0 : decode cX8_readOrder 0 = .ok (.iload_n 1, 1) := by decide +kernel
theorem dX8_readOrder_1 : decode cX8_readOrder 1 = .ok (.istore_n 3, 1) := by decide +kernel
theorem dX8_readOrder_2 : decode cX8_readOrder 2 = .ok (.getstatic 57, 3) := by decide +kernel
theorem dX8_readOrder_5 : decode cX8_readOrder 5 = .ok (.astore 4, 2) := by decide +kernel
theorem dX8_readOrder_7 : decode cX8_readOrder 7 = .ok (.aload 4, 2) := by decide +kernel
theorem dX8_readOrder_9 : decode cX8_readOrder 9 = .ok (.arraylength, 1) := by decide +kernel
theorem dX8_readOrder_10 : decode cX8_readOrder 10 = .ok (.istore 5, 2) := by decide +kernel
theorem dX8_readOrder_12 : decode cX8_readOrder 12 = .ok (.iconst 0, 1) := by decide +kernel
theorem dX8_readOrder_13 : decode cX8_readOrder 13 = .ok (.istore 6, 2) := by decide +kernel
theorem dX8_readOrder_15 : decode cX8_readOrder 15 = .ok (.iload 6, 2) := by decide +kernel
theorem dX8_readOrder_17 : decode cX8_readOrder 17 = .ok (.iload 5, 2) := by decide +kernel
theorem dX8_readOrder_19 : decode cX8_readOrder 19 = .ok (.if_icmp .ge 44, 3) := by decide +kernel
theorem dX8_readOrder_22 : decode cX8_readOrder 22 = .ok (.aload 4, 2) := by decide +kernel
theorem dX8_readOrder_24 : decode cX8_readOrder 24 = .ok (.iload 6, 2) := by decide +kernel
theorem dX8_readOrder_26 : decode cX8_readOrder 26 = .ok (.aaload, 1) := by decide +kernel
theorem dX8_readOrder_27 : decode cX8_readOrder 27 = .ok (.astore 7, 2) := by decide +kernel
theorem dX8_readOrder_29 : decode cX8_readOrder 29 = .ok (.aload_n 0, 1) := by decide +kernel
theorem dX8_readOrder_30 : decode cX8_readOrder 30 = .ok (.aload 7, 2) := by decide +kernel
theorem dX8_readOrder_32 : decode cX8_readOrder 32 = .ok (.iload_n 1, 1) := by decide +kernel
theorem dX8_readOrder_33 : decode cX8_readOrder 33 = .ok (.aload_n 2, 1) := by decide +kernel
theorem dX8_readOrder_34 : decode cX8_readOrder 34 = .ok (.invokevirtual 61, 3) := by decide +kernel
theorem dX8_readOrder_37 : decode cX8_readOrder 37 = .ok (.istore 8, 2) := by decide +kernel
theorem dX8_readOrder_39 : decode cX8_readOrder 39 = .ok (.iload 8, 2) := by decide +kernel
theorem dX8_readOrder_41 : decode cX8_readOrder 41 = .ok (.ifCond .lt 6, 3) := by decide +kernel
theorem dX8_readOrder_44 : decode cX8_readOrder 44 = .ok (.iload 8, 2) := by decide +kernel
theorem dX8_readOrder_46 : decode cX8_readOrder 46 = .ok (.ireturn, 1) := by decide +kernel
theorem dX8_readOrder_47 : decode cX8_readOrder 47 = .ok (.iload_n 3, 1) := by decide +kernel
theorem dX8_readOrder_48 : decode cX8_readOrder 48 = .ok (.iload 8, 2) := by decide +kernel
theorem dX8_readOrder_50 : decode cX8_readOrder 50 = .ok (.invokestatic 49, 3) := by decide +kernel
theorem dX8_readOrder_53 : decode cX8_readOrder 53 = .ok (.invokestatic 65, 3) := by decide +kernel
theorem dX8_readOrder_56 : decode cX8_readOrder 56 = .ok (.istore_n 3, 1) := by decide +kernel
theorem dX8_readOrder_57 : decode cX8_readOrder 57 = .ok (.iinc 6 1, 3) := by decide +kernel
theorem dX8_readOrder_60 : decode cX8_readOrder 60 = .ok (.goto (-45), 3) := by decide +kernel
theorem dX8_readOrder_63 : decode cX8_readOrder 63 = .ok (.iload_n 3, 1) := by decide +kernel
theorem dX8_readOrder_64 : decode cX8_readOrder 64 = .ok (.invokestatic 71, 3) := by decide +kernel
theorem dX8_readOrder_67 : decode cX8_readOrder 67 = .ok (.ireturn, 1) := by decide +kernel
theorem dX8_readForm_0 : decode cX8_readForm 0 = .ok (.aload_n 1, 1) := by decide +kernel
theorem dX8_readForm_1 : decode cX8_readForm 1 = .ok (.ifnull 7, 3) := by decide +kernel
theorem dX8_readForm_4 : decode cX8_readForm 4 = .ok (.aload_n 3, 1) := by decide +kernel
theorem dX8_readForm_5 : decode cX8_readForm 5 = .ok (.ifnonnull 8, 3) := by decide +kernel
theorem dX8_readForm_8 : decode cX8_readForm 8 = .ok (.iload_n 2, 1) := by decide +kernel
theorem dX8_readForm_9 : decode cX8_readForm 9 = .ok (.invokestatic 71, 3) := by decide +kernel
theorem dX8_readForm_12 : decode cX8_readForm 12 = .ok (.ireturn, 1) := by decide +kernel
theorem dX8_readForm_13 : decode cX8_readForm 13 = .ok (.aload_n 3, 1) := by decide +kernel
theorem dX8_readForm_14 : decode cX8_readForm 14 = .ok (.aload_n 1, 1) := by decide +kernel
theorem dX8_readForm_15 : decode cX8_readForm 15 = .ok (.putfield 74, 3) := by decide +kernel
theorem dX8_readForm_18 : decode cX8_readForm 18 = .ok (.iload_n 2, 1) := by decide +kernel
theorem dX8_readForm_19 : decode cX8_readForm 19 = .ok (.istore 4, 2) := by decide +kernel
theorem dX8_readForm_21 : decode cX8_readForm 21 = .ok (.iconst 0, 1) := by decide +kernel
theorem dX8_readForm_22 : decode cX8_readForm 22 = .ok (.istore 5, 2) := by decide +kernel
theorem dX8_readForm_24 : decode cX8_readForm 24 = .ok (.iconst 0, 1) := by decide +kernel
theorem dX8_readForm_25 : decode cX8_readForm 25 = .ok (.istore 6, 2) := by decide +kernel
theorem dX8_readForm_27 : decode cX8_readForm 27 = .ok (.iload 6, 2) := by decide +kernel
theorem dX8_readForm_29 : decode cX8_readForm 29 = .ok (.aload_n 1, 1) := by decide +kernel
theorem dX8_readForm_30 : decode cX8_readForm 30 = .ok (.getfield 78, 3) := by decide +kernel
theorem dX8_readForm_33 : decode cX8_readForm 33 = .ok (.invokevirtual 84, 3) := by decide +kernel
theorem dX8_readForm_36 : decode cX8_readForm 36 = .ok (.if_icmp .ge 110, 3) := by decide +kernel
theorem dX8_readForm_39 : decode cX8_readForm 39 = .ok (.aload_n 1, 1) := by decide +kernel
theorem dX8_readForm_40 : decode cX8_readForm 40 = .ok (.getfield 78, 3) := by decide +kernel
theorem dX8_readForm_43 : decode cX8_readForm 43 = .ok (.iload 6, 2) := by decide +kernel
theorem dX8_readForm_45 : decode cX8_readForm 45 = .ok (.invokevirtual 87, 3) := by decide +kernel
theorem dX8_readForm_48 : decode cX8_readForm 48 = .ok (.istore 7, 2) := by decide +kernel
theorem dX8_readForm_50 : decode cX8_readForm 50 = .ok (.iload 7, 2) := by decide +kernel
theorem dX8_readForm_52 : decode cX8_readForm 52 = .ok (.bipush 49, 2) := by decide +kernel
theorem dX8_readForm_54 : decode cX8_readForm 54 = .ok (.if_icmp .lt 63, 3) := by decide +kernel
theorem dX8_readForm_57 : decode cX8_readForm 57 = .ok (.iload 7, 2) := by decide +kernel
theorem dX8_readForm_59 : decode cX8_readForm 59 = .ok (.bipush 57, 2) := by decide +kernel
theorem dX8_readForm_61 : decode cX8_readForm 61 = .ok (.if_icmp .gt 56, 3) := by decide +kernel
theorem dX8_readForm_64 : decode cX8_readForm 64 = .ok (.aload_n 0, 1) := by decide +kernel
theorem dX8_readForm_65 : decode cX8_readForm 65 = .ok (.iload 4, 2) := by decide +kernel
theorem dX8_readForm_67 : decode cX8_readForm 67 = .ok (.iload 7, 2) := by decide +kernel
theorem dX8_readForm_69 : decode cX8_readForm 69 = .ok (.bipush 48, 2) := by decide +kernel
theorem dX8_readForm_71 : decode cX8_readForm 71 = .ok (.isub, 1) := by decide +kernel
theorem dX8_readForm_72 : decode cX8_readForm 72 = .ok (.invokevirtual 91, 3) := by decide +kernel
theorem dX8_readForm_75 : decode cX8_readForm 75 = .ok (.istore 8, 2) := by decide +kernel
theorem dX8_readForm_77 : decode cX8_readForm 77 = .ok (.iload 8, 2) := by decide +kernel
theorem dX8_readForm_79 : decode cX8_readForm 79 = .ok (.iload 4, 2) := by decide +kernel
theorem dX8_readForm_81 : decode cX8_readForm 81 = .ok (.if_icmp .ne 9, 3) := by decide +kernel
theorem dX8_readForm_84 : decode cX8_readForm 84 = .ok (.iload 4, 2) := by decide +kernel
theorem dX8_readForm_86 : decode cX8_readForm 86 = .ok (.invokestatic 71, 3) := by decide +kernel
theorem dX8_readForm_89 : decode cX8_readForm 89 = .ok (.ireturn, 1) := by decide +kernel
theorem dX8_readForm_90 : decode cX8_readForm 90 = .ok (.aload_n 3, 1) := by decide +kernel
theorem dX8_readForm_91 : decode cX8_readForm 91 = .ok (.getfield 94, 3) := by decide +kernel
theorem dX8_readForm_94 : decode cX8_readForm 94 = .ok (.iload 5, 2) := by decide +kernel
theorem dX8_readForm_96 : decode cX8_readForm 96 = .ok (.aload_n 0, 1) := by decide +kernel
theorem dX8_readForm_97 : decode cX8_readForm 97 = .ok (.iload 4, 2) := by decide +kernel
theorem dX8_readForm_99 : decode cX8_readForm 99 = .ok (.iload 8, 2) := by decide +kernel
theorem dX8_readForm_101 : decode cX8_readForm 101 = .ok (.invokevirtual 98, 3) := by decide +kernel
theorem dX8_readForm_104 : decode cX8_readForm 104 = .ok (.invokestatic 101, 3) := by decide +kernel
theorem dX8_readForm_107 : decode cX8_readForm 107 = .ok (.iinc 5 1, 3) := by decide +kernel
theorem dX8_readForm_110 : decode cX8_readForm 110 = .ok (.iload 8, 2) := by decide +kernel
theorem dX8_readForm_112 : decode cX8_readForm 112 = .ok (.istore 4, 2) := by decide +kernel
theorem dX8_readForm_114 : decode cX8_readForm 114 = .ok (.goto 26, 3) := by decide +kernel
theorem dX8_readForm_117 : decode cX8_readForm 117 = .ok (.aload_n 0, 1) := by decide +kernel
theorem dX8_readForm_118 : decode cX8_readForm 118 = .ok (.iload 4, 2) := by decide +kernel
theorem dX8_readForm_120 : decode cX8_readForm 120 = .ok (.iload 7, 2) := by decide +kernel
theorem dX8_readForm_122 : decode cX8_readForm 122 = .ok (.invokevirtual 53, 3) := by decide +kernel
theorem dX8_readForm_125 : decode cX8_readForm 125 = .ok (.ifCond .eq 9, 3) := by decide +kernel
theorem dX8_readForm_128 : decode cX8_readForm 128 = .ok (.iinc 4 1, 3) := by decide +kernel
theorem dX8_readForm_131 : decode cX8_readForm 131 = .ok (.goto 9, 3) := by decide +kernel
theorem dX8_readForm_134 : decode cX8_readForm 134 = .ok (.iload 4, 2) := by decide +kernel
theorem dX8_readForm_136 : decode cX8_readForm 136 = .ok (.invokestatic 71, 3) := by decide +kernel
theorem dX8_readForm_139 : decode cX8_readForm 139 = .ok (.ireturn, 1) := by decide +kernel
theorem dX8_readForm_140 : decode cX8_readForm 140 = .ok (.iinc 6 1, 3) := by decide +kernel
theorem dX8_readForm_143 : decode cX8_readForm 143 = .ok (.goto (-116), 3) := by decide +kernel
theorem dX8_readForm_146 : decode cX8_readForm 146 = .ok (.iload 4, 2) := by decide +kernel
theorem dX8_readForm_148 : decode cX8_readForm 148 = .ok (.ireturn, 1) := by decide +kernel
theorem dX8_endOfDigits_0 : decode cX8_endOfDigits 0 = .ok (.iload_n 1, 1) := by decide +kernel
theorem dX8_endOfDigits_1 : decode cX8_endOfDigits 1 = .ok (.istore_n 3, 1) := by decide +kernel
theorem dX8_endOfDigits_2 : decode cX8_endOfDigits 2 = .ok (.iload_n 3, 1) := by decide +kernel
theorem dX8_endOfDigits_3 : decode cX8_endOfDigits 3 = .ok (.iload_n 1, 1) := by decide +kernel
theorem dX8_endOfDigits_4 : decode cX8_endOfDigits 4 = .ok (.iload_n 2, 1) := by decide +kernel
theorem dX8_endOfDigits_5 : decode cX8_endOfDigits 5 = .ok (.iadd, 1) := by decide +kernel
theorem dX8_endOfDigits_6 : decode cX8_endOfDigits 6 = .ok (.if_icmp .ge 28, 3) := by decide +kernel
theorem dX8_endOfDigits_9 : decode cX8_endOfDigits 9 = .ok (.iload_n 3, 1) := by decide +kernel
theorem dX8_endOfDigits_10 : decode cX8_endOfDigits 10 = .ok (.aload_n 0, 1) := by decide +kernel
theorem dX8_endOfDigits_11 : decode cX8_endOfDigits 11 = .ok (.getfield 12, 3) := by decide +kernel
theorem dX8_endOfDigits_14 : decode cX8_endOfDigits 14 = .ok (.invokevirtual 25, 3) := by decide +kernel
theorem dX8_endOfDigits_17 : decode cX8_endOfDigits 17 = .ok (.if_icmp .ge 17, 3) := by decide +kernel
theorem dX8_endOfDigits_20 : decode cX8_endOfDigits 20 = .ok (.aload_n 0, 1) := by decide +kernel
theorem dX8_endOfDigits_21 : decode cX8_endOfDigits 21 = .ok (.iload_n 3, 1) := by decide +kernel
theorem dX8_endOfDigits_22 : decode cX8_endOfDigits 22 = .ok (.invokevirtual 105, 3) := by decide +kernel
theorem dX8_endOfDigits_25 : decode cX8_endOfDigits 25 = .ok (.ifCond .lt 9, 3) := by decide +kernel
theorem dX8_endOfDigits_28 : decode cX8_endOfDigits 28 = .ok (.iinc 3 1, 3) := by decide +kernel
theorem dX8_endOfDigits_31 : decode cX8_endOfDigits 31 = .ok (.goto (-29), 3) := by decide +kernel
theorem dX8_endOfDigits_34 : decode cX8_endOfDigits 34 = .ok (.iload_n 3, 1) := by decide +kernel
theorem dX8_endOfDigits_35 : decode cX8_endOfDigits 35 = .ok (.ireturn, 1) := by decide +kernel
theorem dX8_numberFrom_0 : decode cX8_numberFrom 0 = .ok (.iconst 0, 1) := by decide +kernel
theorem dX8_numberFrom_1 : decode cX8_numberFrom 1 = .ok (.istore_n 3, 1) := by decide +kernel
theorem dX8_numberFrom_2 : decode cX8_numberFrom 2 = .ok (.iload_n 1, 1) := by decide +kernel
theorem dX8_numberFrom_3 : decode cX8_numberFrom 3 = .ok (.istore 4, 2) := by decide +kernel
theorem dX8_numberFrom_5 : decode cX8_numberFrom 5 = .ok (.iload 4, 2) := by decide +kernel
theorem dX8_numberFrom_7 : decode cX8_numberFrom 7 = .ok (.iload_n 2, 1) := by decide +kernel
theorem dX8_numberFrom_8 : decode cX8_numberFrom 8 = .ok (.if_icmp .ge 21, 3) := by decide +kernel
theorem dX8_numberFrom_11 : decode cX8_numberFrom 11 = .ok (.bipush 10, 2) := by decide +kernel
theorem dX8_numberFrom_13 : decode cX8_numberFrom 13 = .ok (.iload_n 3, 1) := by decide +kernel
theorem dX8_numberFrom_14 : decode cX8_numberFrom 14 = .ok (.imul, 1) := by decide +kernel
theorem dX8_numberFrom_15 : decode cX8_numberFrom 15 = .ok (.aload_n 0, 1) := by decide +kernel
theorem dX8_numberFrom_16 : decode cX8_numberFrom 16 = .ok (.iload 4, 2) := by decide +kernel
theorem dX8_numberFrom_18 : decode cX8_numberFrom 18 = .ok (.invokevirtual 105, 3) := by decide +kernel
theorem dX8_numberFrom_21 : decode cX8_numberFrom 21 = .ok (.iadd, 1) := by decide +kernel
theorem dX8_numberFrom_22 : decode cX8_numberFrom 22 = .ok (.istore_n 3, 1) := by decide +kernel
theorem dX8_numberFrom_23 : decode cX8_numberFrom 23 = .ok (.iinc 4 1, 3) := by decide +kernel
theorem dX8_numberFrom_26 : decode cX8_numberFrom 26 = .ok (.goto (-21), 3) := by decide +kernel
theorem dX8_numberFrom_29 : decode cX8_numberFrom 29 = .ok (.iload_n 3, 1) := by decide +kernel
theorem dX8_numberFrom_30 : decode cX8_numberFrom 30 = .ok (.ireturn, 1) := by decide +kernel
theorem dX8_digitAt_0 : decode cX8_digitAt 0 = .ok (.iload_n 1, 1) := by decide +kernel
theorem dX8_digitAt_1 : decode cX8_digitAt 1 = .ok (.ifCond .lt 14, 3) := by decide +kernel
theorem dX8_digitAt_4 : decode cX8_digitAt 4 = .ok (.iload_n 1, 1) := by decide +kernel
theorem dX8_digitAt_5 : decode cX8_digitAt 5 = .ok (.aload_n 0, 1) := by decide +kernel
theorem dX8_digitAt_6 : decode cX8_digitAt 6 = .ok (.getfield 12, 3) := by decide +kernel
theorem dX8_digitAt_9 : decode cX8_digitAt 9 = .ok (.invokevirtual 25, 3) := by decide +kernel
theorem dX8_digitAt_12 : decode cX8_digitAt 12 = .ok (.if_icmp .lt 5, 3) := by decide +kernel
theorem dX8_digitAt_15 : decode cX8_digitAt 15 = .ok (.iconst (-1), 1) := by decide +kernel
theorem dX8_digitAt_16 : decode cX8_digitAt 16 = .ok (.ireturn, 1) := by decide +kernel
theorem dX8_digitAt_17 : decode cX8_digitAt 17 = .ok (.aload_n 0, 1) := by decide +kernel
theorem dX8_digitAt_18 : decode cX8_digitAt 18 = .ok (.getfield 12, 3) := by decide +kernel
theorem dX8_digitAt_21 : decode cX8_digitAt 21 = .ok (.iload_n 1, 1) := by decide +kernel
theorem dX8_digitAt_22 : decode cX8_digitAt 22 = .ok (.invokevirtual 108, 3) := by decide +kernel
theorem dX8_digitAt_25 : decode cX8_digitAt 25 = .ok (.istore_n 2, 1) := by decide +kernel
theorem dX8_digitAt_26 : decode cX8_digitAt 26 = .ok (.iload_n 2, 1) := by decide +kernel
theorem dX8_digitAt_27 : decode cX8_digitAt 27 = .ok (.bipush 48, 2) := by decide +kernel
theorem dX8_digitAt_29 : decode cX8_digitAt 29 = .ok (.if_icmp .lt 16, 3) := by decide +kernel
theorem dX8_digitAt_32 : decode cX8_digitAt 32 = .ok (.iload_n 2, 1) := by decide +kernel
theorem dX8_digitAt_33 : decode cX8_digitAt 33 = .ok (.bipush 57, 2) := by decide +kernel
theorem dX8_digitAt_35 : decode cX8_digitAt 35 = .ok (.if_icmp .gt 10, 3) := by decide +kernel
theorem dX8_digitAt_38 : decode cX8_digitAt 38 = .ok (.iload_n 2, 1) := by decide +kernel
theorem dX8_digitAt_39 : decode cX8_digitAt 39 = .ok (.bipush 48, 2) := by decide +kernel
theorem dX8_digitAt_41 : decode cX8_digitAt 41 = .ok (.isub, 1) := by decide +kernel
theorem dX8_digitAt_42 : decode cX8_digitAt 42 = .ok (.goto 4, 3) := by decide +kernel
theorem dX8_digitAt_45 : decode cX8_digitAt 45 = .ok (.iconst (-1), 1) := by decide +kernel
theorem dX8_digitAt_46 : decode cX8_digitAt 46 = .ok (.ireturn, 1) := by decide +kernel
theorem dX8_isSignAt_0 : decode cX8_isSignAt 0 = .ok (.iload_n 1, 1) := by decide +kernel
theorem dX8_isSignAt_1 : decode cX8_isSignAt 1 = .ok (.ifCond .lt 30, 3) := by decide +kernel
theorem dX8_isSignAt_4 : decode cX8_isSignAt 4 = .ok (.iload_n 1, 1) := by decide +kernel
theorem dX8_isSignAt_5 : decode cX8_isSignAt 5 = .ok (.aload_n 0, 1) := by decide +kernel
theorem dX8_isSignAt_6 : decode cX8_isSignAt 6 = .ok (.getfield 12, 3) := by decide +kernel
theorem dX8_isSignAt_9 : decode cX8_isSignAt 9 = .ok (.invokevirtual 25, 3) := by decide +kernel
theorem dX8_isSignAt_12 : decode cX8_isSignAt 12 = .ok (.if_icmp .ge 19, 3) := by decide +kernel
theorem dX8_isSignAt_15 : decode cX8_isSignAt 15 = .ok (.aload_n 0, 1) := by decide +kernel
theorem dX8_isSignAt_16 : decode cX8_isSignAt 16 = .ok (.getfield 12, 3) := by decide +kernel
theorem dX8_isSignAt_19 : decode cX8_isSignAt 19 = .ok (.iload_n 1, 1) := by decide +kernel
theorem dX8_isSignAt_20 : decode cX8_isSignAt 20 = .ok (.invokevirtual 108, 3) := by decide +kernel
theorem dX8_isSignAt_23 : decode cX8_isSignAt 23 = .ok (.iload_n 2, 1) := by decide +kernel
theorem dX8_isSignAt_24 : decode cX8_isSignAt 24 = .ok (.if_icmp .ne 7, 3) := by decide +kernel
theorem dX8_isSignAt_27 : decode cX8_isSignAt 27 = .ok (.iconst 1, 1) := by decide +kernel
theorem dX8_isSignAt_28 : decode cX8_isSignAt 28 = .ok (.goto 4, 3) := by decide +kernel
theorem dX8_isSignAt_31 : decode cX8_isSignAt 31 = .ok (.iconst 0, 1) := by decide +kernel
theorem dX8_isSignAt_32 : decode cX8_isSignAt 32 = .ok (.ireturn, 1) := by decide +kernel
theorem dX8_faultAt_0 : decode cX8_faultAt 0 = .ok (.iconst (-1), 1) := by decide +kernel
theorem dX8_faultAt_1 : decode cX8_faultAt 1 = .ok (.iload_n 0, 1) := by decide +kernel
theorem dX8_faultAt_2 : decode cX8_faultAt 2 = .ok (.isub, 1) := by decide +kernel
theorem dX8_faultAt_3 : decode cX8_faultAt 3 = .ok (.ireturn, 1) := by decide +kernel
theorem dX8_placeOfFault_0 : decode cX8_placeOfFault 0 = .ok (.iconst (-1), 1) := by decide +kernel
theorem dX8_placeOfFault_1 : decode cX8_placeOfFault 1 = .ok (.iload_n 0, 1) := by decide +kernel
theorem dX8_placeOfFault_2 : decode cX8_placeOfFault 2 = .ok (.isub, 1) := by decide +kernel
theorem dX8_placeOfFault_3 : decode cX8_placeOfFault 3 = .ok (.ireturn, 1) := by decide +kernel
theorem dX9_init_0 : decode cX9_init 0 = .ok (.aload_n 0, 1) := by decide +kernel
theorem dX9_init_1 : decode cX9_init 1 = .ok (.invokespecial 3, 3) := by decide +kernel
theorem dX9_init_4 : decode cX9_init 4 = .ok (.aload_n 0, 1) := by decide +kernel
theorem dX9_init_5 : decode cX9_init 5 = .ok (.iconst 0, 1) := by decide +kernel
theorem dX9_init_6 : decode cX9_init 6 = .ok (.putfield 9, 3) := by decide +kernel
theorem dX9_init_9 : decode cX9_init 9 = .ok (.aload_n 0, 1) := by decide +kernel
theorem dX9_init_10 : decode cX9_init 10 = .ok (.iconst 0, 1) := by decide +kernel
theorem dX9_init_11 : decode cX9_init 11 = .ok (.putfield 15, 3) := by decide +kernel
theorem dX9_init_14 : decode cX9_init 14 = .ok (.return_, 1) := by decide +kernel
theorem dX9_because_0 : decode cX9_because 0 = .ok (.aload_n 0, 1) := by decide +kernel
theorem dX9_because_1 : decode cX9_because 1 = .ok (.iload_n 1, 1) := by decide +kernel
theorem dX9_because_2 : decode cX9_because 2 = .ok (.putfield 9, 3) := by decide +kernel
theorem dX9_because_5 : decode cX9_because 5 = .ok (.aload_n 0, 1) := by decide +kernel
theorem dX9_because_6 : decode cX9_because 6 = .ok (.iload_n 2, 1) := by decide +kernel
theorem dX9_because_7 : decode cX9_because 7 = .ok (.putfield 15, 3) := by decide +kernel
theorem dX9_because_10 : decode cX9_because 10 = .ok (.sipush (-10004), 3) := by decide +kernel
theorem dX9_because_13 : decode cX9_because 13 = .ok (.ireturn, 1) := by decide +kernel
theorem dX10_init_0 : decode cX10_init 0 = .ok (.aload_n 0, 1) := by decide +kernel
theorem dX10_init_1 : decode cX10_init 1 = .ok (.invokespecial 3, 3) := by decide +kernel
theorem dX10_init_4 : decode cX10_init 4 = .ok (.aload_n 0, 1) := by decide +kernel
theorem dX10_init_5 : decode cX10_init 5 = .ok (.bipush 10, 2) := by decide +kernel
theorem dX10_init_7 : decode cX10_init 7 = .ok (.putfield 9, 3) := by decide +kernel
theorem dX10_init_10 : decode cX10_init 10 = .ok (.aload_n 0, 1) := by decide +kernel
theorem dX10_init_11 : decode cX10_init 11 = .ok (.iconst 0, 1) := by decide +kernel
theorem dX10_init_12 : decode cX10_init 12 = .ok (.putfield 15, 3) := by decide +kernel
theorem dX10_init_15 : decode cX10_init 15 = .ok (.aload_n 0, 1) := by decide +kernel
theorem dX10_init_16 : decode cX10_init 16 = .ok (.iconst 0, 1) := by decide +kernel
theorem dX10_init_17 : decode cX10_init 17 = .ok (.putfield 18, 3) := by decide +kernel
theorem dX10_init_20 : decode cX10_init 20 = .ok (.aload_n 0, 1) := by decide +kernel
theorem dX10_init_21 : decode cX10_init 21 = .ok (.sipush 2000, 3) := by decide +kernel
theorem dX10_init_24 : decode cX10_init 24 = .ok (.putfield 21, 3) := by decide +kernel
theorem dX10_init_27 : decode cX10_init 27 = .ok (.aload_n 0, 1) := by decide +kernel
theorem dX10_init_28 : decode cX10_init 28 = .ok (.iconst 0, 1) := by decide +kernel
theorem dX10_init_29 : decode cX10_init 29 = .ok (.putfield 24, 3) := by decide +kernel
theorem dX10_init_32 : decode cX10_init 32 = .ok (.aload_n 0, 1) := by decide +kernel
theorem dX10_init_33 : decode cX10_init 33 = .ok (.iconst 0, 1) := by decide +kernel
theorem dX10_init_34 : decode cX10_init 34 = .ok (.putfield 27, 3) := by decide +kernel
theorem dX10_init_37 : decode cX10_init 37 = .ok (.return_, 1) := by decide +kernel
theorem dX10_copyFrom_0 : decode cX10_copyFrom 0 = .ok (.aload_n 0, 1) := by decide +kernel
theorem dX10_copyFrom_1 : decode cX10_copyFrom 1 = .ok (.aload_n 1, 1) := by decide +kernel
theorem dX10_copyFrom_2 : decode cX10_copyFrom 2 = .ok (.getfield 9, 3) := by decide +kernel
theorem dX10_copyFrom_5 : decode cX10_copyFrom 5 = .ok (.putfield 9, 3) := by decide +kernel
theorem dX10_copyFrom_8 : decode cX10_copyFrom 8 = .ok (.aload_n 0, 1) := by decide +kernel
theorem dX10_copyFrom_9 : decode cX10_copyFrom 9 = .ok (.aload_n 1, 1) := by decide +kernel
theorem dX10_copyFrom_10 : decode cX10_copyFrom 10 = .ok (.getfield 15, 3) := by decide +kernel
theorem dX10_copyFrom_13 : decode cX10_copyFrom 13 = .ok (.putfield 15, 3) := by decide +kernel
theorem dX10_copyFrom_16 : decode cX10_copyFrom 16 = .ok (.aload_n 0, 1) := by decide +kernel
theorem dX10_copyFrom_17 : decode cX10_copyFrom 17 = .ok (.aload_n 1, 1) := by decide +kernel
theorem dX10_copyFrom_18 : decode cX10_copyFrom 18 = .ok (.getfield 18, 3) := by decide +kernel
theorem dX10_copyFrom_21 : decode cX10_copyFrom 21 = .ok (.putfield 18, 3) := by decide +kernel
theorem dX10_copyFrom_24 : decode cX10_copyFrom 24 = .ok (.aload_n 0, 1) := by decide +kernel
theorem dX10_copyFrom_25 : decode cX10_copyFrom 25 = .ok (.aload_n 1, 1) := by decide +kernel
theorem dX10_copyFrom_26 : decode cX10_copyFrom 26 = .ok (.getfield 21, 3) := by decide +kernel
theorem dX10_copyFrom_29 : decode cX10_copyFrom 29 = .ok (.putfield 21, 3) := by decide +kernel
theorem dX10_copyFrom_32 : decode cX10_copyFrom 32 = .ok (.aload_n 0, 1) := by decide +kernel
theorem dX10_copyFrom_33 : decode cX10_copyFrom 33 = .ok (.aload_n 1, 1) := by decide +kernel
theorem dX10_copyFrom_34 : decode cX10_copyFrom 34 = .ok (.getfield 24, 3) := by decide +kernel
theorem dX10_copyFrom_37 : decode cX10_copyFrom 37 = .ok (.putfield 24, 3) := by decide +kernel
theorem dX10_copyFrom_40 : decode cX10_copyFrom 40 = .ok (.aload_n 0, 1) := by decide +kernel
theorem dX10_copyFrom_41 : decode cX10_copyFrom 41 = .ok (.aload_n 1, 1) := by decide +kernel
theorem dX10_copyFrom_42 : decode cX10_copyFrom 42 = .ok (.getfield 27, 3) := by decide +kernel
theorem dX10_copyFrom_45 : decode cX10_copyFrom 45 = .ok (.putfield 27, 3) := by decide +kernel
theorem dX10_copyFrom_48 : decode cX10_copyFrom 48 = .ok (.return_, 1) := by decide +kernel
theorem dX10_tellGains_0 : decode cX10_tellGains 0 = .ok (.iconst 0, 1) := by decide +kernel
theorem dX10_tellGains_1 : decode cX10_tellGains 1 = .ok (.iload_n 1, 1) := by decide +kernel
theorem dX10_tellGains_2 : decode cX10_tellGains 2 = .ok (.bipush 50, 2) := by decide +kernel
theorem dX10_tellGains_4 : decode cX10_tellGains 4 = .ok (.invokestatic 30, 3) := by decide +kernel
theorem dX10_tellGains_7 : decode cX10_tellGains 7 = .ok (.ifCond .eq 23, 3) := by decide +kernel
theorem dX10_tellGains_10 : decode cX10_tellGains 10 = .ok (.iconst 0, 1) := by decide +kernel
theorem dX10_tellGains_11 : decode cX10_tellGains 11 = .ok (.iload_n 2, 1) := by decide +kernel
theorem dX10_tellGains_12 : decode cX10_tellGains 12 = .ok (.bipush 50, 2) := by decide +kernel
theorem dX10_tellGains_14 : decode cX10_tellGains 14 = .ok (.invokestatic 30, 3) := by decide +kernel
theorem dX10_tellGains_17 : decode cX10_tellGains 17 = .ok (.ifCond .eq 13, 3) := by decide +kernel
theorem dX10_tellGains_20 : decode cX10_tellGains 20 = .ok (.iconst 0, 1) := by decide +kernel
theorem dX10_tellGains_21 : decode cX10_tellGains 21 = .ok (.iload_n 3, 1) := by decide +kernel
theorem dX10_tellGains_22 : decode cX10_tellGains 22 = .ok (.bipush 50, 2) := by decide +kernel
theorem dX10_tellGains_24 : decode cX10_tellGains 24 = .ok (.invokestatic 30, 3) := by decide +kernel
theorem dX10_tellGains_27 : decode cX10_tellGains 27 = .ok (.ifCond .ne 7, 3) := by decide +kernel
theorem dX10_tellGains_30 : decode cX10_tellGains 30 = .ok (.sipush (-10002), 3) := by decide +kernel
theorem dX10_tellGains_33 : decode cX10_tellGains 33 = .ok (.ireturn, 1) := by decide +kernel
theorem dX10_tellGains_34 : decode cX10_tellGains 34 = .ok (.sipush 10000, 3) := by decide +kernel
theorem dX10_tellGains_37 : decode cX10_tellGains 37 = .ok (.aload_n 0, 1) := by decide +kernel
theorem dX10_tellGains_38 : decode cX10_tellGains 38 = .ok (.getfield 9, 3) := by decide +kernel
theorem dX10_tellGains_41 : decode cX10_tellGains 41 = .ok (.imul, 1) := by decide +kernel
theorem dX10_tellGains_42 : decode cX10_tellGains 42 = .ok (.bipush 100, 2) := by decide +kernel
theorem dX10_tellGains_44 : decode cX10_tellGains 44 = .ok (.aload_n 0, 1) := by decide +kernel
theorem dX10_tellGains_45 : decode cX10_tellGains 45 = .ok (.getfield 15, 3) := by decide +kernel
theorem dX10_tellGains_48 : decode cX10_tellGains 48 = .ok (.imul, 1) := by decide +kernel
theorem dX10_tellGains_49 : decode cX10_tellGains 49 = .ok (.iadd, 1) := by decide +kernel
theorem dX10_tellGains_50 : decode cX10_tellGains 50 = .ok (.aload_n 0, 1) := by decide +kernel
theorem dX10_tellGains_51 : decode cX10_tellGains 51 = .ok (.getfield 18, 3) := by decide +kernel
theorem dX10_tellGains_54 : decode cX10_tellGains 54 = .ok (.iadd, 1) := by decide +kernel
theorem dX10_tellGains_55 : decode cX10_tellGains 55 = .ok (.istore 4, 2) := by decide +kernel
theorem dX10_tellGains_57 : decode cX10_tellGains 57 = .ok (.aload_n 0, 1) := by decide +kernel
theorem dX10_tellGains_58 : decode cX10_tellGains 58 = .ok (.iload_n 1, 1) := by decide +kernel
theorem dX10_tellGains_59 : decode cX10_tellGains 59 = .ok (.putfield 9, 3) := by decide +kernel
theorem dX10_tellGains_62 : decode cX10_tellGains 62 = .ok (.aload_n 0, 1) := by decide +kernel
theorem dX10_tellGains_63 : decode cX10_tellGains 63 = .ok (.iload_n 2, 1) := by decide +kernel
theorem dX10_tellGains_64 : decode cX10_tellGains 64 = .ok (.putfield 15, 3) := by decide +kernel
theorem dX10_tellGains_67 : decode cX10_tellGains 67 = .ok (.aload_n 0, 1) := by decide +kernel
theorem dX10_tellGains_68 : decode cX10_tellGains 68 = .ok (.iload_n 3, 1) := by decide +kernel
theorem dX10_tellGains_69 : decode cX10_tellGains 69 = .ok (.putfield 18, 3) := by decide +kernel
theorem dX10_tellGains_72 : decode cX10_tellGains 72 = .ok (.iload 4, 2) := by decide +kernel
theorem dX10_tellGains_74 : decode cX10_tellGains 74 = .ok (.ireturn, 1) := by decide +kernel
theorem dX10_tellCap_0 : decode cX10_tellCap 0 = .ok (.iconst 0, 1) := by decide +kernel
theorem dX10_tellCap_1 : decode cX10_tellCap 1 = .ok (.iload_n 1, 1) := by decide +kernel
theorem dX10_tellCap_2 : decode cX10_tellCap 2 = .ok (.sipush 9000, 3) := by decide +kernel
theorem dX10_tellCap_5 : decode cX10_tellCap 5 = .ok (.invokestatic 30, 3) := by decide +kernel
theorem dX10_tellCap_8 : decode cX10_tellCap 8 = .ok (.ifCond .ne 7, 3) := by decide +kernel
theorem dX10_tellCap_11 : decode cX10_tellCap 11 = .ok (.sipush (-10002), 3) := by decide +kernel
theorem dX10_tellCap_14 : decode cX10_tellCap 14 = .ok (.ireturn, 1) := by decide +kernel
theorem dX10_tellCap_15 : decode cX10_tellCap 15 = .ok (.iload_n 1, 1) := by decide +kernel
theorem dX10_tellCap_16 : decode cX10_tellCap 16 = .ok (.aload_n 0, 1) := by decide +kernel
theorem dX10_tellCap_17 : decode cX10_tellCap 17 = .ok (.getfield 21, 3) := by decide +kernel
theorem dX10_tellCap_20 : decode cX10_tellCap 20 = .ok (.if_icmp .ne 13, 3) := by decide +kernel
theorem dX10_tellCap_23 : decode cX10_tellCap 23 = .ok (.aload_n 2, 1) := by decide +kernel
theorem dX10_tellCap_24 : decode cX10_tellCap 24 = .ok (.iconst 5, 1) := by decide +kernel
theorem dX10_tellCap_25 : decode cX10_tellCap 25 = .ok (.aload_n 0, 1) := by decide +kernel
theorem dX10_tellCap_26 : decode cX10_tellCap 26 = .ok (.getfield 21, 3) := by decide +kernel
theorem dX10_tellCap_29 : decode cX10_tellCap 29 = .ok (.invokevirtual 34, 3) := by decide +kernel
theorem dX10_tellCap_32 : decode cX10_tellCap 32 = .ok (.ireturn, 1) := by decide +kernel
theorem dX10_tellCap_33 : decode cX10_tellCap 33 = .ok (.aload_n 0, 1) := by decide +kernel
theorem dX10_tellCap_34 : decode cX10_tellCap 34 = .ok (.getfield 21, 3) := by decide +kernel
theorem dX10_tellCap_37 : decode cX10_tellCap 37 = .ok (.istore_n 3, 1) := by decide +kernel
theorem dX10_tellCap_38 : decode cX10_tellCap 38 = .ok (.aload_n 0, 1) := by decide +kernel
theorem dX10_tellCap_39 : decode cX10_tellCap 39 = .ok (.iload_n 1, 1) := by decide +kernel
theorem dX10_tellCap_40 : decode cX10_tellCap 40 = .ok (.putfield 21, 3) := by decide +kernel
theorem dX10_tellCap_43 : decode cX10_tellCap 43 = .ok (.aload_n 0, 1) := by decide +kernel
theorem dX10_tellCap_44 : decode cX10_tellCap 44 = .ok (.aload_n 0, 1) := by decide +kernel
theorem dX10_tellCap_45 : decode cX10_tellCap 45 = .ok (.getfield 21, 3) := by decide +kernel
theorem dX10_tellCap_48 : decode cX10_tellCap 48 = .ok (.ineg, 1) := by decide +kernel
theorem dX10_tellCap_49 : decode cX10_tellCap 49 = .ok (.aload_n 0, 1) := by decide +kernel
theorem dX10_tellCap_50 : decode cX10_tellCap 50 = .ok (.getfield 24, 3) := by decide +kernel
theorem dX10_tellCap_53 : decode cX10_tellCap 53 = .ok (.aload_n 0, 1) := by decide +kernel
theorem dX10_tellCap_54 : decode cX10_tellCap 54 = .ok (.getfield 21, 3) := by decide +kernel
theorem dX10_tellCap_57 : decode cX10_tellCap 57 = .ok (.invokestatic 40, 3) := by decide +kernel
theorem dX10_tellCap_60 : decode cX10_tellCap 60 = .ok (.putfield 24, 3) := by decide +kernel
theorem dX10_tellCap_63 : decode cX10_tellCap 63 = .ok (.iload_n 3, 1) := by decide +kernel
theorem dX10_tellCap_64 : decode cX10_tellCap 64 = .ok (.ireturn, 1) := by decide +kernel
theorem dX10_wantedDamper_0 : decode cX10_wantedDamper 0 = .ok (.bipush 10, 2) := by decide +kernel
theorem dX10_wantedDamper_2 : decode cX10_wantedDamper 2 = .ok (.aload_n 0, 1) := by decide +kernel
theorem dX10_wantedDamper_3 : decode cX10_wantedDamper 3 = .ok (.getfield 9, 3) := by decide +kernel
theorem dX10_wantedDamper_6 : decode cX10_wantedDamper 6 = .ok (.imul, 1) := by decide +kernel
theorem dX10_wantedDamper_7 : decode cX10_wantedDamper 7 = .ok (.iload_n 1, 1) := by decide +kernel
theorem dX10_wantedDamper_8 : decode cX10_wantedDamper 8 = .ok (.imul, 1) := by decide +kernel
theorem dX10_wantedDamper_9 : decode cX10_wantedDamper 9 = .ok (.aload_n 0, 1) := by decide +kernel
theorem dX10_wantedDamper_10 : decode cX10_wantedDamper 10 = .ok (.getfield 15, 3) := by decide +kernel
theorem dX10_wantedDamper_13 : decode cX10_wantedDamper 13 = .ok (.aload_n 0, 1) := by decide +kernel
theorem dX10_wantedDamper_14 : decode cX10_wantedDamper 14 = .ok (.iload_n 1, 1) := by decide +kernel
theorem dX10_wantedDamper_15 : decode cX10_wantedDamper 15 = .ok (.invokevirtual 44, 3) := by decide +kernel
theorem dX10_wantedDamper_18 : decode cX10_wantedDamper 18 = .ok (.imul, 1) := by decide +kernel
theorem dX10_wantedDamper_19 : decode cX10_wantedDamper 19 = .ok (.iadd, 1) := by decide +kernel
theorem dX10_wantedDamper_20 : decode cX10_wantedDamper 20 = .ok (.bipush 10, 2) := by decide +kernel
theorem dX10_wantedDamper_22 : decode cX10_wantedDamper 22 = .ok (.aload_n 0, 1) := by decide +kernel
theorem dX10_wantedDamper_23 : decode cX10_wantedDamper 23 = .ok (.getfield 18, 3) := by decide +kernel
theorem dX10_wantedDamper_26 : decode cX10_wantedDamper 26 = .ok (.imul, 1) := by decide +kernel
theorem dX10_wantedDamper_27 : decode cX10_wantedDamper 27 = .ok (.iload_n 1, 1) := by decide +kernel
theorem dX10_wantedDamper_28 : decode cX10_wantedDamper 28 = .ok (.aload_n 0, 1) := by decide +kernel
theorem dX10_wantedDamper_29 : decode cX10_wantedDamper 29 = .ok (.getfield 27, 3) := by decide +kernel
theorem dX10_wantedDamper_32 : decode cX10_wantedDamper 32 = .ok (.isub, 1) := by decide +kernel
theorem dX10_wantedDamper_33 : decode cX10_wantedDamper 33 = .ok (.imul, 1) := by decide +kernel
theorem dX10_wantedDamper_34 : decode cX10_wantedDamper 34 = .ok (.iadd, 1) := by decide +kernel
theorem dX10_wantedDamper_35 : decode cX10_wantedDamper 35 = .ok (.istore_n 2, 1) := by decide +kernel
theorem dX10_wantedDamper_36 : decode cX10_wantedDamper 36 = .ok (.iconst 0, 1) := by decide +kernel
theorem dX10_wantedDamper_37 : decode cX10_wantedDamper 37 = .ok (.iload_n 2, 1) := by decide +kernel
theorem dX10_wantedDamper_38 : decode cX10_wantedDamper 38 = .ok (.bipush 100, 2) := by decide +kernel
theorem dX10_wantedDamper_40 : decode cX10_wantedDamper 40 = .ok (.invokestatic 48, 3) := by decide +kernel
theorem dX10_wantedDamper_43 : decode cX10_wantedDamper 43 = .ok (.bipush 100, 2) := by decide +kernel
theorem dX10_wantedDamper_45 : decode cX10_wantedDamper 45 = .ok (.invokestatic 40, 3) := by decide +kernel
theorem dX10_wantedDamper_48 : decode cX10_wantedDamper 48 = .ok (.ireturn, 1) := by decide +kernel
theorem dX10_noteError_0 : decode cX10_noteError 0 = .ok (.aload_n 0, 1) := by decide +kernel
theorem dX10_noteError_1 : decode cX10_noteError 1 = .ok (.aload_n 0, 1) := by decide +kernel
theorem dX10_noteError_2 : decode cX10_noteError 2 = .ok (.iload_n 1, 1) := by decide +kernel
theorem dX10_noteError_3 : decode cX10_noteError 3 = .ok (.invokevirtual 44, 3) := by decide +kernel
theorem dX10_noteError_6 : decode cX10_noteError 6 = .ok (.putfield 24, 3) := by decide +kernel
theorem dX10_noteError_9 : decode cX10_noteError 9 = .ok (.aload_n 0, 1) := by decide +kernel
theorem dX10_noteError_10 : decode cX10_noteError 10 = .ok (.iload_n 1, 1) := by decide +kernel
theorem dX10_noteError_11 : decode cX10_noteError 11 = .ok (.putfield 27, 3) := by decide +kernel
theorem dX10_noteError_14 : decode cX10_noteError 14 = .ok (.return_, 1) := by decide +kernel
theorem dX10_sumWith_0 : decode cX10_sumWith 0 = .ok (.aload_n 0, 1) := by decide +kernel
theorem dX10_sumWith_1 : decode cX10_sumWith 1 = .ok (.getfield 21, 3) := by decide +kernel
theorem dX10_sumWith_4 : decode cX10_sumWith 4 = .ok (.ineg, 1) := by decide +kernel
theorem dX10_sumWith_5 : decode cX10_sumWith 5 = .ok (.aload_n 0, 1) := by decide +kernel
theorem dX10_sumWith_6 : decode cX10_sumWith 6 = .ok (.getfield 24, 3) := by decide +kernel
theorem dX10_sumWith_9 : decode cX10_sumWith 9 = .ok (.iload_n 1, 1) := by decide +kernel
theorem dX10_sumWith_10 : decode cX10_sumWith 10 = .ok (.iadd, 1) := by decide +kernel
theorem dX10_sumWith_11 : decode cX10_sumWith 11 = .ok (.aload_n 0, 1) := by decide +kernel
theorem dX10_sumWith_12 : decode cX10_sumWith 12 = .ok (.getfield 21, 3) := by decide +kernel
theorem dX10_sumWith_15 : decode cX10_sumWith 15 = .ok (.invokestatic 40, 3) := by decide +kernel
theorem dX10_sumWith_18 : decode cX10_sumWith 18 = .ok (.ireturn, 1) := by decide +kernel
theorem dX12_init_0 : decode cX12_init 0 = .ok (.aload_n 0, 1) := by decide +kernel
theorem dX12_init_1 : decode cX12_init 1 = .ok (.invokespecial 1, 3) := by decide +kernel
theorem dX12_init_4 : decode cX12_init 4 = .ok (.aload_n 0, 1) := by decide +kernel
theorem dX12_init_5 : decode cX12_init 5 = .ok (.new 7, 3) := by decide +kernel
theorem dX12_init_8 : decode cX12_init 8 = .ok (.dup, 1) := by decide +kernel
theorem dX12_init_9 : decode cX12_init 9 = .ok (.invokespecial 9, 3) := by decide +kernel
theorem dX12_init_12 : decode cX12_init 12 = .ok (.putfield 10, 3) := by decide +kernel
theorem dX12_init_15 : decode cX12_init 15 = .ok (.aload_n 0, 1) := by decide +kernel
theorem dX12_init_16 : decode cX12_init 16 = .ok (.new 7, 3) := by decide +kernel
theorem dX12_init_19 : decode cX12_init 19 = .ok (.dup, 1) := by decide +kernel
theorem dX12_init_20 : decode cX12_init 20 = .ok (.invokespecial 9, 3) := by decide +kernel
theorem dX12_init_23 : decode cX12_init 23 = .ok (.putfield 16, 3) := by decide +kernel
theorem dX12_init_26 : decode cX12_init 26 = .ok (.aload_n 0, 1) := by decide +kernel
theorem dX12_init_27 : decode cX12_init 27 = .ok (.new 7, 3) := by decide +kernel
theorem dX12_init_30 : decode cX12_init 30 = .ok (.dup, 1) := by decide +kernel
theorem dX12_init_31 : decode cX12_init 31 = .ok (.invokespecial 9, 3) := by decide +kernel
theorem dX12_init_34 : decode cX12_init 34 = .ok (.putfield 19, 3) := by decide +kernel
theorem dX12_init_37 : decode cX12_init 37 = .ok (.aload_n 0, 1) := by decide +kernel
theorem dX12_init_38 : decode cX12_init 38 = .ok (.iconst 0, 1) := by decide +kernel
theorem dX12_init_39 : decode cX12_init 39 = .ok (.putfield 22, 3) := by decide +kernel
theorem dX12_init_42 : decode cX12_init 42 = .ok (.aload_n 0, 1) := by decide +kernel
theorem dX12_init_43 : decode cX12_init 43 = .ok (.new 26, 3) := by decide +kernel
theorem dX12_init_46 : decode cX12_init 46 = .ok (.dup, 1) := by decide +kernel
theorem dX12_init_47 : decode cX12_init 47 = .ok (.invokespecial 28, 3) := by decide +kernel
theorem dX12_init_50 : decode cX12_init 50 = .ok (.putfield 29, 3) := by decide +kernel
theorem dX12_init_53 : decode cX12_init 53 = .ok (.aload_n 0, 1) := by decide +kernel
theorem dX12_init_54 : decode cX12_init 54 = .ok (.new 33, 3) := by decide +kernel
theorem dX12_init_57 : decode cX12_init 57 = .ok (.dup, 1) := by decide +kernel
theorem dX12_init_58 : decode cX12_init 58 = .ok (.invokespecial 35, 3) := by decide +kernel
theorem dX12_init_61 : decode cX12_init 61 = .ok (.putfield 36, 3) := by decide +kernel
theorem dX12_init_64 : decode cX12_init 64 = .ok (.aload_n 0, 1) := by decide +kernel
theorem dX12_init_65 : decode cX12_init 65 = .ok (.new 33, 3) := by decide +kernel
theorem dX12_init_68 : decode cX12_init 68 = .ok (.dup, 1) := by decide +kernel
theorem dX12_init_69 : decode cX12_init 69 = .ok (.invokespecial 35, 3) := by decide +kernel
theorem dX12_init_72 : decode cX12_init 72 = .ok (.putfield 40, 3) := by decide +kernel
theorem dX12_init_75 : decode cX12_init 75 = .ok (.aload_n 0, 1) := by decide +kernel
theorem dX12_init_76 : decode cX12_init 76 = .ok (.new 43, 3) := by decide +kernel
theorem dX12_init_79 : decode cX12_init 79 = .ok (.dup, 1) := by decide +kernel
theorem dX12_init_80 : decode cX12_init 80 = .ok (.invokespecial 45, 3) := by decide +kernel
theorem dX12_init_83 : decode cX12_init 83 = .ok (.putfield 46, 3) := by decide +kernel
theorem dX12_init_86 : decode cX12_init 86 = .ok (.aload_n 0, 1) := by decide +kernel
theorem dX12_init_87 : decode cX12_init 87 = .ok (.new 50, 3) := by decide +kernel
theorem dX12_init_90 : decode cX12_init 90 = .ok (.dup, 1) := by decide +kernel
theorem dX12_init_91 : decode cX12_init 91 = .ok (.invokespecial 52, 3) := by decide +kernel
theorem dX12_init_94 : decode cX12_init 94 = .ok (.putfield 53, 3) := by decide +kernel
theorem dX12_init_97 : decode cX12_init 97 = .ok (.return_, 1) := by decide +kernel
theorem dX12_aim_0 : decode cX12_aim 0 = .ok (.aload_n 0, 1) := by decide +kernel
theorem dX12_aim_1 : decode cX12_aim 1 = .ok (.invokevirtual 57, 3) := by decide +kernel
theorem dX12_aim_4 : decode cX12_aim 4 = .ok (.aload_n 0, 1) := by decide +kernel
theorem dX12_aim_5 : decode cX12_aim 5 = .ok (.aload_n 0, 1) := by decide +kernel
theorem dX12_aim_6 : decode cX12_aim 6 = .ok (.getfield 10, 3) := by decide +kernel
theorem dX12_aim_9 : decode cX12_aim 9 = .ok (.iload_n 1, 1) := by decide +kernel
theorem dX12_aim_10 : decode cX12_aim 10 = .ok (.aload_n 0, 1) := by decide +kernel
theorem dX12_aim_11 : decode cX12_aim 11 = .ok (.getfield 36, 3) := by decide +kernel
theorem dX12_aim_14 : decode cX12_aim 14 = .ok (.invokevirtual 60, 3) := by decide +kernel
theorem dX12_aim_17 : decode cX12_aim 17 = .ok (.invokevirtual 64, 3) := by decide +kernel
theorem dX12_aim_20 : decode cX12_aim 20 = .ok (.ireturn, 1) := by decide +kernel
theorem dX12_gains_0 : decode cX12_gains 0 = .ok (.aload_n 0, 1) := by decide +kernel
theorem dX12_gains_1 : decode cX12_gains 1 = .ok (.invokevirtual 57, 3) := by decide +kernel
theorem dX12_gains_4 : decode cX12_gains 4 = .ok (.aload_n 0, 1) := by decide +kernel
theorem dX12_gains_5 : decode cX12_gains 5 = .ok (.aload_n 0, 1) := by decide +kernel
theorem dX12_gains_6 : decode cX12_gains 6 = .ok (.getfield 10, 3) := by decide +kernel
theorem dX12_gains_9 : decode cX12_gains 9 = .ok (.getfield 68, 3) := by decide +kernel
theorem dX12_gains_12 : decode cX12_gains 12 = .ok (.iload_n 1, 1) := by decide +kernel
theorem dX12_gains_13 : decode cX12_gains 13 = .ok (.iload_n 2, 1) := by decide +kernel
theorem dX12_gains_14 : decode cX12_gains 14 = .ok (.iload_n 3, 1) := by decide +kernel
theorem dX12_gains_15 : decode cX12_gains 15 = .ok (.invokevirtual 72, 3) := by decide +kernel
theorem dX12_gains_18 : decode cX12_gains 18 = .ok (.invokevirtual 64, 3) := by decide +kernel
theorem dX12_gains_21 : decode cX12_gains 21 = .ok (.ireturn, 1) := by decide +kernel
theorem dX12_cap_0 : decode cX12_cap 0 = .ok (.aload_n 0, 1) := by decide +kernel
theorem dX12_cap_1 : decode cX12_cap 1 = .ok (.invokevirtual 57, 3) := by decide +kernel
theorem dX12_cap_4 : decode cX12_cap 4 = .ok (.aload_n 0, 1) := by decide +kernel
theorem dX12_cap_5 : decode cX12_cap 5 = .ok (.aload_n 0, 1) := by decide +kernel
theorem dX12_cap_6 : decode cX12_cap 6 = .ok (.getfield 10, 3) := by decide +kernel
theorem dX12_cap_9 : decode cX12_cap 9 = .ok (.getfield 68, 3) := by decide +kernel
theorem dX12_cap_12 : decode cX12_cap 12 = .ok (.iload_n 1, 1) := by decide +kernel
theorem dX12_cap_13 : decode cX12_cap 13 = .ok (.aload_n 0, 1) := by decide +kernel
theorem dX12_cap_14 : decode cX12_cap 14 = .ok (.getfield 36, 3) := by decide +kernel
theorem dX12_cap_17 : decode cX12_cap 17 = .ok (.invokevirtual 78, 3) := by decide +kernel
theorem dX12_cap_20 : decode cX12_cap 20 = .ok (.invokevirtual 64, 3) := by decide +kernel
theorem dX12_cap_23 : decode cX12_cap 23 = .ok (.ireturn, 1) := by decide +kernel
theorem dX12_lag_0 : decode cX12_lag 0 = .ok (.aload_n 0, 1) := by decide +kernel
theorem dX12_lag_1 : decode cX12_lag 1 = .ok (.invokevirtual 57, 3) := by decide +kernel
theorem dX12_lag_4 : decode cX12_lag 4 = .ok (.aload_n 0, 1) := by decide +kernel
theorem dX12_lag_5 : decode cX12_lag 5 = .ok (.aload_n 0, 1) := by decide +kernel
theorem dX12_lag_6 : decode cX12_lag 6 = .ok (.getfield 10, 3) := by decide +kernel
theorem dX12_lag_9 : decode cX12_lag 9 = .ok (.iload_n 1, 1) := by decide +kernel
theorem dX12_lag_10 : decode cX12_lag 10 = .ok (.aload_n 0, 1) := by decide +kernel
theorem dX12_lag_11 : decode cX12_lag 11 = .ok (.getfield 36, 3) := by decide +kernel
theorem dX12_lag_14 : decode cX12_lag 14 = .ok (.invokevirtual 81, 3) := by decide +kernel
theorem dX12_lag_17 : decode cX12_lag 17 = .ok (.invokevirtual 64, 3) := by decide +kernel
theorem dX12_lag_20 : decode cX12_lag 20 = .ok (.ireturn, 1) := by decide +kernel
theorem dX12_fuel_0 : decode cX12_fuel 0 = .ok (.aload_n 0, 1) := by decide +kernel
theorem dX12_fuel_1 : decode cX12_fuel 1 = .ok (.invokevirtual 57, 3) := by decide +kernel
theorem dX12_fuel_4 : decode cX12_fuel 4 = .ok (.aload_n 0, 1) := by decide +kernel
theorem dX12_fuel_5 : decode cX12_fuel 5 = .ok (.aload_n 0, 1) := by decide +kernel
theorem dX12_fuel_6 : decode cX12_fuel 6 = .ok (.getfield 10, 3) := by decide +kernel
theorem dX12_fuel_9 : decode cX12_fuel 9 = .ok (.getfield 84, 3) := by decide +kernel
theorem dX12_fuel_12 : decode cX12_fuel 12 = .ok (.iload_n 1, 1) := by decide +kernel
theorem dX12_fuel_13 : decode cX12_fuel 13 = .ok (.invokevirtual 88, 3) := by decide +kernel
theorem dX12_fuel_16 : decode cX12_fuel 16 = .ok (.invokevirtual 64, 3) := by decide +kernel
theorem dX12_fuel_19 : decode cX12_fuel 19 = .ok (.ireturn, 1) := by decide +kernel
theorem dX12_go_0 : decode cX12_go 0 = .ok (.aload_n 0, 1) := by decide +kernel
theorem dX12_go_1 : decode cX12_go 1 = .ok (.invokevirtual 57, 3) := by decide +kernel
theorem dX12_go_4 : decode cX12_go 4 = .ok (.aload_n 0, 1) := by decide +kernel
theorem dX12_go_5 : decode cX12_go 5 = .ok (.aload_n 0, 1) := by decide +kernel
theorem dX12_go_6 : decode cX12_go 6 = .ok (.getfield 10, 3) := by decide +kernel
theorem dX12_go_9 : decode cX12_go 9 = .ok (.iload_n 1, 1) := by decide +kernel
theorem dX12_go_10 : decode cX12_go 10 = .ok (.invokevirtual 93, 3) := by decide +kernel
theorem dX12_go_13 : decode cX12_go 13 = .ok (.invokevirtual 64, 3) := by decide +kernel
theorem dX12_go_16 : decode cX12_go 16 = .ok (.ireturn, 1) := by decide +kernel
theorem dX12_pot_0 : decode cX12_pot 0 = .ok (.aload_n 0, 1) := by decide +kernel
theorem dX12_pot_1 : decode cX12_pot 1 = .ok (.invokevirtual 57, 3) := by decide +kernel
theorem dX12_pot_4 : decode cX12_pot 4 = .ok (.aload_n 0, 1) := by decide +kernel
theorem dX12_pot_5 : decode cX12_pot 5 = .ok (.aload_n 0, 1) := by decide +kernel
theorem dX12_pot_6 : decode cX12_pot 6 = .ok (.getfield 10, 3) := by decide +kernel
theorem dX12_pot_9 : decode cX12_pot 9 = .ok (.getfield 96, 3) := by decide +kernel
theorem dX12_pot_12 : decode cX12_pot 12 = .ok (.iload_n 1, 1) := by decide +kernel
theorem dX12_pot_13 : decode cX12_pot 13 = .ok (.iload_n 2, 1) := by decide +kernel
theorem dX12_pot_14 : decode cX12_pot 14 = .ok (.iload_n 3, 1) := by decide +kernel
theorem dX12_pot_15 : decode cX12_pot 15 = .ok (.aload_n 0, 1) := by decide +kernel
theorem dX12_pot_16 : decode cX12_pot 16 = .ok (.getfield 36, 3) := by decide +kernel
theorem dX12_pot_19 : decode cX12_pot 19 = .ok (.invokevirtual 100, 3) := by decide +kernel
theorem dX12_pot_22 : decode cX12_pot 22 = .ok (.invokevirtual 64, 3) := by decide +kernel
theorem dX12_pot_25 : decode cX12_pot 25 = .ok (.ireturn, 1) := by decide +kernel
theorem dX12_put_0 : decode cX12_put 0 = .ok (.aload_n 0, 1) := by decide +kernel
theorem dX12_put_1 : decode cX12_put 1 = .ok (.invokevirtual 57, 3) := by decide +kernel
theorem dX12_put_4 : decode cX12_put 4 = .ok (.aload_n 0, 1) := by decide +kernel
theorem dX12_put_5 : decode cX12_put 5 = .ok (.aload_n 0, 1) := by decide +kernel
theorem dX12_put_6 : decode cX12_put 6 = .ok (.getfield 10, 3) := by decide +kernel
theorem dX12_put_9 : decode cX12_put 9 = .ok (.getfield 96, 3) := by decide +kernel
theorem dX12_put_12 : decode cX12_put 12 = .ok (.iload_n 1, 1) := by decide +kernel
theorem dX12_put_13 : decode cX12_put 13 = .ok (.aload_n 0, 1) := by decide +kernel
theorem dX12_put_14 : decode cX12_put 14 = .ok (.getfield 10, 3) := by decide +kernel
theorem dX12_put_17 : decode cX12_put 17 = .ok (.getfield 106, 3) := by decide +kernel
theorem dX12_put_20 : decode cX12_put 20 = .ok (.aload_n 0, 1) := by decide +kernel
theorem dX12_put_21 : decode cX12_put 21 = .ok (.getfield 36, 3) := by decide +kernel
theorem dX12_put_24 : decode cX12_put 24 = .ok (.invokevirtual 110, 3) := by decide +kernel
theorem dX12_put_27 : decode cX12_put 27 = .ok (.invokevirtual 64, 3) := by decide +kernel
theorem dX12_put_30 : decode cX12_put 30 = .ok (.ireturn, 1) := by decide +kernel
theorem dX12_take_0 : decode cX12_take 0 = .ok (.aload_n 0, 1) := by decide +kernel
theorem dX12_take_1 : decode cX12_take 1 = .ok (.invokevirtual 57, 3) := by decide +kernel
theorem dX12_take_4 : decode cX12_take 4 = .ok (.aload_n 0, 1) := by decide +kernel
theorem dX12_take_5 : decode cX12_take 5 = .ok (.aload_n 0, 1) := by decide +kernel
theorem dX12_take_6 : decode cX12_take 6 = .ok (.getfield 10, 3) := by decide +kernel
theorem dX12_take_9 : decode cX12_take 9 = .ok (.getfield 96, 3) := by decide +kernel
theorem dX12_take_12 : decode cX12_take 12 = .ok (.iload_n 1, 1) := by decide +kernel
theorem dX12_take_13 : decode cX12_take 13 = .ok (.aload_n 0, 1) := by decide +kernel
theorem dX12_take_14 : decode cX12_take 14 = .ok (.getfield 10, 3) := by decide +kernel
theorem dX12_take_17 : decode cX12_take 17 = .ok (.getfield 106, 3) := by decide +kernel
theorem dX12_take_20 : decode cX12_take 20 = .ok (.aload_n 0, 1) := by decide +kernel
theorem dX12_take_21 : decode cX12_take 21 = .ok (.getfield 36, 3) := by decide +kernel
theorem dX12_take_24 : decode cX12_take 24 = .ok (.invokevirtual 114, 3) := by decide +kernel
theorem dX12_take_27 : decode cX12_take 27 = .ok (.invokevirtual 64, 3) := by decide +kernel
theorem dX12_take_30 : decode cX12_take 30 = .ok (.ireturn, 1) := by decide +kernel
theorem dX12_potOf_0 : decode cX12_potOf 0 = .ok (.aload_n 0, 1) := by decide +kernel
theorem dX12_potOf_1 : decode cX12_potOf 1 = .ok (.getfield 10, 3) := by decide +kernel
theorem dX12_potOf_4 : decode cX12_potOf 4 = .ok (.getfield 96, 3) := by decide +kernel
theorem dX12_potOf_7 : decode cX12_potOf 7 = .ok (.iload_n 1, 1) := by decide +kernel
theorem dX12_potOf_8 : decode cX12_potOf 8 = .ok (.invokevirtual 117, 3) := by decide +kernel
theorem dX12_potOf_11 : decode cX12_potOf 11 = .ok (.astore_n 3, 1) := by decide +kernel
theorem dX12_potOf_12 : decode cX12_potOf 12 = .ok (.aload_n 3, 1) := by decide +kernel
theorem dX12_potOf_13 : decode cX12_potOf 13 = .ok (.ifnonnull 9, 3) := by decide +kernel
theorem dX12_potOf_16 : decode cX12_potOf 16 = .ok (.sipush (-10001), 3) := by decide +kernel
theorem dX12_potOf_19 : decode cX12_potOf 19 = .ok (.goto 8, 3) := by decide +kernel
theorem dX12_potOf_22 : decode cX12_potOf 22 = .ok (.aload_n 3, 1) := by decide +kernel
theorem dX12_potOf_23 : decode cX12_potOf 23 = .ok (.iload_n 2, 1) := by decide +kernel
theorem dX12_potOf_24 : decode cX12_potOf 24 = .ok (.invokevirtual 121, 3) := by decide +kernel
theorem dX12_potOf_27 : decode cX12_potOf 27 = .ok (.ireturn, 1) := by decide +kernel
theorem dX12_firedIn_0 : decode cX12_firedIn 0 = .ok (.aload_n 0, 1) := by decide +kernel
theorem dX12_firedIn_1 : decode cX12_firedIn 1 = .ok (.iconst 0, 1) := by decide +kernel
theorem dX12_firedIn_2 : decode cX12_firedIn 2 = .ok (.invokevirtual 126, 3) := by decide +kernel
theorem dX12_firedIn_5 : decode cX12_firedIn 5 = .ok (.getfield 96, 3) := by decide +kernel
theorem dX12_firedIn_8 : decode cX12_firedIn 8 = .ok (.iload_n 1, 1) := by decide +kernel
theorem dX12_firedIn_9 : decode cX12_firedIn 9 = .ok (.invokevirtual 117, 3) := by decide +kernel
theorem dX12_firedIn_12 : decode cX12_firedIn 12 = .ok (.astore_n 2, 1) := by decide +kernel
theorem dX12_firedIn_13 : decode cX12_firedIn 13 = .ok (.aload_n 2, 1) := by decide +kernel
theorem dX12_firedIn_14 : decode cX12_firedIn 14 = .ok (.ifnonnull 7, 3) := by decide +kernel
theorem dX12_firedIn_17 : decode cX12_firedIn 17 = .ok (.sipush (-10001), 3) := by decide +kernel
theorem dX12_firedIn_20 : decode cX12_firedIn 20 = .ok (.ireturn, 1) := by decide +kernel
theorem dX12_firedIn_21 : decode cX12_firedIn 21 = .ok (.iconst 0, 1) := by decide +kernel
theorem dX12_firedIn_22 : decode cX12_firedIn 22 = .ok (.istore_n 3, 1) := by decide +kernel
theorem dX12_firedIn_23 : decode cX12_firedIn 23 = .ok (.iload_n 3, 1) := by decide +kernel
theorem dX12_firedIn_24 : decode cX12_firedIn 24 = .ok (.sipush 300, 3) := by decide +kernel
theorem dX12_firedIn_27 : decode cX12_firedIn 27 = .ok (.if_icmp .ge 26, 3) := by decide +kernel
theorem dX12_firedIn_30 : decode cX12_firedIn 30 = .ok (.aload_n 2, 1) := by decide +kernel
theorem dX12_firedIn_31 : decode cX12_firedIn 31 = .ok (.getfield 130, 3) := by decide +kernel
theorem dX12_firedIn_34 : decode cX12_firedIn 34 = .ok (.iconst 2, 1) := by decide +kernel
theorem dX12_firedIn_35 : decode cX12_firedIn 35 = .ok (.if_icmp .ne 5, 3) := by decide +kernel
theorem dX12_firedIn_38 : decode cX12_firedIn 38 = .ok (.iload_n 3, 1) := by decide +kernel
theorem dX12_firedIn_39 : decode cX12_firedIn 39 = .ok (.ireturn, 1) := by decide +kernel
theorem dX12_firedIn_40 : decode cX12_firedIn 40 = .ok (.aload_n 0, 1) := by decide +kernel
theorem dX12_firedIn_41 : decode cX12_firedIn 41 = .ok (.getfield 16, 3) := by decide +kernel
theorem dX12_firedIn_44 : decode cX12_firedIn 44 = .ok (.invokevirtual 133, 3) := by decide +kernel
theorem dX12_firedIn_47 : decode cX12_firedIn 47 = .ok (.iinc 3 1, 3) := by decide +kernel
theorem dX12_firedIn_50 : decode cX12_firedIn 50 = .ok (.goto (-27), 3) := by decide +kernel
theorem dX12_firedIn_53 : decode cX12_firedIn 53 = .ok (.aload_n 2, 1) := by decide +kernel
theorem dX12_firedIn_54 : decode cX12_firedIn 54 = .ok (.getfield 130, 3) := by decide +kernel
theorem dX12_firedIn_57 : decode cX12_firedIn 57 = .ok (.iconst 2, 1) := by decide +kernel
theorem dX12_firedIn_58 : decode cX12_firedIn 58 = .ok (.if_icmp .ne 9, 3) := by decide +kernel
theorem dX12_firedIn_61 : decode cX12_firedIn 61 = .ok (.sipush 300, 3) := by decide +kernel
theorem dX12_firedIn_64 : decode cX12_firedIn 64 = .ok (.goto 6, 3) := by decide +kernel
theorem dX12_firedIn_67 : decode cX12_firedIn 67 = .ok (.sipush (-10005), 3) := by decide +kernel
theorem dX12_firedIn_70 : decode cX12_firedIn 70 = .ok (.ireturn, 1) := by decide +kernel
theorem dX12_wouldCrack_0 : decode cX12_wouldCrack 0 = .ok (.iconst 0, 1) := by decide +kernel
theorem dX12_wouldCrack_1 : decode cX12_wouldCrack 1 = .ok (.iload_n 1, 1) := by decide +kernel
theorem dX12_wouldCrack_2 : decode cX12_wouldCrack 2 = .ok (.sipush 300, 3) := by decide +kernel
theorem dX12_wouldCrack_5 : decode cX12_wouldCrack 5 = .ok (.invokestatic 136, 3) := by decide +kernel
theorem dX12_wouldCrack_8 : decode cX12_wouldCrack 8 = .ok (.ifCond .ne 7, 3) := by decide +kernel
theorem dX12_wouldCrack_11 : decode cX12_wouldCrack 11 = .ok (.sipush (-10002), 3) := by decide +kernel
theorem dX12_wouldCrack_14 : decode cX12_wouldCrack 14 = .ok (.ireturn, 1) := by decide +kernel
theorem dX12_wouldCrack_15 : decode cX12_wouldCrack 15 = .ok (.aload_n 0, 1) := by decide +kernel
theorem dX12_wouldCrack_16 : decode cX12_wouldCrack 16 = .ok (.iload_n 1, 1) := by decide +kernel
theorem dX12_wouldCrack_17 : decode cX12_wouldCrack 17 = .ok (.invokevirtual 126, 3) := by decide +kernel
theorem dX12_wouldCrack_20 : decode cX12_wouldCrack 20 = .ok (.getfield 96, 3) := by decide +kernel
theorem dX12_wouldCrack_23 : decode cX12_wouldCrack 23 = .ok (.invokevirtual 140, 3) := by decide +kernel
theorem dX12_wouldCrack_26 : decode cX12_wouldCrack 26 = .ok (.aload_n 0, 1) := by decide +kernel
theorem dX12_wouldCrack_27 : decode cX12_wouldCrack 27 = .ok (.getfield 10, 3) := by decide +kernel
theorem dX12_wouldCrack_30 : decode cX12_wouldCrack 30 = .ok (.getfield 96, 3) := by decide +kernel
theorem dX12_wouldCrack_33 : decode cX12_wouldCrack 33 = .ok (.invokevirtual 140, 3) := by decide +kernel
theorem dX12_wouldCrack_36 : decode cX12_wouldCrack 36 = .ok (.iconst (-1), 1) := by decide +kernel
theorem dX12_wouldCrack_37 : decode cX12_wouldCrack 37 = .ok (.ixor, 1) := by decide +kernel
theorem dX12_wouldCrack_38 : decode cX12_wouldCrack 38 = .ok (.iand, 1) := by decide +kernel
theorem dX12_wouldCrack_39 : decode cX12_wouldCrack 39 = .ok (.ireturn, 1) := by decide +kernel
theorem dX12_ranked_0 : decode cX12_ranked 0 = .ok (.aload_n 0, 1) := by decide +kernel
theorem dX12_ranked_1 : decode cX12_ranked 1 = .ok (.getfield 10, 3) := by decide +kernel
theorem dX12_ranked_4 : decode cX12_ranked 4 = .ok (.getfield 96, 3) := by decide +kernel
theorem dX12_ranked_7 : decode cX12_ranked 7 = .ok (.iload_n 1, 1) := by decide +kernel
theorem dX12_ranked_8 : decode cX12_ranked 8 = .ok (.invokevirtual 144, 3) := by decide +kernel
theorem dX12_ranked_11 : decode cX12_ranked 11 = .ok (.ireturn, 1) := by decide +kernel
theorem dX12_degreesIn_0 : decode cX12_degreesIn 0 = .ok (.iconst 0, 1) := by decide +kernel
theorem dX12_degreesIn_1 : decode cX12_degreesIn 1 = .ok (.iload_n 1, 1) := by decide +kernel
theorem dX12_degreesIn_2 : decode cX12_degreesIn 2 = .ok (.sipush 300, 3) := by decide +kernel
theorem dX12_degreesIn_5 : decode cX12_degreesIn 5 = .ok (.invokestatic 136, 3) := by decide +kernel
theorem dX12_degreesIn_8 : decode cX12_degreesIn 8 = .ok (.ifCond .eq 14, 3) := by decide +kernel
theorem dX12_degreesIn_11 : decode cX12_degreesIn 11 = .ok (.aload_n 0, 1) := by decide +kernel
theorem dX12_degreesIn_12 : decode cX12_degreesIn 12 = .ok (.iload_n 1, 1) := by decide +kernel
theorem dX12_degreesIn_13 : decode cX12_degreesIn 13 = .ok (.invokevirtual 126, 3) := by decide +kernel
theorem dX12_degreesIn_16 : decode cX12_degreesIn 16 = .ok (.getfield 106, 3) := by decide +kernel
theorem dX12_degreesIn_19 : decode cX12_degreesIn 19 = .ok (.goto 6, 3) := by decide +kernel
theorem dX12_degreesIn_22 : decode cX12_degreesIn 22 = .ok (.sipush (-10002), 3) := by decide +kernel
theorem dX12_degreesIn_25 : decode cX12_degreesIn 25 = .ok (.ireturn, 1) := by decide +kernel
theorem dX12_wanted_0 : decode cX12_wanted 0 = .ok (.aload_n 0, 1) := by decide +kernel
theorem dX12_wanted_1 : decode cX12_wanted 1 = .ok (.getfield 10, 3) := by decide +kernel
theorem dX12_wanted_4 : decode cX12_wanted 4 = .ok (.getfield 68, 3) := by decide +kernel
theorem dX12_wanted_7 : decode cX12_wanted 7 = .ok (.aload_n 0, 1) := by decide +kernel
theorem dX12_wanted_8 : decode cX12_wanted 8 = .ok (.getfield 10, 3) := by decide +kernel
theorem dX12_wanted_11 : decode cX12_wanted 11 = .ok (.invokevirtual 147, 3) := by decide +kernel
theorem dX12_wanted_14 : decode cX12_wanted 14 = .ok (.invokevirtual 150, 3) := by decide +kernel
theorem dX12_wanted_17 : decode cX12_wanted 17 = .ok (.ireturn, 1) := by decide +kernel
theorem dX12_settlesIn_0 : decode cX12_settlesIn 0 = .ok (.aload_n 0, 1) := by decide +kernel
theorem dX12_settlesIn_1 : decode cX12_settlesIn 1 = .ok (.iconst 0, 1) := by decide +kernel
theorem dX12_settlesIn_2 : decode cX12_settlesIn 2 = .ok (.invokevirtual 126, 3) := by decide +kernel
theorem dX12_settlesIn_5 : decode cX12_settlesIn 5 = .ok (.pop, 1) := by decide +kernel
theorem dX12_settlesIn_6 : decode cX12_settlesIn 6 = .ok (.iconst 0, 1) := by decide +kernel
theorem dX12_settlesIn_7 : decode cX12_settlesIn 7 = .ok (.istore_n 1, 1) := by decide +kernel
theorem dX12_settlesIn_8 : decode cX12_settlesIn 8 = .ok (.iconst 1, 1) := by decide +kernel
theorem dX12_settlesIn_9 : decode cX12_settlesIn 9 = .ok (.istore_n 2, 1) := by decide +kernel
theorem dX12_settlesIn_10 : decode cX12_settlesIn 10 = .ok (.iload_n 2, 1) := by decide +kernel
theorem dX12_settlesIn_11 : decode cX12_settlesIn 11 = .ok (.sipush 300, 3) := by decide +kernel
theorem dX12_settlesIn_14 : decode cX12_settlesIn 14 = .ok (.if_icmp .gt 48, 3) := by decide +kernel
theorem dX12_settlesIn_17 : decode cX12_settlesIn 17 = .ok (.aload_n 0, 1) := by decide +kernel
theorem dX12_settlesIn_18 : decode cX12_settlesIn 18 = .ok (.getfield 16, 3) := by decide +kernel
theorem dX12_settlesIn_21 : decode cX12_settlesIn 21 = .ok (.invokevirtual 133, 3) := by decide +kernel
theorem dX12_settlesIn_24 : decode cX12_settlesIn 24 = .ok (.bipush (-5), 2) := by decide +kernel
theorem dX12_settlesIn_26 : decode cX12_settlesIn 26 = .ok (.aload_n 0, 1) := by decide +kernel
theorem dX12_settlesIn_27 : decode cX12_settlesIn 27 = .ok (.getfield 16, 3) := by decide +kernel
theorem dX12_settlesIn_30 : decode cX12_settlesIn 30 = .ok (.invokevirtual 147, 3) := by decide +kernel
theorem dX12_settlesIn_33 : decode cX12_settlesIn 33 = .ok (.iconst 5, 1) := by decide +kernel
theorem dX12_settlesIn_34 : decode cX12_settlesIn 34 = .ok (.invokestatic 136, 3) := by decide +kernel
theorem dX12_settlesIn_37 : decode cX12_settlesIn 37 = .ok (.ifCond .eq 9, 3) := by decide +kernel
theorem dX12_settlesIn_40 : decode cX12_settlesIn 40 = .ok (.iload_n 1, 1) := by decide +kernel
theorem dX12_settlesIn_41 : decode cX12_settlesIn 41 = .ok (.iconst 1, 1) := by decide +kernel
theorem dX12_settlesIn_42 : decode cX12_settlesIn 42 = .ok (.iadd, 1) := by decide +kernel
theorem dX12_settlesIn_43 : decode cX12_settlesIn 43 = .ok (.goto 4, 3) := by decide +kernel
theorem dX12_settlesIn_46 : decode cX12_settlesIn 46 = .ok (.iconst 0, 1) := by decide +kernel
theorem dX12_settlesIn_47 : decode cX12_settlesIn 47 = .ok (.istore_n 1, 1) := by decide +kernel
theorem dX12_settlesIn_48 : decode cX12_settlesIn 48 = .ok (.iload_n 1, 1) := by decide +kernel
theorem dX12_settlesIn_49 : decode cX12_settlesIn 49 = .ok (.bipush 10, 2) := by decide +kernel
theorem dX12_settlesIn_51 : decode cX12_settlesIn 51 = .ok (.if_icmp .ne 5, 3) := by decide +kernel
theorem dX12_settlesIn_54 : decode cX12_settlesIn 54 = .ok (.iload_n 2, 1) := by decide +kernel
theorem dX12_settlesIn_55 : decode cX12_settlesIn 55 = .ok (.ireturn, 1) := by decide +kernel
theorem dX12_settlesIn_56 : decode cX12_settlesIn 56 = .ok (.iinc 2 1, 3) := by decide +kernel
theorem dX12_settlesIn_59 : decode cX12_settlesIn 59 = .ok (.goto (-49), 3) := by decide +kernel
theorem dX12_settlesIn_62 : decode cX12_settlesIn 62 = .ok (.sipush (-10005), 3) := by decide +kernel
theorem dX12_settlesIn_65 : decode cX12_settlesIn 65 = .ok (.ireturn, 1) := by decide +kernel
theorem dX12_wouldOvershoot_0 : decode cX12_wouldOvershoot 0 = .ok (.iconst 0, 1) := by decide +kernel
theorem dX12_wouldOvershoot_1 : decode cX12_wouldOvershoot 1 = .ok (.iload_n 1, 1) := by decide +kernel
theorem dX12_wouldOvershoot_2 : decode cX12_wouldOvershoot 2 = .ok (.sipush 300, 3) := by decide +kernel
theorem dX12_wouldOvershoot_5 : decode cX12_wouldOvershoot 5 = .ok (.invokestatic 136, 3) := by decide +kernel
theorem dX12_wouldOvershoot_8 : decode cX12_wouldOvershoot 8 = .ok (.ifCond .eq 14, 3) := by decide +kernel
theorem dX12_wouldOvershoot_11 : decode cX12_wouldOvershoot 11 = .ok (.aload_n 0, 1) := by decide +kernel
theorem dX12_wouldOvershoot_12 : decode cX12_wouldOvershoot 12 = .ok (.iload_n 1, 1) := by decide +kernel
theorem dX12_wouldOvershoot_13 : decode cX12_wouldOvershoot 13 = .ok (.invokevirtual 126, 3) := by decide +kernel
theorem dX12_wouldOvershoot_16 : decode cX12_wouldOvershoot 16 = .ok (.getfield 153, 3) := by decide +kernel
theorem dX12_wouldOvershoot_19 : decode cX12_wouldOvershoot 19 = .ok (.goto 6, 3) := by decide +kernel
theorem dX12_wouldOvershoot_22 : decode cX12_wouldOvershoot 22 = .ok (.sipush (-10002), 3) := by decide +kernel
theorem dX12_wouldOvershoot_25 : decode cX12_wouldOvershoot 25 = .ok (.ireturn, 1) := by decide +kernel
theorem dX12_logged_0 : decode cX12_logged 0 = .ok (.aload_n 0, 1) := by decide +kernel
theorem dX12_logged_1 : decode cX12_logged 1 = .ok (.getfield 10, 3) := by decide +kernel
theorem dX12_logged_4 : decode cX12_logged 4 = .ok (.getfield 84, 3) := by decide +kernel
theorem dX12_logged_7 : decode cX12_logged 7 = .ok (.iload_n 1, 1) := by decide +kernel
theorem dX12_logged_8 : decode cX12_logged 8 = .ok (.iload_n 2, 1) := by decide +kernel
theorem dX12_logged_9 : decode cX12_logged 9 = .ok (.invokevirtual 156, 3) := by decide +kernel
theorem dX12_logged_12 : decode cX12_logged 12 = .ok (.ireturn, 1) := by decide +kernel
theorem dX12_burnt_0 : decode cX12_burnt 0 = .ok (.aload_n 0, 1) := by decide +kernel
theorem dX12_burnt_1 : decode cX12_burnt 1 = .ok (.getfield 10, 3) := by decide +kernel
theorem dX12_burnt_4 : decode cX12_burnt 4 = .ok (.getfield 84, 3) := by decide +kernel
theorem dX12_burnt_7 : decode cX12_burnt 7 = .ok (.getfield 160, 3) := by decide +kernel
theorem dX12_burnt_10 : decode cX12_burnt 10 = .ok (.ireturn, 1) := by decide +kernel
theorem dX12_burntAgain_0 : decode cX12_burntAgain 0 = .ok (.aload_n 0, 1) := by decide +kernel
theorem dX12_burntAgain_1 : decode cX12_burntAgain 1 = .ok (.getfield 10, 3) := by decide +kernel
theorem dX12_burntAgain_4 : decode cX12_burntAgain 4 = .ok (.getfield 84, 3) := by decide +kernel
theorem dX12_burntAgain_7 : decode cX12_burntAgain 7 = .ok (.invokevirtual 163, 3) := by decide +kernel
theorem dX12_burntAgain_10 : decode cX12_burntAgain 10 = .ok (.ireturn, 1) := by decide +kernel
theorem dX12_minutesWith_0 : decode cX12_minutesWith 0 = .ok (.iconst 0, 1) := by decide +kernel
theorem dX12_minutesWith_1 : decode cX12_minutesWith 1 = .ok (.iload_n 1, 1) := by decide +kernel
theorem dX12_minutesWith_2 : decode cX12_minutesWith 2 = .ok (.bipush 100, 2) := by decide +kernel
theorem dX12_minutesWith_4 : decode cX12_minutesWith 4 = .ok (.invokestatic 136, 3) := by decide +kernel
theorem dX12_minutesWith_7 : decode cX12_minutesWith 7 = .ok (.ifCond .eq 20, 3) := by decide +kernel
theorem dX12_minutesWith_10 : decode cX12_minutesWith 10 = .ok (.aload_n 0, 1) := by decide +kernel
theorem dX12_minutesWith_11 : decode cX12_minutesWith 11 = .ok (.getfield 10, 3) := by decide +kernel
theorem dX12_minutesWith_14 : decode cX12_minutesWith 14 = .ok (.getfield 84, 3) := by decide +kernel
theorem dX12_minutesWith_17 : decode cX12_minutesWith 17 = .ok (.getfield 166, 3) := by decide +kernel
theorem dX12_minutesWith_20 : decode cX12_minutesWith 20 = .ok (.iload_n 1, 1) := by decide +kernel
theorem dX12_minutesWith_21 : decode cX12_minutesWith 21 = .ok (.invokestatic 170, 3) := by decide +kernel
theorem dX12_minutesWith_24 : decode cX12_minutesWith 24 = .ok (.goto 6, 3) := by decide +kernel
theorem dX12_minutesWith_27 : decode cX12_minutesWith 27 = .ok (.sipush (-10002), 3) := by decide +kernel
theorem dX12_minutesWith_30 : decode cX12_minutesWith 30 = .ok (.ireturn, 1) := by decide +kernel
theorem dX12_append_0 : decode cX12_append 0 = .ok (.aload_n 0, 1) := by decide +kernel
theorem dX12_append_1 : decode cX12_append 1 = .ok (.getfield 46, 3) := by decide +kernel
theorem dX12_append_4 : decode cX12_append 4 = .ok (.iload_n 1, 1) := by decide +kernel
theorem dX12_append_5 : decode cX12_append 5 = .ok (.invokevirtual 174, 3) := by decide +kernel
theorem dX12_append_8 : decode cX12_append 8 = .ok (.ireturn, 1) := by decide +kernel
theorem dX12_run_0 : decode cX12_run 0 = .ok (.aload_n 0, 1) := by decide +kernel
theorem dX12_run_1 : decode cX12_run 1 = .ok (.getfield 46, 3) := by decide +kernel
theorem dX12_run_4 : decode cX12_run 4 = .ok (.invokevirtual 177, 3) := by decide +kernel
theorem dX12_run_7 : decode cX12_run 7 = .ok (.istore_n 1, 1) := by decide +kernel
theorem dX12_run_8 : decode cX12_run 8 = .ok (.aload_n 0, 1) := by decide +kernel
theorem dX12_run_9 : decode cX12_run 9 = .ok (.getfield 46, 3) := by decide +kernel
theorem dX12_run_12 : decode cX12_run 12 = .ok (.invokevirtual 180, 3) := by decide +kernel
theorem dX12_run_15 : decode cX12_run 15 = .ok (.iload_n 1, 1) := by decide +kernel
theorem dX12_run_16 : decode cX12_run 16 = .ok (.ifCond .ge 5, 3) := by decide +kernel
theorem dX12_run_19 : decode cX12_run 19 = .ok (.iload_n 1, 1) := by decide +kernel
theorem dX12_run_20 : decode cX12_run 20 = .ok (.ireturn, 1) := by decide +kernel
theorem dX12_run_21 : decode cX12_run 21 = .ok (.aload_n 0, 1) := by decide +kernel
theorem dX12_run_22 : decode cX12_run 22 = .ok (.invokevirtual 57, 3) := by decide +kernel
theorem dX12_run_25 : decode cX12_run 25 = .ok (.iconst 0, 1) := by decide +kernel
theorem dX12_run_26 : decode cX12_run 26 = .ok (.istore_n 2, 1) := by decide +kernel
theorem dX12_run_27 : decode cX12_run 27 = .ok (.iload_n 2, 1) := by decide +kernel
theorem dX12_run_28 : decode cX12_run 28 = .ok (.iload_n 1, 1) := by decide +kernel
theorem dX12_run_29 : decode cX12_run 29 = .ok (.if_icmp .ge 39, 3) := by decide +kernel
theorem dX12_run_32 : decode cX12_run 32 = .ok (.aload_n 0, 1) := by decide +kernel
theorem dX12_run_33 : decode cX12_run 33 = .ok (.aload_n 0, 1) := by decide +kernel
theorem dX12_run_34 : decode cX12_run 34 = .ok (.getfield 46, 3) := by decide +kernel
theorem dX12_run_37 : decode cX12_run 37 = .ok (.iload_n 2, 1) := by decide +kernel
theorem dX12_run_38 : decode cX12_run 38 = .ok (.invokevirtual 183, 3) := by decide +kernel
theorem dX12_run_41 : decode cX12_run 41 = .ok (.invokevirtual 187, 3) := by decide +kernel
theorem dX12_run_44 : decode cX12_run 44 = .ok (.ifCond .ge 18, 3) := by decide +kernel
theorem dX12_run_47 : decode cX12_run 47 = .ok (.aload_n 0, 1) := by decide +kernel
theorem dX12_run_48 : decode cX12_run 48 = .ok (.aload_n 0, 1) := by decide +kernel
theorem dX12_run_49 : decode cX12_run 49 = .ok (.getfield 36, 3) := by decide +kernel
theorem dX12_run_52 : decode cX12_run 52 = .ok (.bipush 6, 2) := by decide +kernel
theorem dX12_run_54 : decode cX12_run 54 = .ok (.iload_n 2, 1) := by decide +kernel
theorem dX12_run_55 : decode cX12_run 55 = .ok (.invokevirtual 191, 3) := by decide +kernel
theorem dX12_run_58 : decode cX12_run 58 = .ok (.invokevirtual 64, 3) := by decide +kernel
theorem dX12_run_61 : decode cX12_run 61 = .ok (.ireturn, 1) := by decide +kernel
theorem dX12_run_62 : decode cX12_run 62 = .ok (.iinc 2 1, 3) := by decide +kernel
theorem dX12_run_65 : decode cX12_run 65 = .ok (.goto (-38), 3) := by decide +kernel
theorem dX12_run_68 : decode cX12_run 68 = .ok (.aload_n 0, 1) := by decide +kernel
theorem dX12_run_69 : decode cX12_run 69 = .ok (.iload_n 1, 1) := by decide +kernel
theorem dX12_run_70 : decode cX12_run 70 = .ok (.invokevirtual 64, 3) := by decide +kernel
theorem dX12_run_73 : decode cX12_run 73 = .ok (.ireturn, 1) := by decide +kernel
theorem dX12_tell_0 : decode cX12_tell 0 = .ok (.aload_n 0, 1) := by decide +kernel
theorem dX12_tell_1 : decode cX12_tell 1 = .ok (.getfield 53, 3) := by decide +kernel
theorem dX12_tell_4 : decode cX12_tell 4 = .ok (.iconst 0, 1) := by decide +kernel
theorem dX12_tell_5 : decode cX12_tell 5 = .ok (.invokevirtual 194, 3) := by decide +kernel
theorem dX12_tell_8 : decode cX12_tell 8 = .ok (.aload_n 0, 1) := by decide +kernel
theorem dX12_tell_9 : decode cX12_tell 9 = .ok (.getfield 10, 3) := by decide +kernel
theorem dX12_tell_12 : decode cX12_tell 12 = .ok (.aload_n 0, 1) := by decide +kernel
theorem dX12_tell_13 : decode cX12_tell 13 = .ok (.getfield 53, 3) := by decide +kernel
theorem dX12_tell_16 : decode cX12_tell 16 = .ok (.invokevirtual 198, 3) := by decide +kernel
theorem dX12_tell_19 : decode cX12_tell 19 = .ok (.aload_n 0, 1) := by decide +kernel
theorem dX12_tell_20 : decode cX12_tell 20 = .ok (.getfield 53, 3) := by decide +kernel
theorem dX12_tell_23 : decode cX12_tell 23 = .ok (.invokevirtual 202, 3) := by decide +kernel
theorem dX12_tell_26 : decode cX12_tell 26 = .ok (.ireturn, 1) := by decide +kernel
theorem dX12_character_0 : decode cX12_character 0 = .ok (.iload_n 1, 1) := by decide +kernel
theorem dX12_character_1 : decode cX12_character 1 = .ok (.ifCond .lt 25, 3) := by decide +kernel
theorem dX12_character_4 : decode cX12_character 4 = .ok (.iload_n 1, 1) := by decide +kernel
theorem dX12_character_5 : decode cX12_character 5 = .ok (.aload_n 0, 1) := by decide +kernel
theorem dX12_character_6 : decode cX12_character 6 = .ok (.getfield 53, 3) := by decide +kernel
theorem dX12_character_9 : decode cX12_character 9 = .ok (.invokevirtual 202, 3) := by decide +kernel
theorem dX12_character_12 : decode cX12_character 12 = .ok (.if_icmp .ge 14, 3) := by decide +kernel
theorem dX12_character_15 : decode cX12_character 15 = .ok (.aload_n 0, 1) := by decide +kernel
theorem dX12_character_16 : decode cX12_character 16 = .ok (.getfield 53, 3) := by decide +kernel
theorem dX12_character_19 : decode cX12_character 19 = .ok (.iload_n 1, 1) := by decide +kernel
theorem dX12_character_20 : decode cX12_character 20 = .ok (.invokevirtual 210, 3) := by decide +kernel
theorem dX12_character_23 : decode cX12_character 23 = .ok (.goto 6, 3) := by decide +kernel
theorem dX12_character_26 : decode cX12_character 26 = .ok (.sipush (-10001), 3) := by decide +kernel
theorem dX12_character_29 : decode cX12_character 29 = .ok (.ireturn, 1) := by decide +kernel
theorem dX12_account_0 : decode cX12_account 0 = .ok (.iload_n 1, 1) := by decide +kernel
theorem dX12_account_1 : decode cX12_account 1 = .ok (.lookupswitch 43 #[(16, 27), (17, 35)], 27) := by decide +kernel
theorem dX12_account_28 : decode cX12_account 28 = .ok (.aload_n 0, 1) := by decide +kernel
theorem dX12_account_29 : decode cX12_account 29 = .ok (.getfield 46, 3) := by decide +kernel
theorem dX12_account_32 : decode cX12_account 32 = .ok (.invokevirtual 220, 3) := by decide +kernel
theorem dX12_account_35 : decode cX12_account 35 = .ok (.ireturn, 1) := by decide +kernel
theorem dX12_account_36 : decode cX12_account 36 = .ok (.aload_n 0, 1) := by decide +kernel
theorem dX12_account_37 : decode cX12_account 37 = .ok (.getfield 29, 3) := by decide +kernel
theorem dX12_account_40 : decode cX12_account 40 = .ok (.getfield 223, 3) := by decide +kernel
theorem dX12_account_43 : decode cX12_account 43 = .ok (.ireturn, 1) := by decide +kernel
theorem dX12_account_44 : decode cX12_account 44 = .ok (.aload_n 0, 1) := by decide +kernel
theorem dX12_account_45 : decode cX12_account 45 = .ok (.getfield 10, 3) := by decide +kernel
theorem dX12_account_48 : decode cX12_account 48 = .ok (.iload_n 1, 1) := by decide +kernel
theorem dX12_account_49 : decode cX12_account 49 = .ok (.invokevirtual 226, 3) := by decide +kernel
theorem dX12_account_52 : decode cX12_account 52 = .ok (.ireturn, 1) := by decide +kernel
theorem dX12_isBalanced_0 : decode cX12_isBalanced 0 = .ok (.aload_n 0, 1) := by decide +kernel
theorem dX12_isBalanced_1 : decode cX12_isBalanced 1 = .ok (.getfield 10, 3) := by decide +kernel
theorem dX12_isBalanced_4 : decode cX12_isBalanced 4 = .ok (.getfield 84, 3) := by decide +kernel
theorem dX12_isBalanced_7 : decode cX12_isBalanced 7 = .ok (.invokevirtual 229, 3) := by decide +kernel
theorem dX12_isBalanced_10 : decode cX12_isBalanced 10 = .ok (.ifCond .eq 20, 3) := by decide +kernel
theorem dX12_isBalanced_13 : decode cX12_isBalanced 13 = .ok (.aload_n 0, 1) := by decide +kernel
theorem dX12_isBalanced_14 : decode cX12_isBalanced 14 = .ok (.getfield 10, 3) := by decide +kernel
theorem dX12_isBalanced_17 : decode cX12_isBalanced 17 = .ok (.getfield 96, 3) := by decide +kernel
theorem dX12_isBalanced_20 : decode cX12_isBalanced 20 = .ok (.invokevirtual 233, 3) := by decide +kernel
theorem dX12_isBalanced_23 : decode cX12_isBalanced 23 = .ok (.ifCond .eq 7, 3) := by decide +kernel
theorem dX12_isBalanced_26 : decode cX12_isBalanced 26 = .ok (.iconst 1, 1) := by decide +kernel
theorem dX12_isBalanced_27 : decode cX12_isBalanced 27 = .ok (.goto 4, 3) := by decide +kernel
theorem dX12_isBalanced_30 : decode cX12_isBalanced 30 = .ok (.iconst 0, 1) := by decide +kernel
theorem dX12_isBalanced_31 : decode cX12_isBalanced 31 = .ok (.ireturn, 1) := by decide +kernel
theorem dX12_meanBurnt_0 : decode cX12_meanBurnt 0 = .ok (.aload_n 0, 1) := by decide +kernel
theorem dX12_meanBurnt_1 : decode cX12_meanBurnt 1 = .ok (.getfield 10, 3) := by decide +kernel
theorem dX12_meanBurnt_4 : decode cX12_meanBurnt 4 = .ok (.getfield 84, 3) := by decide +kernel
theorem dX12_meanBurnt_7 : decode cX12_meanBurnt 7 = .ok (.getfield 236, 3) := by decide +kernel
theorem dX12_meanBurnt_10 : decode cX12_meanBurnt 10 = .ok (.istore_n 1, 1) := by decide +kernel
theorem dX12_meanBurnt_11 : decode cX12_meanBurnt 11 = .ok (.iload_n 1, 1) := by decide +kernel
theorem dX12_meanBurnt_12 : decode cX12_meanBurnt 12 = .ok (.ifCond .ne 7, 3) := by decide +kernel
theorem dX12_meanBurnt_15 : decode cX12_meanBurnt 15 = .ok (.dconst 0, 1) := by decide +kernel
theorem dX12_meanBurnt_16 : decode cX12_meanBurnt 16 = .ok (.goto 17, 3) := by decide +kernel
theorem dX12_meanBurnt_19 : decode cX12_meanBurnt 19 = .ok (.aload_n 0, 1) := by decide +kernel
theorem dX12_meanBurnt_20 : decode cX12_meanBurnt 20 = .ok (.getfield 10, 3) := by decide +kernel
theorem dX12_meanBurnt_23 : decode cX12_meanBurnt 23 = .ok (.getfield 84, 3) := by decide +kernel
theorem dX12_meanBurnt_26 : decode cX12_meanBurnt 26 = .ok (.getfield 160, 3) := by decide +kernel
theorem dX12_meanBurnt_29 : decode cX12_meanBurnt 29 = .ok (.i2d, 1) := by decide +kernel
theorem dX12_meanBurnt_30 : decode cX12_meanBurnt 30 = .ok (.iload_n 1, 1) := by decide +kernel
theorem dX12_meanBurnt_31 : decode cX12_meanBurnt 31 = .ok (.i2d, 1) := by decide +kernel
theorem dX12_meanBurnt_32 : decode cX12_meanBurnt 32 = .ok (.ddiv, 1) := by decide +kernel
theorem dX12_meanBurnt_33 : decode cX12_meanBurnt 33 = .ok (.dreturn, 1) := by decide +kernel
theorem dX12_firedShare_0 : decode cX12_firedShare 0 = .ok (.aload_n 0, 1) := by decide +kernel
theorem dX12_firedShare_1 : decode cX12_firedShare 1 = .ok (.getfield 10, 3) := by decide +kernel
theorem dX12_firedShare_4 : decode cX12_firedShare 4 = .ok (.getfield 96, 3) := by decide +kernel
theorem dX12_firedShare_7 : decode cX12_firedShare 7 = .ok (.getfield 239, 3) := by decide +kernel
theorem dX12_firedShare_10 : decode cX12_firedShare 10 = .ok (.istore_n 1, 1) := by decide +kernel
theorem dX12_firedShare_11 : decode cX12_firedShare 11 = .ok (.iload_n 1, 1) := by decide +kernel
theorem dX12_firedShare_12 : decode cX12_firedShare 12 = .ok (.ifCond .ne 7, 3) := by decide +kernel
theorem dX12_firedShare_15 : decode cX12_firedShare 15 = .ok (.fconst 0, 1) := by decide +kernel
theorem dX12_firedShare_16 : decode cX12_firedShare 16 = .ok (.goto 18, 3) := by decide +kernel
theorem dX12_firedShare_19 : decode cX12_firedShare 19 = .ok (.aload_n 0, 1) := by decide +kernel
theorem dX12_firedShare_20 : decode cX12_firedShare 20 = .ok (.getfield 10, 3) := by decide +kernel
theorem dX12_firedShare_23 : decode cX12_firedShare 23 = .ok (.getfield 96, 3) := by decide +kernel
theorem dX12_firedShare_26 : decode cX12_firedShare 26 = .ok (.iconst 2, 1) := by decide +kernel
theorem dX12_firedShare_27 : decode cX12_firedShare 27 = .ok (.invokevirtual 240, 3) := by decide +kernel
theorem dX12_firedShare_30 : decode cX12_firedShare 30 = .ok (.i2f, 1) := by decide +kernel
theorem dX12_firedShare_31 : decode cX12_firedShare 31 = .ok (.iload_n 1, 1) := by decide +kernel
theorem dX12_firedShare_32 : decode cX12_firedShare 32 = .ok (.i2f, 1) := by decide +kernel
theorem dX12_firedShare_33 : decode cX12_firedShare 33 = .ok (.fdiv, 1) := by decide +kernel
theorem dX12_firedShare_34 : decode cX12_firedShare 34 = .ok (.freturn, 1) := by decide +kernel
theorem dX12_undo_0 : decode cX12_undo 0 = .ok (.aload_n 0, 1) := by decide +kernel
theorem dX12_undo_1 : decode cX12_undo 1 = .ok (.getfield 29, 3) := by decide +kernel
theorem dX12_undo_4 : decode cX12_undo 4 = .ok (.aload_n 0, 1) := by decide +kernel
theorem dX12_undo_5 : decode cX12_undo 5 = .ok (.getfield 10, 3) := by decide +kernel
theorem dX12_undo_8 : decode cX12_undo 8 = .ok (.invokevirtual 243, 3) := by decide +kernel
theorem dX12_undo_11 : decode cX12_undo 11 = .ok (.ireturn, 1) := by decide +kernel
theorem dX12_save_0 : decode cX12_save 0 = .ok (.aload_n 0, 1) := by decide +kernel
theorem dX12_save_1 : decode cX12_save 1 = .ok (.getfield 19, 3) := by decide +kernel
theorem dX12_save_4 : decode cX12_save 4 = .ok (.aload_n 0, 1) := by decide +kernel
theorem dX12_save_5 : decode cX12_save 5 = .ok (.getfield 10, 3) := by decide +kernel
theorem dX12_save_8 : decode cX12_save 8 = .ok (.invokevirtual 247, 3) := by decide +kernel
theorem dX12_save_11 : decode cX12_save 11 = .ok (.aload_n 0, 1) := by decide +kernel
theorem dX12_save_12 : decode cX12_save 12 = .ok (.iconst 1, 1) := by decide +kernel
theorem dX12_save_13 : decode cX12_save 13 = .ok (.putfield 22, 3) := by decide +kernel
theorem dX12_save_16 : decode cX12_save 16 = .ok (.aload_n 0, 1) := by decide +kernel
theorem dX12_save_17 : decode cX12_save 17 = .ok (.getfield 10, 3) := by decide +kernel
theorem dX12_save_20 : decode cX12_save 20 = .ok (.getfield 84, 3) := by decide +kernel
theorem dX12_save_23 : decode cX12_save 23 = .ok (.getfield 236, 3) := by decide +kernel
theorem dX12_save_26 : decode cX12_save 26 = .ok (.ireturn, 1) := by decide +kernel
theorem dX12_restore_0 : decode cX12_restore 0 = .ok (.aload_n 0, 1) := by decide +kernel
theorem dX12_restore_1 : decode cX12_restore 1 = .ok (.getfield 22, 3) := by decide +kernel
theorem dX12_restore_4 : decode cX12_restore 4 = .ok (.ifCond .ne 7, 3) := by decide +kernel
theorem dX12_restore_7 : decode cX12_restore 7 = .ok (.sipush (-10005), 3) := by decide +kernel
theorem dX12_restore_10 : decode cX12_restore 10 = .ok (.ireturn, 1) := by decide +kernel
theorem dX12_restore_11 : decode cX12_restore 11 = .ok (.aload_n 0, 1) := by decide +kernel
theorem dX12_restore_12 : decode cX12_restore 12 = .ok (.getfield 10, 3) := by decide +kernel
theorem dX12_restore_15 : decode cX12_restore 15 = .ok (.aload_n 0, 1) := by decide +kernel
theorem dX12_restore_16 : decode cX12_restore 16 = .ok (.getfield 19, 3) := by decide +kernel
theorem dX12_restore_19 : decode cX12_restore 19 = .ok (.invokevirtual 247, 3) := by decide +kernel
theorem dX12_restore_22 : decode cX12_restore 22 = .ok (.aload_n 0, 1) := by decide +kernel
theorem dX12_restore_23 : decode cX12_restore 23 = .ok (.getfield 29, 3) := by decide +kernel
theorem dX12_restore_26 : decode cX12_restore 26 = .ok (.iconst 0, 1) := by decide +kernel
theorem dX12_restore_27 : decode cX12_restore 27 = .ok (.putfield 223, 3) := by decide +kernel
theorem dX12_restore_30 : decode cX12_restore 30 = .ok (.aload_n 0, 1) := by decide +kernel
theorem dX12_restore_31 : decode cX12_restore 31 = .ok (.getfield 10, 3) := by decide +kernel
theorem dX12_restore_34 : decode cX12_restore 34 = .ok (.getfield 84, 3) := by decide +kernel
theorem dX12_restore_37 : decode cX12_restore 37 = .ok (.getfield 236, 3) := by decide +kernel
theorem dX12_restore_40 : decode cX12_restore 40 = .ok (.ireturn, 1) := by decide +kernel
theorem dX12_beginChange_0 : decode cX12_beginChange 0 = .ok (.aload_n 0, 1) := by decide +kernel
theorem dX12_beginChange_1 : decode cX12_beginChange 1 = .ok (.getfield 16, 3) := by decide +kernel
theorem dX12_beginChange_4 : decode cX12_beginChange 4 = .ok (.aload_n 0, 1) := by decide +kernel
theorem dX12_beginChange_5 : decode cX12_beginChange 5 = .ok (.getfield 10, 3) := by decide +kernel
theorem dX12_beginChange_8 : decode cX12_beginChange 8 = .ok (.invokevirtual 247, 3) := by decide +kernel
theorem dX12_beginChange_11 : decode cX12_beginChange 11 = .ok (.return_, 1) := by decide +kernel
theorem dX12_endChange_0 : decode cX12_endChange 0 = .ok (.iload_n 1, 1) := by decide +kernel
theorem dX12_endChange_1 : decode cX12_endChange 1 = .ok (.ifCond .ge 17, 3) := by decide +kernel
theorem dX12_endChange_4 : decode cX12_endChange 4 = .ok (.aload_n 0, 1) := by decide +kernel
theorem dX12_endChange_5 : decode cX12_endChange 5 = .ok (.getfield 10, 3) := by decide +kernel
theorem dX12_endChange_8 : decode cX12_endChange 8 = .ok (.aload_n 0, 1) := by decide +kernel
theorem dX12_endChange_9 : decode cX12_endChange 9 = .ok (.getfield 16, 3) := by decide +kernel
theorem dX12_endChange_12 : decode cX12_endChange 12 = .ok (.invokevirtual 247, 3) := by decide +kernel
theorem dX12_endChange_15 : decode cX12_endChange 15 = .ok (.goto 14, 3) := by decide +kernel
theorem dX12_endChange_18 : decode cX12_endChange 18 = .ok (.aload_n 0, 1) := by decide +kernel
theorem dX12_endChange_19 : decode cX12_endChange 19 = .ok (.getfield 29, 3) := by decide +kernel
theorem dX12_endChange_22 : decode cX12_endChange 22 = .ok (.aload_n 0, 1) := by decide +kernel
theorem dX12_endChange_23 : decode cX12_endChange 23 = .ok (.getfield 16, 3) := by decide +kernel
theorem dX12_endChange_26 : decode cX12_endChange 26 = .ok (.invokevirtual 251, 3) := by decide +kernel
theorem dX12_endChange_29 : decode cX12_endChange 29 = .ok (.iload_n 1, 1) := by decide +kernel
theorem dX12_endChange_30 : decode cX12_endChange 30 = .ok (.ireturn, 1) := by decide +kernel
theorem dX12_tryMinutes_0 : decode cX12_tryMinutes 0 = .ok (.aload_n 0, 1) := by decide +kernel
theorem dX12_tryMinutes_1 : decode cX12_tryMinutes 1 = .ok (.getfield 16, 3) := by decide +kernel
theorem dX12_tryMinutes_4 : decode cX12_tryMinutes 4 = .ok (.aload_n 0, 1) := by decide +kernel
theorem dX12_tryMinutes_5 : decode cX12_tryMinutes 5 = .ok (.getfield 10, 3) := by decide +kernel
theorem dX12_tryMinutes_8 : decode cX12_tryMinutes 8 = .ok (.invokevirtual 247, 3) := by decide +kernel
theorem dX12_tryMinutes_11 : decode cX12_tryMinutes 11 = .ok (.iconst 0, 1) := by decide +kernel
theorem dX12_tryMinutes_12 : decode cX12_tryMinutes 12 = .ok (.istore_n 2, 1) := by decide +kernel
theorem dX12_tryMinutes_13 : decode cX12_tryMinutes 13 = .ok (.iload_n 2, 1) := by decide +kernel
theorem dX12_tryMinutes_14 : decode cX12_tryMinutes 14 = .ok (.iload_n 1, 1) := by decide +kernel
theorem dX12_tryMinutes_15 : decode cX12_tryMinutes 15 = .ok (.if_icmp .ge 16, 3) := by decide +kernel
theorem dX12_tryMinutes_18 : decode cX12_tryMinutes 18 = .ok (.aload_n 0, 1) := by decide +kernel
theorem dX12_tryMinutes_19 : decode cX12_tryMinutes 19 = .ok (.getfield 16, 3) := by decide +kernel
theorem dX12_tryMinutes_22 : decode cX12_tryMinutes 22 = .ok (.invokevirtual 133, 3) := by decide +kernel
theorem dX12_tryMinutes_25 : decode cX12_tryMinutes 25 = .ok (.iinc 2 1, 3) := by decide +kernel
theorem dX12_tryMinutes_28 : decode cX12_tryMinutes 28 = .ok (.goto (-15), 3) := by decide +kernel
theorem dX12_tryMinutes_31 : decode cX12_tryMinutes 31 = .ok (.aload_n 0, 1) := by decide +kernel
theorem dX12_tryMinutes_32 : decode cX12_tryMinutes 32 = .ok (.getfield 16, 3) := by decide +kernel
theorem dX12_tryMinutes_35 : decode cX12_tryMinutes 35 = .ok (.areturn, 1) := by decide +kernel
theorem dX12_carryOut_0 : decode cX12_carryOut 0 = .ok (.aload_n 1, 1) := by decide +kernel
theorem dX12_carryOut_1 : decode cX12_carryOut 1 = .ok (.ifnull 10, 3) := by decide +kernel
theorem dX12_carryOut_4 : decode cX12_carryOut 4 = .ok (.aload_n 1, 1) := by decide +kernel
theorem dX12_carryOut_5 : decode cX12_carryOut 5 = .ok (.getfield 254, 3) := by decide +kernel
theorem dX12_carryOut_8 : decode cX12_carryOut 8 = .ok (.ifnonnull 7, 3) := by decide +kernel
theorem dX12_carryOut_11 : decode cX12_carryOut 11 = .ok (.sipush (-10001), 3) := by decide +kernel
theorem dX12_carryOut_14 : decode cX12_carryOut 14 = .ok (.ireturn, 1) := by decide +kernel
theorem dX12_carryOut_15 : decode cX12_carryOut 15 = .ok (.aload_n 1, 1) := by decide +kernel
theorem dX12_carryOut_16 : decode cX12_carryOut 16 = .ok (.getfield 260, 3) := by decide +kernel
theorem dX12_carryOut_19 : decode cX12_carryOut 19 = .ok (.iconst 0, 1) := by decide +kernel
theorem dX12_carryOut_20 : decode cX12_carryOut 20 = .ok (.invokestatic 170, 3) := by decide +kernel
theorem dX12_carryOut_23 : decode cX12_carryOut 23 = .ok (.istore_n 2, 1) := by decide +kernel
theorem dX12_carryOut_24 : decode cX12_carryOut 24 = .ok (.aload_n 1, 1) := by decide +kernel
theorem dX12_carryOut_25 : decode cX12_carryOut 25 = .ok (.getfield 260, 3) := by decide +kernel
theorem dX12_carryOut_28 : decode cX12_carryOut 28 = .ok (.iconst 1, 1) := by decide +kernel
theorem dX12_carryOut_29 : decode cX12_carryOut 29 = .ok (.invokestatic 170, 3) := by decide +kernel
theorem dX12_carryOut_32 : decode cX12_carryOut 32 = .ok (.istore_n 3, 1) := by decide +kernel
theorem dX12_carryOut_33 : decode cX12_carryOut 33 = .ok (.aload_n 1, 1) := by decide +kernel
theorem dX12_carryOut_34 : decode cX12_carryOut 34 = .ok (.getfield 260, 3) := by decide +kernel
theorem dX12_carryOut_37 : decode cX12_carryOut 37 = .ok (.iconst 2, 1) := by decide +kernel
theorem dX12_carryOut_38 : decode cX12_carryOut 38 = .ok (.invokestatic 170, 3) := by decide +kernel
theorem dX12_carryOut_41 : decode cX12_carryOut 41 = .ok (.istore 4, 2) := by decide +kernel
theorem dX12_carryOut_43 : decode cX12_carryOut 43 = .ok (.getstatic 263, 3) := by decide +kernel
theorem dX12_carryOut_46 : decode cX12_carryOut 46 = .ok (.aload_n 1, 1) := by decide +kernel
theorem dX12_carryOut_47 : decode cX12_carryOut 47 = .ok (.getfield 254, 3) := by decide +kernel
theorem dX12_carryOut_50 : decode cX12_carryOut 50 = .ok (.invokevirtual 268, 3) := by decide +kernel
theorem dX12_carryOut_53 : decode cX12_carryOut 53 = .ok (.iaload, 1) := by decide +kernel
theorem dX12_carryOut_54 : decode cX12_carryOut 54 = .ok (.tableswitch 180 1 8 #[46, 59, 74, 90, 103, 122, 145, 168], 46) := by decide +kernel
theorem dX12_carryOut_100 : decode cX12_carryOut 100 = .ok (.aload_n 0, 1) := by decide +kernel
theorem dX12_carryOut_101 : decode cX12_carryOut 101 = .ok (.getfield 10, 3) := by decide +kernel
theorem dX12_carryOut_104 : decode cX12_carryOut 104 = .ok (.iload_n 2, 1) := by decide +kernel
theorem dX12_carryOut_105 : decode cX12_carryOut 105 = .ok (.aload_n 0, 1) := by decide +kernel
theorem dX12_carryOut_106 : decode cX12_carryOut 106 = .ok (.getfield 40, 3) := by decide +kernel
theorem dX12_carryOut_109 : decode cX12_carryOut 109 = .ok (.invokevirtual 60, 3) := by decide +kernel
theorem dX12_carryOut_112 : decode cX12_carryOut 112 = .ok (.ireturn, 1) := by decide +kernel
theorem dX12_carryOut_113 : decode cX12_carryOut 113 = .ok (.aload_n 0, 1) := by decide +kernel
theorem dX12_carryOut_114 : decode cX12_carryOut 114 = .ok (.getfield 10, 3) := by decide +kernel
theorem dX12_carryOut_117 : decode cX12_carryOut 117 = .ok (.getfield 68, 3) := by decide +kernel
theorem dX12_carryOut_120 : decode cX12_carryOut 120 = .ok (.iload_n 2, 1) := by decide +kernel
theorem dX12_carryOut_121 : decode cX12_carryOut 121 = .ok (.iload_n 3, 1) := by decide +kernel
theorem dX12_carryOut_122 : decode cX12_carryOut 122 = .ok (.iload 4, 2) := by decide +kernel
theorem dX12_carryOut_124 : decode cX12_carryOut 124 = .ok (.invokevirtual 72, 3) := by decide +kernel
theorem dX12_carryOut_127 : decode cX12_carryOut 127 = .ok (.ireturn, 1) := by decide +kernel
theorem dX12_carryOut_128 : decode cX12_carryOut 128 = .ok (.aload_n 0, 1) := by decide +kernel
theorem dX12_carryOut_129 : decode cX12_carryOut 129 = .ok (.getfield 10, 3) := by decide +kernel
theorem dX12_carryOut_132 : decode cX12_carryOut 132 = .ok (.getfield 68, 3) := by decide +kernel
theorem dX12_carryOut_135 : decode cX12_carryOut 135 = .ok (.iload_n 2, 1) := by decide +kernel
theorem dX12_carryOut_136 : decode cX12_carryOut 136 = .ok (.aload_n 0, 1) := by decide +kernel
theorem dX12_carryOut_137 : decode cX12_carryOut 137 = .ok (.getfield 40, 3) := by decide +kernel
theorem dX12_carryOut_140 : decode cX12_carryOut 140 = .ok (.invokevirtual 78, 3) := by decide +kernel
theorem dX12_carryOut_143 : decode cX12_carryOut 143 = .ok (.ireturn, 1) := by decide +kernel
theorem dX12_carryOut_144 : decode cX12_carryOut 144 = .ok (.aload_n 0, 1) := by decide +kernel
theorem dX12_carryOut_145 : decode cX12_carryOut 145 = .ok (.getfield 10, 3) := by decide +kernel
theorem dX12_carryOut_148 : decode cX12_carryOut 148 = .ok (.iload_n 2, 1) := by decide +kernel
theorem dX12_carryOut_149 : decode cX12_carryOut 149 = .ok (.aload_n 0, 1) := by decide +kernel
theorem dX12_carryOut_150 : decode cX12_carryOut 150 = .ok (.getfield 40, 3) := by decide +kernel
theorem dX12_carryOut_153 : decode cX12_carryOut 153 = .ok (.invokevirtual 81, 3) := by decide +kernel
theorem dX12_carryOut_156 : decode cX12_carryOut 156 = .ok (.ireturn, 1) := by decide +kernel
theorem dX12_carryOut_157 : decode cX12_carryOut 157 = .ok (.aload_n 0, 1) := by decide +kernel
theorem dX12_carryOut_158 : decode cX12_carryOut 158 = .ok (.getfield 10, 3) := by decide +kernel
theorem dX12_carryOut_161 : decode cX12_carryOut 161 = .ok (.getfield 96, 3) := by decide +kernel
theorem dX12_carryOut_164 : decode cX12_carryOut 164 = .ok (.iload_n 2, 1) := by decide +kernel
theorem dX12_carryOut_165 : decode cX12_carryOut 165 = .ok (.iload_n 3, 1) := by decide +kernel
theorem dX12_carryOut_166 : decode cX12_carryOut 166 = .ok (.iload 4, 2) := by decide +kernel
theorem dX12_carryOut_168 : decode cX12_carryOut 168 = .ok (.aload_n 0, 1) := by decide +kernel
theorem dX12_carryOut_169 : decode cX12_carryOut 169 = .ok (.getfield 40, 3) := by decide +kernel
theorem dX12_carryOut_172 : decode cX12_carryOut 172 = .ok (.invokevirtual 100, 3) := by decide +kernel
theorem dX12_carryOut_175 : decode cX12_carryOut 175 = .ok (.ireturn, 1) := by decide +kernel
theorem dX12_carryOut_176 : decode cX12_carryOut 176 = .ok (.aload_n 0, 1) := by decide +kernel
theorem dX12_carryOut_177 : decode cX12_carryOut 177 = .ok (.getfield 10, 3) := by decide +kernel
theorem dX12_carryOut_180 : decode cX12_carryOut 180 = .ok (.getfield 96, 3) := by decide +kernel
theorem dX12_carryOut_183 : decode cX12_carryOut 183 = .ok (.iload_n 2, 1) := by decide +kernel
theorem dX12_carryOut_184 : decode cX12_carryOut 184 = .ok (.aload_n 0, 1) := by decide +kernel
theorem dX12_carryOut_185 : decode cX12_carryOut 185 = .ok (.getfield 10, 3) := by decide +kernel
theorem dX12_carryOut_188 : decode cX12_carryOut 188 = .ok (.getfield 106, 3) := by decide +kernel
theorem dX12_carryOut_191 : decode cX12_carryOut 191 = .ok (.aload_n 0, 1) := by decide +kernel
theorem dX12_carryOut_192 : decode cX12_carryOut 192 = .ok (.getfield 40, 3) := by decide +kernel
theorem dX12_carryOut_195 : decode cX12_carryOut 195 = .ok (.invokevirtual 110, 3) := by decide +kernel
theorem dX12_carryOut_198 : decode cX12_carryOut 198 = .ok (.ireturn, 1) := by decide +kernel
theorem dX12_carryOut_199 : decode cX12_carryOut 199 = .ok (.aload_n 0, 1) := by decide +kernel
theorem dX12_carryOut_200 : decode cX12_carryOut 200 = .ok (.getfield 10, 3) := by decide +kernel
theorem dX12_carryOut_203 : decode cX12_carryOut 203 = .ok (.getfield 96, 3) := by decide +kernel
theorem dX12_carryOut_206 : decode cX12_carryOut 206 = .ok (.iload_n 2, 1) := by decide +kernel
theorem dX12_carryOut_207 : decode cX12_carryOut 207 = .ok (.aload_n 0, 1) := by decide +kernel
theorem dX12_carryOut_208 : decode cX12_carryOut 208 = .ok (.getfield 10, 3) := by decide +kernel
theorem dX12_carryOut_211 : decode cX12_carryOut 211 = .ok (.getfield 106, 3) := by decide +kernel
theorem dX12_carryOut_214 : decode cX12_carryOut 214 = .ok (.aload_n 0, 1) := by decide +kernel
theorem dX12_carryOut_215 : decode cX12_carryOut 215 = .ok (.getfield 40, 3) := by decide +kernel
theorem dX12_carryOut_218 : decode cX12_carryOut 218 = .ok (.invokevirtual 114, 3) := by decide +kernel
theorem dX12_carryOut_221 : decode cX12_carryOut 221 = .ok (.ireturn, 1) := by decide +kernel
theorem dX12_carryOut_222 : decode cX12_carryOut 222 = .ok (.aload_n 0, 1) := by decide +kernel
theorem dX12_carryOut_223 : decode cX12_carryOut 223 = .ok (.getfield 10, 3) := by decide +kernel
theorem dX12_carryOut_226 : decode cX12_carryOut 226 = .ok (.getfield 84, 3) := by decide +kernel
theorem dX12_carryOut_229 : decode cX12_carryOut 229 = .ok (.iload_n 2, 1) := by decide +kernel
theorem dX12_carryOut_230 : decode cX12_carryOut 230 = .ok (.invokevirtual 88, 3) := by decide +kernel
theorem dX12_carryOut_233 : decode cX12_carryOut 233 = .ok (.ireturn, 1) := by decide +kernel
theorem dX12_carryOut_234 : decode cX12_carryOut 234 = .ok (.aload_n 0, 1) := by decide +kernel
theorem dX12_carryOut_235 : decode cX12_carryOut 235 = .ok (.getfield 10, 3) := by decide +kernel
theorem dX12_carryOut_238 : decode cX12_carryOut 238 = .ok (.iload_n 2, 1) := by decide +kernel
theorem dX12_carryOut_239 : decode cX12_carryOut 239 = .ok (.invokevirtual 93, 3) := by decide +kernel
theorem dX12_carryOut_242 : decode cX12_carryOut 242 = .ok (.ireturn, 1) := by decide +kernel
theorem dX12_isFrom_0 : decode cX12_isFrom 0 = .ok (.iload_n 1, 1) := by decide +kernel
theorem dX12_isFrom_1 : decode cX12_isFrom 1 = .ok (.iload_n 0, 1) := by decide +kernel
theorem dX12_isFrom_2 : decode cX12_isFrom 2 = .ok (.if_icmp .lt 12, 3) := by decide +kernel
theorem dX12_isFrom_5 : decode cX12_isFrom 5 = .ok (.iload_n 1, 1) := by decide +kernel
theorem dX12_isFrom_6 : decode cX12_isFrom 6 = .ok (.iload_n 2, 1) := by decide +kernel
theorem dX12_isFrom_7 : decode cX12_isFrom 7 = .ok (.if_icmp .gt 7, 3) := by decide +kernel
theorem dX12_isFrom_10 : decode cX12_isFrom 10 = .ok (.iconst 1, 1) := by decide +kernel
theorem dX12_isFrom_11 : decode cX12_isFrom 11 = .ok (.goto 4, 3) := by decide +kernel
theorem dX12_isFrom_14 : decode cX12_isFrom 14 = .ok (.iconst 0, 1) := by decide +kernel
theorem dX12_isFrom_15 : decode cX12_isFrom 15 = .ok (.ireturn, 1) := by decide +kernel
theorem dX12_between_0 : decode cX12_between 0 = .ok (.iload_n 1, 1) := by decide +kernel
theorem dX12_between_1 : decode cX12_between 1 = .ok (.iload_n 0, 1) := by decide +kernel
theorem dX12_between_2 : decode cX12_between 2 = .ok (.if_icmp .ge 5, 3) := by decide +kernel
theorem dX12_between_5 : decode cX12_between 5 = .ok (.iload_n 0, 1) := by decide +kernel
theorem dX12_between_6 : decode cX12_between 6 = .ok (.ireturn, 1) := by decide +kernel
theorem dX12_between_7 : decode cX12_between 7 = .ok (.iload_n 1, 1) := by decide +kernel
theorem dX12_between_8 : decode cX12_between 8 = .ok (.iload_n 2, 1) := by decide +kernel
theorem dX12_between_9 : decode cX12_between 9 = .ok (.if_icmp .le 7, 3) := by decide +kernel
theorem dX12_between_12 : decode cX12_between 12 = .ok (.iload_n 2, 1) := by decide +kernel
theorem dX12_between_13 : decode cX12_between 13 = .ok (.goto 4, 3) := by decide +kernel
theorem dX12_between_16 : decode cX12_between 16 = .ok (.iload_n 1, 1) := by decide +kernel
theorem dX12_between_17 : decode cX12_between 17 = .ok (.ireturn, 1) := by decide +kernel
theorem dX12_numberAt_0 : decode cX12_numberAt 0 = .ok (.iload_n 1, 1) := by decide +kernel
theorem dX12_numberAt_1 : decode cX12_numberAt 1 = .ok (.ifCond .lt 15, 3) := by decide +kernel
theorem dX12_numberAt_4 : decode cX12_numberAt 4 = .ok (.iload_n 1, 1) := by decide +kernel
theorem dX12_numberAt_5 : decode cX12_numberAt 5 = .ok (.aload_n 0, 1) := by decide +kernel
theorem dX12_numberAt_6 : decode cX12_numberAt 6 = .ok (.arraylength, 1) := by decide +kernel
theorem dX12_numberAt_7 : decode cX12_numberAt 7 = .ok (.if_icmp .ge 9, 3) := by decide +kernel
theorem dX12_numberAt_10 : decode cX12_numberAt 10 = .ok (.aload_n 0, 1) := by decide +kernel
theorem dX12_numberAt_11 : decode cX12_numberAt 11 = .ok (.iload_n 1, 1) := by decide +kernel
theorem dX12_numberAt_12 : decode cX12_numberAt 12 = .ok (.iaload, 1) := by decide +kernel
theorem dX12_numberAt_13 : decode cX12_numberAt 13 = .ok (.goto 4, 3) := by decide +kernel
theorem dX12_numberAt_16 : decode cX12_numberAt 16 = .ok (.iconst 0, 1) := by decide +kernel
theorem dX12_numberAt_17 : decode cX12_numberAt 17 = .ok (.ireturn, 1) := by decide +kernel
theorem dX12_setNumberAt_0 : decode cX12_setNumberAt 0 = .ok (.iload_n 1, 1) := by decide +kernel
theorem dX12_setNumberAt_1 : decode cX12_setNumberAt 1 = .ok (.ifCond .lt 13, 3) := by decide +kernel
theorem dX12_setNumberAt_4 : decode cX12_setNumberAt 4 = .ok (.iload_n 1, 1) := by decide +kernel
theorem dX12_setNumberAt_5 : decode cX12_setNumberAt 5 = .ok (.aload_n 0, 1) := by decide +kernel
theorem dX12_setNumberAt_6 : decode cX12_setNumberAt 6 = .ok (.arraylength, 1) := by decide +kernel
theorem dX12_setNumberAt_7 : decode cX12_setNumberAt 7 = .ok (.if_icmp .ge 7, 3) := by decide +kernel
theorem dX12_setNumberAt_10 : decode cX12_setNumberAt 10 = .ok (.aload_n 0, 1) := by decide +kernel
theorem dX12_setNumberAt_11 : decode cX12_setNumberAt 11 = .ok (.iload_n 1, 1) := by decide +kernel
theorem dX12_setNumberAt_12 : decode cX12_setNumberAt 12 = .ok (.iload_n 2, 1) := by decide +kernel
theorem dX12_setNumberAt_13 : decode cX12_setNumberAt 13 = .ok (.iastore, 1) := by decide +kernel
theorem dX12_setNumberAt_14 : decode cX12_setNumberAt 14 = .ok (.return_, 1) := by decide +kernel
theorem dX12_copyRow_0 : decode cX12_copyRow 0 = .ok (.iconst 0, 1) := by decide +kernel
theorem dX12_copyRow_1 : decode cX12_copyRow 1 = .ok (.istore_n 2, 1) := by decide +kernel
theorem dX12_copyRow_2 : decode cX12_copyRow 2 = .ok (.iload_n 2, 1) := by decide +kernel
theorem dX12_copyRow_3 : decode cX12_copyRow 3 = .ok (.aload_n 0, 1) := by decide +kernel
theorem dX12_copyRow_4 : decode cX12_copyRow 4 = .ok (.arraylength, 1) := by decide +kernel
theorem dX12_copyRow_5 : decode cX12_copyRow 5 = .ok (.if_icmp .ge 21, 3) := by decide +kernel
theorem dX12_copyRow_8 : decode cX12_copyRow 8 = .ok (.iload_n 2, 1) := by decide +kernel
theorem dX12_copyRow_9 : decode cX12_copyRow 9 = .ok (.aload_n 1, 1) := by decide +kernel
theorem dX12_copyRow_10 : decode cX12_copyRow 10 = .ok (.arraylength, 1) := by decide +kernel
theorem dX12_copyRow_11 : decode cX12_copyRow 11 = .ok (.if_icmp .ge 15, 3) := by decide +kernel
theorem dX12_copyRow_14 : decode cX12_copyRow 14 = .ok (.aload_n 1, 1) := by decide +kernel
theorem dX12_copyRow_15 : decode cX12_copyRow 15 = .ok (.iload_n 2, 1) := by decide +kernel
theorem dX12_copyRow_16 : decode cX12_copyRow 16 = .ok (.aload_n 0, 1) := by decide +kernel
theorem dX12_copyRow_17 : decode cX12_copyRow 17 = .ok (.iload_n 2, 1) := by decide +kernel
theorem dX12_copyRow_18 : decode cX12_copyRow 18 = .ok (.iaload, 1) := by decide +kernel
theorem dX12_copyRow_19 : decode cX12_copyRow 19 = .ok (.iastore, 1) := by decide +kernel
theorem dX12_copyRow_20 : decode cX12_copyRow 20 = .ok (.iinc 2 1, 3) := by decide +kernel
theorem dX12_copyRow_23 : decode cX12_copyRow 23 = .ok (.goto (-21), 3) := by decide +kernel
theorem dX12_copyRow_26 : decode cX12_copyRow 26 = .ok (.return_, 1) := by decide +kernel
theorem dJ5_init_d00df_0 : decode cJ5_init_d00df 0 = .ok (.aload_n 0, 1) := by decide +kernel
theorem dJ5_init_d00df_1 : decode cJ5_init_d00df 1 = .ok (.invokespecial 3, 3) := by decide +kernel
theorem dJ5_init_d00df_4 : decode cJ5_init_d00df 4 = .ok (.getstatic 18, 3) := by decide +kernel
theorem dJ5_init_d00df_7 : decode cJ5_init_d00df 7 = .ok (.ifCond .eq 18, 3) := by decide +kernel
theorem dJ5_init_d00df_10 : decode cJ5_init_d00df 10 = .ok (.aload_n 0, 1) := by decide +kernel
theorem dJ5_init_d00df_11 : decode cJ5_init_d00df 11 = .ok (.iload_n 1, 1) := by decide +kernel
theorem dJ5_init_d00df_12 : decode cJ5_init_d00df 12 = .ok (.newarray .byte, 2) := by decide +kernel
theorem dJ5_init_d00df_14 : decode cJ5_init_d00df 14 = .ok (.putfield 15, 3) := by decide +kernel
theorem dJ5_init_d00df_17 : decode cJ5_init_d00df 17 = .ok (.aload_n 0, 1) := by decide +kernel
theorem dJ5_init_d00df_18 : decode cJ5_init_d00df 18 = .ok (.iconst 0, 1) := by decide +kernel
theorem dJ5_init_d00df_19 : decode cJ5_init_d00df 19 = .ok (.putfield 22, 3) := by decide +kernel
theorem dJ5_init_d00df_22 : decode cJ5_init_d00df 22 = .ok (.goto 16, 3) := by decide +kernel
theorem dJ5_init_d00df_25 : decode cJ5_init_d00df 25 = .ok (.aload_n 0, 1) := by decide +kernel
theorem dJ5_init_d00df_26 : decode cJ5_init_d00df 26 = .ok (.iload_n 1, 1) := by decide +kernel
theorem dJ5_init_d00df_27 : decode cJ5_init_d00df 27 = .ok (.invokestatic 26, 3) := by decide +kernel
theorem dJ5_init_d00df_30 : decode cJ5_init_d00df 30 = .ok (.putfield 15, 3) := by decide +kernel
theorem dJ5_init_d00df_33 : decode cJ5_init_d00df 33 = .ok (.aload_n 0, 1) := by decide +kernel
theorem dJ5_init_d00df_34 : decode cJ5_init_d00df 34 = .ok (.iconst 1, 1) := by decide +kernel
theorem dJ5_init_d00df_35 : decode cJ5_init_d00df 35 = .ok (.putfield 22, 3) := by decide +kernel
theorem dJ5_init_d00df_38 : decode cJ5_init_d00df 38 = .ok (.return_, 1) := by decide +kernel
theorem dJ5_length_8abf5_0 : decode cJ5_length_8abf5 0 = .ok (.aload_n 0, 1) := by decide +kernel
theorem dJ5_length_8abf5_1 : decode cJ5_length_8abf5 1 = .ok (.getfield 79, 3) := by decide +kernel
theorem dJ5_length_8abf5_4 : decode cJ5_length_8abf5 4 = .ok (.ireturn, 1) := by decide +kernel
theorem dJ5_ensureCapacityInternal_d00df_0 : decode cJ5_ensureCapacityInternal_d00df 0 = .ok (.aload_n 0, 1) := by decide +kernel
theorem dJ5_ensureCapacityInternal_d00df_1 : decode cJ5_ensureCapacityInternal_d00df 1 = .ok (.getfield 15, 3) := by decide +kernel
theorem dJ5_ensureCapacityInternal_d00df_4 : decode cJ5_ensureCapacityInternal_d00df 4 = .ok (.arraylength, 1) := by decide +kernel
theorem dJ5_ensureCapacityInternal_d00df_5 : decode cJ5_ensureCapacityInternal_d00df 5 = .ok (.aload_n 0, 1) := by decide +kernel
theorem dJ5_ensureCapacityInternal_d00df_6 : decode cJ5_ensureCapacityInternal_d00df 6 = .ok (.getfield 22, 3) := by decide +kernel
theorem dJ5_ensureCapacityInternal_d00df_9 : decode cJ5_ensureCapacityInternal_d00df 9 = .ok (.ishr, 1) := by decide +kernel
theorem dJ5_ensureCapacityInternal_d00df_10 : decode cJ5_ensureCapacityInternal_d00df 10 = .ok (.istore_n 2, 1) := by decide +kernel
theorem dJ5_ensureCapacityInternal_d00df_11 : decode cJ5_ensureCapacityInternal_d00df 11 = .ok (.iload_n 1, 1) := by decide +kernel
theorem dJ5_ensureCapacityInternal_d00df_12 : decode cJ5_ensureCapacityInternal_d00df 12 = .ok (.iload_n 2, 1) := by decide +kernel
theorem dJ5_ensureCapacityInternal_d00df_13 : decode cJ5_ensureCapacityInternal_d00df 13 = .ok (.isub, 1) := by decide +kernel
theorem dJ5_ensureCapacityInternal_d00df_14 : decode cJ5_ensureCapacityInternal_d00df 14 = .ok (.ifCond .le 24, 3) := by decide +kernel
theorem dJ5_ensureCapacityInternal_d00df_17 : decode cJ5_ensureCapacityInternal_d00df 17 = .ok (.aload_n 0, 1) := by decide +kernel
theorem dJ5_ensureCapacityInternal_d00df_18 : decode cJ5_ensureCapacityInternal_d00df 18 = .ok (.aload_n 0, 1) := by decide +kernel
theorem dJ5_ensureCapacityInternal_d00df_19 : decode cJ5_ensureCapacityInternal_d00df 19 = .ok (.getfield 15, 3) := by decide +kernel
theorem dJ5_ensureCapacityInternal_d00df_22 : decode cJ5_ensureCapacityInternal_d00df 22 = .ok (.aload_n 0, 1) := by decide +kernel
theorem dJ5_ensureCapacityInternal_d00df_23 : decode cJ5_ensureCapacityInternal_d00df 23 = .ok (.iload_n 1, 1) := by decide +kernel
theorem dJ5_ensureCapacityInternal_d00df_24 : decode cJ5_ensureCapacityInternal_d00df 24 = .ok (.invokevirtual 104, 3) := by decide +kernel
theorem dJ5_ensureCapacityInternal_d00df_27 : decode cJ5_ensureCapacityInternal_d00df 27 = .ok (.aload_n 0, 1) := by decide +kernel
theorem dJ5_ensureCapacityInternal_d00df_28 : decode cJ5_ensureCapacityInternal_d00df 28 = .ok (.getfield 22, 3) := by decide +kernel
theorem dJ5_ensureCapacityInternal_d00df_31 : decode cJ5_ensureCapacityInternal_d00df 31 = .ok (.ishl, 1) := by decide +kernel
theorem dJ5_ensureCapacityInternal_d00df_32 : decode cJ5_ensureCapacityInternal_d00df 32 = .ok (.invokestatic 108, 3) := by decide +kernel
theorem dJ5_ensureCapacityInternal_d00df_35 : decode cJ5_ensureCapacityInternal_d00df 35 = .ok (.putfield 15, 3) := by decide +kernel
theorem dJ5_ensureCapacityInternal_d00df_38 : decode cJ5_ensureCapacityInternal_d00df 38 = .ok (.return_, 1) := by decide +kernel
theorem dJ5_newCapacity_0f7a4_0 : decode cJ5_newCapacity_0f7a4 0 = .ok (.aload_n 0, 1) := by decide +kernel
theorem dJ5_newCapacity_0f7a4_1 : decode cJ5_newCapacity_0f7a4 1 = .ok (.getfield 15, 3) := by decide +kernel
theorem dJ5_newCapacity_0f7a4_4 : decode cJ5_newCapacity_0f7a4 4 = .ok (.arraylength, 1) := by decide +kernel
theorem dJ5_newCapacity_0f7a4_5 : decode cJ5_newCapacity_0f7a4 5 = .ok (.istore_n 2, 1) := by decide +kernel
theorem dJ5_newCapacity_0f7a4_6 : decode cJ5_newCapacity_0f7a4 6 = .ok (.iload_n 1, 1) := by decide +kernel
theorem dJ5_newCapacity_0f7a4_7 : decode cJ5_newCapacity_0f7a4 7 = .ok (.aload_n 0, 1) := by decide +kernel
theorem dJ5_newCapacity_0f7a4_8 : decode cJ5_newCapacity_0f7a4 8 = .ok (.getfield 22, 3) := by decide +kernel
theorem dJ5_newCapacity_0f7a4_11 : decode cJ5_newCapacity_0f7a4 11 = .ok (.ishl, 1) := by decide +kernel
theorem dJ5_newCapacity_0f7a4_12 : decode cJ5_newCapacity_0f7a4 12 = .ok (.istore_n 3, 1) := by decide +kernel
theorem dJ5_newCapacity_0f7a4_13 : decode cJ5_newCapacity_0f7a4 13 = .ok (.iload_n 3, 1) := by decide +kernel
theorem dJ5_newCapacity_0f7a4_14 : decode cJ5_newCapacity_0f7a4 14 = .ok (.iload_n 2, 1) := by decide +kernel
theorem dJ5_newCapacity_0f7a4_15 : decode cJ5_newCapacity_0f7a4 15 = .ok (.isub, 1) := by decide +kernel
theorem dJ5_newCapacity_0f7a4_16 : decode cJ5_newCapacity_0f7a4 16 = .ok (.istore 4, 2) := by decide +kernel
theorem dJ5_newCapacity_0f7a4_18 : decode cJ5_newCapacity_0f7a4 18 = .ok (.iload_n 2, 1) := by decide +kernel
theorem dJ5_newCapacity_0f7a4_19 : decode cJ5_newCapacity_0f7a4 19 = .ok (.iload 4, 2) := by decide +kernel
theorem dJ5_newCapacity_0f7a4_21 : decode cJ5_newCapacity_0f7a4 21 = .ok (.iload_n 2, 1) := by decide +kernel
theorem dJ5_newCapacity_0f7a4_22 : decode cJ5_newCapacity_0f7a4 22 = .ok (.iconst 2, 1) := by decide +kernel
theorem dJ5_newCapacity_0f7a4_23 : decode cJ5_newCapacity_0f7a4 23 = .ok (.aload_n 0, 1) := by decide +kernel
theorem dJ5_newCapacity_0f7a4_24 : decode cJ5_newCapacity_0f7a4 24 = .ok (.getfield 22, 3) := by decide +kernel
theorem dJ5_newCapacity_0f7a4_27 : decode cJ5_newCapacity_0f7a4 27 = .ok (.ishl, 1) := by decide +kernel
theorem dJ5_newCapacity_0f7a4_28 : decode cJ5_newCapacity_0f7a4 28 = .ok (.iadd, 1) := by decide +kernel
theorem dJ5_newCapacity_0f7a4_29 : decode cJ5_newCapacity_0f7a4 29 = .ok (.invokestatic 114, 3) := by decide +kernel
theorem dJ5_newCapacity_0f7a4_32 : decode cJ5_newCapacity_0f7a4 32 = .ok (.istore 5, 2) := by decide +kernel
theorem dJ5_newCapacity_0f7a4_34 : decode cJ5_newCapacity_0f7a4 34 = .ok (.iload 5, 2) := by decide +kernel
theorem dJ5_newCapacity_0f7a4_36 : decode cJ5_newCapacity_0f7a4 36 = .ok (.ldc 39, 2) := by decide +kernel
theorem dJ5_newCapacity_0f7a4_38 : decode cJ5_newCapacity_0f7a4 38 = .ok (.if_icmp .ne 13, 3) := by decide +kernel
theorem dJ5_newCapacity_0f7a4_41 : decode cJ5_newCapacity_0f7a4 41 = .ok (.new 120, 3) := by decide +kernel
theorem dJ5_newCapacity_0f7a4_44 : decode cJ5_newCapacity_0f7a4 44 = .ok (.dup, 1) := by decide +kernel
theorem dJ5_newCapacity_0f7a4_45 : decode cJ5_newCapacity_0f7a4 45 = .ok (.ldc 122, 2) := by decide +kernel
theorem dJ5_newCapacity_0f7a4_47 : decode cJ5_newCapacity_0f7a4 47 = .ok (.invokespecial 124, 3) := by decide +kernel
theorem dJ5_newCapacity_0f7a4_50 : decode cJ5_newCapacity_0f7a4 50 = .ok (.athrow, 1) := by decide +kernel
theorem dJ5_newCapacity_0f7a4_51 : decode cJ5_newCapacity_0f7a4 51 = .ok (.iload 5, 2) := by decide +kernel
theorem dJ5_newCapacity_0f7a4_53 : decode cJ5_newCapacity_0f7a4 53 = .ok (.aload_n 0, 1) := by decide +kernel
theorem dJ5_newCapacity_0f7a4_54 : decode cJ5_newCapacity_0f7a4 54 = .ok (.getfield 22, 3) := by decide +kernel
theorem dJ5_newCapacity_0f7a4_57 : decode cJ5_newCapacity_0f7a4 57 = .ok (.ishr, 1) := by decide +kernel
theorem dJ5_newCapacity_0f7a4_58 : decode cJ5_newCapacity_0f7a4 58 = .ok (.ireturn, 1) := by decide +kernel
theorem dJ5_inflate_da8c8_0 : decode cJ5_inflate_da8c8 0 = .ok (.aload_n 0, 1) := by decide +kernel
theorem dJ5_inflate_da8c8_1 : decode cJ5_inflate_da8c8 1 = .ok (.invokevirtual 83, 3) := by decide +kernel
theorem dJ5_inflate_da8c8_4 : decode cJ5_inflate_da8c8 4 = .ok (.ifCond .ne 4, 3) := by decide +kernel
theorem dJ5_inflate_da8c8_7 : decode cJ5_inflate_da8c8 7 = .ok (.return_, 1) := by decide +kernel
theorem dJ5_inflate_da8c8_8 : decode cJ5_inflate_da8c8 8 = .ok (.aload_n 0, 1) := by decide +kernel
theorem dJ5_inflate_da8c8_9 : decode cJ5_inflate_da8c8 9 = .ok (.getfield 15, 3) := by decide +kernel
theorem dJ5_inflate_da8c8_12 : decode cJ5_inflate_da8c8 12 = .ok (.arraylength, 1) := by decide +kernel
theorem dJ5_inflate_da8c8_13 : decode cJ5_inflate_da8c8 13 = .ok (.invokestatic 26, 3) := by decide +kernel
theorem dJ5_inflate_da8c8_16 : decode cJ5_inflate_da8c8 16 = .ok (.astore_n 1, 1) := by decide +kernel
theorem dJ5_inflate_da8c8_17 : decode cJ5_inflate_da8c8 17 = .ok (.aload_n 0, 1) := by decide +kernel
theorem dJ5_inflate_da8c8_18 : decode cJ5_inflate_da8c8 18 = .ok (.getfield 15, 3) := by decide +kernel
theorem dJ5_inflate_da8c8_21 : decode cJ5_inflate_da8c8 21 = .ok (.iconst 0, 1) := by decide +kernel
theorem dJ5_inflate_da8c8_22 : decode cJ5_inflate_da8c8 22 = .ok (.aload_n 1, 1) := by decide +kernel
theorem dJ5_inflate_da8c8_23 : decode cJ5_inflate_da8c8 23 = .ok (.iconst 0, 1) := by decide +kernel
theorem dJ5_inflate_da8c8_24 : decode cJ5_inflate_da8c8 24 = .ok (.aload_n 0, 1) := by decide +kernel
theorem dJ5_inflate_da8c8_25 : decode cJ5_inflate_da8c8 25 = .ok (.getfield 79, 3) := by decide +kernel
theorem dJ5_inflate_da8c8_28 : decode cJ5_inflate_da8c8 28 = .ok (.invokestatic 125, 3) := by decide +kernel
theorem dJ5_inflate_da8c8_31 : decode cJ5_inflate_da8c8 31 = .ok (.aload_n 0, 1) := by decide +kernel
theorem dJ5_inflate_da8c8_32 : decode cJ5_inflate_da8c8 32 = .ok (.aload_n 1, 1) := by decide +kernel
theorem dJ5_inflate_da8c8_33 : decode cJ5_inflate_da8c8 33 = .ok (.putfield 15, 3) := by decide +kernel
theorem dJ5_inflate_da8c8_36 : decode cJ5_inflate_da8c8 36 = .ok (.aload_n 0, 1) := by decide +kernel
theorem dJ5_inflate_da8c8_37 : decode cJ5_inflate_da8c8 37 = .ok (.iconst 1, 1) := by decide +kernel
theorem dJ5_inflate_da8c8_38 : decode cJ5_inflate_da8c8 38 = .ok (.putfield 22, 3) := by decide +kernel
theorem dJ5_inflate_da8c8_41 : decode cJ5_inflate_da8c8 41 = .ok (.return_, 1) := by decide +kernel
theorem dJ5_setLength_d00df_0 : decode cJ5_setLength_d00df 0 = .ok (.iload_n 1, 1) := by decide +kernel
theorem dJ5_setLength_d00df_1 : decode cJ5_setLength_d00df 1 = .ok (.ifCond .ge 12, 3) := by decide +kernel
theorem dJ5_setLength_d00df_4 : decode cJ5_setLength_d00df 4 = .ok (.new 129, 3) := by decide +kernel
theorem dJ5_setLength_d00df_7 : decode cJ5_setLength_d00df 7 = .ok (.dup, 1) := by decide +kernel
theorem dJ5_setLength_d00df_8 : decode cJ5_setLength_d00df 8 = .ok (.iload_n 1, 1) := by decide +kernel
theorem dJ5_setLength_d00df_9 : decode cJ5_setLength_d00df 9 = .ok (.invokespecial 131, 3) := by decide +kernel
theorem dJ5_setLength_d00df_12 : decode cJ5_setLength_d00df 12 = .ok (.athrow, 1) := by decide +kernel
theorem dJ5_setLength_d00df_13 : decode cJ5_setLength_d00df 13 = .ok (.aload_n 0, 1) := by decide +kernel
theorem dJ5_setLength_d00df_14 : decode cJ5_setLength_d00df 14 = .ok (.iload_n 1, 1) := by decide +kernel
theorem dJ5_setLength_d00df_15 : decode cJ5_setLength_d00df 15 = .ok (.invokevirtual 100, 3) := by decide +kernel
theorem dJ5_setLength_d00df_18 : decode cJ5_setLength_d00df 18 = .ok (.aload_n 0, 1) := by decide +kernel
theorem dJ5_setLength_d00df_19 : decode cJ5_setLength_d00df 19 = .ok (.getfield 79, 3) := by decide +kernel
theorem dJ5_setLength_d00df_22 : decode cJ5_setLength_d00df 22 = .ok (.iload_n 1, 1) := by decide +kernel
theorem dJ5_setLength_d00df_23 : decode cJ5_setLength_d00df 23 = .ok (.if_icmp .ge 40, 3) := by decide +kernel
theorem dJ5_setLength_d00df_26 : decode cJ5_setLength_d00df 26 = .ok (.aload_n 0, 1) := by decide +kernel
theorem dJ5_setLength_d00df_27 : decode cJ5_setLength_d00df 27 = .ok (.invokevirtual 83, 3) := by decide +kernel
theorem dJ5_setLength_d00df_30 : decode cJ5_setLength_d00df 30 = .ok (.ifCond .eq 18, 3) := by decide +kernel
theorem dJ5_setLength_d00df_33 : decode cJ5_setLength_d00df 33 = .ok (.aload_n 0, 1) := by decide +kernel
theorem dJ5_setLength_d00df_34 : decode cJ5_setLength_d00df 34 = .ok (.getfield 15, 3) := by decide +kernel
theorem dJ5_setLength_d00df_37 : decode cJ5_setLength_d00df 37 = .ok (.aload_n 0, 1) := by decide +kernel
theorem dJ5_setLength_d00df_38 : decode cJ5_setLength_d00df 38 = .ok (.getfield 79, 3) := by decide +kernel
theorem dJ5_setLength_d00df_41 : decode cJ5_setLength_d00df 41 = .ok (.iload_n 1, 1) := by decide +kernel
theorem dJ5_setLength_d00df_42 : decode cJ5_setLength_d00df 42 = .ok (.invokestatic 133, 3) := by decide +kernel
theorem dJ5_setLength_d00df_45 : decode cJ5_setLength_d00df 45 = .ok (.goto 31, 3) := by decide +kernel
theorem dJ5_setLength_d00df_48 : decode cJ5_setLength_d00df 48 = .ok (.aload_n 0, 1) := by decide +kernel
theorem dJ5_setLength_d00df_49 : decode cJ5_setLength_d00df 49 = .ok (.getfield 15, 3) := by decide +kernel
theorem dJ5_setLength_d00df_52 : decode cJ5_setLength_d00df 52 = .ok (.aload_n 0, 1) := by decide +kernel
theorem dJ5_setLength_d00df_53 : decode cJ5_setLength_d00df 53 = .ok (.getfield 79, 3) := by decide +kernel
theorem dJ5_setLength_d00df_56 : decode cJ5_setLength_d00df 56 = .ok (.iload_n 1, 1) := by decide +kernel
theorem dJ5_setLength_d00df_57 : decode cJ5_setLength_d00df 57 = .ok (.invokestatic 137, 3) := by decide +kernel
theorem dJ5_setLength_d00df_60 : decode cJ5_setLength_d00df 60 = .ok (.goto 16, 3) := by decide +kernel
theorem dJ5_setLength_d00df_63 : decode cJ5_setLength_d00df 63 = .ok (.aload_n 0, 1) := by decide +kernel
theorem dJ5_setLength_d00df_64 : decode cJ5_setLength_d00df 64 = .ok (.getfield 79, 3) := by decide +kernel
theorem dJ5_setLength_d00df_67 : decode cJ5_setLength_d00df 67 = .ok (.iload_n 1, 1) := by decide +kernel
theorem dJ5_setLength_d00df_68 : decode cJ5_setLength_d00df 68 = .ok (.if_icmp .le 8, 3) := by decide +kernel
theorem dJ5_setLength_d00df_71 : decode cJ5_setLength_d00df 71 = .ok (.aload_n 0, 1) := by decide +kernel
theorem dJ5_setLength_d00df_72 : decode cJ5_setLength_d00df 72 = .ok (.iconst 1, 1) := by decide +kernel
theorem dJ5_setLength_d00df_73 : decode cJ5_setLength_d00df 73 = .ok (.putfield 73, 3) := by decide +kernel
theorem dJ5_setLength_d00df_76 : decode cJ5_setLength_d00df 76 = .ok (.aload_n 0, 1) := by decide +kernel
theorem dJ5_setLength_d00df_77 : decode cJ5_setLength_d00df 77 = .ok (.iload_n 1, 1) := by decide +kernel
theorem dJ5_setLength_d00df_78 : decode cJ5_setLength_d00df 78 = .ok (.putfield 79, 3) := by decide +kernel
theorem dJ5_setLength_d00df_81 : decode cJ5_setLength_d00df 81 = .ok (.return_, 1) := by decide +kernel
theorem dJ5_charAt_5068e_0 : decode cJ5_charAt_5068e 0 = .ok (.aload_n 0, 1) := by decide +kernel
theorem dJ5_charAt_5068e_1 : decode cJ5_charAt_5068e 1 = .ok (.getfield 22, 3) := by decide +kernel
theorem dJ5_charAt_5068e_4 : decode cJ5_charAt_5068e 4 = .ok (.istore_n 2, 1) := by decide +kernel
theorem dJ5_charAt_5068e_5 : decode cJ5_charAt_5068e 5 = .ok (.aload_n 0, 1) := by decide +kernel
theorem dJ5_charAt_5068e_6 : decode cJ5_charAt_5068e 6 = .ok (.getfield 15, 3) := by decide +kernel
theorem dJ5_charAt_5068e_9 : decode cJ5_charAt_5068e 9 = .ok (.astore_n 3, 1) := by decide +kernel
theorem dJ5_charAt_5068e_10 : decode cJ5_charAt_5068e 10 = .ok (.aload_n 0, 1) := by decide +kernel
theorem dJ5_charAt_5068e_11 : decode cJ5_charAt_5068e 11 = .ok (.getfield 79, 3) := by decide +kernel
theorem dJ5_charAt_5068e_14 : decode cJ5_charAt_5068e 14 = .ok (.aload_n 3, 1) := by decide +kernel
theorem dJ5_charAt_5068e_15 : decode cJ5_charAt_5068e 15 = .ok (.arraylength, 1) := by decide +kernel
theorem dJ5_charAt_5068e_16 : decode cJ5_charAt_5068e 16 = .ok (.iload_n 2, 1) := by decide +kernel
theorem dJ5_charAt_5068e_17 : decode cJ5_charAt_5068e 17 = .ok (.ishr, 1) := by decide +kernel
theorem dJ5_charAt_5068e_18 : decode cJ5_charAt_5068e 18 = .ok (.invokestatic 138, 3) := by decide +kernel
theorem dJ5_charAt_5068e_21 : decode cJ5_charAt_5068e 21 = .ok (.istore 4, 2) := by decide +kernel
theorem dJ5_charAt_5068e_23 : decode cJ5_charAt_5068e 23 = .ok (.iload_n 1, 1) := by decide +kernel
theorem dJ5_charAt_5068e_24 : decode cJ5_charAt_5068e 24 = .ok (.iload 4, 2) := by decide +kernel
theorem dJ5_charAt_5068e_26 : decode cJ5_charAt_5068e 26 = .ok (.invokestatic 144, 3) := by decide +kernel
theorem dJ5_charAt_5068e_29 : decode cJ5_charAt_5068e 29 = .ok (.iload_n 2, 1) := by decide +kernel
theorem dJ5_charAt_5068e_30 : decode cJ5_charAt_5068e 30 = .ok (.ifCond .ne 12, 3) := by decide +kernel
theorem dJ5_charAt_5068e_33 : decode cJ5_charAt_5068e 33 = .ok (.aload_n 3, 1) := by decide +kernel
theorem dJ5_charAt_5068e_34 : decode cJ5_charAt_5068e 34 = .ok (.iload_n 1, 1) := by decide +kernel
theorem dJ5_charAt_5068e_35 : decode cJ5_charAt_5068e 35 = .ok (.baload, 1) := by decide +kernel
theorem dJ5_charAt_5068e_36 : decode cJ5_charAt_5068e 36 = .ok (.sipush 255, 3) := by decide +kernel
theorem dJ5_charAt_5068e_39 : decode cJ5_charAt_5068e 39 = .ok (.iand, 1) := by decide +kernel
theorem dJ5_charAt_5068e_40 : decode cJ5_charAt_5068e 40 = .ok (.i2c, 1) := by decide +kernel
theorem dJ5_charAt_5068e_41 : decode cJ5_charAt_5068e 41 = .ok (.ireturn, 1) := by decide +kernel
theorem dJ5_charAt_5068e_42 : decode cJ5_charAt_5068e 42 = .ok (.aload_n 3, 1) := by decide +kernel
theorem dJ5_charAt_5068e_43 : decode cJ5_charAt_5068e 43 = .ok (.iload_n 1, 1) := by decide +kernel
theorem dJ5_charAt_5068e_44 : decode cJ5_charAt_5068e 44 = .ok (.invokestatic 148, 3) := by decide +kernel
theorem dJ5_charAt_5068e_47 : decode cJ5_charAt_5068e 47 = .ok (.ireturn, 1) := by decide +kernel
theorem dJ5_append_cf1ce_0 : decode cJ5_append_cf1ce 0 = .ok (.aload_n 1, 1) := by decide +kernel
theorem dJ5_append_cf1ce_1 : decode cJ5_append_cf1ce 1 = .ok (.ifnonnull 8, 3) := by decide +kernel
theorem dJ5_append_cf1ce_4 : decode cJ5_append_cf1ce 4 = .ok (.aload_n 0, 1) := by decide +kernel
theorem dJ5_append_cf1ce_5 : decode cJ5_append_cf1ce 5 = .ok (.invokevirtual 204, 3) := by decide +kernel
theorem dJ5_append_cf1ce_8 : decode cJ5_append_cf1ce 8 = .ok (.areturn, 1) := by decide +kernel
theorem dJ5_append_cf1ce_9 : decode cJ5_append_cf1ce 9 = .ok (.aload_n 1, 1) := by decide +kernel
theorem dJ5_append_cf1ce_10 : decode cJ5_append_cf1ce 10 = .ok (.invokevirtual 32, 3) := by decide +kernel
theorem dJ5_append_cf1ce_13 : decode cJ5_append_cf1ce 13 = .ok (.istore_n 2, 1) := by decide +kernel
theorem dJ5_append_cf1ce_14 : decode cJ5_append_cf1ce 14 = .ok (.aload_n 0, 1) := by decide +kernel
theorem dJ5_append_cf1ce_15 : decode cJ5_append_cf1ce 15 = .ok (.aload_n 0, 1) := by decide +kernel
theorem dJ5_append_cf1ce_16 : decode cJ5_append_cf1ce 16 = .ok (.getfield 79, 3) := by decide +kernel
theorem dJ5_append_cf1ce_19 : decode cJ5_append_cf1ce 19 = .ok (.iload_n 2, 1) := by decide +kernel
theorem dJ5_append_cf1ce_20 : decode cJ5_append_cf1ce 20 = .ok (.iadd, 1) := by decide +kernel
theorem dJ5_append_cf1ce_21 : decode cJ5_append_cf1ce 21 = .ok (.invokevirtual 100, 3) := by decide +kernel
theorem dJ5_append_cf1ce_24 : decode cJ5_append_cf1ce 24 = .ok (.aload_n 0, 1) := by decide +kernel
theorem dJ5_append_cf1ce_25 : decode cJ5_append_cf1ce 25 = .ok (.aload_n 0, 1) := by decide +kernel
theorem dJ5_append_cf1ce_26 : decode cJ5_append_cf1ce 26 = .ok (.getfield 79, 3) := by decide +kernel
theorem dJ5_append_cf1ce_29 : decode cJ5_append_cf1ce 29 = .ok (.aload_n 1, 1) := by decide +kernel
theorem dJ5_append_cf1ce_30 : decode cJ5_append_cf1ce 30 = .ok (.invokevirtual 208, 3) := by decide +kernel
theorem dJ5_append_cf1ce_33 : decode cJ5_append_cf1ce 33 = .ok (.aload_n 0, 1) := by decide +kernel
theorem dJ5_append_cf1ce_34 : decode cJ5_append_cf1ce 34 = .ok (.dup, 1) := by decide +kernel
theorem dJ5_append_cf1ce_35 : decode cJ5_append_cf1ce 35 = .ok (.getfield 79, 3) := by decide +kernel
theorem dJ5_append_cf1ce_38 : decode cJ5_append_cf1ce 38 = .ok (.iload_n 2, 1) := by decide +kernel
theorem dJ5_append_cf1ce_39 : decode cJ5_append_cf1ce 39 = .ok (.iadd, 1) := by decide +kernel
theorem dJ5_append_cf1ce_40 : decode cJ5_append_cf1ce 40 = .ok (.putfield 79, 3) := by decide +kernel
theorem dJ5_append_cf1ce_43 : decode cJ5_append_cf1ce 43 = .ok (.aload_n 0, 1) := by decide +kernel
theorem dJ5_append_cf1ce_44 : decode cJ5_append_cf1ce 44 = .ok (.areturn, 1) := by decide +kernel
theorem dJ5_appendNull_278bc_0 : decode cJ5_appendNull_278bc 0 = .ok (.aload_n 0, 1) := by decide +kernel
theorem dJ5_appendNull_278bc_1 : decode cJ5_appendNull_278bc 1 = .ok (.aload_n 0, 1) := by decide +kernel
theorem dJ5_appendNull_278bc_2 : decode cJ5_appendNull_278bc 2 = .ok (.getfield 79, 3) := by decide +kernel
theorem dJ5_appendNull_278bc_5 : decode cJ5_appendNull_278bc 5 = .ok (.iconst 4, 1) := by decide +kernel
theorem dJ5_appendNull_278bc_6 : decode cJ5_appendNull_278bc 6 = .ok (.iadd, 1) := by decide +kernel
theorem dJ5_appendNull_278bc_7 : decode cJ5_appendNull_278bc 7 = .ok (.invokevirtual 100, 3) := by decide +kernel
theorem dJ5_appendNull_278bc_10 : decode cJ5_appendNull_278bc 10 = .ok (.aload_n 0, 1) := by decide +kernel
theorem dJ5_appendNull_278bc_11 : decode cJ5_appendNull_278bc 11 = .ok (.getfield 79, 3) := by decide +kernel
theorem dJ5_appendNull_278bc_14 : decode cJ5_appendNull_278bc 14 = .ok (.istore_n 1, 1) := by decide +kernel
theorem dJ5_appendNull_278bc_15 : decode cJ5_appendNull_278bc 15 = .ok (.aload_n 0, 1) := by decide +kernel
theorem dJ5_appendNull_278bc_16 : decode cJ5_appendNull_278bc 16 = .ok (.getfield 15, 3) := by decide +kernel
theorem dJ5_appendNull_278bc_19 : decode cJ5_appendNull_278bc 19 = .ok (.astore_n 2, 1) := by decide +kernel
theorem dJ5_appendNull_278bc_20 : decode cJ5_appendNull_278bc 20 = .ok (.aload_n 0, 1) := by decide +kernel
theorem dJ5_appendNull_278bc_21 : decode cJ5_appendNull_278bc 21 = .ok (.invokevirtual 83, 3) := by decide +kernel
theorem dJ5_appendNull_278bc_24 : decode cJ5_appendNull_278bc 24 = .ok (.ifCond .eq 38, 3) := by decide +kernel
theorem dJ5_appendNull_278bc_27 : decode cJ5_appendNull_278bc 27 = .ok (.aload_n 2, 1) := by decide +kernel
theorem dJ5_appendNull_278bc_28 : decode cJ5_appendNull_278bc 28 = .ok (.iload_n 1, 1) := by decide +kernel
theorem dJ5_appendNull_278bc_29 : decode cJ5_appendNull_278bc 29 = .ok (.iinc 1 1, 3) := by decide +kernel
theorem dJ5_appendNull_278bc_32 : decode cJ5_appendNull_278bc 32 = .ok (.bipush 110, 2) := by decide +kernel
theorem dJ5_appendNull_278bc_34 : decode cJ5_appendNull_278bc 34 = .ok (.bastore, 1) := by decide +kernel
theorem dJ5_appendNull_278bc_35 : decode cJ5_appendNull_278bc 35 = .ok (.aload_n 2, 1) := by decide +kernel
theorem dJ5_appendNull_278bc_36 : decode cJ5_appendNull_278bc 36 = .ok (.iload_n 1, 1) := by decide +kernel
theorem dJ5_appendNull_278bc_37 : decode cJ5_appendNull_278bc 37 = .ok (.iinc 1 1, 3) := by decide +kernel
theorem dJ5_appendNull_278bc_40 : decode cJ5_appendNull_278bc 40 = .ok (.bipush 117, 2) := by decide +kernel
theorem dJ5_appendNull_278bc_42 : decode cJ5_appendNull_278bc 42 = .ok (.bastore, 1) := by decide +kernel
theorem dJ5_appendNull_278bc_43 : decode cJ5_appendNull_278bc 43 = .ok (.aload_n 2, 1) := by decide +kernel
theorem dJ5_appendNull_278bc_44 : decode cJ5_appendNull_278bc 44 = .ok (.iload_n 1, 1) := by decide +kernel
theorem dJ5_appendNull_278bc_45 : decode cJ5_appendNull_278bc 45 = .ok (.iinc 1 1, 3) := by decide +kernel
theorem dJ5_appendNull_278bc_48 : decode cJ5_appendNull_278bc 48 = .ok (.bipush 108, 2) := by decide +kernel
theorem dJ5_appendNull_278bc_50 : decode cJ5_appendNull_278bc 50 = .ok (.bastore, 1) := by decide +kernel
theorem dJ5_appendNull_278bc_51 : decode cJ5_appendNull_278bc 51 = .ok (.aload_n 2, 1) := by decide +kernel
theorem dJ5_appendNull_278bc_52 : decode cJ5_appendNull_278bc 52 = .ok (.iload_n 1, 1) := by decide +kernel
theorem dJ5_appendNull_278bc_53 : decode cJ5_appendNull_278bc 53 = .ok (.iinc 1 1, 3) := by decide +kernel
theorem dJ5_appendNull_278bc_56 : decode cJ5_appendNull_278bc 56 = .ok (.bipush 108, 2) := by decide +kernel
theorem dJ5_appendNull_278bc_58 : decode cJ5_appendNull_278bc 58 = .ok (.bastore, 1) := by decide +kernel
theorem dJ5_appendNull_278bc_59 : decode cJ5_appendNull_278bc 59 = .ok (.goto 17, 3) := by decide +kernel
theorem dJ5_appendNull_278bc_62 : decode cJ5_appendNull_278bc 62 = .ok (.aload_n 2, 1) := by decide +kernel
theorem dJ5_appendNull_278bc_63 : decode cJ5_appendNull_278bc 63 = .ok (.iload_n 1, 1) := by decide +kernel
theorem dJ5_appendNull_278bc_64 : decode cJ5_appendNull_278bc 64 = .ok (.bipush 110, 2) := by decide +kernel
theorem dJ5_appendNull_278bc_66 : decode cJ5_appendNull_278bc 66 = .ok (.bipush 117, 2) := by decide +kernel
theorem dJ5_appendNull_278bc_68 : decode cJ5_appendNull_278bc 68 = .ok (.bipush 108, 2) := by decide +kernel
theorem dJ5_appendNull_278bc_70 : decode cJ5_appendNull_278bc 70 = .ok (.bipush 108, 2) := by decide +kernel
theorem dJ5_appendNull_278bc_72 : decode cJ5_appendNull_278bc 72 = .ok (.invokestatic 226, 3) := by decide +kernel
theorem dJ5_appendNull_278bc_75 : decode cJ5_appendNull_278bc 75 = .ok (.istore_n 1, 1) := by decide +kernel
theorem dJ5_appendNull_278bc_76 : decode cJ5_appendNull_278bc 76 = .ok (.aload_n 0, 1) := by decide +kernel
theorem dJ5_appendNull_278bc_77 : decode cJ5_appendNull_278bc 77 = .ok (.iload_n 1, 1) := by decide +kernel
theorem dJ5_appendNull_278bc_78 : decode cJ5_appendNull_278bc 78 = .ok (.putfield 79, 3) := by decide +kernel
theorem dJ5_appendNull_278bc_81 : decode cJ5_appendNull_278bc 81 = .ok (.aload_n 0, 1) := by decide +kernel
theorem dJ5_appendNull_278bc_82 : decode cJ5_appendNull_278bc 82 = .ok (.areturn, 1) := by decide +kernel
theorem dJ5_append_3fe6f_0 : decode cJ5_append_3fe6f 0 = .ok (.aload_n 0, 1) := by decide +kernel
theorem dJ5_append_3fe6f_1 : decode cJ5_append_3fe6f 1 = .ok (.aload_n 0, 1) := by decide +kernel
theorem dJ5_append_3fe6f_2 : decode cJ5_append_3fe6f 2 = .ok (.getfield 79, 3) := by decide +kernel
theorem dJ5_append_3fe6f_5 : decode cJ5_append_3fe6f 5 = .ok (.iconst 1, 1) := by decide +kernel
theorem dJ5_append_3fe6f_6 : decode cJ5_append_3fe6f 6 = .ok (.iadd, 1) := by decide +kernel
theorem dJ5_append_3fe6f_7 : decode cJ5_append_3fe6f 7 = .ok (.invokevirtual 100, 3) := by decide +kernel
theorem dJ5_append_3fe6f_10 : decode cJ5_append_3fe6f 10 = .ok (.aload_n 0, 1) := by decide +kernel
theorem dJ5_append_3fe6f_11 : decode cJ5_append_3fe6f 11 = .ok (.invokevirtual 83, 3) := by decide +kernel
theorem dJ5_append_3fe6f_14 : decode cJ5_append_3fe6f 14 = .ok (.ifCond .eq 31, 3) := by decide +kernel
theorem dJ5_append_3fe6f_17 : decode cJ5_append_3fe6f 17 = .ok (.iload_n 1, 1) := by decide +kernel
theorem dJ5_append_3fe6f_18 : decode cJ5_append_3fe6f 18 = .ok (.invokestatic 191, 3) := by decide +kernel
theorem dJ5_append_3fe6f_21 : decode cJ5_append_3fe6f 21 = .ok (.ifCond .eq 24, 3) := by decide +kernel
theorem dJ5_append_3fe6f_24 : decode cJ5_append_3fe6f 24 = .ok (.aload_n 0, 1) := by decide +kernel
theorem dJ5_append_3fe6f_25 : decode cJ5_append_3fe6f 25 = .ok (.getfield 15, 3) := by decide +kernel
theorem dJ5_append_3fe6f_28 : decode cJ5_append_3fe6f 28 = .ok (.aload_n 0, 1) := by decide +kernel
theorem dJ5_append_3fe6f_29 : decode cJ5_append_3fe6f 29 = .ok (.dup, 1) := by decide +kernel
theorem dJ5_append_3fe6f_30 : decode cJ5_append_3fe6f 30 = .ok (.getfield 79, 3) := by decide +kernel
theorem dJ5_append_3fe6f_33 : decode cJ5_append_3fe6f 33 = .ok (.dup_x1, 1) := by decide +kernel
theorem dJ5_append_3fe6f_34 : decode cJ5_append_3fe6f 34 = .ok (.iconst 1, 1) := by decide +kernel
theorem dJ5_append_3fe6f_35 : decode cJ5_append_3fe6f 35 = .ok (.iadd, 1) := by decide +kernel
theorem dJ5_append_3fe6f_36 : decode cJ5_append_3fe6f 36 = .ok (.putfield 79, 3) := by decide +kernel
theorem dJ5_append_3fe6f_39 : decode cJ5_append_3fe6f 39 = .ok (.iload_n 1, 1) := by decide +kernel
theorem dJ5_append_3fe6f_40 : decode cJ5_append_3fe6f 40 = .ok (.i2b, 1) := by decide +kernel
theorem dJ5_append_3fe6f_41 : decode cJ5_append_3fe6f 41 = .ok (.bastore, 1) := by decide +kernel
theorem dJ5_append_3fe6f_42 : decode cJ5_append_3fe6f 42 = .ok (.goto 33, 3) := by decide +kernel
theorem dJ5_append_3fe6f_45 : decode cJ5_append_3fe6f 45 = .ok (.aload_n 0, 1) := by decide +kernel
theorem dJ5_append_3fe6f_46 : decode cJ5_append_3fe6f 46 = .ok (.invokevirtual 83, 3) := by decide +kernel
theorem dJ5_append_3fe6f_49 : decode cJ5_append_3fe6f 49 = .ok (.ifCond .eq 7, 3) := by decide +kernel
theorem dJ5_append_3fe6f_52 : decode cJ5_append_3fe6f 52 = .ok (.aload_n 0, 1) := by decide +kernel
theorem dJ5_append_3fe6f_53 : decode cJ5_append_3fe6f 53 = .ok (.invokevirtual 195, 3) := by decide +kernel
theorem dJ5_append_3fe6f_56 : decode cJ5_append_3fe6f 56 = .ok (.aload_n 0, 1) := by decide +kernel
theorem dJ5_append_3fe6f_57 : decode cJ5_append_3fe6f 57 = .ok (.getfield 15, 3) := by decide +kernel
theorem dJ5_append_3fe6f_60 : decode cJ5_append_3fe6f 60 = .ok (.aload_n 0, 1) := by decide +kernel
theorem dJ5_append_3fe6f_61 : decode cJ5_append_3fe6f 61 = .ok (.dup, 1) := by decide +kernel
theorem dJ5_append_3fe6f_62 : decode cJ5_append_3fe6f 62 = .ok (.getfield 79, 3) := by decide +kernel
theorem dJ5_append_3fe6f_65 : decode cJ5_append_3fe6f 65 = .ok (.dup_x1, 1) := by decide +kernel
theorem dJ5_append_3fe6f_66 : decode cJ5_append_3fe6f 66 = .ok (.iconst 1, 1) := by decide +kernel
theorem dJ5_append_3fe6f_67 : decode cJ5_append_3fe6f 67 = .ok (.iadd, 1) := by decide +kernel
theorem dJ5_append_3fe6f_68 : decode cJ5_append_3fe6f 68 = .ok (.putfield 79, 3) := by decide +kernel
theorem dJ5_append_3fe6f_71 : decode cJ5_append_3fe6f 71 = .ok (.iload_n 1, 1) := by decide +kernel
theorem dJ5_append_3fe6f_72 : decode cJ5_append_3fe6f 72 = .ok (.invokestatic 197, 3) := by decide +kernel
theorem dJ5_append_3fe6f_75 : decode cJ5_append_3fe6f 75 = .ok (.aload_n 0, 1) := by decide +kernel
theorem dJ5_append_3fe6f_76 : decode cJ5_append_3fe6f 76 = .ok (.areturn, 1) := by decide +kernel
theorem dJ5_append_c97b9_0 : decode cJ5_append_c97b9 0 = .ok (.aload_n 0, 1) := by decide +kernel
theorem dJ5_append_c97b9_1 : decode cJ5_append_c97b9 1 = .ok (.getfield 79, 3) := by decide +kernel
theorem dJ5_append_c97b9_4 : decode cJ5_append_c97b9 4 = .ok (.istore_n 2, 1) := by decide +kernel
theorem dJ5_append_c97b9_5 : decode cJ5_append_c97b9 5 = .ok (.iload_n 2, 1) := by decide +kernel
theorem dJ5_append_c97b9_6 : decode cJ5_append_c97b9 6 = .ok (.iload_n 1, 1) := by decide +kernel
theorem dJ5_append_c97b9_7 : decode cJ5_append_c97b9 7 = .ok (.invokestatic 245, 3) := by decide +kernel
theorem dJ5_append_c97b9_10 : decode cJ5_append_c97b9 10 = .ok (.iadd, 1) := by decide +kernel
theorem dJ5_append_c97b9_11 : decode cJ5_append_c97b9 11 = .ok (.istore_n 3, 1) := by decide +kernel
theorem dJ5_append_c97b9_12 : decode cJ5_append_c97b9 12 = .ok (.aload_n 0, 1) := by decide +kernel
theorem dJ5_append_c97b9_13 : decode cJ5_append_c97b9 13 = .ok (.iload_n 3, 1) := by decide +kernel
theorem dJ5_append_c97b9_14 : decode cJ5_append_c97b9 14 = .ok (.invokevirtual 100, 3) := by decide +kernel
theorem dJ5_append_c97b9_17 : decode cJ5_append_c97b9 17 = .ok (.aload_n 0, 1) := by decide +kernel
theorem dJ5_append_c97b9_18 : decode cJ5_append_c97b9 18 = .ok (.invokevirtual 83, 3) := by decide +kernel
theorem dJ5_append_c97b9_21 : decode cJ5_append_c97b9 21 = .ok (.ifCond .eq 16, 3) := by decide +kernel
theorem dJ5_append_c97b9_24 : decode cJ5_append_c97b9 24 = .ok (.iload_n 1, 1) := by decide +kernel
theorem dJ5_append_c97b9_25 : decode cJ5_append_c97b9 25 = .ok (.iload_n 3, 1) := by decide +kernel
theorem dJ5_append_c97b9_26 : decode cJ5_append_c97b9 26 = .ok (.aload_n 0, 1) := by decide +kernel
theorem dJ5_append_c97b9_27 : decode cJ5_append_c97b9 27 = .ok (.getfield 15, 3) := by decide +kernel
theorem dJ5_append_c97b9_30 : decode cJ5_append_c97b9 30 = .ok (.invokestatic 248, 3) := by decide +kernel
theorem dJ5_append_c97b9_33 : decode cJ5_append_c97b9 33 = .ok (.pop, 1) := by decide +kernel
theorem dJ5_append_c97b9_34 : decode cJ5_append_c97b9 34 = .ok (.goto 14, 3) := by decide +kernel
theorem dJ5_append_c97b9_37 : decode cJ5_append_c97b9 37 = .ok (.iload_n 1, 1) := by decide +kernel
theorem dJ5_append_c97b9_38 : decode cJ5_append_c97b9 38 = .ok (.iload_n 2, 1) := by decide +kernel
theorem dJ5_append_c97b9_39 : decode cJ5_append_c97b9 39 = .ok (.iload_n 3, 1) := by decide +kernel
theorem dJ5_append_c97b9_40 : decode cJ5_append_c97b9 40 = .ok (.aload_n 0, 1) := by decide +kernel
theorem dJ5_append_c97b9_41 : decode cJ5_append_c97b9 41 = .ok (.getfield 15, 3) := by decide +kernel
theorem dJ5_append_c97b9_44 : decode cJ5_append_c97b9 44 = .ok (.invokestatic 251, 3) := by decide +kernel
theorem dJ5_append_c97b9_47 : decode cJ5_append_c97b9 47 = .ok (.pop, 1) := by decide +kernel
theorem dJ5_append_c97b9_48 : decode cJ5_append_c97b9 48 = .ok (.aload_n 0, 1) := by decide +kernel
theorem dJ5_append_c97b9_49 : decode cJ5_append_c97b9 49 = .ok (.iload_n 3, 1) := by decide +kernel
theorem dJ5_append_c97b9_50 : decode cJ5_append_c97b9 50 = .ok (.putfield 79, 3) := by decide +kernel
theorem dJ5_append_c97b9_53 : decode cJ5_append_c97b9 53 = .ok (.aload_n 0, 1) := by decide +kernel
theorem dJ5_append_c97b9_54 : decode cJ5_append_c97b9 54 = .ok (.areturn, 1) := by decide +kernel
theorem dJ5_getValue_6d5f1_0 : decode cJ5_getValue_6d5f1 0 = .ok (.aload_n 0, 1) := by decide +kernel
theorem dJ5_getValue_6d5f1_1 : decode cJ5_getValue_6d5f1 1 = .ok (.getfield 15, 3) := by decide +kernel
theorem dJ5_getValue_6d5f1_4 : decode cJ5_getValue_6d5f1 4 = .ok (.areturn, 1) := by decide +kernel
theorem dJ5_isLatin1_aae02_0 : decode cJ5_isLatin1_aae02 0 = .ok (.getstatic 18, 3) := by decide +kernel
theorem dJ5_isLatin1_aae02_3 : decode cJ5_isLatin1_aae02 3 = .ok (.ifCond .eq 14, 3) := by decide +kernel
theorem dJ5_isLatin1_aae02_6 : decode cJ5_isLatin1_aae02 6 = .ok (.aload_n 0, 1) := by decide +kernel
theorem dJ5_isLatin1_aae02_7 : decode cJ5_isLatin1_aae02 7 = .ok (.getfield 22, 3) := by decide +kernel
theorem dJ5_isLatin1_aae02_10 : decode cJ5_isLatin1_aae02 10 = .ok (.ifCond .ne 7, 3) := by decide +kernel
theorem dJ5_isLatin1_aae02_13 : decode cJ5_isLatin1_aae02 13 = .ok (.iconst 1, 1) := by decide +kernel
theorem dJ5_isLatin1_aae02_14 : decode cJ5_isLatin1_aae02 14 = .ok (.goto 4, 3) := by decide +kernel
theorem dJ5_isLatin1_aae02_17 : decode cJ5_isLatin1_aae02 17 = .ok (.iconst 0, 1) := by decide +kernel
theorem dJ5_isLatin1_aae02_18 : decode cJ5_isLatin1_aae02 18 = .ok (.ireturn, 1) := by decide +kernel
theorem dJ5_inflateIfNeededFor_a7421_0 : decode cJ5_inflateIfNeededFor_a7421 0 = .ok (.getstatic 18, 3) := by decide +kernel
theorem dJ5_inflateIfNeededFor_a7421_3 : decode cJ5_inflateIfNeededFor_a7421 3 = .ok (.ifCond .eq 18, 3) := by decide +kernel
theorem dJ5_inflateIfNeededFor_a7421_6 : decode cJ5_inflateIfNeededFor_a7421 6 = .ok (.aload_n 0, 1) := by decide +kernel
theorem dJ5_inflateIfNeededFor_a7421_7 : decode cJ5_inflateIfNeededFor_a7421 7 = .ok (.getfield 22, 3) := by decide +kernel
theorem dJ5_inflateIfNeededFor_a7421_10 : decode cJ5_inflateIfNeededFor_a7421 10 = .ok (.aload_n 1, 1) := by decide +kernel
theorem dJ5_inflateIfNeededFor_a7421_11 : decode cJ5_inflateIfNeededFor_a7421 11 = .ok (.invokevirtual 40, 3) := by decide +kernel
theorem dJ5_inflateIfNeededFor_a7421_14 : decode cJ5_inflateIfNeededFor_a7421 14 = .ok (.if_icmp .eq 7, 3) := by decide +kernel
theorem dJ5_inflateIfNeededFor_a7421_17 : decode cJ5_inflateIfNeededFor_a7421 17 = .ok (.aload_n 0, 1) := by decide +kernel
theorem dJ5_inflateIfNeededFor_a7421_18 : decode cJ5_inflateIfNeededFor_a7421 18 = .ok (.invokevirtual 195, 3) := by decide +kernel
theorem dJ5_inflateIfNeededFor_a7421_21 : decode cJ5_inflateIfNeededFor_a7421 21 = .ok (.return_, 1) := by decide +kernel
theorem dJ5_putStringAt_47b60_0 : decode cJ5_putStringAt_47b60 0 = .ok (.aload_n 0, 1) := by decide +kernel
theorem dJ5_putStringAt_47b60_1 : decode cJ5_putStringAt_47b60 1 = .ok (.aload_n 2, 1) := by decide +kernel
theorem dJ5_putStringAt_47b60_2 : decode cJ5_putStringAt_47b60 2 = .ok (.invokevirtual 397, 3) := by decide +kernel
theorem dJ5_putStringAt_47b60_5 : decode cJ5_putStringAt_47b60 5 = .ok (.aload_n 2, 1) := by decide +kernel
theorem dJ5_putStringAt_47b60_6 : decode cJ5_putStringAt_47b60 6 = .ok (.aload_n 0, 1) := by decide +kernel
theorem dJ5_putStringAt_47b60_7 : decode cJ5_putStringAt_47b60 7 = .ok (.getfield 15, 3) := by decide +kernel
theorem dJ5_putStringAt_47b60_10 : decode cJ5_putStringAt_47b60 10 = .ok (.iload_n 1, 1) := by decide +kernel
theorem dJ5_putStringAt_47b60_11 : decode cJ5_putStringAt_47b60 11 = .ok (.aload_n 0, 1) := by decide +kernel
theorem dJ5_putStringAt_47b60_12 : decode cJ5_putStringAt_47b60 12 = .ok (.getfield 22, 3) := by decide +kernel
theorem dJ5_putStringAt_47b60_15 : decode cJ5_putStringAt_47b60 15 = .ok (.invokevirtual 399, 3) := by decide +kernel
theorem dJ5_putStringAt_47b60_18 : decode cJ5_putStringAt_47b60 18 = .ok (.return_, 1) := by decide +kernel
theorem dJx29ce0_ordinal_8abf5_0 : decode cJx29ce0_ordinal_8abf5 0 = .ok (.aload_n 0, 1) := by decide +kernel
theorem dJx29ce0_ordinal_8abf5_1 : decode cJx29ce0_ordinal_8abf5 1 = .ok (.getfield 7, 3) := by decide +kernel
theorem dJx29ce0_ordinal_8abf5_4 : decode cJx29ce0_ordinal_8abf5 4 = .ok (.ireturn, 1) := by decide +kernel
theorem dJ6_getChars_ba4f3_0 : decode cJ6_getChars_ba4f3 0 = .ok (.iload_n 1, 1) := by decide +kernel
theorem dJ6_getChars_ba4f3_1 : decode cJ6_getChars_ba4f3 1 = .ok (.istore 5, 2) := by decide +kernel
theorem dJ6_getChars_ba4f3_3 : decode cJ6_getChars_ba4f3 3 = .ok (.iload_n 0, 1) := by decide +kernel
theorem dJ6_getChars_ba4f3_4 : decode cJ6_getChars_ba4f3 4 = .ok (.ifCond .ge 7, 3) := by decide +kernel
theorem dJ6_getChars_ba4f3_7 : decode cJ6_getChars_ba4f3 7 = .ok (.iconst 1, 1) := by decide +kernel
theorem dJ6_getChars_ba4f3_8 : decode cJ6_getChars_ba4f3 8 = .ok (.goto 4, 3) := by decide +kernel
theorem dJ6_getChars_ba4f3_11 : decode cJ6_getChars_ba4f3 11 = .ok (.iconst 0, 1) := by decide +kernel
theorem dJ6_getChars_ba4f3_12 : decode cJ6_getChars_ba4f3 12 = .ok (.istore 6, 2) := by decide +kernel
theorem dJ6_getChars_ba4f3_14 : decode cJ6_getChars_ba4f3 14 = .ok (.iload 6, 2) := by decide +kernel
theorem dJ6_getChars_ba4f3_16 : decode cJ6_getChars_ba4f3 16 = .ok (.ifCond .ne 6, 3) := by decide +kernel
theorem dJ6_getChars_ba4f3_19 : decode cJ6_getChars_ba4f3 19 = .ok (.iload_n 0, 1) := by decide +kernel
theorem dJ6_getChars_ba4f3_20 : decode cJ6_getChars_ba4f3 20 = .ok (.ineg, 1) := by decide +kernel
theorem dJ6_getChars_ba4f3_21 : decode cJ6_getChars_ba4f3 21 = .ok (.istore_n 0, 1) := by decide +kernel
theorem dJ6_getChars_ba4f3_22 : decode cJ6_getChars_ba4f3 22 = .ok (.iload_n 0, 1) := by decide +kernel
theorem dJ6_getChars_ba4f3_23 : decode cJ6_getChars_ba4f3 23 = .ok (.bipush (-100), 2) := by decide +kernel
theorem dJ6_getChars_ba4f3_25 : decode cJ6_getChars_ba4f3 25 = .ok (.if_icmp .gt 47, 3) := by decide +kernel
theorem dJ6_getChars_ba4f3_28 : decode cJ6_getChars_ba4f3 28 = .ok (.iload_n 0, 1) := by decide +kernel
theorem dJ6_getChars_ba4f3_29 : decode cJ6_getChars_ba4f3 29 = .ok (.bipush 100, 2) := by decide +kernel
theorem dJ6_getChars_ba4f3_31 : decode cJ6_getChars_ba4f3 31 = .ok (.idiv, 1) := by decide +kernel
theorem dJ6_getChars_ba4f3_32 : decode cJ6_getChars_ba4f3 32 = .ok (.istore_n 3, 1) := by decide +kernel
theorem dJ6_getChars_ba4f3_33 : decode cJ6_getChars_ba4f3 33 = .ok (.iload_n 3, 1) := by decide +kernel
theorem dJ6_getChars_ba4f3_34 : decode cJ6_getChars_ba4f3 34 = .ok (.bipush 100, 2) := by decide +kernel
theorem dJ6_getChars_ba4f3_36 : decode cJ6_getChars_ba4f3 36 = .ok (.imul, 1) := by decide +kernel
theorem dJ6_getChars_ba4f3_37 : decode cJ6_getChars_ba4f3 37 = .ok (.iload_n 0, 1) := by decide +kernel
theorem dJ6_getChars_ba4f3_38 : decode cJ6_getChars_ba4f3 38 = .ok (.isub, 1) := by decide +kernel
theorem dJ6_getChars_ba4f3_39 : decode cJ6_getChars_ba4f3 39 = .ok (.istore 4, 2) := by decide +kernel
theorem dJ6_getChars_ba4f3_41 : decode cJ6_getChars_ba4f3 41 = .ok (.iload_n 3, 1) := by decide +kernel
theorem dJ6_getChars_ba4f3_42 : decode cJ6_getChars_ba4f3 42 = .ok (.istore_n 0, 1) := by decide +kernel
theorem dJ6_getChars_ba4f3_43 : decode cJ6_getChars_ba4f3 43 = .ok (.aload_n 2, 1) := by decide +kernel
theorem dJ6_getChars_ba4f3_44 : decode cJ6_getChars_ba4f3 44 = .ok (.iinc 5 (-1), 3) := by decide +kernel
theorem dJ6_getChars_ba4f3_47 : decode cJ6_getChars_ba4f3 47 = .ok (.iload 5, 2) := by decide +kernel
theorem dJ6_getChars_ba4f3_49 : decode cJ6_getChars_ba4f3 49 = .ok (.getstatic 83, 3) := by decide +kernel
theorem dJ6_getChars_ba4f3_52 : decode cJ6_getChars_ba4f3 52 = .ok (.iload 4, 2) := by decide +kernel
theorem dJ6_getChars_ba4f3_54 : decode cJ6_getChars_ba4f3 54 = .ok (.baload, 1) := by decide +kernel
theorem dJ6_getChars_ba4f3_55 : decode cJ6_getChars_ba4f3 55 = .ok (.bastore, 1) := by decide +kernel
theorem dJ6_getChars_ba4f3_56 : decode cJ6_getChars_ba4f3 56 = .ok (.aload_n 2, 1) := by decide +kernel
theorem dJ6_getChars_ba4f3_57 : decode cJ6_getChars_ba4f3 57 = .ok (.iinc 5 (-1), 3) := by decide +kernel
theorem dJ6_getChars_ba4f3_60 : decode cJ6_getChars_ba4f3 60 = .ok (.iload 5, 2) := by decide +kernel
theorem dJ6_getChars_ba4f3_62 : decode cJ6_getChars_ba4f3 62 = .ok (.getstatic 87, 3) := by decide +kernel
theorem dJ6_getChars_ba4f3_65 : decode cJ6_getChars_ba4f3 65 = .ok (.iload 4, 2) := by decide +kernel
theorem dJ6_getChars_ba4f3_67 : decode cJ6_getChars_ba4f3 67 = .ok (.baload, 1) := by decide +kernel
theorem dJ6_getChars_ba4f3_68 : decode cJ6_getChars_ba4f3 68 = .ok (.bastore, 1) := by decide +kernel
theorem dJ6_getChars_ba4f3_69 : decode cJ6_getChars_ba4f3 69 = .ok (.goto (-47), 3) := by decide +kernel
theorem dJ6_getChars_ba4f3_72 : decode cJ6_getChars_ba4f3 72 = .ok (.aload_n 2, 1) := by decide +kernel
theorem dJ6_getChars_ba4f3_73 : decode cJ6_getChars_ba4f3 73 = .ok (.iinc 5 (-1), 3) := by decide +kernel
theorem dJ6_getChars_ba4f3_76 : decode cJ6_getChars_ba4f3 76 = .ok (.iload 5, 2) := by decide +kernel
theorem dJ6_getChars_ba4f3_78 : decode cJ6_getChars_ba4f3 78 = .ok (.getstatic 83, 3) := by decide +kernel
theorem dJ6_getChars_ba4f3_81 : decode cJ6_getChars_ba4f3 81 = .ok (.iload_n 0, 1) := by decide +kernel
theorem dJ6_getChars_ba4f3_82 : decode cJ6_getChars_ba4f3 82 = .ok (.ineg, 1) := by decide +kernel
theorem dJ6_getChars_ba4f3_83 : decode cJ6_getChars_ba4f3 83 = .ok (.baload, 1) := by decide +kernel
theorem dJ6_getChars_ba4f3_84 : decode cJ6_getChars_ba4f3 84 = .ok (.bastore, 1) := by decide +kernel
theorem dJ6_getChars_ba4f3_85 : decode cJ6_getChars_ba4f3 85 = .ok (.iload_n 0, 1) := by decide +kernel
theorem dJ6_getChars_ba4f3_86 : decode cJ6_getChars_ba4f3 86 = .ok (.bipush (-9), 2) := by decide +kernel
theorem dJ6_getChars_ba4f3_88 : decode cJ6_getChars_ba4f3 88 = .ok (.if_icmp .ge 16, 3) := by decide +kernel
theorem dJ6_getChars_ba4f3_91 : decode cJ6_getChars_ba4f3 91 = .ok (.aload_n 2, 1) := by decide +kernel
theorem dJ6_getChars_ba4f3_92 : decode cJ6_getChars_ba4f3 92 = .ok (.iinc 5 (-1), 3) := by decide +kernel
theorem dJ6_getChars_ba4f3_95 : decode cJ6_getChars_ba4f3 95 = .ok (.iload 5, 2) := by decide +kernel
theorem dJ6_getChars_ba4f3_97 : decode cJ6_getChars_ba4f3 97 = .ok (.getstatic 87, 3) := by decide +kernel
theorem dJ6_getChars_ba4f3_100 : decode cJ6_getChars_ba4f3 100 = .ok (.iload_n 0, 1) := by decide +kernel
theorem dJ6_getChars_ba4f3_101 : decode cJ6_getChars_ba4f3 101 = .ok (.ineg, 1) := by decide +kernel
theorem dJ6_getChars_ba4f3_102 : decode cJ6_getChars_ba4f3 102 = .ok (.baload, 1) := by decide +kernel
theorem dJ6_getChars_ba4f3_103 : decode cJ6_getChars_ba4f3 103 = .ok (.bastore, 1) := by decide +kernel
theorem dJ6_getChars_ba4f3_104 : decode cJ6_getChars_ba4f3 104 = .ok (.iload 6, 2) := by decide +kernel
theorem dJ6_getChars_ba4f3_106 : decode cJ6_getChars_ba4f3 106 = .ok (.ifCond .eq 12, 3) := by decide +kernel
theorem dJ6_getChars_ba4f3_109 : decode cJ6_getChars_ba4f3 109 = .ok (.aload_n 2, 1) := by decide +kernel
theorem dJ6_getChars_ba4f3_110 : decode cJ6_getChars_ba4f3 110 = .ok (.iinc 5 (-1), 3) := by decide +kernel
theorem dJ6_getChars_ba4f3_113 : decode cJ6_getChars_ba4f3 113 = .ok (.iload 5, 2) := by decide +kernel
theorem dJ6_getChars_ba4f3_115 : decode cJ6_getChars_ba4f3 115 = .ok (.bipush 45, 2) := by decide +kernel
theorem dJ6_getChars_ba4f3_117 : decode cJ6_getChars_ba4f3 117 = .ok (.bastore, 1) := by decide +kernel
theorem dJ6_getChars_ba4f3_118 : decode cJ6_getChars_ba4f3 118 = .ok (.iload 5, 2) := by decide +kernel
theorem dJ6_getChars_ba4f3_120 : decode cJ6_getChars_ba4f3 120 = .ok (.ireturn, 1) := by decide +kernel
theorem dJ6_stringSize_0f7a4_0 : decode cJ6_stringSize_0f7a4 0 = .ok (.iconst 1, 1) := by decide +kernel
theorem dJ6_stringSize_0f7a4_1 : decode cJ6_stringSize_0f7a4 1 = .ok (.istore_n 1, 1) := by decide +kernel
theorem dJ6_stringSize_0f7a4_2 : decode cJ6_stringSize_0f7a4 2 = .ok (.iload_n 0, 1) := by decide +kernel
theorem dJ6_stringSize_0f7a4_3 : decode cJ6_stringSize_0f7a4 3 = .ok (.ifCond .lt 8, 3) := by decide +kernel
theorem dJ6_stringSize_0f7a4_6 : decode cJ6_stringSize_0f7a4 6 = .ok (.iconst 0, 1) := by decide +kernel
theorem dJ6_stringSize_0f7a4_7 : decode cJ6_stringSize_0f7a4 7 = .ok (.istore_n 1, 1) := by decide +kernel
theorem dJ6_stringSize_0f7a4_8 : decode cJ6_stringSize_0f7a4 8 = .ok (.iload_n 0, 1) := by decide +kernel
theorem dJ6_stringSize_0f7a4_9 : decode cJ6_stringSize_0f7a4 9 = .ok (.ineg, 1) := by decide +kernel
theorem dJ6_stringSize_0f7a4_10 : decode cJ6_stringSize_0f7a4 10 = .ok (.istore_n 0, 1) := by decide +kernel
theorem dJ6_stringSize_0f7a4_11 : decode cJ6_stringSize_0f7a4 11 = .ok (.bipush (-10), 2) := by decide +kernel
theorem dJ6_stringSize_0f7a4_13 : decode cJ6_stringSize_0f7a4 13 = .ok (.istore_n 2, 1) := by decide +kernel
theorem dJ6_stringSize_0f7a4_14 : decode cJ6_stringSize_0f7a4 14 = .ok (.iconst 1, 1) := by decide +kernel
theorem dJ6_stringSize_0f7a4_15 : decode cJ6_stringSize_0f7a4 15 = .ok (.istore_n 3, 1) := by decide +kernel
theorem dJ6_stringSize_0f7a4_16 : decode cJ6_stringSize_0f7a4 16 = .ok (.iload_n 3, 1) := by decide +kernel
theorem dJ6_stringSize_0f7a4_17 : decode cJ6_stringSize_0f7a4 17 = .ok (.bipush 10, 2) := by decide +kernel
theorem dJ6_stringSize_0f7a4_19 : decode cJ6_stringSize_0f7a4 19 = .ok (.if_icmp .ge 23, 3) := by decide +kernel
theorem dJ6_stringSize_0f7a4_22 : decode cJ6_stringSize_0f7a4 22 = .ok (.iload_n 0, 1) := by decide +kernel
theorem dJ6_stringSize_0f7a4_23 : decode cJ6_stringSize_0f7a4 23 = .ok (.iload_n 2, 1) := by decide +kernel
theorem dJ6_stringSize_0f7a4_24 : decode cJ6_stringSize_0f7a4 24 = .ok (.if_icmp .le 7, 3) := by decide +kernel
theorem dJ6_stringSize_0f7a4_27 : decode cJ6_stringSize_0f7a4 27 = .ok (.iload_n 3, 1) := by decide +kernel
theorem dJ6_stringSize_0f7a4_28 : decode cJ6_stringSize_0f7a4 28 = .ok (.iload_n 1, 1) := by decide +kernel
theorem dJ6_stringSize_0f7a4_29 : decode cJ6_stringSize_0f7a4 29 = .ok (.iadd, 1) := by decide +kernel
theorem dJ6_stringSize_0f7a4_30 : decode cJ6_stringSize_0f7a4 30 = .ok (.ireturn, 1) := by decide +kernel
theorem dJ6_stringSize_0f7a4_31 : decode cJ6_stringSize_0f7a4 31 = .ok (.bipush 10, 2) := by decide +kernel
theorem dJ6_stringSize_0f7a4_33 : decode cJ6_stringSize_0f7a4 33 = .ok (.iload_n 2, 1) := by decide +kernel
theorem dJ6_stringSize_0f7a4_34 : decode cJ6_stringSize_0f7a4 34 = .ok (.imul, 1) := by decide +kernel
theorem dJ6_stringSize_0f7a4_35 : decode cJ6_stringSize_0f7a4 35 = .ok (.istore_n 2, 1) := by decide +kernel
theorem dJ6_stringSize_0f7a4_36 : decode cJ6_stringSize_0f7a4 36 = .ok (.iinc 3 1, 3) := by decide +kernel
theorem dJ6_stringSize_0f7a4_39 : decode cJ6_stringSize_0f7a4 39 = .ok (.goto (-23), 3) := by decide +kernel
theorem dJ6_stringSize_0f7a4_42 : decode cJ6_stringSize_0f7a4 42 = .ok (.bipush 10, 2) := by decide +kernel
theorem dJ6_stringSize_0f7a4_44 : decode cJ6_stringSize_0f7a4 44 = .ok (.iload_n 1, 1) := by decide +kernel
theorem dJ6_stringSize_0f7a4_45 : decode cJ6_stringSize_0f7a4 45 = .ok (.iadd, 1) := by decide +kernel
theorem dJ6_stringSize_0f7a4_46 : decode cJ6_stringSize_0f7a4 46 = .ok (.ireturn, 1) := by decide +kernel
theorem dJ6_bitCount_0f7a4_0 : decode cJ6_bitCount_0f7a4 0 = .ok (.iload_n 0, 1) := by decide +kernel
theorem dJ6_bitCount_0f7a4_1 : decode cJ6_bitCount_0f7a4 1 = .ok (.iload_n 0, 1) := by decide +kernel
theorem dJ6_bitCount_0f7a4_2 : decode cJ6_bitCount_0f7a4 2 = .ok (.iconst 1, 1) := by decide +kernel
theorem dJ6_bitCount_0f7a4_3 : decode cJ6_bitCount_0f7a4 3 = .ok (.iushr, 1) := by decide +kernel
theorem dJ6_bitCount_0f7a4_4 : decode cJ6_bitCount_0f7a4 4 = .ok (.ldc_w 265, 3) := by decide +kernel
theorem dJ6_bitCount_0f7a4_7 : decode cJ6_bitCount_0f7a4 7 = .ok (.iand, 1) := by decide +kernel
theorem dJ6_bitCount_0f7a4_8 : decode cJ6_bitCount_0f7a4 8 = .ok (.isub, 1) := by decide +kernel
theorem dJ6_bitCount_0f7a4_9 : decode cJ6_bitCount_0f7a4 9 = .ok (.istore_n 0, 1) := by decide +kernel
theorem dJ6_bitCount_0f7a4_10 : decode cJ6_bitCount_0f7a4 10 = .ok (.iload_n 0, 1) := by decide +kernel
theorem dJ6_bitCount_0f7a4_11 : decode cJ6_bitCount_0f7a4 11 = .ok (.ldc_w 266, 3) := by decide +kernel
theorem dJ6_bitCount_0f7a4_14 : decode cJ6_bitCount_0f7a4 14 = .ok (.iand, 1) := by decide +kernel
theorem dJ6_bitCount_0f7a4_15 : decode cJ6_bitCount_0f7a4 15 = .ok (.iload_n 0, 1) := by decide +kernel
theorem dJ6_bitCount_0f7a4_16 : decode cJ6_bitCount_0f7a4 16 = .ok (.iconst 2, 1) := by decide +kernel
theorem dJ6_bitCount_0f7a4_17 : decode cJ6_bitCount_0f7a4 17 = .ok (.iushr, 1) := by decide +kernel
theorem dJ6_bitCount_0f7a4_18 : decode cJ6_bitCount_0f7a4 18 = .ok (.ldc_w 266, 3) := by decide +kernel
theorem dJ6_bitCount_0f7a4_21 : decode cJ6_bitCount_0f7a4 21 = .ok (.iand, 1) := by decide +kernel
theorem dJ6_bitCount_0f7a4_22 : decode cJ6_bitCount_0f7a4 22 = .ok (.iadd, 1) := by decide +kernel
theorem dJ6_bitCount_0f7a4_23 : decode cJ6_bitCount_0f7a4 23 = .ok (.istore_n 0, 1) := by decide +kernel
theorem dJ6_bitCount_0f7a4_24 : decode cJ6_bitCount_0f7a4 24 = .ok (.iload_n 0, 1) := by decide +kernel
theorem dJ6_bitCount_0f7a4_25 : decode cJ6_bitCount_0f7a4 25 = .ok (.iload_n 0, 1) := by decide +kernel
theorem dJ6_bitCount_0f7a4_26 : decode cJ6_bitCount_0f7a4 26 = .ok (.iconst 4, 1) := by decide +kernel
theorem dJ6_bitCount_0f7a4_27 : decode cJ6_bitCount_0f7a4 27 = .ok (.iushr, 1) := by decide +kernel
theorem dJ6_bitCount_0f7a4_28 : decode cJ6_bitCount_0f7a4 28 = .ok (.iadd, 1) := by decide +kernel
theorem dJ6_bitCount_0f7a4_29 : decode cJ6_bitCount_0f7a4 29 = .ok (.ldc_w 267, 3) := by decide +kernel
theorem dJ6_bitCount_0f7a4_32 : decode cJ6_bitCount_0f7a4 32 = .ok (.iand, 1) := by decide +kernel
theorem dJ6_bitCount_0f7a4_33 : decode cJ6_bitCount_0f7a4 33 = .ok (.istore_n 0, 1) := by decide +kernel
theorem dJ6_bitCount_0f7a4_34 : decode cJ6_bitCount_0f7a4 34 = .ok (.iload_n 0, 1) := by decide +kernel
theorem dJ6_bitCount_0f7a4_35 : decode cJ6_bitCount_0f7a4 35 = .ok (.iload_n 0, 1) := by decide +kernel
theorem dJ6_bitCount_0f7a4_36 : decode cJ6_bitCount_0f7a4 36 = .ok (.bipush 8, 2) := by decide +kernel
theorem dJ6_bitCount_0f7a4_38 : decode cJ6_bitCount_0f7a4 38 = .ok (.iushr, 1) := by decide +kernel
theorem dJ6_bitCount_0f7a4_39 : decode cJ6_bitCount_0f7a4 39 = .ok (.iadd, 1) := by decide +kernel
theorem dJ6_bitCount_0f7a4_40 : decode cJ6_bitCount_0f7a4 40 = .ok (.istore_n 0, 1) := by decide +kernel
theorem dJ6_bitCount_0f7a4_41 : decode cJ6_bitCount_0f7a4 41 = .ok (.iload_n 0, 1) := by decide +kernel
theorem dJ6_bitCount_0f7a4_42 : decode cJ6_bitCount_0f7a4 42 = .ok (.iload_n 0, 1) := by decide +kernel
theorem dJ6_bitCount_0f7a4_43 : decode cJ6_bitCount_0f7a4 43 = .ok (.bipush 16, 2) := by decide +kernel
theorem dJ6_bitCount_0f7a4_45 : decode cJ6_bitCount_0f7a4 45 = .ok (.iushr, 1) := by decide +kernel
theorem dJ6_bitCount_0f7a4_46 : decode cJ6_bitCount_0f7a4 46 = .ok (.iadd, 1) := by decide +kernel
theorem dJ6_bitCount_0f7a4_47 : decode cJ6_bitCount_0f7a4 47 = .ok (.istore_n 0, 1) := by decide +kernel
theorem dJ6_bitCount_0f7a4_48 : decode cJ6_bitCount_0f7a4 48 = .ok (.iload_n 0, 1) := by decide +kernel
theorem dJ6_bitCount_0f7a4_49 : decode cJ6_bitCount_0f7a4 49 = .ok (.bipush 63, 2) := by decide +kernel
theorem dJ6_bitCount_0f7a4_51 : decode cJ6_bitCount_0f7a4 51 = .ok (.iand, 1) := by decide +kernel
theorem dJ6_bitCount_0f7a4_52 : decode cJ6_bitCount_0f7a4 52 = .ok (.ireturn, 1) := by decide +kernel
theorem dJ9_floorDiv_7cf53_0 : decode cJ9_floorDiv_7cf53 0 = .ok (.iload_n 0, 1) := by decide +kernel
theorem dJ9_floorDiv_7cf53_1 : decode cJ9_floorDiv_7cf53 1 = .ok (.iload_n 1, 1) := by decide +kernel
theorem dJ9_floorDiv_7cf53_2 : decode cJ9_floorDiv_7cf53 2 = .ok (.idiv, 1) := by decide +kernel
theorem dJ9_floorDiv_7cf53_3 : decode cJ9_floorDiv_7cf53 3 = .ok (.istore_n 2, 1) := by decide +kernel
theorem dJ9_floorDiv_7cf53_4 : decode cJ9_floorDiv_7cf53 4 = .ok (.iload_n 0, 1) := by decide +kernel
theorem dJ9_floorDiv_7cf53_5 : decode cJ9_floorDiv_7cf53 5 = .ok (.iload_n 1, 1) := by decide +kernel
theorem dJ9_floorDiv_7cf53_6 : decode cJ9_floorDiv_7cf53 6 = .ok (.ixor, 1) := by decide +kernel
theorem dJ9_floorDiv_7cf53_7 : decode cJ9_floorDiv_7cf53 7 = .ok (.ifCond .ge 14, 3) := by decide +kernel
theorem dJ9_floorDiv_7cf53_10 : decode cJ9_floorDiv_7cf53 10 = .ok (.iload_n 2, 1) := by decide +kernel
theorem dJ9_floorDiv_7cf53_11 : decode cJ9_floorDiv_7cf53 11 = .ok (.iload_n 1, 1) := by decide +kernel
theorem dJ9_floorDiv_7cf53_12 : decode cJ9_floorDiv_7cf53 12 = .ok (.imul, 1) := by decide +kernel
theorem dJ9_floorDiv_7cf53_13 : decode cJ9_floorDiv_7cf53 13 = .ok (.iload_n 0, 1) := by decide +kernel
theorem dJ9_floorDiv_7cf53_14 : decode cJ9_floorDiv_7cf53 14 = .ok (.if_icmp .eq 7, 3) := by decide +kernel
theorem dJ9_floorDiv_7cf53_17 : decode cJ9_floorDiv_7cf53 17 = .ok (.iload_n 2, 1) := by decide +kernel
theorem dJ9_floorDiv_7cf53_18 : decode cJ9_floorDiv_7cf53 18 = .ok (.iconst 1, 1) := by decide +kernel
theorem dJ9_floorDiv_7cf53_19 : decode cJ9_floorDiv_7cf53 19 = .ok (.isub, 1) := by decide +kernel
theorem dJ9_floorDiv_7cf53_20 : decode cJ9_floorDiv_7cf53 20 = .ok (.ireturn, 1) := by decide +kernel
theorem dJ9_floorDiv_7cf53_21 : decode cJ9_floorDiv_7cf53 21 = .ok (.iload_n 2, 1) := by decide +kernel
theorem dJ9_floorDiv_7cf53_22 : decode cJ9_floorDiv_7cf53 22 = .ok (.ireturn, 1) := by decide +kernel
theorem dJ9_abs_0f7a4_0 : decode cJ9_abs_0f7a4 0 = .ok (.iload_n 0, 1) := by decide +kernel
theorem dJ9_abs_0f7a4_1 : decode cJ9_abs_0f7a4 1 = .ok (.ifCond .ge 8, 3) := by decide +kernel
theorem dJ9_abs_0f7a4_4 : decode cJ9_abs_0f7a4 4 = .ok (.iload_n 0, 1) := by decide +kernel
theorem dJ9_abs_0f7a4_5 : decode cJ9_abs_0f7a4 5 = .ok (.ineg, 1) := by decide +kernel
theorem dJ9_abs_0f7a4_6 : decode cJ9_abs_0f7a4 6 = .ok (.goto 4, 3) := by decide +kernel
theorem dJ9_abs_0f7a4_9 : decode cJ9_abs_0f7a4 9 = .ok (.iload_n 0, 1) := by decide +kernel
theorem dJ9_abs_0f7a4_10 : decode cJ9_abs_0f7a4 10 = .ok (.ireturn, 1) := by decide +kernel
theorem dJ9_max_7cf53_0 : decode cJ9_max_7cf53 0 = .ok (.iload_n 0, 1) := by decide +kernel
theorem dJ9_max_7cf53_1 : decode cJ9_max_7cf53 1 = .ok (.iload_n 1, 1) := by decide +kernel
theorem dJ9_max_7cf53_2 : decode cJ9_max_7cf53 2 = .ok (.if_icmp .lt 7, 3) := by decide +kernel
theorem dJ9_max_7cf53_5 : decode cJ9_max_7cf53 5 = .ok (.iload_n 0, 1) := by decide +kernel
theorem dJ9_max_7cf53_6 : decode cJ9_max_7cf53 6 = .ok (.goto 4, 3) := by decide +kernel
theorem dJ9_max_7cf53_9 : decode cJ9_max_7cf53 9 = .ok (.iload_n 1, 1) := by decide +kernel
theorem dJ9_max_7cf53_10 : decode cJ9_max_7cf53 10 = .ok (.ireturn, 1) := by decide +kernel
theorem dJ9_min_7cf53_0 : decode cJ9_min_7cf53 0 = .ok (.iload_n 0, 1) := by decide +kernel
theorem dJ9_min_7cf53_1 : decode cJ9_min_7cf53 1 = .ok (.iload_n 1, 1) := by decide +kernel
theorem dJ9_min_7cf53_2 : decode cJ9_min_7cf53 2 = .ok (.if_icmp .gt 7, 3) := by decide +kernel
theorem dJ9_min_7cf53_5 : decode cJ9_min_7cf53 5 = .ok (.iload_n 0, 1) := by decide +kernel
theorem dJ9_min_7cf53_6 : decode cJ9_min_7cf53 6 = .ok (.goto 4, 3) := by decide +kernel
theorem dJ9_min_7cf53_9 : decode cJ9_min_7cf53 9 = .ok (.iload_n 1, 1) := by decide +kernel
theorem dJ9_min_7cf53_10 : decode cJ9_min_7cf53 10 = .ok (.ireturn, 1) := by decide +kernel
theorem dJ0_init_81219_0 : decode cJ0_init_81219 0 = .ok (.aload_n 0, 1) := by decide +kernel
theorem dJ0_init_81219_1 : decode cJ0_init_81219 1 = .ok (.aload_n 1, 1) := by decide +kernel
theorem dJ0_init_81219_2 : decode cJ0_init_81219 2 = .ok (.aconst_null, 1) := by decide +kernel
theorem dJ0_init_81219_3 : decode cJ0_init_81219 3 = .ok (.invokespecial 489, 3) := by decide +kernel
theorem dJ0_init_81219_6 : decode cJ0_init_81219 6 = .ok (.return_, 1) := by decide +kernel
theorem dJ0_length_8abf5_0 : decode cJ0_length_8abf5 0 = .ok (.aload_n 0, 1) := by decide +kernel
theorem dJ0_length_8abf5_1 : decode cJ0_length_8abf5 1 = .ok (.getfield 9, 3) := by decide +kernel
theorem dJ0_length_8abf5_4 : decode cJ0_length_8abf5 4 = .ok (.arraylength, 1) := by decide +kernel
theorem dJ0_length_8abf5_5 : decode cJ0_length_8abf5 5 = .ok (.aload_n 0, 1) := by decide +kernel
theorem dJ0_length_8abf5_6 : decode cJ0_length_8abf5 6 = .ok (.invokevirtual 335, 3) := by decide +kernel
theorem dJ0_length_8abf5_9 : decode cJ0_length_8abf5 9 = .ok (.ishr, 1) := by decide +kernel
theorem dJ0_length_8abf5_10 : decode cJ0_length_8abf5 10 = .ok (.ireturn, 1) := by decide +kernel
theorem dJ0_charAt_5068e_0 : decode cJ0_charAt_5068e 0 = .ok (.aload_n 0, 1) := by decide +kernel
theorem dJ0_charAt_5068e_1 : decode cJ0_charAt_5068e 1 = .ok (.invokevirtual 492, 3) := by decide +kernel
theorem dJ0_charAt_5068e_4 : decode cJ0_charAt_5068e 4 = .ok (.ifCond .eq 12, 3) := by decide +kernel
theorem dJ0_charAt_5068e_7 : decode cJ0_charAt_5068e 7 = .ok (.aload_n 0, 1) := by decide +kernel
theorem dJ0_charAt_5068e_8 : decode cJ0_charAt_5068e 8 = .ok (.getfield 9, 3) := by decide +kernel
theorem dJ0_charAt_5068e_11 : decode cJ0_charAt_5068e 11 = .ok (.iload_n 1, 1) := by decide +kernel
theorem dJ0_charAt_5068e_12 : decode cJ0_charAt_5068e 12 = .ok (.invokestatic 495, 3) := by decide +kernel
theorem dJ0_charAt_5068e_15 : decode cJ0_charAt_5068e 15 = .ok (.ireturn, 1) := by decide +kernel
theorem dJ0_charAt_5068e_16 : decode cJ0_charAt_5068e 16 = .ok (.aload_n 0, 1) := by decide +kernel
theorem dJ0_charAt_5068e_17 : decode cJ0_charAt_5068e 17 = .ok (.getfield 9, 3) := by decide +kernel
theorem dJ0_charAt_5068e_20 : decode cJ0_charAt_5068e 20 = .ok (.iload_n 1, 1) := by decide +kernel
theorem dJ0_charAt_5068e_21 : decode cJ0_charAt_5068e 21 = .ok (.invokestatic 498, 3) := by decide +kernel
theorem dJ0_charAt_5068e_24 : decode cJ0_charAt_5068e 24 = .ok (.ireturn, 1) := by decide +kernel
theorem dJ0_getBytes_840e7_0 : decode cJ0_getBytes_840e7 0 = .ok (.aload_n 0, 1) := by decide +kernel
theorem dJ0_getBytes_840e7_1 : decode cJ0_getBytes_840e7 1 = .ok (.invokevirtual 335, 3) := by decide +kernel
theorem dJ0_getBytes_840e7_4 : decode cJ0_getBytes_840e7 4 = .ok (.iload_n 3, 1) := by decide +kernel
theorem dJ0_getBytes_840e7_5 : decode cJ0_getBytes_840e7 5 = .ok (.if_icmp .ne 23, 3) := by decide +kernel
theorem dJ0_getBytes_840e7_8 : decode cJ0_getBytes_840e7 8 = .ok (.aload_n 0, 1) := by decide +kernel
theorem dJ0_getBytes_840e7_9 : decode cJ0_getBytes_840e7 9 = .ok (.getfield 9, 3) := by decide +kernel
theorem dJ0_getBytes_840e7_12 : decode cJ0_getBytes_840e7 12 = .ok (.iconst 0, 1) := by decide +kernel
theorem dJ0_getBytes_840e7_13 : decode cJ0_getBytes_840e7 13 = .ok (.aload_n 1, 1) := by decide +kernel
theorem dJ0_getBytes_840e7_14 : decode cJ0_getBytes_840e7 14 = .ok (.iload_n 2, 1) := by decide +kernel
theorem dJ0_getBytes_840e7_15 : decode cJ0_getBytes_840e7 15 = .ok (.iload_n 3, 1) := by decide +kernel
theorem dJ0_getBytes_840e7_16 : decode cJ0_getBytes_840e7 16 = .ok (.ishl, 1) := by decide +kernel
theorem dJ0_getBytes_840e7_17 : decode cJ0_getBytes_840e7 17 = .ok (.aload_n 0, 1) := by decide +kernel
theorem dJ0_getBytes_840e7_18 : decode cJ0_getBytes_840e7 18 = .ok (.getfield 9, 3) := by decide +kernel
theorem dJ0_getBytes_840e7_21 : decode cJ0_getBytes_840e7 21 = .ok (.arraylength, 1) := by decide +kernel
theorem dJ0_getBytes_840e7_22 : decode cJ0_getBytes_840e7 22 = .ok (.invokestatic 212, 3) := by decide +kernel
theorem dJ0_getBytes_840e7_25 : decode cJ0_getBytes_840e7 25 = .ok (.goto 18, 3) := by decide +kernel
theorem dJ0_getBytes_840e7_28 : decode cJ0_getBytes_840e7 28 = .ok (.aload_n 0, 1) := by decide +kernel
theorem dJ0_getBytes_840e7_29 : decode cJ0_getBytes_840e7 29 = .ok (.getfield 9, 3) := by decide +kernel
theorem dJ0_getBytes_840e7_32 : decode cJ0_getBytes_840e7 32 = .ok (.iconst 0, 1) := by decide +kernel
theorem dJ0_getBytes_840e7_33 : decode cJ0_getBytes_840e7 33 = .ok (.aload_n 1, 1) := by decide +kernel
theorem dJ0_getBytes_840e7_34 : decode cJ0_getBytes_840e7 34 = .ok (.iload_n 2, 1) := by decide +kernel
theorem dJ0_getBytes_840e7_35 : decode cJ0_getBytes_840e7 35 = .ok (.aload_n 0, 1) := by decide +kernel
theorem dJ0_getBytes_840e7_36 : decode cJ0_getBytes_840e7 36 = .ok (.getfield 9, 3) := by decide +kernel
theorem dJ0_getBytes_840e7_39 : decode cJ0_getBytes_840e7 39 = .ok (.arraylength, 1) := by decide +kernel
theorem dJ0_getBytes_840e7_40 : decode cJ0_getBytes_840e7 40 = .ok (.invokestatic 106, 3) := by decide +kernel
theorem dJ0_getBytes_840e7_43 : decode cJ0_getBytes_840e7 43 = .ok (.return_, 1) := by decide +kernel
theorem dJ0_init_db425_0 : decode cJ0_init_db425 0 = .ok (.aload_n 0, 1) := by decide +kernel
theorem dJ0_init_db425_1 : decode cJ0_init_db425 1 = .ok (.invokespecial 1, 3) := by decide +kernel
theorem dJ0_init_db425_4 : decode cJ0_init_db425 4 = .ok (.aload_n 1, 1) := by decide +kernel
theorem dJ0_init_db425_5 : decode cJ0_init_db425 5 = .ok (.invokevirtual 552, 3) := by decide +kernel
theorem dJ0_init_db425_8 : decode cJ0_init_db425 8 = .ok (.astore_n 3, 1) := by decide +kernel
theorem dJ0_init_db425_9 : decode cJ0_init_db425 9 = .ok (.aload_n 1, 1) := by decide +kernel
theorem dJ0_init_db425_10 : decode cJ0_init_db425 10 = .ok (.invokevirtual 549, 3) := by decide +kernel
theorem dJ0_init_db425_13 : decode cJ0_init_db425 13 = .ok (.istore 4, 2) := by decide +kernel
theorem dJ0_init_db425_15 : decode cJ0_init_db425 15 = .ok (.aload_n 1, 1) := by decide +kernel
theorem dJ0_init_db425_16 : decode cJ0_init_db425 16 = .ok (.invokevirtual 1047, 3) := by decide +kernel
theorem dJ0_init_db425_19 : decode cJ0_init_db425 19 = .ok (.ifCond .eq 22, 3) := by decide +kernel
theorem dJ0_init_db425_22 : decode cJ0_init_db425 22 = .ok (.aload_n 0, 1) := by decide +kernel
theorem dJ0_init_db425_23 : decode cJ0_init_db425 23 = .ok (.iconst 0, 1) := by decide +kernel
theorem dJ0_init_db425_24 : decode cJ0_init_db425 24 = .ok (.putfield 15, 3) := by decide +kernel
theorem dJ0_init_db425_27 : decode cJ0_init_db425 27 = .ok (.aload_n 0, 1) := by decide +kernel
theorem dJ0_init_db425_28 : decode cJ0_init_db425 28 = .ok (.aload_n 3, 1) := by decide +kernel
theorem dJ0_init_db425_29 : decode cJ0_init_db425 29 = .ok (.iconst 0, 1) := by decide +kernel
theorem dJ0_init_db425_30 : decode cJ0_init_db425 30 = .ok (.iload 4, 2) := by decide +kernel
theorem dJ0_init_db425_32 : decode cJ0_init_db425 32 = .ok (.invokestatic 54, 3) := by decide +kernel
theorem dJ0_init_db425_35 : decode cJ0_init_db425 35 = .ok (.putfield 9, 3) := by decide +kernel
theorem dJ0_init_db425_38 : decode cJ0_init_db425 38 = .ok (.goto 59, 3) := by decide +kernel
theorem dJ0_init_db425_41 : decode cJ0_init_db425 41 = .ok (.getstatic 38, 3) := by decide +kernel
theorem dJ0_init_db425_44 : decode cJ0_init_db425 44 = .ok (.ifCond .eq 35, 3) := by decide +kernel
theorem dJ0_init_db425_47 : decode cJ0_init_db425 47 = .ok (.aload_n 1, 1) := by decide +kernel
theorem dJ0_init_db425_48 : decode cJ0_init_db425 48 = .ok (.getfield 1048, 3) := by decide +kernel
theorem dJ0_init_db425_51 : decode cJ0_init_db425 51 = .ok (.ifCond .eq 28, 3) := by decide +kernel
theorem dJ0_init_db425_54 : decode cJ0_init_db425 54 = .ok (.aload_n 0, 1) := by decide +kernel
theorem dJ0_init_db425_55 : decode cJ0_init_db425 55 = .ok (.aload_n 3, 1) := by decide +kernel
theorem dJ0_init_db425_56 : decode cJ0_init_db425 56 = .ok (.iconst 0, 1) := by decide +kernel
theorem dJ0_init_db425_57 : decode cJ0_init_db425 57 = .ok (.iload 4, 2) := by decide +kernel
theorem dJ0_init_db425_59 : decode cJ0_init_db425 59 = .ok (.invokestatic 1051, 3) := by decide +kernel
theorem dJ0_init_db425_62 : decode cJ0_init_db425 62 = .ok (.putfield 9, 3) := by decide +kernel
theorem dJ0_init_db425_65 : decode cJ0_init_db425 65 = .ok (.aload_n 0, 1) := by decide +kernel
theorem dJ0_init_db425_66 : decode cJ0_init_db425 66 = .ok (.aload_n 0, 1) := by decide +kernel
theorem dJ0_init_db425_67 : decode cJ0_init_db425 67 = .ok (.getfield 9, 3) := by decide +kernel
theorem dJ0_init_db425_70 : decode cJ0_init_db425 70 = .ok (.iload 4, 2) := by decide +kernel
theorem dJ0_init_db425_72 : decode cJ0_init_db425 72 = .ok (.invokestatic 47, 3) := by decide +kernel
theorem dJ0_init_db425_75 : decode cJ0_init_db425 75 = .ok (.putfield 15, 3) := by decide +kernel
theorem dJ0_init_db425_78 : decode cJ0_init_db425 78 = .ok (.return_, 1) := by decide +kernel
theorem dJ0_init_db425_79 : decode cJ0_init_db425 79 = .ok (.aload_n 0, 1) := by decide +kernel
theorem dJ0_init_db425_80 : decode cJ0_init_db425 80 = .ok (.iconst 1, 1) := by decide +kernel
theorem dJ0_init_db425_81 : decode cJ0_init_db425 81 = .ok (.putfield 15, 3) := by decide +kernel
theorem dJ0_init_db425_84 : decode cJ0_init_db425 84 = .ok (.aload_n 0, 1) := by decide +kernel
theorem dJ0_init_db425_85 : decode cJ0_init_db425 85 = .ok (.aload_n 3, 1) := by decide +kernel
theorem dJ0_init_db425_86 : decode cJ0_init_db425 86 = .ok (.iconst 0, 1) := by decide +kernel
theorem dJ0_init_db425_87 : decode cJ0_init_db425 87 = .ok (.iload 4, 2) := by decide +kernel
theorem dJ0_init_db425_89 : decode cJ0_init_db425 89 = .ok (.iconst 1, 1) := by decide +kernel
theorem dJ0_init_db425_90 : decode cJ0_init_db425 90 = .ok (.ishl, 1) := by decide +kernel
theorem dJ0_init_db425_91 : decode cJ0_init_db425 91 = .ok (.invokestatic 54, 3) := by decide +kernel
theorem dJ0_init_db425_94 : decode cJ0_init_db425 94 = .ok (.putfield 9, 3) := by decide +kernel
theorem dJ0_init_db425_97 : decode cJ0_init_db425 97 = .ok (.return_, 1) := by decide +kernel
theorem dJ0_coder_7d493_0 : decode cJ0_coder_7d493 0 = .ok (.getstatic 38, 3) := by decide +kernel
theorem dJ0_coder_7d493_3 : decode cJ0_coder_7d493 3 = .ok (.ifCond .eq 10, 3) := by decide +kernel
theorem dJ0_coder_7d493_6 : decode cJ0_coder_7d493 6 = .ok (.aload_n 0, 1) := by decide +kernel
theorem dJ0_coder_7d493_7 : decode cJ0_coder_7d493 7 = .ok (.getfield 15, 3) := by decide +kernel
theorem dJ0_coder_7d493_10 : decode cJ0_coder_7d493 10 = .ok (.goto 4, 3) := by decide +kernel
theorem dJ0_coder_7d493_13 : decode cJ0_coder_7d493 13 = .ok (.iconst 1, 1) := by decide +kernel
theorem dJ0_coder_7d493_14 : decode cJ0_coder_7d493 14 = .ok (.ireturn, 1) := by decide +kernel
theorem dJ0_isLatin1_aae02_0 : decode cJ0_isLatin1_aae02 0 = .ok (.getstatic 38, 3) := by decide +kernel
theorem dJ0_isLatin1_aae02_3 : decode cJ0_isLatin1_aae02 3 = .ok (.ifCond .eq 14, 3) := by decide +kernel
theorem dJ0_isLatin1_aae02_6 : decode cJ0_isLatin1_aae02 6 = .ok (.aload_n 0, 1) := by decide +kernel
theorem dJ0_isLatin1_aae02_7 : decode cJ0_isLatin1_aae02 7 = .ok (.getfield 15, 3) := by decide +kernel
theorem dJ0_isLatin1_aae02_10 : decode cJ0_isLatin1_aae02 10 = .ok (.ifCond .ne 7, 3) := by decide +kernel
theorem dJ0_isLatin1_aae02_13 : decode cJ0_isLatin1_aae02 13 = .ok (.iconst 1, 1) := by decide +kernel
theorem dJ0_isLatin1_aae02_14 : decode cJ0_isLatin1_aae02 14 = .ok (.goto 4, 3) := by decide +kernel
theorem dJ0_isLatin1_aae02_17 : decode cJ0_isLatin1_aae02 17 = .ok (.iconst 0, 1) := by decide +kernel
theorem dJ0_isLatin1_aae02_18 : decode cJ0_isLatin1_aae02 18 = .ok (.ireturn, 1) := by decide +kernel
theorem dJ0_checkIndex_df160_0 : decode cJ0_checkIndex_df160 0 = .ok (.iload_n 0, 1) := by decide +kernel
theorem dJ0_checkIndex_df160_1 : decode cJ0_checkIndex_df160 1 = .ok (.iload_n 1, 1) := by decide +kernel
theorem dJ0_checkIndex_df160_2 : decode cJ0_checkIndex_df160 2 = .ok (.getstatic 1053, 3) := by decide +kernel
theorem dJ0_checkIndex_df160_5 : decode cJ0_checkIndex_df160 5 = .ok (.invokestatic 1059, 3) := by decide +kernel
theorem dJ0_checkIndex_df160_8 : decode cJ0_checkIndex_df160 8 = .ok (.pop, 1) := by decide +kernel
theorem dJ0_checkIndex_df160_9 : decode cJ0_checkIndex_df160 9 = .ok (.return_, 1) := by decide +kernel
theorem dJ0_checkBoundsOffCount_cabcc_0 : decode cJ0_checkBoundsOffCount_cabcc 0 = .ok (.iload_n 0, 1) := by decide +kernel
theorem dJ0_checkBoundsOffCount_cabcc_1 : decode cJ0_checkBoundsOffCount_cabcc 1 = .ok (.iload_n 1, 1) := by decide +kernel
theorem dJ0_checkBoundsOffCount_cabcc_2 : decode cJ0_checkBoundsOffCount_cabcc 2 = .ok (.iload_n 2, 1) := by decide +kernel
theorem dJ0_checkBoundsOffCount_cabcc_3 : decode cJ0_checkBoundsOffCount_cabcc 3 = .ok (.getstatic 1053, 3) := by decide +kernel
theorem dJ0_checkBoundsOffCount_cabcc_6 : decode cJ0_checkBoundsOffCount_cabcc 6 = .ok (.invokestatic 1065, 3) := by decide +kernel
theorem dJ0_checkBoundsOffCount_cabcc_9 : decode cJ0_checkBoundsOffCount_cabcc 9 = .ok (.ireturn, 1) := by decide +kernel
theorem dJ0_checkBoundsBeginEnd_23922_0 : decode cJ0_checkBoundsBeginEnd_23922 0 = .ok (.iload_n 0, 1) := by decide +kernel
theorem dJ0_checkBoundsBeginEnd_23922_1 : decode cJ0_checkBoundsBeginEnd_23922 1 = .ok (.iload_n 1, 1) := by decide +kernel
theorem dJ0_checkBoundsBeginEnd_23922_2 : decode cJ0_checkBoundsBeginEnd_23922 2 = .ok (.iload_n 2, 1) := by decide +kernel
theorem dJ0_checkBoundsBeginEnd_23922_3 : decode cJ0_checkBoundsBeginEnd_23922 3 = .ok (.getstatic 1053, 3) := by decide +kernel
theorem dJ0_checkBoundsBeginEnd_23922_6 : decode cJ0_checkBoundsBeginEnd_23922 6 = .ok (.invokestatic 1062, 3) := by decide +kernel
theorem dJ0_checkBoundsBeginEnd_23922_9 : decode cJ0_checkBoundsBeginEnd_23922 9 = .ok (.pop, 1) := by decide +kernel
theorem dJ0_checkBoundsBeginEnd_23922_10 : decode cJ0_checkBoundsBeginEnd_23922 10 = .ok (.return_, 1) := by decide +kernel
theorem dJ4_init_da8c8_0 : decode cJ4_init_da8c8 0 = .ok (.aload_n 0, 1) := by decide +kernel
theorem dJ4_init_da8c8_1 : decode cJ4_init_da8c8 1 = .ok (.bipush 16, 2) := by decide +kernel
theorem dJ4_init_da8c8_3 : decode cJ4_init_da8c8 3 = .ok (.invokespecial 1, 3) := by decide +kernel
theorem dJ4_init_da8c8_6 : decode cJ4_init_da8c8 6 = .ok (.return_, 1) := by decide +kernel
theorem dJ4_append_15ec4_0 : decode cJ4_append_15ec4 0 = .ok (.aload_n 0, 1) := by decide +kernel
theorem dJ4_append_15ec4_1 : decode cJ4_append_15ec4 1 = .ok (.aload_n 1, 1) := by decide +kernel
theorem dJ4_append_15ec4_2 : decode cJ4_append_15ec4 2 = .ok (.invokespecial 29, 3) := by decide +kernel
theorem dJ4_append_15ec4_5 : decode cJ4_append_15ec4 5 = .ok (.pop, 1) := by decide +kernel
theorem dJ4_append_15ec4_6 : decode cJ4_append_15ec4 6 = .ok (.aload_n 0, 1) := by decide +kernel
theorem dJ4_append_15ec4_7 : decode cJ4_append_15ec4 7 = .ok (.areturn, 1) := by decide +kernel
theorem dJ4_append_cf468_0 : decode cJ4_append_cf468 0 = .ok (.aload_n 0, 1) := by decide +kernel
theorem dJ4_append_cf468_1 : decode cJ4_append_cf468 1 = .ok (.iload_n 1, 1) := by decide +kernel
theorem dJ4_append_cf468_2 : decode cJ4_append_cf468 2 = .ok (.invokespecial 50, 3) := by decide +kernel
theorem dJ4_append_cf468_5 : decode cJ4_append_cf468 5 = .ok (.pop, 1) := by decide +kernel
theorem dJ4_append_cf468_6 : decode cJ4_append_cf468 6 = .ok (.aload_n 0, 1) := by decide +kernel
theorem dJ4_append_cf468_7 : decode cJ4_append_cf468 7 = .ok (.areturn, 1) := by decide +kernel
theorem dJ4_append_bf812_0 : decode cJ4_append_bf812 0 = .ok (.aload_n 0, 1) := by decide +kernel
theorem dJ4_append_bf812_1 : decode cJ4_append_bf812 1 = .ok (.iload_n 1, 1) := by decide +kernel
theorem dJ4_append_bf812_2 : decode cJ4_append_bf812 2 = .ok (.invokespecial 53, 3) := by decide +kernel
theorem dJ4_append_bf812_5 : decode cJ4_append_bf812 5 = .ok (.pop, 1) := by decide +kernel
theorem dJ4_append_bf812_6 : decode cJ4_append_bf812 6 = .ok (.aload_n 0, 1) := by decide +kernel
theorem dJ4_append_bf812_7 : decode cJ4_append_bf812 7 = .ok (.areturn, 1) := by decide +kernel
theorem dJ4_toString_0e30d_0 : decode cJ4_toString_0e30d 0 = .ok (.new 18, 3) := by decide +kernel
theorem dJ4_toString_0e30d_3 : decode cJ4_toString_0e30d 3 = .ok (.dup, 1) := by decide +kernel
theorem dJ4_toString_0e30d_4 : decode cJ4_toString_0e30d 4 = .ok (.aload_n 0, 1) := by decide +kernel
theorem dJ4_toString_0e30d_5 : decode cJ4_toString_0e30d 5 = .ok (.invokespecial 137, 3) := by decide +kernel
theorem dJ4_toString_0e30d_8 : decode cJ4_toString_0e30d 8 = .ok (.areturn, 1) := by decide +kernel
theorem dJ4_charAt_5068e_0 : decode cJ4_charAt_5068e 0 = .ok (.aload_n 0, 1) := by decide +kernel
theorem dJ4_charAt_5068e_1 : decode cJ4_charAt_5068e 1 = .ok (.iload_n 1, 1) := by decide +kernel
theorem dJ4_charAt_5068e_2 : decode cJ4_charAt_5068e 2 = .ok (.invokespecial 329, 3) := by decide +kernel
theorem dJ4_charAt_5068e_5 : decode cJ4_charAt_5068e 5 = .ok (.ireturn, 1) := by decide +kernel
theorem dJ4_setLength_d00df_0 : decode cJ4_setLength_d00df 0 = .ok (.aload_n 0, 1) := by decide +kernel
theorem dJ4_setLength_d00df_1 : decode cJ4_setLength_d00df 1 = .ok (.iload_n 1, 1) := by decide +kernel
theorem dJ4_setLength_d00df_2 : decode cJ4_setLength_d00df 2 = .ok (.invokespecial 333, 3) := by decide +kernel
theorem dJ4_setLength_d00df_5 : decode cJ4_setLength_d00df 5 = .ok (.return_, 1) := by decide +kernel
theorem dJ4_length_8abf5_0 : decode cJ4_length_8abf5 0 = .ok (.aload_n 0, 1) := by decide +kernel
theorem dJ4_length_8abf5_1 : decode cJ4_length_8abf5 1 = .ok (.invokespecial 343, 3) := by decide +kernel
theorem dJ4_length_8abf5_4 : decode cJ4_length_8abf5 4 = .ok (.ireturn, 1) := by decide +kernel
theorem dJ1_charAt_3b067_0 : decode cJ1_charAt_3b067 0 = .ok (.iload_n 1, 1) := by decide +kernel
theorem dJ1_charAt_3b067_1 : decode cJ1_charAt_3b067 1 = .ok (.aload_n 0, 1) := by decide +kernel
theorem dJ1_charAt_3b067_2 : decode cJ1_charAt_3b067 2 = .ok (.arraylength, 1) := by decide +kernel
theorem dJ1_charAt_3b067_3 : decode cJ1_charAt_3b067 3 = .ok (.invokestatic 9, 3) := by decide +kernel
theorem dJ1_charAt_3b067_6 : decode cJ1_charAt_3b067 6 = .ok (.aload_n 0, 1) := by decide +kernel
theorem dJ1_charAt_3b067_7 : decode cJ1_charAt_3b067 7 = .ok (.iload_n 1, 1) := by decide +kernel
theorem dJ1_charAt_3b067_8 : decode cJ1_charAt_3b067 8 = .ok (.baload, 1) := by decide +kernel
theorem dJ1_charAt_3b067_9 : decode cJ1_charAt_3b067 9 = .ok (.sipush 255, 3) := by decide +kernel
theorem dJ1_charAt_3b067_12 : decode cJ1_charAt_3b067 12 = .ok (.iand, 1) := by decide +kernel
theorem dJ1_charAt_3b067_13 : decode cJ1_charAt_3b067 13 = .ok (.i2c, 1) := by decide +kernel
theorem dJ1_charAt_3b067_14 : decode cJ1_charAt_3b067 14 = .ok (.ireturn, 1) := by decide +kernel
theorem dJ1_canEncode_fc78d_0 : decode cJ1_canEncode_fc78d 0 = .ok (.iload_n 0, 1) := by decide +kernel
theorem dJ1_canEncode_fc78d_1 : decode cJ1_canEncode_fc78d 1 = .ok (.sipush 255, 3) := by decide +kernel
theorem dJ1_canEncode_fc78d_4 : decode cJ1_canEncode_fc78d 4 = .ok (.if_icmp .gt 7, 3) := by decide +kernel
theorem dJ1_canEncode_fc78d_7 : decode cJ1_canEncode_fc78d 7 = .ok (.iconst 1, 1) := by decide +kernel
theorem dJ1_canEncode_fc78d_8 : decode cJ1_canEncode_fc78d 8 = .ok (.goto 4, 3) := by decide +kernel
theorem dJ1_canEncode_fc78d_11 : decode cJ1_canEncode_fc78d 11 = .ok (.iconst 0, 1) := by decide +kernel
theorem dJ1_canEncode_fc78d_12 : decode cJ1_canEncode_fc78d 12 = .ok (.ireturn, 1) := by decide +kernel
theorem dJ1_fillNull_b72d1_0 : decode cJ1_fillNull_b72d1 0 = .ok (.aload_n 0, 1) := by decide +kernel
theorem dJ1_fillNull_b72d1_1 : decode cJ1_fillNull_b72d1 1 = .ok (.iload_n 1, 1) := by decide +kernel
theorem dJ1_fillNull_b72d1_2 : decode cJ1_fillNull_b72d1 2 = .ok (.iload_n 2, 1) := by decide +kernel
theorem dJ1_fillNull_b72d1_3 : decode cJ1_fillNull_b72d1 3 = .ok (.iconst 0, 1) := by decide +kernel
theorem dJ1_fillNull_b72d1_4 : decode cJ1_fillNull_b72d1 4 = .ok (.invokestatic 236, 3) := by decide +kernel
theorem dJ1_fillNull_b72d1_7 : decode cJ1_fillNull_b72d1 7 = .ok (.return_, 1) := by decide +kernel
theorem dJ1_inflate_0e8fd_0 : decode cJ1_inflate_0e8fd 0 = .ok (.aload_n 0, 1) := by decide +kernel
theorem dJ1_inflate_0e8fd_1 : decode cJ1_inflate_0e8fd 1 = .ok (.iload_n 1, 1) := by decide +kernel
theorem dJ1_inflate_0e8fd_2 : decode cJ1_inflate_0e8fd 2 = .ok (.aload_n 2, 1) := by decide +kernel
theorem dJ1_inflate_0e8fd_3 : decode cJ1_inflate_0e8fd 3 = .ok (.iload_n 3, 1) := by decide +kernel
theorem dJ1_inflate_0e8fd_4 : decode cJ1_inflate_0e8fd 4 = .ok (.iload 4, 2) := by decide +kernel
theorem dJ1_inflate_0e8fd_6 : decode cJ1_inflate_0e8fd 6 = .ok (.invokestatic 240, 3) := by decide +kernel
theorem dJ1_inflate_0e8fd_9 : decode cJ1_inflate_0e8fd 9 = .ok (.return_, 1) := by decide +kernel
theorem dJ2_newBytesFor_77867_0 : decode cJ2_newBytesFor_77867 0 = .ok (.iload_n 0, 1) := by decide +kernel
theorem dJ2_newBytesFor_77867_1 : decode cJ2_newBytesFor_77867 1 = .ok (.invokestatic 11, 3) := by decide +kernel
theorem dJ2_newBytesFor_77867_4 : decode cJ2_newBytesFor_77867 4 = .ok (.newarray .byte, 2) := by decide +kernel
theorem dJ2_newBytesFor_77867_6 : decode cJ2_newBytesFor_77867 6 = .ok (.areturn, 1) := by decide +kernel
theorem dJ2_newBytesLength_0f7a4_0 : decode cJ2_newBytesLength_0f7a4 0 = .ok (.iload_n 0, 1) := by decide +kernel
theorem dJ2_newBytesLength_0f7a4_1 : decode cJ2_newBytesLength_0f7a4 1 = .ok (.ifCond .ge 11, 3) := by decide +kernel
theorem dJ2_newBytesLength_0f7a4_4 : decode cJ2_newBytesLength_0f7a4 4 = .ok (.new 17, 3) := by decide +kernel
theorem dJ2_newBytesLength_0f7a4_7 : decode cJ2_newBytesLength_0f7a4 7 = .ok (.dup, 1) := by decide +kernel
theorem dJ2_newBytesLength_0f7a4_8 : decode cJ2_newBytesLength_0f7a4 8 = .ok (.invokespecial 19, 3) := by decide +kernel
theorem dJ2_newBytesLength_0f7a4_11 : decode cJ2_newBytesLength_0f7a4 11 = .ok (.athrow, 1) := by decide +kernel
theorem dJ2_newBytesLength_0f7a4_12 : decode cJ2_newBytesLength_0f7a4 12 = .ok (.iload_n 0, 1) := by decide +kernel
theorem dJ2_newBytesLength_0f7a4_13 : decode cJ2_newBytesLength_0f7a4 13 = .ok (.ldc 20, 2) := by decide +kernel
theorem dJ2_newBytesLength_0f7a4_15 : decode cJ2_newBytesLength_0f7a4 15 = .ok (.if_icmp .lt 40, 3) := by decide +kernel
theorem dJ2_newBytesLength_0f7a4_18 : decode cJ2_newBytesLength_0f7a4 18 = .ok (.new 21, 3) := by decide +kernel
theorem dJ2_newBytesLength_0f7a4_21 : decode cJ2_newBytesLength_0f7a4 21 = .ok (.dup, 1) := by decide +kernel
theorem dJ2_newBytesLength_0f7a4_22 : decode cJ2_newBytesLength_0f7a4 22 = .ok (.new 23, 3) := by decide +kernel
theorem dJ2_newBytesLength_0f7a4_25 : decode cJ2_newBytesLength_0f7a4 25 = .ok (.dup, 1) := by decide +kernel
theorem dJ2_newBytesLength_0f7a4_26 : decode cJ2_newBytesLength_0f7a4 26 = .ok (.invokespecial 25, 3) := by decide +kernel
theorem dJ2_newBytesLength_0f7a4_29 : decode cJ2_newBytesLength_0f7a4 29 = .ok (.ldc 26, 2) := by decide +kernel
theorem dJ2_newBytesLength_0f7a4_31 : decode cJ2_newBytesLength_0f7a4 31 = .ok (.invokevirtual 28, 3) := by decide +kernel
theorem dJ2_newBytesLength_0f7a4_34 : decode cJ2_newBytesLength_0f7a4 34 = .ok (.iload_n 0, 1) := by decide +kernel
theorem dJ2_newBytesLength_0f7a4_35 : decode cJ2_newBytesLength_0f7a4 35 = .ok (.invokevirtual 32, 3) := by decide +kernel
theorem dJ2_newBytesLength_0f7a4_38 : decode cJ2_newBytesLength_0f7a4 38 = .ok (.ldc 35, 2) := by decide +kernel
theorem dJ2_newBytesLength_0f7a4_40 : decode cJ2_newBytesLength_0f7a4 40 = .ok (.invokevirtual 28, 3) := by decide +kernel
theorem dJ2_newBytesLength_0f7a4_43 : decode cJ2_newBytesLength_0f7a4 43 = .ok (.ldc 20, 2) := by decide +kernel
theorem dJ2_newBytesLength_0f7a4_45 : decode cJ2_newBytesLength_0f7a4 45 = .ok (.invokevirtual 32, 3) := by decide +kernel
theorem dJ2_newBytesLength_0f7a4_48 : decode cJ2_newBytesLength_0f7a4 48 = .ok (.invokevirtual 37, 3) := by decide +kernel
theorem dJ2_newBytesLength_0f7a4_51 : decode cJ2_newBytesLength_0f7a4 51 = .ok (.invokespecial 41, 3) := by decide +kernel
theorem dJ2_newBytesLength_0f7a4_54 : decode cJ2_newBytesLength_0f7a4 54 = .ok (.athrow, 1) := by decide +kernel
theorem dJ2_newBytesLength_0f7a4_55 : decode cJ2_newBytesLength_0f7a4 55 = .ok (.iload_n 0, 1) := by decide +kernel
theorem dJ2_newBytesLength_0f7a4_56 : decode cJ2_newBytesLength_0f7a4 56 = .ok (.iconst 1, 1) := by decide +kernel
theorem dJ2_newBytesLength_0f7a4_57 : decode cJ2_newBytesLength_0f7a4 57 = .ok (.ishl, 1) := by decide +kernel
theorem dJ2_newBytesLength_0f7a4_58 : decode cJ2_newBytesLength_0f7a4 58 = .ok (.ireturn, 1) := by decide +kernel
theorem dJ2_putChar_b72d1_0 : decode cJ2_putChar_b72d1 0 = .ok (.getstatic 44, 3) := by decide +kernel
theorem dJ2_putChar_b72d1_3 : decode cJ2_putChar_b72d1 3 = .ok (.ifCond .ne 25, 3) := by decide +kernel
theorem dJ2_putChar_b72d1_6 : decode cJ2_putChar_b72d1 6 = .ok (.iload_n 1, 1) := by decide +kernel
theorem dJ2_putChar_b72d1_7 : decode cJ2_putChar_b72d1 7 = .ok (.ifCond .lt 11, 3) := by decide +kernel
theorem dJ2_putChar_b72d1_10 : decode cJ2_putChar_b72d1 10 = .ok (.iload_n 1, 1) := by decide +kernel
theorem dJ2_putChar_b72d1_11 : decode cJ2_putChar_b72d1 11 = .ok (.aload_n 0, 1) := by decide +kernel
theorem dJ2_putChar_b72d1_12 : decode cJ2_putChar_b72d1 12 = .ok (.invokestatic 48, 3) := by decide +kernel
theorem dJ2_putChar_b72d1_15 : decode cJ2_putChar_b72d1 15 = .ok (.if_icmp .lt 13, 3) := by decide +kernel
theorem dJ2_putChar_b72d1_18 : decode cJ2_putChar_b72d1 18 = .ok (.new 52, 3) := by decide +kernel
theorem dJ2_putChar_b72d1_21 : decode cJ2_putChar_b72d1 21 = .ok (.dup, 1) := by decide +kernel
theorem dJ2_putChar_b72d1_22 : decode cJ2_putChar_b72d1 22 = .ok (.ldc 54, 2) := by decide +kernel
theorem dJ2_putChar_b72d1_24 : decode cJ2_putChar_b72d1 24 = .ok (.invokespecial 56, 3) := by decide +kernel
theorem dJ2_putChar_b72d1_27 : decode cJ2_putChar_b72d1 27 = .ok (.athrow, 1) := by decide +kernel
theorem dJ2_putChar_b72d1_28 : decode cJ2_putChar_b72d1 28 = .ok (.iload_n 1, 1) := by decide +kernel
theorem dJ2_putChar_b72d1_29 : decode cJ2_putChar_b72d1 29 = .ok (.iconst 1, 1) := by decide +kernel
theorem dJ2_putChar_b72d1_30 : decode cJ2_putChar_b72d1 30 = .ok (.ishl, 1) := by decide +kernel
theorem dJ2_putChar_b72d1_31 : decode cJ2_putChar_b72d1 31 = .ok (.istore_n 1, 1) := by decide +kernel
theorem dJ2_putChar_b72d1_32 : decode cJ2_putChar_b72d1 32 = .ok (.aload_n 0, 1) := by decide +kernel
theorem dJ2_putChar_b72d1_33 : decode cJ2_putChar_b72d1 33 = .ok (.iload_n 1, 1) := by decide +kernel
theorem dJ2_putChar_b72d1_34 : decode cJ2_putChar_b72d1 34 = .ok (.iinc 1 1, 3) := by decide +kernel
theorem dJ2_putChar_b72d1_37 : decode cJ2_putChar_b72d1 37 = .ok (.iload_n 2, 1) := by decide +kernel
theorem dJ2_putChar_b72d1_38 : decode cJ2_putChar_b72d1 38 = .ok (.getstatic 59, 3) := by decide +kernel
theorem dJ2_putChar_b72d1_41 : decode cJ2_putChar_b72d1 41 = .ok (.ishr, 1) := by decide +kernel
theorem dJ2_putChar_b72d1_42 : decode cJ2_putChar_b72d1 42 = .ok (.i2b, 1) := by decide +kernel
theorem dJ2_putChar_b72d1_43 : decode cJ2_putChar_b72d1 43 = .ok (.bastore, 1) := by decide +kernel
theorem dJ2_putChar_b72d1_44 : decode cJ2_putChar_b72d1 44 = .ok (.aload_n 0, 1) := by decide +kernel
theorem dJ2_putChar_b72d1_45 : decode cJ2_putChar_b72d1 45 = .ok (.iload_n 1, 1) := by decide +kernel
theorem dJ2_putChar_b72d1_46 : decode cJ2_putChar_b72d1 46 = .ok (.iload_n 2, 1) := by decide +kernel
theorem dJ2_putChar_b72d1_47 : decode cJ2_putChar_b72d1 47 = .ok (.getstatic 63, 3) := by decide +kernel
theorem dJ2_putChar_b72d1_50 : decode cJ2_putChar_b72d1 50 = .ok (.ishr, 1) := by decide +kernel
theorem dJ2_putChar_b72d1_51 : decode cJ2_putChar_b72d1 51 = .ok (.i2b, 1) := by decide +kernel
theorem dJ2_putChar_b72d1_52 : decode cJ2_putChar_b72d1 52 = .ok (.bastore, 1) := by decide +kernel
theorem dJ2_putChar_b72d1_53 : decode cJ2_putChar_b72d1 53 = .ok (.return_, 1) := by decide +kernel
theorem dJ2_getChar_3b067_0 : decode cJ2_getChar_3b067 0 = .ok (.getstatic 44, 3) := by decide +kernel
theorem dJ2_getChar_3b067_3 : decode cJ2_getChar_3b067 3 = .ok (.ifCond .ne 25, 3) := by decide +kernel
theorem dJ2_getChar_3b067_6 : decode cJ2_getChar_3b067 6 = .ok (.iload_n 1, 1) := by decide +kernel
theorem dJ2_getChar_3b067_7 : decode cJ2_getChar_3b067 7 = .ok (.ifCond .lt 11, 3) := by decide +kernel
theorem dJ2_getChar_3b067_10 : decode cJ2_getChar_3b067 10 = .ok (.iload_n 1, 1) := by decide +kernel
theorem dJ2_getChar_3b067_11 : decode cJ2_getChar_3b067 11 = .ok (.aload_n 0, 1) := by decide +kernel
theorem dJ2_getChar_3b067_12 : decode cJ2_getChar_3b067 12 = .ok (.invokestatic 48, 3) := by decide +kernel
theorem dJ2_getChar_3b067_15 : decode cJ2_getChar_3b067 15 = .ok (.if_icmp .lt 13, 3) := by decide +kernel
theorem dJ2_getChar_3b067_18 : decode cJ2_getChar_3b067 18 = .ok (.new 52, 3) := by decide +kernel
theorem dJ2_getChar_3b067_21 : decode cJ2_getChar_3b067 21 = .ok (.dup, 1) := by decide +kernel
theorem dJ2_getChar_3b067_22 : decode cJ2_getChar_3b067 22 = .ok (.ldc 54, 2) := by decide +kernel
theorem dJ2_getChar_3b067_24 : decode cJ2_getChar_3b067 24 = .ok (.invokespecial 56, 3) := by decide +kernel
theorem dJ2_getChar_3b067_27 : decode cJ2_getChar_3b067 27 = .ok (.athrow, 1) := by decide +kernel
theorem dJ2_getChar_3b067_28 : decode cJ2_getChar_3b067 28 = .ok (.iload_n 1, 1) := by decide +kernel
theorem dJ2_getChar_3b067_29 : decode cJ2_getChar_3b067 29 = .ok (.iconst 1, 1) := by decide +kernel
theorem dJ2_getChar_3b067_30 : decode cJ2_getChar_3b067 30 = .ok (.ishl, 1) := by decide +kernel
theorem dJ2_getChar_3b067_31 : decode cJ2_getChar_3b067 31 = .ok (.istore_n 1, 1) := by decide +kernel
theorem dJ2_getChar_3b067_32 : decode cJ2_getChar_3b067 32 = .ok (.aload_n 0, 1) := by decide +kernel
theorem dJ2_getChar_3b067_33 : decode cJ2_getChar_3b067 33 = .ok (.iload_n 1, 1) := by decide +kernel
theorem dJ2_getChar_3b067_34 : decode cJ2_getChar_3b067 34 = .ok (.iinc 1 1, 3) := by decide +kernel
theorem dJ2_getChar_3b067_37 : decode cJ2_getChar_3b067 37 = .ok (.baload, 1) := by decide +kernel
theorem dJ2_getChar_3b067_38 : decode cJ2_getChar_3b067 38 = .ok (.sipush 255, 3) := by decide +kernel
theorem dJ2_getChar_3b067_41 : decode cJ2_getChar_3b067 41 = .ok (.iand, 1) := by decide +kernel
theorem dJ2_getChar_3b067_42 : decode cJ2_getChar_3b067 42 = .ok (.getstatic 59, 3) := by decide +kernel
theorem dJ2_getChar_3b067_45 : decode cJ2_getChar_3b067 45 = .ok (.ishl, 1) := by decide +kernel
theorem dJ2_getChar_3b067_46 : decode cJ2_getChar_3b067 46 = .ok (.aload_n 0, 1) := by decide +kernel
theorem dJ2_getChar_3b067_47 : decode cJ2_getChar_3b067 47 = .ok (.iload_n 1, 1) := by decide +kernel
theorem dJ2_getChar_3b067_48 : decode cJ2_getChar_3b067 48 = .ok (.baload, 1) := by decide +kernel
theorem dJ2_getChar_3b067_49 : decode cJ2_getChar_3b067 49 = .ok (.sipush 255, 3) := by decide +kernel
theorem dJ2_getChar_3b067_52 : decode cJ2_getChar_3b067 52 = .ok (.iand, 1) := by decide +kernel
theorem dJ2_getChar_3b067_53 : decode cJ2_getChar_3b067 53 = .ok (.getstatic 63, 3) := by decide +kernel
theorem dJ2_getChar_3b067_56 : decode cJ2_getChar_3b067 56 = .ok (.ishl, 1) := by decide +kernel
theorem dJ2_getChar_3b067_57 : decode cJ2_getChar_3b067 57 = .ok (.ior, 1) := by decide +kernel
theorem dJ2_getChar_3b067_58 : decode cJ2_getChar_3b067 58 = .ok (.i2c, 1) := by decide +kernel
theorem dJ2_getChar_3b067_59 : decode cJ2_getChar_3b067 59 = .ok (.ireturn, 1) := by decide +kernel
theorem dJ2_length_9d52b_0 : decode cJ2_length_9d52b 0 = .ok (.aload_n 0, 1) := by decide +kernel
theorem dJ2_length_9d52b_1 : decode cJ2_length_9d52b 1 = .ok (.arraylength, 1) := by decide +kernel
theorem dJ2_length_9d52b_2 : decode cJ2_length_9d52b 2 = .ok (.iconst 1, 1) := by decide +kernel
theorem dJ2_length_9d52b_3 : decode cJ2_length_9d52b 3 = .ok (.ishr, 1) := by decide +kernel
theorem dJ2_length_9d52b_4 : decode cJ2_length_9d52b 4 = .ok (.ireturn, 1) := by decide +kernel
theorem dJ2_coderFromArrayLen_85cad_0 : decode cJ2_coderFromArrayLen_85cad 0 = .ok (.iload_n 1, 1) := by decide +kernel
theorem dJ2_coderFromArrayLen_85cad_1 : decode cJ2_coderFromArrayLen_85cad 1 = .ok (.aload_n 0, 1) := by decide +kernel
theorem dJ2_coderFromArrayLen_85cad_2 : decode cJ2_coderFromArrayLen_85cad 2 = .ok (.arraylength, 1) := by decide +kernel
theorem dJ2_coderFromArrayLen_85cad_3 : decode cJ2_coderFromArrayLen_85cad 3 = .ok (.isub, 1) := by decide +kernel
theorem dJ2_coderFromArrayLen_85cad_4 : decode cJ2_coderFromArrayLen_85cad 4 = .ok (.bipush 31, 2) := by decide +kernel
theorem dJ2_coderFromArrayLen_85cad_6 : decode cJ2_coderFromArrayLen_85cad 6 = .ok (.iushr, 1) := by decide +kernel
theorem dJ2_coderFromArrayLen_85cad_7 : decode cJ2_coderFromArrayLen_85cad 7 = .ok (.i2b, 1) := by decide +kernel
theorem dJ2_coderFromArrayLen_85cad_8 : decode cJ2_coderFromArrayLen_85cad 8 = .ok (.ireturn, 1) := by decide +kernel
theorem dJ2_compress_39247_0 : decode cJ2_compress_39247 0 = .ok (.iload_n 2, 1) := by decide +kernel
theorem dJ2_compress_39247_1 : decode cJ2_compress_39247 1 = .ok (.newarray .byte, 2) := by decide +kernel
theorem dJ2_compress_39247_3 : decode cJ2_compress_39247 3 = .ok (.astore_n 3, 1) := by decide +kernel
theorem dJ2_compress_39247_4 : decode cJ2_compress_39247 4 = .ok (.aload_n 0, 1) := by decide +kernel
theorem dJ2_compress_39247_5 : decode cJ2_compress_39247 5 = .ok (.iload_n 1, 1) := by decide +kernel
theorem dJ2_compress_39247_6 : decode cJ2_compress_39247 6 = .ok (.aload_n 3, 1) := by decide +kernel
theorem dJ2_compress_39247_7 : decode cJ2_compress_39247 7 = .ok (.iconst 0, 1) := by decide +kernel
theorem dJ2_compress_39247_8 : decode cJ2_compress_39247 8 = .ok (.iload_n 2, 1) := by decide +kernel
theorem dJ2_compress_39247_9 : decode cJ2_compress_39247 9 = .ok (.invokestatic 123, 3) := by decide +kernel
theorem dJ2_compress_39247_12 : decode cJ2_compress_39247 12 = .ok (.istore 4, 2) := by decide +kernel
theorem dJ2_compress_39247_14 : decode cJ2_compress_39247 14 = .ok (.iload 4, 2) := by decide +kernel
theorem dJ2_compress_39247_16 : decode cJ2_compress_39247 16 = .ok (.iload_n 2, 1) := by decide +kernel
theorem dJ2_compress_39247_17 : decode cJ2_compress_39247 17 = .ok (.if_icmp .eq 47, 3) := by decide +kernel
theorem dJ2_compress_39247_20 : decode cJ2_compress_39247 20 = .ok (.aload_n 0, 1) := by decide +kernel
theorem dJ2_compress_39247_21 : decode cJ2_compress_39247 21 = .ok (.iload_n 1, 1) := by decide +kernel
theorem dJ2_compress_39247_22 : decode cJ2_compress_39247 22 = .ok (.iconst 1, 1) := by decide +kernel
theorem dJ2_compress_39247_23 : decode cJ2_compress_39247 23 = .ok (.ishl, 1) := by decide +kernel
theorem dJ2_compress_39247_24 : decode cJ2_compress_39247 24 = .ok (.iload_n 1, 1) := by decide +kernel
theorem dJ2_compress_39247_25 : decode cJ2_compress_39247 25 = .ok (.iload_n 2, 1) := by decide +kernel
theorem dJ2_compress_39247_26 : decode cJ2_compress_39247 26 = .ok (.iadd, 1) := by decide +kernel
theorem dJ2_compress_39247_27 : decode cJ2_compress_39247 27 = .ok (.invokestatic 11, 3) := by decide +kernel
theorem dJ2_compress_39247_30 : decode cJ2_compress_39247 30 = .ok (.invokestatic 126, 3) := by decide +kernel
theorem dJ2_compress_39247_33 : decode cJ2_compress_39247 33 = .ok (.astore 5, 2) := by decide +kernel
theorem dJ2_compress_39247_35 : decode cJ2_compress_39247 35 = .ok (.aload 5, 2) := by decide +kernel
theorem dJ2_compress_39247_37 : decode cJ2_compress_39247 37 = .ok (.iload 4, 2) := by decide +kernel
theorem dJ2_compress_39247_39 : decode cJ2_compress_39247 39 = .ok (.invokestatic 71, 3) := by decide +kernel
theorem dJ2_compress_39247_42 : decode cJ2_compress_39247 42 = .ok (.sipush 255, 3) := by decide +kernel
theorem dJ2_compress_39247_45 : decode cJ2_compress_39247 45 = .ok (.if_icmp .gt 16, 3) := by decide +kernel
theorem dJ2_compress_39247_48 : decode cJ2_compress_39247 48 = .ok (.aload 5, 2) := by decide +kernel
theorem dJ2_compress_39247_50 : decode cJ2_compress_39247 50 = .ok (.iconst 0, 1) := by decide +kernel
theorem dJ2_compress_39247_51 : decode cJ2_compress_39247 51 = .ok (.aload_n 3, 1) := by decide +kernel
theorem dJ2_compress_39247_52 : decode cJ2_compress_39247 52 = .ok (.iconst 0, 1) := by decide +kernel
theorem dJ2_compress_39247_53 : decode cJ2_compress_39247 53 = .ok (.iload_n 2, 1) := by decide +kernel
theorem dJ2_compress_39247_54 : decode cJ2_compress_39247 54 = .ok (.invokestatic 123, 3) := by decide +kernel
theorem dJ2_compress_39247_57 : decode cJ2_compress_39247 57 = .ok (.iload_n 2, 1) := by decide +kernel
theorem dJ2_compress_39247_58 : decode cJ2_compress_39247 58 = .ok (.if_icmp .eq 6, 3) := by decide +kernel
theorem dJ2_compress_39247_61 : decode cJ2_compress_39247 61 = .ok (.aload 5, 2) := by decide +kernel
theorem dJ2_compress_39247_63 : decode cJ2_compress_39247 63 = .ok (.areturn, 1) := by decide +kernel
theorem dJ2_compress_39247_64 : decode cJ2_compress_39247 64 = .ok (.aload_n 3, 1) := by decide +kernel
theorem dJ2_compress_39247_65 : decode cJ2_compress_39247 65 = .ok (.areturn, 1) := by decide +kernel
theorem dJ2_compress_5af95_0 : decode cJ2_compress_5af95 0 = .ok (.iload_n 1, 1) := by decide +kernel
theorem dJ2_compress_5af95_1 : decode cJ2_compress_5af95 1 = .ok (.iload 4, 2) := by decide +kernel
theorem dJ2_compress_5af95_3 : decode cJ2_compress_5af95 3 = .ok (.aload_n 0, 1) := by decide +kernel
theorem dJ2_compress_5af95_4 : decode cJ2_compress_5af95 4 = .ok (.invokestatic 173, 3) := by decide +kernel
theorem dJ2_compress_5af95_7 : decode cJ2_compress_5af95 7 = .ok (.iconst 0, 1) := by decide +kernel
theorem dJ2_compress_5af95_8 : decode cJ2_compress_5af95 8 = .ok (.istore 5, 2) := by decide +kernel
theorem dJ2_compress_5af95_10 : decode cJ2_compress_5af95 10 = .ok (.iload 5, 2) := by decide +kernel
theorem dJ2_compress_5af95_12 : decode cJ2_compress_5af95 12 = .ok (.iload 4, 2) := by decide +kernel
theorem dJ2_compress_5af95_14 : decode cJ2_compress_5af95 14 = .ok (.if_icmp .ge 39, 3) := by decide +kernel
theorem dJ2_compress_5af95_17 : decode cJ2_compress_5af95 17 = .ok (.aload_n 0, 1) := by decide +kernel
theorem dJ2_compress_5af95_18 : decode cJ2_compress_5af95 18 = .ok (.iload_n 1, 1) := by decide +kernel
theorem dJ2_compress_5af95_19 : decode cJ2_compress_5af95 19 = .ok (.invokestatic 71, 3) := by decide +kernel
theorem dJ2_compress_5af95_22 : decode cJ2_compress_5af95 22 = .ok (.istore 6, 2) := by decide +kernel
theorem dJ2_compress_5af95_24 : decode cJ2_compress_5af95 24 = .ok (.iload 6, 2) := by decide +kernel
theorem dJ2_compress_5af95_26 : decode cJ2_compress_5af95 26 = .ok (.sipush 255, 3) := by decide +kernel
theorem dJ2_compress_5af95_29 : decode cJ2_compress_5af95 29 = .ok (.if_icmp .le 6, 3) := by decide +kernel
theorem dJ2_compress_5af95_32 : decode cJ2_compress_5af95 32 = .ok (.iload 5, 2) := by decide +kernel
theorem dJ2_compress_5af95_34 : decode cJ2_compress_5af95 34 = .ok (.ireturn, 1) := by decide +kernel
theorem dJ2_compress_5af95_35 : decode cJ2_compress_5af95 35 = .ok (.aload_n 2, 1) := by decide +kernel
theorem dJ2_compress_5af95_36 : decode cJ2_compress_5af95 36 = .ok (.iload_n 3, 1) := by decide +kernel
theorem dJ2_compress_5af95_37 : decode cJ2_compress_5af95 37 = .ok (.iload 6, 2) := by decide +kernel
theorem dJ2_compress_5af95_39 : decode cJ2_compress_5af95 39 = .ok (.i2b, 1) := by decide +kernel
theorem dJ2_compress_5af95_40 : decode cJ2_compress_5af95 40 = .ok (.bastore, 1) := by decide +kernel
theorem dJ2_compress_5af95_41 : decode cJ2_compress_5af95 41 = .ok (.iinc 1 1, 3) := by decide +kernel
theorem dJ2_compress_5af95_44 : decode cJ2_compress_5af95 44 = .ok (.iinc 3 1, 3) := by decide +kernel
theorem dJ2_compress_5af95_47 : decode cJ2_compress_5af95 47 = .ok (.iinc 5 1, 3) := by decide +kernel
theorem dJ2_compress_5af95_50 : decode cJ2_compress_5af95 50 = .ok (.goto (-40), 3) := by decide +kernel
theorem dJ2_compress_5af95_53 : decode cJ2_compress_5af95 53 = .ok (.iload 4, 2) := by decide +kernel
theorem dJ2_compress_5af95_55 : decode cJ2_compress_5af95 55 = .ok (.ireturn, 1) := by decide +kernel
theorem dJ2_fillNull_b72d1_0 : decode cJ2_fillNull_b72d1 0 = .ok (.aload_n 0, 1) := by decide +kernel
theorem dJ2_fillNull_b72d1_1 : decode cJ2_fillNull_b72d1 1 = .ok (.iload_n 1, 1) := by decide +kernel
theorem dJ2_fillNull_b72d1_2 : decode cJ2_fillNull_b72d1 2 = .ok (.iconst 1, 1) := by decide +kernel
theorem dJ2_fillNull_b72d1_3 : decode cJ2_fillNull_b72d1 3 = .ok (.ishl, 1) := by decide +kernel
theorem dJ2_fillNull_b72d1_4 : decode cJ2_fillNull_b72d1 4 = .ok (.iload_n 2, 1) := by decide +kernel
theorem dJ2_fillNull_b72d1_5 : decode cJ2_fillNull_b72d1 5 = .ok (.iconst 1, 1) := by decide +kernel
theorem dJ2_fillNull_b72d1_6 : decode cJ2_fillNull_b72d1 6 = .ok (.ishl, 1) := by decide +kernel
theorem dJ2_fillNull_b72d1_7 : decode cJ2_fillNull_b72d1 7 = .ok (.iconst 0, 1) := by decide +kernel
theorem dJ2_fillNull_b72d1_8 : decode cJ2_fillNull_b72d1 8 = .ok (.invokestatic 380, 3) := by decide +kernel
theorem dJ2_fillNull_b72d1_11 : decode cJ2_fillNull_b72d1 11 = .ok (.return_, 1) := by decide +kernel
theorem dJ2_putCharSB_b72d1_0 : decode cJ2_putCharSB_b72d1 0 = .ok (.iload_n 1, 1) := by decide +kernel
theorem dJ2_putCharSB_b72d1_1 : decode cJ2_putCharSB_b72d1 1 = .ok (.aload_n 0, 1) := by decide +kernel
theorem dJ2_putCharSB_b72d1_2 : decode cJ2_putCharSB_b72d1 2 = .ok (.invokestatic 67, 3) := by decide +kernel
theorem dJ2_putCharSB_b72d1_5 : decode cJ2_putCharSB_b72d1 5 = .ok (.aload_n 0, 1) := by decide +kernel
theorem dJ2_putCharSB_b72d1_6 : decode cJ2_putCharSB_b72d1 6 = .ok (.iload_n 1, 1) := by decide +kernel
theorem dJ2_putCharSB_b72d1_7 : decode cJ2_putCharSB_b72d1 7 = .ok (.iload_n 2, 1) := by decide +kernel
theorem dJ2_putCharSB_b72d1_8 : decode cJ2_putCharSB_b72d1 8 = .ok (.invokestatic 111, 3) := by decide +kernel
theorem dJ2_putCharSB_b72d1_11 : decode cJ2_putCharSB_b72d1 11 = .ok (.return_, 1) := by decide +kernel
theorem dJ2_getChars_46870_0 : decode cJ2_getChars_46870 0 = .ok (.iload_n 1, 1) := by decide +kernel
theorem dJ2_getChars_46870_1 : decode cJ2_getChars_46870 1 = .ok (.iload_n 2, 1) := by decide +kernel
theorem dJ2_getChars_46870_2 : decode cJ2_getChars_46870 2 = .ok (.aload_n 3, 1) := by decide +kernel
theorem dJ2_getChars_46870_3 : decode cJ2_getChars_46870 3 = .ok (.invokestatic 96, 3) := by decide +kernel
theorem dJ2_getChars_46870_6 : decode cJ2_getChars_46870 6 = .ok (.iload_n 0, 1) := by decide +kernel
theorem dJ2_getChars_46870_7 : decode cJ2_getChars_46870 7 = .ok (.iload_n 2, 1) := by decide +kernel
theorem dJ2_getChars_46870_8 : decode cJ2_getChars_46870 8 = .ok (.aload_n 3, 1) := by decide +kernel
theorem dJ2_getChars_46870_9 : decode cJ2_getChars_46870 9 = .ok (.invokestatic 393, 3) := by decide +kernel
theorem dJ2_getChars_46870_12 : decode cJ2_getChars_46870 12 = .ok (.istore 4, 2) := by decide +kernel
theorem dJ2_getChars_46870_14 : decode cJ2_getChars_46870 14 = .ok (.getstatic 44, 3) := by decide +kernel
theorem dJ2_getChars_46870_17 : decode cJ2_getChars_46870 17 = .ok (.ifCond .ne 17, 3) := by decide +kernel
theorem dJ2_getChars_46870_20 : decode cJ2_getChars_46870 20 = .ok (.iload_n 1, 1) := by decide +kernel
theorem dJ2_getChars_46870_21 : decode cJ2_getChars_46870 21 = .ok (.iload 4, 2) := by decide +kernel
theorem dJ2_getChars_46870_23 : decode cJ2_getChars_46870 23 = .ok (.if_icmp .eq 11, 3) := by decide +kernel
theorem dJ2_getChars_46870_26 : decode cJ2_getChars_46870 26 = .ok (.new 52, 3) := by decide +kernel
theorem dJ2_getChars_46870_29 : decode cJ2_getChars_46870 29 = .ok (.dup, 1) := by decide +kernel
theorem dJ2_getChars_46870_30 : decode cJ2_getChars_46870 30 = .ok (.invokespecial 66, 3) := by decide +kernel
theorem dJ2_getChars_46870_33 : decode cJ2_getChars_46870 33 = .ok (.athrow, 1) := by decide +kernel
theorem dJ2_getChars_46870_34 : decode cJ2_getChars_46870 34 = .ok (.iload 4, 2) := by decide +kernel
theorem dJ2_getChars_46870_36 : decode cJ2_getChars_46870 36 = .ok (.ireturn, 1) := by decide +kernel
theorem dJ2_putCharsAt_cd4e5_0 : decode cJ2_putCharsAt_cd4e5 0 = .ok (.iload_n 1, 1) := by decide +kernel
theorem dJ2_putCharsAt_cd4e5_1 : decode cJ2_putCharsAt_cd4e5 1 = .ok (.iconst 4, 1) := by decide +kernel
theorem dJ2_putCharsAt_cd4e5_2 : decode cJ2_putCharsAt_cd4e5 2 = .ok (.iadd, 1) := by decide +kernel
theorem dJ2_putCharsAt_cd4e5_3 : decode cJ2_putCharsAt_cd4e5 3 = .ok (.istore 6, 2) := by decide +kernel
theorem dJ2_putCharsAt_cd4e5_5 : decode cJ2_putCharsAt_cd4e5 5 = .ok (.iload_n 1, 1) := by decide +kernel
theorem dJ2_putCharsAt_cd4e5_6 : decode cJ2_putCharsAt_cd4e5 6 = .ok (.iload 6, 2) := by decide +kernel
theorem dJ2_putCharsAt_cd4e5_8 : decode cJ2_putCharsAt_cd4e5 8 = .ok (.aload_n 0, 1) := by decide +kernel
theorem dJ2_putCharsAt_cd4e5_9 : decode cJ2_putCharsAt_cd4e5 9 = .ok (.invokestatic 96, 3) := by decide +kernel
theorem dJ2_putCharsAt_cd4e5_12 : decode cJ2_putCharsAt_cd4e5 12 = .ok (.aload_n 0, 1) := by decide +kernel
theorem dJ2_putCharsAt_cd4e5_13 : decode cJ2_putCharsAt_cd4e5 13 = .ok (.iload_n 1, 1) := by decide +kernel
theorem dJ2_putCharsAt_cd4e5_14 : decode cJ2_putCharsAt_cd4e5 14 = .ok (.iinc 1 1, 3) := by decide +kernel
theorem dJ2_putCharsAt_cd4e5_17 : decode cJ2_putCharsAt_cd4e5 17 = .ok (.iload_n 2, 1) := by decide +kernel
theorem dJ2_putCharsAt_cd4e5_18 : decode cJ2_putCharsAt_cd4e5 18 = .ok (.invokestatic 111, 3) := by decide +kernel
theorem dJ2_putCharsAt_cd4e5_21 : decode cJ2_putCharsAt_cd4e5 21 = .ok (.aload_n 0, 1) := by decide +kernel
theorem dJ2_putCharsAt_cd4e5_22 : decode cJ2_putCharsAt_cd4e5 22 = .ok (.iload_n 1, 1) := by decide +kernel
theorem dJ2_putCharsAt_cd4e5_23 : decode cJ2_putCharsAt_cd4e5 23 = .ok (.iinc 1 1, 3) := by decide +kernel
theorem dJ2_putCharsAt_cd4e5_26 : decode cJ2_putCharsAt_cd4e5 26 = .ok (.iload_n 3, 1) := by decide +kernel
theorem dJ2_putCharsAt_cd4e5_27 : decode cJ2_putCharsAt_cd4e5 27 = .ok (.invokestatic 111, 3) := by decide +kernel
theorem dJ2_putCharsAt_cd4e5_30 : decode cJ2_putCharsAt_cd4e5 30 = .ok (.aload_n 0, 1) := by decide +kernel
theorem dJ2_putCharsAt_cd4e5_31 : decode cJ2_putCharsAt_cd4e5 31 = .ok (.iload_n 1, 1) := by decide +kernel
theorem dJ2_putCharsAt_cd4e5_32 : decode cJ2_putCharsAt_cd4e5 32 = .ok (.iinc 1 1, 3) := by decide +kernel
theorem dJ2_putCharsAt_cd4e5_35 : decode cJ2_putCharsAt_cd4e5 35 = .ok (.iload 4, 2) := by decide +kernel
theorem dJ2_putCharsAt_cd4e5_37 : decode cJ2_putCharsAt_cd4e5 37 = .ok (.invokestatic 111, 3) := by decide +kernel
theorem dJ2_putCharsAt_cd4e5_40 : decode cJ2_putCharsAt_cd4e5 40 = .ok (.aload_n 0, 1) := by decide +kernel
theorem dJ2_putCharsAt_cd4e5_41 : decode cJ2_putCharsAt_cd4e5 41 = .ok (.iload_n 1, 1) := by decide +kernel
theorem dJ2_putCharsAt_cd4e5_42 : decode cJ2_putCharsAt_cd4e5 42 = .ok (.iinc 1 1, 3) := by decide +kernel
theorem dJ2_putCharsAt_cd4e5_45 : decode cJ2_putCharsAt_cd4e5 45 = .ok (.iload 5, 2) := by decide +kernel
theorem dJ2_putCharsAt_cd4e5_47 : decode cJ2_putCharsAt_cd4e5 47 = .ok (.invokestatic 111, 3) := by decide +kernel
theorem dJ2_putCharsAt_cd4e5_50 : decode cJ2_putCharsAt_cd4e5 50 = .ok (.getstatic 44, 3) := by decide +kernel
theorem dJ2_putCharsAt_cd4e5_53 : decode cJ2_putCharsAt_cd4e5 53 = .ok (.ifCond .ne 17, 3) := by decide +kernel
theorem dJ2_putCharsAt_cd4e5_56 : decode cJ2_putCharsAt_cd4e5 56 = .ok (.iload_n 1, 1) := by decide +kernel
theorem dJ2_putCharsAt_cd4e5_57 : decode cJ2_putCharsAt_cd4e5 57 = .ok (.iload 6, 2) := by decide +kernel
theorem dJ2_putCharsAt_cd4e5_59 : decode cJ2_putCharsAt_cd4e5 59 = .ok (.if_icmp .eq 11, 3) := by decide +kernel
theorem dJ2_putCharsAt_cd4e5_62 : decode cJ2_putCharsAt_cd4e5 62 = .ok (.new 52, 3) := by decide +kernel
theorem dJ2_putCharsAt_cd4e5_65 : decode cJ2_putCharsAt_cd4e5 65 = .ok (.dup, 1) := by decide +kernel
theorem dJ2_putCharsAt_cd4e5_66 : decode cJ2_putCharsAt_cd4e5 66 = .ok (.invokespecial 66, 3) := by decide +kernel
theorem dJ2_putCharsAt_cd4e5_69 : decode cJ2_putCharsAt_cd4e5 69 = .ok (.athrow, 1) := by decide +kernel
theorem dJ2_putCharsAt_cd4e5_70 : decode cJ2_putCharsAt_cd4e5 70 = .ok (.iload 6, 2) := by decide +kernel
theorem dJ2_putCharsAt_cd4e5_72 : decode cJ2_putCharsAt_cd4e5 72 = .ok (.ireturn, 1) := by decide +kernel
theorem dJ2_charAt_3b067_0 : decode cJ2_charAt_3b067 0 = .ok (.iload_n 1, 1) := by decide +kernel
theorem dJ2_charAt_3b067_1 : decode cJ2_charAt_3b067 1 = .ok (.aload_n 0, 1) := by decide +kernel
theorem dJ2_charAt_3b067_2 : decode cJ2_charAt_3b067 2 = .ok (.invokestatic 67, 3) := by decide +kernel
theorem dJ2_charAt_3b067_5 : decode cJ2_charAt_3b067 5 = .ok (.aload_n 0, 1) := by decide +kernel
theorem dJ2_charAt_3b067_6 : decode cJ2_charAt_3b067 6 = .ok (.iload_n 1, 1) := by decide +kernel
theorem dJ2_charAt_3b067_7 : decode cJ2_charAt_3b067 7 = .ok (.invokestatic 71, 3) := by decide +kernel
theorem dJ2_charAt_3b067_10 : decode cJ2_charAt_3b067 10 = .ok (.ireturn, 1) := by decide +kernel
theorem dJ2_inflate_0e8fd_0 : decode cJ2_inflate_0e8fd 0 = .ok (.iload_n 3, 1) := by decide +kernel
theorem dJ2_inflate_0e8fd_1 : decode cJ2_inflate_0e8fd 1 = .ok (.iload 4, 2) := by decide +kernel
theorem dJ2_inflate_0e8fd_3 : decode cJ2_inflate_0e8fd 3 = .ok (.aload_n 2, 1) := by decide +kernel
theorem dJ2_inflate_0e8fd_4 : decode cJ2_inflate_0e8fd 4 = .ok (.invokestatic 173, 3) := by decide +kernel
theorem dJ2_inflate_0e8fd_7 : decode cJ2_inflate_0e8fd 7 = .ok (.iconst 0, 1) := by decide +kernel
theorem dJ2_inflate_0e8fd_8 : decode cJ2_inflate_0e8fd 8 = .ok (.istore 5, 2) := by decide +kernel
theorem dJ2_inflate_0e8fd_10 : decode cJ2_inflate_0e8fd 10 = .ok (.iload 5, 2) := by decide +kernel
theorem dJ2_inflate_0e8fd_12 : decode cJ2_inflate_0e8fd 12 = .ok (.iload 4, 2) := by decide +kernel
theorem dJ2_inflate_0e8fd_14 : decode cJ2_inflate_0e8fd 14 = .ok (.if_icmp .ge 27, 3) := by decide +kernel
theorem dJ2_inflate_0e8fd_17 : decode cJ2_inflate_0e8fd 17 = .ok (.aload_n 2, 1) := by decide +kernel
theorem dJ2_inflate_0e8fd_18 : decode cJ2_inflate_0e8fd 18 = .ok (.iload_n 3, 1) := by decide +kernel
theorem dJ2_inflate_0e8fd_19 : decode cJ2_inflate_0e8fd 19 = .ok (.iinc 3 1, 3) := by decide +kernel
theorem dJ2_inflate_0e8fd_22 : decode cJ2_inflate_0e8fd 22 = .ok (.aload_n 0, 1) := by decide +kernel
theorem dJ2_inflate_0e8fd_23 : decode cJ2_inflate_0e8fd 23 = .ok (.iload_n 1, 1) := by decide +kernel
theorem dJ2_inflate_0e8fd_24 : decode cJ2_inflate_0e8fd 24 = .ok (.iinc 1 1, 3) := by decide +kernel
theorem dJ2_inflate_0e8fd_27 : decode cJ2_inflate_0e8fd 27 = .ok (.baload, 1) := by decide +kernel
theorem dJ2_inflate_0e8fd_28 : decode cJ2_inflate_0e8fd 28 = .ok (.sipush 255, 3) := by decide +kernel
theorem dJ2_inflate_0e8fd_31 : decode cJ2_inflate_0e8fd 31 = .ok (.iand, 1) := by decide +kernel
theorem dJ2_inflate_0e8fd_32 : decode cJ2_inflate_0e8fd 32 = .ok (.invokestatic 111, 3) := by decide +kernel
theorem dJ2_inflate_0e8fd_35 : decode cJ2_inflate_0e8fd 35 = .ok (.iinc 5 1, 3) := by decide +kernel
theorem dJ2_inflate_0e8fd_38 : decode cJ2_inflate_0e8fd 38 = .ok (.goto (-28), 3) := by decide +kernel
theorem dJ2_inflate_0e8fd_41 : decode cJ2_inflate_0e8fd 41 = .ok (.return_, 1) := by decide +kernel
theorem dJ2_getChars_ba4f3_0 : decode cJ2_getChars_ba4f3 0 = .ok (.iload_n 1, 1) := by decide +kernel
theorem dJ2_getChars_ba4f3_1 : decode cJ2_getChars_ba4f3 1 = .ok (.istore 5, 2) := by decide +kernel
theorem dJ2_getChars_ba4f3_3 : decode cJ2_getChars_ba4f3 3 = .ok (.iload_n 0, 1) := by decide +kernel
theorem dJ2_getChars_ba4f3_4 : decode cJ2_getChars_ba4f3 4 = .ok (.ifCond .ge 7, 3) := by decide +kernel
theorem dJ2_getChars_ba4f3_7 : decode cJ2_getChars_ba4f3 7 = .ok (.iconst 1, 1) := by decide +kernel
theorem dJ2_getChars_ba4f3_8 : decode cJ2_getChars_ba4f3 8 = .ok (.goto 4, 3) := by decide +kernel
theorem dJ2_getChars_ba4f3_11 : decode cJ2_getChars_ba4f3 11 = .ok (.iconst 0, 1) := by decide +kernel
theorem dJ2_getChars_ba4f3_12 : decode cJ2_getChars_ba4f3 12 = .ok (.istore 6, 2) := by decide +kernel
theorem dJ2_getChars_ba4f3_14 : decode cJ2_getChars_ba4f3 14 = .ok (.iload 6, 2) := by decide +kernel
theorem dJ2_getChars_ba4f3_16 : decode cJ2_getChars_ba4f3 16 = .ok (.ifCond .ne 6, 3) := by decide +kernel
theorem dJ2_getChars_ba4f3_19 : decode cJ2_getChars_ba4f3 19 = .ok (.iload_n 0, 1) := by decide +kernel
theorem dJ2_getChars_ba4f3_20 : decode cJ2_getChars_ba4f3 20 = .ok (.ineg, 1) := by decide +kernel
theorem dJ2_getChars_ba4f3_21 : decode cJ2_getChars_ba4f3 21 = .ok (.istore_n 0, 1) := by decide +kernel
theorem dJ2_getChars_ba4f3_22 : decode cJ2_getChars_ba4f3 22 = .ok (.iload_n 0, 1) := by decide +kernel
theorem dJ2_getChars_ba4f3_23 : decode cJ2_getChars_ba4f3 23 = .ok (.bipush (-100), 2) := by decide +kernel
theorem dJ2_getChars_ba4f3_25 : decode cJ2_getChars_ba4f3 25 = .ok (.if_icmp .gt 51, 3) := by decide +kernel
theorem dJ2_getChars_ba4f3_28 : decode cJ2_getChars_ba4f3 28 = .ok (.iload_n 0, 1) := by decide +kernel
theorem dJ2_getChars_ba4f3_29 : decode cJ2_getChars_ba4f3 29 = .ok (.bipush 100, 2) := by decide +kernel
theorem dJ2_getChars_ba4f3_31 : decode cJ2_getChars_ba4f3 31 = .ok (.idiv, 1) := by decide +kernel
theorem dJ2_getChars_ba4f3_32 : decode cJ2_getChars_ba4f3 32 = .ok (.istore_n 3, 1) := by decide +kernel
theorem dJ2_getChars_ba4f3_33 : decode cJ2_getChars_ba4f3 33 = .ok (.iload_n 3, 1) := by decide +kernel
theorem dJ2_getChars_ba4f3_34 : decode cJ2_getChars_ba4f3 34 = .ok (.bipush 100, 2) := by decide +kernel
theorem dJ2_getChars_ba4f3_36 : decode cJ2_getChars_ba4f3 36 = .ok (.imul, 1) := by decide +kernel
theorem dJ2_getChars_ba4f3_37 : decode cJ2_getChars_ba4f3 37 = .ok (.iload_n 0, 1) := by decide +kernel
theorem dJ2_getChars_ba4f3_38 : decode cJ2_getChars_ba4f3 38 = .ok (.isub, 1) := by decide +kernel
theorem dJ2_getChars_ba4f3_39 : decode cJ2_getChars_ba4f3 39 = .ok (.istore 4, 2) := by decide +kernel
theorem dJ2_getChars_ba4f3_41 : decode cJ2_getChars_ba4f3 41 = .ok (.iload_n 3, 1) := by decide +kernel
theorem dJ2_getChars_ba4f3_42 : decode cJ2_getChars_ba4f3 42 = .ok (.istore_n 0, 1) := by decide +kernel
theorem dJ2_getChars_ba4f3_43 : decode cJ2_getChars_ba4f3 43 = .ok (.aload_n 2, 1) := by decide +kernel
theorem dJ2_getChars_ba4f3_44 : decode cJ2_getChars_ba4f3 44 = .ok (.iinc 5 (-1), 3) := by decide +kernel
theorem dJ2_getChars_ba4f3_47 : decode cJ2_getChars_ba4f3 47 = .ok (.iload 5, 2) := by decide +kernel
theorem dJ2_getChars_ba4f3_49 : decode cJ2_getChars_ba4f3 49 = .ok (.getstatic 403, 3) := by decide +kernel
theorem dJ2_getChars_ba4f3_52 : decode cJ2_getChars_ba4f3 52 = .ok (.iload 4, 2) := by decide +kernel
theorem dJ2_getChars_ba4f3_54 : decode cJ2_getChars_ba4f3 54 = .ok (.baload, 1) := by decide +kernel
theorem dJ2_getChars_ba4f3_55 : decode cJ2_getChars_ba4f3 55 = .ok (.invokestatic 111, 3) := by decide +kernel
theorem dJ2_getChars_ba4f3_58 : decode cJ2_getChars_ba4f3 58 = .ok (.aload_n 2, 1) := by decide +kernel
theorem dJ2_getChars_ba4f3_59 : decode cJ2_getChars_ba4f3 59 = .ok (.iinc 5 (-1), 3) := by decide +kernel
theorem dJ2_getChars_ba4f3_62 : decode cJ2_getChars_ba4f3 62 = .ok (.iload 5, 2) := by decide +kernel
theorem dJ2_getChars_ba4f3_64 : decode cJ2_getChars_ba4f3 64 = .ok (.getstatic 407, 3) := by decide +kernel
theorem dJ2_getChars_ba4f3_67 : decode cJ2_getChars_ba4f3 67 = .ok (.iload 4, 2) := by decide +kernel
theorem dJ2_getChars_ba4f3_69 : decode cJ2_getChars_ba4f3 69 = .ok (.baload, 1) := by decide +kernel
theorem dJ2_getChars_ba4f3_70 : decode cJ2_getChars_ba4f3 70 = .ok (.invokestatic 111, 3) := by decide +kernel
theorem dJ2_getChars_ba4f3_73 : decode cJ2_getChars_ba4f3 73 = .ok (.goto (-51), 3) := by decide +kernel
theorem dJ2_getChars_ba4f3_76 : decode cJ2_getChars_ba4f3 76 = .ok (.aload_n 2, 1) := by decide +kernel
theorem dJ2_getChars_ba4f3_77 : decode cJ2_getChars_ba4f3 77 = .ok (.iinc 5 (-1), 3) := by decide +kernel
theorem dJ2_getChars_ba4f3_80 : decode cJ2_getChars_ba4f3 80 = .ok (.iload 5, 2) := by decide +kernel
theorem dJ2_getChars_ba4f3_82 : decode cJ2_getChars_ba4f3 82 = .ok (.getstatic 403, 3) := by decide +kernel
theorem dJ2_getChars_ba4f3_85 : decode cJ2_getChars_ba4f3 85 = .ok (.iload_n 0, 1) := by decide +kernel
theorem dJ2_getChars_ba4f3_86 : decode cJ2_getChars_ba4f3 86 = .ok (.ineg, 1) := by decide +kernel
theorem dJ2_getChars_ba4f3_87 : decode cJ2_getChars_ba4f3 87 = .ok (.baload, 1) := by decide +kernel
theorem dJ2_getChars_ba4f3_88 : decode cJ2_getChars_ba4f3 88 = .ok (.invokestatic 111, 3) := by decide +kernel
theorem dJ2_getChars_ba4f3_91 : decode cJ2_getChars_ba4f3 91 = .ok (.iload_n 0, 1) := by decide +kernel
theorem dJ2_getChars_ba4f3_92 : decode cJ2_getChars_ba4f3 92 = .ok (.bipush (-9), 2) := by decide +kernel
theorem dJ2_getChars_ba4f3_94 : decode cJ2_getChars_ba4f3 94 = .ok (.if_icmp .ge 18, 3) := by decide +kernel
theorem dJ2_getChars_ba4f3_97 : decode cJ2_getChars_ba4f3 97 = .ok (.aload_n 2, 1) := by decide +kernel
theorem dJ2_getChars_ba4f3_98 : decode cJ2_getChars_ba4f3 98 = .ok (.iinc 5 (-1), 3) := by decide +kernel
theorem dJ2_getChars_ba4f3_101 : decode cJ2_getChars_ba4f3 101 = .ok (.iload 5, 2) := by decide +kernel
theorem dJ2_getChars_ba4f3_103 : decode cJ2_getChars_ba4f3 103 = .ok (.getstatic 407, 3) := by decide +kernel
theorem dJ2_getChars_ba4f3_106 : decode cJ2_getChars_ba4f3 106 = .ok (.iload_n 0, 1) := by decide +kernel
theorem dJ2_getChars_ba4f3_107 : decode cJ2_getChars_ba4f3 107 = .ok (.ineg, 1) := by decide +kernel
theorem dJ2_getChars_ba4f3_108 : decode cJ2_getChars_ba4f3 108 = .ok (.baload, 1) := by decide +kernel
theorem dJ2_getChars_ba4f3_109 : decode cJ2_getChars_ba4f3 109 = .ok (.invokestatic 111, 3) := by decide +kernel
theorem dJ2_getChars_ba4f3_112 : decode cJ2_getChars_ba4f3 112 = .ok (.iload 6, 2) := by decide +kernel
theorem dJ2_getChars_ba4f3_114 : decode cJ2_getChars_ba4f3 114 = .ok (.ifCond .eq 14, 3) := by decide +kernel
theorem dJ2_getChars_ba4f3_117 : decode cJ2_getChars_ba4f3 117 = .ok (.aload_n 2, 1) := by decide +kernel
theorem dJ2_getChars_ba4f3_118 : decode cJ2_getChars_ba4f3 118 = .ok (.iinc 5 (-1), 3) := by decide +kernel
theorem dJ2_getChars_ba4f3_121 : decode cJ2_getChars_ba4f3 121 = .ok (.iload 5, 2) := by decide +kernel
theorem dJ2_getChars_ba4f3_123 : decode cJ2_getChars_ba4f3 123 = .ok (.bipush 45, 2) := by decide +kernel
theorem dJ2_getChars_ba4f3_125 : decode cJ2_getChars_ba4f3 125 = .ok (.invokestatic 111, 3) := by decide +kernel
theorem dJ2_getChars_ba4f3_128 : decode cJ2_getChars_ba4f3 128 = .ok (.iload 5, 2) := by decide +kernel
theorem dJ2_getChars_ba4f3_130 : decode cJ2_getChars_ba4f3 130 = .ok (.ireturn, 1) := by decide +kernel
theorem dJ2_checkIndex_2214a_0 : decode cJ2_checkIndex_2214a 0 = .ok (.iload_n 0, 1) := by decide +kernel
theorem dJ2_checkIndex_2214a_1 : decode cJ2_checkIndex_2214a 1 = .ok (.aload_n 1, 1) := by decide +kernel
theorem dJ2_checkIndex_2214a_2 : decode cJ2_checkIndex_2214a 2 = .ok (.invokestatic 48, 3) := by decide +kernel
theorem dJ2_checkIndex_2214a_5 : decode cJ2_checkIndex_2214a 5 = .ok (.invokestatic 414, 3) := by decide +kernel
theorem dJ2_checkIndex_2214a_8 : decode cJ2_checkIndex_2214a 8 = .ok (.return_, 1) := by decide +kernel
theorem dJ2_checkBoundsBeginEnd_d044e_0 : decode cJ2_checkBoundsBeginEnd_d044e 0 = .ok (.iload_n 0, 1) := by decide +kernel
theorem dJ2_checkBoundsBeginEnd_d044e_1 : decode cJ2_checkBoundsBeginEnd_d044e 1 = .ok (.iload_n 1, 1) := by decide +kernel
theorem dJ2_checkBoundsBeginEnd_d044e_2 : decode cJ2_checkBoundsBeginEnd_d044e 2 = .ok (.aload_n 2, 1) := by decide +kernel
theorem dJ2_checkBoundsBeginEnd_d044e_3 : decode cJ2_checkBoundsBeginEnd_d044e 3 = .ok (.invokestatic 48, 3) := by decide +kernel
theorem dJ2_checkBoundsBeginEnd_d044e_6 : decode cJ2_checkBoundsBeginEnd_d044e 6 = .ok (.invokestatic 241, 3) := by decide +kernel
theorem dJ2_checkBoundsBeginEnd_d044e_9 : decode cJ2_checkBoundsBeginEnd_d044e 9 = .ok (.return_, 1) := by decide +kernel
theorem dJ2_checkBoundsOffCount_d044e_0 : decode cJ2_checkBoundsOffCount_d044e 0 = .ok (.iload_n 0, 1) := by decide +kernel
theorem dJ2_checkBoundsOffCount_d044e_1 : decode cJ2_checkBoundsOffCount_d044e 1 = .ok (.iload_n 1, 1) := by decide +kernel
theorem dJ2_checkBoundsOffCount_d044e_2 : decode cJ2_checkBoundsOffCount_d044e 2 = .ok (.aload_n 2, 1) := by decide +kernel
theorem dJ2_checkBoundsOffCount_d044e_3 : decode cJ2_checkBoundsOffCount_d044e 3 = .ok (.invokestatic 48, 3) := by decide +kernel
theorem dJ2_checkBoundsOffCount_d044e_6 : decode cJ2_checkBoundsOffCount_d044e 6 = .ok (.invokestatic 419, 3) := by decide +kernel
theorem dJ2_checkBoundsOffCount_d044e_9 : decode cJ2_checkBoundsOffCount_d044e 9 = .ok (.pop, 1) := by decide +kernel
theorem dJ2_checkBoundsOffCount_d044e_10 : decode cJ2_checkBoundsOffCount_d044e 10 = .ok (.return_, 1) := by decide +kernel
theorem dJ7_rangeCheck_23922_0 : decode cJ7_rangeCheck_23922 0 = .ok (.iload_n 1, 1) := by decide +kernel
theorem dJ7_rangeCheck_23922_1 : decode cJ7_rangeCheck_23922 1 = .ok (.iload_n 2, 1) := by decide +kernel
theorem dJ7_rangeCheck_23922_2 : decode cJ7_rangeCheck_23922 2 = .ok (.if_icmp .le 44, 3) := by decide +kernel
theorem dJ7_rangeCheck_23922_5 : decode cJ7_rangeCheck_23922 5 = .ok (.new 43, 3) := by decide +kernel
theorem dJ7_rangeCheck_23922_8 : decode cJ7_rangeCheck_23922 8 = .ok (.dup, 1) := by decide +kernel
theorem dJ7_rangeCheck_23922_9 : decode cJ7_rangeCheck_23922 9 = .ok (.new 45, 3) := by decide +kernel
theorem dJ7_rangeCheck_23922_12 : decode cJ7_rangeCheck_23922 12 = .ok (.dup, 1) := by decide +kernel
theorem dJ7_rangeCheck_23922_13 : decode cJ7_rangeCheck_23922 13 = .ok (.invokespecial 47, 3) := by decide +kernel
theorem dJ7_rangeCheck_23922_16 : decode cJ7_rangeCheck_23922 16 = .ok (.ldc 48, 2) := by decide +kernel
theorem dJ7_rangeCheck_23922_18 : decode cJ7_rangeCheck_23922 18 = .ok (.invokevirtual 50, 3) := by decide +kernel
theorem dJ7_rangeCheck_23922_21 : decode cJ7_rangeCheck_23922 21 = .ok (.iload_n 1, 1) := by decide +kernel
theorem dJ7_rangeCheck_23922_22 : decode cJ7_rangeCheck_23922 22 = .ok (.invokevirtual 54, 3) := by decide +kernel
theorem dJ7_rangeCheck_23922_25 : decode cJ7_rangeCheck_23922 25 = .ok (.ldc 57, 2) := by decide +kernel
theorem dJ7_rangeCheck_23922_27 : decode cJ7_rangeCheck_23922 27 = .ok (.invokevirtual 50, 3) := by decide +kernel
theorem dJ7_rangeCheck_23922_30 : decode cJ7_rangeCheck_23922 30 = .ok (.iload_n 2, 1) := by decide +kernel
theorem dJ7_rangeCheck_23922_31 : decode cJ7_rangeCheck_23922 31 = .ok (.invokevirtual 54, 3) := by decide +kernel
theorem dJ7_rangeCheck_23922_34 : decode cJ7_rangeCheck_23922 34 = .ok (.ldc 59, 2) := by decide +kernel
theorem dJ7_rangeCheck_23922_36 : decode cJ7_rangeCheck_23922 36 = .ok (.invokevirtual 50, 3) := by decide +kernel
theorem dJ7_rangeCheck_23922_39 : decode cJ7_rangeCheck_23922 39 = .ok (.invokevirtual 61, 3) := by decide +kernel
theorem dJ7_rangeCheck_23922_42 : decode cJ7_rangeCheck_23922 42 = .ok (.invokespecial 65, 3) := by decide +kernel
theorem dJ7_rangeCheck_23922_45 : decode cJ7_rangeCheck_23922 45 = .ok (.athrow, 1) := by decide +kernel
theorem dJ7_rangeCheck_23922_46 : decode cJ7_rangeCheck_23922 46 = .ok (.iload_n 1, 1) := by decide +kernel
theorem dJ7_rangeCheck_23922_47 : decode cJ7_rangeCheck_23922 47 = .ok (.ifCond .ge 12, 3) := by decide +kernel
theorem dJ7_rangeCheck_23922_50 : decode cJ7_rangeCheck_23922 50 = .ok (.new 68, 3) := by decide +kernel
theorem dJ7_rangeCheck_23922_53 : decode cJ7_rangeCheck_23922 53 = .ok (.dup, 1) := by decide +kernel
theorem dJ7_rangeCheck_23922_54 : decode cJ7_rangeCheck_23922 54 = .ok (.iload_n 1, 1) := by decide +kernel
theorem dJ7_rangeCheck_23922_55 : decode cJ7_rangeCheck_23922 55 = .ok (.invokespecial 70, 3) := by decide +kernel
theorem dJ7_rangeCheck_23922_58 : decode cJ7_rangeCheck_23922 58 = .ok (.athrow, 1) := by decide +kernel
theorem dJ7_rangeCheck_23922_59 : decode cJ7_rangeCheck_23922 59 = .ok (.iload_n 2, 1) := by decide +kernel
theorem dJ7_rangeCheck_23922_60 : decode cJ7_rangeCheck_23922 60 = .ok (.iload_n 0, 1) := by decide +kernel
theorem dJ7_rangeCheck_23922_61 : decode cJ7_rangeCheck_23922 61 = .ok (.if_icmp .le 12, 3) := by decide +kernel
theorem dJ7_rangeCheck_23922_64 : decode cJ7_rangeCheck_23922 64 = .ok (.new 68, 3) := by decide +kernel
theorem dJ7_rangeCheck_23922_67 : decode cJ7_rangeCheck_23922 67 = .ok (.dup, 1) := by decide +kernel
theorem dJ7_rangeCheck_23922_68 : decode cJ7_rangeCheck_23922 68 = .ok (.iload_n 2, 1) := by decide +kernel
theorem dJ7_rangeCheck_23922_69 : decode cJ7_rangeCheck_23922 69 = .ok (.invokespecial 70, 3) := by decide +kernel
theorem dJ7_rangeCheck_23922_72 : decode cJ7_rangeCheck_23922 72 = .ok (.athrow, 1) := by decide +kernel
theorem dJ7_rangeCheck_23922_73 : decode cJ7_rangeCheck_23922 73 = .ok (.return_, 1) := by decide +kernel
theorem dJ7_fill_eb02e_0 : decode cJ7_fill_eb02e 0 = .ok (.aload_n 0, 1) := by decide +kernel
theorem dJ7_fill_eb02e_1 : decode cJ7_fill_eb02e 1 = .ok (.arraylength, 1) := by decide +kernel
theorem dJ7_fill_eb02e_2 : decode cJ7_fill_eb02e 2 = .ok (.iload_n 1, 1) := by decide +kernel
theorem dJ7_fill_eb02e_3 : decode cJ7_fill_eb02e 3 = .ok (.iload_n 2, 1) := by decide +kernel
theorem dJ7_fill_eb02e_4 : decode cJ7_fill_eb02e 4 = .ok (.invokestatic 13, 3) := by decide +kernel
theorem dJ7_fill_eb02e_7 : decode cJ7_fill_eb02e 7 = .ok (.iload_n 1, 1) := by decide +kernel
theorem dJ7_fill_eb02e_8 : decode cJ7_fill_eb02e 8 = .ok (.istore 4, 2) := by decide +kernel
theorem dJ7_fill_eb02e_10 : decode cJ7_fill_eb02e 10 = .ok (.iload 4, 2) := by decide +kernel
theorem dJ7_fill_eb02e_12 : decode cJ7_fill_eb02e 12 = .ok (.iload_n 2, 1) := by decide +kernel
theorem dJ7_fill_eb02e_13 : decode cJ7_fill_eb02e 13 = .ok (.if_icmp .ge 14, 3) := by decide +kernel
theorem dJ7_fill_eb02e_16 : decode cJ7_fill_eb02e 16 = .ok (.aload_n 0, 1) := by decide +kernel
theorem dJ7_fill_eb02e_17 : decode cJ7_fill_eb02e 17 = .ok (.iload 4, 2) := by decide +kernel
theorem dJ7_fill_eb02e_19 : decode cJ7_fill_eb02e 19 = .ok (.iload_n 3, 1) := by decide +kernel
theorem dJ7_fill_eb02e_20 : decode cJ7_fill_eb02e 20 = .ok (.bastore, 1) := by decide +kernel
theorem dJ7_fill_eb02e_21 : decode cJ7_fill_eb02e 21 = .ok (.iinc 4 1, 3) := by decide +kernel
theorem dJ7_fill_eb02e_24 : decode cJ7_fill_eb02e 24 = .ok (.goto (-14), 3) := by decide +kernel
theorem dJ7_fill_eb02e_27 : decode cJ7_fill_eb02e 27 = .ok (.return_, 1) := by decide +kernel
theorem dJ7_copyOf_9075b_0 : decode cJ7_copyOf_9075b 0 = .ok (.iload_n 1, 1) := by decide +kernel
theorem dJ7_copyOf_9075b_1 : decode cJ7_copyOf_9075b 1 = .ok (.aload_n 0, 1) := by decide +kernel
theorem dJ7_copyOf_9075b_2 : decode cJ7_copyOf_9075b 2 = .ok (.arraylength, 1) := by decide +kernel
theorem dJ7_copyOf_9075b_3 : decode cJ7_copyOf_9075b 3 = .ok (.if_icmp .ne 11, 3) := by decide +kernel
theorem dJ7_copyOf_9075b_6 : decode cJ7_copyOf_9075b 6 = .ok (.aload_n 0, 1) := by decide +kernel
theorem dJ7_copyOf_9075b_7 : decode cJ7_copyOf_9075b 7 = .ok (.invokevirtual 310, 3) := by decide +kernel
theorem dJ7_copyOf_9075b_10 : decode cJ7_copyOf_9075b 10 = .ok (.checkcast 311, 3) := by decide +kernel
theorem dJ7_copyOf_9075b_13 : decode cJ7_copyOf_9075b 13 = .ok (.areturn, 1) := by decide +kernel
theorem dJ7_copyOf_9075b_14 : decode cJ7_copyOf_9075b 14 = .ok (.iload_n 1, 1) := by decide +kernel
theorem dJ7_copyOf_9075b_15 : decode cJ7_copyOf_9075b 15 = .ok (.newarray .byte, 2) := by decide +kernel
theorem dJ7_copyOf_9075b_17 : decode cJ7_copyOf_9075b 17 = .ok (.astore_n 2, 1) := by decide +kernel
theorem dJ7_copyOf_9075b_18 : decode cJ7_copyOf_9075b 18 = .ok (.aload_n 0, 1) := by decide +kernel
theorem dJ7_copyOf_9075b_19 : decode cJ7_copyOf_9075b 19 = .ok (.iconst 0, 1) := by decide +kernel
theorem dJ7_copyOf_9075b_20 : decode cJ7_copyOf_9075b 20 = .ok (.aload_n 2, 1) := by decide +kernel
theorem dJ7_copyOf_9075b_21 : decode cJ7_copyOf_9075b 21 = .ok (.iconst 0, 1) := by decide +kernel
theorem dJ7_copyOf_9075b_22 : decode cJ7_copyOf_9075b 22 = .ok (.aload_n 0, 1) := by decide +kernel
theorem dJ7_copyOf_9075b_23 : decode cJ7_copyOf_9075b 23 = .ok (.arraylength, 1) := by decide +kernel
theorem dJ7_copyOf_9075b_24 : decode cJ7_copyOf_9075b 24 = .ok (.iload_n 1, 1) := by decide +kernel
theorem dJ7_copyOf_9075b_25 : decode cJ7_copyOf_9075b 25 = .ok (.invokestatic 304, 3) := by decide +kernel
theorem dJ7_copyOf_9075b_28 : decode cJ7_copyOf_9075b 28 = .ok (.invokestatic 150, 3) := by decide +kernel
theorem dJ7_copyOf_9075b_31 : decode cJ7_copyOf_9075b 31 = .ok (.aload_n 2, 1) := by decide +kernel
theorem dJ7_copyOf_9075b_32 : decode cJ7_copyOf_9075b 32 = .ok (.areturn, 1) := by decide +kernel
theorem dJ7_checkLength_df160_0 : decode cJ7_checkLength_df160 0 = .ok (.iload_n 1, 1) := by decide +kernel
theorem dJ7_checkLength_df160_1 : decode cJ7_checkLength_df160 1 = .ok (.iload_n 0, 1) := by decide +kernel
theorem dJ7_checkLength_df160_2 : decode cJ7_checkLength_df160 2 = .ok (.if_icmp .ge 35, 3) := by decide +kernel
theorem dJ7_checkLength_df160_5 : decode cJ7_checkLength_df160 5 = .ok (.new 43, 3) := by decide +kernel
theorem dJ7_checkLength_df160_8 : decode cJ7_checkLength_df160 8 = .ok (.dup, 1) := by decide +kernel
theorem dJ7_checkLength_df160_9 : decode cJ7_checkLength_df160 9 = .ok (.new 45, 3) := by decide +kernel
theorem dJ7_checkLength_df160_12 : decode cJ7_checkLength_df160 12 = .ok (.dup, 1) := by decide +kernel
theorem dJ7_checkLength_df160_13 : decode cJ7_checkLength_df160 13 = .ok (.invokespecial 47, 3) := by decide +kernel
theorem dJ7_checkLength_df160_16 : decode cJ7_checkLength_df160 16 = .ok (.iload_n 0, 1) := by decide +kernel
theorem dJ7_checkLength_df160_17 : decode cJ7_checkLength_df160 17 = .ok (.invokevirtual 54, 3) := by decide +kernel
theorem dJ7_checkLength_df160_20 : decode cJ7_checkLength_df160 20 = .ok (.ldc_w 337, 3) := by decide +kernel
theorem dJ7_checkLength_df160_23 : decode cJ7_checkLength_df160 23 = .ok (.invokevirtual 50, 3) := by decide +kernel
theorem dJ7_checkLength_df160_26 : decode cJ7_checkLength_df160 26 = .ok (.iload_n 1, 1) := by decide +kernel
theorem dJ7_checkLength_df160_27 : decode cJ7_checkLength_df160 27 = .ok (.invokevirtual 54, 3) := by decide +kernel
theorem dJ7_checkLength_df160_30 : decode cJ7_checkLength_df160 30 = .ok (.invokevirtual 61, 3) := by decide +kernel
theorem dJ7_checkLength_df160_33 : decode cJ7_checkLength_df160 33 = .ok (.invokespecial 65, 3) := by decide +kernel
theorem dJ7_checkLength_df160_36 : decode cJ7_checkLength_df160 36 = .ok (.athrow, 1) := by decide +kernel
theorem dJ7_checkLength_df160_37 : decode cJ7_checkLength_df160 37 = .ok (.return_, 1) := by decide +kernel
theorem dJ7_copyOfRange_39247_0 : decode cJ7_copyOfRange_39247 0 = .ok (.iload_n 1, 1) := by decide +kernel
theorem dJ7_copyOfRange_39247_1 : decode cJ7_copyOfRange_39247 1 = .ok (.ifCond .ne 9, 3) := by decide +kernel
theorem dJ7_copyOfRange_39247_4 : decode cJ7_copyOfRange_39247 4 = .ok (.iload_n 2, 1) := by decide +kernel
theorem dJ7_copyOfRange_39247_5 : decode cJ7_copyOfRange_39247 5 = .ok (.aload_n 0, 1) := by decide +kernel
theorem dJ7_copyOfRange_39247_6 : decode cJ7_copyOfRange_39247 6 = .ok (.arraylength, 1) := by decide +kernel
theorem dJ7_copyOfRange_39247_7 : decode cJ7_copyOfRange_39247 7 = .ok (.if_icmp .eq 10, 3) := by decide +kernel
theorem dJ7_copyOfRange_39247_10 : decode cJ7_copyOfRange_39247 10 = .ok (.aload_n 0, 1) := by decide +kernel
theorem dJ7_copyOfRange_39247_11 : decode cJ7_copyOfRange_39247 11 = .ok (.iload_n 1, 1) := by decide +kernel
theorem dJ7_copyOfRange_39247_12 : decode cJ7_copyOfRange_39247 12 = .ok (.iload_n 2, 1) := by decide +kernel
theorem dJ7_copyOfRange_39247_13 : decode cJ7_copyOfRange_39247 13 = .ok (.invokestatic 339, 3) := by decide +kernel
theorem dJ7_copyOfRange_39247_16 : decode cJ7_copyOfRange_39247 16 = .ok (.areturn, 1) := by decide +kernel
theorem dJ7_copyOfRange_39247_17 : decode cJ7_copyOfRange_39247 17 = .ok (.aload_n 0, 1) := by decide +kernel
theorem dJ7_copyOfRange_39247_18 : decode cJ7_copyOfRange_39247 18 = .ok (.invokevirtual 310, 3) := by decide +kernel
theorem dJ7_copyOfRange_39247_21 : decode cJ7_copyOfRange_39247 21 = .ok (.checkcast 311, 3) := by decide +kernel
theorem dJ7_copyOfRange_39247_24 : decode cJ7_copyOfRange_39247 24 = .ok (.areturn, 1) := by decide +kernel
theorem dJ7_copyOfRangeByte_39247_0 : decode cJ7_copyOfRangeByte_39247 0 = .ok (.iload_n 1, 1) := by decide +kernel
theorem dJ7_copyOfRangeByte_39247_1 : decode cJ7_copyOfRangeByte_39247 1 = .ok (.iload_n 2, 1) := by decide +kernel
theorem dJ7_copyOfRangeByte_39247_2 : decode cJ7_copyOfRangeByte_39247 2 = .ok (.invokestatic 343, 3) := by decide +kernel
theorem dJ7_copyOfRangeByte_39247_5 : decode cJ7_copyOfRangeByte_39247 5 = .ok (.iload_n 2, 1) := by decide +kernel
theorem dJ7_copyOfRangeByte_39247_6 : decode cJ7_copyOfRangeByte_39247 6 = .ok (.iload_n 1, 1) := by decide +kernel
theorem dJ7_copyOfRangeByte_39247_7 : decode cJ7_copyOfRangeByte_39247 7 = .ok (.isub, 1) := by decide +kernel
theorem dJ7_copyOfRangeByte_39247_8 : decode cJ7_copyOfRangeByte_39247 8 = .ok (.istore_n 3, 1) := by decide +kernel
theorem dJ7_copyOfRangeByte_39247_9 : decode cJ7_copyOfRangeByte_39247 9 = .ok (.iload_n 3, 1) := by decide +kernel
theorem dJ7_copyOfRangeByte_39247_10 : decode cJ7_copyOfRangeByte_39247 10 = .ok (.newarray .byte, 2) := by decide +kernel
theorem dJ7_copyOfRangeByte_39247_12 : decode cJ7_copyOfRangeByte_39247 12 = .ok (.astore 4, 2) := by decide +kernel
theorem dJ7_copyOfRangeByte_39247_14 : decode cJ7_copyOfRangeByte_39247 14 = .ok (.aload_n 0, 1) := by decide +kernel
theorem dJ7_copyOfRangeByte_39247_15 : decode cJ7_copyOfRangeByte_39247 15 = .ok (.iload_n 1, 1) := by decide +kernel
theorem dJ7_copyOfRangeByte_39247_16 : decode cJ7_copyOfRangeByte_39247 16 = .ok (.aload 4, 2) := by decide +kernel
theorem dJ7_copyOfRangeByte_39247_18 : decode cJ7_copyOfRangeByte_39247 18 = .ok (.iconst 0, 1) := by decide +kernel
theorem dJ7_copyOfRangeByte_39247_19 : decode cJ7_copyOfRangeByte_39247 19 = .ok (.aload_n 0, 1) := by decide +kernel
theorem dJ7_copyOfRangeByte_39247_20 : decode cJ7_copyOfRangeByte_39247 20 = .ok (.arraylength, 1) := by decide +kernel
theorem dJ7_copyOfRangeByte_39247_21 : decode cJ7_copyOfRangeByte_39247 21 = .ok (.iload_n 1, 1) := by decide +kernel
theorem dJ7_copyOfRangeByte_39247_22 : decode cJ7_copyOfRangeByte_39247 22 = .ok (.isub, 1) := by decide +kernel
theorem dJ7_copyOfRangeByte_39247_23 : decode cJ7_copyOfRangeByte_39247 23 = .ok (.iload_n 3, 1) := by decide +kernel
theorem dJ7_copyOfRangeByte_39247_24 : decode cJ7_copyOfRangeByte_39247 24 = .ok (.invokestatic 304, 3) := by decide +kernel
theorem dJ7_copyOfRangeByte_39247_27 : decode cJ7_copyOfRangeByte_39247 27 = .ok (.invokestatic 150, 3) := by decide +kernel
theorem dJ7_copyOfRangeByte_39247_30 : decode cJ7_copyOfRangeByte_39247 30 = .ok (.aload 4, 2) := by decide +kernel
theorem dJ7_copyOfRangeByte_39247_32 : decode cJ7_copyOfRangeByte_39247 32 = .ok (.areturn, 1) := by decide +kernel
theorem dJ8_newLength_cabcc_0 : decode cJ8_newLength_cabcc 0 = .ok (.iload_n 0, 1) := by decide +kernel
theorem dJ8_newLength_cabcc_1 : decode cJ8_newLength_cabcc 1 = .ok (.iload_n 1, 1) := by decide +kernel
theorem dJ8_newLength_cabcc_2 : decode cJ8_newLength_cabcc 2 = .ok (.iload_n 2, 1) := by decide +kernel
theorem dJ8_newLength_cabcc_3 : decode cJ8_newLength_cabcc 3 = .ok (.invokestatic 194, 3) := by decide +kernel
theorem dJ8_newLength_cabcc_6 : decode cJ8_newLength_cabcc 6 = .ok (.iadd, 1) := by decide +kernel
theorem dJ8_newLength_cabcc_7 : decode cJ8_newLength_cabcc 7 = .ok (.istore_n 3, 1) := by decide +kernel
theorem dJ8_newLength_cabcc_8 : decode cJ8_newLength_cabcc 8 = .ok (.iconst 0, 1) := by decide +kernel
theorem dJ8_newLength_cabcc_9 : decode cJ8_newLength_cabcc 9 = .ok (.iload_n 3, 1) := by decide +kernel
theorem dJ8_newLength_cabcc_10 : decode cJ8_newLength_cabcc 10 = .ok (.if_icmp .ge 11, 3) := by decide +kernel
theorem dJ8_newLength_cabcc_13 : decode cJ8_newLength_cabcc 13 = .ok (.iload_n 3, 1) := by decide +kernel
theorem dJ8_newLength_cabcc_14 : decode cJ8_newLength_cabcc 14 = .ok (.ldc 200, 2) := by decide +kernel
theorem dJ8_newLength_cabcc_16 : decode cJ8_newLength_cabcc 16 = .ok (.if_icmp .gt 5, 3) := by decide +kernel
theorem dJ8_newLength_cabcc_19 : decode cJ8_newLength_cabcc 19 = .ok (.iload_n 3, 1) := by decide +kernel
theorem dJ8_newLength_cabcc_20 : decode cJ8_newLength_cabcc 20 = .ok (.ireturn, 1) := by decide +kernel
theorem dJ8_newLength_cabcc_21 : decode cJ8_newLength_cabcc 21 = .ok (.iload_n 0, 1) := by decide +kernel
theorem dJ8_newLength_cabcc_22 : decode cJ8_newLength_cabcc 22 = .ok (.iload_n 1, 1) := by decide +kernel
theorem dJ8_newLength_cabcc_23 : decode cJ8_newLength_cabcc 23 = .ok (.invokestatic 201, 3) := by decide +kernel
theorem dJ8_newLength_cabcc_26 : decode cJ8_newLength_cabcc 26 = .ok (.ireturn, 1) := by decide +kernel
theorem dJ8_hugeLength_7cf53_0 : decode cJ8_hugeLength_7cf53 0 = .ok (.iload_n 0, 1) := by decide +kernel
theorem dJ8_hugeLength_7cf53_1 : decode cJ8_hugeLength_7cf53 1 = .ok (.iload_n 1, 1) := by decide +kernel
theorem dJ8_hugeLength_7cf53_2 : decode cJ8_hugeLength_7cf53 2 = .ok (.iadd, 1) := by decide +kernel
theorem dJ8_hugeLength_7cf53_3 : decode cJ8_hugeLength_7cf53 3 = .ok (.istore_n 2, 1) := by decide +kernel
theorem dJ8_hugeLength_7cf53_4 : decode cJ8_hugeLength_7cf53 4 = .ok (.iload_n 2, 1) := by decide +kernel
theorem dJ8_hugeLength_7cf53_5 : decode cJ8_hugeLength_7cf53 5 = .ok (.ifCond .ge 44, 3) := by decide +kernel
theorem dJ8_hugeLength_7cf53_8 : decode cJ8_hugeLength_7cf53 8 = .ok (.new 204, 3) := by decide +kernel
theorem dJ8_hugeLength_7cf53_11 : decode cJ8_hugeLength_7cf53 11 = .ok (.dup, 1) := by decide +kernel
theorem dJ8_hugeLength_7cf53_12 : decode cJ8_hugeLength_7cf53 12 = .ok (.new 89, 3) := by decide +kernel
theorem dJ8_hugeLength_7cf53_15 : decode cJ8_hugeLength_7cf53 15 = .ok (.dup, 1) := by decide +kernel
theorem dJ8_hugeLength_7cf53_16 : decode cJ8_hugeLength_7cf53 16 = .ok (.invokespecial 91, 3) := by decide +kernel
theorem dJ8_hugeLength_7cf53_19 : decode cJ8_hugeLength_7cf53 19 = .ok (.ldc 206, 2) := by decide +kernel
theorem dJ8_hugeLength_7cf53_21 : decode cJ8_hugeLength_7cf53 21 = .ok (.invokevirtual 94, 3) := by decide +kernel
theorem dJ8_hugeLength_7cf53_24 : decode cJ8_hugeLength_7cf53 24 = .ok (.iload_n 0, 1) := by decide +kernel
theorem dJ8_hugeLength_7cf53_25 : decode cJ8_hugeLength_7cf53 25 = .ok (.invokevirtual 98, 3) := by decide +kernel
theorem dJ8_hugeLength_7cf53_28 : decode cJ8_hugeLength_7cf53 28 = .ok (.ldc 208, 2) := by decide +kernel
theorem dJ8_hugeLength_7cf53_30 : decode cJ8_hugeLength_7cf53 30 = .ok (.invokevirtual 94, 3) := by decide +kernel
theorem dJ8_hugeLength_7cf53_33 : decode cJ8_hugeLength_7cf53 33 = .ok (.iload_n 1, 1) := by decide +kernel
theorem dJ8_hugeLength_7cf53_34 : decode cJ8_hugeLength_7cf53 34 = .ok (.invokevirtual 98, 3) := by decide +kernel
theorem dJ8_hugeLength_7cf53_37 : decode cJ8_hugeLength_7cf53 37 = .ok (.ldc 210, 2) := by decide +kernel
theorem dJ8_hugeLength_7cf53_39 : decode cJ8_hugeLength_7cf53 39 = .ok (.invokevirtual 94, 3) := by decide +kernel
theorem dJ8_hugeLength_7cf53_42 : decode cJ8_hugeLength_7cf53 42 = .ok (.invokevirtual 101, 3) := by decide +kernel
theorem dJ8_hugeLength_7cf53_45 : decode cJ8_hugeLength_7cf53 45 = .ok (.invokespecial 212, 3) := by decide +kernel
theorem dJ8_hugeLength_7cf53_48 : decode cJ8_hugeLength_7cf53 48 = .ok (.athrow, 1) := by decide +kernel
theorem dJ8_hugeLength_7cf53_49 : decode cJ8_hugeLength_7cf53 49 = .ok (.iload_n 2, 1) := by decide +kernel
theorem dJ8_hugeLength_7cf53_50 : decode cJ8_hugeLength_7cf53 50 = .ok (.ldc 200, 2) := by decide +kernel
theorem dJ8_hugeLength_7cf53_52 : decode cJ8_hugeLength_7cf53 52 = .ok (.if_icmp .gt 6, 3) := by decide +kernel
theorem dJ8_hugeLength_7cf53_55 : decode cJ8_hugeLength_7cf53 55 = .ok (.ldc 200, 2) := by decide +kernel
theorem dJ8_hugeLength_7cf53_57 : decode cJ8_hugeLength_7cf53 57 = .ok (.ireturn, 1) := by decide +kernel
theorem dJ8_hugeLength_7cf53_58 : decode cJ8_hugeLength_7cf53 58 = .ok (.iload_n 2, 1) := by decide +kernel
theorem dJ8_hugeLength_7cf53_59 : decode cJ8_hugeLength_7cf53 59 = .ok (.ireturn, 1) := by decide +kernel
theorem dJ3_checkIndex_8e157_0 : decode cJ3_checkIndex_8e157 0 = .ok (.iload_n 0, 1) := by decide +kernel
theorem dJ3_checkIndex_8e157_1 : decode cJ3_checkIndex_8e157 1 = .ok (.ifCond .lt 8, 3) := by decide +kernel
theorem dJ3_checkIndex_8e157_4 : decode cJ3_checkIndex_8e157 4 = .ok (.iload_n 0, 1) := by decide +kernel
theorem dJ3_checkIndex_8e157_5 : decode cJ3_checkIndex_8e157 5 = .ok (.iload_n 1, 1) := by decide +kernel
theorem dJ3_checkIndex_8e157_6 : decode cJ3_checkIndex_8e157 6 = .ok (.if_icmp .lt 10, 3) := by decide +kernel
theorem dJ3_checkIndex_8e157_9 : decode cJ3_checkIndex_8e157 9 = .ok (.aload_n 2, 1) := by decide +kernel
theorem dJ3_checkIndex_8e157_10 : decode cJ3_checkIndex_8e157 10 = .ok (.iload_n 0, 1) := by decide +kernel
theorem dJ3_checkIndex_8e157_11 : decode cJ3_checkIndex_8e157 11 = .ok (.iload_n 1, 1) := by decide +kernel
theorem dJ3_checkIndex_8e157_12 : decode cJ3_checkIndex_8e157 12 = .ok (.invokestatic 95, 3) := by decide +kernel
theorem dJ3_checkIndex_8e157_15 : decode cJ3_checkIndex_8e157 15 = .ok (.athrow, 1) := by decide +kernel
theorem dJ3_checkIndex_8e157_16 : decode cJ3_checkIndex_8e157 16 = .ok (.iload_n 0, 1) := by decide +kernel
theorem dJ3_checkIndex_8e157_17 : decode cJ3_checkIndex_8e157 17 = .ok (.ireturn, 1) := by decide +kernel
theorem dJ3_checkFromToIndex_8c36e_0 : decode cJ3_checkFromToIndex_8c36e 0 = .ok (.iload_n 0, 1) := by decide +kernel
theorem dJ3_checkFromToIndex_8c36e_1 : decode cJ3_checkFromToIndex_8c36e 1 = .ok (.ifCond .lt 13, 3) := by decide +kernel
theorem dJ3_checkFromToIndex_8c36e_4 : decode cJ3_checkFromToIndex_8c36e 4 = .ok (.iload_n 0, 1) := by decide +kernel
theorem dJ3_checkFromToIndex_8c36e_5 : decode cJ3_checkFromToIndex_8c36e 5 = .ok (.iload_n 1, 1) := by decide +kernel
theorem dJ3_checkFromToIndex_8c36e_6 : decode cJ3_checkFromToIndex_8c36e 6 = .ok (.if_icmp .gt 8, 3) := by decide +kernel
theorem dJ3_checkFromToIndex_8c36e_9 : decode cJ3_checkFromToIndex_8c36e 9 = .ok (.iload_n 1, 1) := by decide +kernel
theorem dJ3_checkFromToIndex_8c36e_10 : decode cJ3_checkFromToIndex_8c36e 10 = .ok (.iload_n 2, 1) := by decide +kernel
theorem dJ3_checkFromToIndex_8c36e_11 : decode cJ3_checkFromToIndex_8c36e 11 = .ok (.if_icmp .le 11, 3) := by decide +kernel
theorem dJ3_checkFromToIndex_8c36e_14 : decode cJ3_checkFromToIndex_8c36e 14 = .ok (.aload_n 3, 1) := by decide +kernel
theorem dJ3_checkFromToIndex_8c36e_15 : decode cJ3_checkFromToIndex_8c36e 15 = .ok (.iload_n 0, 1) := by decide +kernel
theorem dJ3_checkFromToIndex_8c36e_16 : decode cJ3_checkFromToIndex_8c36e 16 = .ok (.iload_n 1, 1) := by decide +kernel
theorem dJ3_checkFromToIndex_8c36e_17 : decode cJ3_checkFromToIndex_8c36e 17 = .ok (.iload_n 2, 1) := by decide +kernel
theorem dJ3_checkFromToIndex_8c36e_18 : decode cJ3_checkFromToIndex_8c36e 18 = .ok (.invokestatic 99, 3) := by decide +kernel
theorem dJ3_checkFromToIndex_8c36e_21 : decode cJ3_checkFromToIndex_8c36e 21 = .ok (.athrow, 1) := by decide +kernel
theorem dJ3_checkFromToIndex_8c36e_22 : decode cJ3_checkFromToIndex_8c36e 22 = .ok (.iload_n 0, 1) := by decide +kernel
theorem dJ3_checkFromToIndex_8c36e_23 : decode cJ3_checkFromToIndex_8c36e 23 = .ok (.ireturn, 1) := by decide +kernel
theorem dJ3_checkFromIndexSize_8c36e_0 : decode cJ3_checkFromIndexSize_8c36e 0 = .ok (.iload_n 2, 1) := by decide +kernel
theorem dJ3_checkFromIndexSize_8c36e_1 : decode cJ3_checkFromIndexSize_8c36e 1 = .ok (.iload_n 0, 1) := by decide +kernel
theorem dJ3_checkFromIndexSize_8c36e_2 : decode cJ3_checkFromIndexSize_8c36e 2 = .ok (.ior, 1) := by decide +kernel
theorem dJ3_checkFromIndexSize_8c36e_3 : decode cJ3_checkFromIndexSize_8c36e 3 = .ok (.iload_n 1, 1) := by decide +kernel
theorem dJ3_checkFromIndexSize_8c36e_4 : decode cJ3_checkFromIndexSize_8c36e 4 = .ok (.ior, 1) := by decide +kernel
theorem dJ3_checkFromIndexSize_8c36e_5 : decode cJ3_checkFromIndexSize_8c36e 5 = .ok (.ifCond .lt 10, 3) := by decide +kernel
theorem dJ3_checkFromIndexSize_8c36e_8 : decode cJ3_checkFromIndexSize_8c36e 8 = .ok (.iload_n 1, 1) := by decide +kernel
theorem dJ3_checkFromIndexSize_8c36e_9 : decode cJ3_checkFromIndexSize_8c36e 9 = .ok (.iload_n 2, 1) := by decide +kernel
theorem dJ3_checkFromIndexSize_8c36e_10 : decode cJ3_checkFromIndexSize_8c36e 10 = .ok (.iload_n 0, 1) := by decide +kernel
theorem dJ3_checkFromIndexSize_8c36e_11 : decode cJ3_checkFromIndexSize_8c36e 11 = .ok (.isub, 1) := by decide +kernel
theorem dJ3_checkFromIndexSize_8c36e_12 : decode cJ3_checkFromIndexSize_8c36e 12 = .ok (.if_icmp .le 11, 3) := by decide +kernel
theorem dJ3_checkFromIndexSize_8c36e_15 : decode cJ3_checkFromIndexSize_8c36e 15 = .ok (.aload_n 3, 1) := by decide +kernel
theorem dJ3_checkFromIndexSize_8c36e_16 : decode cJ3_checkFromIndexSize_8c36e 16 = .ok (.iload_n 0, 1) := by decide +kernel
theorem dJ3_checkFromIndexSize_8c36e_17 : decode cJ3_checkFromIndexSize_8c36e 17 = .ok (.iload_n 1, 1) := by decide +kernel
theorem dJ3_checkFromIndexSize_8c36e_18 : decode cJ3_checkFromIndexSize_8c36e 18 = .ok (.iload_n 2, 1) := by decide +kernel
theorem dJ3_checkFromIndexSize_8c36e_19 : decode cJ3_checkFromIndexSize_8c36e 19 = .ok (.invokestatic 103, 3) := by decide +kernel
theorem dJ3_checkFromIndexSize_8c36e_22 : decode cJ3_checkFromIndexSize_8c36e 22 = .ok (.athrow, 1) := by decide +kernel
theorem dJ3_checkFromIndexSize_8c36e_23 : decode cJ3_checkFromIndexSize_8c36e 23 = .ok (.iload_n 0, 1) := by decide +kernel
theorem dJ3_checkFromIndexSize_8c36e_24 : decode cJ3_checkFromIndexSize_8c36e 24 = .ok (.ireturn, 1) := by decide +kernel
theorem dL_cell_0 : decode cL_cell 0 = .ok (.iload_n 1, 1) := by decide +kernel
theorem dL_cell_1 : decode cL_cell 1 = .ok (.aload_n 0, 1) := by decide +kernel
theorem dL_cell_2 : decode cL_cell 2 = .ok (.arraylength, 1) := by decide +kernel
theorem dL_cell_3 : decode cL_cell 3 = .ok (.if_icmp .ge 9, 3) := by decide +kernel
theorem dL_cell_6 : decode cL_cell 6 = .ok (.aload_n 0, 1) := by decide +kernel
theorem dL_cell_7 : decode cL_cell 7 = .ok (.iload_n 1, 1) := by decide +kernel
theorem dL_cell_8 : decode cL_cell 8 = .ok (.iaload, 1) := by decide +kernel
theorem dL_cell_9 : decode cL_cell 9 = .ok (.goto 7, 3) := by decide +kernel
theorem dL_cell_12 : decode cL_cell 12 = .ok (.ldc 7, 2) := by decide +kernel
theorem dL_cell_14 : decode cL_cell 14 = .ok (.iload_n 1, 1) := by decide +kernel
theorem dL_cell_15 : decode cL_cell 15 = .ok (.imul, 1) := by decide +kernel
theorem dL_cell_16 : decode cL_cell 16 = .ok (.ireturn, 1) := by decide +kernel
theorem dL_pick_0 : decode cL_pick 0 = .ok (.aload_n 0, 1) := by decide +kernel
theorem dL_pick_1 : decode cL_pick 1 = .ok (.iload_n 1, 1) := by decide +kernel
theorem dL_pick_2 : decode cL_pick 2 = .ok (.invokestatic 8, 3) := by decide +kernel
theorem dL_pick_5 : decode cL_pick 5 = .ok (.iconst 1, 1) := by decide +kernel
theorem dL_pick_6 : decode cL_pick 6 = .ok (.iushr, 1) := by decide +kernel
theorem dL_pick_7 : decode cL_pick 7 = .ok (.iload_n 2, 1) := by decide +kernel
theorem dL_pick_8 : decode cL_pick 8 = .ok (.irem, 1) := by decide +kernel
theorem dL_pick_9 : decode cL_pick 9 = .ok (.ireturn, 1) := by decide +kernel
theorem dL_runs_0 : decode cL_runs 0 = .ok (.iconst 0, 1) := by decide +kernel
theorem dL_runs_1 : decode cL_runs 1 = .ok (.istore_n 2, 1) := by decide +kernel
theorem dL_runs_2 : decode cL_runs 2 = .ok (.iload_n 2, 1) := by decide +kernel
theorem dL_runs_3 : decode cL_runs 3 = .ok (.aload_n 1, 1) := by decide +kernel
theorem dL_runs_4 : decode cL_runs 4 = .ok (.invokevirtual 14, 3) := by decide +kernel
theorem dL_runs_7 : decode cL_runs 7 = .ok (.if_icmp .ge 19, 3) := by decide +kernel
theorem dL_runs_10 : decode cL_runs 10 = .ok (.aload_n 0, 1) := by decide +kernel
theorem dL_runs_11 : decode cL_runs 11 = .ok (.aload_n 1, 1) := by decide +kernel
theorem dL_runs_12 : decode cL_runs 12 = .ok (.iload_n 2, 1) := by decide +kernel
theorem dL_runs_13 : decode cL_runs 13 = .ok (.invokevirtual 20, 3) := by decide +kernel
theorem dL_runs_16 : decode cL_runs 16 = .ok (.invokevirtual 24, 3) := by decide +kernel
theorem dL_runs_19 : decode cL_runs 19 = .ok (.istore_n 3, 1) := by decide +kernel
theorem dL_runs_20 : decode cL_runs 20 = .ok (.iinc 2 1, 3) := by decide +kernel
theorem dL_runs_23 : decode cL_runs 23 = .ok (.goto (-21), 3) := by decide +kernel
theorem dL_runs_26 : decode cL_runs 26 = .ok (.aload_n 0, 1) := by decide +kernel
theorem dL_runs_27 : decode cL_runs 27 = .ok (.invokevirtual 30, 3) := by decide +kernel
theorem dL_runs_30 : decode cL_runs 30 = .ok (.ireturn, 1) := by decide +kernel
theorem dL_law_0 : decode cL_law 0 = .ok (.new 25, 3) := by decide +kernel
theorem dL_law_3 : decode cL_law 3 = .ok (.dup, 1) := by decide +kernel
theorem dL_law_4 : decode cL_law 4 = .ok (.invokespecial 40, 3) := by decide +kernel
theorem dL_law_7 : decode cL_law 7 = .ok (.astore_n 1, 1) := by decide +kernel
theorem dL_law_8 : decode cL_law 8 = .ok (.bipush 60, 2) := by decide +kernel
theorem dL_law_10 : decode cL_law 10 = .ok (.newarray .long, 2) := by decide +kernel
theorem dL_law_12 : decode cL_law 12 = .ok (.astore_n 2, 1) := by decide +kernel
theorem dL_law_13 : decode cL_law 13 = .ok (.iconst 0, 1) := by decide +kernel
theorem dL_law_14 : decode cL_law 14 = .ok (.istore_n 3, 1) := by decide +kernel
theorem dL_law_15 : decode cL_law 15 = .ok (.aload_n 2, 1) := by decide +kernel
theorem dL_law_16 : decode cL_law 16 = .ok (.iload_n 3, 1) := by decide +kernel
theorem dL_law_17 : decode cL_law 17 = .ok (.aload_n 1, 1) := by decide +kernel
theorem dL_law_18 : decode cL_law 18 = .ok (.invokestatic 41, 3) := by decide +kernel
theorem dL_law_21 : decode cL_law 21 = .ok (.lastore, 1) := by decide +kernel
theorem dL_law_22 : decode cL_law 22 = .ok (.iconst 0, 1) := by decide +kernel
theorem dL_law_23 : decode cL_law 23 = .ok (.istore 4, 2) := by decide +kernel
theorem dL_law_25 : decode cL_law 25 = .ok (.iconst 0, 1) := by decide +kernel
theorem dL_law_26 : decode cL_law 26 = .ok (.istore 5, 2) := by decide +kernel
theorem dL_law_28 : decode cL_law 28 = .ok (.iload 5, 2) := by decide +kernel
theorem dL_law_30 : decode cL_law 30 = .ok (.bipush 50, 2) := by decide +kernel
theorem dL_law_32 : decode cL_law 32 = .ok (.if_icmp .ge 109, 3) := by decide +kernel
theorem dL_law_35 : decode cL_law 35 = .ok (.aload_n 1, 1) := by decide +kernel
theorem dL_law_36 : decode cL_law 36 = .ok (.invokestatic 41, 3) := by decide +kernel
theorem dL_law_39 : decode cL_law 39 = .ok (.lstore 6, 2) := by decide +kernel
theorem dL_law_41 : decode cL_law 41 = .ok (.aload_n 1, 1) := by decide +kernel
theorem dL_law_42 : decode cL_law 42 = .ok (.bipush 17, 2) := by decide +kernel
theorem dL_law_44 : decode cL_law 44 = .ok (.invokevirtual 45, 3) := by decide +kernel
theorem dL_law_47 : decode cL_law 47 = .ok (.istore 8, 2) := by decide +kernel
theorem dL_law_49 : decode cL_law 49 = .ok (.aload_n 0, 1) := by decide +kernel
theorem dL_law_50 : decode cL_law 50 = .ok (.iload 4, 2) := by decide +kernel
theorem dL_law_52 : decode cL_law 52 = .ok (.aload_n 0, 1) := by decide +kernel
theorem dL_law_53 : decode cL_law 53 = .ok (.iload 4, 2) := by decide +kernel
theorem dL_law_55 : decode cL_law 55 = .ok (.bipush 22, 2) := by decide +kernel
theorem dL_law_57 : decode cL_law 57 = .ok (.invokestatic 48, 3) := by decide +kernel
theorem dL_law_60 : decode cL_law 60 = .ok (.aload_n 1, 1) := by decide +kernel
theorem dL_law_61 : decode cL_law 61 = .ok (.invokestatic 52, 3) := by decide +kernel
theorem dL_law_64 : decode cL_law 64 = .ok (.istore 9, 2) := by decide +kernel
theorem dL_law_66 : decode cL_law 66 = .ok (.iinc 4 5, 3) := by decide +kernel
theorem dL_law_69 : decode cL_law 69 = .ok (.iload 9, 2) := by decide +kernel
theorem dL_law_71 : decode cL_law 71 = .ok (.ldc 56, 2) := by decide +kernel
theorem dL_law_73 : decode cL_law 73 = .ok (.if_icmp .eq 10, 3) := by decide +kernel
theorem dL_law_76 : decode cL_law 76 = .ok (.aload_n 1, 1) := by decide +kernel
theorem dL_law_77 : decode cL_law 77 = .ok (.invokestatic 57, 3) := by decide +kernel
theorem dL_law_80 : decode cL_law 80 = .ok (.ifCond .ne 5, 3) := by decide +kernel
theorem dL_law_83 : decode cL_law 83 = .ok (.iconst 0, 1) := by decide +kernel
theorem dL_law_84 : decode cL_law 84 = .ok (.ireturn, 1) := by decide +kernel
theorem dL_law_85 : decode cL_law 85 = .ok (.iload 9, 2) := by decide +kernel
theorem dL_law_87 : decode cL_law 87 = .ok (.sipush (-10001), 3) := by decide +kernel
theorem dL_law_90 : decode cL_law 90 = .ok (.if_icmp .gt 35, 3) := by decide +kernel
theorem dL_law_93 : decode cL_law 93 = .ok (.aload_n 1, 1) := by decide +kernel
theorem dL_law_94 : decode cL_law 94 = .ok (.invokestatic 41, 3) := by decide +kernel
theorem dL_law_97 : decode cL_law 97 = .ok (.lload 6, 2) := by decide +kernel
theorem dL_law_99 : decode cL_law 99 = .ok (.lcmp, 1) := by decide +kernel
theorem dL_law_100 : decode cL_law 100 = .ok (.ifCond .ne 23, 3) := by decide +kernel
theorem dL_law_103 : decode cL_law 103 = .ok (.aload_n 1, 1) := by decide +kernel
theorem dL_law_104 : decode cL_law 104 = .ok (.bipush 17, 2) := by decide +kernel
theorem dL_law_106 : decode cL_law 106 = .ok (.invokevirtual 45, 3) := by decide +kernel
theorem dL_law_109 : decode cL_law 109 = .ok (.iload 8, 2) := by decide +kernel
theorem dL_law_111 : decode cL_law 111 = .ok (.if_icmp .ne 12, 3) := by decide +kernel
theorem dL_law_114 : decode cL_law 114 = .ok (.aload_n 1, 1) := by decide +kernel
theorem dL_law_115 : decode cL_law 115 = .ok (.bipush 16, 2) := by decide +kernel
theorem dL_law_117 : decode cL_law 117 = .ok (.invokevirtual 45, 3) := by decide +kernel
theorem dL_law_120 : decode cL_law 120 = .ok (.ifCond .eq 15, 3) := by decide +kernel
theorem dL_law_123 : decode cL_law 123 = .ok (.iconst 0, 1) := by decide +kernel
theorem dL_law_124 : decode cL_law 124 = .ok (.ireturn, 1) := by decide +kernel
theorem dL_law_125 : decode cL_law 125 = .ok (.iinc 3 1, 3) := by decide +kernel
theorem dL_law_128 : decode cL_law 128 = .ok (.aload_n 2, 1) := by decide +kernel
theorem dL_law_129 : decode cL_law 129 = .ok (.iload_n 3, 1) := by decide +kernel
theorem dL_law_130 : decode cL_law 130 = .ok (.aload_n 1, 1) := by decide +kernel
theorem dL_law_131 : decode cL_law 131 = .ok (.invokestatic 41, 3) := by decide +kernel
theorem dL_law_134 : decode cL_law 134 = .ok (.lastore, 1) := by decide +kernel
theorem dL_law_135 : decode cL_law 135 = .ok (.iinc 5 1, 3) := by decide +kernel
theorem dL_law_138 : decode cL_law 138 = .ok (.goto (-110), 3) := by decide +kernel
theorem dL_law_141 : decode cL_law 141 = .ok (.aload_n 1, 1) := by decide +kernel
theorem dL_law_142 : decode cL_law 142 = .ok (.aload_n 2, 1) := by decide +kernel
theorem dL_law_143 : decode cL_law 143 = .ok (.iload_n 3, 1) := by decide +kernel
theorem dL_law_144 : decode cL_law 144 = .ok (.invokestatic 61, 3) := by decide +kernel
theorem dL_law_147 : decode cL_law 147 = .ok (.ireturn, 1) := by decide +kernel
theorem dL_does_0 : decode cL_does 0 = .ok (.aload_n 0, 1) := by decide +kernel
theorem dL_does_1 : decode cL_does 1 = .ok (.iload_n 1, 1) := by decide +kernel
theorem dL_does_2 : decode cL_does 2 = .ok (.iconst 1, 1) := by decide +kernel
theorem dL_does_3 : decode cL_does 3 = .ok (.iadd, 1) := by decide +kernel
theorem dL_does_4 : decode cL_does 4 = .ok (.sipush 1000, 3) := by decide +kernel
theorem dL_does_7 : decode cL_does 7 = .ok (.invokestatic 48, 3) := by decide +kernel
theorem dL_does_10 : decode cL_does 10 = .ok (.istore 4, 2) := by decide +kernel
theorem dL_does_12 : decode cL_does 12 = .ok (.aload_n 0, 1) := by decide +kernel
theorem dL_does_13 : decode cL_does 13 = .ok (.iload_n 1, 1) := by decide +kernel
theorem dL_does_14 : decode cL_does 14 = .ok (.iconst 2, 1) := by decide +kernel
theorem dL_does_15 : decode cL_does 15 = .ok (.iadd, 1) := by decide +kernel
theorem dL_does_16 : decode cL_does 16 = .ok (.sipush 1000, 3) := by decide +kernel
theorem dL_does_19 : decode cL_does 19 = .ok (.invokestatic 48, 3) := by decide +kernel
theorem dL_does_22 : decode cL_does 22 = .ok (.istore 5, 2) := by decide +kernel
theorem dL_does_24 : decode cL_does 24 = .ok (.iload_n 2, 1) := by decide +kernel
theorem dL_does_25 : decode cL_does 25 = .ok (.tableswitch 381 0 16 #[83, 83, 111, 111, 131, 157, 157, 167, 167, 167, 192, 192, 216, 216, 216, 226, 236], 83) := by decide +kernel
theorem dL_does_108 : decode cL_does 108 = .ok (.aload_n 3, 1) := by decide +kernel
theorem dL_does_109 : decode cL_does 109 = .ok (.iload 5, 2) := by decide +kernel
theorem dL_does_111 : decode cL_does 111 = .ok (.iconst 4, 1) := by decide +kernel
theorem dL_does_112 : decode cL_does 112 = .ok (.irem, 1) := by decide +kernel
theorem dL_does_113 : decode cL_does 113 = .ok (.ifCond .ne 14, 3) := by decide +kernel
theorem dL_does_116 : decode cL_does 116 = .ok (.bipush 10, 2) := by decide +kernel
theorem dL_does_118 : decode cL_does 118 = .ok (.iload 4, 2) := by decide +kernel
theorem dL_does_120 : decode cL_does 120 = .ok (.bipush 60, 2) := by decide +kernel
theorem dL_does_122 : decode cL_does 122 = .ok (.irem, 1) := by decide +kernel
theorem dL_does_123 : decode cL_does 123 = .ok (.iadd, 1) := by decide +kernel
theorem dL_does_124 : decode cL_does 124 = .ok (.goto 8, 3) := by decide +kernel
theorem dL_does_127 : decode cL_does 127 = .ok (.bipush 60, 2) := by decide +kernel
theorem dL_does_129 : decode cL_does 129 = .ok (.iload 5, 2) := by decide +kernel
theorem dL_does_131 : decode cL_does 131 = .ok (.iadd, 1) := by decide +kernel
theorem dL_does_132 : decode cL_does 132 = .ok (.invokevirtual 65, 3) := by decide +kernel
theorem dL_does_135 : decode cL_does 135 = .ok (.ireturn, 1) := by decide +kernel
theorem dL_does_136 : decode cL_does 136 = .ok (.aload_n 3, 1) := by decide +kernel
theorem dL_does_137 : decode cL_does 137 = .ok (.iload 4, 2) := by decide +kernel
theorem dL_does_139 : decode cL_does 139 = .ok (.bipush 52, 2) := by decide +kernel
theorem dL_does_141 : decode cL_does 141 = .ok (.irem, 1) := by decide +kernel
theorem dL_does_142 : decode cL_does 142 = .ok (.iload 5, 2) := by decide +kernel
theorem dL_does_144 : decode cL_does 144 = .ok (.bipush 40, 2) := by decide +kernel
theorem dL_does_146 : decode cL_does 146 = .ok (.irem, 1) := by decide +kernel
theorem dL_does_147 : decode cL_does 147 = .ok (.iload 4, 2) := by decide +kernel
theorem dL_does_149 : decode cL_does 149 = .ok (.bipush 30, 2) := by decide +kernel
theorem dL_does_151 : decode cL_does 151 = .ok (.idiv, 1) := by decide +kernel
theorem dL_does_152 : decode cL_does 152 = .ok (.invokevirtual 68, 3) := by decide +kernel
theorem dL_does_155 : decode cL_does 155 = .ok (.ireturn, 1) := by decide +kernel
theorem dL_does_156 : decode cL_does 156 = .ok (.aload_n 3, 1) := by decide +kernel
theorem dL_does_157 : decode cL_does 157 = .ok (.iload 5, 2) := by decide +kernel
theorem dL_does_159 : decode cL_does 159 = .ok (.iconst 5, 1) := by decide +kernel
theorem dL_does_160 : decode cL_does 160 = .ok (.irem, 1) := by decide +kernel
theorem dL_does_161 : decode cL_does 161 = .ok (.ifCond .ne 11, 3) := by decide +kernel
theorem dL_does_164 : decode cL_does 164 = .ok (.bipush 10, 2) := by decide +kernel
theorem dL_does_166 : decode cL_does 166 = .ok (.iload 5, 2) := by decide +kernel
theorem dL_does_168 : decode cL_does 168 = .ok (.imul, 1) := by decide +kernel
theorem dL_does_169 : decode cL_does 169 = .ok (.goto 9, 3) := by decide +kernel
theorem dL_does_172 : decode cL_does 172 = .ok (.iload 5, 2) := by decide +kernel
theorem dL_does_174 : decode cL_does 174 = .ok (.sipush 400, 3) := by decide +kernel
theorem dL_does_177 : decode cL_does 177 = .ok (.irem, 1) := by decide +kernel
theorem dL_does_178 : decode cL_does 178 = .ok (.invokevirtual 72, 3) := by decide +kernel
theorem dL_does_181 : decode cL_does 181 = .ok (.ireturn, 1) := by decide +kernel
theorem dL_does_182 : decode cL_does 182 = .ok (.aload_n 3, 1) := by decide +kernel
theorem dL_does_183 : decode cL_does 183 = .ok (.iload 5, 2) := by decide +kernel
theorem dL_does_185 : decode cL_does 185 = .ok (.bipush 7, 2) := by decide +kernel
theorem dL_does_187 : decode cL_does 187 = .ok (.irem, 1) := by decide +kernel
theorem dL_does_188 : decode cL_does 188 = .ok (.invokevirtual 75, 3) := by decide +kernel
theorem dL_does_191 : decode cL_does 191 = .ok (.ireturn, 1) := by decide +kernel
theorem dL_does_192 : decode cL_does 192 = .ok (.aload_n 3, 1) := by decide +kernel
theorem dL_does_193 : decode cL_does 193 = .ok (.iload 5, 2) := by decide +kernel
theorem dL_does_195 : decode cL_does 195 = .ok (.iconst 3, 1) := by decide +kernel
theorem dL_does_196 : decode cL_does 196 = .ok (.irem, 1) := by decide +kernel
theorem dL_does_197 : decode cL_does 197 = .ok (.ifCond .ne 11, 3) := by decide +kernel
theorem dL_does_200 : decode cL_does 200 = .ok (.bipush 11, 2) := by decide +kernel
theorem dL_does_202 : decode cL_does 202 = .ok (.iload 5, 2) := by decide +kernel
theorem dL_does_204 : decode cL_does 204 = .ok (.imul, 1) := by decide +kernel
theorem dL_does_205 : decode cL_does 205 = .ok (.goto 8, 3) := by decide +kernel
theorem dL_does_208 : decode cL_does 208 = .ok (.iload 5, 2) := by decide +kernel
theorem dL_does_210 : decode cL_does 210 = .ok (.bipush 120, 2) := by decide +kernel
theorem dL_does_212 : decode cL_does 212 = .ok (.irem, 1) := by decide +kernel
theorem dL_does_213 : decode cL_does 213 = .ok (.invokevirtual 78, 3) := by decide +kernel
theorem dL_does_216 : decode cL_does 216 = .ok (.ireturn, 1) := by decide +kernel
theorem dL_does_217 : decode cL_does 217 = .ok (.aload_n 3, 1) := by decide +kernel
theorem dL_does_218 : decode cL_does 218 = .ok (.iload 4, 2) := by decide +kernel
theorem dL_does_220 : decode cL_does 220 = .ok (.bipush 63, 2) := by decide +kernel
theorem dL_does_222 : decode cL_does 222 = .ok (.irem, 1) := by decide +kernel
theorem dL_does_223 : decode cL_does 223 = .ok (.bipush 90, 2) := by decide +kernel
theorem dL_does_225 : decode cL_does 225 = .ok (.iload 5, 2) := by decide +kernel
theorem dL_does_227 : decode cL_does 227 = .ok (.sipush 300, 3) := by decide +kernel
theorem dL_does_230 : decode cL_does 230 = .ok (.irem, 1) := by decide +kernel
theorem dL_does_231 : decode cL_does 231 = .ok (.iadd, 1) := by decide +kernel
theorem dL_does_232 : decode cL_does 232 = .ok (.iload 4, 2) := by decide +kernel
theorem dL_does_234 : decode cL_does 234 = .ok (.bipush 14, 2) := by decide +kernel
theorem dL_does_236 : decode cL_does 236 = .ok (.irem, 1) := by decide +kernel
theorem dL_does_237 : decode cL_does 237 = .ok (.invokevirtual 81, 3) := by decide +kernel
theorem dL_does_240 : decode cL_does 240 = .ok (.ireturn, 1) := by decide +kernel
theorem dL_does_241 : decode cL_does 241 = .ok (.aload_n 3, 1) := by decide +kernel
theorem dL_does_242 : decode cL_does 242 = .ok (.iload 5, 2) := by decide +kernel
theorem dL_does_244 : decode cL_does 244 = .ok (.bipush 9, 2) := by decide +kernel
theorem dL_does_246 : decode cL_does 246 = .ok (.irem, 1) := by decide +kernel
theorem dL_does_247 : decode cL_does 247 = .ok (.invokevirtual 84, 3) := by decide +kernel
theorem dL_does_250 : decode cL_does 250 = .ok (.ireturn, 1) := by decide +kernel
theorem dL_does_251 : decode cL_does 251 = .ok (.aload_n 3, 1) := by decide +kernel
theorem dL_does_252 : decode cL_does 252 = .ok (.iload 5, 2) := by decide +kernel
theorem dL_does_254 : decode cL_does 254 = .ok (.bipush 9, 2) := by decide +kernel
theorem dL_does_256 : decode cL_does 256 = .ok (.irem, 1) := by decide +kernel
theorem dL_does_257 : decode cL_does 257 = .ok (.invokevirtual 87, 3) := by decide +kernel
theorem dL_does_260 : decode cL_does 260 = .ok (.ireturn, 1) := by decide +kernel
theorem dL_does_261 : decode cL_does 261 = .ok (.aload_n 3, 1) := by decide +kernel
theorem dL_does_262 : decode cL_does 262 = .ok (.new 90, 3) := by decide +kernel
theorem dL_does_265 : decode cL_does 265 = .ok (.dup, 1) := by decide +kernel
theorem dL_does_266 : decode cL_does 266 = .ok (.invokespecial 92, 3) := by decide +kernel
theorem dL_does_269 : decode cL_does 269 = .ok (.ldc 93, 2) := by decide +kernel
theorem dL_does_271 : decode cL_does 271 = .ok (.invokevirtual 95, 3) := by decide +kernel
theorem dL_does_274 : decode cL_does 274 = .ok (.iconst 1, 1) := by decide +kernel
theorem dL_does_275 : decode cL_does 275 = .ok (.iload 4, 2) := by decide +kernel
theorem dL_does_277 : decode cL_does 277 = .ok (.sipush 300, 3) := by decide +kernel
theorem dL_does_280 : decode cL_does 280 = .ok (.irem, 1) := by decide +kernel
theorem dL_does_281 : decode cL_does 281 = .ok (.iadd, 1) := by decide +kernel
theorem dL_does_282 : decode cL_does 282 = .ok (.invokevirtual 98, 3) := by decide +kernel
theorem dL_does_285 : decode cL_does 285 = .ok (.ldc 101, 2) := by decide +kernel
theorem dL_does_287 : decode cL_does 287 = .ok (.invokevirtual 95, 3) := by decide +kernel
theorem dL_does_290 : decode cL_does 290 = .ok (.iload 4, 2) := by decide +kernel
theorem dL_does_292 : decode cL_does 292 = .ok (.bipush 62, 2) := by decide +kernel
theorem dL_does_294 : decode cL_does 294 = .ok (.irem, 1) := by decide +kernel
theorem dL_does_295 : decode cL_does 295 = .ok (.invokevirtual 98, 3) := by decide +kernel
theorem dL_does_298 : decode cL_does 298 = .ok (.ldc 103, 2) := by decide +kernel
theorem dL_does_300 : decode cL_does 300 = .ok (.invokevirtual 95, 3) := by decide +kernel
theorem dL_does_303 : decode cL_does 303 = .ok (.bipush 95, 2) := by decide +kernel
theorem dL_does_305 : decode cL_does 305 = .ok (.iload 5, 2) := by decide +kernel
theorem dL_does_307 : decode cL_does 307 = .ok (.bipush 99, 2) := by decide +kernel
theorem dL_does_309 : decode cL_does 309 = .ok (.irem, 1) := by decide +kernel
theorem dL_does_310 : decode cL_does 310 = .ok (.iadd, 1) := by decide +kernel
theorem dL_does_311 : decode cL_does 311 = .ok (.invokevirtual 98, 3) := by decide +kernel
theorem dL_does_314 : decode cL_does 314 = .ok (.ldc 103, 2) := by decide +kernel
theorem dL_does_316 : decode cL_does 316 = .ok (.invokevirtual 95, 3) := by decide +kernel
theorem dL_does_319 : decode cL_does 319 = .ok (.iload 4, 2) := by decide +kernel
theorem dL_does_321 : decode cL_does 321 = .ok (.bipush 9, 2) := by decide +kernel
theorem dL_does_323 : decode cL_does 323 = .ok (.irem, 1) := by decide +kernel
theorem dL_does_324 : decode cL_does 324 = .ok (.invokevirtual 98, 3) := by decide +kernel
theorem dL_does_327 : decode cL_does 327 = .ok (.iload 4, 2) := by decide +kernel
theorem dL_does_329 : decode cL_does 329 = .ok (.iconst 3, 1) := by decide +kernel
theorem dL_does_330 : decode cL_does 330 = .ok (.irem, 1) := by decide +kernel
theorem dL_does_331 : decode cL_does 331 = .ok (.ifCond .ne 29, 3) := by decide +kernel
theorem dL_does_334 : decode cL_does 334 = .ok (.new 90, 3) := by decide +kernel
theorem dL_does_337 : decode cL_does 337 = .ok (.dup, 1) := by decide +kernel
theorem dL_does_338 : decode cL_does 338 = .ok (.invokespecial 92, 3) := by decide +kernel
theorem dL_does_341 : decode cL_does 341 = .ok (.ldc 105, 2) := by decide +kernel
theorem dL_does_343 : decode cL_does 343 = .ok (.invokevirtual 95, 3) := by decide +kernel
theorem dL_does_346 : decode cL_does 346 = .ok (.iload 5, 2) := by decide +kernel
theorem dL_does_348 : decode cL_does 348 = .ok (.bipush 8, 2) := by decide +kernel
theorem dL_does_350 : decode cL_does 350 = .ok (.irem, 1) := by decide +kernel
theorem dL_does_351 : decode cL_does 351 = .ok (.invokevirtual 98, 3) := by decide +kernel
theorem dL_does_354 : decode cL_does 354 = .ok (.invokevirtual 107, 3) := by decide +kernel
theorem dL_does_357 : decode cL_does 357 = .ok (.goto 39, 3) := by decide +kernel
theorem dL_does_360 : decode cL_does 360 = .ok (.iload 4, 2) := by decide +kernel
theorem dL_does_362 : decode cL_does 362 = .ok (.iconst 3, 1) := by decide +kernel
theorem dL_does_363 : decode cL_does 363 = .ok (.irem, 1) := by decide +kernel
theorem dL_does_364 : decode cL_does 364 = .ok (.iconst 1, 1) := by decide +kernel
theorem dL_does_365 : decode cL_does 365 = .ok (.if_icmp .ne 29, 3) := by decide +kernel
theorem dL_does_368 : decode cL_does 368 = .ok (.new 90, 3) := by decide +kernel
theorem dL_does_371 : decode cL_does 371 = .ok (.dup, 1) := by decide +kernel
theorem dL_does_372 : decode cL_does 372 = .ok (.invokespecial 92, 3) := by decide +kernel
theorem dL_does_375 : decode cL_does 375 = .ok (.ldc 111, 2) := by decide +kernel
theorem dL_does_377 : decode cL_does 377 = .ok (.invokevirtual 95, 3) := by decide +kernel
theorem dL_does_380 : decode cL_does 380 = .ok (.iload 5, 2) := by decide +kernel
theorem dL_does_382 : decode cL_does 382 = .ok (.bipush 7, 2) := by decide +kernel
theorem dL_does_384 : decode cL_does 384 = .ok (.irem, 1) := by decide +kernel
theorem dL_does_385 : decode cL_does 385 = .ok (.invokevirtual 98, 3) := by decide +kernel
theorem dL_does_388 : decode cL_does 388 = .ok (.invokevirtual 107, 3) := by decide +kernel
theorem dL_does_391 : decode cL_does 391 = .ok (.goto 5, 3) := by decide +kernel
theorem dL_does_394 : decode cL_does 394 = .ok (.ldc 113, 2) := by decide +kernel
theorem dL_does_396 : decode cL_does 396 = .ok (.invokevirtual 95, 3) := by decide +kernel
theorem dL_does_399 : decode cL_does 399 = .ok (.invokevirtual 107, 3) := by decide +kernel
theorem dL_does_402 : decode cL_does 402 = .ok (.invokestatic 115, 3) := by decide +kernel
theorem dL_does_405 : decode cL_does 405 = .ok (.ireturn, 1) := by decide +kernel
theorem dL_does_406 : decode cL_does 406 = .ok (.aload_n 3, 1) := by decide +kernel
theorem dL_does_407 : decode cL_does 407 = .ok (.iload 4, 2) := by decide +kernel
theorem dL_does_409 : decode cL_does 409 = .ok (.bipush 6, 2) := by decide +kernel
theorem dL_does_411 : decode cL_does 411 = .ok (.irem, 1) := by decide +kernel
theorem dL_does_412 : decode cL_does 412 = .ok (.ifCond .ne 12, 3) := by decide +kernel
theorem dL_does_415 : decode cL_does 415 = .ok (.iload 4, 2) := by decide +kernel
theorem dL_does_417 : decode cL_does 417 = .ok (.sipush 305, 3) := by decide +kernel
theorem dL_does_420 : decode cL_does 420 = .ok (.irem, 1) := by decide +kernel
theorem dL_does_421 : decode cL_does 421 = .ok (.goto 10, 3) := by decide +kernel
theorem dL_does_424 : decode cL_does 424 = .ok (.iconst 1, 1) := by decide +kernel
theorem dL_does_425 : decode cL_does 425 = .ok (.iload 4, 2) := by decide +kernel
theorem dL_does_427 : decode cL_does 427 = .ok (.bipush 9, 2) := by decide +kernel
theorem dL_does_429 : decode cL_does 429 = .ok (.irem, 1) := by decide +kernel
theorem dL_does_430 : decode cL_does 430 = .ok (.iadd, 1) := by decide +kernel
theorem dL_does_431 : decode cL_does 431 = .ok (.invokestatic 119, 3) := by decide +kernel
theorem dL_does_434 : decode cL_does 434 = .ok (.ireturn, 1) := by decide +kernel
theorem dL_goes_0 : decode cL_goes 0 = .ok (.aload_n 0, 1) := by decide +kernel
theorem dL_goes_1 : decode cL_goes 1 = .ok (.iload_n 1, 1) := by decide +kernel
theorem dL_goes_2 : decode cL_goes 2 = .ok (.invokevirtual 123, 3) := by decide +kernel
theorem dL_goes_5 : decode cL_goes 5 = .ok (.istore_n 2, 1) := by decide +kernel
theorem dL_goes_6 : decode cL_goes 6 = .ok (.aload_n 0, 1) := by decide +kernel
theorem dL_goes_7 : decode cL_goes 7 = .ok (.iload_n 1, 1) := by decide +kernel
theorem dL_goes_8 : decode cL_goes 8 = .ok (.invokevirtual 126, 3) := by decide +kernel
theorem dL_goes_11 : decode cL_goes 11 = .ok (.istore_n 3, 1) := by decide +kernel
theorem dL_goes_12 : decode cL_goes 12 = .ok (.aload_n 0, 1) := by decide +kernel
theorem dL_goes_13 : decode cL_goes 13 = .ok (.iload_n 1, 1) := by decide +kernel
theorem dL_goes_14 : decode cL_goes 14 = .ok (.invokevirtual 129, 3) := by decide +kernel
theorem dL_goes_17 : decode cL_goes 17 = .ok (.istore 4, 2) := by decide +kernel
theorem dL_goes_19 : decode cL_goes 19 = .ok (.aload_n 0, 1) := by decide +kernel
theorem dL_goes_20 : decode cL_goes 20 = .ok (.bipush 14, 2) := by decide +kernel
theorem dL_goes_22 : decode cL_goes 22 = .ok (.invokevirtual 45, 3) := by decide +kernel
theorem dL_goes_25 : decode cL_goes 25 = .ok (.istore 5, 2) := by decide +kernel
theorem dL_goes_27 : decode cL_goes 27 = .ok (.aload_n 0, 1) := by decide +kernel
theorem dL_goes_28 : decode cL_goes 28 = .ok (.invokevirtual 132, 3) := by decide +kernel
theorem dL_goes_31 : decode cL_goes 31 = .ok (.istore 6, 2) := by decide +kernel
theorem dL_goes_33 : decode cL_goes 33 = .ok (.aload_n 0, 1) := by decide +kernel
theorem dL_goes_34 : decode cL_goes 34 = .ok (.bipush 6, 2) := by decide +kernel
theorem dL_goes_36 : decode cL_goes 36 = .ok (.invokevirtual 45, 3) := by decide +kernel
theorem dL_goes_39 : decode cL_goes 39 = .ok (.istore 7, 2) := by decide +kernel
theorem dL_goes_41 : decode cL_goes 41 = .ok (.iconst 0, 1) := by decide +kernel
theorem dL_goes_42 : decode cL_goes 42 = .ok (.istore 8, 2) := by decide +kernel
theorem dL_goes_44 : decode cL_goes 44 = .ok (.aload_n 0, 1) := by decide +kernel
theorem dL_goes_45 : decode cL_goes 45 = .ok (.invokevirtual 135, 3) := by decide +kernel
theorem dL_goes_48 : decode cL_goes 48 = .ok (.istore 9, 2) := by decide +kernel
theorem dL_goes_50 : decode cL_goes 50 = .ok (.iconst 0, 1) := by decide +kernel
theorem dL_goes_51 : decode cL_goes 51 = .ok (.istore 10, 2) := by decide +kernel
theorem dL_goes_53 : decode cL_goes 53 = .ok (.iload 10, 2) := by decide +kernel
theorem dL_goes_55 : decode cL_goes 55 = .ok (.iload 9, 2) := by decide +kernel
theorem dL_goes_57 : decode cL_goes 57 = .ok (.if_icmp .ge 30, 3) := by decide +kernel
theorem dL_goes_60 : decode cL_goes 60 = .ok (.iload 8, 2) := by decide +kernel
theorem dL_goes_62 : decode cL_goes 62 = .ok (.aload_n 0, 1) := by decide +kernel
theorem dL_goes_63 : decode cL_goes 63 = .ok (.iload 10, 2) := by decide +kernel
theorem dL_goes_65 : decode cL_goes 65 = .ok (.invokevirtual 37, 3) := by decide +kernel
theorem dL_goes_68 : decode cL_goes 68 = .ok (.bipush 126, 2) := by decide +kernel
theorem dL_goes_70 : decode cL_goes 70 = .ok (.if_icmp .ne 7, 3) := by decide +kernel
theorem dL_goes_73 : decode cL_goes 73 = .ok (.iconst 1, 1) := by decide +kernel
theorem dL_goes_74 : decode cL_goes 74 = .ok (.goto 4, 3) := by decide +kernel
theorem dL_goes_77 : decode cL_goes 77 = .ok (.iconst 0, 1) := by decide +kernel
theorem dL_goes_78 : decode cL_goes 78 = .ok (.iadd, 1) := by decide +kernel
theorem dL_goes_79 : decode cL_goes 79 = .ok (.istore 8, 2) := by decide +kernel
theorem dL_goes_81 : decode cL_goes 81 = .ok (.iinc 10 1, 3) := by decide +kernel
theorem dL_goes_84 : decode cL_goes 84 = .ok (.goto (-31), 3) := by decide +kernel
theorem dL_goes_87 : decode cL_goes 87 = .ok (.bipush 8, 2) := by decide +kernel
theorem dL_goes_89 : decode cL_goes 89 = .ok (.newarray .int, 2) := by decide +kernel
theorem dL_goes_91 : decode cL_goes 91 = .ok (.astore 10, 2) := by decide +kernel
theorem dL_goes_93 : decode cL_goes 93 = .ok (.iconst 0, 1) := by decide +kernel
theorem dL_goes_94 : decode cL_goes 94 = .ok (.istore 11, 2) := by decide +kernel
theorem dL_goes_96 : decode cL_goes 96 = .ok (.iload 11, 2) := by decide +kernel
theorem dL_goes_98 : decode cL_goes 98 = .ok (.bipush 8, 2) := by decide +kernel
theorem dL_goes_100 : decode cL_goes 100 = .ok (.if_icmp .ge 20, 3) := by decide +kernel
theorem dL_goes_103 : decode cL_goes 103 = .ok (.aload 10, 2) := by decide +kernel
theorem dL_goes_105 : decode cL_goes 105 = .ok (.iload 11, 2) := by decide +kernel
theorem dL_goes_107 : decode cL_goes 107 = .ok (.aload_n 0, 1) := by decide +kernel
theorem dL_goes_108 : decode cL_goes 108 = .ok (.iload 11, 2) := by decide +kernel
theorem dL_goes_110 : decode cL_goes 110 = .ok (.invokevirtual 138, 3) := by decide +kernel
theorem dL_goes_113 : decode cL_goes 113 = .ok (.iastore, 1) := by decide +kernel
theorem dL_goes_114 : decode cL_goes 114 = .ok (.iinc 11 1, 3) := by decide +kernel
theorem dL_goes_117 : decode cL_goes 117 = .ok (.goto (-21), 3) := by decide +kernel
theorem dL_goes_120 : decode cL_goes 120 = .ok (.aload_n 0, 1) := by decide +kernel
theorem dL_goes_121 : decode cL_goes 121 = .ok (.iload_n 1, 1) := by decide +kernel
theorem dL_goes_122 : decode cL_goes 122 = .ok (.invokevirtual 141, 3) := by decide +kernel
theorem dL_goes_125 : decode cL_goes 125 = .ok (.istore 11, 2) := by decide +kernel
theorem dL_goes_127 : decode cL_goes 127 = .ok (.iload 11, 2) := by decide +kernel
theorem dL_goes_129 : decode cL_goes 129 = .ok (.ifCond .ge 6, 3) := by decide +kernel
theorem dL_goes_132 : decode cL_goes 132 = .ok (.iload 11, 2) := by decide +kernel
theorem dL_goes_134 : decode cL_goes 134 = .ok (.ireturn, 1) := by decide +kernel
theorem dL_goes_135 : decode cL_goes 135 = .ok (.iload 11, 2) := by decide +kernel
theorem dL_goes_137 : decode cL_goes 137 = .ok (.iload_n 2, 1) := by decide +kernel
theorem dL_goes_138 : decode cL_goes 138 = .ok (.if_icmp .ne 34, 3) := by decide +kernel
theorem dL_goes_141 : decode cL_goes 141 = .ok (.aload_n 0, 1) := by decide +kernel
theorem dL_goes_142 : decode cL_goes 142 = .ok (.bipush 9, 2) := by decide +kernel
theorem dL_goes_144 : decode cL_goes 144 = .ok (.invokevirtual 45, 3) := by decide +kernel
theorem dL_goes_147 : decode cL_goes 147 = .ok (.iload_n 3, 1) := by decide +kernel
theorem dL_goes_148 : decode cL_goes 148 = .ok (.if_icmp .ne 24, 3) := by decide +kernel
theorem dL_goes_151 : decode cL_goes 151 = .ok (.aload_n 0, 1) := by decide +kernel
theorem dL_goes_152 : decode cL_goes 152 = .ok (.bipush 14, 2) := by decide +kernel
theorem dL_goes_154 : decode cL_goes 154 = .ok (.invokevirtual 45, 3) := by decide +kernel
theorem dL_goes_157 : decode cL_goes 157 = .ok (.iload 5, 2) := by decide +kernel
theorem dL_goes_159 : decode cL_goes 159 = .ok (.iload 4, 2) := by decide +kernel
theorem dL_goes_161 : decode cL_goes 161 = .ok (.invokestatic 144, 3) := by decide +kernel
theorem dL_goes_164 : decode cL_goes 164 = .ok (.iadd, 1) := by decide +kernel
theorem dL_goes_165 : decode cL_goes 165 = .ok (.if_icmp .ne 7, 3) := by decide +kernel
theorem dL_goes_168 : decode cL_goes 168 = .ok (.iconst 1, 1) := by decide +kernel
theorem dL_goes_169 : decode cL_goes 169 = .ok (.goto 4, 3) := by decide +kernel
theorem dL_goes_172 : decode cL_goes 172 = .ok (.iconst 0, 1) := by decide +kernel
theorem dL_goes_173 : decode cL_goes 173 = .ok (.istore 12, 2) := by decide +kernel
theorem dL_goes_175 : decode cL_goes 175 = .ok (.iload 12, 2) := by decide +kernel
theorem dL_goes_177 : decode cL_goes 177 = .ok (.iload_n 1, 1) := by decide +kernel
theorem dL_goes_178 : decode cL_goes 178 = .ok (.iconst 1, 1) := by decide +kernel
theorem dL_goes_179 : decode cL_goes 179 = .ok (.if_icmp .gt 35, 3) := by decide +kernel
theorem dL_goes_182 : decode cL_goes 182 = .ok (.iload 8, 2) := by decide +kernel
theorem dL_goes_184 : decode cL_goes 184 = .ok (.ifCond .gt 30, 3) := by decide +kernel
theorem dL_goes_187 : decode cL_goes 187 = .ok (.aload_n 0, 1) := by decide +kernel
theorem dL_goes_188 : decode cL_goes 188 = .ok (.bipush 6, 2) := by decide +kernel
theorem dL_goes_190 : decode cL_goes 190 = .ok (.invokevirtual 45, 3) := by decide +kernel
theorem dL_goes_193 : decode cL_goes 193 = .ok (.iload 7, 2) := by decide +kernel
theorem dL_goes_195 : decode cL_goes 195 = .ok (.bipush 20, 2) := by decide +kernel
theorem dL_goes_197 : decode cL_goes 197 = .ok (.isub, 1) := by decide +kernel
theorem dL_goes_198 : decode cL_goes 198 = .ok (.iload 7, 2) := by decide +kernel
theorem dL_goes_200 : decode cL_goes 200 = .ok (.bipush 20, 2) := by decide +kernel
theorem dL_goes_202 : decode cL_goes 202 = .ok (.iadd, 1) := by decide +kernel
theorem dL_goes_203 : decode cL_goes 203 = .ok (.iload 6, 2) := by decide +kernel
theorem dL_goes_205 : decode cL_goes 205 = .ok (.invokestatic 149, 3) := by decide +kernel
theorem dL_goes_208 : decode cL_goes 208 = .ok (.invokestatic 155, 3) := by decide +kernel
theorem dL_goes_211 : decode cL_goes 211 = .ok (.if_icmp .ne 7, 3) := by decide +kernel
theorem dL_goes_214 : decode cL_goes 214 = .ok (.iconst 1, 1) := by decide +kernel
theorem dL_goes_215 : decode cL_goes 215 = .ok (.goto 4, 3) := by decide +kernel
theorem dL_goes_218 : decode cL_goes 218 = .ok (.iconst 0, 1) := by decide +kernel
theorem dL_goes_219 : decode cL_goes 219 = .ok (.iand, 1) := by decide +kernel
theorem dL_goes_220 : decode cL_goes 220 = .ok (.istore 12, 2) := by decide +kernel
theorem dL_goes_222 : decode cL_goes 222 = .ok (.iconst 0, 1) := by decide +kernel
theorem dL_goes_223 : decode cL_goes 223 = .ok (.istore 13, 2) := by decide +kernel
theorem dL_goes_225 : decode cL_goes 225 = .ok (.iload 13, 2) := by decide +kernel
theorem dL_goes_227 : decode cL_goes 227 = .ok (.aload_n 0, 1) := by decide +kernel
theorem dL_goes_228 : decode cL_goes 228 = .ok (.bipush 10, 2) := by decide +kernel
theorem dL_goes_230 : decode cL_goes 230 = .ok (.invokevirtual 45, 3) := by decide +kernel
theorem dL_goes_233 : decode cL_goes 233 = .ok (.if_icmp .ge 88, 3) := by decide +kernel
theorem dL_goes_236 : decode cL_goes 236 = .ok (.iload 12, 2) := by decide +kernel
theorem dL_goes_238 : decode cL_goes 238 = .ok (.aload 10, 2) := by decide +kernel
theorem dL_goes_240 : decode cL_goes 240 = .ok (.iload 13, 2) := by decide +kernel
theorem dL_goes_242 : decode cL_goes 242 = .ok (.iaload, 1) := by decide +kernel
theorem dL_goes_243 : decode cL_goes 243 = .ok (.ifCond .lt 33, 3) := by decide +kernel
theorem dL_goes_246 : decode cL_goes 246 = .ok (.aload_n 0, 1) := by decide +kernel
theorem dL_goes_247 : decode cL_goes 247 = .ok (.iload 13, 2) := by decide +kernel
theorem dL_goes_249 : decode cL_goes 249 = .ok (.iconst 3, 1) := by decide +kernel
theorem dL_goes_250 : decode cL_goes 250 = .ok (.invokevirtual 158, 3) := by decide +kernel
theorem dL_goes_253 : decode cL_goes 253 = .ok (.aload 10, 2) := by decide +kernel
theorem dL_goes_255 : decode cL_goes 255 = .ok (.iload 13, 2) := by decide +kernel
theorem dL_goes_257 : decode cL_goes 257 = .ok (.iaload, 1) := by decide +kernel
theorem dL_goes_258 : decode cL_goes 258 = .ok (.iload_n 1, 1) := by decide +kernel
theorem dL_goes_259 : decode cL_goes 259 = .ok (.if_icmp .gt 7, 3) := by decide +kernel
theorem dL_goes_262 : decode cL_goes 262 = .ok (.iconst 2, 1) := by decide +kernel
theorem dL_goes_263 : decode cL_goes 263 = .ok (.goto 10, 3) := by decide +kernel
theorem dL_goes_266 : decode cL_goes 266 = .ok (.aload_n 0, 1) := by decide +kernel
theorem dL_goes_267 : decode cL_goes 267 = .ok (.iload 13, 2) := by decide +kernel
theorem dL_goes_269 : decode cL_goes 269 = .ok (.iconst 3, 1) := by decide +kernel
theorem dL_goes_270 : decode cL_goes 270 = .ok (.invokevirtual 158, 3) := by decide +kernel
theorem dL_goes_273 : decode cL_goes 273 = .ok (.if_icmp .ne 7, 3) := by decide +kernel
theorem dL_goes_276 : decode cL_goes 276 = .ok (.iconst 1, 1) := by decide +kernel
theorem dL_goes_277 : decode cL_goes 277 = .ok (.goto 4, 3) := by decide +kernel
theorem dL_goes_280 : decode cL_goes 280 = .ok (.iconst 0, 1) := by decide +kernel
theorem dL_goes_281 : decode cL_goes 281 = .ok (.iand, 1) := by decide +kernel
theorem dL_goes_282 : decode cL_goes 282 = .ok (.istore 12, 2) := by decide +kernel
theorem dL_goes_284 : decode cL_goes 284 = .ok (.iload 12, 2) := by decide +kernel
theorem dL_goes_286 : decode cL_goes 286 = .ok (.iload 4, 2) := by decide +kernel
theorem dL_goes_288 : decode cL_goes 288 = .ok (.iload 13, 2) := by decide +kernel
theorem dL_goes_290 : decode cL_goes 290 = .ok (.ishr, 1) := by decide +kernel
theorem dL_goes_291 : decode cL_goes 291 = .ok (.iconst 1, 1) := by decide +kernel
theorem dL_goes_292 : decode cL_goes 292 = .ok (.iand, 1) := by decide +kernel
theorem dL_goes_293 : decode cL_goes 293 = .ok (.ifCond .eq 14, 3) := by decide +kernel
theorem dL_goes_296 : decode cL_goes 296 = .ok (.aload_n 0, 1) := by decide +kernel
theorem dL_goes_297 : decode cL_goes 297 = .ok (.iload 13, 2) := by decide +kernel
theorem dL_goes_299 : decode cL_goes 299 = .ok (.iconst 3, 1) := by decide +kernel
theorem dL_goes_300 : decode cL_goes 300 = .ok (.invokevirtual 158, 3) := by decide +kernel
theorem dL_goes_303 : decode cL_goes 303 = .ok (.iconst 3, 1) := by decide +kernel
theorem dL_goes_304 : decode cL_goes 304 = .ok (.if_icmp .ne 7, 3) := by decide +kernel
theorem dL_goes_307 : decode cL_goes 307 = .ok (.iconst 1, 1) := by decide +kernel
theorem dL_goes_308 : decode cL_goes 308 = .ok (.goto 4, 3) := by decide +kernel
theorem dL_goes_311 : decode cL_goes 311 = .ok (.iconst 0, 1) := by decide +kernel
theorem dL_goes_312 : decode cL_goes 312 = .ok (.iand, 1) := by decide +kernel
theorem dL_goes_313 : decode cL_goes 313 = .ok (.istore 12, 2) := by decide +kernel
theorem dL_goes_315 : decode cL_goes 315 = .ok (.iinc 13 1, 3) := by decide +kernel
theorem dL_goes_318 : decode cL_goes 318 = .ok (.goto (-93), 3) := by decide +kernel
theorem dL_goes_321 : decode cL_goes 321 = .ok (.iload 12, 2) := by decide +kernel
theorem dL_goes_323 : decode cL_goes 323 = .ok (.ifCond .eq 8, 3) := by decide +kernel
theorem dL_goes_326 : decode cL_goes 326 = .ok (.iload 11, 2) := by decide +kernel
theorem dL_goes_328 : decode cL_goes 328 = .ok (.goto 5, 3) := by decide +kernel
theorem dL_goes_331 : decode cL_goes 331 = .ok (.ldc 56, 2) := by decide +kernel
theorem dL_goes_333 : decode cL_goes 333 = .ok (.ireturn, 1) := by decide +kernel
theorem dL_sum_0 : decode cL_sum 0 = .ok (.lconst 0, 1) := by decide +kernel
theorem dL_sum_1 : decode cL_sum 1 = .ok (.lstore_n 1, 1) := by decide +kernel
theorem dL_sum_2 : decode cL_sum 2 = .ok (.iconst 0, 1) := by decide +kernel
theorem dL_sum_3 : decode cL_sum 3 = .ok (.istore_n 3, 1) := by decide +kernel
theorem dL_sum_4 : decode cL_sum 4 = .ok (.iload_n 3, 1) := by decide +kernel
theorem dL_sum_5 : decode cL_sum 5 = .ok (.bipush 16, 2) := by decide +kernel
theorem dL_sum_7 : decode cL_sum 7 = .ok (.if_icmp .ge 22, 3) := by decide +kernel
theorem dL_sum_10 : decode cL_sum 10 = .ok (.ldc2_w 161, 3) := by decide +kernel
theorem dL_sum_13 : decode cL_sum 13 = .ok (.lload_n 1, 1) := by decide +kernel
theorem dL_sum_14 : decode cL_sum 14 = .ok (.lmul, 1) := by decide +kernel
theorem dL_sum_15 : decode cL_sum 15 = .ok (.aload_n 0, 1) := by decide +kernel
theorem dL_sum_16 : decode cL_sum 16 = .ok (.iload_n 3, 1) := by decide +kernel
theorem dL_sum_17 : decode cL_sum 17 = .ok (.invokevirtual 45, 3) := by decide +kernel
theorem dL_sum_20 : decode cL_sum 20 = .ok (.i2l, 1) := by decide +kernel
theorem dL_sum_21 : decode cL_sum 21 = .ok (.ladd, 1) := by decide +kernel
theorem dL_sum_22 : decode cL_sum 22 = .ok (.lstore_n 1, 1) := by decide +kernel
theorem dL_sum_23 : decode cL_sum 23 = .ok (.iinc 3 1, 3) := by decide +kernel
theorem dL_sum_26 : decode cL_sum 26 = .ok (.goto (-22), 3) := by decide +kernel
theorem dL_sum_29 : decode cL_sum 29 = .ok (.iconst 0, 1) := by decide +kernel
theorem dL_sum_30 : decode cL_sum 30 = .ok (.istore_n 3, 1) := by decide +kernel
theorem dL_sum_31 : decode cL_sum 31 = .ok (.iload_n 3, 1) := by decide +kernel
theorem dL_sum_32 : decode cL_sum 32 = .ok (.aload_n 0, 1) := by decide +kernel
theorem dL_sum_33 : decode cL_sum 33 = .ok (.bipush 10, 2) := by decide +kernel
theorem dL_sum_35 : decode cL_sum 35 = .ok (.invokevirtual 45, 3) := by decide +kernel
theorem dL_sum_38 : decode cL_sum 38 = .ok (.if_icmp .ge 40, 3) := by decide +kernel
theorem dL_sum_41 : decode cL_sum 41 = .ok (.iconst 0, 1) := by decide +kernel
theorem dL_sum_42 : decode cL_sum 42 = .ok (.istore 4, 2) := by decide +kernel
theorem dL_sum_44 : decode cL_sum 44 = .ok (.iload 4, 2) := by decide +kernel
theorem dL_sum_46 : decode cL_sum 46 = .ok (.bipush 7, 2) := by decide +kernel
theorem dL_sum_48 : decode cL_sum 48 = .ok (.if_icmp .ge 24, 3) := by decide +kernel
theorem dL_sum_51 : decode cL_sum 51 = .ok (.ldc2_w 161, 3) := by decide +kernel
theorem dL_sum_54 : decode cL_sum 54 = .ok (.lload_n 1, 1) := by decide +kernel
theorem dL_sum_55 : decode cL_sum 55 = .ok (.lmul, 1) := by decide +kernel
theorem dL_sum_56 : decode cL_sum 56 = .ok (.aload_n 0, 1) := by decide +kernel
theorem dL_sum_57 : decode cL_sum 57 = .ok (.iload_n 3, 1) := by decide +kernel
theorem dL_sum_58 : decode cL_sum 58 = .ok (.iload 4, 2) := by decide +kernel
theorem dL_sum_60 : decode cL_sum 60 = .ok (.invokevirtual 158, 3) := by decide +kernel
theorem dL_sum_63 : decode cL_sum 63 = .ok (.i2l, 1) := by decide +kernel
theorem dL_sum_64 : decode cL_sum 64 = .ok (.ladd, 1) := by decide +kernel
theorem dL_sum_65 : decode cL_sum 65 = .ok (.lstore_n 1, 1) := by decide +kernel
theorem dL_sum_66 : decode cL_sum 66 = .ok (.iinc 4 1, 3) := by decide +kernel
theorem dL_sum_69 : decode cL_sum 69 = .ok (.goto (-25), 3) := by decide +kernel
theorem dL_sum_72 : decode cL_sum 72 = .ok (.iinc 3 1, 3) := by decide +kernel
theorem dL_sum_75 : decode cL_sum 75 = .ok (.goto (-44), 3) := by decide +kernel
theorem dL_sum_78 : decode cL_sum 78 = .ok (.iconst 0, 1) := by decide +kernel
theorem dL_sum_79 : decode cL_sum 79 = .ok (.istore_n 3, 1) := by decide +kernel
theorem dL_sum_80 : decode cL_sum 80 = .ok (.iload_n 3, 1) := by decide +kernel
theorem dL_sum_81 : decode cL_sum 81 = .ok (.bipush 12, 2) := by decide +kernel
theorem dL_sum_83 : decode cL_sum 83 = .ok (.if_icmp .ge 39, 3) := by decide +kernel
theorem dL_sum_86 : decode cL_sum 86 = .ok (.iconst 0, 1) := by decide +kernel
theorem dL_sum_87 : decode cL_sum 87 = .ok (.istore 4, 2) := by decide +kernel
theorem dL_sum_89 : decode cL_sum 89 = .ok (.iload 4, 2) := by decide +kernel
theorem dL_sum_91 : decode cL_sum 91 = .ok (.iconst 4, 1) := by decide +kernel
theorem dL_sum_92 : decode cL_sum 92 = .ok (.if_icmp .ge 24, 3) := by decide +kernel
theorem dL_sum_95 : decode cL_sum 95 = .ok (.ldc2_w 161, 3) := by decide +kernel
theorem dL_sum_98 : decode cL_sum 98 = .ok (.lload_n 1, 1) := by decide +kernel
theorem dL_sum_99 : decode cL_sum 99 = .ok (.lmul, 1) := by decide +kernel
theorem dL_sum_100 : decode cL_sum 100 = .ok (.aload_n 0, 1) := by decide +kernel
theorem dL_sum_101 : decode cL_sum 101 = .ok (.iload_n 3, 1) := by decide +kernel
theorem dL_sum_102 : decode cL_sum 102 = .ok (.iload 4, 2) := by decide +kernel
theorem dL_sum_104 : decode cL_sum 104 = .ok (.invokevirtual 163, 3) := by decide +kernel
theorem dL_sum_107 : decode cL_sum 107 = .ok (.i2l, 1) := by decide +kernel
theorem dL_sum_108 : decode cL_sum 108 = .ok (.ladd, 1) := by decide +kernel
theorem dL_sum_109 : decode cL_sum 109 = .ok (.lstore_n 1, 1) := by decide +kernel
theorem dL_sum_110 : decode cL_sum 110 = .ok (.iinc 4 1, 3) := by decide +kernel
theorem dL_sum_113 : decode cL_sum 113 = .ok (.goto (-24), 3) := by decide +kernel
theorem dL_sum_116 : decode cL_sum 116 = .ok (.iinc 3 1, 3) := by decide +kernel
theorem dL_sum_119 : decode cL_sum 119 = .ok (.goto (-39), 3) := by decide +kernel
theorem dL_sum_122 : decode cL_sum 122 = .ok (.aload_n 0, 1) := by decide +kernel
theorem dL_sum_123 : decode cL_sum 123 = .ok (.invokevirtual 135, 3) := by decide +kernel
theorem dL_sum_126 : decode cL_sum 126 = .ok (.istore_n 3, 1) := by decide +kernel
theorem dL_sum_127 : decode cL_sum 127 = .ok (.iconst 0, 1) := by decide +kernel
theorem dL_sum_128 : decode cL_sum 128 = .ok (.istore 4, 2) := by decide +kernel
theorem dL_sum_130 : decode cL_sum 130 = .ok (.iload 4, 2) := by decide +kernel
theorem dL_sum_132 : decode cL_sum 132 = .ok (.iload_n 3, 1) := by decide +kernel
theorem dL_sum_133 : decode cL_sum 133 = .ok (.if_icmp .ge 23, 3) := by decide +kernel
theorem dL_sum_136 : decode cL_sum 136 = .ok (.ldc2_w 161, 3) := by decide +kernel
theorem dL_sum_139 : decode cL_sum 139 = .ok (.lload_n 1, 1) := by decide +kernel
theorem dL_sum_140 : decode cL_sum 140 = .ok (.lmul, 1) := by decide +kernel
theorem dL_sum_141 : decode cL_sum 141 = .ok (.aload_n 0, 1) := by decide +kernel
theorem dL_sum_142 : decode cL_sum 142 = .ok (.iload 4, 2) := by decide +kernel
theorem dL_sum_144 : decode cL_sum 144 = .ok (.invokevirtual 37, 3) := by decide +kernel
theorem dL_sum_147 : decode cL_sum 147 = .ok (.i2l, 1) := by decide +kernel
theorem dL_sum_148 : decode cL_sum 148 = .ok (.ladd, 1) := by decide +kernel
theorem dL_sum_149 : decode cL_sum 149 = .ok (.lstore_n 1, 1) := by decide +kernel
theorem dL_sum_150 : decode cL_sum 150 = .ok (.iinc 4 1, 3) := by decide +kernel
theorem dL_sum_153 : decode cL_sum 153 = .ok (.goto (-23), 3) := by decide +kernel
theorem dL_sum_156 : decode cL_sum 156 = .ok (.ldc2_w 161, 3) := by decide +kernel
theorem dL_sum_159 : decode cL_sum 159 = .ok (.lload_n 1, 1) := by decide +kernel
theorem dL_sum_160 : decode cL_sum 160 = .ok (.lmul, 1) := by decide +kernel
theorem dL_sum_161 : decode cL_sum 161 = .ok (.ldc2_w 166, 3) := by decide +kernel
theorem dL_sum_164 : decode cL_sum 164 = .ok (.aload_n 0, 1) := by decide +kernel
theorem dL_sum_165 : decode cL_sum 165 = .ok (.invokevirtual 168, 3) := by decide +kernel
theorem dL_sum_168 : decode cL_sum 168 = .ok (.i2l, 1) := by decide +kernel
theorem dL_sum_169 : decode cL_sum 169 = .ok (.lmul, 1) := by decide +kernel
theorem dL_sum_170 : decode cL_sum 170 = .ok (.ladd, 1) := by decide +kernel
theorem dL_sum_171 : decode cL_sum 171 = .ok (.aload_n 0, 1) := by decide +kernel
theorem dL_sum_172 : decode cL_sum 172 = .ok (.invokevirtual 132, 3) := by decide +kernel
theorem dL_sum_175 : decode cL_sum 175 = .ok (.i2l, 1) := by decide +kernel
theorem dL_sum_176 : decode cL_sum 176 = .ok (.ladd, 1) := by decide +kernel
theorem dL_sum_177 : decode cL_sum 177 = .ok (.lreturn, 1) := by decide +kernel
theorem dL_isWhole_0 : decode cL_isWhole 0 = .ok (.iconst 0, 1) := by decide +kernel
theorem dL_isWhole_1 : decode cL_isWhole 1 = .ok (.istore_n 1, 1) := by decide +kernel
theorem dL_isWhole_2 : decode cL_isWhole 2 = .ok (.iconst 0, 1) := by decide +kernel
theorem dL_isWhole_3 : decode cL_isWhole 3 = .ok (.istore_n 2, 1) := by decide +kernel
theorem dL_isWhole_4 : decode cL_isWhole 4 = .ok (.iconst 0, 1) := by decide +kernel
theorem dL_isWhole_5 : decode cL_isWhole 5 = .ok (.istore_n 3, 1) := by decide +kernel
theorem dL_isWhole_6 : decode cL_isWhole 6 = .ok (.iload_n 3, 1) := by decide +kernel
theorem dL_isWhole_7 : decode cL_isWhole 7 = .ok (.bipush 100, 2) := by decide +kernel
theorem dL_isWhole_9 : decode cL_isWhole 9 = .ok (.if_icmp .gt 27, 3) := by decide +kernel
theorem dL_isWhole_12 : decode cL_isWhole 12 = .ok (.iload_n 1, 1) := by decide +kernel
theorem dL_isWhole_13 : decode cL_isWhole 13 = .ok (.aload_n 0, 1) := by decide +kernel
theorem dL_isWhole_14 : decode cL_isWhole 14 = .ok (.iload_n 3, 1) := by decide +kernel
theorem dL_isWhole_15 : decode cL_isWhole 15 = .ok (.invokevirtual 171, 3) := by decide +kernel
theorem dL_isWhole_18 : decode cL_isWhole 18 = .ok (.iadd, 1) := by decide +kernel
theorem dL_isWhole_19 : decode cL_isWhole 19 = .ok (.istore_n 1, 1) := by decide +kernel
theorem dL_isWhole_20 : decode cL_isWhole 20 = .ok (.iload_n 2, 1) := by decide +kernel
theorem dL_isWhole_21 : decode cL_isWhole 21 = .ok (.iload_n 3, 1) := by decide +kernel
theorem dL_isWhole_22 : decode cL_isWhole 22 = .ok (.aload_n 0, 1) := by decide +kernel
theorem dL_isWhole_23 : decode cL_isWhole 23 = .ok (.iload_n 3, 1) := by decide +kernel
theorem dL_isWhole_24 : decode cL_isWhole 24 = .ok (.invokevirtual 171, 3) := by decide +kernel
theorem dL_isWhole_27 : decode cL_isWhole 27 = .ok (.imul, 1) := by decide +kernel
theorem dL_isWhole_28 : decode cL_isWhole 28 = .ok (.iadd, 1) := by decide +kernel
theorem dL_isWhole_29 : decode cL_isWhole 29 = .ok (.istore_n 2, 1) := by decide +kernel
theorem dL_isWhole_30 : decode cL_isWhole 30 = .ok (.iinc 3 1, 3) := by decide +kernel
theorem dL_isWhole_33 : decode cL_isWhole 33 = .ok (.goto (-27), 3) := by decide +kernel
theorem dL_isWhole_36 : decode cL_isWhole 36 = .ok (.iconst 4, 1) := by decide +kernel
theorem dL_isWhole_37 : decode cL_isWhole 37 = .ok (.newarray .int, 2) := by decide +kernel
theorem dL_isWhole_39 : decode cL_isWhole 39 = .ok (.astore_n 3, 1) := by decide +kernel
theorem dL_isWhole_40 : decode cL_isWhole 40 = .ok (.iconst 0, 1) := by decide +kernel
theorem dL_isWhole_41 : decode cL_isWhole 41 = .ok (.istore 4, 2) := by decide +kernel
theorem dL_isWhole_43 : decode cL_isWhole 43 = .ok (.iconst 0, 1) := by decide +kernel
theorem dL_isWhole_44 : decode cL_isWhole 44 = .ok (.istore 5, 2) := by decide +kernel
theorem dL_isWhole_46 : decode cL_isWhole 46 = .ok (.iload 5, 2) := by decide +kernel
theorem dL_isWhole_48 : decode cL_isWhole 48 = .ok (.aload_n 0, 1) := by decide +kernel
theorem dL_isWhole_49 : decode cL_isWhole 49 = .ok (.bipush 10, 2) := by decide +kernel
theorem dL_isWhole_51 : decode cL_isWhole 51 = .ok (.invokevirtual 45, 3) := by decide +kernel
theorem dL_isWhole_54 : decode cL_isWhole 54 = .ok (.if_icmp .ge 307, 3) := by decide +kernel
theorem dL_isWhole_57 : decode cL_isWhole 57 = .ok (.aload_n 0, 1) := by decide +kernel
theorem dL_isWhole_58 : decode cL_isWhole 58 = .ok (.iload 5, 2) := by decide +kernel
theorem dL_isWhole_60 : decode cL_isWhole 60 = .ok (.iconst 3, 1) := by decide +kernel
theorem dL_isWhole_61 : decode cL_isWhole 61 = .ok (.invokevirtual 158, 3) := by decide +kernel
theorem dL_isWhole_64 : decode cL_isWhole 64 = .ok (.istore 6, 2) := by decide +kernel
theorem dL_isWhole_66 : decode cL_isWhole 66 = .ok (.aload_n 3, 1) := by decide +kernel
theorem dL_isWhole_67 : decode cL_isWhole 67 = .ok (.iload 6, 2) := by decide +kernel
theorem dL_isWhole_69 : decode cL_isWhole 69 = .ok (.dup2, 1) := by decide +kernel
theorem dL_isWhole_70 : decode cL_isWhole 70 = .ok (.iaload, 1) := by decide +kernel
theorem dL_isWhole_71 : decode cL_isWhole 71 = .ok (.iconst 1, 1) := by decide +kernel
theorem dL_isWhole_72 : decode cL_isWhole 72 = .ok (.iadd, 1) := by decide +kernel
theorem dL_isWhole_73 : decode cL_isWhole 73 = .ok (.iastore, 1) := by decide +kernel
theorem dL_isWhole_74 : decode cL_isWhole 74 = .ok (.iload 4, 2) := by decide +kernel
theorem dL_isWhole_76 : decode cL_isWhole 76 = .ok (.aload_n 0, 1) := by decide +kernel
theorem dL_isWhole_77 : decode cL_isWhole 77 = .ok (.iload 5, 2) := by decide +kernel
theorem dL_isWhole_79 : decode cL_isWhole 79 = .ok (.iconst 5, 1) := by decide +kernel
theorem dL_isWhole_80 : decode cL_isWhole 80 = .ok (.invokevirtual 158, 3) := by decide +kernel
theorem dL_isWhole_83 : decode cL_isWhole 83 = .ok (.iadd, 1) := by decide +kernel
theorem dL_isWhole_84 : decode cL_isWhole 84 = .ok (.istore 4, 2) := by decide +kernel
theorem dL_isWhole_86 : decode cL_isWhole 86 = .ok (.aload_n 0, 1) := by decide +kernel
theorem dL_isWhole_87 : decode cL_isWhole 87 = .ok (.iload 5, 2) := by decide +kernel
theorem dL_isWhole_89 : decode cL_isWhole 89 = .ok (.iconst 4, 1) := by decide +kernel
theorem dL_isWhole_90 : decode cL_isWhole 90 = .ok (.invokevirtual 158, 3) := by decide +kernel
theorem dL_isWhole_93 : decode cL_isWhole 93 = .ok (.aload_n 0, 1) := by decide +kernel
theorem dL_isWhole_94 : decode cL_isWhole 94 = .ok (.iload 5, 2) := by decide +kernel
theorem dL_isWhole_96 : decode cL_isWhole 96 = .ok (.iconst 2, 1) := by decide +kernel
theorem dL_isWhole_97 : decode cL_isWhole 97 = .ok (.invokevirtual 158, 3) := by decide +kernel
theorem dL_isWhole_100 : decode cL_isWhole 100 = .ok (.if_icmp .gt 75, 3) := by decide +kernel
theorem dL_isWhole_103 : decode cL_isWhole 103 = .ok (.aload_n 0, 1) := by decide +kernel
theorem dL_isWhole_104 : decode cL_isWhole 104 = .ok (.iload 5, 2) := by decide +kernel
theorem dL_isWhole_106 : decode cL_isWhole 106 = .ok (.iconst 4, 1) := by decide +kernel
theorem dL_isWhole_107 : decode cL_isWhole 107 = .ok (.invokevirtual 158, 3) := by decide +kernel
theorem dL_isWhole_110 : decode cL_isWhole 110 = .ok (.aload_n 0, 1) := by decide +kernel
theorem dL_isWhole_111 : decode cL_isWhole 111 = .ok (.iload 5, 2) := by decide +kernel
theorem dL_isWhole_113 : decode cL_isWhole 113 = .ok (.iconst 2, 1) := by decide +kernel
theorem dL_isWhole_114 : decode cL_isWhole 114 = .ok (.invokevirtual 158, 3) := by decide +kernel
theorem dL_isWhole_117 : decode cL_isWhole 117 = .ok (.if_icmp .ne 7, 3) := by decide +kernel
theorem dL_isWhole_120 : decode cL_isWhole 120 = .ok (.iconst 1, 1) := by decide +kernel
theorem dL_isWhole_121 : decode cL_isWhole 121 = .ok (.goto 4, 3) := by decide +kernel
theorem dL_isWhole_124 : decode cL_isWhole 124 = .ok (.iconst 0, 1) := by decide +kernel
theorem dL_isWhole_125 : decode cL_isWhole 125 = .ok (.iload 6, 2) := by decide +kernel
theorem dL_isWhole_127 : decode cL_isWhole 127 = .ok (.iconst 2, 1) := by decide +kernel
theorem dL_isWhole_128 : decode cL_isWhole 128 = .ok (.if_icmp .ne 7, 3) := by decide +kernel
theorem dL_isWhole_131 : decode cL_isWhole 131 = .ok (.iconst 1, 1) := by decide +kernel
theorem dL_isWhole_132 : decode cL_isWhole 132 = .ok (.goto 4, 3) := by decide +kernel
theorem dL_isWhole_135 : decode cL_isWhole 135 = .ok (.iconst 0, 1) := by decide +kernel
theorem dL_isWhole_136 : decode cL_isWhole 136 = .ok (.if_icmp .ne 39, 3) := by decide +kernel
theorem dL_isWhole_139 : decode cL_isWhole 139 = .ok (.iload 6, 2) := by decide +kernel
theorem dL_isWhole_141 : decode cL_isWhole 141 = .ok (.iconst 1, 1) := by decide +kernel
theorem dL_isWhole_142 : decode cL_isWhole 142 = .ok (.if_icmp .ne 14, 3) := by decide +kernel
theorem dL_isWhole_145 : decode cL_isWhole 145 = .ok (.aload_n 0, 1) := by decide +kernel
theorem dL_isWhole_146 : decode cL_isWhole 146 = .ok (.iload 5, 2) := by decide +kernel
theorem dL_isWhole_148 : decode cL_isWhole 148 = .ok (.iconst 5, 1) := by decide +kernel
theorem dL_isWhole_149 : decode cL_isWhole 149 = .ok (.invokevirtual 158, 3) := by decide +kernel
theorem dL_isWhole_152 : decode cL_isWhole 152 = .ok (.iconst 1, 1) := by decide +kernel
theorem dL_isWhole_153 : decode cL_isWhole 153 = .ok (.if_icmp .ne 22, 3) := by decide +kernel
theorem dL_isWhole_156 : decode cL_isWhole 156 = .ok (.iload 6, 2) := by decide +kernel
theorem dL_isWhole_158 : decode cL_isWhole 158 = .ok (.ifCond .ne 13, 3) := by decide +kernel
theorem dL_isWhole_161 : decode cL_isWhole 161 = .ok (.aload_n 0, 1) := by decide +kernel
theorem dL_isWhole_162 : decode cL_isWhole 162 = .ok (.iload 5, 2) := by decide +kernel
theorem dL_isWhole_164 : decode cL_isWhole 164 = .ok (.iconst 5, 1) := by decide +kernel
theorem dL_isWhole_165 : decode cL_isWhole 165 = .ok (.invokevirtual 158, 3) := by decide +kernel
theorem dL_isWhole_168 : decode cL_isWhole 168 = .ok (.ifCond .ne 7, 3) := by decide +kernel
theorem dL_isWhole_171 : decode cL_isWhole 171 = .ok (.iconst 1, 1) := by decide +kernel
theorem dL_isWhole_172 : decode cL_isWhole 172 = .ok (.goto 4, 3) := by decide +kernel
theorem dL_isWhole_175 : decode cL_isWhole 175 = .ok (.iconst 0, 1) := by decide +kernel
theorem dL_isWhole_176 : decode cL_isWhole 176 = .ok (.istore 7, 2) := by decide +kernel
theorem dL_isWhole_178 : decode cL_isWhole 178 = .ok (.iload 6, 2) := by decide +kernel
theorem dL_isWhole_180 : decode cL_isWhole 180 = .ok (.iconst 2, 1) := by decide +kernel
theorem dL_isWhole_181 : decode cL_isWhole 181 = .ok (.if_icmp .ne 20, 3) := by decide +kernel
theorem dL_isWhole_184 : decode cL_isWhole 184 = .ok (.aload_n 0, 1) := by decide +kernel
theorem dL_isWhole_185 : decode cL_isWhole 185 = .ok (.iload 5, 2) := by decide +kernel
theorem dL_isWhole_187 : decode cL_isWhole 187 = .ok (.invokevirtual 138, 3) := by decide +kernel
theorem dL_isWhole_190 : decode cL_isWhole 190 = .ok (.ifCond .ne 7, 3) := by decide +kernel
theorem dL_isWhole_193 : decode cL_isWhole 193 = .ok (.iconst 1, 1) := by decide +kernel
theorem dL_isWhole_194 : decode cL_isWhole 194 = .ok (.goto 74, 3) := by decide +kernel
theorem dL_isWhole_197 : decode cL_isWhole 197 = .ok (.iconst 0, 1) := by decide +kernel
theorem dL_isWhole_198 : decode cL_isWhole 198 = .ok (.goto 70, 3) := by decide +kernel
theorem dL_isWhole_201 : decode cL_isWhole 201 = .ok (.iload 6, 2) := by decide +kernel
theorem dL_isWhole_203 : decode cL_isWhole 203 = .ok (.iconst 1, 1) := by decide +kernel
theorem dL_isWhole_204 : decode cL_isWhole 204 = .ok (.if_icmp .ne 47, 3) := by decide +kernel
theorem dL_isWhole_207 : decode cL_isWhole 207 = .ok (.aload_n 0, 1) := by decide +kernel
theorem dL_isWhole_208 : decode cL_isWhole 208 = .ok (.iload 5, 2) := by decide +kernel
theorem dL_isWhole_210 : decode cL_isWhole 210 = .ok (.invokevirtual 138, 3) := by decide +kernel
theorem dL_isWhole_213 : decode cL_isWhole 213 = .ok (.sipush (-10005), 3) := by decide +kernel
theorem dL_isWhole_216 : decode cL_isWhole 216 = .ok (.if_icmp .eq 27, 3) := by decide +kernel
theorem dL_isWhole_219 : decode cL_isWhole 219 = .ok (.aload_n 0, 1) := by decide +kernel
theorem dL_isWhole_220 : decode cL_isWhole 220 = .ok (.iload 5, 2) := by decide +kernel
theorem dL_isWhole_222 : decode cL_isWhole 222 = .ok (.invokevirtual 138, 3) := by decide +kernel
theorem dL_isWhole_225 : decode cL_isWhole 225 = .ok (.aload_n 0, 1) := by decide +kernel
theorem dL_isWhole_226 : decode cL_isWhole 226 = .ok (.iload 5, 2) := by decide +kernel
theorem dL_isWhole_228 : decode cL_isWhole 228 = .ok (.iconst 2, 1) := by decide +kernel
theorem dL_isWhole_229 : decode cL_isWhole 229 = .ok (.invokevirtual 158, 3) := by decide +kernel
theorem dL_isWhole_232 : decode cL_isWhole 232 = .ok (.aload_n 0, 1) := by decide +kernel
theorem dL_isWhole_233 : decode cL_isWhole 233 = .ok (.iload 5, 2) := by decide +kernel
theorem dL_isWhole_235 : decode cL_isWhole 235 = .ok (.iconst 4, 1) := by decide +kernel
theorem dL_isWhole_236 : decode cL_isWhole 236 = .ok (.invokevirtual 158, 3) := by decide +kernel
theorem dL_isWhole_239 : decode cL_isWhole 239 = .ok (.isub, 1) := by decide +kernel
theorem dL_isWhole_240 : decode cL_isWhole 240 = .ok (.if_icmp .lt 7, 3) := by decide +kernel
theorem dL_isWhole_243 : decode cL_isWhole 243 = .ok (.iconst 1, 1) := by decide +kernel
theorem dL_isWhole_244 : decode cL_isWhole 244 = .ok (.goto 24, 3) := by decide +kernel
theorem dL_isWhole_247 : decode cL_isWhole 247 = .ok (.iconst 0, 1) := by decide +kernel
theorem dL_isWhole_248 : decode cL_isWhole 248 = .ok (.goto 20, 3) := by decide +kernel
theorem dL_isWhole_251 : decode cL_isWhole 251 = .ok (.aload_n 0, 1) := by decide +kernel
theorem dL_isWhole_252 : decode cL_isWhole 252 = .ok (.iload 5, 2) := by decide +kernel
theorem dL_isWhole_254 : decode cL_isWhole 254 = .ok (.invokevirtual 138, 3) := by decide +kernel
theorem dL_isWhole_257 : decode cL_isWhole 257 = .ok (.sipush (-10005), 3) := by decide +kernel
theorem dL_isWhole_260 : decode cL_isWhole 260 = .ok (.if_icmp .ne 7, 3) := by decide +kernel
theorem dL_isWhole_263 : decode cL_isWhole 263 = .ok (.iconst 1, 1) := by decide +kernel
theorem dL_isWhole_264 : decode cL_isWhole 264 = .ok (.goto 4, 3) := by decide +kernel
theorem dL_isWhole_267 : decode cL_isWhole 267 = .ok (.iconst 0, 1) := by decide +kernel
theorem dL_isWhole_268 : decode cL_isWhole 268 = .ok (.istore 8, 2) := by decide +kernel
theorem dL_isWhole_270 : decode cL_isWhole 270 = .ok (.aload_n 0, 1) := by decide +kernel
theorem dL_isWhole_271 : decode cL_isWhole 271 = .ok (.iload 5, 2) := by decide +kernel
theorem dL_isWhole_273 : decode cL_isWhole 273 = .ok (.invokevirtual 174, 3) := by decide +kernel
theorem dL_isWhole_276 : decode cL_isWhole 276 = .ok (.istore 9, 2) := by decide +kernel
theorem dL_isWhole_278 : decode cL_isWhole 278 = .ok (.iload 5, 2) := by decide +kernel
theorem dL_isWhole_280 : decode cL_isWhole 280 = .ok (.ifCond .ne 8, 3) := by decide +kernel
theorem dL_isWhole_283 : decode cL_isWhole 283 = .ok (.iload 9, 2) := by decide +kernel
theorem dL_isWhole_285 : decode cL_isWhole 285 = .ok (.goto 11, 3) := by decide +kernel
theorem dL_isWhole_288 : decode cL_isWhole 288 = .ok (.aload_n 0, 1) := by decide +kernel
theorem dL_isWhole_289 : decode cL_isWhole 289 = .ok (.iload 5, 2) := by decide +kernel
theorem dL_isWhole_291 : decode cL_isWhole 291 = .ok (.iconst 1, 1) := by decide +kernel
theorem dL_isWhole_292 : decode cL_isWhole 292 = .ok (.isub, 1) := by decide +kernel
theorem dL_isWhole_293 : decode cL_isWhole 293 = .ok (.invokevirtual 174, 3) := by decide +kernel
theorem dL_isWhole_296 : decode cL_isWhole 296 = .ok (.istore 10, 2) := by decide +kernel
theorem dL_isWhole_298 : decode cL_isWhole 298 = .ok (.aload_n 0, 1) := by decide +kernel
theorem dL_isWhole_299 : decode cL_isWhole 299 = .ok (.iload 10, 2) := by decide +kernel
theorem dL_isWhole_301 : decode cL_isWhole 301 = .ok (.iconst 2, 1) := by decide +kernel
theorem dL_isWhole_302 : decode cL_isWhole 302 = .ok (.invokevirtual 158, 3) := by decide +kernel
theorem dL_isWhole_305 : decode cL_isWhole 305 = .ok (.aload_n 0, 1) := by decide +kernel
theorem dL_isWhole_306 : decode cL_isWhole 306 = .ok (.iload 10, 2) := by decide +kernel
theorem dL_isWhole_308 : decode cL_isWhole 308 = .ok (.iconst 4, 1) := by decide +kernel
theorem dL_isWhole_309 : decode cL_isWhole 309 = .ok (.invokevirtual 158, 3) := by decide +kernel
theorem dL_isWhole_312 : decode cL_isWhole 312 = .ok (.isub, 1) := by decide +kernel
theorem dL_isWhole_313 : decode cL_isWhole 313 = .ok (.aload_n 0, 1) := by decide +kernel
theorem dL_isWhole_314 : decode cL_isWhole 314 = .ok (.iload 9, 2) := by decide +kernel
theorem dL_isWhole_316 : decode cL_isWhole 316 = .ok (.iconst 2, 1) := by decide +kernel
theorem dL_isWhole_317 : decode cL_isWhole 317 = .ok (.invokevirtual 158, 3) := by decide +kernel
theorem dL_isWhole_320 : decode cL_isWhole 320 = .ok (.aload_n 0, 1) := by decide +kernel
theorem dL_isWhole_321 : decode cL_isWhole 321 = .ok (.iload 9, 2) := by decide +kernel
theorem dL_isWhole_323 : decode cL_isWhole 323 = .ok (.iconst 4, 1) := by decide +kernel
theorem dL_isWhole_324 : decode cL_isWhole 324 = .ok (.invokevirtual 158, 3) := by decide +kernel
theorem dL_isWhole_327 : decode cL_isWhole 327 = .ok (.isub, 1) := by decide +kernel
theorem dL_isWhole_328 : decode cL_isWhole 328 = .ok (.if_icmp .gt 7, 3) := by decide +kernel
theorem dL_isWhole_331 : decode cL_isWhole 331 = .ok (.iconst 1, 1) := by decide +kernel
theorem dL_isWhole_332 : decode cL_isWhole 332 = .ok (.goto 4, 3) := by decide +kernel
theorem dL_isWhole_335 : decode cL_isWhole 335 = .ok (.iconst 0, 1) := by decide +kernel
theorem dL_isWhole_336 : decode cL_isWhole 336 = .ok (.istore 11, 2) := by decide +kernel
theorem dL_isWhole_338 : decode cL_isWhole 338 = .ok (.iload 7, 2) := by decide +kernel
theorem dL_isWhole_340 : decode cL_isWhole 340 = .ok (.ifCond .eq 13, 3) := by decide +kernel
theorem dL_isWhole_343 : decode cL_isWhole 343 = .ok (.iload 8, 2) := by decide +kernel
theorem dL_isWhole_345 : decode cL_isWhole 345 = .ok (.ifCond .eq 8, 3) := by decide +kernel
theorem dL_isWhole_348 : decode cL_isWhole 348 = .ok (.iload 11, 2) := by decide +kernel
theorem dL_isWhole_350 : decode cL_isWhole 350 = .ok (.ifCond .ne 5, 3) := by decide +kernel
theorem dL_isWhole_353 : decode cL_isWhole 353 = .ok (.iconst 0, 1) := by decide +kernel
theorem dL_isWhole_354 : decode cL_isWhole 354 = .ok (.ireturn, 1) := by decide +kernel
theorem dL_isWhole_355 : decode cL_isWhole 355 = .ok (.iinc 5 1, 3) := by decide +kernel
theorem dL_isWhole_358 : decode cL_isWhole 358 = .ok (.goto (-312), 3) := by decide +kernel
theorem dL_isWhole_361 : decode cL_isWhole 361 = .ok (.aload_n 3, 1) := by decide +kernel
theorem dL_isWhole_362 : decode cL_isWhole 362 = .ok (.iconst 0, 1) := by decide +kernel
theorem dL_isWhole_363 : decode cL_isWhole 363 = .ok (.iaload, 1) := by decide +kernel
theorem dL_isWhole_364 : decode cL_isWhole 364 = .ok (.aload_n 0, 1) := by decide +kernel
theorem dL_isWhole_365 : decode cL_isWhole 365 = .ok (.bipush 11, 2) := by decide +kernel
theorem dL_isWhole_367 : decode cL_isWhole 367 = .ok (.invokevirtual 45, 3) := by decide +kernel
theorem dL_isWhole_370 : decode cL_isWhole 370 = .ok (.if_icmp .ne 60, 3) := by decide +kernel
theorem dL_isWhole_373 : decode cL_isWhole 373 = .ok (.aload_n 3, 1) := by decide +kernel
theorem dL_isWhole_374 : decode cL_isWhole 374 = .ok (.iconst 1, 1) := by decide +kernel
theorem dL_isWhole_375 : decode cL_isWhole 375 = .ok (.iaload, 1) := by decide +kernel
theorem dL_isWhole_376 : decode cL_isWhole 376 = .ok (.aload_n 0, 1) := by decide +kernel
theorem dL_isWhole_377 : decode cL_isWhole 377 = .ok (.bipush 12, 2) := by decide +kernel
theorem dL_isWhole_379 : decode cL_isWhole 379 = .ok (.invokevirtual 45, 3) := by decide +kernel
theorem dL_isWhole_382 : decode cL_isWhole 382 = .ok (.if_icmp .ne 48, 3) := by decide +kernel
theorem dL_isWhole_385 : decode cL_isWhole 385 = .ok (.aload_n 3, 1) := by decide +kernel
theorem dL_isWhole_386 : decode cL_isWhole 386 = .ok (.iconst 2, 1) := by decide +kernel
theorem dL_isWhole_387 : decode cL_isWhole 387 = .ok (.iaload, 1) := by decide +kernel
theorem dL_isWhole_388 : decode cL_isWhole 388 = .ok (.aload_n 0, 1) := by decide +kernel
theorem dL_isWhole_389 : decode cL_isWhole 389 = .ok (.bipush 13, 2) := by decide +kernel
theorem dL_isWhole_391 : decode cL_isWhole 391 = .ok (.invokevirtual 45, 3) := by decide +kernel
theorem dL_isWhole_394 : decode cL_isWhole 394 = .ok (.if_icmp .ne 36, 3) := by decide +kernel
theorem dL_isWhole_397 : decode cL_isWhole 397 = .ok (.aload_n 3, 1) := by decide +kernel
theorem dL_isWhole_398 : decode cL_isWhole 398 = .ok (.iconst 3, 1) := by decide +kernel
theorem dL_isWhole_399 : decode cL_isWhole 399 = .ok (.iaload, 1) := by decide +kernel
theorem dL_isWhole_400 : decode cL_isWhole 400 = .ok (.aload_n 0, 1) := by decide +kernel
theorem dL_isWhole_401 : decode cL_isWhole 401 = .ok (.bipush 14, 2) := by decide +kernel
theorem dL_isWhole_403 : decode cL_isWhole 403 = .ok (.invokevirtual 45, 3) := by decide +kernel
theorem dL_isWhole_406 : decode cL_isWhole 406 = .ok (.if_icmp .ne 24, 3) := by decide +kernel
theorem dL_isWhole_409 : decode cL_isWhole 409 = .ok (.iload 4, 2) := by decide +kernel
theorem dL_isWhole_411 : decode cL_isWhole 411 = .ok (.aload_n 0, 1) := by decide +kernel
theorem dL_isWhole_412 : decode cL_isWhole 412 = .ok (.bipush 15, 2) := by decide +kernel
theorem dL_isWhole_414 : decode cL_isWhole 414 = .ok (.invokevirtual 45, 3) := by decide +kernel
theorem dL_isWhole_417 : decode cL_isWhole 417 = .ok (.if_icmp .ne 13, 3) := by decide +kernel
theorem dL_isWhole_420 : decode cL_isWhole 420 = .ok (.iload 4, 2) := by decide +kernel
theorem dL_isWhole_422 : decode cL_isWhole 422 = .ok (.iconst 4, 1) := by decide +kernel
theorem dL_isWhole_423 : decode cL_isWhole 423 = .ok (.if_icmp .gt 7, 3) := by decide +kernel
theorem dL_isWhole_426 : decode cL_isWhole 426 = .ok (.iconst 1, 1) := by decide +kernel
theorem dL_isWhole_427 : decode cL_isWhole 427 = .ok (.goto 4, 3) := by decide +kernel
theorem dL_isWhole_430 : decode cL_isWhole 430 = .ok (.iconst 0, 1) := by decide +kernel
theorem dL_isWhole_431 : decode cL_isWhole 431 = .ok (.istore 5, 2) := by decide +kernel
theorem dL_isWhole_433 : decode cL_isWhole 433 = .ok (.iload_n 1, 1) := by decide +kernel
theorem dL_isWhole_434 : decode cL_isWhole 434 = .ok (.aload_n 0, 1) := by decide +kernel
theorem dL_isWhole_435 : decode cL_isWhole 435 = .ok (.iconst 0, 1) := by decide +kernel
theorem dL_isWhole_436 : decode cL_isWhole 436 = .ok (.invokevirtual 45, 3) := by decide +kernel
theorem dL_isWhole_439 : decode cL_isWhole 439 = .ok (.if_icmp .ne 49, 3) := by decide +kernel
theorem dL_isWhole_442 : decode cL_isWhole 442 = .ok (.iload_n 2, 1) := by decide +kernel
theorem dL_isWhole_443 : decode cL_isWhole 443 = .ok (.aload_n 0, 1) := by decide +kernel
theorem dL_isWhole_444 : decode cL_isWhole 444 = .ok (.invokevirtual 168, 3) := by decide +kernel
theorem dL_isWhole_447 : decode cL_isWhole 447 = .ok (.if_icmp .ne 41, 3) := by decide +kernel
theorem dL_isWhole_450 : decode cL_isWhole 450 = .ok (.iload_n 2, 1) := by decide +kernel
theorem dL_isWhole_451 : decode cL_isWhole 451 = .ok (.aload_n 0, 1) := by decide +kernel
theorem dL_isWhole_452 : decode cL_isWhole 452 = .ok (.invokevirtual 177, 3) := by decide +kernel
theorem dL_isWhole_455 : decode cL_isWhole 455 = .ok (.if_icmp .ne 33, 3) := by decide +kernel
theorem dL_isWhole_458 : decode cL_isWhole 458 = .ok (.aload_n 0, 1) := by decide +kernel
theorem dL_isWhole_459 : decode cL_isWhole 459 = .ok (.bipush 8, 2) := by decide +kernel
theorem dL_isWhole_461 : decode cL_isWhole 461 = .ok (.invokevirtual 45, 3) := by decide +kernel
theorem dL_isWhole_464 : decode cL_isWhole 464 = .ok (.aload_n 0, 1) := by decide +kernel
theorem dL_isWhole_465 : decode cL_isWhole 465 = .ok (.bipush 7, 2) := by decide +kernel
theorem dL_isWhole_467 : decode cL_isWhole 467 = .ok (.invokevirtual 45, 3) := by decide +kernel
theorem dL_isWhole_470 : decode cL_isWhole 470 = .ok (.iload_n 2, 1) := by decide +kernel
theorem dL_isWhole_471 : decode cL_isWhole 471 = .ok (.iadd, 1) := by decide +kernel
theorem dL_isWhole_472 : decode cL_isWhole 472 = .ok (.if_icmp .ne 16, 3) := by decide +kernel
theorem dL_isWhole_475 : decode cL_isWhole 475 = .ok (.aload_n 0, 1) := by decide +kernel
theorem dL_isWhole_476 : decode cL_isWhole 476 = .ok (.bipush 7, 2) := by decide +kernel
theorem dL_isWhole_478 : decode cL_isWhole 478 = .ok (.invokevirtual 45, 3) := by decide +kernel
theorem dL_isWhole_481 : decode cL_isWhole 481 = .ok (.ifCond .lt 7, 3) := by decide +kernel
theorem dL_isWhole_484 : decode cL_isWhole 484 = .ok (.iconst 1, 1) := by decide +kernel
theorem dL_isWhole_485 : decode cL_isWhole 485 = .ok (.goto 4, 3) := by decide +kernel
theorem dL_isWhole_488 : decode cL_isWhole 488 = .ok (.iconst 0, 1) := by decide +kernel
theorem dL_isWhole_489 : decode cL_isWhole 489 = .ok (.istore 6, 2) := by decide +kernel
theorem dL_isWhole_491 : decode cL_isWhole 491 = .ok (.aload_n 0, 1) := by decide +kernel
theorem dL_isWhole_492 : decode cL_isWhole 492 = .ok (.iconst 1, 1) := by decide +kernel
theorem dL_isWhole_493 : decode cL_isWhole 493 = .ok (.invokevirtual 45, 3) := by decide +kernel
theorem dL_isWhole_496 : decode cL_isWhole 496 = .ok (.bipush 20, 2) := by decide +kernel
theorem dL_isWhole_498 : decode cL_isWhole 498 = .ok (.if_icmp .lt 106, 3) := by decide +kernel
theorem dL_isWhole_501 : decode cL_isWhole 501 = .ok (.aload_n 0, 1) := by decide +kernel
theorem dL_isWhole_502 : decode cL_isWhole 502 = .ok (.iconst 3, 1) := by decide +kernel
theorem dL_isWhole_503 : decode cL_isWhole 503 = .ok (.invokevirtual 45, 3) := by decide +kernel
theorem dL_isWhole_506 : decode cL_isWhole 506 = .ok (.aload_n 0, 1) := by decide +kernel
theorem dL_isWhole_507 : decode cL_isWhole 507 = .ok (.iconst 2, 1) := by decide +kernel
theorem dL_isWhole_508 : decode cL_isWhole 508 = .ok (.invokevirtual 45, 3) := by decide +kernel
theorem dL_isWhole_511 : decode cL_isWhole 511 = .ok (.aload_n 0, 1) := by decide +kernel
theorem dL_isWhole_512 : decode cL_isWhole 512 = .ok (.iconst 1, 1) := by decide +kernel
theorem dL_isWhole_513 : decode cL_isWhole 513 = .ok (.invokevirtual 45, 3) := by decide +kernel
theorem dL_isWhole_516 : decode cL_isWhole 516 = .ok (.isub, 1) := by decide +kernel
theorem dL_isWhole_517 : decode cL_isWhole 517 = .ok (.if_icmp .ne 87, 3) := by decide +kernel
theorem dL_isWhole_520 : decode cL_isWhole 520 = .ok (.aload_n 0, 1) := by decide +kernel
theorem dL_isWhole_521 : decode cL_isWhole 521 = .ok (.bipush 6, 2) := by decide +kernel
theorem dL_isWhole_523 : decode cL_isWhole 523 = .ok (.invokevirtual 45, 3) := by decide +kernel
theorem dL_isWhole_526 : decode cL_isWhole 526 = .ok (.ifCond .lt 78, 3) := by decide +kernel
theorem dL_isWhole_529 : decode cL_isWhole 529 = .ok (.aload_n 0, 1) := by decide +kernel
theorem dL_isWhole_530 : decode cL_isWhole 530 = .ok (.bipush 6, 2) := by decide +kernel
theorem dL_isWhole_532 : decode cL_isWhole 532 = .ok (.invokevirtual 45, 3) := by decide +kernel
theorem dL_isWhole_535 : decode cL_isWhole 535 = .ok (.bipush 100, 2) := by decide +kernel
theorem dL_isWhole_537 : decode cL_isWhole 537 = .ok (.if_icmp .gt 67, 3) := by decide +kernel
theorem dL_isWhole_540 : decode cL_isWhole 540 = .ok (.aload_n 0, 1) := by decide +kernel
theorem dL_isWhole_541 : decode cL_isWhole 541 = .ok (.bipush 9, 2) := by decide +kernel
theorem dL_isWhole_543 : decode cL_isWhole 543 = .ok (.invokevirtual 45, 3) := by decide +kernel
theorem dL_isWhole_546 : decode cL_isWhole 546 = .ok (.ifCond .lt 58, 3) := by decide +kernel
theorem dL_isWhole_549 : decode cL_isWhole 549 = .ok (.aload_n 0, 1) := by decide +kernel
theorem dL_isWhole_550 : decode cL_isWhole 550 = .ok (.invokevirtual 132, 3) := by decide +kernel
theorem dL_isWhole_553 : decode cL_isWhole 553 = .ok (.ifCond .lt 51, 3) := by decide +kernel
theorem dL_isWhole_556 : decode cL_isWhole 556 = .ok (.aload_n 0, 1) := by decide +kernel
theorem dL_isWhole_557 : decode cL_isWhole 557 = .ok (.invokevirtual 132, 3) := by decide +kernel
theorem dL_isWhole_560 : decode cL_isWhole 560 = .ok (.bipush 100, 2) := by decide +kernel
theorem dL_isWhole_562 : decode cL_isWhole 562 = .ok (.if_icmp .gt 42, 3) := by decide +kernel
theorem dL_isWhole_565 : decode cL_isWhole 565 = .ok (.aload_n 0, 1) := by decide +kernel
theorem dL_isWhole_566 : decode cL_isWhole 566 = .ok (.iconst 0, 1) := by decide +kernel
theorem dL_isWhole_567 : decode cL_isWhole 567 = .ok (.invokevirtual 123, 3) := by decide +kernel
theorem dL_isWhole_570 : decode cL_isWhole 570 = .ok (.aload_n 0, 1) := by decide +kernel
theorem dL_isWhole_571 : decode cL_isWhole 571 = .ok (.iconst 1, 1) := by decide +kernel
theorem dL_isWhole_572 : decode cL_isWhole 572 = .ok (.invokevirtual 45, 3) := by decide +kernel
theorem dL_isWhole_575 : decode cL_isWhole 575 = .ok (.if_icmp .ne 29, 3) := by decide +kernel
theorem dL_isWhole_578 : decode cL_isWhole 578 = .ok (.aload_n 0, 1) := by decide +kernel
theorem dL_isWhole_579 : decode cL_isWhole 579 = .ok (.iconst 0, 1) := by decide +kernel
theorem dL_isWhole_580 : decode cL_isWhole 580 = .ok (.invokevirtual 126, 3) := by decide +kernel
theorem dL_isWhole_583 : decode cL_isWhole 583 = .ok (.aload_n 0, 1) := by decide +kernel
theorem dL_isWhole_584 : decode cL_isWhole 584 = .ok (.bipush 9, 2) := by decide +kernel
theorem dL_isWhole_586 : decode cL_isWhole 586 = .ok (.invokevirtual 45, 3) := by decide +kernel
theorem dL_isWhole_589 : decode cL_isWhole 589 = .ok (.if_icmp .ne 15, 3) := by decide +kernel
theorem dL_isWhole_592 : decode cL_isWhole 592 = .ok (.aload_n 0, 1) := by decide +kernel
theorem dL_isWhole_593 : decode cL_isWhole 593 = .ok (.iconst 0, 1) := by decide +kernel
theorem dL_isWhole_594 : decode cL_isWhole 594 = .ok (.invokevirtual 129, 3) := by decide +kernel
theorem dL_isWhole_597 : decode cL_isWhole 597 = .ok (.ifCond .ne 7, 3) := by decide +kernel
theorem dL_isWhole_600 : decode cL_isWhole 600 = .ok (.iconst 1, 1) := by decide +kernel
theorem dL_isWhole_601 : decode cL_isWhole 601 = .ok (.goto 4, 3) := by decide +kernel
theorem dL_isWhole_604 : decode cL_isWhole 604 = .ok (.iconst 0, 1) := by decide +kernel
theorem dL_isWhole_605 : decode cL_isWhole 605 = .ok (.istore 7, 2) := by decide +kernel
theorem dL_isWhole_607 : decode cL_isWhole 607 = .ok (.iload_n 1, 1) := by decide +kernel
theorem dL_isWhole_608 : decode cL_isWhole 608 = .ok (.ifCond .ne 31, 3) := by decide +kernel
theorem dL_isWhole_611 : decode cL_isWhole 611 = .ok (.aload_n 0, 1) := by decide +kernel
theorem dL_isWhole_612 : decode cL_isWhole 612 = .ok (.iconst 0, 1) := by decide +kernel
theorem dL_isWhole_613 : decode cL_isWhole 613 = .ok (.iconst 0, 1) := by decide +kernel
theorem dL_isWhole_614 : decode cL_isWhole 614 = .ok (.invokevirtual 163, 3) := by decide +kernel
theorem dL_isWhole_617 : decode cL_isWhole 617 = .ok (.sipush (-10001), 3) := by decide +kernel
theorem dL_isWhole_620 : decode cL_isWhole 620 = .ok (.if_icmp .ne 15, 3) := by decide +kernel
theorem dL_isWhole_623 : decode cL_isWhole 623 = .ok (.aload_n 0, 1) := by decide +kernel
theorem dL_isWhole_624 : decode cL_isWhole 624 = .ok (.iconst 5, 1) := by decide +kernel
theorem dL_isWhole_625 : decode cL_isWhole 625 = .ok (.invokevirtual 45, 3) := by decide +kernel
theorem dL_isWhole_628 : decode cL_isWhole 628 = .ok (.ifCond .ne 7, 3) := by decide +kernel
theorem dL_isWhole_631 : decode cL_isWhole 631 = .ok (.iconst 1, 1) := by decide +kernel
theorem dL_isWhole_632 : decode cL_isWhole 632 = .ok (.goto 70, 3) := by decide +kernel
theorem dL_isWhole_635 : decode cL_isWhole 635 = .ok (.iconst 0, 1) := by decide +kernel
theorem dL_isWhole_636 : decode cL_isWhole 636 = .ok (.goto 66, 3) := by decide +kernel
theorem dL_isWhole_639 : decode cL_isWhole 639 = .ok (.aload_n 0, 1) := by decide +kernel
theorem dL_isWhole_640 : decode cL_isWhole 640 = .ok (.iconst 0, 1) := by decide +kernel
theorem dL_isWhole_641 : decode cL_isWhole 641 = .ok (.iconst 0, 1) := by decide +kernel
theorem dL_isWhole_642 : decode cL_isWhole 642 = .ok (.invokevirtual 163, 3) := by decide +kernel
theorem dL_isWhole_645 : decode cL_isWhole 645 = .ok (.aload_n 0, 1) := by decide +kernel
theorem dL_isWhole_646 : decode cL_isWhole 646 = .ok (.iconst 1, 1) := by decide +kernel
theorem dL_isWhole_647 : decode cL_isWhole 647 = .ok (.invokevirtual 45, 3) := by decide +kernel
theorem dL_isWhole_650 : decode cL_isWhole 650 = .ok (.if_icmp .ne 51, 3) := by decide +kernel
theorem dL_isWhole_653 : decode cL_isWhole 653 = .ok (.aload_n 0, 1) := by decide +kernel
theorem dL_isWhole_654 : decode cL_isWhole 654 = .ok (.iconst 0, 1) := by decide +kernel
theorem dL_isWhole_655 : decode cL_isWhole 655 = .ok (.iconst 1, 1) := by decide +kernel
theorem dL_isWhole_656 : decode cL_isWhole 656 = .ok (.invokevirtual 163, 3) := by decide +kernel
theorem dL_isWhole_659 : decode cL_isWhole 659 = .ok (.aload_n 0, 1) := by decide +kernel
theorem dL_isWhole_660 : decode cL_isWhole 660 = .ok (.bipush 6, 2) := by decide +kernel
theorem dL_isWhole_662 : decode cL_isWhole 662 = .ok (.invokevirtual 45, 3) := by decide +kernel
theorem dL_isWhole_665 : decode cL_isWhole 665 = .ok (.if_icmp .ne 36, 3) := by decide +kernel
theorem dL_isWhole_668 : decode cL_isWhole 668 = .ok (.aload_n 0, 1) := by decide +kernel
theorem dL_isWhole_669 : decode cL_isWhole 669 = .ok (.iconst 0, 1) := by decide +kernel
theorem dL_isWhole_670 : decode cL_isWhole 670 = .ok (.iconst 2, 1) := by decide +kernel
theorem dL_isWhole_671 : decode cL_isWhole 671 = .ok (.invokevirtual 163, 3) := by decide +kernel
theorem dL_isWhole_674 : decode cL_isWhole 674 = .ok (.aload_n 0, 1) := by decide +kernel
theorem dL_isWhole_675 : decode cL_isWhole 675 = .ok (.iconst 5, 1) := by decide +kernel
theorem dL_isWhole_676 : decode cL_isWhole 676 = .ok (.invokevirtual 45, 3) := by decide +kernel
theorem dL_isWhole_679 : decode cL_isWhole 679 = .ok (.if_icmp .ne 22, 3) := by decide +kernel
theorem dL_isWhole_682 : decode cL_isWhole 682 = .ok (.aload_n 0, 1) := by decide +kernel
theorem dL_isWhole_683 : decode cL_isWhole 683 = .ok (.iconst 0, 1) := by decide +kernel
theorem dL_isWhole_684 : decode cL_isWhole 684 = .ok (.iconst 3, 1) := by decide +kernel
theorem dL_isWhole_685 : decode cL_isWhole 685 = .ok (.invokevirtual 163, 3) := by decide +kernel
theorem dL_isWhole_688 : decode cL_isWhole 688 = .ok (.aload_n 0, 1) := by decide +kernel
theorem dL_isWhole_689 : decode cL_isWhole 689 = .ok (.iconst 0, 1) := by decide +kernel
theorem dL_isWhole_690 : decode cL_isWhole 690 = .ok (.iconst 1, 1) := by decide +kernel
theorem dL_isWhole_691 : decode cL_isWhole 691 = .ok (.invokevirtual 163, 3) := by decide +kernel
theorem dL_isWhole_694 : decode cL_isWhole 694 = .ok (.if_icmp .gt 7, 3) := by decide +kernel
theorem dL_isWhole_697 : decode cL_isWhole 697 = .ok (.iconst 1, 1) := by decide +kernel
theorem dL_isWhole_698 : decode cL_isWhole 698 = .ok (.goto 4, 3) := by decide +kernel
theorem dL_isWhole_701 : decode cL_isWhole 701 = .ok (.iconst 0, 1) := by decide +kernel
theorem dL_isWhole_702 : decode cL_isWhole 702 = .ok (.istore 8, 2) := by decide +kernel
theorem dL_isWhole_704 : decode cL_isWhole 704 = .ok (.aload_n 0, 1) := by decide +kernel
theorem dL_isWhole_705 : decode cL_isWhole 705 = .ok (.invokevirtual 180, 3) := by decide +kernel
theorem dL_isWhole_708 : decode cL_isWhole 708 = .ok (.istore 9, 2) := by decide +kernel
theorem dL_isWhole_710 : decode cL_isWhole 710 = .ok (.iload_n 1, 1) := by decide +kernel
theorem dL_isWhole_711 : decode cL_isWhole 711 = .ok (.ifCond .ne 7, 3) := by decide +kernel
theorem dL_isWhole_714 : decode cL_isWhole 714 = .ok (.dconst 0, 1) := by decide +kernel
theorem dL_isWhole_715 : decode cL_isWhole 715 = .ok (.goto 8, 3) := by decide +kernel
theorem dL_isWhole_718 : decode cL_isWhole 718 = .ok (.iload_n 2, 1) := by decide +kernel
theorem dL_isWhole_719 : decode cL_isWhole 719 = .ok (.i2d, 1) := by decide +kernel
theorem dL_isWhole_720 : decode cL_isWhole 720 = .ok (.iload_n 1, 1) := by decide +kernel
theorem dL_isWhole_721 : decode cL_isWhole 721 = .ok (.i2d, 1) := by decide +kernel
theorem dL_isWhole_722 : decode cL_isWhole 722 = .ok (.ddiv, 1) := by decide +kernel
theorem dL_isWhole_723 : decode cL_isWhole 723 = .ok (.dstore 10, 2) := by decide +kernel
theorem dL_isWhole_725 : decode cL_isWhole 725 = .ok (.aload_n 0, 1) := by decide +kernel
theorem dL_isWhole_726 : decode cL_isWhole 726 = .ok (.bipush 10, 2) := by decide +kernel
theorem dL_isWhole_728 : decode cL_isWhole 728 = .ok (.invokevirtual 45, 3) := by decide +kernel
theorem dL_isWhole_731 : decode cL_isWhole 731 = .ok (.ifCond .ne 7, 3) := by decide +kernel
theorem dL_isWhole_734 : decode cL_isWhole 734 = .ok (.fconst 0, 1) := by decide +kernel
theorem dL_isWhole_735 : decode cL_isWhole 735 = .ok (.goto 15, 3) := by decide +kernel
theorem dL_isWhole_738 : decode cL_isWhole 738 = .ok (.aload_n 3, 1) := by decide +kernel
theorem dL_isWhole_739 : decode cL_isWhole 739 = .ok (.iconst 2, 1) := by decide +kernel
theorem dL_isWhole_740 : decode cL_isWhole 740 = .ok (.iaload, 1) := by decide +kernel
theorem dL_isWhole_741 : decode cL_isWhole 741 = .ok (.i2f, 1) := by decide +kernel
theorem dL_isWhole_742 : decode cL_isWhole 742 = .ok (.aload_n 0, 1) := by decide +kernel
theorem dL_isWhole_743 : decode cL_isWhole 743 = .ok (.bipush 10, 2) := by decide +kernel
theorem dL_isWhole_745 : decode cL_isWhole 745 = .ok (.invokevirtual 45, 3) := by decide +kernel
theorem dL_isWhole_748 : decode cL_isWhole 748 = .ok (.i2f, 1) := by decide +kernel
theorem dL_isWhole_749 : decode cL_isWhole 749 = .ok (.fdiv, 1) := by decide +kernel
theorem dL_isWhole_750 : decode cL_isWhole 750 = .ok (.fstore 12, 2) := by decide +kernel
theorem dL_isWhole_752 : decode cL_isWhole 752 = .ok (.iload 5, 2) := by decide +kernel
theorem dL_isWhole_754 : decode cL_isWhole 754 = .ok (.ifCond .eq 89, 3) := by decide +kernel
theorem dL_isWhole_757 : decode cL_isWhole 757 = .ok (.iload 6, 2) := by decide +kernel
theorem dL_isWhole_759 : decode cL_isWhole 759 = .ok (.ifCond .eq 84, 3) := by decide +kernel
theorem dL_isWhole_762 : decode cL_isWhole 762 = .ok (.iload 7, 2) := by decide +kernel
theorem dL_isWhole_764 : decode cL_isWhole 764 = .ok (.ifCond .eq 79, 3) := by decide +kernel
theorem dL_isWhole_767 : decode cL_isWhole 767 = .ok (.iload 8, 2) := by decide +kernel
theorem dL_isWhole_769 : decode cL_isWhole 769 = .ok (.ifCond .eq 74, 3) := by decide +kernel
theorem dL_isWhole_772 : decode cL_isWhole 772 = .ok (.iload 9, 2) := by decide +kernel
theorem dL_isWhole_774 : decode cL_isWhole 774 = .ok (.sipush (-10005), 3) := by decide +kernel
theorem dL_isWhole_777 : decode cL_isWhole 777 = .ok (.if_icmp .eq 18, 3) := by decide +kernel
theorem dL_isWhole_780 : decode cL_isWhole 780 = .ok (.iload 9, 2) := by decide +kernel
theorem dL_isWhole_782 : decode cL_isWhole 782 = .ok (.bipush 10, 2) := by decide +kernel
theorem dL_isWhole_784 : decode cL_isWhole 784 = .ok (.if_icmp .lt 59, 3) := by decide +kernel
theorem dL_isWhole_787 : decode cL_isWhole 787 = .ok (.iload 9, 2) := by decide +kernel
theorem dL_isWhole_789 : decode cL_isWhole 789 = .ok (.sipush 300, 3) := by decide +kernel
theorem dL_isWhole_792 : decode cL_isWhole 792 = .ok (.if_icmp .gt 51, 3) := by decide +kernel
theorem dL_isWhole_795 : decode cL_isWhole 795 = .ok (.aload_n 0, 1) := by decide +kernel
theorem dL_isWhole_796 : decode cL_isWhole 796 = .ok (.invokevirtual 183, 3) := by decide +kernel
theorem dL_isWhole_799 : decode cL_isWhole 799 = .ok (.dload 10, 2) := by decide +kernel
theorem dL_isWhole_801 : decode cL_isWhole 801 = .ok (.dcmp .l, 1) := by decide +kernel
theorem dL_isWhole_802 : decode cL_isWhole 802 = .ok (.ifCond .ne 41, 3) := by decide +kernel
theorem dL_isWhole_805 : decode cL_isWhole 805 = .ok (.aload_n 0, 1) := by decide +kernel
theorem dL_isWhole_806 : decode cL_isWhole 806 = .ok (.invokevirtual 187, 3) := by decide +kernel
theorem dL_isWhole_809 : decode cL_isWhole 809 = .ok (.fload 12, 2) := by decide +kernel
theorem dL_isWhole_811 : decode cL_isWhole 811 = .ok (.fcmp .l, 1) := by decide +kernel
theorem dL_isWhole_812 : decode cL_isWhole 812 = .ok (.ifCond .ne 31, 3) := by decide +kernel
theorem dL_isWhole_815 : decode cL_isWhole 815 = .ok (.aload_n 0, 1) := by decide +kernel
theorem dL_isWhole_816 : decode cL_isWhole 816 = .ok (.invokevirtual 191, 3) := by decide +kernel
theorem dL_isWhole_819 : decode cL_isWhole 819 = .ok (.iconst 1, 1) := by decide +kernel
theorem dL_isWhole_820 : decode cL_isWhole 820 = .ok (.if_icmp .ne 23, 3) := by decide +kernel
theorem dL_isWhole_823 : decode cL_isWhole 823 = .ok (.aload_n 0, 1) := by decide +kernel
theorem dL_isWhole_824 : decode cL_isWhole 824 = .ok (.aload_n 0, 1) := by decide +kernel
theorem dL_isWhole_825 : decode cL_isWhole 825 = .ok (.bipush 10, 2) := by decide +kernel
theorem dL_isWhole_827 : decode cL_isWhole 827 = .ok (.invokevirtual 45, 3) := by decide +kernel
theorem dL_isWhole_830 : decode cL_isWhole 830 = .ok (.invokevirtual 174, 3) := by decide +kernel
theorem dL_isWhole_833 : decode cL_isWhole 833 = .ok (.sipush (-10001), 3) := by decide +kernel
theorem dL_isWhole_836 : decode cL_isWhole 836 = .ok (.if_icmp .ne 7, 3) := by decide +kernel
theorem dL_isWhole_839 : decode cL_isWhole 839 = .ok (.iconst 1, 1) := by decide +kernel
theorem dL_isWhole_840 : decode cL_isWhole 840 = .ok (.goto 4, 3) := by decide +kernel
theorem dL_isWhole_843 : decode cL_isWhole 843 = .ok (.iconst 0, 1) := by decide +kernel
theorem dL_isWhole_844 : decode cL_isWhole 844 = .ok (.ireturn, 1) := by decide +kernel
theorem dL_isKept_0 : decode cL_isKept 0 = .ok (.aload_n 0, 1) := by decide +kernel
theorem dL_isKept_1 : decode cL_isKept 1 = .ok (.iconst 0, 1) := by decide +kernel
theorem dL_isKept_2 : decode cL_isKept 2 = .ok (.invokevirtual 45, 3) := by decide +kernel
theorem dL_isKept_5 : decode cL_isKept 5 = .ok (.istore_n 3, 1) := by decide +kernel
theorem dL_isKept_6 : decode cL_isKept 6 = .ok (.aload_n 0, 1) := by decide +kernel
theorem dL_isKept_7 : decode cL_isKept 7 = .ok (.invokevirtual 194, 3) := by decide +kernel
theorem dL_isKept_10 : decode cL_isKept 10 = .ok (.iload_n 3, 1) := by decide +kernel
theorem dL_isKept_11 : decode cL_isKept 11 = .ok (.if_icmp .ne 18, 3) := by decide +kernel
theorem dL_isKept_14 : decode cL_isKept 14 = .ok (.aload_n 0, 1) := by decide +kernel
theorem dL_isKept_15 : decode cL_isKept 15 = .ok (.bipush 17, 2) := by decide +kernel
theorem dL_isKept_17 : decode cL_isKept 17 = .ok (.invokevirtual 45, 3) := by decide +kernel
theorem dL_isKept_20 : decode cL_isKept 20 = .ok (.bipush 8, 2) := by decide +kernel
theorem dL_isKept_22 : decode cL_isKept 22 = .ok (.iload_n 2, 1) := by decide +kernel
theorem dL_isKept_23 : decode cL_isKept 23 = .ok (.invokestatic 149, 3) := by decide +kernel
theorem dL_isKept_26 : decode cL_isKept 26 = .ok (.if_icmp .eq 5, 3) := by decide +kernel
theorem dL_isKept_29 : decode cL_isKept 29 = .ok (.iconst 0, 1) := by decide +kernel
theorem dL_isKept_30 : decode cL_isKept 30 = .ok (.ireturn, 1) := by decide +kernel
theorem dL_isKept_31 : decode cL_isKept 31 = .ok (.bipush 8, 2) := by decide +kernel
theorem dL_isKept_33 : decode cL_isKept 33 = .ok (.iload_n 2, 1) := by decide +kernel
theorem dL_isKept_34 : decode cL_isKept 34 = .ok (.invokestatic 149, 3) := by decide +kernel
theorem dL_isKept_37 : decode cL_isKept 37 = .ok (.istore 4, 2) := by decide +kernel
theorem dL_isKept_39 : decode cL_isKept 39 = .ok (.iload_n 2, 1) := by decide +kernel
theorem dL_isKept_40 : decode cL_isKept 40 = .ok (.iconst 1, 1) := by decide +kernel
theorem dL_isKept_41 : decode cL_isKept 41 = .ok (.isub, 1) := by decide +kernel
theorem dL_isKept_42 : decode cL_isKept 42 = .ok (.istore 5, 2) := by decide +kernel
theorem dL_isKept_44 : decode cL_isKept 44 = .ok (.iload 4, 2) := by decide +kernel
theorem dL_isKept_46 : decode cL_isKept 46 = .ok (.ifCond .le 35, 3) := by decide +kernel
theorem dL_isKept_49 : decode cL_isKept 49 = .ok (.iinc 4 (-1), 3) := by decide +kernel
theorem dL_isKept_52 : decode cL_isKept 52 = .ok (.aload_n 0, 1) := by decide +kernel
theorem dL_isKept_53 : decode cL_isKept 53 = .ok (.invokevirtual 197, 3) := by decide +kernel
theorem dL_isKept_56 : decode cL_isKept 56 = .ok (.iload 4, 2) := by decide +kernel
theorem dL_isKept_58 : decode cL_isKept 58 = .ok (.if_icmp .ne 15, 3) := by decide +kernel
theorem dL_isKept_61 : decode cL_isKept 61 = .ok (.aload_n 0, 1) := by decide +kernel
theorem dL_isKept_62 : decode cL_isKept 62 = .ok (.invokestatic 41, 3) := by decide +kernel
theorem dL_isKept_65 : decode cL_isKept 65 = .ok (.aload_n 1, 1) := by decide +kernel
theorem dL_isKept_66 : decode cL_isKept 66 = .ok (.iload 5, 2) := by decide +kernel
theorem dL_isKept_68 : decode cL_isKept 68 = .ok (.laload, 1) := by decide +kernel
theorem dL_isKept_69 : decode cL_isKept 69 = .ok (.lcmp, 1) := by decide +kernel
theorem dL_isKept_70 : decode cL_isKept 70 = .ok (.ifCond .eq 5, 3) := by decide +kernel
theorem dL_isKept_73 : decode cL_isKept 73 = .ok (.iconst 0, 1) := by decide +kernel
theorem dL_isKept_74 : decode cL_isKept 74 = .ok (.ireturn, 1) := by decide +kernel
theorem dL_isKept_75 : decode cL_isKept 75 = .ok (.iinc 5 (-1), 3) := by decide +kernel
theorem dL_isKept_78 : decode cL_isKept 78 = .ok (.goto (-34), 3) := by decide +kernel
theorem dL_isKept_81 : decode cL_isKept 81 = .ok (.aload_n 0, 1) := by decide +kernel
theorem dL_isKept_82 : decode cL_isKept 82 = .ok (.invokevirtual 197, 3) := by decide +kernel
theorem dL_isKept_85 : decode cL_isKept 85 = .ok (.sipush (-10005), 3) := by decide +kernel
theorem dL_isKept_88 : decode cL_isKept 88 = .ok (.if_icmp .ne 36, 3) := by decide +kernel
theorem dL_isKept_91 : decode cL_isKept 91 = .ok (.aload_n 0, 1) := by decide +kernel
theorem dL_isKept_92 : decode cL_isKept 92 = .ok (.invokevirtual 200, 3) := by decide +kernel
theorem dL_isKept_95 : decode cL_isKept 95 = .ok (.iload_n 3, 1) := by decide +kernel
theorem dL_isKept_96 : decode cL_isKept 96 = .ok (.if_icmp .ne 28, 3) := by decide +kernel
theorem dL_isKept_99 : decode cL_isKept 99 = .ok (.aload_n 0, 1) := by decide +kernel
theorem dL_isKept_100 : decode cL_isKept 100 = .ok (.invokestatic 41, 3) := by decide +kernel
theorem dL_isKept_103 : decode cL_isKept 103 = .ok (.aload_n 1, 1) := by decide +kernel
theorem dL_isKept_104 : decode cL_isKept 104 = .ok (.iload_n 2, 1) := by decide +kernel
theorem dL_isKept_105 : decode cL_isKept 105 = .ok (.laload, 1) := by decide +kernel
theorem dL_isKept_106 : decode cL_isKept 106 = .ok (.lcmp, 1) := by decide +kernel
theorem dL_isKept_107 : decode cL_isKept 107 = .ok (.ifCond .ne 17, 3) := by decide +kernel
theorem dL_isKept_110 : decode cL_isKept 110 = .ok (.aload_n 0, 1) := by decide +kernel
theorem dL_isKept_111 : decode cL_isKept 111 = .ok (.invokevirtual 197, 3) := by decide +kernel
theorem dL_isKept_114 : decode cL_isKept 114 = .ok (.sipush (-10005), 3) := by decide +kernel
theorem dL_isKept_117 : decode cL_isKept 117 = .ok (.if_icmp .ne 7, 3) := by decide +kernel
theorem dL_isKept_120 : decode cL_isKept 120 = .ok (.iconst 1, 1) := by decide +kernel
theorem dL_isKept_121 : decode cL_isKept 121 = .ok (.goto 4, 3) := by decide +kernel
theorem dL_isKept_124 : decode cL_isKept 124 = .ok (.iconst 0, 1) := by decide +kernel
theorem dL_isKept_125 : decode cL_isKept 125 = .ok (.ireturn, 1) := by decide +kernel
abbrev vwCl : List vw_C := [(RJ4, TJ4, 4), (RX1, TX1, 6), (RX2, TX2, 3), (RX3, TX3, 8), (RX4, TX4, 2), (RX5, TX5, 2), (RX6, TX6, 7), (RX7, TX7, 2), (RX8, TX8, 2), (RX9, TX9, 2), (RX10, TX10, 6), (RX12, TX12, 9), (RJ0, TJ0, 4)]
