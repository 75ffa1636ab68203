section
-- ===== PART A: goes FIRST, ahead of the names: the tables' words, and 'selects' of the private methods out of them =====
/-- a private method of a class that the tables say can be made, by its rows of tables_1 -/
def lw_okq (q : MethodName × Nat) : Prop := (q.1.cls ≠ "java/lang/invoke/MethodHandle" ∧ q.1.cls ≠ "java/lang/invoke/VarHandle") ∧ Cond.instantiable q.1.cls q.2 ∈ tables_1 ∧ Cond.privateMethod q.1 ∈ tables_1 ∧ Cond.instanceMethod q.1 ∈ tables_1
theorem lw_p0 : lw_okq (⟨"KilnKeeper", "beginChange", "()V"⟩, 9) := ⟨⟨by decide +kernel, by decide +kernel⟩, List.mem_of_getElem? (i := 28) (by decide +kernel), List.mem_of_getElem? (i := 328) (by decide +kernel), List.mem_of_getElem? (i := 329) (by decide +kernel)⟩
theorem lw_p1 : lw_okq (⟨"KilnKeeper", "endChange", "(I)I"⟩, 9) := ⟨⟨by decide +kernel, by decide +kernel⟩, List.mem_of_getElem? (i := 28) (by decide +kernel), List.mem_of_getElem? (i := 375) (by decide +kernel), List.mem_of_getElem? (i := 376) (by decide +kernel)⟩
theorem lw_p2 : lw_okq (⟨"KilnKeeper$Changes", "kilnAt", "(I)LKilnKeeper$Kiln;"⟩, 3) := ⟨⟨by decide +kernel, by decide +kernel⟩, List.mem_of_getElem? (i := 194) (by decide +kernel), List.mem_of_getElem? (i := 383) (by decide +kernel), List.mem_of_getElem? (i := 384) (by decide +kernel)⟩
theorem lw_p3 : lw_okq (⟨"KilnKeeper$LagRow", "shiftBy", "(I)V"⟩, 2) := ⟨⟨by decide +kernel, by decide +kernel⟩, List.mem_of_getElem? (i := 69) (by decide +kernel), List.mem_of_getElem? (i := 421) (by decide +kernel), List.mem_of_getElem? (i := 422) (by decide +kernel)⟩
theorem lw_p4 : lw_okq (⟨"KilnKeeper$Regulator", "sumWith", "(I)I"⟩, 6) := ⟨⟨by decide +kernel, by decide +kernel⟩, List.mem_of_getElem? (i := 42) (by decide +kernel), List.mem_of_getElem? (i := 460) (by decide +kernel), List.mem_of_getElem? (i := 461) (by decide +kernel)⟩
theorem lw_p5 : lw_okq (⟨"KilnKeeper", "tryMinutes", "(I)LKilnKeeper$Kiln;"⟩, 9) := ⟨⟨by decide +kernel, by decide +kernel⟩, List.mem_of_getElem? (i := 28) (by decide +kernel), List.mem_of_getElem? (i := 554) (by decide +kernel), List.mem_of_getElem? (i := 555) (by decide +kernel)⟩
theorem lw_p6 : lw_okq (⟨"KilnKeeper$Rack", "countAheadOf", "(I)I"⟩, 2) := ⟨⟨by decide +kernel, by decide +kernel⟩, List.mem_of_getElem? (i := 115) (by decide +kernel), List.mem_of_getElem? (i := 576) (by decide +kernel), List.mem_of_getElem? (i := 577) (by decide +kernel)⟩
theorem lw_p7 : lw_okq (⟨"KilnKeeper$Reader", "readOrder", "(ILKilnKeeper$Order;)I"⟩, 2) := ⟨⟨by decide +kernel, by decide +kernel⟩, List.mem_of_getElem? (i := 229) (by decide +kernel), List.mem_of_getElem? (i := 746) (by decide +kernel), List.mem_of_getElem? (i := 747) (by decide +kernel)⟩
theorem lw_p8 : lw_okq (⟨"KilnKeeper$Reader", "readForm", "(LKilnKeeper$Word;ILKilnKeeper$Order;)I"⟩, 2) := ⟨⟨by decide +kernel, by decide +kernel⟩, List.mem_of_getElem? (i := 229) (by decide +kernel), List.mem_of_getElem? (i := 752) (by decide +kernel), List.mem_of_getElem? (i := 753) (by decide +kernel)⟩
theorem lw_p9 : lw_okq (⟨"KilnKeeper$Reader", "endOfDigits", "(II)I"⟩, 2) := ⟨⟨by decide +kernel, by decide +kernel⟩, List.mem_of_getElem? (i := 229) (by decide +kernel), List.mem_of_getElem? (i := 786) (by decide +kernel), List.mem_of_getElem? (i := 787) (by decide +kernel)⟩
theorem lw_p10 : lw_okq (⟨"KilnKeeper$Reader", "digitAt", "(I)I"⟩, 2) := ⟨⟨by decide +kernel, by decide +kernel⟩, List.mem_of_getElem? (i := 229) (by decide +kernel), List.mem_of_getElem? (i := 790) (by decide +kernel), List.mem_of_getElem? (i := 791) (by decide +kernel)⟩
theorem lw_p11 : lw_okq (⟨"KilnKeeper$Reader", "numberFrom", "(II)I"⟩, 2) := ⟨⟨by decide +kernel, by decide +kernel⟩, List.mem_of_getElem? (i := 229) (by decide +kernel), List.mem_of_getElem? (i := 804) (by decide +kernel), List.mem_of_getElem? (i := 805) (by decide +kernel)⟩
theorem lw_p12 : lw_okq (⟨"KilnKeeper$Reader", "isSignAt", "(IC)Z"⟩, 2) := ⟨⟨by decide +kernel, by decide +kernel⟩, List.mem_of_getElem? (i := 229) (by decide +kernel), List.mem_of_getElem? (i := 809) (by decide +kernel), List.mem_of_getElem? (i := 810) (by decide +kernel)⟩
theorem lw_p13 : lw_okq (⟨"KilnKeeper", "carryOut", "(LKilnKeeper$Order;)I"⟩, 9) := ⟨⟨by decide +kernel, by decide +kernel⟩, List.mem_of_getElem? (i := 28) (by decide +kernel), List.mem_of_getElem? (i := 842) (by decide +kernel), List.mem_of_getElem? (i := 843) (by decide +kernel)⟩
theorem lw_p14 : lw_okq (⟨"KilnKeeper$Pot", "stateLetter", "()C"⟩, 7) := ⟨⟨by decide +kernel, by decide +kernel⟩, List.mem_of_getElem? (i := 122) (by decide +kernel), List.mem_of_getElem? (i := 917) (by decide +kernel), List.mem_of_getElem? (i := 918) (by decide +kernel)⟩
theorem lw_p15 : lw_okq (⟨"KilnKeeperModel", "remembers", "()V"⟩, 20) := ⟨⟨by decide +kernel, by decide +kernel⟩, List.mem_of_getElem? (i := 985) (by decide +kernel), List.mem_of_getElem? (i := 1056) (by decide +kernel), List.mem_of_getElem? (i := 1057) (by decide +kernel)⟩
def lw_privs_1 : List (MethodName × Nat) := [(⟨"KilnKeeper", "beginChange", "()V"⟩, 9), (⟨"KilnKeeper", "endChange", "(I)I"⟩, 9), (⟨"KilnKeeper$Changes", "kilnAt", "(I)LKilnKeeper$Kiln;"⟩, 3), (⟨"KilnKeeper$LagRow", "shiftBy", "(I)V"⟩, 2), (⟨"KilnKeeper$Regulator", "sumWith", "(I)I"⟩, 6), (⟨"KilnKeeper", "tryMinutes", "(I)LKilnKeeper$Kiln;"⟩, 9), (⟨"KilnKeeper$Rack", "countAheadOf", "(I)I"⟩, 2), (⟨"KilnKeeper$Reader", "readOrder", "(ILKilnKeeper$Order;)I"⟩, 2), (⟨"KilnKeeper$Reader", "readForm", "(LKilnKeeper$Word;ILKilnKeeper$Order;)I"⟩, 2), (⟨"KilnKeeper$Reader", "endOfDigits", "(II)I"⟩, 2), (⟨"KilnKeeper$Reader", "digitAt", "(I)I"⟩, 2), (⟨"KilnKeeper$Reader", "numberFrom", "(II)I"⟩, 2), (⟨"KilnKeeper$Reader", "isSignAt", "(IC)Z"⟩, 2), (⟨"KilnKeeper", "carryOut", "(LKilnKeeper$Order;)I"⟩, 9), (⟨"KilnKeeper$Pot", "stateLetter", "()C"⟩, 7), (⟨"KilnKeeperModel", "remembers", "()V"⟩, 20)]
theorem lw_r1 : ∀ q ∈ lw_privs_1, lw_okq q := List.forall_mem_cons.mpr ⟨lw_p0, List.forall_mem_cons.mpr ⟨lw_p1, List.forall_mem_cons.mpr ⟨lw_p2, List.forall_mem_cons.mpr ⟨lw_p3, List.forall_mem_cons.mpr ⟨lw_p4, List.forall_mem_cons.mpr ⟨lw_p5, List.forall_mem_cons.mpr ⟨lw_p6, List.forall_mem_cons.mpr ⟨lw_p7, List.forall_mem_cons.mpr ⟨lw_p8, List.forall_mem_cons.mpr ⟨lw_p9, List.forall_mem_cons.mpr ⟨lw_p10, List.forall_mem_cons.mpr ⟨lw_p11, List.forall_mem_cons.mpr ⟨lw_p12, List.forall_mem_cons.mpr ⟨lw_p13, List.forall_mem_cons.mpr ⟨lw_p14, List.forall_mem_cons.mpr ⟨lw_p15, fun _ h => absurd h List.not_mem_nil⟩⟩⟩⟩⟩⟩⟩⟩⟩⟩⟩⟩⟩⟩⟩⟩
theorem lw_p16 : lw_okq (⟨"KilnKeeperModel", "aims", "(I)I"⟩, 20) := ⟨⟨by decide +kernel, by decide +kernel⟩, List.mem_of_getElem? (i := 985) (by decide +kernel), List.mem_of_getElem? (i := 1060) (by decide +kernel), List.mem_of_getElem? (i := 1061) (by decide +kernel)⟩
theorem lw_p17 : lw_okq (⟨"KilnKeeperModel", "refused", "(II)I"⟩, 20) := ⟨⟨by decide +kernel, by decide +kernel⟩, List.mem_of_getElem? (i := 985) (by decide +kernel), List.mem_of_getElem? (i := 1067) (by decide +kernel), List.mem_of_getElem? (i := 1068) (by decide +kernel)⟩
theorem lw_p18 : lw_okq (⟨"KilnKeeperModel", "done", "(I)I"⟩, 20) := ⟨⟨by decide +kernel, by decide +kernel⟩, List.mem_of_getElem? (i := 985) (by decide +kernel), List.mem_of_getElem? (i := 1071) (by decide +kernel), List.mem_of_getElem? (i := 1072) (by decide +kernel)⟩
theorem lw_p19 : lw_okq (⟨"KilnKeeperModel", "ends", "(I)I"⟩, 20) := ⟨⟨by decide +kernel, by decide +kernel⟩, List.mem_of_getElem? (i := 985) (by decide +kernel), List.mem_of_getElem? (i := 1075) (by decide +kernel), List.mem_of_getElem? (i := 1076) (by decide +kernel)⟩
theorem lw_p20 : lw_okq (⟨"KilnKeeperModel", "changed", "(I)I"⟩, 20) := ⟨⟨by decide +kernel, by decide +kernel⟩, List.mem_of_getElem? (i := 985) (by decide +kernel), List.mem_of_getElem? (i := 1079) (by decide +kernel), List.mem_of_getElem? (i := 1080) (by decide +kernel)⟩
theorem lw_p21 : lw_okq (⟨"KilnKeeperModel", "gainsOf", "(III)I"⟩, 20) := ⟨⟨by decide +kernel, by decide +kernel⟩, List.mem_of_getElem? (i := 985) (by decide +kernel), List.mem_of_getElem? (i := 1087) (by decide +kernel), List.mem_of_getElem? (i := 1088) (by decide +kernel)⟩
theorem lw_p22 : lw_okq (⟨"KilnKeeperModel", "caps", "(I)I"⟩, 20) := ⟨⟨by decide +kernel, by decide +kernel⟩, List.mem_of_getElem? (i := 985) (by decide +kernel), List.mem_of_getElem? (i := 1095) (by decide +kernel), List.mem_of_getElem? (i := 1096) (by decide +kernel)⟩
theorem lw_p23 : lw_okq (⟨"KilnKeeperModel", "lags", "(I)I"⟩, 20) := ⟨⟨by decide +kernel, by decide +kernel⟩, List.mem_of_getElem? (i := 985) (by decide +kernel), List.mem_of_getElem? (i := 1106) (by decide +kernel), List.mem_of_getElem? (i := 1107) (by decide +kernel)⟩
theorem lw_p24 : lw_okq (⟨"KilnKeeperModel", "lagged", "(I)I"⟩, 20) := ⟨⟨by decide +kernel, by decide +kernel⟩, List.mem_of_getElem? (i := 985) (by decide +kernel), List.mem_of_getElem? (i := 1110) (by decide +kernel), List.mem_of_getElem? (i := 1111) (by decide +kernel)⟩
theorem lw_p25 : lw_okq (⟨"KilnKeeperModel", "fuels", "(I)I"⟩, 20) := ⟨⟨by decide +kernel, by decide +kernel⟩, List.mem_of_getElem? (i := 985) (by decide +kernel), List.mem_of_getElem? (i := 1118) (by decide +kernel), List.mem_of_getElem? (i := 1119) (by decide +kernel)⟩
theorem lw_p26 : lw_okq (⟨"KilnKeeperModel", "goesOn", "(I)I"⟩, 20) := ⟨⟨by decide +kernel, by decide +kernel⟩, List.mem_of_getElem? (i := 985) (by decide +kernel), List.mem_of_getElem? (i := 1126) (by decide +kernel), List.mem_of_getElem? (i := 1127) (by decide +kernel)⟩
theorem lw_p27 : lw_okq (⟨"KilnKeeperModel", "goesBy", "()V"⟩, 20) := ⟨⟨by decide +kernel, by decide +kernel⟩, List.mem_of_getElem? (i := 985) (by decide +kernel), List.mem_of_getElem? (i := 1130) (by decide +kernel), List.mem_of_getElem? (i := 1131) (by decide +kernel)⟩
theorem lw_p28 : lw_okq (⟨"KilnKeeperModel", "error", "()I"⟩, 20) := ⟨⟨by decide +kernel, by decide +kernel⟩, List.mem_of_getElem? (i := 985) (by decide +kernel), List.mem_of_getElem? (i := 1134) (by decide +kernel), List.mem_of_getElem? (i := 1135) (by decide +kernel)⟩
theorem lw_p29 : lw_okq (⟨"KilnKeeperModel", "wantedNow", "()I"⟩, 20) := ⟨⟨by decide +kernel, by decide +kernel⟩, List.mem_of_getElem? (i := 985) (by decide +kernel), List.mem_of_getElem? (i := 1138) (by decide +kernel), List.mem_of_getElem? (i := 1139) (by decide +kernel)⟩
theorem lw_p30 : lw_okq (⟨"KilnKeeperModel", "sumThen", "()I"⟩, 20) := ⟨⟨by decide +kernel, by decide +kernel⟩, List.mem_of_getElem? (i := 985) (by decide +kernel), List.mem_of_getElem? (i := 1142) (by decide +kernel), List.mem_of_getElem? (i := 1143) (by decide +kernel)⟩
theorem lw_p31 : lw_okq (⟨"KilnKeeperModel", "notesMinute", "(II)V"⟩, 20) := ⟨⟨by decide +kernel, by decide +kernel⟩, List.mem_of_getElem? (i := 985) (by decide +kernel), List.mem_of_getElem? (i := 1146) (by decide +kernel), List.mem_of_getElem? (i := 1147) (by decide +kernel)⟩
def lw_privs_2 : List (MethodName × Nat) := [(⟨"KilnKeeperModel", "aims", "(I)I"⟩, 20), (⟨"KilnKeeperModel", "refused", "(II)I"⟩, 20), (⟨"KilnKeeperModel", "done", "(I)I"⟩, 20), (⟨"KilnKeeperModel", "ends", "(I)I"⟩, 20), (⟨"KilnKeeperModel", "changed", "(I)I"⟩, 20), (⟨"KilnKeeperModel", "gainsOf", "(III)I"⟩, 20), (⟨"KilnKeeperModel", "caps", "(I)I"⟩, 20), (⟨"KilnKeeperModel", "lags", "(I)I"⟩, 20), (⟨"KilnKeeperModel", "lagged", "(I)I"⟩, 20), (⟨"KilnKeeperModel", "fuels", "(I)I"⟩, 20), (⟨"KilnKeeperModel", "goesOn", "(I)I"⟩, 20), (⟨"KilnKeeperModel", "goesBy", "()V"⟩, 20), (⟨"KilnKeeperModel", "error", "()I"⟩, 20), (⟨"KilnKeeperModel", "wantedNow", "()I"⟩, 20), (⟨"KilnKeeperModel", "sumThen", "()I"⟩, 20), (⟨"KilnKeeperModel", "notesMinute", "(II)V"⟩, 20)]
theorem lw_r2 : ∀ q ∈ lw_privs_2, lw_okq q := List.forall_mem_cons.mpr ⟨lw_p16, List.forall_mem_cons.mpr ⟨lw_p17, List.forall_mem_cons.mpr ⟨lw_p18, List.forall_mem_cons.mpr ⟨lw_p19, List.forall_mem_cons.mpr ⟨lw_p20, List.forall_mem_cons.mpr ⟨lw_p21, List.forall_mem_cons.mpr ⟨lw_p22, List.forall_mem_cons.mpr ⟨lw_p23, List.forall_mem_cons.mpr ⟨lw_p24, List.forall_mem_cons.mpr ⟨lw_p25, List.forall_mem_cons.mpr ⟨lw_p26, List.forall_mem_cons.mpr ⟨lw_p27, List.forall_mem_cons.mpr ⟨lw_p28, List.forall_mem_cons.mpr ⟨lw_p29, List.forall_mem_cons.mpr ⟨lw_p30, List.forall_mem_cons.mpr ⟨lw_p31, fun _ h => absurd h List.not_mem_nil⟩⟩⟩⟩⟩⟩⟩⟩⟩⟩⟩⟩⟩⟩⟩⟩
theorem lw_p32 : lw_okq (⟨"KilnKeeperModel", "heats", "(II)V"⟩, 20) := ⟨⟨by decide +kernel, by decide +kernel⟩, List.mem_of_getElem? (i := 985) (by decide +kernel), List.mem_of_getElem? (i := 1150) (by decide +kernel), List.mem_of_getElem? (i := 1151) (by decide +kernel)⟩
theorem lw_p33 : lw_okq (⟨"KilnKeeperModel", "comes", "(III)I"⟩, 20) := ⟨⟨by decide +kernel, by decide +kernel⟩, List.mem_of_getElem? (i := 985) (by decide +kernel), List.mem_of_getElem? (i := 1158) (by decide +kernel), List.mem_of_getElem? (i := 1159) (by decide +kernel)⟩
theorem lw_p34 : lw_okq (⟨"KilnKeeperModel", "puts", "(I)I"⟩, 20) := ⟨⟨by decide +kernel, by decide +kernel⟩, List.mem_of_getElem? (i := 985) (by decide +kernel), List.mem_of_getElem? (i := 1166) (by decide +kernel), List.mem_of_getElem? (i := 1167) (by decide +kernel)⟩
theorem lw_p35 : lw_okq (⟨"KilnKeeperModel", "isPot", "(I)Z"⟩, 20) := ⟨⟨by decide +kernel, by decide +kernel⟩, List.mem_of_getElem? (i := 985) (by decide +kernel), List.mem_of_getElem? (i := 1170) (by decide +kernel), List.mem_of_getElem? (i := 1171) (by decide +kernel)⟩
theorem lw_p36 : lw_okq (⟨"KilnKeeperModel", "within", "()I"⟩, 20) := ⟨⟨by decide +kernel, by decide +kernel⟩, List.mem_of_getElem? (i := 985) (by decide +kernel), List.mem_of_getElem? (i := 1174) (by decide +kernel), List.mem_of_getElem? (i := 1175) (by decide +kernel)⟩
theorem lw_p37 : lw_okq (⟨"KilnKeeperModel", "takes", "(I)I"⟩, 20) := ⟨⟨by decide +kernel, by decide +kernel⟩, List.mem_of_getElem? (i := 985) (by decide +kernel), List.mem_of_getElem? (i := 1182) (by decide +kernel), List.mem_of_getElem? (i := 1183) (by decide +kernel)⟩
theorem lw_p38 : lw_okq (⟨"KilnKeeperModel", "thinks", "(I)V"⟩, 20) := ⟨⟨by decide +kernel, by decide +kernel⟩, List.mem_of_getElem? (i := 985) (by decide +kernel), List.mem_of_getElem? (i := 1194) (by decide +kernel), List.mem_of_getElem? (i := 1195) (by decide +kernel)⟩
theorem lw_p39 : lw_okq (⟨"KilnKeeperModel", "forgets", "()V"⟩, 20) := ⟨⟨by decide +kernel, by decide +kernel⟩, List.mem_of_getElem? (i := 985) (by decide +kernel), List.mem_of_getElem? (i := 1198) (by decide +kernel), List.mem_of_getElem? (i := 1199) (by decide +kernel)⟩
theorem lw_p40 : lw_okq (⟨"KilnKeeperModel", "isAhead", "(II)Z"⟩, 20) := ⟨⟨by decide +kernel, by decide +kernel⟩, List.mem_of_getElem? (i := 985) (by decide +kernel), List.mem_of_getElem? (i := 1210) (by decide +kernel), List.mem_of_getElem? (i := 1211) (by decide +kernel)⟩
theorem lw_p41 : lw_okq (⟨"KilnKeeperModel", "left", "(I)I"⟩, 20) := ⟨⟨by decide +kernel, by decide +kernel⟩, List.mem_of_getElem? (i := 985) (by decide +kernel), List.mem_of_getElem? (i := 1214) (by decide +kernel), List.mem_of_getElem? (i := 1215) (by decide +kernel)⟩
theorem lw_p42 : lw_okq (⟨"KilnKeeperModel", "readsOne", "()V"⟩, 20) := ⟨⟨by decide +kernel, by decide +kernel⟩, List.mem_of_getElem? (i := 985) (by decide +kernel), List.mem_of_getElem? (i := 1258) (by decide +kernel), List.mem_of_getElem? (i := 1259) (by decide +kernel)⟩
theorem lw_p43 : lw_okq (⟨"KilnKeeperModel", "sort", "()I"⟩, 20) := ⟨⟨by decide +kernel, by decide +kernel⟩, List.mem_of_getElem? (i := 985) (by decide +kernel), List.mem_of_getElem? (i := 1262) (by decide +kernel), List.mem_of_getElem? (i := 1263) (by decide +kernel)⟩
theorem lw_p44 : lw_okq (⟨"KilnKeeperModel", "here", "(I)I"⟩, 20) := ⟨⟨by decide +kernel, by decide +kernel⟩, List.mem_of_getElem? (i := 985) (by decide +kernel), List.mem_of_getElem? (i := 1266) (by decide +kernel), List.mem_of_getElem? (i := 1267) (by decide +kernel)⟩
theorem lw_p45 : lw_okq (⟨"KilnKeeperModel", "reads", "(Ljava/lang/String;I)V"⟩, 20) := ⟨⟨by decide +kernel, by decide +kernel⟩, List.mem_of_getElem? (i := 985) (by decide +kernel), List.mem_of_getElem? (i := 1271) (by decide +kernel), List.mem_of_getElem? (i := 1272) (by decide +kernel)⟩
theorem lw_p46 : lw_okq (⟨"KilnKeeperModel", "word", "(Ljava/lang/String;)V"⟩, 20) := ⟨⟨by decide +kernel, by decide +kernel⟩, List.mem_of_getElem? (i := 985) (by decide +kernel), List.mem_of_getElem? (i := 1275) (by decide +kernel), List.mem_of_getElem? (i := 1276) (by decide +kernel)⟩
theorem lw_p47 : lw_okq (⟨"KilnKeeperModel", "number", "(II)V"⟩, 20) := ⟨⟨by decide +kernel, by decide +kernel⟩, List.mem_of_getElem? (i := 985) (by decide +kernel), List.mem_of_getElem? (i := 1281) (by decide +kernel), List.mem_of_getElem? (i := 1282) (by decide +kernel)⟩
def lw_privs_3 : List (MethodName × Nat) := [(⟨"KilnKeeperModel", "heats", "(II)V"⟩, 20), (⟨"KilnKeeperModel", "comes", "(III)I"⟩, 20), (⟨"KilnKeeperModel", "puts", "(I)I"⟩, 20), (⟨"KilnKeeperModel", "isPot", "(I)Z"⟩, 20), (⟨"KilnKeeperModel", "within", "()I"⟩, 20), (⟨"KilnKeeperModel", "takes", "(I)I"⟩, 20), (⟨"KilnKeeperModel", "thinks", "(I)V"⟩, 20), (⟨"KilnKeeperModel", "forgets", "()V"⟩, 20), (⟨"KilnKeeperModel", "isAhead", "(II)Z"⟩, 20), (⟨"KilnKeeperModel", "left", "(I)I"⟩, 20), (⟨"KilnKeeperModel", "readsOne", "()V"⟩, 20), (⟨"KilnKeeperModel", "sort", "()I"⟩, 20), (⟨"KilnKeeperModel", "here", "(I)I"⟩, 20), (⟨"KilnKeeperModel", "reads", "(Ljava/lang/String;I)V"⟩, 20), (⟨"KilnKeeperModel", "word", "(Ljava/lang/String;)V"⟩, 20), (⟨"KilnKeeperModel", "number", "(II)V"⟩, 20)]
theorem lw_r3 : ∀ q ∈ lw_privs_3, lw_okq q := List.forall_mem_cons.mpr ⟨lw_p32, List.forall_mem_cons.mpr ⟨lw_p33, List.forall_mem_cons.mpr ⟨lw_p34, List.forall_mem_cons.mpr ⟨lw_p35, List.forall_mem_cons.mpr ⟨lw_p36, List.forall_mem_cons.mpr ⟨lw_p37, List.forall_mem_cons.mpr ⟨lw_p38, List.forall_mem_cons.mpr ⟨lw_p39, List.forall_mem_cons.mpr ⟨lw_p40, List.forall_mem_cons.mpr ⟨lw_p41, List.forall_mem_cons.mpr ⟨lw_p42, List.forall_mem_cons.mpr ⟨lw_p43, List.forall_mem_cons.mpr ⟨lw_p44, List.forall_mem_cons.mpr ⟨lw_p45, List.forall_mem_cons.mpr ⟨lw_p46, List.forall_mem_cons.mpr ⟨lw_p47, fun _ h => absurd h List.not_mem_nil⟩⟩⟩⟩⟩⟩⟩⟩⟩⟩⟩⟩⟩⟩⟩⟩
theorem lw_p48 : lw_okq (⟨"KilnKeeperModel", "does", "(I)I"⟩, 20) := ⟨⟨by decide +kernel, by decide +kernel⟩, List.mem_of_getElem? (i := 985) (by decide +kernel), List.mem_of_getElem? (i := 1294) (by decide +kernel), List.mem_of_getElem? (i := 1295) (by decide +kernel)⟩
theorem lw_p49 : lw_okq (⟨"KilnKeeperModel", "writesNumber", "(I)V"⟩, 20) := ⟨⟨by decide +kernel, by decide +kernel⟩, List.mem_of_getElem? (i := 985) (by decide +kernel), List.mem_of_getElem? (i := 1302) (by decide +kernel), List.mem_of_getElem? (i := 1303) (by decide +kernel)⟩
theorem lw_p50 : lw_okq (⟨"KilnKeeperModel", "writes", "(I)V"⟩, 20) := ⟨⟨by decide +kernel, by decide +kernel⟩, List.mem_of_getElem? (i := 985) (by decide +kernel), List.mem_of_getElem? (i := 1306) (by decide +kernel), List.mem_of_getElem? (i := 1307) (by decide +kernel)⟩
theorem lw_p51 : lw_okq (⟨"KilnKeeperModel", "writesPart", "(II)V"⟩, 20) := ⟨⟨by decide +kernel, by decide +kernel⟩, List.mem_of_getElem? (i := 985) (by decide +kernel), List.mem_of_getElem? (i := 1310) (by decide +kernel), List.mem_of_getElem? (i := 1311) (by decide +kernel)⟩
theorem lw_p52 : lw_okq (⟨"KilnKeeperModel", "manyThat", "(I)I"⟩, 20) := ⟨⟨by decide +kernel, by decide +kernel⟩, List.mem_of_getElem? (i := 985) (by decide +kernel), List.mem_of_getElem? (i := 1330) (by decide +kernel), List.mem_of_getElem? (i := 1331) (by decide +kernel)⟩
def lw_privs_4 : List (MethodName × Nat) := [(⟨"KilnKeeperModel", "does", "(I)I"⟩, 20), (⟨"KilnKeeperModel", "writesNumber", "(I)V"⟩, 20), (⟨"KilnKeeperModel", "writes", "(I)V"⟩, 20), (⟨"KilnKeeperModel", "writesPart", "(II)V"⟩, 20), (⟨"KilnKeeperModel", "manyThat", "(I)I"⟩, 20)]
theorem lw_r4 : ∀ q ∈ lw_privs_4, lw_okq q := List.forall_mem_cons.mpr ⟨lw_p48, List.forall_mem_cons.mpr ⟨lw_p49, List.forall_mem_cons.mpr ⟨lw_p50, List.forall_mem_cons.mpr ⟨lw_p51, List.forall_mem_cons.mpr ⟨lw_p52, fun _ h => absurd h List.not_mem_nil⟩⟩⟩⟩⟩
def lw_privs : List (MethodName × Nat) := lw_privs_1 ++ (lw_privs_2 ++ (lw_privs_3 ++ (lw_privs_4)))
def lw_tbl : List Cond := k2_sels lw_privs ++ tables_1
theorem lw_privs_ok : ∀ q ∈ lw_privs, lw_okq q := by
  show ∀ q ∈ lw_privs_1 ++ (lw_privs_2 ++ (lw_privs_3 ++ (lw_privs_4))), lw_okq q
  exact List.forall_mem_append.mpr ⟨lw_r1, List.forall_mem_append.mpr ⟨lw_r2, List.forall_mem_append.mpr ⟨lw_r3, lw_r4⟩⟩⟩
/-- the streams that the claim lets the run draw from -/
abbrev lw_cs : List Choice := [Jvm.Choice.named "NaN.bits"]
theorem lw_bits : nanBits ∈ lw_cs := by first | decide | exact List.mem_cons_self | simp [lw_cs, nanBits]
def RX0 : String := "KilnKeeper$1"
def TX0 : u_T := fun k => match k with
  | _ => ("", "", "", false)
def tyX0 : Nat → FieldType := fun k => match k with
  | _ => .int
theorem nmX0 : ∀ a, a < 0 → ∀ b, b < 0 → a ≠ b → (TX0 a).2.1 ≠ (TX0 b).2.1 := by decide +kernel
theorem tyX0_ok : ∀ k, k < 0 → parseFieldDescriptor (TX0 k).2.2.1 = some (tyX0 k) := by decide +kernel
def RX1 : String := "KilnKeeper$Book"
def TX1 : u_T := fun k => match k with
  | 0 => ("KilnKeeper$Book", "minutes", "I", false)
  | 1 => ("KilnKeeper$Book", "fuelLeft", "I", false)
  | 2 => ("KilnKeeper$Book", "fuelThatCame", "I", false)
  | 3 => ("KilnKeeper$Book", "burntFuel", "I", false)
  | 4 => ("KilnKeeper$Book", "amounts", "[I", true)
  | _ => ("KilnKeeper$Book", "log", "[I", true)
def tyX1 : Nat → FieldType := fun k => match k with
  | 0 => .int
  | 1 => .int
  | 2 => .int
  | 3 => .int
  | 4 => .array .int
  | _ => .array .int
theorem nmX1 : ∀ a, a < 6 → ∀ b, b < 6 → a ≠ b → (TX1 a).2.1 ≠ (TX1 b).2.1 := by decide +kernel
theorem tyX1_ok : ∀ k, k < 6 → parseFieldDescriptor (TX1 k).2.2.1 = some (tyX1 k) := by decide +kernel
abbrev cX1_init : ByteArray := prog_3_method_1_code
def yX1_init : MethodName := ⟨RX1, "<init>", "()V"⟩
abbrev cX1_copyFrom : ByteArray := prog_3_method_2_code
def yX1_copyFrom : MethodName := ⟨RX1, "copyFrom", "(LKilnKeeper$Book;)V"⟩
abbrev cX1_addFuel : ByteArray := prog_3_method_3_code
def yX1_addFuel : MethodName := ⟨RX1, "addFuel", "(I)I"⟩
abbrev cX1_burn : ByteArray := prog_3_method_4_code
def yX1_burn : MethodName := ⟨RX1, "burn", "(I)I"⟩
abbrev cX1_logMinute : ByteArray := prog_3_method_5_code
def yX1_logMinute : MethodName := ⟨RX1, "logMinute", "(IIII)V"⟩
abbrev cX1_loggedNumber : ByteArray := prog_3_method_6_code
def yX1_loggedNumber : MethodName := ⟨RX1, "loggedNumber", "(II)I"⟩
abbrev cX1_burntByAmounts : ByteArray := prog_3_method_7_code
def yX1_burntByAmounts : MethodName := ⟨RX1, "burntByAmounts", "()I"⟩
abbrev cX1_isInBalance : ByteArray := prog_3_method_8_code
def yX1_isInBalance : MethodName := ⟨RX1, "isInBalance", "()Z"⟩
abbrev cX1_logStart : ByteArray := prog_3_method_9_code
def yX1_logStart : MethodName := ⟨RX1, "logStart", "(I)I"⟩
def RX2 : String := "KilnKeeper$Changes"
def TX2 : u_T := fun k => match k with
  | 0 => ("KilnKeeper$Changes", "count", "I", false)
  | 1 => ("KilnKeeper$Changes", "start", "I", false)
  | _ => ("KilnKeeper$Changes", "kilns", "[LKilnKeeper$Kiln;", true)
def tyX2 : Nat → FieldType := fun k => match k with
  | 0 => .int
  | 1 => .int
  | _ => .array (.object "KilnKeeper$Kiln")
theorem nmX2 : ∀ a, a < 3 → ∀ b, b < 3 → a ≠ b → (TX2 a).2.1 ≠ (TX2 b).2.1 := by decide +kernel
theorem tyX2_ok : ∀ k, k < 3 → parseFieldDescriptor (TX2 k).2.2.1 = some (tyX2 k) := by decide +kernel
abbrev cX2_init : ByteArray := prog_4_method_1_code
def yX2_init : MethodName := ⟨RX2, "<init>", "()V"⟩
abbrev cX2_keep : ByteArray := prog_4_method_2_code
def yX2_keep : MethodName := ⟨RX2, "keep", "(LKilnKeeper$Kiln;)V"⟩
abbrev cX2_takeBack : ByteArray := prog_4_method_3_code
def yX2_takeBack : MethodName := ⟨RX2, "takeBack", "(LKilnKeeper$Kiln;)I"⟩
abbrev cX2_kilnAt : ByteArray := prog_4_method_4_code
def yX2_kilnAt : MethodName := ⟨RX2, "kilnAt", "(I)LKilnKeeper$Kiln;"⟩
def RX3 : String := "KilnKeeper$Kiln"
def TX3 : u_T := fun k => match k with
  | 0 => ("KilnKeeper$Kiln", "degrees", "I", false)
  | 1 => ("KilnKeeper$Kiln", "aimedDegrees", "I", false)
  | 2 => ("KilnKeeper$Kiln", "overshoot", "I", false)
  | 3 => ("KilnKeeper$Kiln", "damper", "I", false)
  | 4 => ("KilnKeeper$Kiln", "regulator", "LKilnKeeper$Regulator;", true)
  | 5 => ("KilnKeeper$Kiln", "lagRow", "LKilnKeeper$LagRow;", true)
  | 6 => ("KilnKeeper$Kiln", "book", "LKilnKeeper$Book;", true)
  | _ => ("KilnKeeper$Kiln", "rack", "LKilnKeeper$Rack;", true)
def tyX3 : Nat → FieldType := fun k => match k with
  | 0 => .int
  | 1 => .int
  | 2 => .int
  | 3 => .int
  | 4 => .object "KilnKeeper$Regulator"
  | 5 => .object "KilnKeeper$LagRow"
  | 6 => .object "KilnKeeper$Book"
  | _ => .object "KilnKeeper$Rack"
theorem nmX3 : ∀ a, a < 8 → ∀ b, b < 8 → a ≠ b → (TX3 a).2.1 ≠ (TX3 b).2.1 := by decide +kernel
theorem tyX3_ok : ∀ k, k < 8 → parseFieldDescriptor (TX3 k).2.2.1 = some (tyX3 k) := by decide +kernel
abbrev cX3_init : ByteArray := prog_5_method_1_code
def yX3_init : MethodName := ⟨RX3, "<init>", "()V"⟩
abbrev cX3_copyFrom : ByteArray := prog_5_method_2_code
def yX3_copyFrom : MethodName := ⟨RX3, "copyFrom", "(LKilnKeeper$Kiln;)V"⟩
abbrev cX3_error : ByteArray := prog_5_method_3_code
def yX3_error : MethodName := ⟨RX3, "error", "()I"⟩
abbrev cX3_aimAt : ByteArray := prog_5_method_4_code
def yX3_aimAt : MethodName := ⟨RX3, "aimAt", "(ILKilnKeeper$Refusal;)I"⟩
abbrev cX3_tellLag : ByteArray := prog_5_method_5_code
def yX3_tellLag : MethodName := ⟨RX3, "tellLag", "(ILKilnKeeper$Refusal;)I"⟩
abbrev cX3_letGo : ByteArray := prog_5_method_6_code
def yX3_letGo : MethodName := ⟨RX3, "letGo", "(I)I"⟩
abbrev cX3_passMinute : ByteArray := prog_5_method_7_code
def yX3_passMinute : MethodName := ⟨RX3, "passMinute", "()V"⟩
abbrev cX3_write : ByteArray := prog_5_method_8_code
def yX3_write : MethodName := ⟨RX3, "write", "(Ljava/lang/StringBuilder;)V"⟩
abbrev cX3_accountOf : ByteArray := prog_5_method_9_code
def yX3_accountOf : MethodName := ⟨RX3, "accountOf", "(I)I"⟩
def RX4 : String := "KilnKeeper$LagRow"
def TX4 : u_T := fun k => match k with
  | 0 => ("KilnKeeper$LagRow", "length", "I", false)
  | _ => ("KilnKeeper$LagRow", "dampers", "[I", true)
def tyX4 : Nat → FieldType := fun k => match k with
  | 0 => .int
  | _ => .array .int
theorem nmX4 : ∀ a, a < 2 → ∀ b, b < 2 → a ≠ b → (TX4 a).2.1 ≠ (TX4 b).2.1 := by decide +kernel
theorem tyX4_ok : ∀ k, k < 2 → parseFieldDescriptor (TX4 k).2.2.1 = some (tyX4 k) := by decide +kernel
abbrev cX4_init : ByteArray := prog_6_method_1_code
def yX4_init : MethodName := ⟨RX4, "<init>", "()V"⟩
abbrev cX4_copyFrom : ByteArray := prog_6_method_2_code
def yX4_copyFrom : MethodName := ⟨RX4, "copyFrom", "(LKilnKeeper$LagRow;)V"⟩
abbrev cX4_passThrough : ByteArray := prog_6_method_3_code
def yX4_passThrough : MethodName := ⟨RX4, "passThrough", "(I)I"⟩
abbrev cX4_resize : ByteArray := prog_6_method_4_code
def yX4_resize : MethodName := ⟨RX4, "resize", "(II)V"⟩
abbrev cX4_write : ByteArray := prog_6_method_5_code
def yX4_write : MethodName := ⟨RX4, "write", "(Ljava/lang/StringBuilder;)V"⟩
abbrev cX4_shiftBy : ByteArray := prog_6_method_6_code
def yX4_shiftBy : MethodName := ⟨RX4, "shiftBy", "(I)V"⟩
def RX5 : String := "KilnKeeper$Order"
def TX5 : u_T := fun k => match k with
  | 0 => ("KilnKeeper$Order", "word", "LKilnKeeper$Word;", false)
  | _ => ("KilnKeeper$Order", "numbers", "[I", true)
def tyX5 : Nat → FieldType := fun k => match k with
  | 0 => .object "KilnKeeper$Word"
  | _ => .array .int
theorem nmX5 : ∀ a, a < 2 → ∀ b, b < 2 → a ≠ b → (TX5 a).2.1 ≠ (TX5 b).2.1 := by decide +kernel
theorem tyX5_ok : ∀ k, k < 2 → parseFieldDescriptor (TX5 k).2.2.1 = some (tyX5 k) := by decide +kernel
abbrev cX5_init : ByteArray := prog_7_method_1_code
def yX5_init : MethodName := ⟨RX5, "<init>", "()V"⟩
def RX6 : String := "KilnKeeper$Pot"
def TX6 : u_T := fun k => match k with
  | 0 => ("KilnKeeper$Pot", "shock", "I", false)
  | 1 => ("KilnKeeper$Pot", "needed", "I", false)
  | 2 => ("KilnKeeper$Pot", "soaking", "I", false)
  | 3 => ("KilnKeeper$Pot", "state", "I", false)
  | 4 => ("KilnKeeper$Pot", "soaked", "I", false)
  | 5 => ("KilnKeeper$Pot", "isWithin", "Z", false)
  | _ => ("KilnKeeper$Pot", "mostJump", "I", false)
def tyX6 : Nat → FieldType := fun k => match k with
  | 0 => .int
  | 1 => .int
  | 2 => .int
  | 3 => .int
  | 4 => .int
  | 5 => .boolean
  | _ => .int
theorem nmX6 : ∀ a, a < 7 → ∀ b, b < 7 → a ≠ b → (TX6 a).2.1 ≠ (TX6 b).2.1 := by decide +kernel
theorem tyX6_ok : ∀ k, k < 7 → parseFieldDescriptor (TX6 k).2.2.1 = some (tyX6 k) := by decide +kernel
abbrev cX6_init : ByteArray := prog_8_method_1_code
def yX6_init : MethodName := ⟨RX6, "<init>", "()V"⟩
abbrev cX6_copyFrom : ByteArray := prog_8_method_2_code
def yX6_copyFrom : MethodName := ⟨RX6, "copyFrom", "(LKilnKeeper$Pot;)V"⟩
abbrev cX6_begin : ByteArray := prog_8_method_3_code
def yX6_begin : MethodName := ⟨RX6, "begin", "(III)V"⟩
abbrev cX6_passMinute : ByteArray := prog_8_method_4_code
def yX6_passMinute : MethodName := ⟨RX6, "passMinute", "(II)V"⟩
abbrev cX6_isAheadOf : ByteArray := prog_8_method_5_code
def yX6_isAheadOf : MethodName := ⟨RX6, "isAheadOf", "(LKilnKeeper$Pot;)Z"⟩
abbrev cX6_number : ByteArray := prog_8_method_6_code
def yX6_number : MethodName := ⟨RX6, "number", "(I)I"⟩
abbrev cX6_write : ByteArray := prog_8_method_7_code
def yX6_write : MethodName := ⟨RX6, "write", "(Ljava/lang/StringBuilder;)V"⟩
abbrev cX6_stateLetter : ByteArray := prog_8_method_8_code
def yX6_stateLetter : MethodName := ⟨RX6, "stateLetter", "()C"⟩
def RX7 : String := "KilnKeeper$Rack"
def TX7 : u_T := fun k => match k with
  | 0 => ("KilnKeeper$Rack", "count", "I", false)
  | _ => ("KilnKeeper$Rack", "pots", "[LKilnKeeper$Pot;", true)
def tyX7 : Nat → FieldType := fun k => match k with
  | 0 => .int
  | _ => .array (.object "KilnKeeper$Pot")
theorem nmX7 : ∀ a, a < 2 → ∀ b, b < 2 → a ≠ b → (TX7 a).2.1 ≠ (TX7 b).2.1 := by decide +kernel
theorem tyX7_ok : ∀ k, k < 2 → parseFieldDescriptor (TX7 k).2.2.1 = some (tyX7 k) := by decide +kernel
abbrev cX7_init : ByteArray := prog_9_method_1_code
def yX7_init : MethodName := ⟨RX7, "<init>", "()V"⟩
abbrev cX7_copyFrom : ByteArray := prog_9_method_2_code
def yX7_copyFrom : MethodName := ⟨RX7, "copyFrom", "(LKilnKeeper$Rack;)V"⟩
abbrev cX7_find : ByteArray := prog_9_method_3_code
def yX7_find : MethodName := ⟨RX7, "find", "(I)LKilnKeeper$Pot;"⟩
abbrev cX7_addPot : ByteArray := prog_9_method_4_code
def yX7_addPot : MethodName := ⟨RX7, "addPot", "(IIILKilnKeeper$Refusal;)I"⟩
abbrev cX7_bringIn : ByteArray := prog_9_method_5_code
def yX7_bringIn : MethodName := ⟨RX7, "bringIn", "(IILKilnKeeper$Refusal;)I"⟩
abbrev cX7_bringOut : ByteArray := prog_9_method_6_code
def yX7_bringOut : MethodName := ⟨RX7, "bringOut", "(IILKilnKeeper$Refusal;)I"⟩
abbrev cX7_passMinute : ByteArray := prog_9_method_7_code
def yX7_passMinute : MethodName := ⟨RX7, "passMinute", "(II)V"⟩
abbrev cX7_potAtPlace : ByteArray := prog_9_method_8_code
def yX7_potAtPlace : MethodName := ⟨RX7, "potAtPlace", "(I)I"⟩
abbrev cX7_countAheadOf : ByteArray := prog_9_method_9_code
def yX7_countAheadOf : MethodName := ⟨RX7, "countAheadOf", "(I)I"⟩
abbrev cX7_countOf : ByteArray := prog_9_method_10_code
def yX7_countOf : MethodName := ⟨RX7, "countOf", "(I)I"⟩
abbrev cX7_countWithin : ByteArray := prog_9_method_11_code
def yX7_countWithin : MethodName := ⟨RX7, "countWithin", "()I"⟩
abbrev cX7_crackedSet : ByteArray := prog_9_method_12_code
def yX7_crackedSet : MethodName := ⟨RX7, "crackedSet", "()I"⟩
abbrev cX7_isNoneSoakedTooLong : ByteArray := prog_9_method_13_code
def yX7_isNoneSoakedTooLong : MethodName := ⟨RX7, "isNoneSoakedTooLong", "()Z"⟩
def RX8 : String := "KilnKeeper$Reader"
def TX8 : u_T := fun k => match k with
  | 0 => ("KilnKeeper$Reader", "text", "Ljava/lang/StringBuilder;", true)
  | _ => ("KilnKeeper$Reader", "orders", "[LKilnKeeper$Order;", true)
def tyX8 : Nat → FieldType := fun k => match k with
  | 0 => .object "java/lang/StringBuilder"
  | _ => .array (.object "KilnKeeper$Order")
theorem nmX8 : ∀ a, a < 2 → ∀ b, b < 2 → a ≠ b → (TX8 a).2.1 ≠ (TX8 b).2.1 := by decide +kernel
theorem tyX8_ok : ∀ k, k < 2 → parseFieldDescriptor (TX8 k).2.2.1 = some (tyX8 k) := by decide +kernel
abbrev cX8_init : ByteArray := prog_10_method_1_code
def yX8_init : MethodName := ⟨RX8, "<init>", "()V"⟩
abbrev cX8_textLength : ByteArray := prog_10_method_2_code
def yX8_textLength : MethodName := ⟨RX8, "textLength", "()I"⟩
abbrev cX8_clearText : ByteArray := prog_10_method_3_code
def yX8_clearText : MethodName := ⟨RX8, "clearText", "()V"⟩
abbrev cX8_addCode : ByteArray := prog_10_method_4_code
def yX8_addCode : MethodName := ⟨RX8, "addCode", "(I)I"⟩
abbrev cX8_orderAt : ByteArray := prog_10_method_5_code
def yX8_orderAt : MethodName := ⟨RX8, "orderAt", "(I)LKilnKeeper$Order;"⟩
abbrev cX8_read : ByteArray := prog_10_method_6_code
def yX8_read : MethodName := ⟨RX8, "read", "()I"⟩
abbrev cX8_readOrder : ByteArray := prog_10_method_7_code
def yX8_readOrder : MethodName := ⟨RX8, "readOrder", "(ILKilnKeeper$Order;)I"⟩
abbrev cX8_readForm : ByteArray := prog_10_method_8_code
def yX8_readForm : MethodName := ⟨RX8, "readForm", "(LKilnKeeper$Word;ILKilnKeeper$Order;)I"⟩
abbrev cX8_endOfDigits : ByteArray := prog_10_method_9_code
def yX8_endOfDigits : MethodName := ⟨RX8, "endOfDigits", "(II)I"⟩
abbrev cX8_numberFrom : ByteArray := prog_10_method_10_code
def yX8_numberFrom : MethodName := ⟨RX8, "numberFrom", "(II)I"⟩
abbrev cX8_digitAt : ByteArray := prog_10_method_11_code
def yX8_digitAt : MethodName := ⟨RX8, "digitAt", "(I)I"⟩
abbrev cX8_isSignAt : ByteArray := prog_10_method_12_code
def yX8_isSignAt : MethodName := ⟨RX8, "isSignAt", "(IC)Z"⟩
abbrev cX8_faultAt : ByteArray := prog_10_method_13_code
def yX8_faultAt : MethodName := ⟨RX8, "faultAt", "(I)I"⟩
abbrev cX8_placeOfFault : ByteArray := prog_10_method_14_code
def yX8_placeOfFault : MethodName := ⟨RX8, "placeOfFault", "(I)I"⟩
def RX9 : String := "KilnKeeper$Refusal"
def TX9 : u_T := fun k => match k with
  | 0 => ("KilnKeeper$Refusal", "cause", "I", false)
  | _ => ("KilnKeeper$Refusal", "detail", "I", false)
def tyX9 : Nat → FieldType := fun k => match k with
  | 0 => .int
  | _ => .int
theorem nmX9 : ∀ a, a < 2 → ∀ b, b < 2 → a ≠ b → (TX9 a).2.1 ≠ (TX9 b).2.1 := by decide +kernel
theorem tyX9_ok : ∀ k, k < 2 → parseFieldDescriptor (TX9 k).2.2.1 = some (tyX9 k) := by decide +kernel
abbrev cX9_init : ByteArray := prog_11_method_1_code
def yX9_init : MethodName := ⟨RX9, "<init>", "()V"⟩
abbrev cX9_because : ByteArray := prog_11_method_2_code
def yX9_because : MethodName := ⟨RX9, "because", "(II)I"⟩
def RX10 : String := "KilnKeeper$Regulator"
def TX10 : u_T := fun k => match k with
  | 0 => ("KilnKeeper$Regulator", "errorGain", "I", false)
  | 1 => ("KilnKeeper$Regulator", "sumGain", "I", false)
  | 2 => ("KilnKeeper$Regulator", "changeGain", "I", false)
  | 3 => ("KilnKeeper$Regulator", "cap", "I", false)
  | 4 => ("KilnKeeper$Regulator", "sum", "I", false)
  | _ => ("KilnKeeper$Regulator", "latestError", "I", false)
def tyX10 : Nat → FieldType := fun k => match k with
  | 0 => .int
  | 1 => .int
  | 2 => .int
  | 3 => .int
  | 4 => .int
  | _ => .int
theorem nmX10 : ∀ a, a < 6 → ∀ b, b < 6 → a ≠ b → (TX10 a).2.1 ≠ (TX10 b).2.1 := by decide +kernel
theorem tyX10_ok : ∀ k, k < 6 → parseFieldDescriptor (TX10 k).2.2.1 = some (tyX10 k) := by decide +kernel
abbrev cX10_init : ByteArray := prog_12_method_1_code
def yX10_init : MethodName := ⟨RX10, "<init>", "()V"⟩
abbrev cX10_copyFrom : ByteArray := prog_12_method_2_code
def yX10_copyFrom : MethodName := ⟨RX10, "copyFrom", "(LKilnKeeper$Regulator;)V"⟩
abbrev cX10_tellGains : ByteArray := prog_12_method_3_code
def yX10_tellGains : MethodName := ⟨RX10, "tellGains", "(III)I"⟩
abbrev cX10_tellCap : ByteArray := prog_12_method_4_code
def yX10_tellCap : MethodName := ⟨RX10, "tellCap", "(ILKilnKeeper$Refusal;)I"⟩
abbrev cX10_wantedDamper : ByteArray := prog_12_method_5_code
def yX10_wantedDamper : MethodName := ⟨RX10, "wantedDamper", "(I)I"⟩
abbrev cX10_noteError : ByteArray := prog_12_method_6_code
def yX10_noteError : MethodName := ⟨RX10, "noteError", "(I)V"⟩
abbrev cX10_sumWith : ByteArray := prog_12_method_7_code
def yX10_sumWith : MethodName := ⟨RX10, "sumWith", "(I)I"⟩
def RX11 : String := "KilnKeeper$Word"
def TX11 : u_T := fun k => match k with
  | _ => ("", "", "", false)
def tyX11 : Nat → FieldType := fun k => match k with
  | _ => .int
theorem nmX11 : ∀ a, a < 0 → ∀ b, b < 0 → a ≠ b → (TX11 a).2.1 ≠ (TX11 b).2.1 := by decide +kernel
theorem tyX11_ok : ∀ k, k < 0 → parseFieldDescriptor (TX11 k).2.2.1 = some (tyX11 k) := by decide +kernel
def RX12 : String := "KilnKeeper"
def TX12 : u_T := fun k => match k with
  | 0 => ("KilnKeeper", "kiln", "LKilnKeeper$Kiln;", true)
  | 1 => ("KilnKeeper", "spare", "LKilnKeeper$Kiln;", true)
  | 2 => ("KilnKeeper", "snapshot", "LKilnKeeper$Kiln;", true)
  | 3 => ("KilnKeeper", "isSaved", "Z", false)
  | 4 => ("KilnKeeper", "changes", "LKilnKeeper$Changes;", true)
  | 5 => ("KilnKeeper", "refusal", "LKilnKeeper$Refusal;", true)
  | 6 => ("KilnKeeper", "unheard", "LKilnKeeper$Refusal;", true)
  | 7 => ("KilnKeeper", "reader", "LKilnKeeper$Reader;", true)
  | _ => ("KilnKeeper", "line", "Ljava/lang/StringBuilder;", true)
def tyX12 : Nat → FieldType := fun k => match k with
  | 0 => .object "KilnKeeper$Kiln"
  | 1 => .object "KilnKeeper$Kiln"
  | 2 => .object "KilnKeeper$Kiln"
  | 3 => .boolean
  | 4 => .object "KilnKeeper$Changes"
  | 5 => .object "KilnKeeper$Refusal"
  | 6 => .object "KilnKeeper$Refusal"
  | 7 => .object "KilnKeeper$Reader"
  | _ => .object "java/lang/StringBuilder"
theorem nmX12 : ∀ a, a < 9 → ∀ b, b < 9 → a ≠ b → (TX12 a).2.1 ≠ (TX12 b).2.1 := by decide +kernel
theorem tyX12_ok : ∀ k, k < 9 → parseFieldDescriptor (TX12 k).2.2.1 = some (tyX12 k) := by decide +kernel
abbrev cX12_init : ByteArray := prog_1_method_1_code
def yX12_init : MethodName := ⟨RX12, "<init>", "()V"⟩
abbrev cX12_aim : ByteArray := prog_1_method_2_code
def yX12_aim : MethodName := ⟨RX12, "aim", "(I)I"⟩
abbrev cX12_gains : ByteArray := prog_1_method_3_code
def yX12_gains : MethodName := ⟨RX12, "gains", "(III)I"⟩
abbrev cX12_cap : ByteArray := prog_1_method_4_code
def yX12_cap : MethodName := ⟨RX12, "cap", "(I)I"⟩
abbrev cX12_lag : ByteArray := prog_1_method_5_code
def yX12_lag : MethodName := ⟨RX12, "lag", "(I)I"⟩
abbrev cX12_fuel : ByteArray := prog_1_method_6_code
def yX12_fuel : MethodName := ⟨RX12, "fuel", "(I)I"⟩
abbrev cX12_go : ByteArray := prog_1_method_7_code
def yX12_go : MethodName := ⟨RX12, "go", "(I)I"⟩
abbrev cX12_pot : ByteArray := prog_1_method_8_code
def yX12_pot : MethodName := ⟨RX12, "pot", "(III)I"⟩
abbrev cX12_put : ByteArray := prog_1_method_9_code
def yX12_put : MethodName := ⟨RX12, "put", "(I)I"⟩
abbrev cX12_take : ByteArray := prog_1_method_10_code
def yX12_take : MethodName := ⟨RX12, "take", "(I)I"⟩
abbrev cX12_potOf : ByteArray := prog_1_method_11_code
def yX12_potOf : MethodName := ⟨RX12, "potOf", "(II)I"⟩
abbrev cX12_firedIn : ByteArray := prog_1_method_12_code
def yX12_firedIn : MethodName := ⟨RX12, "firedIn", "(I)I"⟩
abbrev cX12_wouldCrack : ByteArray := prog_1_method_13_code
def yX12_wouldCrack : MethodName := ⟨RX12, "wouldCrack", "(I)I"⟩
abbrev cX12_ranked : ByteArray := prog_1_method_14_code
def yX12_ranked : MethodName := ⟨RX12, "ranked", "(I)I"⟩
abbrev cX12_degreesIn : ByteArray := prog_1_method_15_code
def yX12_degreesIn : MethodName := ⟨RX12, "degreesIn", "(I)I"⟩
abbrev cX12_wanted : ByteArray := prog_1_method_16_code
def yX12_wanted : MethodName := ⟨RX12, "wanted", "()I"⟩
abbrev cX12_settlesIn : ByteArray := prog_1_method_17_code
def yX12_settlesIn : MethodName := ⟨RX12, "settlesIn", "()I"⟩
abbrev cX12_wouldOvershoot : ByteArray := prog_1_method_18_code
def yX12_wouldOvershoot : MethodName := ⟨RX12, "wouldOvershoot", "(I)I"⟩
abbrev cX12_logged : ByteArray := prog_1_method_19_code
def yX12_logged : MethodName := ⟨RX12, "logged", "(II)I"⟩
abbrev cX12_burnt : ByteArray := prog_1_method_20_code
def yX12_burnt : MethodName := ⟨RX12, "burnt", "()I"⟩
abbrev cX12_burntAgain : ByteArray := prog_1_method_21_code
def yX12_burntAgain : MethodName := ⟨RX12, "burntAgain", "()I"⟩
abbrev cX12_minutesWith : ByteArray := prog_1_method_22_code
def yX12_minutesWith : MethodName := ⟨RX12, "minutesWith", "(I)I"⟩
abbrev cX12_append : ByteArray := prog_1_method_23_code
def yX12_append : MethodName := ⟨RX12, "append", "(I)I"⟩
abbrev cX12_run : ByteArray := prog_1_method_24_code
def yX12_run : MethodName := ⟨RX12, "run", "()I"⟩
abbrev cX12_tell : ByteArray := prog_1_method_25_code
def yX12_tell : MethodName := ⟨RX12, "tell", "()I"⟩
abbrev cX12_tellPot : ByteArray := prog_1_method_26_code
def yX12_tellPot : MethodName := ⟨RX12, "tellPot", "(I)I"⟩
abbrev cX12_character : ByteArray := prog_1_method_27_code
def yX12_character : MethodName := ⟨RX12, "character", "(I)I"⟩
abbrev cX12_reason : ByteArray := prog_1_method_28_code
def yX12_reason : MethodName := ⟨RX12, "reason", "(Z)I"⟩
abbrev cX12_account : ByteArray := prog_1_method_29_code
def yX12_account : MethodName := ⟨RX12, "account", "(I)I"⟩
abbrev cX12_isBalanced : ByteArray := prog_1_method_30_code
def yX12_isBalanced : MethodName := ⟨RX12, "isBalanced", "()I"⟩
abbrev cX12_meanBurnt : ByteArray := prog_1_method_31_code
def yX12_meanBurnt : MethodName := ⟨RX12, "meanBurnt", "()D"⟩
abbrev cX12_firedShare : ByteArray := prog_1_method_32_code
def yX12_firedShare : MethodName := ⟨RX12, "firedShare", "()F"⟩
abbrev cX12_undo : ByteArray := prog_1_method_33_code
def yX12_undo : MethodName := ⟨RX12, "undo", "()I"⟩
abbrev cX12_save : ByteArray := prog_1_method_34_code
def yX12_save : MethodName := ⟨RX12, "save", "()I"⟩
abbrev cX12_restore : ByteArray := prog_1_method_35_code
def yX12_restore : MethodName := ⟨RX12, "restore", "()I"⟩
abbrev cX12_beginChange : ByteArray := prog_1_method_36_code
def yX12_beginChange : MethodName := ⟨RX12, "beginChange", "()V"⟩
abbrev cX12_endChange : ByteArray := prog_1_method_37_code
def yX12_endChange : MethodName := ⟨RX12, "endChange", "(I)I"⟩
abbrev cX12_tryMinutes : ByteArray := prog_1_method_38_code
def yX12_tryMinutes : MethodName := ⟨RX12, "tryMinutes", "(I)LKilnKeeper$Kiln;"⟩
abbrev cX12_carryOut : ByteArray := prog_1_method_39_code
def yX12_carryOut : MethodName := ⟨RX12, "carryOut", "(LKilnKeeper$Order;)I"⟩
abbrev cX12_isFrom : ByteArray := prog_1_method_40_code
def yX12_isFrom : MethodName := ⟨RX12, "isFrom", "(III)Z"⟩
abbrev cX12_between : ByteArray := prog_1_method_41_code
def yX12_between : MethodName := ⟨RX12, "between", "(III)I"⟩
abbrev cX12_numberAt : ByteArray := prog_1_method_42_code
def yX12_numberAt : MethodName := ⟨RX12, "numberAt", "([II)I"⟩
abbrev cX12_setNumberAt : ByteArray := prog_1_method_43_code
def yX12_setNumberAt : MethodName := ⟨RX12, "setNumberAt", "([III)V"⟩
abbrev cX12_copyRow : ByteArray := prog_1_method_44_code
def yX12_copyRow : MethodName := ⟨RX12, "copyRow", "([I[I)V"⟩
def RX13 : String := "KilnKeeperModel"
def TX13 : u_T := fun k => match k with
  | 0 => ("KilnKeeperModel", "s", "[I", true)
  | 1 => ("KilnKeeperModel", "frame", "[I", true)
  | 2 => ("KilnKeeperModel", "saved", "[I", true)
  | 3 => ("KilnKeeperModel", "thought", "[I", true)
  | 4 => ("KilnKeeperModel", "history", "[I", true)
  | 5 => ("KilnKeeperModel", "kept", "I", false)
  | 6 => ("KilnKeeperModel", "hasSaved", "Z", false)
  | 7 => ("KilnKeeperModel", "text", "[I", true)
  | 8 => ("KilnKeeperModel", "told", "[I", true)
  | 9 => ("KilnKeeperModel", "line", "[I", true)
  | 10 => ("KilnKeeperModel", "length", "I", false)
  | 11 => ("KilnKeeperModel", "lineLength", "I", false)
  | 12 => ("KilnKeeperModel", "why", "I", false)
  | 13 => ("KilnKeeperModel", "detail", "I", false)
  | 14 => ("KilnKeeperModel", "about", "I", false)
  | 15 => ("KilnKeeperModel", "answer", "I", false)
  | 16 => ("KilnKeeperModel", "spot", "I", false)
  | 17 => ("KilnKeeperModel", "end", "I", false)
  | 18 => ("KilnKeeperModel", "orders", "I", false)
  | _ => ("KilnKeeperModel", "isWrong", "Z", false)
def tyX13 : Nat → FieldType := fun k => match k with
  | 0 => .array .int
  | 1 => .array .int
  | 2 => .array .int
  | 3 => .array .int
  | 4 => .array .int
  | 5 => .int
  | 6 => .boolean
  | 7 => .array .int
  | 8 => .array .int
  | 9 => .array .int
  | 10 => .int
  | 11 => .int
  | 12 => .int
  | 13 => .int
  | 14 => .int
  | 15 => .int
  | 16 => .int
  | 17 => .int
  | 18 => .int
  | _ => .boolean
theorem nmX13 : ∀ a, a < 20 → ∀ b, b < 20 → a ≠ b → (TX13 a).2.1 ≠ (TX13 b).2.1 := by decide +kernel
theorem tyX13_ok : ∀ k, k < 20 → parseFieldDescriptor (TX13 k).2.2.1 = some (tyX13 k) := by decide +kernel
abbrev cX13_init : ByteArray := prog_15_method_1_code
def yX13_init : MethodName := ⟨RX13, "<init>", "()V"⟩
abbrev cX13_in : ByteArray := prog_15_method_2_code
def yX13_in : MethodName := ⟨RX13, "in", "(III)Z"⟩
abbrev cX13_between : ByteArray := prog_15_method_3_code
def yX13_between : MethodName := ⟨RX13, "between", "(III)I"⟩
abbrev cX13_remembers : ByteArray := prog_15_method_4_code
def yX13_remembers : MethodName := ⟨RX13, "remembers", "()V"⟩
abbrev cX13_changed : ByteArray := prog_15_method_5_code
def yX13_changed : MethodName := ⟨RX13, "changed", "(I)I"⟩
abbrev cX13_refused : ByteArray := prog_15_method_6_code
def yX13_refused : MethodName := ⟨RX13, "refused", "(II)I"⟩
abbrev cX13_done : ByteArray := prog_15_method_7_code
def yX13_done : MethodName := ⟨RX13, "done", "(I)I"⟩
abbrev cX13_ends : ByteArray := prog_15_method_8_code
def yX13_ends : MethodName := ⟨RX13, "ends", "(I)I"⟩
abbrev cX13_isPot : ByteArray := prog_15_method_9_code
def yX13_isPot : MethodName := ⟨RX13, "isPot", "(I)Z"⟩
abbrev cX13_error : ByteArray := prog_15_method_10_code
def yX13_error : MethodName := ⟨RX13, "error", "()I"⟩
abbrev cX13_sumThen : ByteArray := prog_15_method_11_code
def yX13_sumThen : MethodName := ⟨RX13, "sumThen", "()I"⟩
abbrev cX13_wantedNow : ByteArray := prog_15_method_12_code
def yX13_wantedNow : MethodName := ⟨RX13, "wantedNow", "()I"⟩
abbrev cX13_lagged : ByteArray := prog_15_method_13_code
def yX13_lagged : MethodName := ⟨RX13, "lagged", "(I)I"⟩
abbrev cX13_notesMinute : ByteArray := prog_15_method_14_code
def yX13_notesMinute : MethodName := ⟨RX13, "notesMinute", "(II)V"⟩
abbrev cX13_heats : ByteArray := prog_15_method_15_code
def yX13_heats : MethodName := ⟨RX13, "heats", "(II)V"⟩
abbrev cX13_goesBy : ByteArray := prog_15_method_16_code
def yX13_goesBy : MethodName := ⟨RX13, "goesBy", "()V"⟩
abbrev cX13_thinks : ByteArray := prog_15_method_17_code
def yX13_thinks : MethodName := ⟨RX13, "thinks", "(I)V"⟩
abbrev cX13_forgets : ByteArray := prog_15_method_18_code
def yX13_forgets : MethodName := ⟨RX13, "forgets", "()V"⟩
abbrev cX13_aims : ByteArray := prog_15_method_19_code
def yX13_aims : MethodName := ⟨RX13, "aims", "(I)I"⟩
abbrev cX13_gainsOf : ByteArray := prog_15_method_20_code
def yX13_gainsOf : MethodName := ⟨RX13, "gainsOf", "(III)I"⟩
abbrev cX13_caps : ByteArray := prog_15_method_21_code
def yX13_caps : MethodName := ⟨RX13, "caps", "(I)I"⟩
abbrev cX13_lags : ByteArray := prog_15_method_22_code
def yX13_lags : MethodName := ⟨RX13, "lags", "(I)I"⟩
abbrev cX13_fuels : ByteArray := prog_15_method_23_code
def yX13_fuels : MethodName := ⟨RX13, "fuels", "(I)I"⟩
abbrev cX13_goesOn : ByteArray := prog_15_method_24_code
def yX13_goesOn : MethodName := ⟨RX13, "goesOn", "(I)I"⟩
abbrev cX13_comes : ByteArray := prog_15_method_25_code
def yX13_comes : MethodName := ⟨RX13, "comes", "(III)I"⟩
abbrev cX13_within : ByteArray := prog_15_method_26_code
def yX13_within : MethodName := ⟨RX13, "within", "()I"⟩
abbrev cX13_puts : ByteArray := prog_15_method_27_code
def yX13_puts : MethodName := ⟨RX13, "puts", "(I)I"⟩
abbrev cX13_takes : ByteArray := prog_15_method_28_code
def yX13_takes : MethodName := ⟨RX13, "takes", "(I)I"⟩
abbrev cX13_aim : ByteArray := prog_15_method_29_code
def yX13_aim : MethodName := ⟨RX13, "aim", "(I)I"⟩
abbrev cX13_gains : ByteArray := prog_15_method_30_code
def yX13_gains : MethodName := ⟨RX13, "gains", "(III)I"⟩
abbrev cX13_cap : ByteArray := prog_15_method_31_code
def yX13_cap : MethodName := ⟨RX13, "cap", "(I)I"⟩
abbrev cX13_lag : ByteArray := prog_15_method_32_code
def yX13_lag : MethodName := ⟨RX13, "lag", "(I)I"⟩
abbrev cX13_fuel : ByteArray := prog_15_method_33_code
def yX13_fuel : MethodName := ⟨RX13, "fuel", "(I)I"⟩
abbrev cX13_go : ByteArray := prog_15_method_34_code
def yX13_go : MethodName := ⟨RX13, "go", "(I)I"⟩
abbrev cX13_pot : ByteArray := prog_15_method_35_code
def yX13_pot : MethodName := ⟨RX13, "pot", "(III)I"⟩
abbrev cX13_put : ByteArray := prog_15_method_36_code
def yX13_put : MethodName := ⟨RX13, "put", "(I)I"⟩
abbrev cX13_take : ByteArray := prog_15_method_37_code
def yX13_take : MethodName := ⟨RX13, "take", "(I)I"⟩
abbrev cX13_potOf : ByteArray := prog_15_method_38_code
def yX13_potOf : MethodName := ⟨RX13, "potOf", "(II)I"⟩
abbrev cX13_firedIn : ByteArray := prog_15_method_39_code
def yX13_firedIn : MethodName := ⟨RX13, "firedIn", "(I)I"⟩
abbrev cX13_wouldCrack : ByteArray := prog_15_method_40_code
def yX13_wouldCrack : MethodName := ⟨RX13, "wouldCrack", "(I)I"⟩
abbrev cX13_left : ByteArray := prog_15_method_41_code
def yX13_left : MethodName := ⟨RX13, "left", "(I)I"⟩
abbrev cX13_isAhead : ByteArray := prog_15_method_42_code
def yX13_isAhead : MethodName := ⟨RX13, "isAhead", "(II)Z"⟩
abbrev cX13_ranked : ByteArray := prog_15_method_43_code
def yX13_ranked : MethodName := ⟨RX13, "ranked", "(I)I"⟩
abbrev cX13_degreesIn : ByteArray := prog_15_method_44_code
def yX13_degreesIn : MethodName := ⟨RX13, "degreesIn", "(I)I"⟩
abbrev cX13_wanted : ByteArray := prog_15_method_45_code
def yX13_wanted : MethodName := ⟨RX13, "wanted", "()I"⟩
abbrev cX13_settlesIn : ByteArray := prog_15_method_46_code
def yX13_settlesIn : MethodName := ⟨RX13, "settlesIn", "()I"⟩
abbrev cX13_wouldOvershoot : ByteArray := prog_15_method_47_code
def yX13_wouldOvershoot : MethodName := ⟨RX13, "wouldOvershoot", "(I)I"⟩
abbrev cX13_logged : ByteArray := prog_15_method_48_code
def yX13_logged : MethodName := ⟨RX13, "logged", "(II)I"⟩
abbrev cX13_burnt : ByteArray := prog_15_method_49_code
def yX13_burnt : MethodName := ⟨RX13, "burnt", "()I"⟩
abbrev cX13_burntAgain : ByteArray := prog_15_method_50_code
def yX13_burntAgain : MethodName := ⟨RX13, "burntAgain", "()I"⟩
abbrev cX13_minutesWith : ByteArray := prog_15_method_51_code
def yX13_minutesWith : MethodName := ⟨RX13, "minutesWith", "(I)I"⟩
abbrev cX13_append : ByteArray := prog_15_method_52_code
def yX13_append : MethodName := ⟨RX13, "append", "(I)I"⟩
abbrev cX13_here : ByteArray := prog_15_method_53_code
def yX13_here : MethodName := ⟨RX13, "here", "(I)I"⟩
abbrev cX13_word : ByteArray := prog_15_method_54_code
def yX13_word : MethodName := ⟨RX13, "word", "(Ljava/lang/String;)V"⟩
abbrev cX13_number : ByteArray := prog_15_method_55_code
def yX13_number : MethodName := ⟨RX13, "number", "(II)V"⟩
abbrev cX13_reads : ByteArray := prog_15_method_56_code
def yX13_reads : MethodName := ⟨RX13, "reads", "(Ljava/lang/String;I)V"⟩
abbrev cX13_sort : ByteArray := prog_15_method_57_code
def yX13_sort : MethodName := ⟨RX13, "sort", "()I"⟩
abbrev cX13_readsOne : ByteArray := prog_15_method_58_code
def yX13_readsOne : MethodName := ⟨RX13, "readsOne", "()V"⟩
abbrev cX13_does : ByteArray := prog_15_method_59_code
def yX13_does : MethodName := ⟨RX13, "does", "(I)I"⟩
abbrev cX13_run : ByteArray := prog_15_method_60_code
def yX13_run : MethodName := ⟨RX13, "run", "()I"⟩
abbrev cX13_writes : ByteArray := prog_15_method_61_code
def yX13_writes : MethodName := ⟨RX13, "writes", "(I)V"⟩
abbrev cX13_writesNumber : ByteArray := prog_15_method_62_code
def yX13_writesNumber : MethodName := ⟨RX13, "writesNumber", "(I)V"⟩
abbrev cX13_writesPart : ByteArray := prog_15_method_63_code
def yX13_writesPart : MethodName := ⟨RX13, "writesPart", "(II)V"⟩
abbrev cX13_tell : ByteArray := prog_15_method_64_code
def yX13_tell : MethodName := ⟨RX13, "tell", "()I"⟩
abbrev cX13_tellPot : ByteArray := prog_15_method_65_code
def yX13_tellPot : MethodName := ⟨RX13, "tellPot", "(I)I"⟩
abbrev cX13_character : ByteArray := prog_15_method_66_code
def yX13_character : MethodName := ⟨RX13, "character", "(I)I"⟩
abbrev cX13_reason : ByteArray := prog_15_method_67_code
def yX13_reason : MethodName := ⟨RX13, "reason", "(Z)I"⟩
abbrev cX13_manyThat : ByteArray := prog_15_method_68_code
def yX13_manyThat : MethodName := ⟨RX13, "manyThat", "(I)I"⟩
abbrev cX13_account : ByteArray := prog_15_method_69_code
def yX13_account : MethodName := ⟨RX13, "account", "(I)I"⟩
abbrev cX13_isBalanced : ByteArray := prog_15_method_70_code
def yX13_isBalanced : MethodName := ⟨RX13, "isBalanced", "()I"⟩
abbrev cX13_meanBurnt : ByteArray := prog_15_method_71_code
def yX13_meanBurnt : MethodName := ⟨RX13, "meanBurnt", "()D"⟩
abbrev cX13_firedShare : ByteArray := prog_15_method_72_code
def yX13_firedShare : MethodName := ⟨RX13, "firedShare", "()F"⟩
abbrev cX13_undo : ByteArray := prog_15_method_73_code
def yX13_undo : MethodName := ⟨RX13, "undo", "()I"⟩
abbrev cX13_save : ByteArray := prog_15_method_74_code
def yX13_save : MethodName := ⟨RX13, "save", "()I"⟩
abbrev cX13_restore : ByteArray := prog_15_method_75_code
def yX13_restore : MethodName := ⟨RX13, "restore", "()I"⟩
def RJ5 : String := "java/lang/AbstractStringBuilder"
def TJ5 : u_T := fun k => match k with
  | _ => ("", "", "", false)
def tyJ5 : Nat → FieldType := fun k => match k with
  | _ => .int
theorem nmJ5 : ∀ a, a < 0 → ∀ b, b < 0 → a ≠ b → (TJ5 a).2.1 ≠ (TJ5 b).2.1 := by decide +kernel
theorem tyJ5_ok : ∀ k, k < 0 → parseFieldDescriptor (TJ5 k).2.2.1 = some (tyJ5 k) := by decide +kernel
abbrev cJ5_init_d00df : ByteArray := prog_16_method_2_code
def yJ5_init_d00df : MethodName := ⟨RJ5, "<init>", "(I)V"⟩
abbrev cJ5_length_8abf5 : ByteArray := prog_16_method_6_code
def yJ5_length_8abf5 : MethodName := ⟨RJ5, "length", "()I"⟩
abbrev cJ5_ensureCapacityInternal_d00df : ByteArray := prog_16_method_9_code
def yJ5_ensureCapacityInternal_d00df : MethodName := ⟨RJ5, "ensureCapacityInternal", "(I)V"⟩
abbrev cJ5_newCapacity_0f7a4 : ByteArray := prog_16_method_10_code
def yJ5_newCapacity_0f7a4 : MethodName := ⟨RJ5, "newCapacity", "(I)I"⟩
abbrev cJ5_inflate_da8c8 : ByteArray := prog_16_method_11_code
def yJ5_inflate_da8c8 : MethodName := ⟨RJ5, "inflate", "()V"⟩
abbrev cJ5_setLength_d00df : ByteArray := prog_16_method_13_code
def yJ5_setLength_d00df : MethodName := ⟨RJ5, "setLength", "(I)V"⟩
abbrev cJ5_charAt_5068e : ByteArray := prog_16_method_14_code
def yJ5_charAt_5068e : MethodName := ⟨RJ5, "charAt", "(I)C"⟩
abbrev cJ5_append_3fe6f : ByteArray := prog_16_method_31_code
def yJ5_append_3fe6f : MethodName := ⟨RJ5, "append", "(C)Ljava/lang/AbstractStringBuilder;"⟩
abbrev cJ5_append_c97b9 : ByteArray := prog_16_method_32_code
def yJ5_append_c97b9 : MethodName := ⟨RJ5, "append", "(I)Ljava/lang/AbstractStringBuilder;"⟩
abbrev cJ5_isLatin1_aae02 : ByteArray := prog_16_method_68_code
def yJ5_isLatin1_aae02 : MethodName := ⟨RJ5, "isLatin1", "()Z"⟩
def RJx8e188 : String := "java/lang/Cloneable"
def TJx8e188 : u_T := fun k => match k with
  | _ => ("", "", "", false)
def tyJx8e188 : Nat → FieldType := fun k => match k with
  | _ => .int
theorem nmJx8e188 : ∀ a, a < 0 → ∀ b, b < 0 → a ≠ b → (TJx8e188 a).2.1 ≠ (TJx8e188 b).2.1 := by decide +kernel
theorem tyJx8e188_ok : ∀ k, k < 0 → parseFieldDescriptor (TJx8e188 k).2.2.1 = some (tyJx8e188 k) := by decide +kernel
def RJx29ce0 : String := "java/lang/Enum"
def TJx29ce0 : u_T := fun k => match k with
  | _ => ("", "", "", false)
def tyJx29ce0 : Nat → FieldType := fun k => match k with
  | _ => .int
theorem nmJx29ce0 : ∀ a, a < 0 → ∀ b, b < 0 → a ≠ b → (TJx29ce0 a).2.1 ≠ (TJx29ce0 b).2.1 := by decide +kernel
theorem tyJx29ce0_ok : ∀ k, k < 0 → parseFieldDescriptor (TJx29ce0 k).2.2.1 = some (tyJx29ce0 k) := by decide +kernel
abbrev cJx29ce0_ordinal_8abf5 : ByteArray := prog_18_method_2_code
def yJx29ce0_ordinal_8abf5 : MethodName := ⟨RJx29ce0, "ordinal", "()I"⟩
def RJ6 : String := "java/lang/Integer"
def TJ6 : u_T := fun k => match k with
  | _ => ("", "", "", false)
def tyJ6 : Nat → FieldType := fun k => match k with
  | _ => .int
theorem nmJ6 : ∀ a, a < 0 → ∀ b, b < 0 → a ≠ b → (TJ6 a).2.1 ≠ (TJ6 b).2.1 := by decide +kernel
theorem tyJ6_ok : ∀ k, k < 0 → parseFieldDescriptor (TJ6 k).2.2.1 = some (tyJ6 k) := by decide +kernel
abbrev cJ6_getChars_ba4f3 : ByteArray := prog_19_method_12_code
def yJ6_getChars_ba4f3 : MethodName := ⟨RJ6, "getChars", "(II[B)I"⟩
abbrev cJ6_stringSize_0f7a4 : ByteArray := prog_19_method_13_code
def yJ6_stringSize_0f7a4 : MethodName := ⟨RJ6, "stringSize", "(I)I"⟩
def RJ9 : String := "java/lang/Math"
def TJ9 : u_T := fun k => match k with
  | _ => ("", "", "", false)
def tyJ9 : Nat → FieldType := fun k => match k with
  | _ => .int
theorem nmJ9 : ∀ a, a < 0 → ∀ b, b < 0 → a ≠ b → (TJ9 a).2.1 ≠ (TJ9 b).2.1 := by decide +kernel
theorem tyJ9_ok : ∀ k, k < 0 → parseFieldDescriptor (TJ9 k).2.2.1 = some (tyJ9 k) := by decide +kernel
abbrev cJ9_floorDiv_7cf53 : ByteArray := prog_20_method_47_code
def yJ9_floorDiv_7cf53 : MethodName := ⟨RJ9, "floorDiv", "(II)I"⟩
abbrev cJ9_abs_0f7a4 : ByteArray := prog_20_method_59_code
def yJ9_abs_0f7a4 : MethodName := ⟨RJ9, "abs", "(I)I"⟩
abbrev cJ9_max_7cf53 : ByteArray := prog_20_method_65_code
def yJ9_max_7cf53 : MethodName := ⟨RJ9, "max", "(II)I"⟩
abbrev cJ9_min_7cf53 : ByteArray := prog_20_method_69_code
def yJ9_min_7cf53 : MethodName := ⟨RJ9, "min", "(II)I"⟩
def RJ0 : String := "java/lang/String"
def TJ0 : u_T := fun k => match k with
  | _ => ("", "", "", false)
def tyJ0 : Nat → FieldType := fun k => match k with
  | _ => .int
theorem nmJ0 : ∀ a, a < 0 → ∀ b, b < 0 → a ≠ b → (TJ0 a).2.1 ≠ (TJ0 b).2.1 := by decide +kernel
theorem tyJ0_ok : ∀ k, k < 0 → parseFieldDescriptor (TJ0 k).2.2.1 = some (tyJ0 k) := by decide +kernel
abbrev cJ0_length_8abf5 : ByteArray := prog_21_method_54_code
def yJ0_length_8abf5 : MethodName := ⟨RJ0, "length", "()I"⟩
abbrev cJ0_charAt_5068e : ByteArray := prog_21_method_56_code
def yJ0_charAt_5068e : MethodName := ⟨RJ0, "charAt", "(I)C"⟩
abbrev cJ0_coder_7d493 : ByteArray := prog_21_method_152_code
def yJ0_coder_7d493 : MethodName := ⟨RJ0, "coder", "()B"⟩
abbrev cJ0_isLatin1_aae02 : ByteArray := prog_21_method_154_code
def yJ0_isLatin1_aae02 : MethodName := ⟨RJ0, "isLatin1", "()Z"⟩
abbrev cJ0_checkIndex_df160 : ByteArray := prog_21_method_155_code
def yJ0_checkIndex_df160 : MethodName := ⟨RJ0, "checkIndex", "(II)V"⟩
abbrev cJ0_checkBoundsOffCount_cabcc : ByteArray := prog_21_method_157_code
def yJ0_checkBoundsOffCount_cabcc : MethodName := ⟨RJ0, "checkBoundsOffCount", "(III)I"⟩
abbrev cJ0_checkBoundsBeginEnd_23922 : ByteArray := prog_21_method_158_code
def yJ0_checkBoundsBeginEnd_23922 : MethodName := ⟨RJ0, "checkBoundsBeginEnd", "(III)V"⟩
def RJ4 : String := "java/lang/StringBuilder"
def TJ4 : u_T := fun k => match k with
  | 0 => ("java/lang/AbstractStringBuilder", "value", "[B", false)
  | 1 => ("java/lang/AbstractStringBuilder", "coder", "B", false)
  | 2 => ("java/lang/AbstractStringBuilder", "maybeLatin1", "Z", false)
  | _ => ("java/lang/AbstractStringBuilder", "count", "I", false)
def tyJ4 : Nat → FieldType := fun k => match k with
  | 0 => .array .byte
  | 1 => .byte
  | 2 => .boolean
  | _ => .int
theorem nmJ4 : ∀ a, a < 4 → ∀ b, b < 4 → a ≠ b → (TJ4 a).2.1 ≠ (TJ4 b).2.1 := by decide +kernel
theorem tyJ4_ok : ∀ k, k < 4 → parseFieldDescriptor (TJ4 k).2.2.1 = some (tyJ4 k) := by decide +kernel
abbrev cJ4_init_da8c8 : ByteArray := prog_22_method_1_code
def yJ4_init_da8c8 : MethodName := ⟨RJ4, "<init>", "()V"⟩
abbrev cJ4_append_cf468 : ByteArray := prog_22_method_14_code
def yJ4_append_cf468 : MethodName := ⟨RJ4, "append", "(C)Ljava/lang/StringBuilder;"⟩
abbrev cJ4_append_bf812 : ByteArray := prog_22_method_15_code
def yJ4_append_bf812 : MethodName := ⟨RJ4, "append", "(I)Ljava/lang/StringBuilder;"⟩
abbrev cJ4_charAt_5068e : ByteArray := prog_22_method_88_code
def yJ4_charAt_5068e : MethodName := ⟨RJ4, "charAt", "(I)C"⟩
abbrev cJ4_setLength_d00df : ByteArray := prog_22_method_89_code
def yJ4_setLength_d00df : MethodName := ⟨RJ4, "setLength", "(I)V"⟩
abbrev cJ4_length_8abf5 : ByteArray := prog_22_method_93_code
def yJ4_length_8abf5 : MethodName := ⟨RJ4, "length", "()I"⟩
def RJ1 : String := "java/lang/StringLatin1"
def TJ1 : u_T := fun k => match k with
  | _ => ("", "", "", false)
def tyJ1 : Nat → FieldType := fun k => match k with
  | _ => .int
theorem nmJ1 : ∀ a, a < 0 → ∀ b, b < 0 → a ≠ b → (TJ1 a).2.1 ≠ (TJ1 b).2.1 := by decide +kernel
theorem tyJ1_ok : ∀ k, k < 0 → parseFieldDescriptor (TJ1 k).2.2.1 = some (tyJ1 k) := by decide +kernel
abbrev cJ1_charAt_3b067 : ByteArray := prog_23_method_2_code
def yJ1_charAt_3b067 : MethodName := ⟨RJ1, "charAt", "([BI)C"⟩
abbrev cJ1_canEncode_fc78d : ByteArray := prog_23_method_3_code
def yJ1_canEncode_fc78d : MethodName := ⟨RJ1, "canEncode", "(C)Z"⟩
abbrev cJ1_fillNull_b72d1 : ByteArray := prog_23_method_48_code
def yJ1_fillNull_b72d1 : MethodName := ⟨RJ1, "fillNull", "([BII)V"⟩
abbrev cJ1_inflate_0e8fd : ByteArray := prog_23_method_50_code
def yJ1_inflate_0e8fd : MethodName := ⟨RJ1, "inflate", "([BI[BII)V"⟩
def RJ2 : String := "java/lang/StringUTF16"
def TJ2 : u_T := fun k => match k with
  | _ => ("", "", "", false)
def tyJ2 : Nat → FieldType := fun k => match k with
  | _ => .int
theorem nmJ2 : ∀ a, a < 0 → ∀ b, b < 0 → a ≠ b → (TJ2 a).2.1 ≠ (TJ2 b).2.1 := by decide +kernel
theorem tyJ2_ok : ∀ k, k < 0 → parseFieldDescriptor (TJ2 k).2.2.1 = some (tyJ2 k) := by decide +kernel
abbrev cJ2_newBytesFor_77867 : ByteArray := prog_24_method_2_code
def yJ2_newBytesFor_77867 : MethodName := ⟨RJ2, "newBytesFor", "(I)[B"⟩
abbrev cJ2_newBytesLength_0f7a4 : ByteArray := prog_24_method_3_code
def yJ2_newBytesLength_0f7a4 : MethodName := ⟨RJ2, "newBytesLength", "(I)I"⟩
abbrev cJ2_putChar_b72d1 : ByteArray := prog_24_method_4_code
def yJ2_putChar_b72d1 : MethodName := ⟨RJ2, "putChar", "([BII)V"⟩
abbrev cJ2_getChar_3b067 : ByteArray := prog_24_method_5_code
def yJ2_getChar_3b067 : MethodName := ⟨RJ2, "getChar", "([BI)C"⟩
abbrev cJ2_length_9d52b : ByteArray := prog_24_method_6_code
def yJ2_length_9d52b : MethodName := ⟨RJ2, "length", "([B)I"⟩
abbrev cJ2_fillNull_b72d1 : ByteArray := prog_24_method_70_code
def yJ2_fillNull_b72d1 : MethodName := ⟨RJ2, "fillNull", "([BII)V"⟩
abbrev cJ2_putCharSB_b72d1 : ByteArray := prog_24_method_71_code
def yJ2_putCharSB_b72d1 : MethodName := ⟨RJ2, "putCharSB", "([BII)V"⟩
abbrev cJ2_getChars_46870 : ByteArray := prog_24_method_77_code
def yJ2_getChars_46870 : MethodName := ⟨RJ2, "getChars", "(III[B)I"⟩
abbrev cJ2_charAt_3b067 : ByteArray := prog_24_method_83_code
def yJ2_charAt_3b067 : MethodName := ⟨RJ2, "charAt", "([BI)C"⟩
abbrev cJ2_inflate_0e8fd : ByteArray := prog_24_method_86_code
def yJ2_inflate_0e8fd : MethodName := ⟨RJ2, "inflate", "([BI[BII)V"⟩
abbrev cJ2_getChars_ba4f3 : ByteArray := prog_24_method_89_code
def yJ2_getChars_ba4f3 : MethodName := ⟨RJ2, "getChars", "(II[B)I"⟩
abbrev cJ2_checkIndex_2214a : ByteArray := prog_24_method_91_code
def yJ2_checkIndex_2214a : MethodName := ⟨RJ2, "checkIndex", "(I[B)V"⟩
abbrev cJ2_checkBoundsBeginEnd_d044e : ByteArray := prog_24_method_93_code
def yJ2_checkBoundsBeginEnd_d044e : MethodName := ⟨RJ2, "checkBoundsBeginEnd", "(II[B)V"⟩
abbrev cJ2_checkBoundsOffCount_d044e : ByteArray := prog_24_method_94_code
def yJ2_checkBoundsOffCount_d044e : MethodName := ⟨RJ2, "checkBoundsOffCount", "(II[B)V"⟩
def RJ10 : String := "java/lang/System"
def TJ10 : u_T := fun k => match k with
  | _ => ("", "", "", false)
def tyJ10 : Nat → FieldType := fun k => match k with
  | _ => .int
theorem nmJ10 : ∀ a, a < 0 → ∀ b, b < 0 → a ≠ b → (TJ10 a).2.1 ≠ (TJ10 b).2.1 := by decide +kernel
theorem tyJ10_ok : ∀ k, k < 0 → parseFieldDescriptor (TJ10 k).2.2.1 = some (tyJ10 k) := by decide +kernel
def RJ7 : String := "java/util/Arrays"
def TJ7 : u_T := fun k => match k with
  | _ => ("", "", "", false)
def tyJ7 : Nat → FieldType := fun k => match k with
  | _ => .int
theorem nmJ7 : ∀ a, a < 0 → ∀ b, b < 0 → a ≠ b → (TJ7 a).2.1 ≠ (TJ7 b).2.1 := by decide +kernel
theorem tyJ7_ok : ∀ k, k < 0 → parseFieldDescriptor (TJ7 k).2.2.1 = some (tyJ7 k) := by decide +kernel
abbrev cJ7_rangeCheck_23922 : ByteArray := prog_26_method_30_code
def yJ7_rangeCheck_23922 : MethodName := ⟨RJ7, "rangeCheck", "(III)V"⟩
abbrev cJ7_fill_eb02e : ByteArray := prog_26_method_110_code
def yJ7_fill_eb02e : MethodName := ⟨RJ7, "fill", "([BIIB)V"⟩
abbrev cJ7_copyOf_9075b : ByteArray := prog_26_method_121_code
def yJ7_copyOf_9075b : MethodName := ⟨RJ7, "copyOf", "([BI)[B"⟩
def RJ8 : String := "jdk/internal/util/ArraysSupport"
def TJ8 : u_T := fun k => match k with
  | _ => ("", "", "", false)
def tyJ8 : Nat → FieldType := fun k => match k with
  | _ => .int
theorem nmJ8 : ∀ a, a < 0 → ∀ b, b < 0 → a ≠ b → (TJ8 a).2.1 ≠ (TJ8 b).2.1 := by decide +kernel
theorem tyJ8_ok : ∀ k, k < 0 → parseFieldDescriptor (TJ8 k).2.2.1 = some (tyJ8 k) := by decide +kernel
abbrev cJ8_newLength_cabcc : ByteArray := prog_27_method_27_code
def yJ8_newLength_cabcc : MethodName := ⟨RJ8, "newLength", "(III)I"⟩
abbrev cJ8_hugeLength_7cf53 : ByteArray := prog_27_method_28_code
def yJ8_hugeLength_7cf53 : MethodName := ⟨RJ8, "hugeLength", "(II)I"⟩
def RJ3 : String := "jdk/internal/util/Preconditions"
def TJ3 : u_T := fun k => match k with
  | _ => ("", "", "", false)
def tyJ3 : Nat → FieldType := fun k => match k with
  | _ => .int
theorem nmJ3 : ∀ a, a < 0 → ∀ b, b < 0 → a ≠ b → (TJ3 a).2.1 ≠ (TJ3 b).2.1 := by decide +kernel
theorem tyJ3_ok : ∀ k, k < 0 → parseFieldDescriptor (TJ3 k).2.2.1 = some (tyJ3 k) := by decide +kernel
abbrev cJ3_checkIndex_8e157 : ByteArray := prog_28_method_11_code
def yJ3_checkIndex_8e157 : MethodName := ⟨RJ3, "checkIndex", "(IILjava/util/function/BiFunction;)I"⟩
abbrev cJ3_checkFromToIndex_8c36e : ByteArray := prog_28_method_12_code
def yJ3_checkFromToIndex_8c36e : MethodName := ⟨RJ3, "checkFromToIndex", "(IIILjava/util/function/BiFunction;)I"⟩
abbrev cJ3_checkFromIndexSize_8c36e : ByteArray := prog_28_method_13_code
def yJ3_checkFromIndexSize_8c36e : MethodName := ⟨RJ3, "checkFromIndexSize", "(IIILjava/util/function/BiFunction;)I"⟩
def RL : String := "KilnKeeperLaw"
abbrev cL_law : ByteArray := code
def yL_law : MethodName := ⟨RL, "law", "([I)Z"⟩
theorem dX1_init_0 : decode cX1_init 0 = .ok (.aload_n 0, 1) := by decide +kernel
theorem dX1_init_1 : decode cX1_init 1 = .ok (.invokespecial 3, 3) := by decide +kernel
theorem dX1_init_4 : decode cX1_init 4 = .ok (.aload_n 0, 1) := by decide +kernel
theorem dX1_init_5 : decode cX1_init 5 = .ok (.iconst 0, 1) := by decide +kernel
theorem dX1_init_6 : decode cX1_init 6 = .ok (.putfield 9, 3) := by decide +kernel
theorem dX1_init_9 : decode cX1_init 9 = .ok (.aload_n 0, 1) := by decide +kernel
theorem dX1_init_10 : decode cX1_init 10 = .ok (.iconst 0, 1) := by decide +kernel
theorem dX1_init_11 : decode cX1_init 11 = .ok (.putfield 15, 3) := by decide +kernel
theorem dX1_init_14 : decode cX1_init 14 = .ok (.aload_n 0, 1) := by decide +kernel
theorem dX1_init_15 : decode cX1_init 15 = .ok (.iconst 0, 1) := by decide +kernel
theorem dX1_init_16 : decode cX1_init 16 = .ok (.putfield 18, 3) := by decide +kernel
theorem dX1_init_19 : decode cX1_init 19 = .ok (.aload_n 0, 1) := by decide +kernel
theorem dX1_init_20 : decode cX1_init 20 = .ok (.iconst 0, 1) := by decide +kernel
theorem dX1_init_21 : decode cX1_init 21 = .ok (.putfield 21, 3) := by decide +kernel
theorem dX1_init_24 : decode cX1_init 24 = .ok (.aload_n 0, 1) := by decide +kernel
theorem dX1_init_25 : decode cX1_init 25 = .ok (.bipush 101, 2) := by decide +kernel
theorem dX1_init_27 : decode cX1_init 27 = .ok (.newarray .int, 2) := by decide +kernel
theorem dX1_init_29 : decode cX1_init 29 = .ok (.putfield 24, 3) := by decide +kernel
theorem dX1_init_32 : decode cX1_init 32 = .ok (.aload_n 0, 1) := by decide +kernel
theorem dX1_init_33 : decode cX1_init 33 = .ok (.bipush 48, 2) := by decide +kernel
theorem dX1_init_35 : decode cX1_init 35 = .ok (.newarray .int, 2) := by decide +kernel
theorem dX1_init_37 : decode cX1_init 37 = .ok (.putfield 28, 3) := by decide +kernel
theorem dX1_init_40 : decode cX1_init 40 = .ok (.return_, 1) := by decide +kernel
theorem dX1_copyFrom_0 : decode cX1_copyFrom 0 = .ok (.aload_n 0, 1) := by decide +kernel
theorem dX1_copyFrom_1 : decode cX1_copyFrom 1 = .ok (.aload_n 1, 1) := by decide +kernel
theorem dX1_copyFrom_2 : decode cX1_copyFrom 2 = .ok (.getfield 9, 3) := by decide +kernel
theorem dX1_copyFrom_5 : decode cX1_copyFrom 5 = .ok (.putfield 9, 3) := by decide +kernel
theorem dX1_copyFrom_8 : decode cX1_copyFrom 8 = .ok (.aload_n 0, 1) := by decide +kernel
theorem dX1_copyFrom_9 : decode cX1_copyFrom 9 = .ok (.aload_n 1, 1) := by decide +kernel
theorem dX1_copyFrom_10 : decode cX1_copyFrom 10 = .ok (.getfield 15, 3) := by decide +kernel
theorem dX1_copyFrom_13 : decode cX1_copyFrom 13 = .ok (.putfield 15, 3) := by decide +kernel
theorem dX1_copyFrom_16 : decode cX1_copyFrom 16 = .ok (.aload_n 0, 1) := by decide +kernel
theorem dX1_copyFrom_17 : decode cX1_copyFrom 17 = .ok (.aload_n 1, 1) := by decide +kernel
theorem dX1_copyFrom_18 : decode cX1_copyFrom 18 = .ok (.getfield 18, 3) := by decide +kernel
theorem dX1_copyFrom_21 : decode cX1_copyFrom 21 = .ok (.putfield 18, 3) := by decide +kernel
theorem dX1_copyFrom_24 : decode cX1_copyFrom 24 = .ok (.aload_n 0, 1) := by decide +kernel
theorem dX1_copyFrom_25 : decode cX1_copyFrom 25 = .ok (.aload_n 1, 1) := by decide +kernel
theorem dX1_copyFrom_26 : decode cX1_copyFrom 26 = .ok (.getfield 21, 3) := by decide +kernel
theorem dX1_copyFrom_29 : decode cX1_copyFrom 29 = .ok (.putfield 21, 3) := by decide +kernel
theorem dX1_copyFrom_32 : decode cX1_copyFrom 32 = .ok (.aload_n 1, 1) := by decide +kernel
theorem dX1_copyFrom_33 : decode cX1_copyFrom 33 = .ok (.getfield 24, 3) := by decide +kernel
theorem dX1_copyFrom_36 : decode cX1_copyFrom 36 = .ok (.aload_n 0, 1) := by decide +kernel
theorem dX1_copyFrom_37 : decode cX1_copyFrom 37 = .ok (.getfield 24, 3) := by decide +kernel
theorem dX1_copyFrom_40 : decode cX1_copyFrom 40 = .ok (.invokestatic 31, 3) := by decide +kernel
theorem dX1_copyFrom_43 : decode cX1_copyFrom 43 = .ok (.aload_n 1, 1) := by decide +kernel
theorem dX1_copyFrom_44 : decode cX1_copyFrom 44 = .ok (.getfield 28, 3) := by decide +kernel
theorem dX1_copyFrom_47 : decode cX1_copyFrom 47 = .ok (.aload_n 0, 1) := by decide +kernel
theorem dX1_copyFrom_48 : decode cX1_copyFrom 48 = .ok (.getfield 28, 3) := by decide +kernel
theorem dX1_copyFrom_51 : decode cX1_copyFrom 51 = .ok (.invokestatic 31, 3) := by decide +kernel
theorem dX1_copyFrom_54 : decode cX1_copyFrom 54 = .ok (.return_, 1) := by decide +kernel
theorem dX1_addFuel_0 : decode cX1_addFuel 0 = .ok (.iconst 1, 1) := by decide +kernel
theorem dX1_addFuel_1 : decode cX1_addFuel 1 = .ok (.iload_n 1, 1) := by decide +kernel
theorem dX1_addFuel_2 : decode cX1_addFuel 2 = .ok (.sipush 9999, 3) := by decide +kernel
theorem dX1_addFuel_5 : decode cX1_addFuel 5 = .ok (.invokestatic 35, 3) := by decide +kernel
theorem dX1_addFuel_8 : decode cX1_addFuel 8 = .ok (.ifCond .ne 7, 3) := by decide +kernel
theorem dX1_addFuel_11 : decode cX1_addFuel 11 = .ok (.sipush (-10002), 3) := by decide +kernel
theorem dX1_addFuel_14 : decode cX1_addFuel 14 = .ok (.ireturn, 1) := by decide +kernel
theorem dX1_addFuel_15 : decode cX1_addFuel 15 = .ok (.aload_n 0, 1) := by decide +kernel
theorem dX1_addFuel_16 : decode cX1_addFuel 16 = .ok (.dup, 1) := by decide +kernel
theorem dX1_addFuel_17 : decode cX1_addFuel 17 = .ok (.getfield 18, 3) := by decide +kernel
theorem dX1_addFuel_20 : decode cX1_addFuel 20 = .ok (.iload_n 1, 1) := by decide +kernel
theorem dX1_addFuel_21 : decode cX1_addFuel 21 = .ok (.iadd, 1) := by decide +kernel
theorem dX1_addFuel_22 : decode cX1_addFuel 22 = .ok (.putfield 18, 3) := by decide +kernel
theorem dX1_addFuel_25 : decode cX1_addFuel 25 = .ok (.aload_n 0, 1) := by decide +kernel
theorem dX1_addFuel_26 : decode cX1_addFuel 26 = .ok (.dup, 1) := by decide +kernel
theorem dX1_addFuel_27 : decode cX1_addFuel 27 = .ok (.getfield 15, 3) := by decide +kernel
theorem dX1_addFuel_30 : decode cX1_addFuel 30 = .ok (.iload_n 1, 1) := by decide +kernel
theorem dX1_addFuel_31 : decode cX1_addFuel 31 = .ok (.iadd, 1) := by decide +kernel
theorem dX1_addFuel_32 : decode cX1_addFuel 32 = .ok (.putfield 15, 3) := by decide +kernel
theorem dX1_addFuel_35 : decode cX1_addFuel 35 = .ok (.aload_n 0, 1) := by decide +kernel
theorem dX1_addFuel_36 : decode cX1_addFuel 36 = .ok (.getfield 15, 3) := by decide +kernel
theorem dX1_addFuel_39 : decode cX1_addFuel 39 = .ok (.ireturn, 1) := by decide +kernel
theorem dX1_burn_0 : decode cX1_burn 0 = .ok (.iload_n 1, 1) := by decide +kernel
theorem dX1_burn_1 : decode cX1_burn 1 = .ok (.aload_n 0, 1) := by decide +kernel
theorem dX1_burn_2 : decode cX1_burn 2 = .ok (.getfield 15, 3) := by decide +kernel
theorem dX1_burn_5 : decode cX1_burn 5 = .ok (.invokestatic 39, 3) := by decide +kernel
theorem dX1_burn_8 : decode cX1_burn 8 = .ok (.istore_n 2, 1) := by decide +kernel
theorem dX1_burn_9 : decode cX1_burn 9 = .ok (.aload_n 0, 1) := by decide +kernel
theorem dX1_burn_10 : decode cX1_burn 10 = .ok (.dup, 1) := by decide +kernel
theorem dX1_burn_11 : decode cX1_burn 11 = .ok (.getfield 15, 3) := by decide +kernel
theorem dX1_burn_14 : decode cX1_burn 14 = .ok (.iload_n 2, 1) := by decide +kernel
theorem dX1_burn_15 : decode cX1_burn 15 = .ok (.isub, 1) := by decide +kernel
theorem dX1_burn_16 : decode cX1_burn 16 = .ok (.putfield 15, 3) := by decide +kernel
theorem dX1_burn_19 : decode cX1_burn 19 = .ok (.aload_n 0, 1) := by decide +kernel
theorem dX1_burn_20 : decode cX1_burn 20 = .ok (.dup, 1) := by decide +kernel
theorem dX1_burn_21 : decode cX1_burn 21 = .ok (.getfield 21, 3) := by decide +kernel
theorem dX1_burn_24 : decode cX1_burn 24 = .ok (.iload_n 2, 1) := by decide +kernel
theorem dX1_burn_25 : decode cX1_burn 25 = .ok (.iadd, 1) := by decide +kernel
theorem dX1_burn_26 : decode cX1_burn 26 = .ok (.putfield 21, 3) := by decide +kernel
theorem dX1_burn_29 : decode cX1_burn 29 = .ok (.aload_n 0, 1) := by decide +kernel
theorem dX1_burn_30 : decode cX1_burn 30 = .ok (.getfield 24, 3) := by decide +kernel
theorem dX1_burn_33 : decode cX1_burn 33 = .ok (.iload_n 2, 1) := by decide +kernel
theorem dX1_burn_34 : decode cX1_burn 34 = .ok (.aload_n 0, 1) := by decide +kernel
theorem dX1_burn_35 : decode cX1_burn 35 = .ok (.getfield 24, 3) := by decide +kernel
theorem dX1_burn_38 : decode cX1_burn 38 = .ok (.iload_n 2, 1) := by decide +kernel
theorem dX1_burn_39 : decode cX1_burn 39 = .ok (.invokestatic 45, 3) := by decide +kernel
theorem dX1_burn_42 : decode cX1_burn 42 = .ok (.iconst 1, 1) := by decide +kernel
theorem dX1_burn_43 : decode cX1_burn 43 = .ok (.iadd, 1) := by decide +kernel
theorem dX1_burn_44 : decode cX1_burn 44 = .ok (.invokestatic 49, 3) := by decide +kernel
theorem dX1_burn_47 : decode cX1_burn 47 = .ok (.iload_n 2, 1) := by decide +kernel
theorem dX1_burn_48 : decode cX1_burn 48 = .ok (.ireturn, 1) := by decide +kernel
theorem dX1_logMinute_0 : decode cX1_logMinute 0 = .ok (.aload_n 0, 1) := by decide +kernel
theorem dX1_logMinute_1 : decode cX1_logMinute 1 = .ok (.getfield 9, 3) := by decide +kernel
theorem dX1_logMinute_4 : decode cX1_logMinute 4 = .ok (.invokestatic 53, 3) := by decide +kernel
theorem dX1_logMinute_7 : decode cX1_logMinute 7 = .ok (.istore 5, 2) := by decide +kernel
theorem dX1_logMinute_9 : decode cX1_logMinute 9 = .ok (.aload_n 0, 1) := by decide +kernel
theorem dX1_logMinute_10 : decode cX1_logMinute 10 = .ok (.getfield 28, 3) := by decide +kernel
theorem dX1_logMinute_13 : decode cX1_logMinute 13 = .ok (.iload 5, 2) := by decide +kernel
theorem dX1_logMinute_15 : decode cX1_logMinute 15 = .ok (.iload_n 1, 1) := by decide +kernel
theorem dX1_logMinute_16 : decode cX1_logMinute 16 = .ok (.invokestatic 49, 3) := by decide +kernel
theorem dX1_logMinute_19 : decode cX1_logMinute 19 = .ok (.aload_n 0, 1) := by decide +kernel
theorem dX1_logMinute_20 : decode cX1_logMinute 20 = .ok (.getfield 28, 3) := by decide +kernel
theorem dX1_logMinute_23 : decode cX1_logMinute 23 = .ok (.iload 5, 2) := by decide +kernel
theorem dX1_logMinute_25 : decode cX1_logMinute 25 = .ok (.iconst 1, 1) := by decide +kernel
theorem dX1_logMinute_26 : decode cX1_logMinute 26 = .ok (.iadd, 1) := by decide +kernel
theorem dX1_logMinute_27 : decode cX1_logMinute 27 = .ok (.iload_n 2, 1) := by decide +kernel
theorem dX1_logMinute_28 : decode cX1_logMinute 28 = .ok (.invokestatic 49, 3) := by decide +kernel
theorem dX1_logMinute_31 : decode cX1_logMinute 31 = .ok (.aload_n 0, 1) := by decide +kernel
theorem dX1_logMinute_32 : decode cX1_logMinute 32 = .ok (.getfield 28, 3) := by decide +kernel
theorem dX1_logMinute_35 : decode cX1_logMinute 35 = .ok (.iload 5, 2) := by decide +kernel
theorem dX1_logMinute_37 : decode cX1_logMinute 37 = .ok (.iconst 2, 1) := by decide +kernel
theorem dX1_logMinute_38 : decode cX1_logMinute 38 = .ok (.iadd, 1) := by decide +kernel
theorem dX1_logMinute_39 : decode cX1_logMinute 39 = .ok (.iload_n 3, 1) := by decide +kernel
theorem dX1_logMinute_40 : decode cX1_logMinute 40 = .ok (.invokestatic 49, 3) := by decide +kernel
theorem dX1_logMinute_43 : decode cX1_logMinute 43 = .ok (.aload_n 0, 1) := by decide +kernel
theorem dX1_logMinute_44 : decode cX1_logMinute 44 = .ok (.getfield 28, 3) := by decide +kernel
theorem dX1_logMinute_47 : decode cX1_logMinute 47 = .ok (.iload 5, 2) := by decide +kernel
theorem dX1_logMinute_49 : decode cX1_logMinute 49 = .ok (.iconst 3, 1) := by decide +kernel
theorem dX1_logMinute_50 : decode cX1_logMinute 50 = .ok (.iadd, 1) := by decide +kernel
theorem dX1_logMinute_51 : decode cX1_logMinute 51 = .ok (.iload 4, 2) := by decide +kernel
theorem dX1_logMinute_53 : decode cX1_logMinute 53 = .ok (.invokestatic 49, 3) := by decide +kernel
theorem dX1_logMinute_56 : decode cX1_logMinute 56 = .ok (.aload_n 0, 1) := by decide +kernel
theorem dX1_logMinute_57 : decode cX1_logMinute 57 = .ok (.dup, 1) := by decide +kernel
theorem dX1_logMinute_58 : decode cX1_logMinute 58 = .ok (.getfield 9, 3) := by decide +kernel
theorem dX1_logMinute_61 : decode cX1_logMinute 61 = .ok (.iconst 1, 1) := by decide +kernel
theorem dX1_logMinute_62 : decode cX1_logMinute 62 = .ok (.iadd, 1) := by decide +kernel
theorem dX1_logMinute_63 : decode cX1_logMinute 63 = .ok (.putfield 9, 3) := by decide +kernel
theorem dX1_logMinute_66 : decode cX1_logMinute 66 = .ok (.return_, 1) := by decide +kernel
theorem dX1_loggedNumber_0 : decode cX1_loggedNumber 0 = .ok (.iload_n 1, 1) := by decide +kernel
theorem dX1_loggedNumber_1 : decode cX1_loggedNumber 1 = .ok (.ifCond .lt 16, 3) := by decide +kernel
theorem dX1_loggedNumber_4 : decode cX1_loggedNumber 4 = .ok (.iload_n 1, 1) := by decide +kernel
theorem dX1_loggedNumber_5 : decode cX1_loggedNumber 5 = .ok (.aload_n 0, 1) := by decide +kernel
theorem dX1_loggedNumber_6 : decode cX1_loggedNumber 6 = .ok (.getfield 9, 3) := by decide +kernel
theorem dX1_loggedNumber_9 : decode cX1_loggedNumber 9 = .ok (.bipush 12, 2) := by decide +kernel
theorem dX1_loggedNumber_11 : decode cX1_loggedNumber 11 = .ok (.invokestatic 39, 3) := by decide +kernel
theorem dX1_loggedNumber_14 : decode cX1_loggedNumber 14 = .ok (.if_icmp .lt 7, 3) := by decide +kernel
theorem dX1_loggedNumber_17 : decode cX1_loggedNumber 17 = .ok (.sipush (-10001), 3) := by decide +kernel
theorem dX1_loggedNumber_20 : decode cX1_loggedNumber 20 = .ok (.ireturn, 1) := by decide +kernel
theorem dX1_loggedNumber_21 : decode cX1_loggedNumber 21 = .ok (.iconst 0, 1) := by decide +kernel
theorem dX1_loggedNumber_22 : decode cX1_loggedNumber 22 = .ok (.iload_n 2, 1) := by decide +kernel
theorem dX1_loggedNumber_23 : decode cX1_loggedNumber 23 = .ok (.iconst 3, 1) := by decide +kernel
theorem dX1_loggedNumber_24 : decode cX1_loggedNumber 24 = .ok (.invokestatic 35, 3) := by decide +kernel
theorem dX1_loggedNumber_27 : decode cX1_loggedNumber 27 = .ok (.ifCond .ne 7, 3) := by decide +kernel
theorem dX1_loggedNumber_30 : decode cX1_loggedNumber 30 = .ok (.sipush (-10002), 3) := by decide +kernel
theorem dX1_loggedNumber_33 : decode cX1_loggedNumber 33 = .ok (.ireturn, 1) := by decide +kernel
theorem dX1_loggedNumber_34 : decode cX1_loggedNumber 34 = .ok (.aload_n 0, 1) := by decide +kernel
theorem dX1_loggedNumber_35 : decode cX1_loggedNumber 35 = .ok (.getfield 28, 3) := by decide +kernel
theorem dX1_loggedNumber_38 : decode cX1_loggedNumber 38 = .ok (.aload_n 0, 1) := by decide +kernel
theorem dX1_loggedNumber_39 : decode cX1_loggedNumber 39 = .ok (.getfield 9, 3) := by decide +kernel
theorem dX1_loggedNumber_42 : decode cX1_loggedNumber 42 = .ok (.iconst 1, 1) := by decide +kernel
theorem dX1_loggedNumber_43 : decode cX1_loggedNumber 43 = .ok (.isub, 1) := by decide +kernel
theorem dX1_loggedNumber_44 : decode cX1_loggedNumber 44 = .ok (.iload_n 1, 1) := by decide +kernel
theorem dX1_loggedNumber_45 : decode cX1_loggedNumber 45 = .ok (.isub, 1) := by decide +kernel
theorem dX1_loggedNumber_46 : decode cX1_loggedNumber 46 = .ok (.invokestatic 53, 3) := by decide +kernel
theorem dX1_loggedNumber_49 : decode cX1_loggedNumber 49 = .ok (.iload_n 2, 1) := by decide +kernel
theorem dX1_loggedNumber_50 : decode cX1_loggedNumber 50 = .ok (.iadd, 1) := by decide +kernel
theorem dX1_loggedNumber_51 : decode cX1_loggedNumber 51 = .ok (.invokestatic 45, 3) := by decide +kernel
theorem dX1_loggedNumber_54 : decode cX1_loggedNumber 54 = .ok (.ireturn, 1) := by decide +kernel
theorem dX1_burntByAmounts_0 : decode cX1_burntByAmounts 0 = .ok (.iconst 0, 1) := by decide +kernel
theorem dX1_burntByAmounts_1 : decode cX1_burntByAmounts 1 = .ok (.istore_n 1, 1) := by decide +kernel
theorem dX1_burntByAmounts_2 : decode cX1_burntByAmounts 2 = .ok (.iconst 0, 1) := by decide +kernel
theorem dX1_burntByAmounts_3 : decode cX1_burntByAmounts 3 = .ok (.istore_n 2, 1) := by decide +kernel
theorem dX1_burntByAmounts_4 : decode cX1_burntByAmounts 4 = .ok (.iload_n 2, 1) := by decide +kernel
theorem dX1_burntByAmounts_5 : decode cX1_burntByAmounts 5 = .ok (.aload_n 0, 1) := by decide +kernel
theorem dX1_burntByAmounts_6 : decode cX1_burntByAmounts 6 = .ok (.getfield 24, 3) := by decide +kernel
theorem dX1_burntByAmounts_9 : decode cX1_burntByAmounts 9 = .ok (.arraylength, 1) := by decide +kernel
theorem dX1_burntByAmounts_10 : decode cX1_burntByAmounts 10 = .ok (.if_icmp .ge 20, 3) := by decide +kernel
theorem dX1_burntByAmounts_13 : decode cX1_burntByAmounts 13 = .ok (.iload_n 1, 1) := by decide +kernel
theorem dX1_burntByAmounts_14 : decode cX1_burntByAmounts 14 = .ok (.iload_n 2, 1) := by decide +kernel
theorem dX1_burntByAmounts_15 : decode cX1_burntByAmounts 15 = .ok (.aload_n 0, 1) := by decide +kernel
theorem dX1_burntByAmounts_16 : decode cX1_burntByAmounts 16 = .ok (.getfield 24, 3) := by decide +kernel
theorem dX1_burntByAmounts_19 : decode cX1_burntByAmounts 19 = .ok (.iload_n 2, 1) := by decide +kernel
theorem dX1_burntByAmounts_20 : decode cX1_burntByAmounts 20 = .ok (.iaload, 1) := by decide +kernel
theorem dX1_burntByAmounts_21 : decode cX1_burntByAmounts 21 = .ok (.imul, 1) := by decide +kernel
theorem dX1_burntByAmounts_22 : decode cX1_burntByAmounts 22 = .ok (.iadd, 1) := by decide +kernel
theorem dX1_burntByAmounts_23 : decode cX1_burntByAmounts 23 = .ok (.istore_n 1, 1) := by decide +kernel
theorem dX1_burntByAmounts_24 : decode cX1_burntByAmounts 24 = .ok (.iinc 2 1, 3) := by decide +kernel
theorem dX1_burntByAmounts_27 : decode cX1_burntByAmounts 27 = .ok (.goto (-23), 3) := by decide +kernel
theorem dX1_burntByAmounts_30 : decode cX1_burntByAmounts 30 = .ok (.iload_n 1, 1) := by decide +kernel
theorem dX1_burntByAmounts_31 : decode cX1_burntByAmounts 31 = .ok (.ireturn, 1) := by decide +kernel
theorem dX1_isInBalance_0 : decode cX1_isInBalance 0 = .ok (.iconst 0, 1) := by decide +kernel
theorem dX1_isInBalance_1 : decode cX1_isInBalance 1 = .ok (.istore_n 1, 1) := by decide +kernel
theorem dX1_isInBalance_2 : decode cX1_isInBalance 2 = .ok (.iconst 0, 1) := by decide +kernel
theorem dX1_isInBalance_3 : decode cX1_isInBalance 3 = .ok (.istore_n 2, 1) := by decide +kernel
theorem dX1_isInBalance_4 : decode cX1_isInBalance 4 = .ok (.iload_n 2, 1) := by decide +kernel
theorem dX1_isInBalance_5 : decode cX1_isInBalance 5 = .ok (.aload_n 0, 1) := by decide +kernel
theorem dX1_isInBalance_6 : decode cX1_isInBalance 6 = .ok (.getfield 24, 3) := by decide +kernel
theorem dX1_isInBalance_9 : decode cX1_isInBalance 9 = .ok (.arraylength, 1) := by decide +kernel
theorem dX1_isInBalance_10 : decode cX1_isInBalance 10 = .ok (.if_icmp .ge 18, 3) := by decide +kernel
theorem dX1_isInBalance_13 : decode cX1_isInBalance 13 = .ok (.iload_n 1, 1) := by decide +kernel
theorem dX1_isInBalance_14 : decode cX1_isInBalance 14 = .ok (.aload_n 0, 1) := by decide +kernel
theorem dX1_isInBalance_15 : decode cX1_isInBalance 15 = .ok (.getfield 24, 3) := by decide +kernel
theorem dX1_isInBalance_18 : decode cX1_isInBalance 18 = .ok (.iload_n 2, 1) := by decide +kernel
theorem dX1_isInBalance_19 : decode cX1_isInBalance 19 = .ok (.iaload, 1) := by decide +kernel
theorem dX1_isInBalance_20 : decode cX1_isInBalance 20 = .ok (.iadd, 1) := by decide +kernel
theorem dX1_isInBalance_21 : decode cX1_isInBalance 21 = .ok (.istore_n 1, 1) := by decide +kernel
theorem dX1_isInBalance_22 : decode cX1_isInBalance 22 = .ok (.iinc 2 1, 3) := by decide +kernel
theorem dX1_isInBalance_25 : decode cX1_isInBalance 25 = .ok (.goto (-21), 3) := by decide +kernel
theorem dX1_isInBalance_28 : decode cX1_isInBalance 28 = .ok (.aload_n 0, 1) := by decide +kernel
theorem dX1_isInBalance_29 : decode cX1_isInBalance 29 = .ok (.getfield 18, 3) := by decide +kernel
theorem dX1_isInBalance_32 : decode cX1_isInBalance 32 = .ok (.aload_n 0, 1) := by decide +kernel
theorem dX1_isInBalance_33 : decode cX1_isInBalance 33 = .ok (.getfield 15, 3) := by decide +kernel
theorem dX1_isInBalance_36 : decode cX1_isInBalance 36 = .ok (.aload_n 0, 1) := by decide +kernel
theorem dX1_isInBalance_37 : decode cX1_isInBalance 37 = .ok (.getfield 21, 3) := by decide +kernel
theorem dX1_isInBalance_40 : decode cX1_isInBalance 40 = .ok (.iadd, 1) := by decide +kernel
theorem dX1_isInBalance_41 : decode cX1_isInBalance 41 = .ok (.if_icmp .ne 26, 3) := by decide +kernel
theorem dX1_isInBalance_44 : decode cX1_isInBalance 44 = .ok (.aload_n 0, 1) := by decide +kernel
theorem dX1_isInBalance_45 : decode cX1_isInBalance 45 = .ok (.getfield 21, 3) := by decide +kernel
theorem dX1_isInBalance_48 : decode cX1_isInBalance 48 = .ok (.aload_n 0, 1) := by decide +kernel
theorem dX1_isInBalance_49 : decode cX1_isInBalance 49 = .ok (.invokevirtual 57, 3) := by decide +kernel
theorem dX1_isInBalance_52 : decode cX1_isInBalance 52 = .ok (.if_icmp .ne 15, 3) := by decide +kernel
theorem dX1_isInBalance_55 : decode cX1_isInBalance 55 = .ok (.aload_n 0, 1) := by decide +kernel
theorem dX1_isInBalance_56 : decode cX1_isInBalance 56 = .ok (.getfield 9, 3) := by decide +kernel
theorem dX1_isInBalance_59 : decode cX1_isInBalance 59 = .ok (.iload_n 1, 1) := by decide +kernel
theorem dX1_isInBalance_60 : decode cX1_isInBalance 60 = .ok (.if_icmp .ne 7, 3) := by decide +kernel
theorem dX1_isInBalance_63 : decode cX1_isInBalance 63 = .ok (.iconst 1, 1) := by decide +kernel
theorem dX1_isInBalance_64 : decode cX1_isInBalance 64 = .ok (.goto 4, 3) := by decide +kernel
theorem dX1_isInBalance_67 : decode cX1_isInBalance 67 = .ok (.iconst 0, 1) := by decide +kernel
theorem dX1_isInBalance_68 : decode cX1_isInBalance 68 = .ok (.ireturn, 1) := by decide +kernel
theorem dX1_logStart_0 : decode cX1_logStart 0 = .ok (.iload_n 0, 1) := by decide +kernel
theorem dX1_logStart_1 : decode cX1_logStart 1 = .ok (.bipush 12, 2) := by decide +kernel
theorem dX1_logStart_3 : decode cX1_logStart 3 = .ok (.irem, 1) := by decide +kernel
theorem dX1_logStart_4 : decode cX1_logStart 4 = .ok (.iconst 4, 1) := by decide +kernel
theorem dX1_logStart_5 : decode cX1_logStart 5 = .ok (.imul, 1) := by decide +kernel
theorem dX1_logStart_6 : decode cX1_logStart 6 = .ok (.ireturn, 1) := by decide +kernel
theorem dX2_init_0 : decode cX2_init 0 = .ok (.aload_n 0, 1) := by decide +kernel
theorem dX2_init_1 : decode cX2_init 1 = .ok (.invokespecial 3, 3) := by decide +kernel
theorem dX2_init_4 : decode cX2_init 4 = .ok (.aload_n 0, 1) := by decide +kernel
theorem dX2_init_5 : decode cX2_init 5 = .ok (.iconst 0, 1) := by decide +kernel
theorem dX2_init_6 : decode cX2_init 6 = .ok (.putfield 9, 3) := by decide +kernel
theorem dX2_init_9 : decode cX2_init 9 = .ok (.aload_n 0, 1) := by decide +kernel
theorem dX2_init_10 : decode cX2_init 10 = .ok (.iconst 0, 1) := by decide +kernel
theorem dX2_init_11 : decode cX2_init 11 = .ok (.putfield 15, 3) := by decide +kernel
theorem dX2_init_14 : decode cX2_init 14 = .ok (.aload_n 0, 1) := by decide +kernel
theorem dX2_init_15 : decode cX2_init 15 = .ok (.bipush 8, 2) := by decide +kernel
theorem dX2_init_17 : decode cX2_init 17 = .ok (.anewarray 18, 3) := by decide +kernel
theorem dX2_init_20 : decode cX2_init 20 = .ok (.putfield 20, 3) := by decide +kernel
theorem dX2_init_23 : decode cX2_init 23 = .ok (.iconst 0, 1) := by decide +kernel
theorem dX2_init_24 : decode cX2_init 24 = .ok (.istore_n 1, 1) := by decide +kernel
theorem dX2_init_25 : decode cX2_init 25 = .ok (.iload_n 1, 1) := by decide +kernel
theorem dX2_init_26 : decode cX2_init 26 = .ok (.aload_n 0, 1) := by decide +kernel
theorem dX2_init_27 : decode cX2_init 27 = .ok (.getfield 20, 3) := by decide +kernel
theorem dX2_init_30 : decode cX2_init 30 = .ok (.arraylength, 1) := by decide +kernel
theorem dX2_init_31 : decode cX2_init 31 = .ok (.if_icmp .ge 22, 3) := by decide +kernel
theorem dX2_init_34 : decode cX2_init 34 = .ok (.aload_n 0, 1) := by decide +kernel
theorem dX2_init_35 : decode cX2_init 35 = .ok (.getfield 20, 3) := by decide +kernel
theorem dX2_init_38 : decode cX2_init 38 = .ok (.iload_n 1, 1) := by decide +kernel
theorem dX2_init_39 : decode cX2_init 39 = .ok (.new 18, 3) := by decide +kernel
theorem dX2_init_42 : decode cX2_init 42 = .ok (.dup, 1) := by decide +kernel
theorem dX2_init_43 : decode cX2_init 43 = .ok (.invokespecial 24, 3) := by decide +kernel
theorem dX2_init_46 : decode cX2_init 46 = .ok (.aastore, 1) := by decide +kernel
theorem dX2_init_47 : decode cX2_init 47 = .ok (.iinc 1 1, 3) := by decide +kernel
theorem dX2_init_50 : decode cX2_init 50 = .ok (.goto (-25), 3) := by decide +kernel
theorem dX2_init_53 : decode cX2_init 53 = .ok (.return_, 1) := by decide +kernel
theorem dX2_keep_0 : decode cX2_keep 0 = .ok (.aload_n 0, 1) := by decide +kernel
theorem dX2_keep_1 : decode cX2_keep 1 = .ok (.getfield 9, 3) := by decide +kernel
theorem dX2_keep_4 : decode cX2_keep 4 = .ok (.bipush 8, 2) := by decide +kernel
theorem dX2_keep_6 : decode cX2_keep 6 = .ok (.if_icmp .ne 26, 3) := by decide +kernel
theorem dX2_keep_9 : decode cX2_keep 9 = .ok (.aload_n 0, 1) := by decide +kernel
theorem dX2_keep_10 : decode cX2_keep 10 = .ok (.aload_n 0, 1) := by decide +kernel
theorem dX2_keep_11 : decode cX2_keep 11 = .ok (.getfield 15, 3) := by decide +kernel
theorem dX2_keep_14 : decode cX2_keep 14 = .ok (.iconst 1, 1) := by decide +kernel
theorem dX2_keep_15 : decode cX2_keep 15 = .ok (.iadd, 1) := by decide +kernel
theorem dX2_keep_16 : decode cX2_keep 16 = .ok (.bipush 8, 2) := by decide +kernel
theorem dX2_keep_18 : decode cX2_keep 18 = .ok (.irem, 1) := by decide +kernel
theorem dX2_keep_19 : decode cX2_keep 19 = .ok (.putfield 15, 3) := by decide +kernel
theorem dX2_keep_22 : decode cX2_keep 22 = .ok (.aload_n 0, 1) := by decide +kernel
theorem dX2_keep_23 : decode cX2_keep 23 = .ok (.dup, 1) := by decide +kernel
theorem dX2_keep_24 : decode cX2_keep 24 = .ok (.getfield 9, 3) := by decide +kernel
theorem dX2_keep_27 : decode cX2_keep 27 = .ok (.iconst 1, 1) := by decide +kernel
theorem dX2_keep_28 : decode cX2_keep 28 = .ok (.isub, 1) := by decide +kernel
theorem dX2_keep_29 : decode cX2_keep 29 = .ok (.putfield 9, 3) := by decide +kernel
theorem dX2_keep_32 : decode cX2_keep 32 = .ok (.aload_n 0, 1) := by decide +kernel
theorem dX2_keep_33 : decode cX2_keep 33 = .ok (.aload_n 0, 1) := by decide +kernel
theorem dX2_keep_34 : decode cX2_keep 34 = .ok (.getfield 9, 3) := by decide +kernel
theorem dX2_keep_37 : decode cX2_keep 37 = .ok (.invokevirtual 25, 3) := by decide +kernel
theorem dX2_keep_40 : decode cX2_keep 40 = .ok (.astore_n 2, 1) := by decide +kernel
theorem dX2_keep_41 : decode cX2_keep 41 = .ok (.aload_n 2, 1) := by decide +kernel
theorem dX2_keep_42 : decode cX2_keep 42 = .ok (.ifnull 8, 3) := by decide +kernel
theorem dX2_keep_45 : decode cX2_keep 45 = .ok (.aload_n 2, 1) := by decide +kernel
theorem dX2_keep_46 : decode cX2_keep 46 = .ok (.aload_n 1, 1) := by decide +kernel
theorem dX2_keep_47 : decode cX2_keep 47 = .ok (.invokevirtual 29, 3) := by decide +kernel
theorem dX2_keep_50 : decode cX2_keep 50 = .ok (.aload_n 0, 1) := by decide +kernel
theorem dX2_keep_51 : decode cX2_keep 51 = .ok (.dup, 1) := by decide +kernel
theorem dX2_keep_52 : decode cX2_keep 52 = .ok (.getfield 9, 3) := by decide +kernel
theorem dX2_keep_55 : decode cX2_keep 55 = .ok (.iconst 1, 1) := by decide +kernel
theorem dX2_keep_56 : decode cX2_keep 56 = .ok (.iadd, 1) := by decide +kernel
theorem dX2_keep_57 : decode cX2_keep 57 = .ok (.putfield 9, 3) := by decide +kernel
theorem dX2_keep_60 : decode cX2_keep 60 = .ok (.return_, 1) := by decide +kernel
theorem dX2_takeBack_0 : decode cX2_takeBack 0 = .ok (.aload_n 0, 1) := by decide +kernel
theorem dX2_takeBack_1 : decode cX2_takeBack 1 = .ok (.getfield 9, 3) := by decide +kernel
theorem dX2_takeBack_4 : decode cX2_takeBack 4 = .ok (.ifCond .ne 7, 3) := by decide +kernel
theorem dX2_takeBack_7 : decode cX2_takeBack 7 = .ok (.sipush (-10005), 3) := by decide +kernel
theorem dX2_takeBack_10 : decode cX2_takeBack 10 = .ok (.ireturn, 1) := by decide +kernel
theorem dX2_takeBack_11 : decode cX2_takeBack 11 = .ok (.aload_n 0, 1) := by decide +kernel
theorem dX2_takeBack_12 : decode cX2_takeBack 12 = .ok (.dup, 1) := by decide +kernel
theorem dX2_takeBack_13 : decode cX2_takeBack 13 = .ok (.getfield 9, 3) := by decide +kernel
theorem dX2_takeBack_16 : decode cX2_takeBack 16 = .ok (.iconst 1, 1) := by decide +kernel
theorem dX2_takeBack_17 : decode cX2_takeBack 17 = .ok (.isub, 1) := by decide +kernel
theorem dX2_takeBack_18 : decode cX2_takeBack 18 = .ok (.putfield 9, 3) := by decide +kernel
theorem dX2_takeBack_21 : decode cX2_takeBack 21 = .ok (.aload_n 0, 1) := by decide +kernel
theorem dX2_takeBack_22 : decode cX2_takeBack 22 = .ok (.aload_n 0, 1) := by decide +kernel
theorem dX2_takeBack_23 : decode cX2_takeBack 23 = .ok (.getfield 9, 3) := by decide +kernel
theorem dX2_takeBack_26 : decode cX2_takeBack 26 = .ok (.invokevirtual 25, 3) := by decide +kernel
theorem dX2_takeBack_29 : decode cX2_takeBack 29 = .ok (.astore_n 2, 1) := by decide +kernel
theorem dX2_takeBack_30 : decode cX2_takeBack 30 = .ok (.aload_n 2, 1) := by decide +kernel
theorem dX2_takeBack_31 : decode cX2_takeBack 31 = .ok (.ifnull 8, 3) := by decide +kernel
theorem dX2_takeBack_34 : decode cX2_takeBack 34 = .ok (.aload_n 1, 1) := by decide +kernel
theorem dX2_takeBack_35 : decode cX2_takeBack 35 = .ok (.aload_n 2, 1) := by decide +kernel
theorem dX2_takeBack_36 : decode cX2_takeBack 36 = .ok (.invokevirtual 29, 3) := by decide +kernel
theorem dX2_takeBack_39 : decode cX2_takeBack 39 = .ok (.aload_n 0, 1) := by decide +kernel
theorem dX2_takeBack_40 : decode cX2_takeBack 40 = .ok (.getfield 9, 3) := by decide +kernel
theorem dX2_takeBack_43 : decode cX2_takeBack 43 = .ok (.ireturn, 1) := by decide +kernel
theorem dX2_kilnAt_0 : decode cX2_kilnAt 0 = .ok (.aload_n 0, 1) := by decide +kernel
theorem dX2_kilnAt_1 : decode cX2_kilnAt 1 = .ok (.getfield 15, 3) := by decide +kernel
theorem dX2_kilnAt_4 : decode cX2_kilnAt 4 = .ok (.iload_n 1, 1) := by decide +kernel
theorem dX2_kilnAt_5 : decode cX2_kilnAt 5 = .ok (.iadd, 1) := by decide +kernel
theorem dX2_kilnAt_6 : decode cX2_kilnAt 6 = .ok (.bipush 8, 2) := by decide +kernel
theorem dX2_kilnAt_8 : decode cX2_kilnAt 8 = .ok (.irem, 1) := by decide +kernel
theorem dX2_kilnAt_9 : decode cX2_kilnAt 9 = .ok (.istore_n 2, 1) := by decide +kernel
theorem dX2_kilnAt_10 : decode cX2_kilnAt 10 = .ok (.iload_n 2, 1) := by decide +kernel
theorem dX2_kilnAt_11 : decode cX2_kilnAt 11 = .ok (.ifCond .lt 21, 3) := by decide +kernel
theorem dX2_kilnAt_14 : decode cX2_kilnAt 14 = .ok (.iload_n 2, 1) := by decide +kernel
theorem dX2_kilnAt_15 : decode cX2_kilnAt 15 = .ok (.aload_n 0, 1) := by decide +kernel
theorem dX2_kilnAt_16 : decode cX2_kilnAt 16 = .ok (.getfield 20, 3) := by decide +kernel
theorem dX2_kilnAt_19 : decode cX2_kilnAt 19 = .ok (.arraylength, 1) := by decide +kernel
theorem dX2_kilnAt_20 : decode cX2_kilnAt 20 = .ok (.if_icmp .ge 12, 3) := by decide +kernel
theorem dX2_kilnAt_23 : decode cX2_kilnAt 23 = .ok (.aload_n 0, 1) := by decide +kernel
theorem dX2_kilnAt_24 : decode cX2_kilnAt 24 = .ok (.getfield 20, 3) := by decide +kernel
theorem dX2_kilnAt_27 : decode cX2_kilnAt 27 = .ok (.iload_n 2, 1) := by decide +kernel
theorem dX2_kilnAt_28 : decode cX2_kilnAt 28 = .ok (.aaload, 1) := by decide +kernel
theorem dX2_kilnAt_29 : decode cX2_kilnAt 29 = .ok (.goto 4, 3) := by decide +kernel
theorem dX2_kilnAt_32 : decode cX2_kilnAt 32 = .ok (.aconst_null, 1) := by decide +kernel
theorem dX2_kilnAt_33 : decode cX2_kilnAt 33 = .ok (.areturn, 1) := by decide +kernel
theorem dX3_init_0 : decode cX3_init 0 = .ok (.aload_n 0, 1) := by decide +kernel
theorem dX3_init_1 : decode cX3_init 1 = .ok (.invokespecial 3, 3) := by decide +kernel
theorem dX3_init_4 : decode cX3_init 4 = .ok (.aload_n 0, 1) := by decide +kernel
theorem dX3_init_5 : decode cX3_init 5 = .ok (.bipush 20, 2) := by decide +kernel
theorem dX3_init_7 : decode cX3_init 7 = .ok (.putfield 9, 3) := by decide +kernel
theorem dX3_init_10 : decode cX3_init 10 = .ok (.aload_n 0, 1) := by decide +kernel
theorem dX3_init_11 : decode cX3_init 11 = .ok (.bipush 20, 2) := by decide +kernel
theorem dX3_init_13 : decode cX3_init 13 = .ok (.putfield 15, 3) := by decide +kernel
theorem dX3_init_16 : decode cX3_init 16 = .ok (.aload_n 0, 1) := by decide +kernel
theorem dX3_init_17 : decode cX3_init 17 = .ok (.iconst 0, 1) := by decide +kernel
theorem dX3_init_18 : decode cX3_init 18 = .ok (.putfield 18, 3) := by decide +kernel
theorem dX3_init_21 : decode cX3_init 21 = .ok (.aload_n 0, 1) := by decide +kernel
theorem dX3_init_22 : decode cX3_init 22 = .ok (.iconst 0, 1) := by decide +kernel
theorem dX3_init_23 : decode cX3_init 23 = .ok (.putfield 21, 3) := by decide +kernel
theorem dX3_init_26 : decode cX3_init 26 = .ok (.aload_n 0, 1) := by decide +kernel
theorem dX3_init_27 : decode cX3_init 27 = .ok (.new 24, 3) := by decide +kernel
theorem dX3_init_30 : decode cX3_init 30 = .ok (.dup, 1) := by decide +kernel
theorem dX3_init_31 : decode cX3_init 31 = .ok (.invokespecial 26, 3) := by decide +kernel
theorem dX3_init_34 : decode cX3_init 34 = .ok (.putfield 27, 3) := by decide +kernel
theorem dX3_init_37 : decode cX3_init 37 = .ok (.aload_n 0, 1) := by decide +kernel
theorem dX3_init_38 : decode cX3_init 38 = .ok (.new 31, 3) := by decide +kernel
theorem dX3_init_41 : decode cX3_init 41 = .ok (.dup, 1) := by decide +kernel
theorem dX3_init_42 : decode cX3_init 42 = .ok (.invokespecial 33, 3) := by decide +kernel
theorem dX3_init_45 : decode cX3_init 45 = .ok (.putfield 34, 3) := by decide +kernel
theorem dX3_init_48 : decode cX3_init 48 = .ok (.aload_n 0, 1) := by decide +kernel
theorem dX3_init_49 : decode cX3_init 49 = .ok (.new 38, 3) := by decide +kernel
theorem dX3_init_52 : decode cX3_init 52 = .ok (.dup, 1) := by decide +kernel
theorem dX3_init_53 : decode cX3_init 53 = .ok (.invokespecial 40, 3) := by decide +kernel
theorem dX3_init_56 : decode cX3_init 56 = .ok (.putfield 41, 3) := by decide +kernel
theorem dX3_init_59 : decode cX3_init 59 = .ok (.aload_n 0, 1) := by decide +kernel
theorem dX3_init_60 : decode cX3_init 60 = .ok (.new 45, 3) := by decide +kernel
theorem dX3_init_63 : decode cX3_init 63 = .ok (.dup, 1) := by decide +kernel
theorem dX3_init_64 : decode cX3_init 64 = .ok (.invokespecial 47, 3) := by decide +kernel
theorem dX3_init_67 : decode cX3_init 67 = .ok (.putfield 48, 3) := by decide +kernel
theorem dX3_init_70 : decode cX3_init 70 = .ok (.return_, 1) := by decide +kernel
theorem dX3_copyFrom_0 : decode cX3_copyFrom 0 = .ok (.aload_n 0, 1) := by decide +kernel
theorem dX3_copyFrom_1 : decode cX3_copyFrom 1 = .ok (.aload_n 1, 1) := by decide +kernel
theorem dX3_copyFrom_2 : decode cX3_copyFrom 2 = .ok (.getfield 9, 3) := by decide +kernel
theorem dX3_copyFrom_5 : decode cX3_copyFrom 5 = .ok (.putfield 9, 3) := by decide +kernel
theorem dX3_copyFrom_8 : decode cX3_copyFrom 8 = .ok (.aload_n 0, 1) := by decide +kernel
theorem dX3_copyFrom_9 : decode cX3_copyFrom 9 = .ok (.aload_n 1, 1) := by decide +kernel
theorem dX3_copyFrom_10 : decode cX3_copyFrom 10 = .ok (.getfield 15, 3) := by decide +kernel
theorem dX3_copyFrom_13 : decode cX3_copyFrom 13 = .ok (.putfield 15, 3) := by decide +kernel
theorem dX3_copyFrom_16 : decode cX3_copyFrom 16 = .ok (.aload_n 0, 1) := by decide +kernel
theorem dX3_copyFrom_17 : decode cX3_copyFrom 17 = .ok (.aload_n 1, 1) := by decide +kernel
theorem dX3_copyFrom_18 : decode cX3_copyFrom 18 = .ok (.getfield 18, 3) := by decide +kernel
theorem dX3_copyFrom_21 : decode cX3_copyFrom 21 = .ok (.putfield 18, 3) := by decide +kernel
theorem dX3_copyFrom_24 : decode cX3_copyFrom 24 = .ok (.aload_n 0, 1) := by decide +kernel
theorem dX3_copyFrom_25 : decode cX3_copyFrom 25 = .ok (.aload_n 1, 1) := by decide +kernel
theorem dX3_copyFrom_26 : decode cX3_copyFrom 26 = .ok (.getfield 21, 3) := by decide +kernel
theorem dX3_copyFrom_29 : decode cX3_copyFrom 29 = .ok (.putfield 21, 3) := by decide +kernel
theorem dX3_copyFrom_32 : decode cX3_copyFrom 32 = .ok (.aload_n 0, 1) := by decide +kernel
theorem dX3_copyFrom_33 : decode cX3_copyFrom 33 = .ok (.getfield 27, 3) := by decide +kernel
theorem dX3_copyFrom_36 : decode cX3_copyFrom 36 = .ok (.aload_n 1, 1) := by decide +kernel
theorem dX3_copyFrom_37 : decode cX3_copyFrom 37 = .ok (.getfield 27, 3) := by decide +kernel
theorem dX3_copyFrom_40 : decode cX3_copyFrom 40 = .ok (.invokevirtual 52, 3) := by decide +kernel
theorem dX3_copyFrom_43 : decode cX3_copyFrom 43 = .ok (.aload_n 0, 1) := by decide +kernel
theorem dX3_copyFrom_44 : decode cX3_copyFrom 44 = .ok (.getfield 34, 3) := by decide +kernel
theorem dX3_copyFrom_47 : decode cX3_copyFrom 47 = .ok (.aload_n 1, 1) := by decide +kernel
theorem dX3_copyFrom_48 : decode cX3_copyFrom 48 = .ok (.getfield 34, 3) := by decide +kernel
theorem dX3_copyFrom_51 : decode cX3_copyFrom 51 = .ok (.invokevirtual 56, 3) := by decide +kernel
theorem dX3_copyFrom_54 : decode cX3_copyFrom 54 = .ok (.aload_n 0, 1) := by decide +kernel
theorem dX3_copyFrom_55 : decode cX3_copyFrom 55 = .ok (.getfield 41, 3) := by decide +kernel
theorem dX3_copyFrom_58 : decode cX3_copyFrom 58 = .ok (.aload_n 1, 1) := by decide +kernel
theorem dX3_copyFrom_59 : decode cX3_copyFrom 59 = .ok (.getfield 41, 3) := by decide +kernel
theorem dX3_copyFrom_62 : decode cX3_copyFrom 62 = .ok (.invokevirtual 59, 3) := by decide +kernel
theorem dX3_copyFrom_65 : decode cX3_copyFrom 65 = .ok (.aload_n 0, 1) := by decide +kernel
theorem dX3_copyFrom_66 : decode cX3_copyFrom 66 = .ok (.getfield 48, 3) := by decide +kernel
theorem dX3_copyFrom_69 : decode cX3_copyFrom 69 = .ok (.aload_n 1, 1) := by decide +kernel
theorem dX3_copyFrom_70 : decode cX3_copyFrom 70 = .ok (.getfield 48, 3) := by decide +kernel
theorem dX3_copyFrom_73 : decode cX3_copyFrom 73 = .ok (.invokevirtual 62, 3) := by decide +kernel
theorem dX3_copyFrom_76 : decode cX3_copyFrom 76 = .ok (.return_, 1) := by decide +kernel
theorem dX3_error_0 : decode cX3_error 0 = .ok (.aload_n 0, 1) := by decide +kernel
theorem dX3_error_1 : decode cX3_error 1 = .ok (.getfield 15, 3) := by decide +kernel
theorem dX3_error_4 : decode cX3_error 4 = .ok (.aload_n 0, 1) := by decide +kernel
theorem dX3_error_5 : decode cX3_error 5 = .ok (.getfield 9, 3) := by decide +kernel
theorem dX3_error_8 : decode cX3_error 8 = .ok (.isub, 1) := by decide +kernel
theorem dX3_error_9 : decode cX3_error 9 = .ok (.ireturn, 1) := by decide +kernel
theorem dX3_aimAt_0 : decode cX3_aimAt 0 = .ok (.bipush 20, 2) := by decide +kernel
theorem dX3_aimAt_2 : decode cX3_aimAt 2 = .ok (.iload_n 1, 1) := by decide +kernel
theorem dX3_aimAt_3 : decode cX3_aimAt 3 = .ok (.sipush 1200, 3) := by decide +kernel
theorem dX3_aimAt_6 : decode cX3_aimAt 6 = .ok (.invokestatic 65, 3) := by decide +kernel
theorem dX3_aimAt_9 : decode cX3_aimAt 9 = .ok (.ifCond .ne 7, 3) := by decide +kernel
theorem dX3_aimAt_12 : decode cX3_aimAt 12 = .ok (.sipush (-10002), 3) := by decide +kernel
theorem dX3_aimAt_15 : decode cX3_aimAt 15 = .ok (.ireturn, 1) := by decide +kernel
theorem dX3_aimAt_16 : decode cX3_aimAt 16 = .ok (.iload_n 1, 1) := by decide +kernel
theorem dX3_aimAt_17 : decode cX3_aimAt 17 = .ok (.aload_n 0, 1) := by decide +kernel
theorem dX3_aimAt_18 : decode cX3_aimAt 18 = .ok (.getfield 15, 3) := by decide +kernel
theorem dX3_aimAt_21 : decode cX3_aimAt 21 = .ok (.if_icmp .ne 13, 3) := by decide +kernel
theorem dX3_aimAt_24 : decode cX3_aimAt 24 = .ok (.aload_n 2, 1) := by decide +kernel
theorem dX3_aimAt_25 : decode cX3_aimAt 25 = .ok (.iconst 5, 1) := by decide +kernel
theorem dX3_aimAt_26 : decode cX3_aimAt 26 = .ok (.aload_n 0, 1) := by decide +kernel
theorem dX3_aimAt_27 : decode cX3_aimAt 27 = .ok (.getfield 15, 3) := by decide +kernel
theorem dX3_aimAt_30 : decode cX3_aimAt 30 = .ok (.invokevirtual 69, 3) := by decide +kernel
theorem dX3_aimAt_33 : decode cX3_aimAt 33 = .ok (.ireturn, 1) := by decide +kernel
theorem dX3_aimAt_34 : decode cX3_aimAt 34 = .ok (.aload_n 0, 1) := by decide +kernel
theorem dX3_aimAt_35 : decode cX3_aimAt 35 = .ok (.getfield 15, 3) := by decide +kernel
theorem dX3_aimAt_38 : decode cX3_aimAt 38 = .ok (.istore_n 3, 1) := by decide +kernel
theorem dX3_aimAt_39 : decode cX3_aimAt 39 = .ok (.aload_n 0, 1) := by decide +kernel
theorem dX3_aimAt_40 : decode cX3_aimAt 40 = .ok (.iload_n 1, 1) := by decide +kernel
theorem dX3_aimAt_41 : decode cX3_aimAt 41 = .ok (.putfield 15, 3) := by decide +kernel
theorem dX3_aimAt_44 : decode cX3_aimAt 44 = .ok (.aload_n 0, 1) := by decide +kernel
theorem dX3_aimAt_45 : decode cX3_aimAt 45 = .ok (.iconst 0, 1) := by decide +kernel
theorem dX3_aimAt_46 : decode cX3_aimAt 46 = .ok (.putfield 18, 3) := by decide +kernel
theorem dX3_aimAt_49 : decode cX3_aimAt 49 = .ok (.iload_n 3, 1) := by decide +kernel
theorem dX3_aimAt_50 : decode cX3_aimAt 50 = .ok (.ireturn, 1) := by decide +kernel
theorem dX3_tellLag_0 : decode cX3_tellLag 0 = .ok (.iconst 0, 1) := by decide +kernel
theorem dX3_tellLag_1 : decode cX3_tellLag 1 = .ok (.iload_n 1, 1) := by decide +kernel
theorem dX3_tellLag_2 : decode cX3_tellLag 2 = .ok (.iconst 5, 1) := by decide +kernel
theorem dX3_tellLag_3 : decode cX3_tellLag 3 = .ok (.invokestatic 65, 3) := by decide +kernel
theorem dX3_tellLag_6 : decode cX3_tellLag 6 = .ok (.ifCond .ne 7, 3) := by decide +kernel
theorem dX3_tellLag_9 : decode cX3_tellLag 9 = .ok (.sipush (-10002), 3) := by decide +kernel
theorem dX3_tellLag_12 : decode cX3_tellLag 12 = .ok (.ireturn, 1) := by decide +kernel
theorem dX3_tellLag_13 : decode cX3_tellLag 13 = .ok (.aload_n 0, 1) := by decide +kernel
theorem dX3_tellLag_14 : decode cX3_tellLag 14 = .ok (.getfield 34, 3) := by decide +kernel
theorem dX3_tellLag_17 : decode cX3_tellLag 17 = .ok (.getfield 75, 3) := by decide +kernel
theorem dX3_tellLag_20 : decode cX3_tellLag 20 = .ok (.istore_n 3, 1) := by decide +kernel
theorem dX3_tellLag_21 : decode cX3_tellLag 21 = .ok (.iload_n 1, 1) := by decide +kernel
theorem dX3_tellLag_22 : decode cX3_tellLag 22 = .ok (.iload_n 3, 1) := by decide +kernel
theorem dX3_tellLag_23 : decode cX3_tellLag 23 = .ok (.if_icmp .ne 10, 3) := by decide +kernel
theorem dX3_tellLag_26 : decode cX3_tellLag 26 = .ok (.aload_n 2, 1) := by decide +kernel
theorem dX3_tellLag_27 : decode cX3_tellLag 27 = .ok (.iconst 5, 1) := by decide +kernel
theorem dX3_tellLag_28 : decode cX3_tellLag 28 = .ok (.iload_n 3, 1) := by decide +kernel
theorem dX3_tellLag_29 : decode cX3_tellLag 29 = .ok (.invokevirtual 69, 3) := by decide +kernel
theorem dX3_tellLag_32 : decode cX3_tellLag 32 = .ok (.ireturn, 1) := by decide +kernel
theorem dX3_tellLag_33 : decode cX3_tellLag 33 = .ok (.aload_n 0, 1) := by decide +kernel
theorem dX3_tellLag_34 : decode cX3_tellLag 34 = .ok (.getfield 34, 3) := by decide +kernel
theorem dX3_tellLag_37 : decode cX3_tellLag 37 = .ok (.iload_n 1, 1) := by decide +kernel
theorem dX3_tellLag_38 : decode cX3_tellLag 38 = .ok (.aload_n 0, 1) := by decide +kernel
theorem dX3_tellLag_39 : decode cX3_tellLag 39 = .ok (.getfield 21, 3) := by decide +kernel
theorem dX3_tellLag_42 : decode cX3_tellLag 42 = .ok (.invokevirtual 78, 3) := by decide +kernel
theorem dX3_tellLag_45 : decode cX3_tellLag 45 = .ok (.iload_n 3, 1) := by decide +kernel
theorem dX3_tellLag_46 : decode cX3_tellLag 46 = .ok (.ireturn, 1) := by decide +kernel
theorem dX3_letGo_0 : decode cX3_letGo 0 = .ok (.iconst 1, 1) := by decide +kernel
theorem dX3_letGo_1 : decode cX3_letGo 1 = .ok (.iload_n 1, 1) := by decide +kernel
theorem dX3_letGo_2 : decode cX3_letGo 2 = .ok (.sipush 300, 3) := by decide +kernel
theorem dX3_letGo_5 : decode cX3_letGo 5 = .ok (.invokestatic 65, 3) := by decide +kernel
theorem dX3_letGo_8 : decode cX3_letGo 8 = .ok (.ifCond .ne 7, 3) := by decide +kernel
theorem dX3_letGo_11 : decode cX3_letGo 11 = .ok (.sipush (-10002), 3) := by decide +kernel
theorem dX3_letGo_14 : decode cX3_letGo 14 = .ok (.ireturn, 1) := by decide +kernel
theorem dX3_letGo_15 : decode cX3_letGo 15 = .ok (.iconst 0, 1) := by decide +kernel
theorem dX3_letGo_16 : decode cX3_letGo 16 = .ok (.istore_n 2, 1) := by decide +kernel
theorem dX3_letGo_17 : decode cX3_letGo 17 = .ok (.iload_n 2, 1) := by decide +kernel
theorem dX3_letGo_18 : decode cX3_letGo 18 = .ok (.iload_n 1, 1) := by decide +kernel
theorem dX3_letGo_19 : decode cX3_letGo 19 = .ok (.if_icmp .ge 13, 3) := by decide +kernel
theorem dX3_letGo_22 : decode cX3_letGo 22 = .ok (.aload_n 0, 1) := by decide +kernel
theorem dX3_letGo_23 : decode cX3_letGo 23 = .ok (.invokevirtual 82, 3) := by decide +kernel
theorem dX3_letGo_26 : decode cX3_letGo 26 = .ok (.iinc 2 1, 3) := by decide +kernel
theorem dX3_letGo_29 : decode cX3_letGo 29 = .ok (.goto (-12), 3) := by decide +kernel
theorem dX3_letGo_32 : decode cX3_letGo 32 = .ok (.aload_n 0, 1) := by decide +kernel
theorem dX3_letGo_33 : decode cX3_letGo 33 = .ok (.getfield 9, 3) := by decide +kernel
theorem dX3_letGo_36 : decode cX3_letGo 36 = .ok (.ireturn, 1) := by decide +kernel
theorem dX3_passMinute_0 : decode cX3_passMinute 0 = .ok (.aload_n 0, 1) := by decide +kernel
theorem dX3_passMinute_1 : decode cX3_passMinute 1 = .ok (.invokevirtual 85, 3) := by decide +kernel
theorem dX3_passMinute_4 : decode cX3_passMinute 4 = .ok (.istore_n 1, 1) := by decide +kernel
theorem dX3_passMinute_5 : decode cX3_passMinute 5 = .ok (.aload_n 0, 1) := by decide +kernel
theorem dX3_passMinute_6 : decode cX3_passMinute 6 = .ok (.getfield 9, 3) := by decide +kernel
theorem dX3_passMinute_9 : decode cX3_passMinute 9 = .ok (.istore_n 2, 1) := by decide +kernel
theorem dX3_passMinute_10 : decode cX3_passMinute 10 = .ok (.aload_n 0, 1) := by decide +kernel
theorem dX3_passMinute_11 : decode cX3_passMinute 11 = .ok (.getfield 34, 3) := by decide +kernel
theorem dX3_passMinute_14 : decode cX3_passMinute 14 = .ok (.aload_n 0, 1) := by decide +kernel
theorem dX3_passMinute_15 : decode cX3_passMinute 15 = .ok (.getfield 27, 3) := by decide +kernel
theorem dX3_passMinute_18 : decode cX3_passMinute 18 = .ok (.iload_n 1, 1) := by decide +kernel
theorem dX3_passMinute_19 : decode cX3_passMinute 19 = .ok (.invokevirtual 89, 3) := by decide +kernel
theorem dX3_passMinute_22 : decode cX3_passMinute 22 = .ok (.invokevirtual 93, 3) := by decide +kernel
theorem dX3_passMinute_25 : decode cX3_passMinute 25 = .ok (.istore_n 3, 1) := by decide +kernel
theorem dX3_passMinute_26 : decode cX3_passMinute 26 = .ok (.aload_n 0, 1) := by decide +kernel
theorem dX3_passMinute_27 : decode cX3_passMinute 27 = .ok (.getfield 27, 3) := by decide +kernel
theorem dX3_passMinute_30 : decode cX3_passMinute 30 = .ok (.iload_n 1, 1) := by decide +kernel
theorem dX3_passMinute_31 : decode cX3_passMinute 31 = .ok (.invokevirtual 96, 3) := by decide +kernel
theorem dX3_passMinute_34 : decode cX3_passMinute 34 = .ok (.aload_n 0, 1) := by decide +kernel
theorem dX3_passMinute_35 : decode cX3_passMinute 35 = .ok (.aload_n 0, 1) := by decide +kernel
theorem dX3_passMinute_36 : decode cX3_passMinute 36 = .ok (.getfield 21, 3) := by decide +kernel
theorem dX3_passMinute_39 : decode cX3_passMinute 39 = .ok (.bipush 20, 2) := by decide +kernel
theorem dX3_passMinute_41 : decode cX3_passMinute 41 = .ok (.isub, 1) := by decide +kernel
theorem dX3_passMinute_42 : decode cX3_passMinute 42 = .ok (.iload_n 3, 1) := by decide +kernel
theorem dX3_passMinute_43 : decode cX3_passMinute 43 = .ok (.aload_n 0, 1) := by decide +kernel
theorem dX3_passMinute_44 : decode cX3_passMinute 44 = .ok (.getfield 21, 3) := by decide +kernel
theorem dX3_passMinute_47 : decode cX3_passMinute 47 = .ok (.bipush 20, 2) := by decide +kernel
theorem dX3_passMinute_49 : decode cX3_passMinute 49 = .ok (.iadd, 1) := by decide +kernel
theorem dX3_passMinute_50 : decode cX3_passMinute 50 = .ok (.invokestatic 100, 3) := by decide +kernel
theorem dX3_passMinute_53 : decode cX3_passMinute 53 = .ok (.putfield 21, 3) := by decide +kernel
theorem dX3_passMinute_56 : decode cX3_passMinute 56 = .ok (.aload_n 0, 1) := by decide +kernel
theorem dX3_passMinute_57 : decode cX3_passMinute 57 = .ok (.getfield 41, 3) := by decide +kernel
theorem dX3_passMinute_60 : decode cX3_passMinute 60 = .ok (.aload_n 0, 1) := by decide +kernel
theorem dX3_passMinute_61 : decode cX3_passMinute 61 = .ok (.getfield 21, 3) := by decide +kernel
theorem dX3_passMinute_64 : decode cX3_passMinute 64 = .ok (.invokevirtual 104, 3) := by decide +kernel
theorem dX3_passMinute_67 : decode cX3_passMinute 67 = .ok (.istore 4, 2) := by decide +kernel
theorem dX3_passMinute_69 : decode cX3_passMinute 69 = .ok (.aload_n 0, 1) := by decide +kernel
theorem dX3_passMinute_70 : decode cX3_passMinute 70 = .ok (.bipush 20, 2) := by decide +kernel
theorem dX3_passMinute_72 : decode cX3_passMinute 72 = .ok (.iload_n 2, 1) := by decide +kernel
theorem dX3_passMinute_73 : decode cX3_passMinute 73 = .ok (.iload 4, 2) := by decide +kernel
theorem dX3_passMinute_75 : decode cX3_passMinute 75 = .ok (.iconst 2, 1) := by decide +kernel
theorem dX3_passMinute_76 : decode cX3_passMinute 76 = .ok (.idiv, 1) := by decide +kernel
theorem dX3_passMinute_77 : decode cX3_passMinute 77 = .ok (.iadd, 1) := by decide +kernel
theorem dX3_passMinute_78 : decode cX3_passMinute 78 = .ok (.iload_n 2, 1) := by decide +kernel
theorem dX3_passMinute_79 : decode cX3_passMinute 79 = .ok (.bipush 20, 2) := by decide +kernel
theorem dX3_passMinute_81 : decode cX3_passMinute 81 = .ok (.isub, 1) := by decide +kernel
theorem dX3_passMinute_82 : decode cX3_passMinute 82 = .ok (.bipush 25, 2) := by decide +kernel
theorem dX3_passMinute_84 : decode cX3_passMinute 84 = .ok (.idiv, 1) := by decide +kernel
theorem dX3_passMinute_85 : decode cX3_passMinute 85 = .ok (.isub, 1) := by decide +kernel
theorem dX3_passMinute_86 : decode cX3_passMinute 86 = .ok (.invokestatic 107, 3) := by decide +kernel
theorem dX3_passMinute_89 : decode cX3_passMinute 89 = .ok (.putfield 9, 3) := by decide +kernel
theorem dX3_passMinute_92 : decode cX3_passMinute 92 = .ok (.aload_n 0, 1) := by decide +kernel
theorem dX3_passMinute_93 : decode cX3_passMinute 93 = .ok (.aload_n 0, 1) := by decide +kernel
theorem dX3_passMinute_94 : decode cX3_passMinute 94 = .ok (.getfield 18, 3) := by decide +kernel
theorem dX3_passMinute_97 : decode cX3_passMinute 97 = .ok (.aload_n 0, 1) := by decide +kernel
theorem dX3_passMinute_98 : decode cX3_passMinute 98 = .ok (.getfield 9, 3) := by decide +kernel
theorem dX3_passMinute_101 : decode cX3_passMinute 101 = .ok (.aload_n 0, 1) := by decide +kernel
theorem dX3_passMinute_102 : decode cX3_passMinute 102 = .ok (.getfield 15, 3) := by decide +kernel
theorem dX3_passMinute_105 : decode cX3_passMinute 105 = .ok (.isub, 1) := by decide +kernel
theorem dX3_passMinute_106 : decode cX3_passMinute 106 = .ok (.invokestatic 107, 3) := by decide +kernel
theorem dX3_passMinute_109 : decode cX3_passMinute 109 = .ok (.putfield 18, 3) := by decide +kernel
theorem dX3_passMinute_112 : decode cX3_passMinute 112 = .ok (.aload_n 0, 1) := by decide +kernel
theorem dX3_passMinute_113 : decode cX3_passMinute 113 = .ok (.getfield 41, 3) := by decide +kernel
theorem dX3_passMinute_116 : decode cX3_passMinute 116 = .ok (.aload_n 0, 1) := by decide +kernel
theorem dX3_passMinute_117 : decode cX3_passMinute 117 = .ok (.getfield 9, 3) := by decide +kernel
theorem dX3_passMinute_120 : decode cX3_passMinute 120 = .ok (.aload_n 0, 1) := by decide +kernel
theorem dX3_passMinute_121 : decode cX3_passMinute 121 = .ok (.getfield 21, 3) := by decide +kernel
theorem dX3_passMinute_124 : decode cX3_passMinute 124 = .ok (.iload_n 1, 1) := by decide +kernel
theorem dX3_passMinute_125 : decode cX3_passMinute 125 = .ok (.iload 4, 2) := by decide +kernel
theorem dX3_passMinute_127 : decode cX3_passMinute 127 = .ok (.invokevirtual 112, 3) := by decide +kernel
theorem dX3_passMinute_130 : decode cX3_passMinute 130 = .ok (.aload_n 0, 1) := by decide +kernel
theorem dX3_passMinute_131 : decode cX3_passMinute 131 = .ok (.getfield 48, 3) := by decide +kernel
theorem dX3_passMinute_134 : decode cX3_passMinute 134 = .ok (.aload_n 0, 1) := by decide +kernel
theorem dX3_passMinute_135 : decode cX3_passMinute 135 = .ok (.getfield 9, 3) := by decide +kernel
theorem dX3_passMinute_138 : decode cX3_passMinute 138 = .ok (.aload_n 0, 1) := by decide +kernel
theorem dX3_passMinute_139 : decode cX3_passMinute 139 = .ok (.getfield 9, 3) := by decide +kernel
theorem dX3_passMinute_142 : decode cX3_passMinute 142 = .ok (.iload_n 2, 1) := by decide +kernel
theorem dX3_passMinute_143 : decode cX3_passMinute 143 = .ok (.isub, 1) := by decide +kernel
theorem dX3_passMinute_144 : decode cX3_passMinute 144 = .ok (.invokestatic 116, 3) := by decide +kernel
theorem dX3_passMinute_147 : decode cX3_passMinute 147 = .ok (.invokevirtual 119, 3) := by decide +kernel
theorem dX3_passMinute_150 : decode cX3_passMinute 150 = .ok (.return_, 1) := by decide +kernel
theorem dX3_write_0 : decode cX3_write 0 = .ok (.aload_n 1, 1) := by decide +kernel
theorem dX3_write_1 : decode cX3_write 1 = .ok (.aload_n 0, 1) := by decide +kernel
theorem dX3_write_2 : decode cX3_write 2 = .ok (.getfield 9, 3) := by decide +kernel
theorem dX3_write_5 : decode cX3_write 5 = .ok (.invokevirtual 121, 3) := by decide +kernel
theorem dX3_write_8 : decode cX3_write 8 = .ok (.bipush 62, 2) := by decide +kernel
theorem dX3_write_10 : decode cX3_write 10 = .ok (.invokevirtual 127, 3) := by decide +kernel
theorem dX3_write_13 : decode cX3_write 13 = .ok (.aload_n 0, 1) := by decide +kernel
theorem dX3_write_14 : decode cX3_write 14 = .ok (.getfield 15, 3) := by decide +kernel
theorem dX3_write_17 : decode cX3_write 17 = .ok (.invokevirtual 121, 3) := by decide +kernel
theorem dX3_write_20 : decode cX3_write 20 = .ok (.pop, 1) := by decide +kernel
theorem dX3_write_21 : decode cX3_write 21 = .ok (.aload_n 1, 1) := by decide +kernel
theorem dX3_write_22 : decode cX3_write 22 = .ok (.bipush 100, 2) := by decide +kernel
theorem dX3_write_24 : decode cX3_write 24 = .ok (.invokevirtual 127, 3) := by decide +kernel
theorem dX3_write_27 : decode cX3_write 27 = .ok (.aload_n 0, 1) := by decide +kernel
theorem dX3_write_28 : decode cX3_write 28 = .ok (.getfield 21, 3) := by decide +kernel
theorem dX3_write_31 : decode cX3_write 31 = .ok (.invokevirtual 121, 3) := by decide +kernel
theorem dX3_write_34 : decode cX3_write 34 = .ok (.pop, 1) := by decide +kernel
theorem dX3_write_35 : decode cX3_write 35 = .ok (.aload_n 1, 1) := by decide +kernel
theorem dX3_write_36 : decode cX3_write 36 = .ok (.bipush 102, 2) := by decide +kernel
theorem dX3_write_38 : decode cX3_write 38 = .ok (.invokevirtual 127, 3) := by decide +kernel
theorem dX3_write_41 : decode cX3_write 41 = .ok (.aload_n 0, 1) := by decide +kernel
theorem dX3_write_42 : decode cX3_write 42 = .ok (.getfield 41, 3) := by decide +kernel
theorem dX3_write_45 : decode cX3_write 45 = .ok (.getfield 130, 3) := by decide +kernel
theorem dX3_write_48 : decode cX3_write 48 = .ok (.invokevirtual 121, 3) := by decide +kernel
theorem dX3_write_51 : decode cX3_write 51 = .ok (.pop, 1) := by decide +kernel
theorem dX3_write_52 : decode cX3_write 52 = .ok (.aload_n 0, 1) := by decide +kernel
theorem dX3_write_53 : decode cX3_write 53 = .ok (.getfield 34, 3) := by decide +kernel
theorem dX3_write_56 : decode cX3_write 56 = .ok (.aload_n 1, 1) := by decide +kernel
theorem dX3_write_57 : decode cX3_write 57 = .ok (.invokevirtual 133, 3) := by decide +kernel
theorem dX3_write_60 : decode cX3_write 60 = .ok (.return_, 1) := by decide +kernel
theorem dX3_accountOf_0 : decode cX3_accountOf 0 = .ok (.iload_n 1, 1) := by decide +kernel
theorem dX3_accountOf_1 : decode cX3_accountOf 1 = .ok (.tableswitch 196 0 15 #[79, 87, 92, 97, 102, 110, 118, 123, 131, 139, 144, 152, 161, 170, 179, 188], 79) := by decide +kernel
theorem dX3_accountOf_80 : decode cX3_accountOf 80 = .ok (.aload_n 0, 1) := by decide +kernel
theorem dX3_accountOf_81 : decode cX3_accountOf 81 = .ok (.getfield 41, 3) := by decide +kernel
theorem dX3_accountOf_84 : decode cX3_accountOf 84 = .ok (.getfield 137, 3) := by decide +kernel
theorem dX3_accountOf_87 : decode cX3_accountOf 87 = .ok (.ireturn, 1) := by decide +kernel
theorem dX3_accountOf_88 : decode cX3_accountOf 88 = .ok (.aload_n 0, 1) := by decide +kernel
theorem dX3_accountOf_89 : decode cX3_accountOf 89 = .ok (.getfield 9, 3) := by decide +kernel
theorem dX3_accountOf_92 : decode cX3_accountOf 92 = .ok (.ireturn, 1) := by decide +kernel
theorem dX3_accountOf_93 : decode cX3_accountOf 93 = .ok (.aload_n 0, 1) := by decide +kernel
theorem dX3_accountOf_94 : decode cX3_accountOf 94 = .ok (.getfield 15, 3) := by decide +kernel
theorem dX3_accountOf_97 : decode cX3_accountOf 97 = .ok (.ireturn, 1) := by decide +kernel
theorem dX3_accountOf_98 : decode cX3_accountOf 98 = .ok (.aload_n 0, 1) := by decide +kernel
theorem dX3_accountOf_99 : decode cX3_accountOf 99 = .ok (.invokevirtual 85, 3) := by decide +kernel
theorem dX3_accountOf_102 : decode cX3_accountOf 102 = .ok (.ireturn, 1) := by decide +kernel
theorem dX3_accountOf_103 : decode cX3_accountOf 103 = .ok (.aload_n 0, 1) := by decide +kernel
theorem dX3_accountOf_104 : decode cX3_accountOf 104 = .ok (.getfield 27, 3) := by decide +kernel
theorem dX3_accountOf_107 : decode cX3_accountOf 107 = .ok (.getfield 140, 3) := by decide +kernel
theorem dX3_accountOf_110 : decode cX3_accountOf 110 = .ok (.ireturn, 1) := by decide +kernel
theorem dX3_accountOf_111 : decode cX3_accountOf 111 = .ok (.aload_n 0, 1) := by decide +kernel
theorem dX3_accountOf_112 : decode cX3_accountOf 112 = .ok (.getfield 27, 3) := by decide +kernel
theorem dX3_accountOf_115 : decode cX3_accountOf 115 = .ok (.getfield 143, 3) := by decide +kernel
theorem dX3_accountOf_118 : decode cX3_accountOf 118 = .ok (.ireturn, 1) := by decide +kernel
theorem dX3_accountOf_119 : decode cX3_accountOf 119 = .ok (.aload_n 0, 1) := by decide +kernel
theorem dX3_accountOf_120 : decode cX3_accountOf 120 = .ok (.getfield 21, 3) := by decide +kernel
theorem dX3_accountOf_123 : decode cX3_accountOf 123 = .ok (.ireturn, 1) := by decide +kernel
theorem dX3_accountOf_124 : decode cX3_accountOf 124 = .ok (.aload_n 0, 1) := by decide +kernel
theorem dX3_accountOf_125 : decode cX3_accountOf 125 = .ok (.getfield 41, 3) := by decide +kernel
theorem dX3_accountOf_128 : decode cX3_accountOf 128 = .ok (.getfield 130, 3) := by decide +kernel
theorem dX3_accountOf_131 : decode cX3_accountOf 131 = .ok (.ireturn, 1) := by decide +kernel
theorem dX3_accountOf_132 : decode cX3_accountOf 132 = .ok (.aload_n 0, 1) := by decide +kernel
theorem dX3_accountOf_133 : decode cX3_accountOf 133 = .ok (.getfield 41, 3) := by decide +kernel
theorem dX3_accountOf_136 : decode cX3_accountOf 136 = .ok (.getfield 146, 3) := by decide +kernel
theorem dX3_accountOf_139 : decode cX3_accountOf 139 = .ok (.ireturn, 1) := by decide +kernel
theorem dX3_accountOf_140 : decode cX3_accountOf 140 = .ok (.aload_n 0, 1) := by decide +kernel
theorem dX3_accountOf_141 : decode cX3_accountOf 141 = .ok (.getfield 18, 3) := by decide +kernel
theorem dX3_accountOf_144 : decode cX3_accountOf 144 = .ok (.ireturn, 1) := by decide +kernel
theorem dX3_accountOf_145 : decode cX3_accountOf 145 = .ok (.aload_n 0, 1) := by decide +kernel
theorem dX3_accountOf_146 : decode cX3_accountOf 146 = .ok (.getfield 48, 3) := by decide +kernel
theorem dX3_accountOf_149 : decode cX3_accountOf 149 = .ok (.getfield 149, 3) := by decide +kernel
theorem dX3_accountOf_152 : decode cX3_accountOf 152 = .ok (.ireturn, 1) := by decide +kernel
theorem dX3_accountOf_153 : decode cX3_accountOf 153 = .ok (.aload_n 0, 1) := by decide +kernel
theorem dX3_accountOf_154 : decode cX3_accountOf 154 = .ok (.getfield 48, 3) := by decide +kernel
theorem dX3_accountOf_157 : decode cX3_accountOf 157 = .ok (.iconst 0, 1) := by decide +kernel
theorem dX3_accountOf_158 : decode cX3_accountOf 158 = .ok (.invokevirtual 152, 3) := by decide +kernel
theorem dX3_accountOf_161 : decode cX3_accountOf 161 = .ok (.ireturn, 1) := by decide +kernel
theorem dX3_accountOf_162 : decode cX3_accountOf 162 = .ok (.aload_n 0, 1) := by decide +kernel
theorem dX3_accountOf_163 : decode cX3_accountOf 163 = .ok (.getfield 48, 3) := by decide +kernel
theorem dX3_accountOf_166 : decode cX3_accountOf 166 = .ok (.iconst 1, 1) := by decide +kernel
theorem dX3_accountOf_167 : decode cX3_accountOf 167 = .ok (.invokevirtual 152, 3) := by decide +kernel
theorem dX3_accountOf_170 : decode cX3_accountOf 170 = .ok (.ireturn, 1) := by decide +kernel
theorem dX3_accountOf_171 : decode cX3_accountOf 171 = .ok (.aload_n 0, 1) := by decide +kernel
theorem dX3_accountOf_172 : decode cX3_accountOf 172 = .ok (.getfield 48, 3) := by decide +kernel
theorem dX3_accountOf_175 : decode cX3_accountOf 175 = .ok (.iconst 2, 1) := by decide +kernel
theorem dX3_accountOf_176 : decode cX3_accountOf 176 = .ok (.invokevirtual 152, 3) := by decide +kernel
theorem dX3_accountOf_179 : decode cX3_accountOf 179 = .ok (.ireturn, 1) := by decide +kernel
theorem dX3_accountOf_180 : decode cX3_accountOf 180 = .ok (.aload_n 0, 1) := by decide +kernel
theorem dX3_accountOf_181 : decode cX3_accountOf 181 = .ok (.getfield 48, 3) := by decide +kernel
theorem dX3_accountOf_184 : decode cX3_accountOf 184 = .ok (.iconst 3, 1) := by decide +kernel
theorem dX3_accountOf_185 : decode cX3_accountOf 185 = .ok (.invokevirtual 152, 3) := by decide +kernel
theorem dX3_accountOf_188 : decode cX3_accountOf 188 = .ok (.ireturn, 1) := by decide +kernel
theorem dX3_accountOf_189 : decode cX3_accountOf 189 = .ok (.aload_n 0, 1) := by decide +kernel
theorem dX3_accountOf_190 : decode cX3_accountOf 190 = .ok (.getfield 48, 3) := by decide +kernel
theorem dX3_accountOf_193 : decode cX3_accountOf 193 = .ok (.invokevirtual 155, 3) := by decide +kernel
theorem dX3_accountOf_196 : decode cX3_accountOf 196 = .ok (.ireturn, 1) := by decide +kernel
theorem dX3_accountOf_197 : decode cX3_accountOf 197 = .ok (.sipush (-10002), 3) := by decide +kernel
theorem dX3_accountOf_200 : decode cX3_accountOf 200 = .ok (.ireturn, 1) := by decide +kernel
theorem dX4_init_0 : decode cX4_init 0 = .ok (.aload_n 0, 1) := by decide +kernel
theorem dX4_init_1 : decode cX4_init 1 = .ok (.invokespecial 3, 3) := by decide +kernel
theorem dX4_init_4 : decode cX4_init 4 = .ok (.aload_n 0, 1) := by decide +kernel
theorem dX4_init_5 : decode cX4_init 5 = .ok (.iconst 0, 1) := by decide +kernel
theorem dX4_init_6 : decode cX4_init 6 = .ok (.putfield 9, 3) := by decide +kernel
theorem dX4_init_9 : decode cX4_init 9 = .ok (.aload_n 0, 1) := by decide +kernel
theorem dX4_init_10 : decode cX4_init 10 = .ok (.iconst 5, 1) := by decide +kernel
theorem dX4_init_11 : decode cX4_init 11 = .ok (.newarray .int, 2) := by decide +kernel
theorem dX4_init_13 : decode cX4_init 13 = .ok (.putfield 15, 3) := by decide +kernel
theorem dX4_init_16 : decode cX4_init 16 = .ok (.return_, 1) := by decide +kernel
theorem dX4_copyFrom_0 : decode cX4_copyFrom 0 = .ok (.aload_n 0, 1) := by decide +kernel
theorem dX4_copyFrom_1 : decode cX4_copyFrom 1 = .ok (.aload_n 1, 1) := by decide +kernel
theorem dX4_copyFrom_2 : decode cX4_copyFrom 2 = .ok (.getfield 9, 3) := by decide +kernel
theorem dX4_copyFrom_5 : decode cX4_copyFrom 5 = .ok (.putfield 9, 3) := by decide +kernel
theorem dX4_copyFrom_8 : decode cX4_copyFrom 8 = .ok (.aload_n 1, 1) := by decide +kernel
theorem dX4_copyFrom_9 : decode cX4_copyFrom 9 = .ok (.getfield 15, 3) := by decide +kernel
theorem dX4_copyFrom_12 : decode cX4_copyFrom 12 = .ok (.aload_n 0, 1) := by decide +kernel
theorem dX4_copyFrom_13 : decode cX4_copyFrom 13 = .ok (.getfield 15, 3) := by decide +kernel
theorem dX4_copyFrom_16 : decode cX4_copyFrom 16 = .ok (.invokestatic 19, 3) := by decide +kernel
theorem dX4_copyFrom_19 : decode cX4_copyFrom 19 = .ok (.return_, 1) := by decide +kernel
theorem dX4_passThrough_0 : decode cX4_passThrough 0 = .ok (.aload_n 0, 1) := by decide +kernel
theorem dX4_passThrough_1 : decode cX4_passThrough 1 = .ok (.getfield 9, 3) := by decide +kernel
theorem dX4_passThrough_4 : decode cX4_passThrough 4 = .ok (.ifCond .ne 5, 3) := by decide +kernel
theorem dX4_passThrough_7 : decode cX4_passThrough 7 = .ok (.iload_n 1, 1) := by decide +kernel
theorem dX4_passThrough_8 : decode cX4_passThrough 8 = .ok (.ireturn, 1) := by decide +kernel
theorem dX4_passThrough_9 : decode cX4_passThrough 9 = .ok (.aload_n 0, 1) := by decide +kernel
theorem dX4_passThrough_10 : decode cX4_passThrough 10 = .ok (.getfield 15, 3) := by decide +kernel
theorem dX4_passThrough_13 : decode cX4_passThrough 13 = .ok (.iconst 0, 1) := by decide +kernel
theorem dX4_passThrough_14 : decode cX4_passThrough 14 = .ok (.invokestatic 23, 3) := by decide +kernel
theorem dX4_passThrough_17 : decode cX4_passThrough 17 = .ok (.istore_n 2, 1) := by decide +kernel
theorem dX4_passThrough_18 : decode cX4_passThrough 18 = .ok (.aload_n 0, 1) := by decide +kernel
theorem dX4_passThrough_19 : decode cX4_passThrough 19 = .ok (.iconst (-1), 1) := by decide +kernel
theorem dX4_passThrough_20 : decode cX4_passThrough 20 = .ok (.invokevirtual 27, 3) := by decide +kernel
theorem dX4_passThrough_23 : decode cX4_passThrough 23 = .ok (.aload_n 0, 1) := by decide +kernel
theorem dX4_passThrough_24 : decode cX4_passThrough 24 = .ok (.getfield 15, 3) := by decide +kernel
theorem dX4_passThrough_27 : decode cX4_passThrough 27 = .ok (.aload_n 0, 1) := by decide +kernel
theorem dX4_passThrough_28 : decode cX4_passThrough 28 = .ok (.getfield 9, 3) := by decide +kernel
theorem dX4_passThrough_31 : decode cX4_passThrough 31 = .ok (.iconst 1, 1) := by decide +kernel
theorem dX4_passThrough_32 : decode cX4_passThrough 32 = .ok (.isub, 1) := by decide +kernel
theorem dX4_passThrough_33 : decode cX4_passThrough 33 = .ok (.iload_n 1, 1) := by decide +kernel
theorem dX4_passThrough_34 : decode cX4_passThrough 34 = .ok (.invokestatic 31, 3) := by decide +kernel
theorem dX4_passThrough_37 : decode cX4_passThrough 37 = .ok (.iload_n 2, 1) := by decide +kernel
theorem dX4_passThrough_38 : decode cX4_passThrough 38 = .ok (.ireturn, 1) := by decide +kernel
theorem dX4_resize_0 : decode cX4_resize 0 = .ok (.iload_n 1, 1) := by decide +kernel
theorem dX4_resize_1 : decode cX4_resize 1 = .ok (.aload_n 0, 1) := by decide +kernel
theorem dX4_resize_2 : decode cX4_resize 2 = .ok (.getfield 9, 3) := by decide +kernel
theorem dX4_resize_5 : decode cX4_resize 5 = .ok (.isub, 1) := by decide +kernel
theorem dX4_resize_6 : decode cX4_resize 6 = .ok (.istore_n 3, 1) := by decide +kernel
theorem dX4_resize_7 : decode cX4_resize 7 = .ok (.aload_n 0, 1) := by decide +kernel
theorem dX4_resize_8 : decode cX4_resize 8 = .ok (.iload_n 3, 1) := by decide +kernel
theorem dX4_resize_9 : decode cX4_resize 9 = .ok (.invokevirtual 27, 3) := by decide +kernel
theorem dX4_resize_12 : decode cX4_resize 12 = .ok (.iconst 0, 1) := by decide +kernel
theorem dX4_resize_13 : decode cX4_resize 13 = .ok (.istore 4, 2) := by decide +kernel
theorem dX4_resize_15 : decode cX4_resize 15 = .ok (.iload 4, 2) := by decide +kernel
theorem dX4_resize_17 : decode cX4_resize 17 = .ok (.iload_n 3, 1) := by decide +kernel
theorem dX4_resize_18 : decode cX4_resize 18 = .ok (.if_icmp .ge 19, 3) := by decide +kernel
theorem dX4_resize_21 : decode cX4_resize 21 = .ok (.aload_n 0, 1) := by decide +kernel
theorem dX4_resize_22 : decode cX4_resize 22 = .ok (.getfield 15, 3) := by decide +kernel
theorem dX4_resize_25 : decode cX4_resize 25 = .ok (.iload 4, 2) := by decide +kernel
theorem dX4_resize_27 : decode cX4_resize 27 = .ok (.iload_n 2, 1) := by decide +kernel
theorem dX4_resize_28 : decode cX4_resize 28 = .ok (.invokestatic 31, 3) := by decide +kernel
theorem dX4_resize_31 : decode cX4_resize 31 = .ok (.iinc 4 1, 3) := by decide +kernel
theorem dX4_resize_34 : decode cX4_resize 34 = .ok (.goto (-19), 3) := by decide +kernel
theorem dX4_resize_37 : decode cX4_resize 37 = .ok (.aload_n 0, 1) := by decide +kernel
theorem dX4_resize_38 : decode cX4_resize 38 = .ok (.iload_n 1, 1) := by decide +kernel
theorem dX4_resize_39 : decode cX4_resize 39 = .ok (.putfield 9, 3) := by decide +kernel
theorem dX4_resize_42 : decode cX4_resize 42 = .ok (.return_, 1) := by decide +kernel
theorem dX4_write_0 : decode cX4_write 0 = .ok (.iconst 0, 1) := by decide +kernel
theorem dX4_write_1 : decode cX4_write 1 = .ok (.istore_n 2, 1) := by decide +kernel
theorem dX4_write_2 : decode cX4_write 2 = .ok (.iload_n 2, 1) := by decide +kernel
theorem dX4_write_3 : decode cX4_write 3 = .ok (.aload_n 0, 1) := by decide +kernel
theorem dX4_write_4 : decode cX4_write 4 = .ok (.getfield 9, 3) := by decide +kernel
theorem dX4_write_7 : decode cX4_write 7 = .ok (.if_icmp .ge 27, 3) := by decide +kernel
theorem dX4_write_10 : decode cX4_write 10 = .ok (.aload_n 1, 1) := by decide +kernel
theorem dX4_write_11 : decode cX4_write 11 = .ok (.bipush 126, 2) := by decide +kernel
theorem dX4_write_13 : decode cX4_write 13 = .ok (.invokevirtual 35, 3) := by decide +kernel
theorem dX4_write_16 : decode cX4_write 16 = .ok (.aload_n 0, 1) := by decide +kernel
theorem dX4_write_17 : decode cX4_write 17 = .ok (.getfield 15, 3) := by decide +kernel
theorem dX4_write_20 : decode cX4_write 20 = .ok (.iload_n 2, 1) := by decide +kernel
theorem dX4_write_21 : decode cX4_write 21 = .ok (.invokestatic 23, 3) := by decide +kernel
theorem dX4_write_24 : decode cX4_write 24 = .ok (.invokevirtual 41, 3) := by decide +kernel
theorem dX4_write_27 : decode cX4_write 27 = .ok (.pop, 1) := by decide +kernel
theorem dX4_write_28 : decode cX4_write 28 = .ok (.iinc 2 1, 3) := by decide +kernel
theorem dX4_write_31 : decode cX4_write 31 = .ok (.goto (-29), 3) := by decide +kernel
theorem dX4_write_34 : decode cX4_write 34 = .ok (.return_, 1) := by decide +kernel
theorem dX4_shiftBy_0 : decode cX4_shiftBy 0 = .ok (.iload_n 1, 1) := by decide +kernel
theorem dX4_shiftBy_1 : decode cX4_shiftBy 1 = .ok (.ifCond .ge 37, 3) := by decide +kernel
theorem dX4_shiftBy_4 : decode cX4_shiftBy 4 = .ok (.iconst 0, 1) := by decide +kernel
theorem dX4_shiftBy_5 : decode cX4_shiftBy 5 = .ok (.istore_n 2, 1) := by decide +kernel
theorem dX4_shiftBy_6 : decode cX4_shiftBy 6 = .ok (.iload_n 2, 1) := by decide +kernel
theorem dX4_shiftBy_7 : decode cX4_shiftBy 7 = .ok (.iconst 5, 1) := by decide +kernel
theorem dX4_shiftBy_8 : decode cX4_shiftBy 8 = .ok (.if_icmp .ge 27, 3) := by decide +kernel
theorem dX4_shiftBy_11 : decode cX4_shiftBy 11 = .ok (.aload_n 0, 1) := by decide +kernel
theorem dX4_shiftBy_12 : decode cX4_shiftBy 12 = .ok (.getfield 15, 3) := by decide +kernel
theorem dX4_shiftBy_15 : decode cX4_shiftBy 15 = .ok (.iload_n 2, 1) := by decide +kernel
theorem dX4_shiftBy_16 : decode cX4_shiftBy 16 = .ok (.iload_n 1, 1) := by decide +kernel
theorem dX4_shiftBy_17 : decode cX4_shiftBy 17 = .ok (.iadd, 1) := by decide +kernel
theorem dX4_shiftBy_18 : decode cX4_shiftBy 18 = .ok (.aload_n 0, 1) := by decide +kernel
theorem dX4_shiftBy_19 : decode cX4_shiftBy 19 = .ok (.getfield 15, 3) := by decide +kernel
theorem dX4_shiftBy_22 : decode cX4_shiftBy 22 = .ok (.iload_n 2, 1) := by decide +kernel
theorem dX4_shiftBy_23 : decode cX4_shiftBy 23 = .ok (.invokestatic 23, 3) := by decide +kernel
theorem dX4_shiftBy_26 : decode cX4_shiftBy 26 = .ok (.invokestatic 31, 3) := by decide +kernel
theorem dX4_shiftBy_29 : decode cX4_shiftBy 29 = .ok (.iinc 2 1, 3) := by decide +kernel
theorem dX4_shiftBy_32 : decode cX4_shiftBy 32 = .ok (.goto (-26), 3) := by decide +kernel
theorem dX4_shiftBy_35 : decode cX4_shiftBy 35 = .ok (.goto 33, 3) := by decide +kernel
theorem dX4_shiftBy_38 : decode cX4_shiftBy 38 = .ok (.iconst 4, 1) := by decide +kernel
theorem dX4_shiftBy_39 : decode cX4_shiftBy 39 = .ok (.istore_n 2, 1) := by decide +kernel
theorem dX4_shiftBy_40 : decode cX4_shiftBy 40 = .ok (.iload_n 2, 1) := by decide +kernel
theorem dX4_shiftBy_41 : decode cX4_shiftBy 41 = .ok (.ifCond .lt 27, 3) := by decide +kernel
theorem dX4_shiftBy_44 : decode cX4_shiftBy 44 = .ok (.aload_n 0, 1) := by decide +kernel
theorem dX4_shiftBy_45 : decode cX4_shiftBy 45 = .ok (.getfield 15, 3) := by decide +kernel
theorem dX4_shiftBy_48 : decode cX4_shiftBy 48 = .ok (.iload_n 2, 1) := by decide +kernel
theorem dX4_shiftBy_49 : decode cX4_shiftBy 49 = .ok (.iload_n 1, 1) := by decide +kernel
theorem dX4_shiftBy_50 : decode cX4_shiftBy 50 = .ok (.iadd, 1) := by decide +kernel
theorem dX4_shiftBy_51 : decode cX4_shiftBy 51 = .ok (.aload_n 0, 1) := by decide +kernel
theorem dX4_shiftBy_52 : decode cX4_shiftBy 52 = .ok (.getfield 15, 3) := by decide +kernel
theorem dX4_shiftBy_55 : decode cX4_shiftBy 55 = .ok (.iload_n 2, 1) := by decide +kernel
theorem dX4_shiftBy_56 : decode cX4_shiftBy 56 = .ok (.invokestatic 23, 3) := by decide +kernel
theorem dX4_shiftBy_59 : decode cX4_shiftBy 59 = .ok (.invokestatic 31, 3) := by decide +kernel
theorem dX4_shiftBy_62 : decode cX4_shiftBy 62 = .ok (.iinc 2 (-1), 3) := by decide +kernel
theorem dX4_shiftBy_65 : decode cX4_shiftBy 65 = .ok (.goto (-25), 3) := by decide +kernel
theorem dX4_shiftBy_68 : decode cX4_shiftBy 68 = .ok (.return_, 1) := by decide +kernel
theorem dX5_init_0 : decode cX5_init 0 = .ok (.aload_n 0, 1) := by decide +kernel
theorem dX5_init_1 : decode cX5_init 1 = .ok (.invokespecial 3, 3) := by decide +kernel
theorem dX5_init_4 : decode cX5_init 4 = .ok (.aload_n 0, 1) := by decide +kernel
theorem dX5_init_5 : decode cX5_init 5 = .ok (.getstatic 9, 3) := by decide +kernel
theorem dX5_init_8 : decode cX5_init 8 = .ok (.putfield 15, 3) := by decide +kernel
theorem dX5_init_11 : decode cX5_init 11 = .ok (.aload_n 0, 1) := by decide +kernel
theorem dX5_init_12 : decode cX5_init 12 = .ok (.iconst 3, 1) := by decide +kernel
theorem dX5_init_13 : decode cX5_init 13 = .ok (.newarray .int, 2) := by decide +kernel
theorem dX5_init_15 : decode cX5_init 15 = .ok (.putfield 20, 3) := by decide +kernel
theorem dX5_init_18 : decode cX5_init 18 = .ok (.return_, 1) := by decide +kernel
theorem dX6_init_0 : decode cX6_init 0 = .ok (.aload_n 0, 1) := by decide +kernel
theorem dX6_init_1 : decode cX6_init 1 = .ok (.invokespecial 3, 3) := by decide +kernel
theorem dX6_init_4 : decode cX6_init 4 = .ok (.aload_n 0, 1) := by decide +kernel
theorem dX6_init_5 : decode cX6_init 5 = .ok (.iconst 0, 1) := by decide +kernel
theorem dX6_init_6 : decode cX6_init 6 = .ok (.putfield 9, 3) := by decide +kernel
theorem dX6_init_9 : decode cX6_init 9 = .ok (.aload_n 0, 1) := by decide +kernel
theorem dX6_init_10 : decode cX6_init 10 = .ok (.iconst 0, 1) := by decide +kernel
theorem dX6_init_11 : decode cX6_init 11 = .ok (.putfield 15, 3) := by decide +kernel
theorem dX6_init_14 : decode cX6_init 14 = .ok (.aload_n 0, 1) := by decide +kernel
theorem dX6_init_15 : decode cX6_init 15 = .ok (.iconst 0, 1) := by decide +kernel
theorem dX6_init_16 : decode cX6_init 16 = .ok (.putfield 18, 3) := by decide +kernel
theorem dX6_init_19 : decode cX6_init 19 = .ok (.aload_n 0, 1) := by decide +kernel
theorem dX6_init_20 : decode cX6_init 20 = .ok (.iconst 0, 1) := by decide +kernel
theorem dX6_init_21 : decode cX6_init 21 = .ok (.putfield 21, 3) := by decide +kernel
theorem dX6_init_24 : decode cX6_init 24 = .ok (.aload_n 0, 1) := by decide +kernel
theorem dX6_init_25 : decode cX6_init 25 = .ok (.iconst 0, 1) := by decide +kernel
theorem dX6_init_26 : decode cX6_init 26 = .ok (.putfield 24, 3) := by decide +kernel
theorem dX6_init_29 : decode cX6_init 29 = .ok (.aload_n 0, 1) := by decide +kernel
theorem dX6_init_30 : decode cX6_init 30 = .ok (.iconst 0, 1) := by decide +kernel
theorem dX6_init_31 : decode cX6_init 31 = .ok (.putfield 27, 3) := by decide +kernel
theorem dX6_init_34 : decode cX6_init 34 = .ok (.aload_n 0, 1) := by decide +kernel
theorem dX6_init_35 : decode cX6_init 35 = .ok (.iconst 0, 1) := by decide +kernel
theorem dX6_init_36 : decode cX6_init 36 = .ok (.putfield 31, 3) := by decide +kernel
theorem dX6_init_39 : decode cX6_init 39 = .ok (.return_, 1) := by decide +kernel
theorem dX6_copyFrom_0 : decode cX6_copyFrom 0 = .ok (.aload_n 0, 1) := by decide +kernel
theorem dX6_copyFrom_1 : decode cX6_copyFrom 1 = .ok (.aload_n 1, 1) := by decide +kernel
theorem dX6_copyFrom_2 : decode cX6_copyFrom 2 = .ok (.getfield 9, 3) := by decide +kernel
theorem dX6_copyFrom_5 : decode cX6_copyFrom 5 = .ok (.putfield 9, 3) := by decide +kernel
theorem dX6_copyFrom_8 : decode cX6_copyFrom 8 = .ok (.aload_n 0, 1) := by decide +kernel
theorem dX6_copyFrom_9 : decode cX6_copyFrom 9 = .ok (.aload_n 1, 1) := by decide +kernel
theorem dX6_copyFrom_10 : decode cX6_copyFrom 10 = .ok (.getfield 15, 3) := by decide +kernel
theorem dX6_copyFrom_13 : decode cX6_copyFrom 13 = .ok (.putfield 15, 3) := by decide +kernel
theorem dX6_copyFrom_16 : decode cX6_copyFrom 16 = .ok (.aload_n 0, 1) := by decide +kernel
theorem dX6_copyFrom_17 : decode cX6_copyFrom 17 = .ok (.aload_n 1, 1) := by decide +kernel
theorem dX6_copyFrom_18 : decode cX6_copyFrom 18 = .ok (.getfield 18, 3) := by decide +kernel
theorem dX6_copyFrom_21 : decode cX6_copyFrom 21 = .ok (.putfield 18, 3) := by decide +kernel
theorem dX6_copyFrom_24 : decode cX6_copyFrom 24 = .ok (.aload_n 0, 1) := by decide +kernel
theorem dX6_copyFrom_25 : decode cX6_copyFrom 25 = .ok (.aload_n 1, 1) := by decide +kernel
theorem dX6_copyFrom_26 : decode cX6_copyFrom 26 = .ok (.getfield 21, 3) := by decide +kernel
theorem dX6_copyFrom_29 : decode cX6_copyFrom 29 = .ok (.putfield 21, 3) := by decide +kernel
theorem dX6_copyFrom_32 : decode cX6_copyFrom 32 = .ok (.aload_n 0, 1) := by decide +kernel
theorem dX6_copyFrom_33 : decode cX6_copyFrom 33 = .ok (.aload_n 1, 1) := by decide +kernel
theorem dX6_copyFrom_34 : decode cX6_copyFrom 34 = .ok (.getfield 24, 3) := by decide +kernel
theorem dX6_copyFrom_37 : decode cX6_copyFrom 37 = .ok (.putfield 24, 3) := by decide +kernel
theorem dX6_copyFrom_40 : decode cX6_copyFrom 40 = .ok (.aload_n 0, 1) := by decide +kernel
theorem dX6_copyFrom_41 : decode cX6_copyFrom 41 = .ok (.aload_n 1, 1) := by decide +kernel
theorem dX6_copyFrom_42 : decode cX6_copyFrom 42 = .ok (.getfield 27, 3) := by decide +kernel
theorem dX6_copyFrom_45 : decode cX6_copyFrom 45 = .ok (.putfield 27, 3) := by decide +kernel
theorem dX6_copyFrom_48 : decode cX6_copyFrom 48 = .ok (.aload_n 0, 1) := by decide +kernel
theorem dX6_copyFrom_49 : decode cX6_copyFrom 49 = .ok (.aload_n 1, 1) := by decide +kernel
theorem dX6_copyFrom_50 : decode cX6_copyFrom 50 = .ok (.getfield 31, 3) := by decide +kernel
theorem dX6_copyFrom_53 : decode cX6_copyFrom 53 = .ok (.putfield 31, 3) := by decide +kernel
theorem dX6_copyFrom_56 : decode cX6_copyFrom 56 = .ok (.return_, 1) := by decide +kernel
theorem dX6_begin_0 : decode cX6_begin 0 = .ok (.aload_n 0, 1) := by decide +kernel
theorem dX6_begin_1 : decode cX6_begin 1 = .ok (.iload_n 1, 1) := by decide +kernel
theorem dX6_begin_2 : decode cX6_begin 2 = .ok (.putfield 9, 3) := by decide +kernel
theorem dX6_begin_5 : decode cX6_begin 5 = .ok (.aload_n 0, 1) := by decide +kernel
theorem dX6_begin_6 : decode cX6_begin 6 = .ok (.iload_n 2, 1) := by decide +kernel
theorem dX6_begin_7 : decode cX6_begin 7 = .ok (.putfield 15, 3) := by decide +kernel
theorem dX6_begin_10 : decode cX6_begin 10 = .ok (.aload_n 0, 1) := by decide +kernel
theorem dX6_begin_11 : decode cX6_begin 11 = .ok (.iload_n 3, 1) := by decide +kernel
theorem dX6_begin_12 : decode cX6_begin 12 = .ok (.putfield 18, 3) := by decide +kernel
theorem dX6_begin_15 : decode cX6_begin 15 = .ok (.aload_n 0, 1) := by decide +kernel
theorem dX6_begin_16 : decode cX6_begin 16 = .ok (.iconst 0, 1) := by decide +kernel
theorem dX6_begin_17 : decode cX6_begin 17 = .ok (.putfield 21, 3) := by decide +kernel
theorem dX6_begin_20 : decode cX6_begin 20 = .ok (.aload_n 0, 1) := by decide +kernel
theorem dX6_begin_21 : decode cX6_begin 21 = .ok (.iconst 0, 1) := by decide +kernel
theorem dX6_begin_22 : decode cX6_begin 22 = .ok (.putfield 24, 3) := by decide +kernel
theorem dX6_begin_25 : decode cX6_begin 25 = .ok (.aload_n 0, 1) := by decide +kernel
theorem dX6_begin_26 : decode cX6_begin 26 = .ok (.iconst 0, 1) := by decide +kernel
theorem dX6_begin_27 : decode cX6_begin 27 = .ok (.putfield 27, 3) := by decide +kernel
theorem dX6_begin_30 : decode cX6_begin 30 = .ok (.aload_n 0, 1) := by decide +kernel
theorem dX6_begin_31 : decode cX6_begin 31 = .ok (.iconst 0, 1) := by decide +kernel
theorem dX6_begin_32 : decode cX6_begin 32 = .ok (.putfield 31, 3) := by decide +kernel
theorem dX6_begin_35 : decode cX6_begin 35 = .ok (.return_, 1) := by decide +kernel
theorem dX6_passMinute_0 : decode cX6_passMinute 0 = .ok (.aload_n 0, 1) := by decide +kernel
theorem dX6_passMinute_1 : decode cX6_passMinute 1 = .ok (.getfield 21, 3) := by decide +kernel
theorem dX6_passMinute_4 : decode cX6_passMinute 4 = .ok (.iconst 1, 1) := by decide +kernel
theorem dX6_passMinute_5 : decode cX6_passMinute 5 = .ok (.if_icmp .eq 4, 3) := by decide +kernel
theorem dX6_passMinute_8 : decode cX6_passMinute 8 = .ok (.return_, 1) := by decide +kernel
theorem dX6_passMinute_9 : decode cX6_passMinute 9 = .ok (.aload_n 0, 1) := by decide +kernel
theorem dX6_passMinute_10 : decode cX6_passMinute 10 = .ok (.aload_n 0, 1) := by decide +kernel
theorem dX6_passMinute_11 : decode cX6_passMinute 11 = .ok (.getfield 31, 3) := by decide +kernel
theorem dX6_passMinute_14 : decode cX6_passMinute 14 = .ok (.iload_n 2, 1) := by decide +kernel
theorem dX6_passMinute_15 : decode cX6_passMinute 15 = .ok (.invokestatic 34, 3) := by decide +kernel
theorem dX6_passMinute_18 : decode cX6_passMinute 18 = .ok (.putfield 31, 3) := by decide +kernel
theorem dX6_passMinute_21 : decode cX6_passMinute 21 = .ok (.iload_n 2, 1) := by decide +kernel
theorem dX6_passMinute_22 : decode cX6_passMinute 22 = .ok (.aload_n 0, 1) := by decide +kernel
theorem dX6_passMinute_23 : decode cX6_passMinute 23 = .ok (.getfield 9, 3) := by decide +kernel
theorem dX6_passMinute_26 : decode cX6_passMinute 26 = .ok (.if_icmp .gt 14, 3) := by decide +kernel
theorem dX6_passMinute_29 : decode cX6_passMinute 29 = .ok (.iload_n 1, 1) := by decide +kernel
theorem dX6_passMinute_30 : decode cX6_passMinute 30 = .ok (.aload_n 0, 1) := by decide +kernel
theorem dX6_passMinute_31 : decode cX6_passMinute 31 = .ok (.getfield 15, 3) := by decide +kernel
theorem dX6_passMinute_34 : decode cX6_passMinute 34 = .ok (.isub, 1) := by decide +kernel
theorem dX6_passMinute_35 : decode cX6_passMinute 35 = .ok (.bipush 80, 2) := by decide +kernel
theorem dX6_passMinute_37 : decode cX6_passMinute 37 = .ok (.if_icmp .le 9, 3) := by decide +kernel
theorem dX6_passMinute_40 : decode cX6_passMinute 40 = .ok (.aload_n 0, 1) := by decide +kernel
theorem dX6_passMinute_41 : decode cX6_passMinute 41 = .ok (.iconst 3, 1) := by decide +kernel
theorem dX6_passMinute_42 : decode cX6_passMinute 42 = .ok (.putfield 21, 3) := by decide +kernel
theorem dX6_passMinute_45 : decode cX6_passMinute 45 = .ok (.return_, 1) := by decide +kernel
theorem dX6_passMinute_46 : decode cX6_passMinute 46 = .ok (.iload_n 1, 1) := by decide +kernel
theorem dX6_passMinute_47 : decode cX6_passMinute 47 = .ok (.aload_n 0, 1) := by decide +kernel
theorem dX6_passMinute_48 : decode cX6_passMinute 48 = .ok (.getfield 15, 3) := by decide +kernel
theorem dX6_passMinute_51 : decode cX6_passMinute 51 = .ok (.if_icmp .lt 13, 3) := by decide +kernel
theorem dX6_passMinute_54 : decode cX6_passMinute 54 = .ok (.aload_n 0, 1) := by decide +kernel
theorem dX6_passMinute_55 : decode cX6_passMinute 55 = .ok (.dup, 1) := by decide +kernel
theorem dX6_passMinute_56 : decode cX6_passMinute 56 = .ok (.getfield 24, 3) := by decide +kernel
theorem dX6_passMinute_59 : decode cX6_passMinute 59 = .ok (.iconst 1, 1) := by decide +kernel
theorem dX6_passMinute_60 : decode cX6_passMinute 60 = .ok (.iadd, 1) := by decide +kernel
theorem dX6_passMinute_61 : decode cX6_passMinute 61 = .ok (.putfield 24, 3) := by decide +kernel
theorem dX6_passMinute_64 : decode cX6_passMinute 64 = .ok (.aload_n 0, 1) := by decide +kernel
theorem dX6_passMinute_65 : decode cX6_passMinute 65 = .ok (.getfield 24, 3) := by decide +kernel
theorem dX6_passMinute_68 : decode cX6_passMinute 68 = .ok (.aload_n 0, 1) := by decide +kernel
theorem dX6_passMinute_69 : decode cX6_passMinute 69 = .ok (.getfield 18, 3) := by decide +kernel
theorem dX6_passMinute_72 : decode cX6_passMinute 72 = .ok (.if_icmp .lt 8, 3) := by decide +kernel
theorem dX6_passMinute_75 : decode cX6_passMinute 75 = .ok (.aload_n 0, 1) := by decide +kernel
theorem dX6_passMinute_76 : decode cX6_passMinute 76 = .ok (.iconst 2, 1) := by decide +kernel
theorem dX6_passMinute_77 : decode cX6_passMinute 77 = .ok (.putfield 21, 3) := by decide +kernel
theorem dX6_passMinute_80 : decode cX6_passMinute 80 = .ok (.return_, 1) := by decide +kernel
theorem dX6_isAheadOf_0 : decode cX6_isAheadOf 0 = .ok (.aload_n 0, 1) := by decide +kernel
theorem dX6_isAheadOf_1 : decode cX6_isAheadOf 1 = .ok (.getfield 18, 3) := by decide +kernel
theorem dX6_isAheadOf_4 : decode cX6_isAheadOf 4 = .ok (.aload_n 0, 1) := by decide +kernel
theorem dX6_isAheadOf_5 : decode cX6_isAheadOf 5 = .ok (.getfield 24, 3) := by decide +kernel
theorem dX6_isAheadOf_8 : decode cX6_isAheadOf 8 = .ok (.isub, 1) := by decide +kernel
theorem dX6_isAheadOf_9 : decode cX6_isAheadOf 9 = .ok (.istore_n 2, 1) := by decide +kernel
theorem dX6_isAheadOf_10 : decode cX6_isAheadOf 10 = .ok (.aload_n 1, 1) := by decide +kernel
theorem dX6_isAheadOf_11 : decode cX6_isAheadOf 11 = .ok (.getfield 18, 3) := by decide +kernel
theorem dX6_isAheadOf_14 : decode cX6_isAheadOf 14 = .ok (.aload_n 1, 1) := by decide +kernel
theorem dX6_isAheadOf_15 : decode cX6_isAheadOf 15 = .ok (.getfield 24, 3) := by decide +kernel
theorem dX6_isAheadOf_18 : decode cX6_isAheadOf 18 = .ok (.isub, 1) := by decide +kernel
theorem dX6_isAheadOf_19 : decode cX6_isAheadOf 19 = .ok (.istore_n 3, 1) := by decide +kernel
theorem dX6_isAheadOf_20 : decode cX6_isAheadOf 20 = .ok (.iload_n 2, 1) := by decide +kernel
theorem dX6_isAheadOf_21 : decode cX6_isAheadOf 21 = .ok (.iload_n 3, 1) := by decide +kernel
theorem dX6_isAheadOf_22 : decode cX6_isAheadOf 22 = .ok (.if_icmp .lt 19, 3) := by decide +kernel
theorem dX6_isAheadOf_25 : decode cX6_isAheadOf 25 = .ok (.iload_n 2, 1) := by decide +kernel
theorem dX6_isAheadOf_26 : decode cX6_isAheadOf 26 = .ok (.iload_n 3, 1) := by decide +kernel
theorem dX6_isAheadOf_27 : decode cX6_isAheadOf 27 = .ok (.if_icmp .ne 18, 3) := by decide +kernel
theorem dX6_isAheadOf_30 : decode cX6_isAheadOf 30 = .ok (.aload_n 0, 1) := by decide +kernel
theorem dX6_isAheadOf_31 : decode cX6_isAheadOf 31 = .ok (.getfield 15, 3) := by decide +kernel
theorem dX6_isAheadOf_34 : decode cX6_isAheadOf 34 = .ok (.aload_n 1, 1) := by decide +kernel
theorem dX6_isAheadOf_35 : decode cX6_isAheadOf 35 = .ok (.getfield 15, 3) := by decide +kernel
theorem dX6_isAheadOf_38 : decode cX6_isAheadOf 38 = .ok (.if_icmp .le 7, 3) := by decide +kernel
theorem dX6_isAheadOf_41 : decode cX6_isAheadOf 41 = .ok (.iconst 1, 1) := by decide +kernel
theorem dX6_isAheadOf_42 : decode cX6_isAheadOf 42 = .ok (.goto 4, 3) := by decide +kernel
theorem dX6_isAheadOf_45 : decode cX6_isAheadOf 45 = .ok (.iconst 0, 1) := by decide +kernel
theorem dX6_isAheadOf_46 : decode cX6_isAheadOf 46 = .ok (.ireturn, 1) := by decide +kernel
theorem dX6_number_0 : decode cX6_number 0 = .ok (.iload_n 1, 1) := by decide +kernel
theorem dX6_number_1 : decode cX6_number 1 = .ok (.tableswitch 86 0 6 #[43, 48, 53, 58, 63, 68, 81], 43) := by decide +kernel
theorem dX6_number_44 : decode cX6_number 44 = .ok (.aload_n 0, 1) := by decide +kernel
theorem dX6_number_45 : decode cX6_number 45 = .ok (.getfield 9, 3) := by decide +kernel
theorem dX6_number_48 : decode cX6_number 48 = .ok (.ireturn, 1) := by decide +kernel
theorem dX6_number_49 : decode cX6_number 49 = .ok (.aload_n 0, 1) := by decide +kernel
theorem dX6_number_50 : decode cX6_number 50 = .ok (.getfield 15, 3) := by decide +kernel
theorem dX6_number_53 : decode cX6_number 53 = .ok (.ireturn, 1) := by decide +kernel
theorem dX6_number_54 : decode cX6_number 54 = .ok (.aload_n 0, 1) := by decide +kernel
theorem dX6_number_55 : decode cX6_number 55 = .ok (.getfield 18, 3) := by decide +kernel
theorem dX6_number_58 : decode cX6_number 58 = .ok (.ireturn, 1) := by decide +kernel
theorem dX6_number_59 : decode cX6_number 59 = .ok (.aload_n 0, 1) := by decide +kernel
theorem dX6_number_60 : decode cX6_number 60 = .ok (.getfield 21, 3) := by decide +kernel
theorem dX6_number_63 : decode cX6_number 63 = .ok (.ireturn, 1) := by decide +kernel
theorem dX6_number_64 : decode cX6_number 64 = .ok (.aload_n 0, 1) := by decide +kernel
theorem dX6_number_65 : decode cX6_number 65 = .ok (.getfield 24, 3) := by decide +kernel
theorem dX6_number_68 : decode cX6_number 68 = .ok (.ireturn, 1) := by decide +kernel
theorem dX6_number_69 : decode cX6_number 69 = .ok (.aload_n 0, 1) := by decide +kernel
theorem dX6_number_70 : decode cX6_number 70 = .ok (.getfield 27, 3) := by decide +kernel
theorem dX6_number_73 : decode cX6_number 73 = .ok (.ifCond .eq 7, 3) := by decide +kernel
theorem dX6_number_76 : decode cX6_number 76 = .ok (.iconst 1, 1) := by decide +kernel
theorem dX6_number_77 : decode cX6_number 77 = .ok (.goto 4, 3) := by decide +kernel
theorem dX6_number_80 : decode cX6_number 80 = .ok (.iconst 0, 1) := by decide +kernel
theorem dX6_number_81 : decode cX6_number 81 = .ok (.ireturn, 1) := by decide +kernel
theorem dX6_number_82 : decode cX6_number 82 = .ok (.aload_n 0, 1) := by decide +kernel
theorem dX6_number_83 : decode cX6_number 83 = .ok (.getfield 31, 3) := by decide +kernel
theorem dX6_number_86 : decode cX6_number 86 = .ok (.ireturn, 1) := by decide +kernel
theorem dX6_number_87 : decode cX6_number 87 = .ok (.sipush (-10002), 3) := by decide +kernel
theorem dX6_number_90 : decode cX6_number 90 = .ok (.ireturn, 1) := by decide +kernel
theorem dX6_write_0 : decode cX6_write 0 = .ok (.aload_n 1, 1) := by decide +kernel
theorem dX6_write_1 : decode cX6_write 1 = .ok (.bipush 33, 2) := by decide +kernel
theorem dX6_write_3 : decode cX6_write 3 = .ok (.invokevirtual 40, 3) := by decide +kernel
theorem dX6_write_6 : decode cX6_write 6 = .ok (.aload_n 0, 1) := by decide +kernel
theorem dX6_write_7 : decode cX6_write 7 = .ok (.getfield 9, 3) := by decide +kernel
theorem dX6_write_10 : decode cX6_write 10 = .ok (.invokevirtual 46, 3) := by decide +kernel
theorem dX6_write_13 : decode cX6_write 13 = .ok (.bipush 94, 2) := by decide +kernel
theorem dX6_write_15 : decode cX6_write 15 = .ok (.invokevirtual 40, 3) := by decide +kernel
theorem dX6_write_18 : decode cX6_write 18 = .ok (.aload_n 0, 1) := by decide +kernel
theorem dX6_write_19 : decode cX6_write 19 = .ok (.getfield 15, 3) := by decide +kernel
theorem dX6_write_22 : decode cX6_write 22 = .ok (.invokevirtual 46, 3) := by decide +kernel
theorem dX6_write_25 : decode cX6_write 25 = .ok (.pop, 1) := by decide +kernel
theorem dX6_write_26 : decode cX6_write 26 = .ok (.aload_n 1, 1) := by decide +kernel
theorem dX6_write_27 : decode cX6_write 27 = .ok (.bipush 42, 2) := by decide +kernel
theorem dX6_write_29 : decode cX6_write 29 = .ok (.invokevirtual 40, 3) := by decide +kernel
theorem dX6_write_32 : decode cX6_write 32 = .ok (.aload_n 0, 1) := by decide +kernel
theorem dX6_write_33 : decode cX6_write 33 = .ok (.getfield 24, 3) := by decide +kernel
theorem dX6_write_36 : decode cX6_write 36 = .ok (.invokevirtual 46, 3) := by decide +kernel
theorem dX6_write_39 : decode cX6_write 39 = .ok (.bipush 47, 2) := by decide +kernel
theorem dX6_write_41 : decode cX6_write 41 = .ok (.invokevirtual 40, 3) := by decide +kernel
theorem dX6_write_44 : decode cX6_write 44 = .ok (.aload_n 0, 1) := by decide +kernel
theorem dX6_write_45 : decode cX6_write 45 = .ok (.getfield 18, 3) := by decide +kernel
theorem dX6_write_48 : decode cX6_write 48 = .ok (.invokevirtual 46, 3) := by decide +kernel
theorem dX6_write_51 : decode cX6_write 51 = .ok (.pop, 1) := by decide +kernel
theorem dX6_write_52 : decode cX6_write 52 = .ok (.aload_n 1, 1) := by decide +kernel
theorem dX6_write_53 : decode cX6_write 53 = .ok (.aload_n 0, 1) := by decide +kernel
theorem dX6_write_54 : decode cX6_write 54 = .ok (.invokevirtual 49, 3) := by decide +kernel
theorem dX6_write_57 : decode cX6_write 57 = .ok (.invokevirtual 40, 3) := by decide +kernel
theorem dX6_write_60 : decode cX6_write 60 = .ok (.pop, 1) := by decide +kernel
theorem dX6_write_61 : decode cX6_write 61 = .ok (.return_, 1) := by decide +kernel
theorem dX6_stateLetter_0 : decode cX6_stateLetter 0 = .ok (.aload_n 0, 1) := by decide +kernel
theorem dX6_stateLetter_1 : decode cX6_stateLetter 1 = .ok (.getfield 21, 3) := by decide +kernel
theorem dX6_stateLetter_4 : decode cX6_stateLetter 4 = .ok (.tableswitch 37 0 2 #[28, 31, 34], 28) := by decide +kernel
theorem dX6_stateLetter_32 : decode cX6_stateLetter 32 = .ok (.bipush 119, 2) := by decide +kernel
theorem dX6_stateLetter_34 : decode cX6_stateLetter 34 = .ok (.ireturn, 1) := by decide +kernel
theorem dX6_stateLetter_35 : decode cX6_stateLetter 35 = .ok (.bipush 107, 2) := by decide +kernel
theorem dX6_stateLetter_37 : decode cX6_stateLetter 37 = .ok (.ireturn, 1) := by decide +kernel
theorem dX6_stateLetter_38 : decode cX6_stateLetter 38 = .ok (.bipush 102, 2) := by decide +kernel
theorem dX6_stateLetter_40 : decode cX6_stateLetter 40 = .ok (.ireturn, 1) := by decide +kernel
theorem dX6_stateLetter_41 : decode cX6_stateLetter 41 = .ok (.bipush 120, 2) := by decide +kernel
theorem dX6_stateLetter_43 : decode cX6_stateLetter 43 = .ok (.ireturn, 1) := by decide +kernel
theorem dX7_init_0 : decode cX7_init 0 = .ok (.aload_n 0, 1) := by decide +kernel
theorem dX7_init_1 : decode cX7_init 1 = .ok (.invokespecial 3, 3) := by decide +kernel
theorem dX7_init_4 : decode cX7_init 4 = .ok (.aload_n 0, 1) := by decide +kernel
theorem dX7_init_5 : decode cX7_init 5 = .ok (.iconst 0, 1) := by decide +kernel
theorem dX7_init_6 : decode cX7_init 6 = .ok (.putfield 9, 3) := by decide +kernel
theorem dX7_init_9 : decode cX7_init 9 = .ok (.aload_n 0, 1) := by decide +kernel
theorem dX7_init_10 : decode cX7_init 10 = .ok (.bipush 8, 2) := by decide +kernel
theorem dX7_init_12 : decode cX7_init 12 = .ok (.anewarray 15, 3) := by decide +kernel
theorem dX7_init_15 : decode cX7_init 15 = .ok (.putfield 17, 3) := by decide +kernel
theorem dX7_init_18 : decode cX7_init 18 = .ok (.iconst 0, 1) := by decide +kernel
theorem dX7_init_19 : decode cX7_init 19 = .ok (.istore_n 1, 1) := by decide +kernel
theorem dX7_init_20 : decode cX7_init 20 = .ok (.iload_n 1, 1) := by decide +kernel
theorem dX7_init_21 : decode cX7_init 21 = .ok (.aload_n 0, 1) := by decide +kernel
theorem dX7_init_22 : decode cX7_init 22 = .ok (.getfield 17, 3) := by decide +kernel
theorem dX7_init_25 : decode cX7_init 25 = .ok (.arraylength, 1) := by decide +kernel
theorem dX7_init_26 : decode cX7_init 26 = .ok (.if_icmp .ge 22, 3) := by decide +kernel
theorem dX7_init_29 : decode cX7_init 29 = .ok (.aload_n 0, 1) := by decide +kernel
theorem dX7_init_30 : decode cX7_init 30 = .ok (.getfield 17, 3) := by decide +kernel
theorem dX7_init_33 : decode cX7_init 33 = .ok (.iload_n 1, 1) := by decide +kernel
theorem dX7_init_34 : decode cX7_init 34 = .ok (.new 15, 3) := by decide +kernel
theorem dX7_init_37 : decode cX7_init 37 = .ok (.dup, 1) := by decide +kernel
theorem dX7_init_38 : decode cX7_init 38 = .ok (.invokespecial 21, 3) := by decide +kernel
theorem dX7_init_41 : decode cX7_init 41 = .ok (.aastore, 1) := by decide +kernel
theorem dX7_init_42 : decode cX7_init 42 = .ok (.iinc 1 1, 3) := by decide +kernel
theorem dX7_init_45 : decode cX7_init 45 = .ok (.goto (-25), 3) := by decide +kernel
theorem dX7_init_48 : decode cX7_init 48 = .ok (.return_, 1) := by decide +kernel
theorem dX7_copyFrom_0 : decode cX7_copyFrom 0 = .ok (.aload_n 0, 1) := by decide +kernel
theorem dX7_copyFrom_1 : decode cX7_copyFrom 1 = .ok (.aload_n 1, 1) := by decide +kernel
theorem dX7_copyFrom_2 : decode cX7_copyFrom 2 = .ok (.getfield 9, 3) := by decide +kernel
theorem dX7_copyFrom_5 : decode cX7_copyFrom 5 = .ok (.putfield 9, 3) := by decide +kernel
theorem dX7_copyFrom_8 : decode cX7_copyFrom 8 = .ok (.iconst 0, 1) := by decide +kernel
theorem dX7_copyFrom_9 : decode cX7_copyFrom 9 = .ok (.istore_n 2, 1) := by decide +kernel
theorem dX7_copyFrom_10 : decode cX7_copyFrom 10 = .ok (.iload_n 2, 1) := by decide +kernel
theorem dX7_copyFrom_11 : decode cX7_copyFrom 11 = .ok (.aload_n 0, 1) := by decide +kernel
theorem dX7_copyFrom_12 : decode cX7_copyFrom 12 = .ok (.getfield 9, 3) := by decide +kernel
theorem dX7_copyFrom_15 : decode cX7_copyFrom 15 = .ok (.if_icmp .ge 37, 3) := by decide +kernel
theorem dX7_copyFrom_18 : decode cX7_copyFrom 18 = .ok (.aload_n 1, 1) := by decide +kernel
theorem dX7_copyFrom_19 : decode cX7_copyFrom 19 = .ok (.iload_n 2, 1) := by decide +kernel
theorem dX7_copyFrom_20 : decode cX7_copyFrom 20 = .ok (.invokevirtual 22, 3) := by decide +kernel
theorem dX7_copyFrom_23 : decode cX7_copyFrom 23 = .ok (.astore_n 3, 1) := by decide +kernel
theorem dX7_copyFrom_24 : decode cX7_copyFrom 24 = .ok (.aload_n 0, 1) := by decide +kernel
theorem dX7_copyFrom_25 : decode cX7_copyFrom 25 = .ok (.iload_n 2, 1) := by decide +kernel
theorem dX7_copyFrom_26 : decode cX7_copyFrom 26 = .ok (.invokevirtual 22, 3) := by decide +kernel
theorem dX7_copyFrom_29 : decode cX7_copyFrom 29 = .ok (.astore 4, 2) := by decide +kernel
theorem dX7_copyFrom_31 : decode cX7_copyFrom 31 = .ok (.aload_n 3, 1) := by decide +kernel
theorem dX7_copyFrom_32 : decode cX7_copyFrom 32 = .ok (.ifnull 14, 3) := by decide +kernel
theorem dX7_copyFrom_35 : decode cX7_copyFrom 35 = .ok (.aload 4, 2) := by decide +kernel
theorem dX7_copyFrom_37 : decode cX7_copyFrom 37 = .ok (.ifnull 9, 3) := by decide +kernel
theorem dX7_copyFrom_40 : decode cX7_copyFrom 40 = .ok (.aload 4, 2) := by decide +kernel
theorem dX7_copyFrom_42 : decode cX7_copyFrom 42 = .ok (.aload_n 3, 1) := by decide +kernel
theorem dX7_copyFrom_43 : decode cX7_copyFrom 43 = .ok (.invokevirtual 26, 3) := by decide +kernel
theorem dX7_copyFrom_46 : decode cX7_copyFrom 46 = .ok (.iinc 2 1, 3) := by decide +kernel
theorem dX7_copyFrom_49 : decode cX7_copyFrom 49 = .ok (.goto (-39), 3) := by decide +kernel
theorem dX7_copyFrom_52 : decode cX7_copyFrom 52 = .ok (.return_, 1) := by decide +kernel
theorem dX7_find_0 : decode cX7_find 0 = .ok (.iload_n 1, 1) := by decide +kernel
theorem dX7_find_1 : decode cX7_find 1 = .ok (.ifCond .lt 29, 3) := by decide +kernel
theorem dX7_find_4 : decode cX7_find 4 = .ok (.iload_n 1, 1) := by decide +kernel
theorem dX7_find_5 : decode cX7_find 5 = .ok (.aload_n 0, 1) := by decide +kernel
theorem dX7_find_6 : decode cX7_find 6 = .ok (.getfield 9, 3) := by decide +kernel
theorem dX7_find_9 : decode cX7_find 9 = .ok (.if_icmp .ge 21, 3) := by decide +kernel
theorem dX7_find_12 : decode cX7_find 12 = .ok (.iload_n 1, 1) := by decide +kernel
theorem dX7_find_13 : decode cX7_find 13 = .ok (.aload_n 0, 1) := by decide +kernel
theorem dX7_find_14 : decode cX7_find 14 = .ok (.getfield 17, 3) := by decide +kernel
theorem dX7_find_17 : decode cX7_find 17 = .ok (.arraylength, 1) := by decide +kernel
theorem dX7_find_18 : decode cX7_find 18 = .ok (.if_icmp .ge 12, 3) := by decide +kernel
theorem dX7_find_21 : decode cX7_find 21 = .ok (.aload_n 0, 1) := by decide +kernel
theorem dX7_find_22 : decode cX7_find 22 = .ok (.getfield 17, 3) := by decide +kernel
theorem dX7_find_25 : decode cX7_find 25 = .ok (.iload_n 1, 1) := by decide +kernel
theorem dX7_find_26 : decode cX7_find 26 = .ok (.aaload, 1) := by decide +kernel
theorem dX7_find_27 : decode cX7_find 27 = .ok (.goto 4, 3) := by decide +kernel
theorem dX7_find_30 : decode cX7_find 30 = .ok (.aconst_null, 1) := by decide +kernel
theorem dX7_find_31 : decode cX7_find 31 = .ok (.areturn, 1) := by decide +kernel
theorem dX7_addPot_0 : decode cX7_addPot 0 = .ok (.iconst 1, 1) := by decide +kernel
theorem dX7_addPot_1 : decode cX7_addPot 1 = .ok (.iload_n 1, 1) := by decide +kernel
theorem dX7_addPot_2 : decode cX7_addPot 2 = .ok (.bipush 60, 2) := by decide +kernel
theorem dX7_addPot_4 : decode cX7_addPot 4 = .ok (.invokestatic 30, 3) := by decide +kernel
theorem dX7_addPot_7 : decode cX7_addPot 7 = .ok (.ifCond .eq 25, 3) := by decide +kernel
theorem dX7_addPot_10 : decode cX7_addPot 10 = .ok (.bipush 100, 2) := by decide +kernel
theorem dX7_addPot_12 : decode cX7_addPot 12 = .ok (.iload_n 2, 1) := by decide +kernel
theorem dX7_addPot_13 : decode cX7_addPot 13 = .ok (.sipush 1200, 3) := by decide +kernel
theorem dX7_addPot_16 : decode cX7_addPot 16 = .ok (.invokestatic 30, 3) := by decide +kernel
theorem dX7_addPot_19 : decode cX7_addPot 19 = .ok (.ifCond .eq 13, 3) := by decide +kernel
theorem dX7_addPot_22 : decode cX7_addPot 22 = .ok (.iconst 1, 1) := by decide +kernel
theorem dX7_addPot_23 : decode cX7_addPot 23 = .ok (.iload_n 3, 1) := by decide +kernel
theorem dX7_addPot_24 : decode cX7_addPot 24 = .ok (.bipush 99, 2) := by decide +kernel
theorem dX7_addPot_26 : decode cX7_addPot 26 = .ok (.invokestatic 30, 3) := by decide +kernel
theorem dX7_addPot_29 : decode cX7_addPot 29 = .ok (.ifCond .ne 7, 3) := by decide +kernel
theorem dX7_addPot_32 : decode cX7_addPot 32 = .ok (.sipush (-10002), 3) := by decide +kernel
theorem dX7_addPot_35 : decode cX7_addPot 35 = .ok (.ireturn, 1) := by decide +kernel
theorem dX7_addPot_36 : decode cX7_addPot 36 = .ok (.aload_n 0, 1) := by decide +kernel
theorem dX7_addPot_37 : decode cX7_addPot 37 = .ok (.getfield 9, 3) := by decide +kernel
theorem dX7_addPot_40 : decode cX7_addPot 40 = .ok (.bipush 8, 2) := by decide +kernel
theorem dX7_addPot_42 : decode cX7_addPot 42 = .ok (.if_icmp .lt 14, 3) := by decide +kernel
theorem dX7_addPot_45 : decode cX7_addPot 45 = .ok (.aload 4, 2) := by decide +kernel
theorem dX7_addPot_47 : decode cX7_addPot 47 = .ok (.iconst 1, 1) := by decide +kernel
theorem dX7_addPot_48 : decode cX7_addPot 48 = .ok (.aload_n 0, 1) := by decide +kernel
theorem dX7_addPot_49 : decode cX7_addPot 49 = .ok (.getfield 9, 3) := by decide +kernel
theorem dX7_addPot_52 : decode cX7_addPot 52 = .ok (.invokevirtual 34, 3) := by decide +kernel
theorem dX7_addPot_55 : decode cX7_addPot 55 = .ok (.ireturn, 1) := by decide +kernel
theorem dX7_addPot_56 : decode cX7_addPot 56 = .ok (.aload_n 0, 1) := by decide +kernel
theorem dX7_addPot_57 : decode cX7_addPot 57 = .ok (.getfield 9, 3) := by decide +kernel
theorem dX7_addPot_60 : decode cX7_addPot 60 = .ok (.istore 5, 2) := by decide +kernel
theorem dX7_addPot_62 : decode cX7_addPot 62 = .ok (.aload_n 0, 1) := by decide +kernel
theorem dX7_addPot_63 : decode cX7_addPot 63 = .ok (.dup, 1) := by decide +kernel
theorem dX7_addPot_64 : decode cX7_addPot 64 = .ok (.getfield 9, 3) := by decide +kernel
theorem dX7_addPot_67 : decode cX7_addPot 67 = .ok (.iconst 1, 1) := by decide +kernel
theorem dX7_addPot_68 : decode cX7_addPot 68 = .ok (.iadd, 1) := by decide +kernel
theorem dX7_addPot_69 : decode cX7_addPot 69 = .ok (.putfield 9, 3) := by decide +kernel
theorem dX7_addPot_72 : decode cX7_addPot 72 = .ok (.aload_n 0, 1) := by decide +kernel
theorem dX7_addPot_73 : decode cX7_addPot 73 = .ok (.iload 5, 2) := by decide +kernel
theorem dX7_addPot_75 : decode cX7_addPot 75 = .ok (.invokevirtual 22, 3) := by decide +kernel
theorem dX7_addPot_78 : decode cX7_addPot 78 = .ok (.astore 6, 2) := by decide +kernel
theorem dX7_addPot_80 : decode cX7_addPot 80 = .ok (.aload 6, 2) := by decide +kernel
theorem dX7_addPot_82 : decode cX7_addPot 82 = .ok (.ifnull 11, 3) := by decide +kernel
theorem dX7_addPot_85 : decode cX7_addPot 85 = .ok (.aload 6, 2) := by decide +kernel
theorem dX7_addPot_87 : decode cX7_addPot 87 = .ok (.iload_n 1, 1) := by decide +kernel
theorem dX7_addPot_88 : decode cX7_addPot 88 = .ok (.iload_n 2, 1) := by decide +kernel
theorem dX7_addPot_89 : decode cX7_addPot 89 = .ok (.iload_n 3, 1) := by decide +kernel
theorem dX7_addPot_90 : decode cX7_addPot 90 = .ok (.invokevirtual 40, 3) := by decide +kernel
theorem dX7_addPot_93 : decode cX7_addPot 93 = .ok (.iload 5, 2) := by decide +kernel
theorem dX7_addPot_95 : decode cX7_addPot 95 = .ok (.ireturn, 1) := by decide +kernel
theorem dX7_bringIn_0 : decode cX7_bringIn 0 = .ok (.aload_n 0, 1) := by decide +kernel
theorem dX7_bringIn_1 : decode cX7_bringIn 1 = .ok (.iload_n 1, 1) := by decide +kernel
theorem dX7_bringIn_2 : decode cX7_bringIn 2 = .ok (.invokevirtual 22, 3) := by decide +kernel
theorem dX7_bringIn_5 : decode cX7_bringIn 5 = .ok (.astore 4, 2) := by decide +kernel
theorem dX7_bringIn_7 : decode cX7_bringIn 7 = .ok (.aload 4, 2) := by decide +kernel
theorem dX7_bringIn_9 : decode cX7_bringIn 9 = .ok (.ifnonnull 7, 3) := by decide +kernel
theorem dX7_bringIn_12 : decode cX7_bringIn 12 = .ok (.sipush (-10001), 3) := by decide +kernel
theorem dX7_bringIn_15 : decode cX7_bringIn 15 = .ok (.ireturn, 1) := by decide +kernel
theorem dX7_bringIn_16 : decode cX7_bringIn 16 = .ok (.aload 4, 2) := by decide +kernel
theorem dX7_bringIn_18 : decode cX7_bringIn 18 = .ok (.getfield 44, 3) := by decide +kernel
theorem dX7_bringIn_21 : decode cX7_bringIn 21 = .ok (.ifCond .eq 14, 3) := by decide +kernel
theorem dX7_bringIn_24 : decode cX7_bringIn 24 = .ok (.aload_n 3, 1) := by decide +kernel
theorem dX7_bringIn_25 : decode cX7_bringIn 25 = .ok (.iconst 2, 1) := by decide +kernel
theorem dX7_bringIn_26 : decode cX7_bringIn 26 = .ok (.aload 4, 2) := by decide +kernel
theorem dX7_bringIn_28 : decode cX7_bringIn 28 = .ok (.getfield 44, 3) := by decide +kernel
theorem dX7_bringIn_31 : decode cX7_bringIn 31 = .ok (.invokevirtual 34, 3) := by decide +kernel
theorem dX7_bringIn_34 : decode cX7_bringIn 34 = .ok (.ireturn, 1) := by decide +kernel
theorem dX7_bringIn_35 : decode cX7_bringIn 35 = .ok (.iload_n 2, 1) := by decide +kernel
theorem dX7_bringIn_36 : decode cX7_bringIn 36 = .ok (.bipush 60, 2) := by decide +kernel
theorem dX7_bringIn_38 : decode cX7_bringIn 38 = .ok (.if_icmp .le 10, 3) := by decide +kernel
theorem dX7_bringIn_41 : decode cX7_bringIn 41 = .ok (.aload_n 3, 1) := by decide +kernel
theorem dX7_bringIn_42 : decode cX7_bringIn 42 = .ok (.iconst 4, 1) := by decide +kernel
theorem dX7_bringIn_43 : decode cX7_bringIn 43 = .ok (.iload_n 2, 1) := by decide +kernel
theorem dX7_bringIn_44 : decode cX7_bringIn 44 = .ok (.invokevirtual 34, 3) := by decide +kernel
theorem dX7_bringIn_47 : decode cX7_bringIn 47 = .ok (.ireturn, 1) := by decide +kernel
theorem dX7_bringIn_48 : decode cX7_bringIn 48 = .ok (.aload_n 0, 1) := by decide +kernel
theorem dX7_bringIn_49 : decode cX7_bringIn 49 = .ok (.invokevirtual 47, 3) := by decide +kernel
theorem dX7_bringIn_52 : decode cX7_bringIn 52 = .ok (.istore 5, 2) := by decide +kernel
theorem dX7_bringIn_54 : decode cX7_bringIn 54 = .ok (.iload 5, 2) := by decide +kernel
theorem dX7_bringIn_56 : decode cX7_bringIn 56 = .ok (.iconst 4, 1) := by decide +kernel
theorem dX7_bringIn_57 : decode cX7_bringIn 57 = .ok (.if_icmp .lt 11, 3) := by decide +kernel
theorem dX7_bringIn_60 : decode cX7_bringIn 60 = .ok (.aload_n 3, 1) := by decide +kernel
theorem dX7_bringIn_61 : decode cX7_bringIn 61 = .ok (.iconst 1, 1) := by decide +kernel
theorem dX7_bringIn_62 : decode cX7_bringIn 62 = .ok (.iload 5, 2) := by decide +kernel
theorem dX7_bringIn_64 : decode cX7_bringIn 64 = .ok (.invokevirtual 34, 3) := by decide +kernel
theorem dX7_bringIn_67 : decode cX7_bringIn 67 = .ok (.ireturn, 1) := by decide +kernel
theorem dX7_bringIn_68 : decode cX7_bringIn 68 = .ok (.aload 4, 2) := by decide +kernel
theorem dX7_bringIn_70 : decode cX7_bringIn 70 = .ok (.iconst 1, 1) := by decide +kernel
theorem dX7_bringIn_71 : decode cX7_bringIn 71 = .ok (.putfield 44, 3) := by decide +kernel
theorem dX7_bringIn_74 : decode cX7_bringIn 74 = .ok (.aload 4, 2) := by decide +kernel
theorem dX7_bringIn_76 : decode cX7_bringIn 76 = .ok (.iconst 1, 1) := by decide +kernel
theorem dX7_bringIn_77 : decode cX7_bringIn 77 = .ok (.putfield 51, 3) := by decide +kernel
theorem dX7_bringIn_80 : decode cX7_bringIn 80 = .ok (.iload 5, 2) := by decide +kernel
theorem dX7_bringIn_82 : decode cX7_bringIn 82 = .ok (.iconst 1, 1) := by decide +kernel
theorem dX7_bringIn_83 : decode cX7_bringIn 83 = .ok (.iadd, 1) := by decide +kernel
theorem dX7_bringIn_84 : decode cX7_bringIn 84 = .ok (.ireturn, 1) := by decide +kernel
theorem dX7_bringOut_0 : decode cX7_bringOut 0 = .ok (.aload_n 0, 1) := by decide +kernel
theorem dX7_bringOut_1 : decode cX7_bringOut 1 = .ok (.iload_n 1, 1) := by decide +kernel
theorem dX7_bringOut_2 : decode cX7_bringOut 2 = .ok (.invokevirtual 22, 3) := by decide +kernel
theorem dX7_bringOut_5 : decode cX7_bringOut 5 = .ok (.astore 4, 2) := by decide +kernel
theorem dX7_bringOut_7 : decode cX7_bringOut 7 = .ok (.aload 4, 2) := by decide +kernel
theorem dX7_bringOut_9 : decode cX7_bringOut 9 = .ok (.ifnonnull 7, 3) := by decide +kernel
theorem dX7_bringOut_12 : decode cX7_bringOut 12 = .ok (.sipush (-10001), 3) := by decide +kernel
theorem dX7_bringOut_15 : decode cX7_bringOut 15 = .ok (.ireturn, 1) := by decide +kernel
theorem dX7_bringOut_16 : decode cX7_bringOut 16 = .ok (.aload 4, 2) := by decide +kernel
theorem dX7_bringOut_18 : decode cX7_bringOut 18 = .ok (.getfield 51, 3) := by decide +kernel
theorem dX7_bringOut_21 : decode cX7_bringOut 21 = .ok (.ifCond .ne 14, 3) := by decide +kernel
theorem dX7_bringOut_24 : decode cX7_bringOut 24 = .ok (.aload_n 3, 1) := by decide +kernel
theorem dX7_bringOut_25 : decode cX7_bringOut 25 = .ok (.iconst 3, 1) := by decide +kernel
theorem dX7_bringOut_26 : decode cX7_bringOut 26 = .ok (.aload 4, 2) := by decide +kernel
theorem dX7_bringOut_28 : decode cX7_bringOut 28 = .ok (.getfield 44, 3) := by decide +kernel
theorem dX7_bringOut_31 : decode cX7_bringOut 31 = .ok (.invokevirtual 34, 3) := by decide +kernel
theorem dX7_bringOut_34 : decode cX7_bringOut 34 = .ok (.ireturn, 1) := by decide +kernel
theorem dX7_bringOut_35 : decode cX7_bringOut 35 = .ok (.iload_n 2, 1) := by decide +kernel
theorem dX7_bringOut_36 : decode cX7_bringOut 36 = .ok (.bipush 60, 2) := by decide +kernel
theorem dX7_bringOut_38 : decode cX7_bringOut 38 = .ok (.if_icmp .le 10, 3) := by decide +kernel
theorem dX7_bringOut_41 : decode cX7_bringOut 41 = .ok (.aload_n 3, 1) := by decide +kernel
theorem dX7_bringOut_42 : decode cX7_bringOut 42 = .ok (.iconst 4, 1) := by decide +kernel
theorem dX7_bringOut_43 : decode cX7_bringOut 43 = .ok (.iload_n 2, 1) := by decide +kernel
theorem dX7_bringOut_44 : decode cX7_bringOut 44 = .ok (.invokevirtual 34, 3) := by decide +kernel
theorem dX7_bringOut_47 : decode cX7_bringOut 47 = .ok (.ireturn, 1) := by decide +kernel
theorem dX7_bringOut_48 : decode cX7_bringOut 48 = .ok (.aload 4, 2) := by decide +kernel
theorem dX7_bringOut_50 : decode cX7_bringOut 50 = .ok (.iconst 0, 1) := by decide +kernel
theorem dX7_bringOut_51 : decode cX7_bringOut 51 = .ok (.putfield 51, 3) := by decide +kernel
theorem dX7_bringOut_54 : decode cX7_bringOut 54 = .ok (.aload 4, 2) := by decide +kernel
theorem dX7_bringOut_56 : decode cX7_bringOut 56 = .ok (.getfield 44, 3) := by decide +kernel
theorem dX7_bringOut_59 : decode cX7_bringOut 59 = .ok (.iconst 1, 1) := by decide +kernel
theorem dX7_bringOut_60 : decode cX7_bringOut 60 = .ok (.if_icmp .ne 9, 3) := by decide +kernel
theorem dX7_bringOut_63 : decode cX7_bringOut 63 = .ok (.aload 4, 2) := by decide +kernel
theorem dX7_bringOut_65 : decode cX7_bringOut 65 = .ok (.iconst 0, 1) := by decide +kernel
theorem dX7_bringOut_66 : decode cX7_bringOut 66 = .ok (.putfield 44, 3) := by decide +kernel
theorem dX7_bringOut_69 : decode cX7_bringOut 69 = .ok (.aload 4, 2) := by decide +kernel
theorem dX7_bringOut_71 : decode cX7_bringOut 71 = .ok (.getfield 44, 3) := by decide +kernel
theorem dX7_bringOut_74 : decode cX7_bringOut 74 = .ok (.ireturn, 1) := by decide +kernel
theorem dX7_passMinute_0 : decode cX7_passMinute 0 = .ok (.iconst 0, 1) := by decide +kernel
theorem dX7_passMinute_1 : decode cX7_passMinute 1 = .ok (.istore_n 3, 1) := by decide +kernel
theorem dX7_passMinute_2 : decode cX7_passMinute 2 = .ok (.iload_n 3, 1) := by decide +kernel
theorem dX7_passMinute_3 : decode cX7_passMinute 3 = .ok (.aload_n 0, 1) := by decide +kernel
theorem dX7_passMinute_4 : decode cX7_passMinute 4 = .ok (.getfield 9, 3) := by decide +kernel
theorem dX7_passMinute_7 : decode cX7_passMinute 7 = .ok (.if_icmp .ge 28, 3) := by decide +kernel
theorem dX7_passMinute_10 : decode cX7_passMinute 10 = .ok (.aload_n 0, 1) := by decide +kernel
theorem dX7_passMinute_11 : decode cX7_passMinute 11 = .ok (.iload_n 3, 1) := by decide +kernel
theorem dX7_passMinute_12 : decode cX7_passMinute 12 = .ok (.invokevirtual 22, 3) := by decide +kernel
theorem dX7_passMinute_15 : decode cX7_passMinute 15 = .ok (.astore 4, 2) := by decide +kernel
theorem dX7_passMinute_17 : decode cX7_passMinute 17 = .ok (.aload 4, 2) := by decide +kernel
theorem dX7_passMinute_19 : decode cX7_passMinute 19 = .ok (.ifnull 10, 3) := by decide +kernel
theorem dX7_passMinute_22 : decode cX7_passMinute 22 = .ok (.aload 4, 2) := by decide +kernel
theorem dX7_passMinute_24 : decode cX7_passMinute 24 = .ok (.iload_n 1, 1) := by decide +kernel
theorem dX7_passMinute_25 : decode cX7_passMinute 25 = .ok (.iload_n 2, 1) := by decide +kernel
theorem dX7_passMinute_26 : decode cX7_passMinute 26 = .ok (.invokevirtual 55, 3) := by decide +kernel
theorem dX7_passMinute_29 : decode cX7_passMinute 29 = .ok (.iinc 3 1, 3) := by decide +kernel
theorem dX7_passMinute_32 : decode cX7_passMinute 32 = .ok (.goto (-30), 3) := by decide +kernel
theorem dX7_passMinute_35 : decode cX7_passMinute 35 = .ok (.return_, 1) := by decide +kernel
theorem dX7_potAtPlace_0 : decode cX7_potAtPlace 0 = .ok (.iconst 0, 1) := by decide +kernel
theorem dX7_potAtPlace_1 : decode cX7_potAtPlace 1 = .ok (.istore_n 2, 1) := by decide +kernel
theorem dX7_potAtPlace_2 : decode cX7_potAtPlace 2 = .ok (.iload_n 2, 1) := by decide +kernel
theorem dX7_potAtPlace_3 : decode cX7_potAtPlace 3 = .ok (.aload_n 0, 1) := by decide +kernel
theorem dX7_potAtPlace_4 : decode cX7_potAtPlace 4 = .ok (.getfield 9, 3) := by decide +kernel
theorem dX7_potAtPlace_7 : decode cX7_potAtPlace 7 = .ok (.if_icmp .ge 20, 3) := by decide +kernel
theorem dX7_potAtPlace_10 : decode cX7_potAtPlace 10 = .ok (.aload_n 0, 1) := by decide +kernel
theorem dX7_potAtPlace_11 : decode cX7_potAtPlace 11 = .ok (.iload_n 2, 1) := by decide +kernel
theorem dX7_potAtPlace_12 : decode cX7_potAtPlace 12 = .ok (.invokevirtual 59, 3) := by decide +kernel
theorem dX7_potAtPlace_15 : decode cX7_potAtPlace 15 = .ok (.iload_n 1, 1) := by decide +kernel
theorem dX7_potAtPlace_16 : decode cX7_potAtPlace 16 = .ok (.if_icmp .ne 5, 3) := by decide +kernel
theorem dX7_potAtPlace_19 : decode cX7_potAtPlace 19 = .ok (.iload_n 2, 1) := by decide +kernel
theorem dX7_potAtPlace_20 : decode cX7_potAtPlace 20 = .ok (.ireturn, 1) := by decide +kernel
theorem dX7_potAtPlace_21 : decode cX7_potAtPlace 21 = .ok (.iinc 2 1, 3) := by decide +kernel
theorem dX7_potAtPlace_24 : decode cX7_potAtPlace 24 = .ok (.goto (-22), 3) := by decide +kernel
theorem dX7_potAtPlace_27 : decode cX7_potAtPlace 27 = .ok (.sipush (-10001), 3) := by decide +kernel
theorem dX7_potAtPlace_30 : decode cX7_potAtPlace 30 = .ok (.ireturn, 1) := by decide +kernel
theorem dX7_countAheadOf_0 : decode cX7_countAheadOf 0 = .ok (.aload_n 0, 1) := by decide +kernel
theorem dX7_countAheadOf_1 : decode cX7_countAheadOf 1 = .ok (.iload_n 1, 1) := by decide +kernel
theorem dX7_countAheadOf_2 : decode cX7_countAheadOf 2 = .ok (.invokevirtual 22, 3) := by decide +kernel
theorem dX7_countAheadOf_5 : decode cX7_countAheadOf 5 = .ok (.astore_n 2, 1) := by decide +kernel
theorem dX7_countAheadOf_6 : decode cX7_countAheadOf 6 = .ok (.iconst 0, 1) := by decide +kernel
theorem dX7_countAheadOf_7 : decode cX7_countAheadOf 7 = .ok (.istore_n 3, 1) := by decide +kernel
theorem dX7_countAheadOf_8 : decode cX7_countAheadOf 8 = .ok (.iconst 0, 1) := by decide +kernel
theorem dX7_countAheadOf_9 : decode cX7_countAheadOf 9 = .ok (.istore 4, 2) := by decide +kernel
theorem dX7_countAheadOf_11 : decode cX7_countAheadOf 11 = .ok (.iload 4, 2) := by decide +kernel
theorem dX7_countAheadOf_13 : decode cX7_countAheadOf 13 = .ok (.aload_n 0, 1) := by decide +kernel
theorem dX7_countAheadOf_14 : decode cX7_countAheadOf 14 = .ok (.getfield 9, 3) := by decide +kernel
theorem dX7_countAheadOf_17 : decode cX7_countAheadOf 17 = .ok (.if_icmp .ge 59, 3) := by decide +kernel
theorem dX7_countAheadOf_20 : decode cX7_countAheadOf 20 = .ok (.aload_n 0, 1) := by decide +kernel
theorem dX7_countAheadOf_21 : decode cX7_countAheadOf 21 = .ok (.iload 4, 2) := by decide +kernel
theorem dX7_countAheadOf_23 : decode cX7_countAheadOf 23 = .ok (.invokevirtual 22, 3) := by decide +kernel
theorem dX7_countAheadOf_26 : decode cX7_countAheadOf 26 = .ok (.astore 5, 2) := by decide +kernel
theorem dX7_countAheadOf_28 : decode cX7_countAheadOf 28 = .ok (.aload_n 2, 1) := by decide +kernel
theorem dX7_countAheadOf_29 : decode cX7_countAheadOf 29 = .ok (.ifnull 41, 3) := by decide +kernel
theorem dX7_countAheadOf_32 : decode cX7_countAheadOf 32 = .ok (.aload 5, 2) := by decide +kernel
theorem dX7_countAheadOf_34 : decode cX7_countAheadOf 34 = .ok (.ifnull 36, 3) := by decide +kernel
theorem dX7_countAheadOf_37 : decode cX7_countAheadOf 37 = .ok (.iload 4, 2) := by decide +kernel
theorem dX7_countAheadOf_39 : decode cX7_countAheadOf 39 = .ok (.iload_n 1, 1) := by decide +kernel
theorem dX7_countAheadOf_40 : decode cX7_countAheadOf 40 = .ok (.if_icmp .eq 30, 3) := by decide +kernel
theorem dX7_countAheadOf_43 : decode cX7_countAheadOf 43 = .ok (.aload 5, 2) := by decide +kernel
theorem dX7_countAheadOf_45 : decode cX7_countAheadOf 45 = .ok (.aload_n 2, 1) := by decide +kernel
theorem dX7_countAheadOf_46 : decode cX7_countAheadOf 46 = .ok (.invokevirtual 63, 3) := by decide +kernel
theorem dX7_countAheadOf_49 : decode cX7_countAheadOf 49 = .ok (.ifCond .ne 18, 3) := by decide +kernel
theorem dX7_countAheadOf_52 : decode cX7_countAheadOf 52 = .ok (.aload_n 2, 1) := by decide +kernel
theorem dX7_countAheadOf_53 : decode cX7_countAheadOf 53 = .ok (.aload 5, 2) := by decide +kernel
theorem dX7_countAheadOf_55 : decode cX7_countAheadOf 55 = .ok (.invokevirtual 63, 3) := by decide +kernel
theorem dX7_countAheadOf_58 : decode cX7_countAheadOf 58 = .ok (.ifCond .ne 12, 3) := by decide +kernel
theorem dX7_countAheadOf_61 : decode cX7_countAheadOf 61 = .ok (.iload 4, 2) := by decide +kernel
theorem dX7_countAheadOf_63 : decode cX7_countAheadOf 63 = .ok (.iload_n 1, 1) := by decide +kernel
theorem dX7_countAheadOf_64 : decode cX7_countAheadOf 64 = .ok (.if_icmp .ge 6, 3) := by decide +kernel
theorem dX7_countAheadOf_67 : decode cX7_countAheadOf 67 = .ok (.iinc 3 1, 3) := by decide +kernel
theorem dX7_countAheadOf_70 : decode cX7_countAheadOf 70 = .ok (.iinc 4 1, 3) := by decide +kernel
theorem dX7_countAheadOf_73 : decode cX7_countAheadOf 73 = .ok (.goto (-62), 3) := by decide +kernel
theorem dX7_countAheadOf_76 : decode cX7_countAheadOf 76 = .ok (.iload_n 3, 1) := by decide +kernel
theorem dX7_countAheadOf_77 : decode cX7_countAheadOf 77 = .ok (.ireturn, 1) := by decide +kernel
theorem dX7_countOf_0 : decode cX7_countOf 0 = .ok (.iconst 0, 1) := by decide +kernel
theorem dX7_countOf_1 : decode cX7_countOf 1 = .ok (.istore_n 2, 1) := by decide +kernel
theorem dX7_countOf_2 : decode cX7_countOf 2 = .ok (.iconst 0, 1) := by decide +kernel
theorem dX7_countOf_3 : decode cX7_countOf 3 = .ok (.istore_n 3, 1) := by decide +kernel
theorem dX7_countOf_4 : decode cX7_countOf 4 = .ok (.iload_n 3, 1) := by decide +kernel
theorem dX7_countOf_5 : decode cX7_countOf 5 = .ok (.aload_n 0, 1) := by decide +kernel
theorem dX7_countOf_6 : decode cX7_countOf 6 = .ok (.getfield 9, 3) := by decide +kernel
theorem dX7_countOf_9 : decode cX7_countOf 9 = .ok (.if_icmp .ge 33, 3) := by decide +kernel
theorem dX7_countOf_12 : decode cX7_countOf 12 = .ok (.aload_n 0, 1) := by decide +kernel
theorem dX7_countOf_13 : decode cX7_countOf 13 = .ok (.iload_n 3, 1) := by decide +kernel
theorem dX7_countOf_14 : decode cX7_countOf 14 = .ok (.invokevirtual 22, 3) := by decide +kernel
theorem dX7_countOf_17 : decode cX7_countOf 17 = .ok (.astore 4, 2) := by decide +kernel
theorem dX7_countOf_19 : decode cX7_countOf 19 = .ok (.aload 4, 2) := by decide +kernel
theorem dX7_countOf_21 : decode cX7_countOf 21 = .ok (.ifnull 15, 3) := by decide +kernel
theorem dX7_countOf_24 : decode cX7_countOf 24 = .ok (.aload 4, 2) := by decide +kernel
theorem dX7_countOf_26 : decode cX7_countOf 26 = .ok (.getfield 44, 3) := by decide +kernel
theorem dX7_countOf_29 : decode cX7_countOf 29 = .ok (.iload_n 1, 1) := by decide +kernel
theorem dX7_countOf_30 : decode cX7_countOf 30 = .ok (.if_icmp .ne 6, 3) := by decide +kernel
theorem dX7_countOf_33 : decode cX7_countOf 33 = .ok (.iinc 2 1, 3) := by decide +kernel
theorem dX7_countOf_36 : decode cX7_countOf 36 = .ok (.iinc 3 1, 3) := by decide +kernel
theorem dX7_countOf_39 : decode cX7_countOf 39 = .ok (.goto (-35), 3) := by decide +kernel
theorem dX7_countOf_42 : decode cX7_countOf 42 = .ok (.iload_n 2, 1) := by decide +kernel
theorem dX7_countOf_43 : decode cX7_countOf 43 = .ok (.ireturn, 1) := by decide +kernel
theorem dX7_countWithin_0 : decode cX7_countWithin 0 = .ok (.iconst 0, 1) := by decide +kernel
theorem dX7_countWithin_1 : decode cX7_countWithin 1 = .ok (.istore_n 1, 1) := by decide +kernel
theorem dX7_countWithin_2 : decode cX7_countWithin 2 = .ok (.iconst 0, 1) := by decide +kernel
theorem dX7_countWithin_3 : decode cX7_countWithin 3 = .ok (.istore_n 2, 1) := by decide +kernel
theorem dX7_countWithin_4 : decode cX7_countWithin 4 = .ok (.iload_n 2, 1) := by decide +kernel
theorem dX7_countWithin_5 : decode cX7_countWithin 5 = .ok (.aload_n 0, 1) := by decide +kernel
theorem dX7_countWithin_6 : decode cX7_countWithin 6 = .ok (.getfield 9, 3) := by decide +kernel
theorem dX7_countWithin_9 : decode cX7_countWithin 9 = .ok (.if_icmp .ge 29, 3) := by decide +kernel
theorem dX7_countWithin_12 : decode cX7_countWithin 12 = .ok (.aload_n 0, 1) := by decide +kernel
theorem dX7_countWithin_13 : decode cX7_countWithin 13 = .ok (.iload_n 2, 1) := by decide +kernel
theorem dX7_countWithin_14 : decode cX7_countWithin 14 = .ok (.invokevirtual 22, 3) := by decide +kernel
theorem dX7_countWithin_17 : decode cX7_countWithin 17 = .ok (.astore_n 3, 1) := by decide +kernel
theorem dX7_countWithin_18 : decode cX7_countWithin 18 = .ok (.aload_n 3, 1) := by decide +kernel
theorem dX7_countWithin_19 : decode cX7_countWithin 19 = .ok (.ifnull 13, 3) := by decide +kernel
theorem dX7_countWithin_22 : decode cX7_countWithin 22 = .ok (.aload_n 3, 1) := by decide +kernel
theorem dX7_countWithin_23 : decode cX7_countWithin 23 = .ok (.getfield 51, 3) := by decide +kernel
theorem dX7_countWithin_26 : decode cX7_countWithin 26 = .ok (.ifCond .eq 6, 3) := by decide +kernel
theorem dX7_countWithin_29 : decode cX7_countWithin 29 = .ok (.iinc 1 1, 3) := by decide +kernel
theorem dX7_countWithin_32 : decode cX7_countWithin 32 = .ok (.iinc 2 1, 3) := by decide +kernel
theorem dX7_countWithin_35 : decode cX7_countWithin 35 = .ok (.goto (-31), 3) := by decide +kernel
theorem dX7_countWithin_38 : decode cX7_countWithin 38 = .ok (.iload_n 1, 1) := by decide +kernel
theorem dX7_countWithin_39 : decode cX7_countWithin 39 = .ok (.ireturn, 1) := by decide +kernel
theorem dX7_crackedSet_0 : decode cX7_crackedSet 0 = .ok (.iconst 0, 1) := by decide +kernel
theorem dX7_crackedSet_1 : decode cX7_crackedSet 1 = .ok (.istore_n 1, 1) := by decide +kernel
theorem dX7_crackedSet_2 : decode cX7_crackedSet 2 = .ok (.iconst 0, 1) := by decide +kernel
theorem dX7_crackedSet_3 : decode cX7_crackedSet 3 = .ok (.istore_n 2, 1) := by decide +kernel
theorem dX7_crackedSet_4 : decode cX7_crackedSet 4 = .ok (.iload_n 2, 1) := by decide +kernel
theorem dX7_crackedSet_5 : decode cX7_crackedSet 5 = .ok (.aload_n 0, 1) := by decide +kernel
theorem dX7_crackedSet_6 : decode cX7_crackedSet 6 = .ok (.getfield 9, 3) := by decide +kernel
theorem dX7_crackedSet_9 : decode cX7_crackedSet 9 = .ok (.if_icmp .ge 33, 3) := by decide +kernel
theorem dX7_crackedSet_12 : decode cX7_crackedSet 12 = .ok (.aload_n 0, 1) := by decide +kernel
theorem dX7_crackedSet_13 : decode cX7_crackedSet 13 = .ok (.iload_n 2, 1) := by decide +kernel
theorem dX7_crackedSet_14 : decode cX7_crackedSet 14 = .ok (.invokevirtual 22, 3) := by decide +kernel
theorem dX7_crackedSet_17 : decode cX7_crackedSet 17 = .ok (.astore_n 3, 1) := by decide +kernel
theorem dX7_crackedSet_18 : decode cX7_crackedSet 18 = .ok (.aload_n 3, 1) := by decide +kernel
theorem dX7_crackedSet_19 : decode cX7_crackedSet 19 = .ok (.ifnull 17, 3) := by decide +kernel
theorem dX7_crackedSet_22 : decode cX7_crackedSet 22 = .ok (.aload_n 3, 1) := by decide +kernel
theorem dX7_crackedSet_23 : decode cX7_crackedSet 23 = .ok (.getfield 44, 3) := by decide +kernel
theorem dX7_crackedSet_26 : decode cX7_crackedSet 26 = .ok (.iconst 3, 1) := by decide +kernel
theorem dX7_crackedSet_27 : decode cX7_crackedSet 27 = .ok (.if_icmp .ne 9, 3) := by decide +kernel
theorem dX7_crackedSet_30 : decode cX7_crackedSet 30 = .ok (.iload_n 1, 1) := by decide +kernel
theorem dX7_crackedSet_31 : decode cX7_crackedSet 31 = .ok (.iconst 1, 1) := by decide +kernel
theorem dX7_crackedSet_32 : decode cX7_crackedSet 32 = .ok (.iload_n 2, 1) := by decide +kernel
theorem dX7_crackedSet_33 : decode cX7_crackedSet 33 = .ok (.ishl, 1) := by decide +kernel
theorem dX7_crackedSet_34 : decode cX7_crackedSet 34 = .ok (.ior, 1) := by decide +kernel
theorem dX7_crackedSet_35 : decode cX7_crackedSet 35 = .ok (.istore_n 1, 1) := by decide +kernel
theorem dX7_crackedSet_36 : decode cX7_crackedSet 36 = .ok (.iinc 2 1, 3) := by decide +kernel
theorem dX7_crackedSet_39 : decode cX7_crackedSet 39 = .ok (.goto (-35), 3) := by decide +kernel
theorem dX7_crackedSet_42 : decode cX7_crackedSet 42 = .ok (.iload_n 1, 1) := by decide +kernel
theorem dX7_crackedSet_43 : decode cX7_crackedSet 43 = .ok (.ireturn, 1) := by decide +kernel
theorem dX7_isNoneSoakedTooLong_0 : decode cX7_isNoneSoakedTooLong 0 = .ok (.iconst 0, 1) := by decide +kernel
theorem dX7_isNoneSoakedTooLong_1 : decode cX7_isNoneSoakedTooLong 1 = .ok (.istore_n 1, 1) := by decide +kernel
theorem dX7_isNoneSoakedTooLong_2 : decode cX7_isNoneSoakedTooLong 2 = .ok (.iload_n 1, 1) := by decide +kernel
theorem dX7_isNoneSoakedTooLong_3 : decode cX7_isNoneSoakedTooLong 3 = .ok (.aload_n 0, 1) := by decide +kernel
theorem dX7_isNoneSoakedTooLong_4 : decode cX7_isNoneSoakedTooLong 4 = .ok (.getfield 9, 3) := by decide +kernel
theorem dX7_isNoneSoakedTooLong_7 : decode cX7_isNoneSoakedTooLong 7 = .ok (.if_icmp .ge 32, 3) := by decide +kernel
theorem dX7_isNoneSoakedTooLong_10 : decode cX7_isNoneSoakedTooLong 10 = .ok (.aload_n 0, 1) := by decide +kernel
theorem dX7_isNoneSoakedTooLong_11 : decode cX7_isNoneSoakedTooLong 11 = .ok (.iload_n 1, 1) := by decide +kernel
theorem dX7_isNoneSoakedTooLong_12 : decode cX7_isNoneSoakedTooLong 12 = .ok (.invokevirtual 22, 3) := by decide +kernel
theorem dX7_isNoneSoakedTooLong_15 : decode cX7_isNoneSoakedTooLong 15 = .ok (.astore_n 2, 1) := by decide +kernel
theorem dX7_isNoneSoakedTooLong_16 : decode cX7_isNoneSoakedTooLong 16 = .ok (.aload_n 2, 1) := by decide +kernel
theorem dX7_isNoneSoakedTooLong_17 : decode cX7_isNoneSoakedTooLong 17 = .ok (.ifnull 16, 3) := by decide +kernel
theorem dX7_isNoneSoakedTooLong_20 : decode cX7_isNoneSoakedTooLong 20 = .ok (.aload_n 2, 1) := by decide +kernel
theorem dX7_isNoneSoakedTooLong_21 : decode cX7_isNoneSoakedTooLong 21 = .ok (.getfield 67, 3) := by decide +kernel
theorem dX7_isNoneSoakedTooLong_24 : decode cX7_isNoneSoakedTooLong 24 = .ok (.aload_n 2, 1) := by decide +kernel
theorem dX7_isNoneSoakedTooLong_25 : decode cX7_isNoneSoakedTooLong 25 = .ok (.getfield 70, 3) := by decide +kernel
theorem dX7_isNoneSoakedTooLong_28 : decode cX7_isNoneSoakedTooLong 28 = .ok (.if_icmp .le 5, 3) := by decide +kernel
theorem dX7_isNoneSoakedTooLong_31 : decode cX7_isNoneSoakedTooLong 31 = .ok (.iconst 0, 1) := by decide +kernel
theorem dX7_isNoneSoakedTooLong_32 : decode cX7_isNoneSoakedTooLong 32 = .ok (.ireturn, 1) := by decide +kernel
theorem dX7_isNoneSoakedTooLong_33 : decode cX7_isNoneSoakedTooLong 33 = .ok (.iinc 1 1, 3) := by decide +kernel
theorem dX7_isNoneSoakedTooLong_36 : decode cX7_isNoneSoakedTooLong 36 = .ok (.goto (-34), 3) := by decide +kernel
theorem dX7_isNoneSoakedTooLong_39 : decode cX7_isNoneSoakedTooLong 39 = .ok (.iconst 1, 1) := by decide +kernel
theorem dX7_isNoneSoakedTooLong_40 : decode cX7_isNoneSoakedTooLong 40 = .ok (.ireturn, 1) := by decide +kernel
theorem dX8_init_0 : decode cX8_init 0 = .ok (.aload_n 0, 1) := by decide +kernel
theorem dX8_init_1 : decode cX8_init 1 = .ok (.invokespecial 3, 3) := by decide +kernel
theorem dX8_init_4 : decode cX8_init 4 = .ok (.aload_n 0, 1) := by decide +kernel
theorem dX8_init_5 : decode cX8_init 5 = .ok (.new 9, 3) := by decide +kernel
theorem dX8_init_8 : decode cX8_init 8 = .ok (.dup, 1) := by decide +kernel
theorem dX8_init_9 : decode cX8_init 9 = .ok (.invokespecial 11, 3) := by decide +kernel
theorem dX8_init_12 : decode cX8_init 12 = .ok (.putfield 12, 3) := by decide +kernel
theorem dX8_init_15 : decode cX8_init 15 = .ok (.aload_n 0, 1) := by decide +kernel
theorem dX8_init_16 : decode cX8_init 16 = .ok (.bipush 12, 2) := by decide +kernel
theorem dX8_init_18 : decode cX8_init 18 = .ok (.anewarray 18, 3) := by decide +kernel
theorem dX8_init_21 : decode cX8_init 21 = .ok (.putfield 20, 3) := by decide +kernel
theorem dX8_init_24 : decode cX8_init 24 = .ok (.iconst 0, 1) := by decide +kernel
theorem dX8_init_25 : decode cX8_init 25 = .ok (.istore_n 1, 1) := by decide +kernel
theorem dX8_init_26 : decode cX8_init 26 = .ok (.iload_n 1, 1) := by decide +kernel
theorem dX8_init_27 : decode cX8_init 27 = .ok (.aload_n 0, 1) := by decide +kernel
theorem dX8_init_28 : decode cX8_init 28 = .ok (.getfield 20, 3) := by decide +kernel
theorem dX8_init_31 : decode cX8_init 31 = .ok (.arraylength, 1) := by decide +kernel
theorem dX8_init_32 : decode cX8_init 32 = .ok (.if_icmp .ge 22, 3) := by decide +kernel
theorem dX8_init_35 : decode cX8_init 35 = .ok (.aload_n 0, 1) := by decide +kernel
theorem dX8_init_36 : decode cX8_init 36 = .ok (.getfield 20, 3) := by decide +kernel
theorem dX8_init_39 : decode cX8_init 39 = .ok (.iload_n 1, 1) := by decide +kernel
theorem dX8_init_40 : decode cX8_init 40 = .ok (.new 18, 3) := by decide +kernel
theorem dX8_init_43 : decode cX8_init 43 = .ok (.dup, 1) := by decide +kernel
theorem dX8_init_44 : decode cX8_init 44 = .ok (.invokespecial 24, 3) := by decide +kernel
theorem dX8_init_47 : decode cX8_init 47 = .ok (.aastore, 1) := by decide +kernel
theorem dX8_init_48 : decode cX8_init 48 = .ok (.iinc 1 1, 3) := by decide +kernel
theorem dX8_init_51 : decode cX8_init 51 = .ok (.goto (-25), 3) := by decide +kernel
theorem dX8_init_54 : decode cX8_init 54 = .ok (.return_, 1) := by decide +kernel
theorem dX8_textLength_0 : decode cX8_textLength 0 = .ok (.aload_n 0, 1) := by decide +kernel
theorem dX8_textLength_1 : decode cX8_textLength 1 = .ok (.getfield 12, 3) := by decide +kernel
theorem dX8_textLength_4 : decode cX8_textLength 4 = .ok (.invokevirtual 25, 3) := by decide +kernel
theorem dX8_textLength_7 : decode cX8_textLength 7 = .ok (.ireturn, 1) := by decide +kernel
theorem dX8_clearText_0 : decode cX8_clearText 0 = .ok (.aload_n 0, 1) := by decide +kernel
theorem dX8_clearText_1 : decode cX8_clearText 1 = .ok (.getfield 12, 3) := by decide +kernel
theorem dX8_clearText_4 : decode cX8_clearText 4 = .ok (.iconst 0, 1) := by decide +kernel
theorem dX8_clearText_5 : decode cX8_clearText 5 = .ok (.invokevirtual 29, 3) := by decide +kernel
theorem dX8_clearText_8 : decode cX8_clearText 8 = .ok (.return_, 1) := by decide +kernel
theorem dX8_addCode_0 : decode cX8_addCode 0 = .ok (.bipush 32, 2) := by decide +kernel
theorem dX8_addCode_2 : decode cX8_addCode 2 = .ok (.iload_n 1, 1) := by decide +kernel
theorem dX8_addCode_3 : decode cX8_addCode 3 = .ok (.bipush 126, 2) := by decide +kernel
theorem dX8_addCode_5 : decode cX8_addCode 5 = .ok (.invokestatic 33, 3) := by decide +kernel
theorem dX8_addCode_8 : decode cX8_addCode 8 = .ok (.ifCond .ne 7, 3) := by decide +kernel
theorem dX8_addCode_11 : decode cX8_addCode 11 = .ok (.sipush (-10002), 3) := by decide +kernel
theorem dX8_addCode_14 : decode cX8_addCode 14 = .ok (.ireturn, 1) := by decide +kernel
theorem dX8_addCode_15 : decode cX8_addCode 15 = .ok (.aload_n 0, 1) := by decide +kernel
theorem dX8_addCode_16 : decode cX8_addCode 16 = .ok (.getfield 12, 3) := by decide +kernel
theorem dX8_addCode_19 : decode cX8_addCode 19 = .ok (.invokevirtual 25, 3) := by decide +kernel
theorem dX8_addCode_22 : decode cX8_addCode 22 = .ok (.bipush 60, 2) := by decide +kernel
theorem dX8_addCode_24 : decode cX8_addCode 24 = .ok (.if_icmp .lt 7, 3) := by decide +kernel
theorem dX8_addCode_27 : decode cX8_addCode 27 = .ok (.sipush (-10003), 3) := by decide +kernel
theorem dX8_addCode_30 : decode cX8_addCode 30 = .ok (.ireturn, 1) := by decide +kernel
theorem dX8_addCode_31 : decode cX8_addCode 31 = .ok (.aload_n 0, 1) := by decide +kernel
theorem dX8_addCode_32 : decode cX8_addCode 32 = .ok (.getfield 12, 3) := by decide +kernel
theorem dX8_addCode_35 : decode cX8_addCode 35 = .ok (.iload_n 1, 1) := by decide +kernel
theorem dX8_addCode_36 : decode cX8_addCode 36 = .ok (.i2c, 1) := by decide +kernel
theorem dX8_addCode_37 : decode cX8_addCode 37 = .ok (.invokevirtual 37, 3) := by decide +kernel
theorem dX8_addCode_40 : decode cX8_addCode 40 = .ok (.pop, 1) := by decide +kernel
theorem dX8_addCode_41 : decode cX8_addCode 41 = .ok (.aload_n 0, 1) := by decide +kernel
theorem dX8_addCode_42 : decode cX8_addCode 42 = .ok (.getfield 12, 3) := by decide +kernel
theorem dX8_addCode_45 : decode cX8_addCode 45 = .ok (.invokevirtual 25, 3) := by decide +kernel
theorem dX8_addCode_48 : decode cX8_addCode 48 = .ok (.ireturn, 1) := by decide +kernel
theorem dX8_orderAt_0 : decode cX8_orderAt 0 = .ok (.iload_n 1, 1) := by decide +kernel
theorem dX8_orderAt_1 : decode cX8_orderAt 1 = .ok (.ifCond .lt 21, 3) := by decide +kernel
theorem dX8_orderAt_4 : decode cX8_orderAt 4 = .ok (.iload_n 1, 1) := by decide +kernel
theorem dX8_orderAt_5 : decode cX8_orderAt 5 = .ok (.aload_n 0, 1) := by decide +kernel
theorem dX8_orderAt_6 : decode cX8_orderAt 6 = .ok (.getfield 20, 3) := by decide +kernel
theorem dX8_orderAt_9 : decode cX8_orderAt 9 = .ok (.arraylength, 1) := by decide +kernel
theorem dX8_orderAt_10 : decode cX8_orderAt 10 = .ok (.if_icmp .ge 12, 3) := by decide +kernel
theorem dX8_orderAt_13 : decode cX8_orderAt 13 = .ok (.aload_n 0, 1) := by decide +kernel
theorem dX8_orderAt_14 : decode cX8_orderAt 14 = .ok (.getfield 20, 3) := by decide +kernel
theorem dX8_orderAt_17 : decode cX8_orderAt 17 = .ok (.iload_n 1, 1) := by decide +kernel
theorem dX8_orderAt_18 : decode cX8_orderAt 18 = .ok (.aaload, 1) := by decide +kernel
theorem dX8_orderAt_19 : decode cX8_orderAt 19 = .ok (.goto 4, 3) := by decide +kernel
theorem dX8_orderAt_22 : decode cX8_orderAt 22 = .ok (.aconst_null, 1) := by decide +kernel
theorem dX8_orderAt_23 : decode cX8_orderAt 23 = .ok (.areturn, 1) := by decide +kernel
theorem dX8_read_0 : decode cX8_read 0 = .ok (.iconst 0, 1) := by decide +kernel
theorem dX8_read_1 : decode cX8_read 1 = .ok (.istore_n 1, 1) := by decide +kernel
theorem dX8_read_2 : decode cX8_read 2 = .ok (.iconst 0, 1) := by decide +kernel
theorem dX8_read_3 : decode cX8_read 3 = .ok (.istore_n 2, 1) := by decide +kernel
theorem dX8_read_4 : decode cX8_read 4 = .ok (.iload_n 2, 1) := by decide +kernel
theorem dX8_read_5 : decode cX8_read 5 = .ok (.bipush 12, 2) := by decide +kernel
theorem dX8_read_7 : decode cX8_read 7 = .ok (.if_icmp .ge 68, 3) := by decide +kernel
theorem dX8_read_10 : decode cX8_read 10 = .ok (.aload_n 0, 1) := by decide +kernel
theorem dX8_read_11 : decode cX8_read 11 = .ok (.iload_n 1, 1) := by decide +kernel
theorem dX8_read_12 : decode cX8_read 12 = .ok (.aload_n 0, 1) := by decide +kernel
theorem dX8_read_13 : decode cX8_read 13 = .ok (.iload_n 2, 1) := by decide +kernel
theorem dX8_read_14 : decode cX8_read 14 = .ok (.invokevirtual 41, 3) := by decide +kernel
theorem dX8_read_17 : decode cX8_read 17 = .ok (.invokevirtual 45, 3) := by decide +kernel
theorem dX8_read_20 : decode cX8_read 20 = .ok (.istore_n 3, 1) := by decide +kernel
theorem dX8_read_21 : decode cX8_read 21 = .ok (.iload_n 3, 1) := by decide +kernel
theorem dX8_read_22 : decode cX8_read 22 = .ok (.ifCond .ge 12, 3) := by decide +kernel
theorem dX8_read_25 : decode cX8_read 25 = .ok (.sipush (-20000), 3) := by decide +kernel
theorem dX8_read_28 : decode cX8_read 28 = .ok (.iload_n 3, 1) := by decide +kernel
theorem dX8_read_29 : decode cX8_read 29 = .ok (.invokestatic 49, 3) := by decide +kernel
theorem dX8_read_32 : decode cX8_read 32 = .ok (.isub, 1) := by decide +kernel
theorem dX8_read_33 : decode cX8_read 33 = .ok (.ireturn, 1) := by decide +kernel
theorem dX8_read_34 : decode cX8_read 34 = .ok (.iload_n 3, 1) := by decide +kernel
theorem dX8_read_35 : decode cX8_read 35 = .ok (.aload_n 0, 1) := by decide +kernel
theorem dX8_read_36 : decode cX8_read 36 = .ok (.getfield 12, 3) := by decide +kernel
theorem dX8_read_39 : decode cX8_read 39 = .ok (.invokevirtual 25, 3) := by decide +kernel
theorem dX8_read_42 : decode cX8_read 42 = .ok (.if_icmp .ne 7, 3) := by decide +kernel
theorem dX8_read_45 : decode cX8_read 45 = .ok (.iload_n 2, 1) := by decide +kernel
theorem dX8_read_46 : decode cX8_read 46 = .ok (.iconst 1, 1) := by decide +kernel
theorem dX8_read_47 : decode cX8_read 47 = .ok (.iadd, 1) := by decide +kernel
theorem dX8_read_48 : decode cX8_read 48 = .ok (.ireturn, 1) := by decide +kernel
theorem dX8_read_49 : decode cX8_read 49 = .ok (.aload_n 0, 1) := by decide +kernel
theorem dX8_read_50 : decode cX8_read 50 = .ok (.iload_n 3, 1) := by decide +kernel
theorem dX8_read_51 : decode cX8_read 51 = .ok (.bipush 59, 2) := by decide +kernel
theorem dX8_read_53 : decode cX8_read 53 = .ok (.invokevirtual 53, 3) := by decide +kernel
theorem dX8_read_56 : decode cX8_read 56 = .ok (.ifCond .ne 9, 3) := by decide +kernel
theorem dX8_read_59 : decode cX8_read 59 = .ok (.sipush (-20000), 3) := by decide +kernel
theorem dX8_read_62 : decode cX8_read 62 = .ok (.iload_n 3, 1) := by decide +kernel
theorem dX8_read_63 : decode cX8_read 63 = .ok (.isub, 1) := by decide +kernel
theorem dX8_read_64 : decode cX8_read 64 = .ok (.ireturn, 1) := by decide +kernel
theorem dX8_read_65 : decode cX8_read 65 = .ok (.iload_n 3, 1) := by decide +kernel
theorem dX8_read_66 : decode cX8_read 66 = .ok (.iconst 1, 1) := by decide +kernel
theorem dX8_read_67 : decode cX8_read 67 = .ok (.iadd, 1) := by decide +kernel
theorem dX8_read_68 : decode cX8_read 68 = .ok (.istore_n 1, 1) := by decide +kernel
theorem dX8_read_69 : decode cX8_read 69 = .ok (.iinc 2 1, 3) := by decide +kernel
theorem dX8_read_72 : decode cX8_read 72 = .ok (.goto (-68), 3) := by decide +kernel
theorem dX8_read_75 : decode cX8_read 75 = .ok (.sipush (-20000), 3) := by decide +kernel
theorem dX8_read_78 : decode cX8_read 78 = .ok (.iload_n 1, 1) := by decide +kernel
theorem dX8_read_79 : decode cX8_read 79 = .ok (.isub, 1) := by decide +kernel
theorem dX8_read_80 : decode cX8_read 80 = .ok (.ireturn, 1) := by decide +kernel
theorem dX8_readOrder_0 : decode cX8_readOrder 0 = .ok (.iload_n 1, 1) := by decide +kernel
theorem dX8_readOrder_1 : decode cX8_readOrder 1 = .ok (.istore_n 3, 1) := by decide +kernel
theorem dX8_readOrder_2 : decode cX8_readOrder 2 = .ok (.getstatic 57, 3) := by decide +kernel
theorem dX8_readOrder_5 : decode cX8_readOrder 5 = .ok (.astore 4, 2) := by decide +kernel
theorem dX8_readOrder_7 : decode cX8_readOrder 7 = .ok (.aload 4, 2) := by decide +kernel
theorem dX8_readOrder_9 : decode cX8_readOrder 9 = .ok (.arraylength, 1) := by decide +kernel
theorem dX8_readOrder_10 : decode cX8_readOrder 10 = .ok (.istore 5, 2) := by decide +kernel
theorem dX8_readOrder_12 : decode cX8_readOrder 12 = .ok (.iconst 0, 1) := by decide +kernel
theorem dX8_readOrder_13 : decode cX8_readOrder 13 = .ok (.istore 6, 2) := by decide +kernel
theorem dX8_readOrder_15 : decode cX8_readOrder 15 = .ok (.iload 6, 2) := by decide +kernel
theorem dX8_readOrder_17 : decode cX8_readOrder 17 = .ok (.iload 5, 2) := by decide +kernel
theorem dX8_readOrder_19 : decode cX8_readOrder 19 = .ok (.if_icmp .ge 44, 3) := by decide +kernel
theorem dX8_readOrder_22 : decode cX8_readOrder 22 = .ok (.aload 4, 2) := by decide +kernel
theorem dX8_readOrder_24 : decode cX8_readOrder 24 = .ok (.iload 6, 2) := by decide +kernel
theorem dX8_readOrder_26 : decode cX8_readOrder 26 = .ok (.aaload, 1) := by decide +kernel
theorem dX8_readOrder_27 : decode cX8_readOrder 27 = .ok (.astore 7, 2) := by decide +kernel
theorem dX8_readOrder_29 : decode cX8_readOrder 29 = .ok (.aload_n 0, 1) := by decide +kernel
theorem dX8_readOrder_30 : decode cX8_readOrder 30 = .ok (.aload 7, 2) := by decide +kernel
theorem dX8_readOrder_32 : decode cX8_readOrder 32 = .ok (.iload_n 1, 1) := by decide +kernel
theorem dX8_readOrder_33 : decode cX8_readOrder 33 = .ok (.aload_n 2, 1) := by decide +kernel
theorem dX8_readOrder_34 : decode cX8_readOrder 34 = .ok (.invokevirtual 61, 3) := by decide +kernel
theorem dX8_readOrder_37 : decode cX8_readOrder 37 = .ok (.istore 8, 2) := by decide +kernel
theorem dX8_readOrder_39 : decode cX8_readOrder 39 = .ok (.iload 8, 2) := by decide +kernel
theorem dX8_readOrder_41 : decode cX8_readOrder 41 = .ok (.ifCond .lt 6, 3) := by decide +kernel
theorem dX8_readOrder_44 : decode cX8_readOrder 44 = .ok (.iload 8, 2) := by decide +kernel
theorem dX8_readOrder_46 : decode cX8_readOrder 46 = .ok (.ireturn, 1) := by decide +kernel
theorem dX8_readOrder_47 : decode cX8_readOrder 47 = .ok (.iload_n 3, 1) := by decide +kernel
theorem dX8_readOrder_48 : decode cX8_readOrder 48 = .ok (.iload 8, 2) := by decide +kernel
theorem dX8_readOrder_50 : decode cX8_readOrder 50 = .ok (.invokestatic 49, 3) := by decide +kernel
theorem dX8_readOrder_53 : decode cX8_readOrder 53 = .ok (.invokestatic 65, 3) := by decide +kernel
theorem dX8_readOrder_56 : decode cX8_readOrder 56 = .ok (.istore_n 3, 1) := by decide +kernel
theorem dX8_readOrder_57 : decode cX8_readOrder 57 = .ok (.iinc 6 1, 3) := by decide +kernel
theorem dX8_readOrder_60 : decode cX8_readOrder 60 = .ok (.goto (-45), 3) := by decide +kernel
theorem dX8_readOrder_63 : decode cX8_readOrder 63 = .ok (.iload_n 3, 1) := by decide +kernel
theorem dX8_readOrder_64 : decode cX8_readOrder 64 = .ok (.invokestatic 71, 3) := by decide +kernel
theorem dX8_readOrder_67 : decode cX8_readOrder 67 = .ok (.ireturn, 1) := by decide +kernel
theorem dX8_readForm_0 : decode cX8_readForm 0 = .ok (.aload_n 1, 1) := by decide +kernel
theorem dX8_readForm_1 : decode cX8_readForm 1 = .ok (.ifnull 7, 3) := by decide +kernel
theorem dX8_readForm_4 : decode cX8_readForm 4 = .ok (.aload_n 3, 1) := by decide +kernel
theorem dX8_readForm_5 : decode cX8_readForm 5 = .ok (.ifnonnull 8, 3) := by decide +kernel
theorem dX8_readForm_8 : decode cX8_readForm 8 = .ok (.iload_n 2, 1) := by decide +kernel
theorem dX8_readForm_9 : decode cX8_readForm 9 = .ok (.invokestatic 71, 3) := by decide +kernel
theorem dX8_readForm_12 : decode cX8_readForm 12 = .ok (.ireturn, 1) := by decide +kernel
theorem dX8_readForm_13 : decode cX8_readForm 13 = .ok (.aload_n 3, 1) := by decide +kernel
theorem dX8_readForm_14 : decode cX8_readForm 14 = .ok (.aload_n 1, 1) := by decide +kernel
theorem dX8_readForm_15 : decode cX8_readForm 15 = .ok (.putfield 74, 3) := by decide +kernel
theorem dX8_readForm_18 : decode cX8_readForm 18 = .ok (.iload_n 2, 1) := by decide +kernel
theorem dX8_readForm_19 : decode cX8_readForm 19 = .ok (.istore 4, 2) := by decide +kernel
theorem dX8_readForm_21 : decode cX8_readForm 21 = .ok (.iconst 0, 1) := by decide +kernel
theorem dX8_readForm_22 : decode cX8_readForm 22 = .ok (.istore 5, 2) := by decide +kernel
theorem dX8_readForm_24 : decode cX8_readForm 24 = .ok (.iconst 0, 1) := by decide +kernel
theorem dX8_readForm_25 : decode cX8_readForm 25 = .ok (.istore 6, 2) := by decide +kernel
theorem dX8_readForm_27 : decode cX8_readForm 27 = .ok (.iload 6, 2) := by decide +kernel
theorem dX8_readForm_29 : decode cX8_readForm 29 = .ok (.aload_n 1, 1) := by decide +kernel
theorem dX8_readForm_30 : decode cX8_readForm 30 = .ok (.getfield 78, 3) := by decide +kernel
theorem dX8_readForm_33 : decode cX8_readForm 33 = .ok (.invokevirtual 84, 3) := by decide +kernel
theorem dX8_readForm_36 : decode cX8_readForm 36 = .ok (.if_icmp .ge 110, 3) := by decide +kernel
theorem dX8_readForm_39 : decode cX8_readForm 39 = .ok (.aload_n 1, 1) := by decide +kernel
theorem dX8_readForm_40 : decode cX8_readForm 40 = .ok (.getfield 78, 3) := by decide +kernel
theorem dX8_readForm_43 : decode cX8_readForm 43 = .ok (.iload 6, 2) := by decide +kernel
theorem dX8_readForm_45 : decode cX8_readForm 45 = .ok (.invokevirtual 87, 3) := by decide +kernel
theorem dX8_readForm_48 : decode cX8_readForm 48 = .ok (.istore 7, 2) := by decide +kernel
theorem dX8_readForm_50 : decode cX8_readForm 50 = .ok (.iload 7, 2) := by decide +kernel
theorem dX8_readForm_52 : decode cX8_readForm 52 = .ok (.bipush 49, 2) := by decide +kernel
theorem dX8_readForm_54 : decode cX8_readForm 54 = .ok (.if_icmp .lt 63, 3) := by decide +kernel
theorem dX8_readForm_57 : decode cX8_readForm 57 = .ok (.iload 7, 2) := by decide +kernel
theorem dX8_readForm_59 : decode cX8_readForm 59 = .ok (.bipush 57, 2) := by decide +kernel
theorem dX8_readForm_61 : decode cX8_readForm 61 = .ok (.if_icmp .gt 56, 3) := by decide +kernel
theorem dX8_readForm_64 : decode cX8_readForm 64 = .ok (.aload_n 0, 1) := by decide +kernel
theorem dX8_readForm_65 : decode cX8_readForm 65 = .ok (.iload 4, 2) := by decide +kernel
theorem dX8_readForm_67 : decode cX8_readForm 67 = .ok (.iload 7, 2) := by decide +kernel
theorem dX8_readForm_69 : decode cX8_readForm 69 = .ok (.bipush 48, 2) := by decide +kernel
theorem dX8_readForm_71 : decode cX8_readForm 71 = .ok (.isub, 1) := by decide +kernel
theorem dX8_readForm_72 : decode cX8_readForm 72 = .ok (.invokevirtual 91, 3) := by decide +kernel
theorem dX8_readForm_75 : decode cX8_readForm 75 = .ok (.istore 8, 2) := by decide +kernel
theorem dX8_readForm_77 : decode cX8_readForm 77 = .ok (.iload 8, 2) := by decide +kernel
theorem dX8_readForm_79 : decode cX8_readForm 79 = .ok (.iload 4, 2) := by decide +kernel
theorem dX8_readForm_81 : decode cX8_readForm 81 = .ok (.if_icmp .ne 9, 3) := by decide +kernel
theorem dX8_readForm_84 : decode cX8_readForm 84 = .ok (.iload 4, 2) := by decide +kernel
theorem dX8_readForm_86 : decode cX8_readForm 86 = .ok (.invokestatic 71, 3) := by decide +kernel
theorem dX8_readForm_89 : decode cX8_readForm 89 = .ok (.ireturn, 1) := by decide +kernel
theorem dX8_readForm_90 : decode cX8_readForm 90 = .ok (.aload_n 3, 1) := by decide +kernel
theorem dX8_readForm_91 : decode cX8_readForm 91 = .ok (.getfield 94, 3) := by decide +kernel
theorem dX8_readForm_94 : decode cX8_readForm 94 = .ok (.iload 5, 2) := by decide +kernel
theorem dX8_readForm_96 : decode cX8_readForm 96 = .ok (.aload_n 0, 1) := by decide +kernel
theorem dX8_readForm_97 : decode cX8_readForm 97 = .ok (.iload 4, 2) := by decide +kernel
theorem dX8_readForm_99 : decode cX8_readForm 99 = .ok (.iload 8, 2) := by decide +kernel
theorem dX8_readForm_101 : decode cX8_readForm 101 = .ok (.invokevirtual 98, 3) := by decide +kernel
theorem dX8_readForm_104 : decode cX8_readForm 104 = .ok (.invokestatic 101, 3) := by decide +kernel
theorem dX8_readForm_107 : decode cX8_readForm 107 = .ok (.iinc 5 1, 3) := by decide +kernel
theorem dX8_readForm_110 : decode cX8_readForm 110 = .ok (.iload 8, 2) := by decide +kernel
theorem dX8_readForm_112 : decode cX8_readForm 112 = .ok (.istore 4, 2) := by decide +kernel
theorem dX8_readForm_114 : decode cX8_readForm 114 = .ok (.goto 26, 3) := by decide +kernel
theorem dX8_readForm_117 : decode cX8_readForm 117 = .ok (.aload_n 0, 1) := by decide +kernel
theorem dX8_readForm_118 : decode cX8_readForm 118 = .ok (.iload 4, 2) := by decide +kernel
theorem dX8_readForm_120 : decode cX8_readForm 120 = .ok (.iload 7, 2) := by decide +kernel
theorem dX8_readForm_122 : decode cX8_readForm 122 = .ok (.invokevirtual 53, 3) := by decide +kernel
theorem dX8_readForm_125 : decode cX8_readForm 125 = .ok (.ifCond .eq 9, 3) := by decide +kernel
theorem dX8_readForm_128 : decode cX8_readForm 128 = .ok (.iinc 4 1, 3) := by decide +kernel
theorem dX8_readForm_131 : decode cX8_readForm 131 = .ok (.goto 9, 3) := by decide +kernel
theorem dX8_readForm_134 : decode cX8_readForm 134 = .ok (.iload 4, 2) := by decide +kernel
theorem dX8_readForm_136 : decode cX8_readForm 136 = .ok (.invokestatic 71, 3) := by decide +kernel
theorem dX8_readForm_139 : decode cX8_readForm 139 = .ok (.ireturn, 1) := by decide +kernel
theorem dX8_readForm_140 : decode cX8_readForm 140 = .ok (.iinc 6 1, 3) := by decide +kernel
theorem dX8_readForm_143 : decode cX8_readForm 143 = .ok (.goto (-116), 3) := by decide +kernel
theorem dX8_readForm_146 : decode cX8_readForm 146 = .ok (.iload 4, 2) := by decide +kernel
theorem dX8_readForm_148 : decode cX8_readForm 148 = .ok (.ireturn, 1) := by decide +kernel
theorem dX8_endOfDigits_0 : decode cX8_endOfDigits 0 = .ok (.iload_n 1, 1) := by decide +kernel
theorem dX8_endOfDigits_1 : decode cX8_endOfDigits 1 = .ok (.istore_n 3, 1) := by decide +kernel
theorem dX8_endOfDigits_2 : decode cX8_endOfDigits 2 = .ok (.iload_n 3, 1) := by decide +kernel
theorem dX8_endOfDigits_3 : decode cX8_endOfDigits 3 = .ok (.iload_n 1, 1) := by decide +kernel
theorem dX8_endOfDigits_4 : decode cX8_endOfDigits 4 = .ok (.iload_n 2, 1) := by decide +kernel
theorem dX8_endOfDigits_5 : decode cX8_endOfDigits 5 = .ok (.iadd, 1) := by decide +kernel
theorem dX8_endOfDigits_6 : decode cX8_endOfDigits 6 = .ok (.if_icmp .ge 28, 3) := by decide +kernel
theorem dX8_endOfDigits_9 : decode cX8_endOfDigits 9 = .ok (.iload_n 3, 1) := by decide +kernel
theorem dX8_endOfDigits_10 : decode cX8_endOfDigits 10 = .ok (.aload_n 0, 1) := by decide +kernel
theorem dX8_endOfDigits_11 : decode cX8_endOfDigits 11 = .ok (.getfield 12, 3) := by decide +kernel
theorem dX8_endOfDigits_14 : decode cX8_endOfDigits 14 = .ok (.invokevirtual 25, 3) := by decide +kernel
theorem dX8_endOfDigits_17 : decode cX8_endOfDigits 17 = .ok (.if_icmp .ge 17, 3) := by decide +kernel
theorem dX8_endOfDigits_20 : decode cX8_endOfDigits 20 = .ok (.aload_n 0, 1) := by decide +kernel
theorem dX8_endOfDigits_21 : decode cX8_endOfDigits 21 = .ok (.iload_n 3, 1) := by decide +kernel
theorem dX8_endOfDigits_22 : decode cX8_endOfDigits 22 = .ok (.invokevirtual 105, 3) := by decide +kernel
theorem dX8_endOfDigits_25 : decode cX8_endOfDigits 25 = .ok (.ifCond .lt 9, 3) := by decide +kernel
theorem dX8_endOfDigits_28 : decode cX8_endOfDigits 28 = .ok (.iinc 3 1, 3) := by decide +kernel
theorem dX8_endOfDigits_31 : decode cX8_endOfDigits 31 = .ok (.goto (-29), 3) := by decide +kernel
theorem dX8_endOfDigits_34 : decode cX8_endOfDigits 34 = .ok (.iload_n 3, 1) := by decide +kernel
theorem dX8_endOfDigits_35 : decode cX8_endOfDigits 35 = .ok (.ireturn, 1) := by decide +kernel
theorem dX8_numberFrom_0 : decode cX8_numberFrom 0 = .ok (.iconst 0, 1) := by decide +kernel
theorem dX8_numberFrom_1 : decode cX8_numberFrom 1 = .ok (.istore_n 3, 1) := by decide +kernel
theorem dX8_numberFrom_2 : decode cX8_numberFrom 2 = .ok (.iload_n 1, 1) := by decide +kernel
theorem dX8_numberFrom_3 : decode cX8_numberFrom 3 = .ok (.istore 4, 2) := by decide +kernel
theorem dX8_numberFrom_5 : decode cX8_numberFrom 5 = .ok (.iload 4, 2) := by decide +kernel
theorem dX8_numberFrom_7 : decode cX8_numberFrom 7 = .ok (.iload_n 2, 1) := by decide +kernel
theorem dX8_numberFrom_8 : decode cX8_numberFrom 8 = .ok (.if_icmp .ge 21, 3) := by decide +kernel
theorem dX8_numberFrom_11 : decode cX8_numberFrom 11 = .ok (.bipush 10, 2) := by decide +kernel
theorem dX8_numberFrom_13 : decode cX8_numberFrom 13 = .ok (.iload_n 3, 1) := by decide +kernel
theorem dX8_numberFrom_14 : decode cX8_numberFrom 14 = .ok (.imul, 1) := by decide +kernel
theorem dX8_numberFrom_15 : decode cX8_numberFrom 15 = .ok (.aload_n 0, 1) := by decide +kernel
theorem dX8_numberFrom_16 : decode cX8_numberFrom 16 = .ok (.iload 4, 2) := by decide +kernel
theorem dX8_numberFrom_18 : decode cX8_numberFrom 18 = .ok (.invokevirtual 105, 3) := by decide +kernel
theorem dX8_numberFrom_21 : decode cX8_numberFrom 21 = .ok (.iadd, 1) := by decide +kernel
theorem dX8_numberFrom_22 : decode cX8_numberFrom 22 = .ok (.istore_n 3, 1) := by decide +kernel
theorem dX8_numberFrom_23 : decode cX8_numberFrom 23 = .ok (.iinc 4 1, 3) := by decide +kernel
theorem dX8_numberFrom_26 : decode cX8_numberFrom 26 = .ok (.goto (-21), 3) := by decide +kernel
theorem dX8_numberFrom_29 : decode cX8_numberFrom 29 = .ok (.iload_n 3, 1) := by decide +kernel
theorem dX8_numberFrom_30 : decode cX8_numberFrom 30 = .ok (.ireturn, 1) := by decide +kernel
theorem dX8_digitAt_0 : decode cX8_digitAt 0 = .ok (.iload_n 1, 1) := by decide +kernel
theorem dX8_digitAt_1 : decode cX8_digitAt 1 = .ok (.ifCond .lt 14, 3) := by decide +kernel
theorem dX8_digitAt_4 : decode cX8_digitAt 4 = .ok (.iload_n 1, 1) := by decide +kernel
theorem dX8_digitAt_5 : decode cX8_digitAt 5 = .ok (.aload_n 0, 1) := by decide +kernel
theorem dX8_digitAt_6 : decode cX8_digitAt 6 = .ok (.getfield 12, 3) := by decide +kernel
theorem dX8_digitAt_9 : decode cX8_digitAt 9 = .ok (.invokevirtual 25, 3) := by decide +kernel
theorem dX8_digitAt_12 : decode cX8_digitAt 12 = .ok (.if_icmp .lt 5, 3) := by decide +kernel
theorem dX8_digitAt_15 : decode cX8_digitAt 15 = .ok (.iconst (-1), 1) := by decide +kernel
theorem dX8_digitAt_16 : decode cX8_digitAt 16 = .ok (.ireturn, 1) := by decide +kernel
theorem dX8_digitAt_17 : decode cX8_digitAt 17 = .ok (.aload_n 0, 1) := by decide +kernel
theorem dX8_digitAt_18 : decode cX8_digitAt 18 = .ok (.getfield 12, 3) := by decide +kernel
theorem dX8_digitAt_21 : decode cX8_digitAt 21 = .ok (.iload_n 1, 1) := by decide +kernel
theorem dX8_digitAt_22 : decode cX8_digitAt 22 = .ok (.invokevirtual 108, 3) := by decide +kernel
theorem dX8_digitAt_25 : decode cX8_digitAt 25 = .ok (.istore_n 2, 1) := by decide +kernel
theorem dX8_digitAt_26 : decode cX8_digitAt 26 = .ok (.iload_n 2, 1) := by decide +kernel
theorem dX8_digitAt_27 : decode cX8_digitAt 27 = .ok (.bipush 48, 2) := by decide +kernel
theorem dX8_digitAt_29 : decode cX8_digitAt 29 = .ok (.if_icmp .lt 16, 3) := by decide +kernel
theorem dX8_digitAt_32 : decode cX8_digitAt 32 = .ok (.iload_n 2, 1) := by decide +kernel
theorem dX8_digitAt_33 : decode cX8_digitAt 33 = .ok (.bipush 57, 2) := by decide +kernel
theorem dX8_digitAt_35 : decode cX8_digitAt 35 = .ok (.if_icmp .gt 10, 3) := by decide +kernel
theorem dX8_digitAt_38 : decode cX8_digitAt 38 = .ok (.iload_n 2, 1) := by decide +kernel
theorem dX8_digitAt_39 : decode cX8_digitAt 39 = .ok (.bipush 48, 2) := by decide +kernel
theorem dX8_digitAt_41 : decode cX8_digitAt 41 = .ok (.isub, 1) := by decide +kernel
theorem dX8_digitAt_42 : decode cX8_digitAt 42 = .ok (.goto 4, 3) := by decide +kernel
theorem dX8_digitAt_45 : decode cX8_digitAt 45 = .ok (.iconst (-1), 1) := by decide +kernel
theorem dX8_digitAt_46 : decode cX8_digitAt 46 = .ok (.ireturn, 1) := by decide +kernel
theorem dX8_isSignAt_0 : decode cX8_isSignAt 0 = .ok (.iload_n 1, 1) := by decide +kernel
theorem dX8_isSignAt_1 : decode cX8_isSignAt 1 = .ok (.ifCond .lt 30, 3) := by decide +kernel
theorem dX8_isSignAt_4 : decode cX8_isSignAt 4 = .ok (.iload_n 1, 1) := by decide +kernel
theorem dX8_isSignAt_5 : decode cX8_isSignAt 5 = .ok (.aload_n 0, 1) := by decide +kernel
theorem dX8_isSignAt_6 : decode cX8_isSignAt 6 = .ok (.getfield 12, 3) := by decide +kernel
theorem dX8_isSignAt_9 : decode cX8_isSignAt 9 = .ok (.invokevirtual 25, 3) := by decide +kernel
theorem dX8_isSignAt_12 : decode cX8_isSignAt 12 = .ok (.if_icmp .ge 19, 3) := by decide +kernel
theorem dX8_isSignAt_15 : decode cX8_isSignAt 15 = .ok (.aload_n 0, 1) := by decide +kernel
theorem dX8_isSignAt_16 : decode cX8_isSignAt 16 = .ok (.getfield 12, 3) := by decide +kernel
theorem dX8_isSignAt_19 : decode cX8_isSignAt 19 = .ok (.iload_n 1, 1) := by decide +kernel
theorem dX8_isSignAt_20 : decode cX8_isSignAt 20 = .ok (.invokevirtual 108, 3) := by decide +kernel
theorem dX8_isSignAt_23 : decode cX8_isSignAt 23 = .ok (.iload_n 2, 1) := by decide +kernel
theorem dX8_isSignAt_24 : decode cX8_isSignAt 24 = .ok (.if_icmp .ne 7, 3) := by decide +kernel
theorem dX8_isSignAt_27 : decode cX8_isSignAt 27 = .ok (.iconst 1, 1) := by decide +kernel
theorem dX8_isSignAt_28 : decode cX8_isSignAt 28 = .ok (.goto 4, 3) := by decide +kernel
theorem dX8_isSignAt_31 : decode cX8_isSignAt 31 = .ok (.iconst 0, 1) := by decide +kernel
theorem dX8_isSignAt_32 : decode cX8_isSignAt 32 = .ok (.ireturn, 1) := by decide +kernel
theorem dX8_faultAt_0 : decode cX8_faultAt 0 = .ok (.iconst (-1), 1) := by decide +kernel
theorem dX8_faultAt_1 : decode cX8_faultAt 1 = .ok (.iload_n 0, 1) := by decide +kernel
theorem dX8_faultAt_2 : decode cX8_faultAt 2 = .ok (.isub, 1) := by decide +kernel
theorem dX8_faultAt_3 : decode cX8_faultAt 3 = .ok (.ireturn, 1) := by decide +kernel
theorem dX8_placeOfFault_0 : decode cX8_placeOfFault 0 = .ok (.iconst (-1), 1) := by decide +kernel
theorem dX8_placeOfFault_1 : decode cX8_placeOfFault 1 = .ok (.iload_n 0, 1) := by decide +kernel
theorem dX8_placeOfFault_2 : decode cX8_placeOfFault 2 = .ok (.isub, 1) := by decide +kernel
theorem dX8_placeOfFault_3 : decode cX8_placeOfFault 3 = .ok (.ireturn, 1) := by decide +kernel
theorem dX9_init_0 : decode cX9_init 0 = .ok (.aload_n 0, 1) := by decide +kernel
theorem dX9_init_1 : decode cX9_init 1 = .ok (.invokespecial 3, 3) := by decide +kernel
theorem dX9_init_4 : decode cX9_init 4 = .ok (.aload_n 0, 1) := by decide +kernel
theorem dX9_init_5 : decode cX9_init 5 = .ok (.iconst 0, 1) := by decide +kernel
theorem dX9_init_6 : decode cX9_init 6 = .ok (.putfield 9, 3) := by decide +kernel
theorem dX9_init_9 : decode cX9_init 9 = .ok (.aload_n 0, 1) := by decide +kernel
theorem dX9_init_10 : decode cX9_init 10 = .ok (.iconst 0, 1) := by decide +kernel
theorem dX9_init_11 : decode cX9_init 11 = .ok (.putfield 15, 3) := by decide +kernel
theorem dX9_init_14 : decode cX9_init 14 = .ok (.return_, 1) := by decide +kernel
theorem dX9_because_0 : decode cX9_because 0 = .ok (.aload_n 0, 1) := by decide +kernel
theorem dX9_because_1 : decode cX9_because 1 = .ok (.iload_n 1, 1) := by decide +kernel
theorem dX9_because_2 : decode cX9_because 2 = .ok (.putfield 9, 3) := by decide +kernel
theorem dX9_because_5 : decode cX9_because 5 = .ok (.aload_n 0, 1) := by decide +kernel
theorem dX9_because_6 : decode cX9_because 6 = .ok (.iload_n 2, 1) := by decide +kernel
theorem dX9_because_7 : decode cX9_because 7 = .ok (.putfield 15, 3) := by decide +kernel
theorem dX9_because_10 : decode cX9_because 10 = .ok (.sipush (-10004), 3) := by decide +kernel
theorem dX9_because_13 : decode cX9_because 13 = .ok (.ireturn, 1) := by decide +kernel
theorem dX10_init_0 : decode cX10_init 0 = .ok (.aload_n 0, 1) := by decide +kernel
theorem dX10_init_1 : decode cX10_init 1 = .ok (.invokespecial 3, 3) := by decide +kernel
theorem dX10_init_4 : decode cX10_init 4 = .ok (.aload_n 0, 1) := by decide +kernel
theorem dX10_init_5 : decode cX10_init 5 = .ok (.bipush 10, 2) := by decide +kernel
theorem dX10_init_7 : decode cX10_init 7 = .ok (.putfield 9, 3) := by decide +kernel
theorem dX10_init_10 : decode cX10_init 10 = .ok (.aload_n 0, 1) := by decide +kernel
theorem dX10_init_11 : decode cX10_init 11 = .ok (.iconst 0, 1) := by decide +kernel
theorem dX10_init_12 : decode cX10_init 12 = .ok (.putfield 15, 3) := by decide +kernel
theorem dX10_init_15 : decode cX10_init 15 = .ok (.aload_n 0, 1) := by decide +kernel
theorem dX10_init_16 : decode cX10_init 16 = .ok (.iconst 0, 1) := by decide +kernel
theorem dX10_init_17 : decode cX10_init 17 = .ok (.putfield 18, 3) := by decide +kernel
theorem dX10_init_20 : decode cX10_init 20 = .ok (.aload_n 0, 1) := by decide +kernel
theorem dX10_init_21 : decode cX10_init 21 = .ok (.sipush 2000, 3) := by decide +kernel
theorem dX10_init_24 : decode cX10_init 24 = .ok (.putfield 21, 3) := by decide +kernel
theorem dX10_init_27 : decode cX10_init 27 = .ok (.aload_n 0, 1) := by decide +kernel
theorem dX10_init_28 : decode cX10_init 28 = .ok (.iconst 0, 1) := by decide +kernel
theorem dX10_init_29 : decode cX10_init 29 = .ok (.putfield 24, 3) := by decide +kernel
theorem dX10_init_32 : decode cX10_init 32 = .ok (.aload_n 0, 1) := by decide +kernel
theorem dX10_init_33 : decode cX10_init 33 = .ok (.iconst 0, 1) := by decide +kernel
theorem dX10_init_34 : decode cX10_init 34 = .ok (.putfield 27, 3) := by decide +kernel
theorem dX10_init_37 : decode cX10_init 37 = .ok (.return_, 1) := by decide +kernel
theorem dX10_copyFrom_0 : decode cX10_copyFrom 0 = .ok (.aload_n 0, 1) := by decide +kernel
theorem dX10_copyFrom_1 : decode cX10_copyFrom 1 = .ok (.aload_n 1, 1) := by decide +kernel
theorem dX10_copyFrom_2 : decode cX10_copyFrom 2 = .ok (.getfield 9, 3) := by decide +kernel
theorem dX10_copyFrom_5 : decode cX10_copyFrom 5 = .ok (.putfield 9, 3) := by decide +kernel
theorem dX10_copyFrom_8 : decode cX10_copyFrom 8 = .ok (.aload_n 0, 1) := by decide +kernel
theorem dX10_copyFrom_9 : decode cX10_copyFrom 9 = .ok (.aload_n 1, 1) := by decide +kernel
theorem dX10_copyFrom_10 : decode cX10_copyFrom 10 = .ok (.getfield 15, 3) := by decide +kernel
theorem dX10_copyFrom_13 : decode cX10_copyFrom 13 = .ok (.putfield 15, 3) := by decide +kernel
theorem dX10_copyFrom_16 : decode cX10_copyFrom 16 = .ok (.aload_n 0, 1) := by decide +kernel
theorem dX10_copyFrom_17 : decode cX10_copyFrom 17 = .ok (.aload_n 1, 1) := by decide +kernel
theorem dX10_copyFrom_18 : decode cX10_copyFrom 18 = .ok (.getfield 18, 3) := by decide +kernel
theorem dX10_copyFrom_21 : decode cX10_copyFrom 21 = .ok (.putfield 18, 3) := by decide +kernel
theorem dX10_copyFrom_24 : decode cX10_copyFrom 24 = .ok (.aload_n 0, 1) := by decide +kernel
theorem dX10_copyFrom_25 : decode cX10_copyFrom 25 = .ok (.aload_n 1, 1) := by decide +kernel
theorem dX10_copyFrom_26 : decode cX10_copyFrom 26 = .ok (.getfield 21, 3) := by decide +kernel
theorem dX10_copyFrom_29 : decode cX10_copyFrom 29 = .ok (.putfield 21, 3) := by decide +kernel
theorem dX10_copyFrom_32 : decode cX10_copyFrom 32 = .ok (.aload_n 0, 1) := by decide +kernel
theorem dX10_copyFrom_33 : decode cX10_copyFrom 33 = .ok (.aload_n 1, 1) := by decide +kernel
theorem dX10_copyFrom_34 : decode cX10_copyFrom 34 = .ok (.getfield 24, 3) := by decide +kernel
theorem dX10_copyFrom_37 : decode cX10_copyFrom 37 = .ok (.putfield 24, 3) := by decide +kernel
theorem dX10_copyFrom_40 : decode cX10_copyFrom 40 = .ok (.aload_n 0, 1) := by decide +kernel
theorem dX10_copyFrom_41 : decode cX10_copyFrom 41 = .ok (.aload_n 1, 1) := by decide +kernel
theorem dX10_copyFrom_42 : decode cX10_copyFrom 42 = .ok (.getfield 27, 3) := by decide +kernel
theorem dX10_copyFrom_45 : decode cX10_copyFrom 45 = .ok (.putfield 27, 3) := by decide +kernel
theorem dX10_copyFrom_48 : decode cX10_copyFrom 48 = .ok (.return_, 1) := by decide +kernel
theorem dX10_tellGains_0 : decode cX10_tellGains 0 = .ok (.iconst 0, 1) := by decide +kernel
theorem dX10_tellGains_1 : decode cX10_tellGains 1 = .ok (.iload_n 1, 1) := by decide +kernel
theorem dX10_tellGains_2 : decode cX10_tellGains 2 = .ok (.bipush 50, 2) := by decide +kernel
theorem dX10_tellGains_4 : decode cX10_tellGains 4 = .ok (.invokestatic 30, 3) := by decide +kernel
theorem dX10_tellGains_7 : decode cX10_tellGains 7 = .ok (.ifCond .eq 23, 3) := by decide +kernel
theorem dX10_tellGains_10 : decode cX10_tellGains 10 = .ok (.iconst 0, 1) := by decide +kernel
theorem dX10_tellGains_11 : decode cX10_tellGains 11 = .ok (.iload_n 2, 1) := by decide +kernel
theorem dX10_tellGains_12 : decode cX10_tellGains 12 = .ok (.bipush 50, 2) := by decide +kernel
theorem dX10_tellGains_14 : decode cX10_tellGains 14 = .ok (.invokestatic 30, 3) := by decide +kernel
theorem dX10_tellGains_17 : decode cX10_tellGains 17 = .ok (.ifCond .eq 13, 3) := by decide +kernel
theorem dX10_tellGains_20 : decode cX10_tellGains 20 = .ok (.iconst 0, 1) := by decide +kernel
theorem dX10_tellGains_21 : decode cX10_tellGains 21 = .ok (.iload_n 3, 1) := by decide +kernel
theorem dX10_tellGains_22 : decode cX10_tellGains 22 = .ok (.bipush 50, 2) := by decide +kernel
theorem dX10_tellGains_24 : decode cX10_tellGains 24 = .ok (.invokestatic 30, 3) := by decide +kernel
theorem dX10_tellGains_27 : decode cX10_tellGains 27 = .ok (.ifCond .ne 7, 3) := by decide +kernel
theorem dX10_tellGains_30 : decode cX10_tellGains 30 = .ok (.sipush (-10002), 3) := by decide +kernel
theorem dX10_tellGains_33 : decode cX10_tellGains 33 = .ok (.ireturn, 1) := by decide +kernel
theorem dX10_tellGains_34 : decode cX10_tellGains 34 = .ok (.sipush 10000, 3) := by decide +kernel
theorem dX10_tellGains_37 : decode cX10_tellGains 37 = .ok (.aload_n 0, 1) := by decide +kernel
theorem dX10_tellGains_38 : decode cX10_tellGains 38 = .ok (.getfield 9, 3) := by decide +kernel
theorem dX10_tellGains_41 : decode cX10_tellGains 41 = .ok (.imul, 1) := by decide +kernel
theorem dX10_tellGains_42 : decode cX10_tellGains 42 = .ok (.bipush 100, 2) := by decide +kernel
theorem dX10_tellGains_44 : decode cX10_tellGains 44 = .ok (.aload_n 0, 1) := by decide +kernel
theorem dX10_tellGains_45 : decode cX10_tellGains 45 = .ok (.getfield 15, 3) := by decide +kernel
theorem dX10_tellGains_48 : decode cX10_tellGains 48 = .ok (.imul, 1) := by decide +kernel
theorem dX10_tellGains_49 : decode cX10_tellGains 49 = .ok (.iadd, 1) := by decide +kernel
theorem dX10_tellGains_50 : decode cX10_tellGains 50 = .ok (.aload_n 0, 1) := by decide +kernel
theorem dX10_tellGains_51 : decode cX10_tellGains 51 = .ok (.getfield 18, 3) := by decide +kernel
theorem dX10_tellGains_54 : decode cX10_tellGains 54 = .ok (.iadd, 1) := by decide +kernel
theorem dX10_tellGains_55 : decode cX10_tellGains 55 = .ok (.istore 4, 2) := by decide +kernel
theorem dX10_tellGains_57 : decode cX10_tellGains 57 = .ok (.aload_n 0, 1) := by decide +kernel
theorem dX10_tellGains_58 : decode cX10_tellGains 58 = .ok (.iload_n 1, 1) := by decide +kernel
theorem dX10_tellGains_59 : decode cX10_tellGains 59 = .ok (.putfield 9, 3) := by decide +kernel
theorem dX10_tellGains_62 : decode cX10_tellGains 62 = .ok (.aload_n 0, 1) := by decide +kernel
theorem dX10_tellGains_63 : decode cX10_tellGains 63 = .ok (.iload_n 2, 1) := by decide +kernel
theorem dX10_tellGains_64 : decode cX10_tellGains 64 = .ok (.putfield 15, 3) := by decide +kernel
theorem dX10_tellGains_67 : decode cX10_tellGains 67 = .ok (.aload_n 0, 1) := by decide +kernel
theorem dX10_tellGains_68 : decode cX10_tellGains 68 = .ok (.iload_n 3, 1) := by decide +kernel
theorem dX10_tellGains_69 : decode cX10_tellGains 69 = .ok (.putfield 18, 3) := by decide +kernel
theorem dX10_tellGains_72 : decode cX10_tellGains 72 = .ok (.iload 4, 2) := by decide +kernel
theorem dX10_tellGains_74 : decode cX10_tellGains 74 = .ok (.ireturn, 1) := by decide +kernel
theorem dX10_tellCap_0 : decode cX10_tellCap 0 = .ok (.iconst 0, 1) := by decide +kernel
theorem dX10_tellCap_1 : decode cX10_tellCap 1 = .ok (.iload_n 1, 1) := by decide +kernel
theorem dX10_tellCap_2 : decode cX10_tellCap 2 = .ok (.sipush 9000, 3) := by decide +kernel
theorem dX10_tellCap_5 : decode cX10_tellCap 5 = .ok (.invokestatic 30, 3) := by decide +kernel
theorem dX10_tellCap_8 : decode cX10_tellCap 8 = .ok (.ifCond .ne 7, 3) := by decide +kernel
theorem dX10_tellCap_11 : decode cX10_tellCap 11 = .ok (.sipush (-10002), 3) := by decide +kernel
theorem dX10_tellCap_14 : decode cX10_tellCap 14 = .ok (.ireturn, 1) := by decide +kernel
theorem dX10_tellCap_15 : decode cX10_tellCap 15 = .ok (.iload_n 1, 1) := by decide +kernel
theorem dX10_tellCap_16 : decode cX10_tellCap 16 = .ok (.aload_n 0, 1) := by decide +kernel
theorem dX10_tellCap_17 : decode cX10_tellCap 17 = .ok (.getfield 21, 3) := by decide +kernel
theorem dX10_tellCap_20 : decode cX10_tellCap 20 = .ok (.if_icmp .ne 13, 3) := by decide +kernel
theorem dX10_tellCap_23 : decode cX10_tellCap 23 = .ok (.aload_n 2, 1) := by decide +kernel
theorem dX10_tellCap_24 : decode cX10_tellCap 24 = .ok (.iconst 5, 1) := by decide +kernel
theorem dX10_tellCap_25 : decode cX10_tellCap 25 = .ok (.aload_n 0, 1) := by decide +kernel
theorem dX10_tellCap_26 : decode cX10_tellCap 26 = .ok (.getfield 21, 3) := by decide +kernel
theorem dX10_tellCap_29 : decode cX10_tellCap 29 = .ok (.invokevirtual 34, 3) := by decide +kernel
theorem dX10_tellCap_32 : decode cX10_tellCap 32 = .ok (.ireturn, 1) := by decide +kernel
theorem dX10_tellCap_33 : decode cX10_tellCap 33 = .ok (.aload_n 0, 1) := by decide +kernel
theorem dX10_tellCap_34 : decode cX10_tellCap 34 = .ok (.getfield 21, 3) := by decide +kernel
theorem dX10_tellCap_37 : decode cX10_tellCap 37 = .ok (.istore_n 3, 1) := by decide +kernel
theorem dX10_tellCap_38 : decode cX10_tellCap 38 = .ok (.aload_n 0, 1) := by decide +kernel
theorem dX10_tellCap_39 : decode cX10_tellCap 39 = .ok (.iload_n 1, 1) := by decide +kernel
theorem dX10_tellCap_40 : decode cX10_tellCap 40 = .ok (.putfield 21, 3) := by decide +kernel
theorem dX10_tellCap_43 : decode cX10_tellCap 43 = .ok (.aload_n 0, 1) := by decide +kernel
theorem dX10_tellCap_44 : decode cX10_tellCap 44 = .ok (.aload_n 0, 1) := by decide +kernel
theorem dX10_tellCap_45 : decode cX10_tellCap 45 = .ok (.getfield 21, 3) := by decide +kernel
theorem dX10_tellCap_48 : decode cX10_tellCap 48 = .ok (.ineg, 1) := by decide +kernel
theorem dX10_tellCap_49 : decode cX10_tellCap 49 = .ok (.aload_n 0, 1) := by decide +kernel
theorem dX10_tellCap_50 : decode cX10_tellCap 50 = .ok (.getfield 24, 3) := by decide +kernel
theorem dX10_tellCap_53 : decode cX10_tellCap 53 = .ok (.aload_n 0, 1) := by decide +kernel
theorem dX10_tellCap_54 : decode cX10_tellCap 54 = .ok (.getfield 21, 3) := by decide +kernel
theorem dX10_tellCap_57 : decode cX10_tellCap 57 = .ok (.invokestatic 40, 3) := by decide +kernel
theorem dX10_tellCap_60 : decode cX10_tellCap 60 = .ok (.putfield 24, 3) := by decide +kernel
theorem dX10_tellCap_63 : decode cX10_tellCap 63 = .ok (.iload_n 3, 1) := by decide +kernel
theorem dX10_tellCap_64 : decode cX10_tellCap 64 = .ok (.ireturn, 1) := by decide +kernel
theorem dX10_wantedDamper_0 : decode cX10_wantedDamper 0 = .ok (.bipush 10, 2) := by decide +kernel
theorem dX10_wantedDamper_2 : decode cX10_wantedDamper 2 = .ok (.aload_n 0, 1) := by decide +kernel
theorem dX10_wantedDamper_3 : decode cX10_wantedDamper 3 = .ok (.getfield 9, 3) := by decide +kernel
theorem dX10_wantedDamper_6 : decode cX10_wantedDamper 6 = .ok (.imul, 1) := by decide +kernel
theorem dX10_wantedDamper_7 : decode cX10_wantedDamper 7 = .ok (.iload_n 1, 1) := by decide +kernel
theorem dX10_wantedDamper_8 : decode cX10_wantedDamper 8 = .ok (.imul, 1) := by decide +kernel
theorem dX10_wantedDamper_9 : decode cX10_wantedDamper 9 = .ok (.aload_n 0, 1) := by decide +kernel
theorem dX10_wantedDamper_10 : decode cX10_wantedDamper 10 = .ok (.getfield 15, 3) := by decide +kernel
theorem dX10_wantedDamper_13 : decode cX10_wantedDamper 13 = .ok (.aload_n 0, 1) := by decide +kernel
theorem dX10_wantedDamper_14 : decode cX10_wantedDamper 14 = .ok (.iload_n 1, 1) := by decide +kernel
theorem dX10_wantedDamper_15 : decode cX10_wantedDamper 15 = .ok (.invokevirtual 44, 3) := by decide +kernel
theorem dX10_wantedDamper_18 : decode cX10_wantedDamper 18 = .ok (.imul, 1) := by decide +kernel
theorem dX10_wantedDamper_19 : decode cX10_wantedDamper 19 = .ok (.iadd, 1) := by decide +kernel
theorem dX10_wantedDamper_20 : decode cX10_wantedDamper 20 = .ok (.bipush 10, 2) := by decide +kernel
theorem dX10_wantedDamper_22 : decode cX10_wantedDamper 22 = .ok (.aload_n 0, 1) := by decide +kernel
theorem dX10_wantedDamper_23 : decode cX10_wantedDamper 23 = .ok (.getfield 18, 3) := by decide +kernel
theorem dX10_wantedDamper_26 : decode cX10_wantedDamper 26 = .ok (.imul, 1) := by decide +kernel
theorem dX10_wantedDamper_27 : decode cX10_wantedDamper 27 = .ok (.iload_n 1, 1) := by decide +kernel
theorem dX10_wantedDamper_28 : decode cX10_wantedDamper 28 = .ok (.aload_n 0, 1) := by decide +kernel
theorem dX10_wantedDamper_29 : decode cX10_wantedDamper 29 = .ok (.getfield 27, 3) := by decide +kernel
theorem dX10_wantedDamper_32 : decode cX10_wantedDamper 32 = .ok (.isub, 1) := by decide +kernel
theorem dX10_wantedDamper_33 : decode cX10_wantedDamper 33 = .ok (.imul, 1) := by decide +kernel
theorem dX10_wantedDamper_34 : decode cX10_wantedDamper 34 = .ok (.iadd, 1) := by decide +kernel
theorem dX10_wantedDamper_35 : decode cX10_wantedDamper 35 = .ok (.istore_n 2, 1) := by decide +kernel
theorem dX10_wantedDamper_36 : decode cX10_wantedDamper 36 = .ok (.iconst 0, 1) := by decide +kernel
theorem dX10_wantedDamper_37 : decode cX10_wantedDamper 37 = .ok (.iload_n 2, 1) := by decide +kernel
theorem dX10_wantedDamper_38 : decode cX10_wantedDamper 38 = .ok (.bipush 100, 2) := by decide +kernel
theorem dX10_wantedDamper_40 : decode cX10_wantedDamper 40 = .ok (.invokestatic 48, 3) := by decide +kernel
theorem dX10_wantedDamper_43 : decode cX10_wantedDamper 43 = .ok (.bipush 100, 2) := by decide +kernel
theorem dX10_wantedDamper_45 : decode cX10_wantedDamper 45 = .ok (.invokestatic 40, 3) := by decide +kernel
theorem dX10_wantedDamper_48 : decode cX10_wantedDamper 48 = .ok (.ireturn, 1) := by decide +kernel
theorem dX10_noteError_0 : decode cX10_noteError 0 = .ok (.aload_n 0, 1) := by decide +kernel
theorem dX10_noteError_1 : decode cX10_noteError 1 = .ok (.aload_n 0, 1) := by decide +kernel
theorem dX10_noteError_2 : decode cX10_noteError 2 = .ok (.iload_n 1, 1) := by decide +kernel
theorem dX10_noteError_3 : decode cX10_noteError 3 = .ok (.invokevirtual 44, 3) := by decide +kernel
theorem dX10_noteError_6 : decode cX10_noteError 6 = .ok (.putfield 24, 3) := by decide +kernel
theorem dX10_noteError_9 : decode cX10_noteError 9 = .ok (.aload_n 0, 1) := by decide +kernel
theorem dX10_noteError_10 : decode cX10_noteError 10 = .ok (.iload_n 1, 1) := by decide +kernel
theorem dX10_noteError_11 : decode cX10_noteError 11 = .ok (.putfield 27, 3) := by decide +kernel
theorem dX10_noteError_14 : decode cX10_noteError 14 = .ok (.return_, 1) := by decide +kernel
theorem dX10_sumWith_0 : decode cX10_sumWith 0 = .ok (.aload_n 0, 1) := by decide +kernel
theorem dX10_sumWith_1 : decode cX10_sumWith 1 = .ok (.getfield 21, 3) := by decide +kernel
theorem dX10_sumWith_4 : decode cX10_sumWith 4 = .ok (.ineg, 1) := by decide +kernel
theorem dX10_sumWith_5 : decode cX10_sumWith 5 = .ok (.aload_n 0, 1) := by decide +kernel
theorem dX10_sumWith_6 : decode cX10_sumWith 6 = .ok (.getfield 24, 3) := by decide +kernel
theorem dX10_sumWith_9 : decode cX10_sumWith 9 = .ok (.iload_n 1, 1) := by decide +kernel
theorem dX10_sumWith_10 : decode cX10_sumWith 10 = .ok (.iadd, 1) := by decide +kernel
theorem dX10_sumWith_11 : decode cX10_sumWith 11 = .ok (.aload_n 0, 1) := by decide +kernel
theorem dX10_sumWith_12 : decode cX10_sumWith 12 = .ok (.getfield 21, 3) := by decide +kernel
theorem dX10_sumWith_15 : decode cX10_sumWith 15 = .ok (.invokestatic 40, 3) := by decide +kernel
theorem dX10_sumWith_18 : decode cX10_sumWith 18 = .ok (.ireturn, 1) := by decide +kernel
theorem dX12_init_0 : decode cX12_init 0 = .ok (.aload_n 0, 1) := by decide +kernel
theorem dX12_init_1 : decode cX12_init 1 = .ok (.invokespecial 1, 3) := by decide +kernel
theorem dX12_init_4 : decode cX12_init 4 = .ok (.aload_n 0, 1) := by decide +kernel
theorem dX12_init_5 : decode cX12_init 5 = .ok (.new 7, 3) := by decide +kernel
theorem dX12_init_8 : decode cX12_init 8 = .ok (.dup, 1) := by decide +kernel
theorem dX12_init_9 : decode cX12_init 9 = .ok (.invokespecial 9, 3) := by decide +kernel
theorem dX12_init_12 : decode cX12_init 12 = .ok (.putfield 10, 3) := by decide +kernel
theorem dX12_init_15 : decode cX12_init 15 = .ok (.aload_n 0, 1) := by decide +kernel
theorem dX12_init_16 : decode cX12_init 16 = .ok (.new 7, 3) := by decide +kernel
theorem dX12_init_19 : decode cX12_init 19 = .ok (.dup, 1) := by decide +kernel
theorem dX12_init_20 : decode cX12_init 20 = .ok (.invokespecial 9, 3) := by decide +kernel
theorem dX12_init_23 : decode cX12_init 23 = .ok (.putfield 16, 3) := by decide +kernel
theorem dX12_init_26 : decode cX12_init 26 = .ok (.aload_n 0, 1) := by decide +kernel
theorem dX12_init_27 : decode cX12_init 27 = .ok (.new 7, 3) := by decide +kernel
theorem dX12_init_30 : decode cX12_init 30 = .ok (.dup, 1) := by decide +kernel
theorem dX12_init_31 : decode cX12_init 31 = .ok (.invokespecial 9, 3) := by decide +kernel
theorem dX12_init_34 : decode cX12_init 34 = .ok (.putfield 19, 3) := by decide +kernel
theorem dX12_init_37 : decode cX12_init 37 = .ok (.aload_n 0, 1) := by decide +kernel
theorem dX12_init_38 : decode cX12_init 38 = .ok (.iconst 0, 1) := by decide +kernel
theorem dX12_init_39 : decode cX12_init 39 = .ok (.putfield 22, 3) := by decide +kernel
theorem dX12_init_42 : decode cX12_init 42 = .ok (.aload_n 0, 1) := by decide +kernel
theorem dX12_init_43 : decode cX12_init 43 = .ok (.new 26, 3) := by decide +kernel
theorem dX12_init_46 : decode cX12_init 46 = .ok (.dup, 1) := by decide +kernel
theorem dX12_init_47 : decode cX12_init 47 = .ok (.invokespecial 28, 3) := by decide +kernel
theorem dX12_init_50 : decode cX12_init 50 = .ok (.putfield 29, 3) := by decide +kernel
theorem dX12_init_53 : decode cX12_init 53 = .ok (.aload_n 0, 1) := by decide +kernel
theorem dX12_init_54 : decode cX12_init 54 = .ok (.new 33, 3) := by decide +kernel
theorem dX12_init_57 : decode cX12_init 57 = .ok (.dup, 1) := by decide +kernel
theorem dX12_init_58 : decode cX12_init 58 = .ok (.invokespecial 35, 3) := by decide +kernel
theorem dX12_init_61 : decode cX12_init 61 = .ok (.putfield 36, 3) := by decide +kernel
theorem dX12_init_64 : decode cX12_init 64 = .ok (.aload_n 0, 1) := by decide +kernel
theorem dX12_init_65 : decode cX12_init 65 = .ok (.new 33, 3) := by decide +kernel
theorem dX12_init_68 : decode cX12_init 68 = .ok (.dup, 1) := by decide +kernel
theorem dX12_init_69 : decode cX12_init 69 = .ok (.invokespecial 35, 3) := by decide +kernel
theorem dX12_init_72 : decode cX12_init 72 = .ok (.putfield 40, 3) := by decide +kernel
theorem dX12_init_75 : decode cX12_init 75 = .ok (.aload_n 0, 1) := by decide +kernel
theorem dX12_init_76 : decode cX12_init 76 = .ok (.new 43, 3) := by decide +kernel
theorem dX12_init_79 : decode cX12_init 79 = .ok (.dup, 1) := by decide +kernel
theorem dX12_init_80 : decode cX12_init 80 = .ok (.invokespecial 45, 3) := by decide +kernel
theorem dX12_init_83 : decode cX12_init 83 = .ok (.putfield 46, 3) := by decide +kernel
theorem dX12_init_86 : decode cX12_init 86 = .ok (.aload_n 0, 1) := by decide +kernel
theorem dX12_init_87 : decode cX12_init 87 = .ok (.new 50, 3) := by decide +kernel
theorem dX12_init_90 : decode cX12_init 90 = .ok (.dup, 1) := by decide +kernel
theorem dX12_init_91 : decode cX12_init 91 = .ok (.invokespecial 52, 3) := by decide +kernel
theorem dX12_init_94 : decode cX12_init 94 = .ok (.putfield 53, 3) := by decide +kernel
theorem dX12_init_97 : decode cX12_init 97 = .ok (.return_, 1) := by decide +kernel
theorem dX12_aim_0 : decode cX12_aim 0 = .ok (.aload_n 0, 1) := by decide +kernel
theorem dX12_aim_1 : decode cX12_aim 1 = .ok (.invokevirtual 57, 3) := by decide +kernel
theorem dX12_aim_4 : decode cX12_aim 4 = .ok (.aload_n 0, 1) := by decide +kernel
theorem dX12_aim_5 : decode cX12_aim 5 = .ok (.aload_n 0, 1) := by decide +kernel
theorem dX12_aim_6 : decode cX12_aim 6 = .ok (.getfield 10, 3) := by decide +kernel
theorem dX12_aim_9 : decode cX12_aim 9 = .ok (.iload_n 1, 1) := by decide +kernel
theorem dX12_aim_10 : decode cX12_aim 10 = .ok (.aload_n 0, 1) := by decide +kernel
theorem dX12_aim_11 : decode cX12_aim 11 = .ok (.getfield 36, 3) := by decide +kernel
theorem dX12_aim_14 : decode cX12_aim 14 = .ok (.invokevirtual 60, 3) := by decide +kernel
theorem dX12_aim_17 : decode cX12_aim 17 = .ok (.invokevirtual 64, 3) := by decide +kernel
theorem dX12_aim_20 : decode cX12_aim 20 = .ok (.ireturn, 1) := by decide +kernel
theorem dX12_gains_0 : decode cX12_gains 0 = .ok (.aload_n 0, 1) := by decide +kernel
theorem dX12_gains_1 : decode cX12_gains 1 = .ok (.invokevirtual 57, 3) := by decide +kernel
theorem dX12_gains_4 : decode cX12_gains 4 = .ok (.aload_n 0, 1) := by decide +kernel
theorem dX12_gains_5 : decode cX12_gains 5 = .ok (.aload_n 0, 1) := by decide +kernel
theorem dX12_gains_6 : decode cX12_gains 6 = .ok (.getfield 10, 3) := by decide +kernel
theorem dX12_gains_9 : decode cX12_gains 9 = .ok (.getfield 68, 3) := by decide +kernel
theorem dX12_gains_12 : decode cX12_gains 12 = .ok (.iload_n 1, 1) := by decide +kernel
theorem dX12_gains_13 : decode cX12_gains 13 = .ok (.iload_n 2, 1) := by decide +kernel
theorem dX12_gains_14 : decode cX12_gains 14 = .ok (.iload_n 3, 1) := by decide +kernel
theorem dX12_gains_15 : decode cX12_gains 15 = .ok (.invokevirtual 72, 3) := by decide +kernel
theorem dX12_gains_18 : decode cX12_gains 18 = .ok (.invokevirtual 64, 3) := by decide +kernel
theorem dX12_gains_21 : decode cX12_gains 21 = .ok (.ireturn, 1) := by decide +kernel
theorem dX12_cap_0 : decode cX12_cap 0 = .ok (.aload_n 0, 1) := by decide +kernel
theorem dX12_cap_1 : decode cX12_cap 1 = .ok (.invokevirtual 57, 3) := by decide +kernel
theorem dX12_cap_4 : decode cX12_cap 4 = .ok (.aload_n 0, 1) := by decide +kernel
theorem dX12_cap_5 : decode cX12_cap 5 = .ok (.aload_n 0, 1) := by decide +kernel
theorem dX12_cap_6 : decode cX12_cap 6 = .ok (.getfield 10, 3) := by decide +kernel
theorem dX12_cap_9 : decode cX12_cap 9 = .ok (.getfield 68, 3) := by decide +kernel
theorem dX12_cap_12 : decode cX12_cap 12 = .ok (.iload_n 1, 1) := by decide +kernel
theorem dX12_cap_13 : decode cX12_cap 13 = .ok (.aload_n 0, 1) := by decide +kernel
theorem dX12_cap_14 : decode cX12_cap 14 = .ok (.getfield 36, 3) := by decide +kernel
theorem dX12_cap_17 : decode cX12_cap 17 = .ok (.invokevirtual 78, 3) := by decide +kernel
theorem dX12_cap_20 : decode cX12_cap 20 = .ok (.invokevirtual 64, 3) := by decide +kernel
theorem dX12_cap_23 : decode cX12_cap 23 = .ok (.ireturn, 1) := by decide +kernel
theorem dX12_lag_0 : decode cX12_lag 0 = .ok (.aload_n 0, 1) := by decide +kernel
theorem dX12_lag_1 : decode cX12_lag 1 = .ok (.invokevirtual 57, 3) := by decide +kernel
theorem dX12_lag_4 : decode cX12_lag 4 = .ok (.aload_n 0, 1) := by decide +kernel
theorem dX12_lag_5 : decode cX12_lag 5 = .ok (.aload_n 0, 1) := by decide +kernel
theorem dX12_lag_6 : decode cX12_lag 6 = .ok (.getfield 10, 3) := by decide +kernel
theorem dX12_lag_9 : decode cX12_lag 9 = .ok (.iload_n 1, 1) := by decide +kernel
theorem dX12_lag_10 : decode cX12_lag 10 = .ok (.aload_n 0, 1) := by decide +kernel
theorem dX12_lag_11 : decode cX12_lag 11 = .ok (.getfield 36, 3) := by decide +kernel
theorem dX12_lag_14 : decode cX12_lag 14 = .ok (.invokevirtual 81, 3) := by decide +kernel
theorem dX12_lag_17 : decode cX12_lag 17 = .ok (.invokevirtual 64, 3) := by decide +kernel
theorem dX12_lag_20 : decode cX12_lag 20 = .ok (.ireturn, 1) := by decide +kernel
theorem dX12_fuel_0 : decode cX12_fuel 0 = .ok (.aload_n 0, 1) := by decide +kernel
theorem dX12_fuel_1 : decode cX12_fuel 1 = .ok (.invokevirtual 57, 3) := by decide +kernel
theorem dX12_fuel_4 : decode cX12_fuel 4 = .ok (.aload_n 0, 1) := by decide +kernel
theorem dX12_fuel_5 : decode cX12_fuel 5 = .ok (.aload_n 0, 1) := by decide +kernel
theorem dX12_fuel_6 : decode cX12_fuel 6 = .ok (.getfield 10, 3) := by decide +kernel
theorem dX12_fuel_9 : decode cX12_fuel 9 = .ok (.getfield 84, 3) := by decide +kernel
theorem dX12_fuel_12 : decode cX12_fuel 12 = .ok (.iload_n 1, 1) := by decide +kernel
theorem dX12_fuel_13 : decode cX12_fuel 13 = .ok (.invokevirtual 88, 3) := by decide +kernel
theorem dX12_fuel_16 : decode cX12_fuel 16 = .ok (.invokevirtual 64, 3) := by decide +kernel
theorem dX12_fuel_19 : decode cX12_fuel 19 = .ok (.ireturn, 1) := by decide +kernel
theorem dX12_go_0 : decode cX12_go 0 = .ok (.aload_n 0, 1) := by decide +kernel
theorem dX12_go_1 : decode cX12_go 1 = .ok (.invokevirtual 57, 3) := by decide +kernel
theorem dX12_go_4 : decode cX12_go 4 = .ok (.aload_n 0, 1) := by decide +kernel
theorem dX12_go_5 : decode cX12_go 5 = .ok (.aload_n 0, 1) := by decide +kernel
theorem dX12_go_6 : decode cX12_go 6 = .ok (.getfield 10, 3) := by decide +kernel
theorem dX12_go_9 : decode cX12_go 9 = .ok (.iload_n 1, 1) := by decide +kernel
theorem dX12_go_10 : decode cX12_go 10 = .ok (.invokevirtual 93, 3) := by decide +kernel
theorem dX12_go_13 : decode cX12_go 13 = .ok (.invokevirtual 64, 3) := by decide +kernel
theorem dX12_go_16 : decode cX12_go 16 = .ok (.ireturn, 1) := by decide +kernel
theorem dX12_pot_0 : decode cX12_pot 0 = .ok (.aload_n 0, 1) := by decide +kernel
theorem dX12_pot_1 : decode cX12_pot 1 = .ok (.invokevirtual 57, 3) := by decide +kernel
theorem dX12_pot_4 : decode cX12_pot 4 = .ok (.aload_n 0, 1) := by decide +kernel
theorem dX12_pot_5 : decode cX12_pot 5 = .ok (.aload_n 0, 1) := by decide +kernel
theorem dX12_pot_6 : decode cX12_pot 6 = .ok (.getfield 10, 3) := by decide +kernel
theorem dX12_pot_9 : decode cX12_pot 9 = .ok (.getfield 96, 3) := by decide +kernel
theorem dX12_pot_12 : decode cX12_pot 12 = .ok (.iload_n 1, 1) := by decide +kernel
theorem dX12_pot_13 : decode cX12_pot 13 = .ok (.iload_n 2, 1) := by decide +kernel
theorem dX12_pot_14 : decode cX12_pot 14 = .ok (.iload_n 3, 1) := by decide +kernel
theorem dX12_pot_15 : decode cX12_pot 15 = .ok (.aload_n 0, 1) := by decide +kernel
theorem dX12_pot_16 : decode cX12_pot 16 = .ok (.getfield 36, 3) := by decide +kernel
theorem dX12_pot_19 : decode cX12_pot 19 = .ok (.invokevirtual 100, 3) := by decide +kernel
theorem dX12_pot_22 : decode cX12_pot 22 = .ok (.invokevirtual 64, 3) := by decide +kernel
theorem dX12_pot_25 : decode cX12_pot 25 = .ok (.ireturn, 1) := by decide +kernel
theorem dX12_put_0 : decode cX12_put 0 = .ok (.aload_n 0, 1) := by decide +kernel
theorem dX12_put_1 : decode cX12_put 1 = .ok (.invokevirtual 57, 3) := by decide +kernel
theorem dX12_put_4 : decode cX12_put 4 = .ok (.aload_n 0, 1) := by decide +kernel
theorem dX12_put_5 : decode cX12_put 5 = .ok (.aload_n 0, 1) := by decide +kernel
theorem dX12_put_6 : decode cX12_put 6 = .ok (.getfield 10, 3) := by decide +kernel
theorem dX12_put_9 : decode cX12_put 9 = .ok (.getfield 96, 3) := by decide +kernel
theorem dX12_put_12 : decode cX12_put 12 = .ok (.iload_n 1, 1) := by decide +kernel
theorem dX12_put_13 : decode cX12_put 13 = .ok (.aload_n 0, 1) := by decide +kernel
theorem dX12_put_14 : decode cX12_put 14 = .ok (.getfield 10, 3) := by decide +kernel
theorem dX12_put_17 : decode cX12_put 17 = .ok (.getfield 106, 3) := by decide +kernel
theorem dX12_put_20 : decode cX12_put 20 = .ok (.aload_n 0, 1) := by decide +kernel
theorem dX12_put_21 : decode cX12_put 21 = .ok (.getfield 36, 3) := by decide +kernel
theorem dX12_put_24 : decode cX12_put 24 = .ok (.invokevirtual 110, 3) := by decide +kernel
theorem dX12_put_27 : decode cX12_put 27 = .ok (.invokevirtual 64, 3) := by decide +kernel
theorem dX12_put_30 : decode cX12_put 30 = .ok (.ireturn, 1) := by decide +kernel
theorem dX12_take_0 : decode cX12_take 0 = .ok (.aload_n 0, 1) := by decide +kernel
theorem dX12_take_1 : decode cX12_take 1 = .ok (.invokevirtual 57, 3) := by decide +kernel
theorem dX12_take_4 : decode cX12_take 4 = .ok (.aload_n 0, 1) := by decide +kernel
theorem dX12_take_5 : decode cX12_take 5 = .ok (.aload_n 0, 1) := by decide +kernel
theorem dX12_take_6 : decode cX12_take 6 = .ok (.getfield 10, 3) := by decide +kernel
theorem dX12_take_9 : decode cX12_take 9 = .ok (.getfield 96, 3) := by decide +kernel
theorem dX12_take_12 : decode cX12_take 12 = .ok (.iload_n 1, 1) := by decide +kernel
theorem dX12_take_13 : decode cX12_take 13 = .ok (.aload_n 0, 1) := by decide +kernel
theorem dX12_take_14 : decode cX12_take 14 = .ok (.getfield 10, 3) := by decide +kernel
theorem dX12_take_17 : decode cX12_take 17 = .ok (.getfield 106, 3) := by decide +kernel
theorem dX12_take_20 : decode cX12_take 20 = .ok (.aload_n 0, 1) := by decide +kernel
theorem dX12_take_21 : decode cX12_take 21 = .ok (.getfield 36, 3) := by decide +kernel
theorem dX12_take_24 : decode cX12_take 24 = .ok (.invokevirtual 114, 3) := by decide +kernel
theorem dX12_take_27 : decode cX12_take 27 = .ok (.invokevirtual 64, 3) := by decide +kernel
theorem dX12_take_30 : decode cX12_take 30 = .ok (.ireturn, 1) := by decide +kernel
theorem dX12_potOf_0 : decode cX12_potOf 0 = .ok (.aload_n 0, 1) := by decide +kernel
theorem dX12_potOf_1 : decode cX12_potOf 1 = .ok (.getfield 10, 3) := by decide +kernel
theorem dX12_potOf_4 : decode cX12_potOf 4 = .ok (.getfield 96, 3) := by decide +kernel
theorem dX12_potOf_7 : decode cX12_potOf 7 = .ok (.iload_n 1, 1) := by decide +kernel
theorem dX12_potOf_8 : decode cX12_potOf 8 = .ok (.invokevirtual 117, 3) := by decide +kernel
theorem dX12_potOf_11 : decode cX12_potOf 11 = .ok (.astore_n 3, 1) := by decide +kernel
theorem dX12_potOf_12 : decode cX12_potOf 12 = .ok (.aload_n 3, 1) := by decide +kernel
theorem dX12_potOf_13 : decode cX12_potOf 13 = .ok (.ifnonnull 9, 3) := by decide +kernel
theorem dX12_potOf_16 : decode cX12_potOf 16 = .ok (.sipush (-10001), 3) := by decide +kernel
theorem dX12_potOf_19 : decode cX12_potOf 19 = .ok (.goto 8, 3) := by decide +kernel
theorem dX12_potOf_22 : decode cX12_potOf 22 = .ok (.aload_n 3, 1) := by decide +kernel
theorem dX12_potOf_23 : decode cX12_potOf 23 = .ok (.iload_n 2, 1) := by decide +kernel
theorem dX12_potOf_24 : decode cX12_potOf 24 = .ok (.invokevirtual 121, 3) := by decide +kernel
theorem dX12_potOf_27 : decode cX12_potOf 27 = .ok (.ireturn, 1) := by decide +kernel
theorem dX12_firedIn_0 : decode cX12_firedIn 0 = .ok (.aload_n 0, 1) := by decide +kernel
theorem dX12_firedIn_1 : decode cX12_firedIn 1 = .ok (.iconst 0, 1) := by decide +kernel
theorem dX12_firedIn_2 : decode cX12_firedIn 2 = .ok (.invokevirtual 126, 3) := by decide +kernel
theorem dX12_firedIn_5 : decode cX12_firedIn 5 = .ok (.getfield 96, 3) := by decide +kernel
theorem dX12_firedIn_8 : decode cX12_firedIn 8 = .ok (.iload_n 1, 1) := by decide +kernel
theorem dX12_firedIn_9 : decode cX12_firedIn 9 = .ok (.invokevirtual 117, 3) := by decide +kernel
theorem dX12_firedIn_12 : decode cX12_firedIn 12 = .ok (.astore_n 2, 1) := by decide +kernel
theorem dX12_firedIn_13 : decode cX12_firedIn 13 = .ok (.aload_n 2, 1) := by decide +kernel
theorem dX12_firedIn_14 : decode cX12_firedIn 14 = .ok (.ifnonnull 7, 3) := by decide +kernel
theorem dX12_firedIn_17 : decode cX12_firedIn 17 = .ok (.sipush (-10001), 3) := by decide +kernel
theorem dX12_firedIn_20 : decode cX12_firedIn 20 = .ok (.ireturn, 1) := by decide +kernel
theorem dX12_firedIn_21 : decode cX12_firedIn 21 = .ok (.iconst 0, 1) := by decide +kernel
theorem dX12_firedIn_22 : decode cX12_firedIn 22 = .ok (.istore_n 3, 1) := by decide +kernel
theorem dX12_firedIn_23 : decode cX12_firedIn 23 = .ok (.iload_n 3, 1) := by decide +kernel
theorem dX12_firedIn_24 : decode cX12_firedIn 24 = .ok (.sipush 300, 3) := by decide +kernel
theorem dX12_firedIn_27 : decode cX12_firedIn 27 = .ok (.if_icmp .ge 26, 3) := by decide +kernel
theorem dX12_firedIn_30 : decode cX12_firedIn 30 = .ok (.aload_n 2, 1) := by decide +kernel
theorem dX12_firedIn_31 : decode cX12_firedIn 31 = .ok (.getfield 130, 3) := by decide +kernel
theorem dX12_firedIn_34 : decode cX12_firedIn 34 = .ok (.iconst 2, 1) := by decide +kernel
theorem dX12_firedIn_35 : decode cX12_firedIn 35 = .ok (.if_icmp .ne 5, 3) := by decide +kernel
theorem dX12_firedIn_38 : decode cX12_firedIn 38 = .ok (.iload_n 3, 1) := by decide +kernel
theorem dX12_firedIn_39 : decode cX12_firedIn 39 = .ok (.ireturn, 1) := by decide +kernel
theorem dX12_firedIn_40 : decode cX12_firedIn 40 = .ok (.aload_n 0, 1) := by decide +kernel
theorem dX12_firedIn_41 : decode cX12_firedIn 41 = .ok (.getfield 16, 3) := by decide +kernel
theorem dX12_firedIn_44 : decode cX12_firedIn 44 = .ok (.invokevirtual 133, 3) := by decide +kernel
theorem dX12_firedIn_47 : decode cX12_firedIn 47 = .ok (.iinc 3 1, 3) := by decide +kernel
theorem dX12_firedIn_50 : decode cX12_firedIn 50 = .ok (.goto (-27), 3) := by decide +kernel
theorem dX12_firedIn_53 : decode cX12_firedIn 53 = .ok (.aload_n 2, 1) := by decide +kernel
theorem dX12_firedIn_54 : decode cX12_firedIn 54 = .ok (.getfield 130, 3) := by decide +kernel
theorem dX12_firedIn_57 : decode cX12_firedIn 57 = .ok (.iconst 2, 1) := by decide +kernel
theorem dX12_firedIn_58 : decode cX12_firedIn 58 = .ok (.if_icmp .ne 9, 3) := by decide +kernel
theorem dX12_firedIn_61 : decode cX12_firedIn 61 = .ok (.sipush 300, 3) := by decide +kernel
theorem dX12_firedIn_64 : decode cX12_firedIn 64 = .ok (.goto 6, 3) := by decide +kernel
theorem dX12_firedIn_67 : decode cX12_firedIn 67 = .ok (.sipush (-10005), 3) := by decide +kernel
theorem dX12_firedIn_70 : decode cX12_firedIn 70 = .ok (.ireturn, 1) := by decide +kernel
theorem dX12_wouldCrack_0 : decode cX12_wouldCrack 0 = .ok (.iconst 0, 1) := by decide +kernel
theorem dX12_wouldCrack_1 : decode cX12_wouldCrack 1 = .ok (.iload_n 1, 1) := by decide +kernel
theorem dX12_wouldCrack_2 : decode cX12_wouldCrack 2 = .ok (.sipush 300, 3) := by decide +kernel
theorem dX12_wouldCrack_5 : decode cX12_wouldCrack 5 = .ok (.invokestatic 136, 3) := by decide +kernel
theorem dX12_wouldCrack_8 : decode cX12_wouldCrack 8 = .ok (.ifCond .ne 7, 3) := by decide +kernel
theorem dX12_wouldCrack_11 : decode cX12_wouldCrack 11 = .ok (.sipush (-10002), 3) := by decide +kernel
theorem dX12_wouldCrack_14 : decode cX12_wouldCrack 14 = .ok (.ireturn, 1) := by decide +kernel
theorem dX12_wouldCrack_15 : decode cX12_wouldCrack 15 = .ok (.aload_n 0, 1) := by decide +kernel
theorem dX12_wouldCrack_16 : decode cX12_wouldCrack 16 = .ok (.iload_n 1, 1) := by decide +kernel
theorem dX12_wouldCrack_17 : decode cX12_wouldCrack 17 = .ok (.invokevirtual 126, 3) := by decide +kernel
theorem dX12_wouldCrack_20 : decode cX12_wouldCrack 20 = .ok (.getfield 96, 3) := by decide +kernel
theorem dX12_wouldCrack_23 : decode cX12_wouldCrack 23 = .ok (.invokevirtual 140, 3) := by decide +kernel
theorem dX12_wouldCrack_26 : decode cX12_wouldCrack 26 = .ok (.aload_n 0, 1) := by decide +kernel
theorem dX12_wouldCrack_27 : decode cX12_wouldCrack 27 = .ok (.getfield 10, 3) := by decide +kernel
theorem dX12_wouldCrack_30 : decode cX12_wouldCrack 30 = .ok (.getfield 96, 3) := by decide +kernel
theorem dX12_wouldCrack_33 : decode cX12_wouldCrack 33 = .ok (.invokevirtual 140, 3) := by decide +kernel
theorem dX12_wouldCrack_36 : decode cX12_wouldCrack 36 = .ok (.iconst (-1), 1) := by decide +kernel
theorem dX12_wouldCrack_37 : decode cX12_wouldCrack 37 = .ok (.ixor, 1) := by decide +kernel
theorem dX12_wouldCrack_38 : decode cX12_wouldCrack 38 = .ok (.iand, 1) := by decide +kernel
theorem dX12_wouldCrack_39 : decode cX12_wouldCrack 39 = .ok (.ireturn, 1) := by decide +kernel
theorem dX12_ranked_0 : decode cX12_ranked 0 = .ok (.aload_n 0, 1) := by decide +kernel
theorem dX12_ranked_1 : decode cX12_ranked 1 = .ok (.getfield 10, 3) := by decide +kernel
theorem dX12_ranked_4 : decode cX12_ranked 4 = .ok (.getfield 96, 3) := by decide +kernel
theorem dX12_ranked_7 : decode cX12_ranked 7 = .ok (.iload_n 1, 1) := by decide +kernel
theorem dX12_ranked_8 : decode cX12_ranked 8 = .ok (.invokevirtual 144, 3) := by decide +kernel
theorem dX12_ranked_11 : decode cX12_ranked 11 = .ok (.ireturn, 1) := by decide +kernel
theorem dX12_degreesIn_0 : decode cX12_degreesIn 0 = .ok (.iconst 0, 1) := by decide +kernel
theorem dX12_degreesIn_1 : decode cX12_degreesIn 1 = .ok (.iload_n 1, 1) := by decide +kernel
theorem dX12_degreesIn_2 : decode cX12_degreesIn 2 = .ok (.sipush 300, 3) := by decide +kernel
theorem dX12_degreesIn_5 : decode cX12_degreesIn 5 = .ok (.invokestatic 136, 3) := by decide +kernel
theorem dX12_degreesIn_8 : decode cX12_degreesIn 8 = .ok (.ifCond .eq 14, 3) := by decide +kernel
theorem dX12_degreesIn_11 : decode cX12_degreesIn 11 = .ok (.aload_n 0, 1) := by decide +kernel
theorem dX12_degreesIn_12 : decode cX12_degreesIn 12 = .ok (.iload_n 1, 1) := by decide +kernel
theorem dX12_degreesIn_13 : decode cX12_degreesIn 13 = .ok (.invokevirtual 126, 3) := by decide +kernel
theorem dX12_degreesIn_16 : decode cX12_degreesIn 16 = .ok (.getfield 106, 3) := by decide +kernel
theorem dX12_degreesIn_19 : decode cX12_degreesIn 19 = .ok (.goto 6, 3) := by decide +kernel
theorem dX12_degreesIn_22 : decode cX12_degreesIn 22 = .ok (.sipush (-10002), 3) := by decide +kernel
theorem dX12_degreesIn_25 : decode cX12_degreesIn 25 = .ok (.ireturn, 1) := by decide +kernel
theorem dX12_wanted_0 : decode cX12_wanted 0 = .ok (.aload_n 0, 1) := by decide +kernel
theorem dX12_wanted_1 : decode cX12_wanted 1 = .ok (.getfield 10, 3) := by decide +kernel
theorem dX12_wanted_4 : decode cX12_wanted 4 = .ok (.getfield 68, 3) := by decide +kernel
theorem dX12_wanted_7 : decode cX12_wanted 7 = .ok (.aload_n 0, 1) := by decide +kernel
theorem dX12_wanted_8 : decode cX12_wanted 8 = .ok (.getfield 10, 3) := by decide +kernel
theorem dX12_wanted_11 : decode cX12_wanted 11 = .ok (.invokevirtual 147, 3) := by decide +kernel
theorem dX12_wanted_14 : decode cX12_wanted 14 = .ok (.invokevirtual 150, 3) := by decide +kernel
theorem dX12_wanted_17 : decode cX12_wanted 17 = .ok (.ireturn, 1) := by decide +kernel
theorem dX12_settlesIn_0 : decode cX12_settlesIn 0 = .ok (.aload_n 0, 1) := by decide +kernel
theorem dX12_settlesIn_1 : decode cX12_settlesIn 1 = .ok (.iconst 0, 1) := by decide +kernel
theorem dX12_settlesIn_2 : decode cX12_settlesIn 2 = .ok (.invokevirtual 126, 3) := by decide +kernel
theorem dX12_settlesIn_5 : decode cX12_settlesIn 5 = .ok (.pop, 1) := by decide +kernel
theorem dX12_settlesIn_6 : decode cX12_settlesIn 6 = .ok (.iconst 0, 1) := by decide +kernel
theorem dX12_settlesIn_7 : decode cX12_settlesIn 7 = .ok (.istore_n 1, 1) := by decide +kernel
theorem dX12_settlesIn_8 : decode cX12_settlesIn 8 = .ok (.iconst 1, 1) := by decide +kernel
theorem dX12_settlesIn_9 : decode cX12_settlesIn 9 = .ok (.istore_n 2, 1) := by decide +kernel
theorem dX12_settlesIn_10 : decode cX12_settlesIn 10 = .ok (.iload_n 2, 1) := by decide +kernel
theorem dX12_settlesIn_11 : decode cX12_settlesIn 11 = .ok (.sipush 300, 3) := by decide +kernel
theorem dX12_settlesIn_14 : decode cX12_settlesIn 14 = .ok (.if_icmp .gt 48, 3) := by decide +kernel
theorem dX12_settlesIn_17 : decode cX12_settlesIn 17 = .ok (.aload_n 0, 1) := by decide +kernel
theorem dX12_settlesIn_18 : decode cX12_settlesIn 18 = .ok (.getfield 16, 3) := by decide +kernel
theorem dX12_settlesIn_21 : decode cX12_settlesIn 21 = .ok (.invokevirtual 133, 3) := by decide +kernel
theorem dX12_settlesIn_24 : decode cX12_settlesIn 24 = .ok (.bipush (-5), 2) := by decide +kernel
theorem dX12_settlesIn_26 : decode cX12_settlesIn 26 = .ok (.aload_n 0, 1) := by decide +kernel
theorem dX12_settlesIn_27 : decode cX12_settlesIn 27 = .ok (.getfield 16, 3) := by decide +kernel
theorem dX12_settlesIn_30 : decode cX12_settlesIn 30 = .ok (.invokevirtual 147, 3) := by decide +kernel
theorem dX12_settlesIn_33 : decode cX12_settlesIn 33 = .ok (.iconst 5, 1) := by decide +kernel
theorem dX12_settlesIn_34 : decode cX12_settlesIn 34 = .ok (.invokestatic 136, 3) := by decide +kernel
theorem dX12_settlesIn_37 : decode cX12_settlesIn 37 = .ok (.ifCond .eq 9, 3) := by decide +kernel
theorem dX12_settlesIn_40 : decode cX12_settlesIn 40 = .ok (.iload_n 1, 1) := by decide +kernel
theorem dX12_settlesIn_41 : decode cX12_settlesIn 41 = .ok (.iconst 1, 1) := by decide +kernel
theorem dX12_settlesIn_42 : decode cX12_settlesIn 42 = .ok (.iadd, 1) := by decide +kernel
theorem dX12_settlesIn_43 : decode cX12_settlesIn 43 = .ok (.goto 4, 3) := by decide +kernel
theorem dX12_settlesIn_46 : decode cX12_settlesIn 46 = .ok (.iconst 0, 1) := by decide +kernel
theorem dX12_settlesIn_47 : decode cX12_settlesIn 47 = .ok (.istore_n 1, 1) := by decide +kernel
theorem dX12_settlesIn_48 : decode cX12_settlesIn 48 = .ok (.iload_n 1, 1) := by decide +kernel
theorem dX12_settlesIn_49 : decode cX12_settlesIn 49 = .ok (.bipush 10, 2) := by decide +kernel
theorem dX12_settlesIn_51 : decode cX12_settlesIn 51 = .ok (.if_icmp .ne 5, 3) := by decide +kernel
theorem dX12_settlesIn_54 : decode cX12_settlesIn 54 = .ok (.iload_n 2, 1) := by decide +kernel
theorem dX12_settlesIn_55 : decode cX12_settlesIn 55 = .ok (.ireturn, 1) := by decide +kernel
theorem dX12_settlesIn_56 : decode cX12_settlesIn 56 = .ok (.iinc 2 1, 3) := by decide +kernel
theorem dX12_settlesIn_59 : decode cX12_settlesIn 59 = .ok (.goto (-49), 3) := by decide +kernel
theorem dX12_settlesIn_62 : decode cX12_settlesIn 62 = .ok (.sipush (-10005), 3) := by decide +kernel
theorem dX12_settlesIn_65 : decode cX12_settlesIn 65 = .ok (.ireturn, 1) := by decide +kernel
theorem dX12_wouldOvershoot_0 : decode cX12_wouldOvershoot 0 = .ok (.iconst 0, 1) := by decide +kernel
theorem dX12_wouldOvershoot_1 : decode cX12_wouldOvershoot 1 = .ok (.iload_n 1, 1) := by decide +kernel
theorem dX12_wouldOvershoot_2 : decode cX12_wouldOvershoot 2 = .ok (.sipush 300, 3) := by decide +kernel
theorem dX12_wouldOvershoot_5 : decode cX12_wouldOvershoot 5 = .ok (.invokestatic 136, 3) := by decide +kernel
theorem dX12_wouldOvershoot_8 : decode cX12_wouldOvershoot 8 = .ok (.ifCond .eq 14, 3) := by decide +kernel
theorem dX12_wouldOvershoot_11 : decode cX12_wouldOvershoot 11 = .ok (.aload_n 0, 1) := by decide +kernel
theorem dX12_wouldOvershoot_12 : decode cX12_wouldOvershoot 12 = .ok (.iload_n 1, 1) := by decide +kernel
theorem dX12_wouldOvershoot_13 : decode cX12_wouldOvershoot 13 = .ok (.invokevirtual 126, 3) := by decide +kernel
theorem dX12_wouldOvershoot_16 : decode cX12_wouldOvershoot 16 = .ok (.getfield 153, 3) := by decide +kernel
theorem dX12_wouldOvershoot_19 : decode cX12_wouldOvershoot 19 = .ok (.goto 6, 3) := by decide +kernel
theorem dX12_wouldOvershoot_22 : decode cX12_wouldOvershoot 22 = .ok (.sipush (-10002), 3) := by decide +kernel
theorem dX12_wouldOvershoot_25 : decode cX12_wouldOvershoot 25 = .ok (.ireturn, 1) := by decide +kernel
theorem dX12_logged_0 : decode cX12_logged 0 = .ok (.aload_n 0, 1) := by decide +kernel
theorem dX12_logged_1 : decode cX12_logged 1 = .ok (.getfield 10, 3) := by decide +kernel
theorem dX12_logged_4 : decode cX12_logged 4 = .ok (.getfield 84, 3) := by decide +kernel
theorem dX12_logged_7 : decode cX12_logged 7 = .ok (.iload_n 1, 1) := by decide +kernel
theorem dX12_logged_8 : decode cX12_logged 8 = .ok (.iload_n 2, 1) := by decide +kernel
theorem dX12_logged_9 : decode cX12_logged 9 = .ok (.invokevirtual 156, 3) := by decide +kernel
theorem dX12_logged_12 : decode cX12_logged 12 = .ok (.ireturn, 1) := by decide +kernel
theorem dX12_burnt_0 : decode cX12_burnt 0 = .ok (.aload_n 0, 1) := by decide +kernel
theorem dX12_burnt_1 : decode cX12_burnt 1 = .ok (.getfield 10, 3) := by decide +kernel
theorem dX12_burnt_4 : decode cX12_burnt 4 = .ok (.getfield 84, 3) := by decide +kernel
theorem dX12_burnt_7 : decode cX12_burnt 7 = .ok (.getfield 160, 3) := by decide +kernel
theorem dX12_burnt_10 : decode cX12_burnt 10 = .ok (.ireturn, 1) := by decide +kernel
theorem dX12_burntAgain_0 : decode cX12_burntAgain 0 = .ok (.aload_n 0, 1) := by decide +kernel
theorem dX12_burntAgain_1 : decode cX12_burntAgain 1 = .ok (.getfield 10, 3) := by decide +kernel
theorem dX12_burntAgain_4 : decode cX12_burntAgain 4 = .ok (.getfield 84, 3) := by decide +kernel
theorem dX12_burntAgain_7 : decode cX12_burntAgain 7 = .ok (.invokevirtual 163, 3) := by decide +kernel
theorem dX12_burntAgain_10 : decode cX12_burntAgain 10 = .ok (.ireturn, 1) := by decide +kernel
theorem dX12_minutesWith_0 : decode cX12_minutesWith 0 = .ok (.iconst 0, 1) := by decide +kernel
theorem dX12_minutesWith_1 : decode cX12_minutesWith 1 = .ok (.iload_n 1, 1) := by decide +kernel
theorem dX12_minutesWith_2 : decode cX12_minutesWith 2 = .ok (.bipush 100, 2) := by decide +kernel
theorem dX12_minutesWith_4 : decode cX12_minutesWith 4 = .ok (.invokestatic 136, 3) := by decide +kernel
theorem dX12_minutesWith_7 : decode cX12_minutesWith 7 = .ok (.ifCond .eq 20, 3) := by decide +kernel
theorem dX12_minutesWith_10 : decode cX12_minutesWith 10 = .ok (.aload_n 0, 1) := by decide +kernel
theorem dX12_minutesWith_11 : decode cX12_minutesWith 11 = .ok (.getfield 10, 3) := by decide +kernel
theorem dX12_minutesWith_14 : decode cX12_minutesWith 14 = .ok (.getfield 84, 3) := by decide +kernel
theorem dX12_minutesWith_17 : decode cX12_minutesWith 17 = .ok (.getfield 166, 3) := by decide +kernel
theorem dX12_minutesWith_20 : decode cX12_minutesWith 20 = .ok (.iload_n 1, 1) := by decide +kernel
theorem dX12_minutesWith_21 : decode cX12_minutesWith 21 = .ok (.invokestatic 170, 3) := by decide +kernel
theorem dX12_minutesWith_24 : decode cX12_minutesWith 24 = .ok (.goto 6, 3) := by decide +kernel
theorem dX12_minutesWith_27 : decode cX12_minutesWith 27 = .ok (.sipush (-10002), 3) := by decide +kernel
theorem dX12_minutesWith_30 : decode cX12_minutesWith 30 = .ok (.ireturn, 1) := by decide +kernel
theorem dX12_append_0 : decode cX12_append 0 = .ok (.aload_n 0, 1) := by decide +kernel
theorem dX12_append_1 : decode cX12_append 1 = .ok (.getfield 46, 3) := by decide +kernel
theorem dX12_append_4 : decode cX12_append 4 = .ok (.iload_n 1, 1) := by decide +kernel
theorem dX12_append_5 : decode cX12_append 5 = .ok (.invokevirtual 174, 3) := by decide +kernel
theorem dX12_append_8 : decode cX12_append 8 = .ok (.ireturn, 1) := by decide +kernel
theorem dX12_run_0 : decode cX12_run 0 = .ok (.aload_n 0, 1) := by decide +kernel
theorem dX12_run_1 : decode cX12_run 1 = .ok (.getfield 46, 3) := by decide +kernel
theorem dX12_run_4 : decode cX12_run 4 = .ok (.invokevirtual 177, 3) := by decide +kernel
theorem dX12_run_7 : decode cX12_run 7 = .ok (.istore_n 1, 1) := by decide +kernel
theorem dX12_run_8 : decode cX12_run 8 = .ok (.aload_n 0, 1) := by decide +kernel
theorem dX12_run_9 : decode cX12_run 9 = .ok (.getfield 46, 3) := by decide +kernel
theorem dX12_run_12 : decode cX12_run 12 = .ok (.invokevirtual 180, 3) := by decide +kernel
theorem dX12_run_15 : decode cX12_run 15 = .ok (.iload_n 1, 1) := by decide +kernel
theorem dX12_run_16 : decode cX12_run 16 = .ok (.ifCond .ge 5, 3) := by decide +kernel
theorem dX12_run_19 : decode cX12_run 19 = .ok (.iload_n 1, 1) := by decide +kernel
theorem dX12_run_20 : decode cX12_run 20 = .ok (.ireturn, 1) := by decide +kernel
theorem dX12_run_21 : decode cX12_run 21 = .ok (.aload_n 0, 1) := by decide +kernel
theorem dX12_run_22 : decode cX12_run 22 = .ok (.invokevirtual 57, 3) := by decide +kernel
theorem dX12_run_25 : decode cX12_run 25 = .ok (.iconst 0, 1) := by decide +kernel
theorem dX12_run_26 : decode cX12_run 26 = .ok (.istore_n 2, 1) := by decide +kernel
theorem dX12_run_27 : decode cX12_run 27 = .ok (.iload_n 2, 1) := by decide +kernel
theorem dX12_run_28 : decode cX12_run 28 = .ok (.iload_n 1, 1) := by decide +kernel
theorem dX12_run_29 : decode cX12_run 29 = .ok (.if_icmp .ge 39, 3) := by decide +kernel
theorem dX12_run_32 : decode cX12_run 32 = .ok (.aload_n 0, 1) := by decide +kernel
theorem dX12_run_33 : decode cX12_run 33 = .ok (.aload_n 0, 1) := by decide +kernel
theorem dX12_run_34 : decode cX12_run 34 = .ok (.getfield 46, 3) := by decide +kernel
theorem dX12_run_37 : decode cX12_run 37 = .ok (.iload_n 2, 1) := by decide +kernel
theorem dX12_run_38 : decode cX12_run 38 = .ok (.invokevirtual 183, 3) := by decide +kernel
theorem dX12_run_41 : decode cX12_run 41 = .ok (.invokevirtual 187, 3) := by decide +kernel
theorem dX12_run_44 : decode cX12_run 44 = .ok (.ifCond .ge 18, 3) := by decide +kernel
theorem dX12_run_47 : decode cX12_run 47 = .ok (.aload_n 0, 1) := by decide +kernel
theorem dX12_run_48 : decode cX12_run 48 = .ok (.aload_n 0, 1) := by decide +kernel
theorem dX12_run_49 : decode cX12_run 49 = .ok (.getfield 36, 3) := by decide +kernel
theorem dX12_run_52 : decode cX12_run 52 = .ok (.bipush 6, 2) := by decide +kernel
theorem dX12_run_54 : decode cX12_run 54 = .ok (.iload_n 2, 1) := by decide +kernel
theorem dX12_run_55 : decode cX12_run 55 = .ok (.invokevirtual 191, 3) := by decide +kernel
theorem dX12_run_58 : decode cX12_run 58 = .ok (.invokevirtual 64, 3) := by decide +kernel
theorem dX12_run_61 : decode cX12_run 61 = .ok (.ireturn, 1) := by decide +kernel
theorem dX12_run_62 : decode cX12_run 62 = .ok (.iinc 2 1, 3) := by decide +kernel
theorem dX12_run_65 : decode cX12_run 65 = .ok (.goto (-38), 3) := by decide +kernel
theorem dX12_run_68 : decode cX12_run 68 = .ok (.aload_n 0, 1) := by decide +kernel
theorem dX12_run_69 : decode cX12_run 69 = .ok (.iload_n 1, 1) := by decide +kernel
theorem dX12_run_70 : decode cX12_run 70 = .ok (.invokevirtual 64, 3) := by decide +kernel
theorem dX12_run_73 : decode cX12_run 73 = .ok (.ireturn, 1) := by decide +kernel
theorem dX12_tell_0 : decode cX12_tell 0 = .ok (.aload_n 0, 1) := by decide +kernel
theorem dX12_tell_1 : decode cX12_tell 1 = .ok (.getfield 53, 3) := by decide +kernel
theorem dX12_tell_4 : decode cX12_tell 4 = .ok (.iconst 0, 1) := by decide +kernel
theorem dX12_tell_5 : decode cX12_tell 5 = .ok (.invokevirtual 194, 3) := by decide +kernel
theorem dX12_tell_8 : decode cX12_tell 8 = .ok (.aload_n 0, 1) := by decide +kernel
theorem dX12_tell_9 : decode cX12_tell 9 = .ok (.getfield 10, 3) := by decide +kernel
theorem dX12_tell_12 : decode cX12_tell 12 = .ok (.aload_n 0, 1) := by decide +kernel
theorem dX12_tell_13 : decode cX12_tell 13 = .ok (.getfield 53, 3) := by decide +kernel
theorem dX12_tell_16 : decode cX12_tell 16 = .ok (.invokevirtual 198, 3) := by decide +kernel
theorem dX12_tell_19 : decode cX12_tell 19 = .ok (.aload_n 0, 1) := by decide +kernel
theorem dX12_tell_20 : decode cX12_tell 20 = .ok (.getfield 53, 3) := by decide +kernel
theorem dX12_tell_23 : decode cX12_tell 23 = .ok (.invokevirtual 202, 3) := by decide +kernel
theorem dX12_tell_26 : decode cX12_tell 26 = .ok (.ireturn, 1) := by decide +kernel
theorem dX12_tellPot_0 : decode cX12_tellPot 0 = .ok (.aload_n 0, 1) := by decide +kernel
theorem dX12_tellPot_1 : decode cX12_tellPot 1 = .ok (.getfield 10, 3) := by decide +kernel
theorem dX12_tellPot_4 : decode cX12_tellPot 4 = .ok (.getfield 96, 3) := by decide +kernel
theorem dX12_tellPot_7 : decode cX12_tellPot 7 = .ok (.iload_n 1, 1) := by decide +kernel
theorem dX12_tellPot_8 : decode cX12_tellPot 8 = .ok (.invokevirtual 117, 3) := by decide +kernel
theorem dX12_tellPot_11 : decode cX12_tellPot 11 = .ok (.astore_n 2, 1) := by decide +kernel
theorem dX12_tellPot_12 : decode cX12_tellPot 12 = .ok (.aload_n 2, 1) := by decide +kernel
theorem dX12_tellPot_13 : decode cX12_tellPot 13 = .ok (.ifnonnull 7, 3) := by decide +kernel
theorem dX12_tellPot_16 : decode cX12_tellPot 16 = .ok (.sipush (-10001), 3) := by decide +kernel
theorem dX12_tellPot_19 : decode cX12_tellPot 19 = .ok (.ireturn, 1) := by decide +kernel
theorem dX12_tellPot_20 : decode cX12_tellPot 20 = .ok (.aload_n 0, 1) := by decide +kernel
theorem dX12_tellPot_21 : decode cX12_tellPot 21 = .ok (.getfield 53, 3) := by decide +kernel
theorem dX12_tellPot_24 : decode cX12_tellPot 24 = .ok (.iconst 0, 1) := by decide +kernel
theorem dX12_tellPot_25 : decode cX12_tellPot 25 = .ok (.invokevirtual 194, 3) := by decide +kernel
theorem dX12_tellPot_28 : decode cX12_tellPot 28 = .ok (.aload_n 0, 1) := by decide +kernel
theorem dX12_tellPot_29 : decode cX12_tellPot 29 = .ok (.getfield 53, 3) := by decide +kernel
theorem dX12_tellPot_32 : decode cX12_tellPot 32 = .ok (.iload_n 1, 1) := by decide +kernel
theorem dX12_tellPot_33 : decode cX12_tellPot 33 = .ok (.invokevirtual 205, 3) := by decide +kernel
theorem dX12_tellPot_36 : decode cX12_tellPot 36 = .ok (.pop, 1) := by decide +kernel
theorem dX12_tellPot_37 : decode cX12_tellPot 37 = .ok (.aload_n 2, 1) := by decide +kernel
theorem dX12_tellPot_38 : decode cX12_tellPot 38 = .ok (.aload_n 0, 1) := by decide +kernel
theorem dX12_tellPot_39 : decode cX12_tellPot 39 = .ok (.getfield 53, 3) := by decide +kernel
theorem dX12_tellPot_42 : decode cX12_tellPot 42 = .ok (.invokevirtual 209, 3) := by decide +kernel
theorem dX12_tellPot_45 : decode cX12_tellPot 45 = .ok (.aload_n 0, 1) := by decide +kernel
theorem dX12_tellPot_46 : decode cX12_tellPot 46 = .ok (.getfield 53, 3) := by decide +kernel
theorem dX12_tellPot_49 : decode cX12_tellPot 49 = .ok (.invokevirtual 202, 3) := by decide +kernel
theorem dX12_tellPot_52 : decode cX12_tellPot 52 = .ok (.ireturn, 1) := by decide +kernel
theorem dX12_character_0 : decode cX12_character 0 = .ok (.iload_n 1, 1) := by decide +kernel
theorem dX12_character_1 : decode cX12_character 1 = .ok (.ifCond .lt 25, 3) := by decide +kernel
theorem dX12_character_4 : decode cX12_character 4 = .ok (.iload_n 1, 1) := by decide +kernel
theorem dX12_character_5 : decode cX12_character 5 = .ok (.aload_n 0, 1) := by decide +kernel
theorem dX12_character_6 : decode cX12_character 6 = .ok (.getfield 53, 3) := by decide +kernel
theorem dX12_character_9 : decode cX12_character 9 = .ok (.invokevirtual 202, 3) := by decide +kernel
theorem dX12_character_12 : decode cX12_character 12 = .ok (.if_icmp .ge 14, 3) := by decide +kernel
theorem dX12_character_15 : decode cX12_character 15 = .ok (.aload_n 0, 1) := by decide +kernel
theorem dX12_character_16 : decode cX12_character 16 = .ok (.getfield 53, 3) := by decide +kernel
theorem dX12_character_19 : decode cX12_character 19 = .ok (.iload_n 1, 1) := by decide +kernel
theorem dX12_character_20 : decode cX12_character 20 = .ok (.invokevirtual 210, 3) := by decide +kernel
theorem dX12_character_23 : decode cX12_character 23 = .ok (.goto 6, 3) := by decide +kernel
theorem dX12_character_26 : decode cX12_character 26 = .ok (.sipush (-10001), 3) := by decide +kernel
theorem dX12_character_29 : decode cX12_character 29 = .ok (.ireturn, 1) := by decide +kernel
theorem dX12_reason_0 : decode cX12_reason 0 = .ok (.aload_n 0, 1) := by decide +kernel
theorem dX12_reason_1 : decode cX12_reason 1 = .ok (.getfield 36, 3) := by decide +kernel
theorem dX12_reason_4 : decode cX12_reason 4 = .ok (.getfield 214, 3) := by decide +kernel
theorem dX12_reason_7 : decode cX12_reason 7 = .ok (.ifCond .ne 7, 3) := by decide +kernel
theorem dX12_reason_10 : decode cX12_reason 10 = .ok (.sipush (-10005), 3) := by decide +kernel
theorem dX12_reason_13 : decode cX12_reason 13 = .ok (.ireturn, 1) := by decide +kernel
theorem dX12_reason_14 : decode cX12_reason 14 = .ok (.iload_n 1, 1) := by decide +kernel
theorem dX12_reason_15 : decode cX12_reason 15 = .ok (.ifCond .eq 13, 3) := by decide +kernel
theorem dX12_reason_18 : decode cX12_reason 18 = .ok (.aload_n 0, 1) := by decide +kernel
theorem dX12_reason_19 : decode cX12_reason 19 = .ok (.getfield 36, 3) := by decide +kernel
theorem dX12_reason_22 : decode cX12_reason 22 = .ok (.getfield 217, 3) := by decide +kernel
theorem dX12_reason_25 : decode cX12_reason 25 = .ok (.goto 10, 3) := by decide +kernel
theorem dX12_reason_28 : decode cX12_reason 28 = .ok (.aload_n 0, 1) := by decide +kernel
theorem dX12_reason_29 : decode cX12_reason 29 = .ok (.getfield 36, 3) := by decide +kernel
theorem dX12_reason_32 : decode cX12_reason 32 = .ok (.getfield 214, 3) := by decide +kernel
theorem dX12_reason_35 : decode cX12_reason 35 = .ok (.ireturn, 1) := by decide +kernel
theorem dX12_account_0 : decode cX12_account 0 = .ok (.iload_n 1, 1) := by decide +kernel
theorem dX12_account_1 : decode cX12_account 1 = .ok (.lookupswitch 43 #[(16, 27), (17, 35)], 27) := by decide +kernel
theorem dX12_account_28 : decode cX12_account 28 = .ok (.aload_n 0, 1) := by decide +kernel
theorem dX12_account_29 : decode cX12_account 29 = .ok (.getfield 46, 3) := by decide +kernel
theorem dX12_account_32 : decode cX12_account 32 = .ok (.invokevirtual 220, 3) := by decide +kernel
theorem dX12_account_35 : decode cX12_account 35 = .ok (.ireturn, 1) := by decide +kernel
theorem dX12_account_36 : decode cX12_account 36 = .ok (.aload_n 0, 1) := by decide +kernel
theorem dX12_account_37 : decode cX12_account 37 = .ok (.getfield 29, 3) := by decide +kernel
theorem dX12_account_40 : decode cX12_account 40 = .ok (.getfield 223, 3) := by decide +kernel
theorem dX12_account_43 : decode cX12_account 43 = .ok (.ireturn, 1) := by decide +kernel
theorem dX12_account_44 : decode cX12_account 44 = .ok (.aload_n 0, 1) := by decide +kernel
theorem dX12_account_45 : decode cX12_account 45 = .ok (.getfield 10, 3) := by decide +kernel
theorem dX12_account_48 : decode cX12_account 48 = .ok (.iload_n 1, 1) := by decide +kernel
theorem dX12_account_49 : decode cX12_account 49 = .ok (.invokevirtual 226, 3) := by decide +kernel
theorem dX12_account_52 : decode cX12_account 52 = .ok (.ireturn, 1) := by decide +kernel
theorem dX12_isBalanced_0 : decode cX12_isBalanced 0 = .ok (.aload_n 0, 1) := by decide +kernel
theorem dX12_isBalanced_1 : decode cX12_isBalanced 1 = .ok (.getfield 10, 3) := by decide +kernel
theorem dX12_isBalanced_4 : decode cX12_isBalanced 4 = .ok (.getfield 84, 3) := by decide +kernel
theorem dX12_isBalanced_7 : decode cX12_isBalanced 7 = .ok (.invokevirtual 229, 3) := by decide +kernel
theorem dX12_isBalanced_10 : decode cX12_isBalanced 10 = .ok (.ifCond .eq 20, 3) := by decide +kernel
theorem dX12_isBalanced_13 : decode cX12_isBalanced 13 = .ok (.aload_n 0, 1) := by decide +kernel
theorem dX12_isBalanced_14 : decode cX12_isBalanced 14 = .ok (.getfield 10, 3) := by decide +kernel
theorem dX12_isBalanced_17 : decode cX12_isBalanced 17 = .ok (.getfield 96, 3) := by decide +kernel
theorem dX12_isBalanced_20 : decode cX12_isBalanced 20 = .ok (.invokevirtual 233, 3) := by decide +kernel
theorem dX12_isBalanced_23 : decode cX12_isBalanced 23 = .ok (.ifCond .eq 7, 3) := by decide +kernel
theorem dX12_isBalanced_26 : decode cX12_isBalanced 26 = .ok (.iconst 1, 1) := by decide +kernel
theorem dX12_isBalanced_27 : decode cX12_isBalanced 27 = .ok (.goto 4, 3) := by decide +kernel
theorem dX12_isBalanced_30 : decode cX12_isBalanced 30 = .ok (.iconst 0, 1) := by decide +kernel
theorem dX12_isBalanced_31 : decode cX12_isBalanced 31 = .ok (.ireturn, 1) := by decide +kernel
theorem dX12_meanBurnt_0 : decode cX12_meanBurnt 0 = .ok (.aload_n 0, 1) := by decide +kernel
theorem dX12_meanBurnt_1 : decode cX12_meanBurnt 1 = .ok (.getfield 10, 3) := by decide +kernel
theorem dX12_meanBurnt_4 : decode cX12_meanBurnt 4 = .ok (.getfield 84, 3) := by decide +kernel
theorem dX12_meanBurnt_7 : decode cX12_meanBurnt 7 = .ok (.getfield 236, 3) := by decide +kernel
theorem dX12_meanBurnt_10 : decode cX12_meanBurnt 10 = .ok (.istore_n 1, 1) := by decide +kernel
theorem dX12_meanBurnt_11 : decode cX12_meanBurnt 11 = .ok (.iload_n 1, 1) := by decide +kernel
theorem dX12_meanBurnt_12 : decode cX12_meanBurnt 12 = .ok (.ifCond .ne 7, 3) := by decide +kernel
theorem dX12_meanBurnt_15 : decode cX12_meanBurnt 15 = .ok (.dconst 0, 1) := by decide +kernel
theorem dX12_meanBurnt_16 : decode cX12_meanBurnt 16 = .ok (.goto 17, 3) := by decide +kernel
theorem dX12_meanBurnt_19 : decode cX12_meanBurnt 19 = .ok (.aload_n 0, 1) := by decide +kernel
theorem dX12_meanBurnt_20 : decode cX12_meanBurnt 20 = .ok (.getfield 10, 3) := by decide +kernel
theorem dX12_meanBurnt_23 : decode cX12_meanBurnt 23 = .ok (.getfield 84, 3) := by decide +kernel
theorem dX12_meanBurnt_26 : decode cX12_meanBurnt 26 = .ok (.getfield 160, 3) := by decide +kernel
theorem dX12_meanBurnt_29 : decode cX12_meanBurnt 29 = .ok (.i2d, 1) := by decide +kernel
theorem dX12_meanBurnt_30 : decode cX12_meanBurnt 30 = .ok (.iload_n 1, 1) := by decide +kernel
theorem dX12_meanBurnt_31 : decode cX12_meanBurnt 31 = .ok (.i2d, 1) := by decide +kernel
theorem dX12_meanBurnt_32 : decode cX12_meanBurnt 32 = .ok (.ddiv, 1) := by decide +kernel
theorem dX12_meanBurnt_33 : decode cX12_meanBurnt 33 = .ok (.dreturn, 1) := by decide +kernel
theorem dX12_firedShare_0 : decode cX12_firedShare 0 = .ok (.aload_n 0, 1) := by decide +kernel
theorem dX12_firedShare_1 : decode cX12_firedShare 1 = .ok (.getfield 10, 3) := by decide +kernel
theorem dX12_firedShare_4 : decode cX12_firedShare 4 = .ok (.getfield 96, 3) := by decide +kernel
theorem dX12_firedShare_7 : decode cX12_firedShare 7 = .ok (.getfield 239, 3) := by decide +kernel
theorem dX12_firedShare_10 : decode cX12_firedShare 10 = .ok (.istore_n 1, 1) := by decide +kernel
theorem dX12_firedShare_11 : decode cX12_firedShare 11 = .ok (.iload_n 1, 1) := by decide +kernel
theorem dX12_firedShare_12 : decode cX12_firedShare 12 = .ok (.ifCond .ne 7, 3) := by decide +kernel
theorem dX12_firedShare_15 : decode cX12_firedShare 15 = .ok (.fconst 0, 1) := by decide +kernel
theorem dX12_firedShare_16 : decode cX12_firedShare 16 = .ok (.goto 18, 3) := by decide +kernel
theorem dX12_firedShare_19 : decode cX12_firedShare 19 = .ok (.aload_n 0, 1) := by decide +kernel
theorem dX12_firedShare_20 : decode cX12_firedShare 20 = .ok (.getfield 10, 3) := by decide +kernel
theorem dX12_firedShare_23 : decode cX12_firedShare 23 = .ok (.getfield 96, 3) := by decide +kernel
theorem dX12_firedShare_26 : decode cX12_firedShare 26 = .ok (.iconst 2, 1) := by decide +kernel
theorem dX12_firedShare_27 : decode cX12_firedShare 27 = .ok (.invokevirtual 240, 3) := by decide +kernel
theorem dX12_firedShare_30 : decode cX12_firedShare 30 = .ok (.i2f, 1) := by decide +kernel
theorem dX12_firedShare_31 : decode cX12_firedShare 31 = .ok (.iload_n 1, 1) := by decide +kernel
theorem dX12_firedShare_32 : decode cX12_firedShare 32 = .ok (.i2f, 1) := by decide +kernel
theorem dX12_firedShare_33 : decode cX12_firedShare 33 = .ok (.fdiv, 1) := by decide +kernel
theorem dX12_firedShare_34 : decode cX12_firedShare 34 = .ok (.freturn, 1) := by decide +kernel
theorem dX12_undo_0 : decode cX12_undo 0 = .ok (.aload_n 0, 1) := by decide +kernel
theorem dX12_undo_1 : decode cX12_undo 1 = .ok (.getfield 29, 3) := by decide +kernel
theorem dX12_undo_4 : decode cX12_undo 4 = .ok (.aload_n 0, 1) := by decide +kernel
theorem dX12_undo_5 : decode cX12_undo 5 = .ok (.getfield 10, 3) := by decide +kernel
theorem dX12_undo_8 : decode cX12_undo 8 = .ok (.invokevirtual 243, 3) := by decide +kernel
theorem dX12_undo_11 : decode cX12_undo 11 = .ok (.ireturn, 1) := by decide +kernel
theorem dX12_save_0 : decode cX12_save 0 = .ok (.aload_n 0, 1) := by decide +kernel
theorem dX12_save_1 : decode cX12_save 1 = .ok (.getfield 19, 3) := by decide +kernel
theorem dX12_save_4 : decode cX12_save 4 = .ok (.aload_n 0, 1) := by decide +kernel
theorem dX12_save_5 : decode cX12_save 5 = .ok (.getfield 10, 3) := by decide +kernel
theorem dX12_save_8 : decode cX12_save 8 = .ok (.invokevirtual 247, 3) := by decide +kernel
theorem dX12_save_11 : decode cX12_save 11 = .ok (.aload_n 0, 1) := by decide +kernel
theorem dX12_save_12 : decode cX12_save 12 = .ok (.iconst 1, 1) := by decide +kernel
theorem dX12_save_13 : decode cX12_save 13 = .ok (.putfield 22, 3) := by decide +kernel
theorem dX12_save_16 : decode cX12_save 16 = .ok (.aload_n 0, 1) := by decide +kernel
theorem dX12_save_17 : decode cX12_save 17 = .ok (.getfield 10, 3) := by decide +kernel
theorem dX12_save_20 : decode cX12_save 20 = .ok (.getfield 84, 3) := by decide +kernel
theorem dX12_save_23 : decode cX12_save 23 = .ok (.getfield 236, 3) := by decide +kernel
theorem dX12_save_26 : decode cX12_save 26 = .ok (.ireturn, 1) := by decide +kernel
theorem dX12_restore_0 : decode cX12_restore 0 = .ok (.aload_n 0, 1) := by decide +kernel
theorem dX12_restore_1 : decode cX12_restore 1 = .ok (.getfield 22, 3) := by decide +kernel
theorem dX12_restore_4 : decode cX12_restore 4 = .ok (.ifCond .ne 7, 3) := by decide +kernel
theorem dX12_restore_7 : decode cX12_restore 7 = .ok (.sipush (-10005), 3) := by decide +kernel
theorem dX12_restore_10 : decode cX12_restore 10 = .ok (.ireturn, 1) := by decide +kernel
theorem dX12_restore_11 : decode cX12_restore 11 = .ok (.aload_n 0, 1) := by decide +kernel
theorem dX12_restore_12 : decode cX12_restore 12 = .ok (.getfield 10, 3) := by decide +kernel
theorem dX12_restore_15 : decode cX12_restore 15 = .ok (.aload_n 0, 1) := by decide +kernel
theorem dX12_restore_16 : decode cX12_restore 16 = .ok (.getfield 19, 3) := by decide +kernel
theorem dX12_restore_19 : decode cX12_restore 19 = .ok (.invokevirtual 247, 3) := by decide +kernel
theorem dX12_restore_22 : decode cX12_restore 22 = .ok (.aload_n 0, 1) := by decide +kernel
theorem dX12_restore_23 : decode cX12_restore 23 = .ok (.getfield 29, 3) := by decide +kernel
theorem dX12_restore_26 : decode cX12_restore 26 = .ok (.iconst 0, 1) := by decide +kernel
theorem dX12_restore_27 : decode cX12_restore 27 = .ok (.putfield 223, 3) := by decide +kernel
theorem dX12_restore_30 : decode cX12_restore 30 = .ok (.aload_n 0, 1) := by decide +kernel
theorem dX12_restore_31 : decode cX12_restore 31 = .ok (.getfield 10, 3) := by decide +kernel
theorem dX12_restore_34 : decode cX12_restore 34 = .ok (.getfield 84, 3) := by decide +kernel
theorem dX12_restore_37 : decode cX12_restore 37 = .ok (.getfield 236, 3) := by decide +kernel
theorem dX12_restore_40 : decode cX12_restore 40 = .ok (.ireturn, 1) := by decide +kernel
theorem dX12_beginChange_0 : decode cX12_beginChange 0 = .ok (.aload_n 0, 1) := by decide +kernel
theorem dX12_beginChange_1 : decode cX12_beginChange 1 = .ok (.getfield 16, 3) := by decide +kernel
theorem dX12_beginChange_4 : decode cX12_beginChange 4 = .ok (.aload_n 0, 1) := by decide +kernel
theorem dX12_beginChange_5 : decode cX12_beginChange 5 = .ok (.getfield 10, 3) := by decide +kernel
theorem dX12_beginChange_8 : decode cX12_beginChange 8 = .ok (.invokevirtual 247, 3) := by decide +kernel
theorem dX12_beginChange_11 : decode cX12_beginChange 11 = .ok (.return_, 1) := by decide +kernel
theorem dX12_endChange_0 : decode cX12_endChange 0 = .ok (.iload_n 1, 1) := by decide +kernel
theorem dX12_endChange_1 : decode cX12_endChange 1 = .ok (.ifCond .ge 17, 3) := by decide +kernel
theorem dX12_endChange_4 : decode cX12_endChange 4 = .ok (.aload_n 0, 1) := by decide +kernel
theorem dX12_endChange_5 : decode cX12_endChange 5 = .ok (.getfield 10, 3) := by decide +kernel
theorem dX12_endChange_8 : decode cX12_endChange 8 = .ok (.aload_n 0, 1) := by decide +kernel
theorem dX12_endChange_9 : decode cX12_endChange 9 = .ok (.getfield 16, 3) := by decide +kernel
theorem dX12_endChange_12 : decode cX12_endChange 12 = .ok (.invokevirtual 247, 3) := by decide +kernel
theorem dX12_endChange_15 : decode cX12_endChange 15 = .ok (.goto 14, 3) := by decide +kernel
theorem dX12_endChange_18 : decode cX12_endChange 18 = .ok (.aload_n 0, 1) := by decide +kernel
theorem dX12_endChange_19 : decode cX12_endChange 19 = .ok (.getfield 29, 3) := by decide +kernel
theorem dX12_endChange_22 : decode cX12_endChange 22 = .ok (.aload_n 0, 1) := by decide +kernel
theorem dX12_endChange_23 : decode cX12_endChange 23 = .ok (.getfield 16, 3) := by decide +kernel
theorem dX12_endChange_26 : decode cX12_endChange 26 = .ok (.invokevirtual 251, 3) := by decide +kernel
theorem dX12_endChange_29 : decode cX12_endChange 29 = .ok (.iload_n 1, 1) := by decide +kernel
theorem dX12_endChange_30 : decode cX12_endChange 30 = .ok (.ireturn, 1) := by decide +kernel
theorem dX12_tryMinutes_0 : decode cX12_tryMinutes 0 = .ok (.aload_n 0, 1) := by decide +kernel
theorem dX12_tryMinutes_1 : decode cX12_tryMinutes 1 = .ok (.getfield 16, 3) := by decide +kernel
theorem dX12_tryMinutes_4 : decode cX12_tryMinutes 4 = .ok (.aload_n 0, 1) := by decide +kernel
theorem dX12_tryMinutes_5 : decode cX12_tryMinutes 5 = .ok (.getfield 10, 3) := by decide +kernel
theorem dX12_tryMinutes_8 : decode cX12_tryMinutes 8 = .ok (.invokevirtual 247, 3) := by decide +kernel
theorem dX12_tryMinutes_11 : decode cX12_tryMinutes 11 = .ok (.iconst 0, 1) := by decide +kernel
theorem dX12_tryMinutes_12 : decode cX12_tryMinutes 12 = .ok (.istore_n 2, 1) := by decide +kernel
theorem dX12_tryMinutes_13 : decode cX12_tryMinutes 13 = .ok (.iload_n 2, 1) := by decide +kernel
theorem dX12_tryMinutes_14 : decode cX12_tryMinutes 14 = .ok (.iload_n 1, 1) := by decide +kernel
theorem dX12_tryMinutes_15 : decode cX12_tryMinutes 15 = .ok (.if_icmp .ge 16, 3) := by decide +kernel
theorem dX12_tryMinutes_18 : decode cX12_tryMinutes 18 = .ok (.aload_n 0, 1) := by decide +kernel
theorem dX12_tryMinutes_19 : decode cX12_tryMinutes 19 = .ok (.getfield 16, 3) := by decide +kernel
theorem dX12_tryMinutes_22 : decode cX12_tryMinutes 22 = .ok (.invokevirtual 133, 3) := by decide +kernel
theorem dX12_tryMinutes_25 : decode cX12_tryMinutes 25 = .ok (.iinc 2 1, 3) := by decide +kernel
theorem dX12_tryMinutes_28 : decode cX12_tryMinutes 28 = .ok (.goto (-15), 3) := by decide +kernel
theorem dX12_tryMinutes_31 : decode cX12_tryMinutes 31 = .ok (.aload_n 0, 1) := by decide +kernel
theorem dX12_tryMinutes_32 : decode cX12_tryMinutes 32 = .ok (.getfield 16, 3) := by decide +kernel
theorem dX12_tryMinutes_35 : decode cX12_tryMinutes 35 = .ok (.areturn, 1) := by decide +kernel
theorem dX12_carryOut_0 : decode cX12_carryOut 0 = .ok (.aload_n 1, 1) := by decide +kernel
theorem dX12_carryOut_1 : decode cX12_carryOut 1 = .ok (.ifnull 10, 3) := by decide +kernel
theorem dX12_carryOut_4 : decode cX12_carryOut 4 = .ok (.aload_n 1, 1) := by decide +kernel
theorem dX12_carryOut_5 : decode cX12_carryOut 5 = .ok (.getfield 254, 3) := by decide +kernel
theorem dX12_carryOut_8 : decode cX12_carryOut 8 = .ok (.ifnonnull 7, 3) := by decide +kernel
theorem dX12_carryOut_11 : decode cX12_carryOut 11 = .ok (.sipush (-10001), 3) := by decide +kernel
theorem dX12_carryOut_14 : decode cX12_carryOut 14 = .ok (.ireturn, 1) := by decide +kernel
theorem dX12_carryOut_15 : decode cX12_carryOut 15 = .ok (.aload_n 1, 1) := by decide +kernel
theorem dX12_carryOut_16 : decode cX12_carryOut 16 = .ok (.getfield 260, 3) := by decide +kernel
theorem dX12_carryOut_19 : decode cX12_carryOut 19 = .ok (.iconst 0, 1) := by decide +kernel
theorem dX12_carryOut_20 : decode cX12_carryOut 20 = .ok (.invokestatic 170, 3) := by decide +kernel
theorem dX12_carryOut_23 : decode cX12_carryOut 23 = .ok (.istore_n 2, 1) := by decide +kernel
theorem dX12_carryOut_24 : decode cX12_carryOut 24 = .ok (.aload_n 1, 1) := by decide +kernel
theorem dX12_carryOut_25 : decode cX12_carryOut 25 = .ok (.getfield 260, 3) := by decide +kernel
theorem dX12_carryOut_28 : decode cX12_carryOut 28 = .ok (.iconst 1, 1) := by decide +kernel
theorem dX12_carryOut_29 : decode cX12_carryOut 29 = .ok (.invokestatic 170, 3) := by decide +kernel
theorem dX12_carryOut_32 : decode cX12_carryOut 32 = .ok (.istore_n 3, 1) := by decide +kernel
theorem dX12_carryOut_33 : decode cX12_carryOut 33 = .ok (.aload_n 1, 1) := by decide +kernel
theorem dX12_carryOut_34 : decode cX12_carryOut 34 = .ok (.getfield 260, 3) := by decide +kernel
theorem dX12_carryOut_37 : decode cX12_carryOut 37 = .ok (.iconst 2, 1) := by decide +kernel
theorem dX12_carryOut_38 : decode cX12_carryOut 38 = .ok (.invokestatic 170, 3) := by decide +kernel
theorem dX12_carryOut_41 : decode cX12_carryOut 41 = .ok (.istore 4, 2) := by decide +kernel
theorem dX12_carryOut_43 : decode cX12_carryOut 43 = .ok (.getstatic 263, 3) := by decide +kernel
theorem dX12_carryOut_46 : decode cX12_carryOut 46 = .ok (.aload_n 1, 1) := by decide +kernel
theorem dX12_carryOut_47 : decode cX12_carryOut 47 = .ok (.getfield 254, 3) := by decide +kernel
theorem dX12_carryOut_50 : decode cX12_carryOut 50 = .ok (.invokevirtual 268, 3) := by decide +kernel
theorem dX12_carryOut_53 : decode cX12_carryOut 53 = .ok (.iaload, 1) := by decide +kernel
theorem dX12_carryOut_54 : decode cX12_carryOut 54 = .ok (.tableswitch 180 1 8 #[46, 59, 74, 90, 103, 122, 145, 168], 46) := by decide +kernel
theorem dX12_carryOut_100 : decode cX12_carryOut 100 = .ok (.aload_n 0, 1) := by decide +kernel
theorem dX12_carryOut_101 : decode cX12_carryOut 101 = .ok (.getfield 10, 3) := by decide +kernel
theorem dX12_carryOut_104 : decode cX12_carryOut 104 = .ok (.iload_n 2, 1) := by decide +kernel
theorem dX12_carryOut_105 : decode cX12_carryOut 105 = .ok (.aload_n 0, 1) := by decide +kernel
theorem dX12_carryOut_106 : decode cX12_carryOut 106 = .ok (.getfield 40, 3) := by decide +kernel
theorem dX12_carryOut_109 : decode cX12_carryOut 109 = .ok (.invokevirtual 60, 3) := by decide +kernel
theorem dX12_carryOut_112 : decode cX12_carryOut 112 = .ok (.ireturn, 1) := by decide +kernel
theorem dX12_carryOut_113 : decode cX12_carryOut 113 = .ok (.aload_n 0, 1) := by decide +kernel
theorem dX12_carryOut_114 : decode cX12_carryOut 114 = .ok (.getfield 10, 3) := by decide +kernel
theorem dX12_carryOut_117 : decode cX12_carryOut 117 = .ok (.getfield 68, 3) := by decide +kernel
theorem dX12_carryOut_120 : decode cX12_carryOut 120 = .ok (.iload_n 2, 1) := by decide +kernel
theorem dX12_carryOut_121 : decode cX12_carryOut 121 = .ok (.iload_n 3, 1) := by decide +kernel
theorem dX12_carryOut_122 : decode cX12_carryOut 122 = .ok (.iload 4, 2) := by decide +kernel
theorem dX12_carryOut_124 : decode cX12_carryOut 124 = .ok (.invokevirtual 72, 3) := by decide +kernel
theorem dX12_carryOut_127 : decode cX12_carryOut 127 = .ok (.ireturn, 1) := by decide +kernel
theorem dX12_carryOut_128 : decode cX12_carryOut 128 = .ok (.aload_n 0, 1) := by decide +kernel
theorem dX12_carryOut_129 : decode cX12_carryOut 129 = .ok (.getfield 10, 3) := by decide +kernel
theorem dX12_carryOut_132 : decode cX12_carryOut 132 = .ok (.getfield 68, 3) := by decide +kernel
theorem dX12_carryOut_135 : decode cX12_carryOut 135 = .ok (.iload_n 2, 1) := by decide +kernel
theorem dX12_carryOut_136 : decode cX12_carryOut 136 = .ok (.aload_n 0, 1) := by decide +kernel
theorem dX12_carryOut_137 : decode cX12_carryOut 137 = .ok (.getfield 40, 3) := by decide +kernel
theorem dX12_carryOut_140 : decode cX12_carryOut 140 = .ok (.invokevirtual 78, 3) := by decide +kernel
theorem dX12_carryOut_143 : decode cX12_carryOut 143 = .ok (.ireturn, 1) := by decide +kernel
theorem dX12_carryOut_144 : decode cX12_carryOut 144 = .ok (.aload_n 0, 1) := by decide +kernel
theorem dX12_carryOut_145 : decode cX12_carryOut 145 = .ok (.getfield 10, 3) := by decide +kernel
theorem dX12_carryOut_148 : decode cX12_carryOut 148 = .ok (.iload_n 2, 1) := by decide +kernel
theorem dX12_carryOut_149 : decode cX12_carryOut 149 = .ok (.aload_n 0, 1) := by decide +kernel
theorem dX12_carryOut_150 : decode cX12_carryOut 150 = .ok (.getfield 40, 3) := by decide +kernel
theorem dX12_carryOut_153 : decode cX12_carryOut 153 = .ok (.invokevirtual 81, 3) := by decide +kernel
theorem dX12_carryOut_156 : decode cX12_carryOut 156 = .ok (.ireturn, 1) := by decide +kernel
theorem dX12_carryOut_157 : decode cX12_carryOut 157 = .ok (.aload_n 0, 1) := by decide +kernel
theorem dX12_carryOut_158 : decode cX12_carryOut 158 = .ok (.getfield 10, 3) := by decide +kernel
theorem dX12_carryOut_161 : decode cX12_carryOut 161 = .ok (.getfield 96, 3) := by decide +kernel
theorem dX12_carryOut_164 : decode cX12_carryOut 164 = .ok (.iload_n 2, 1) := by decide +kernel
theorem dX12_carryOut_165 : decode cX12_carryOut 165 = .ok (.iload_n 3, 1) := by decide +kernel
theorem dX12_carryOut_166 : decode cX12_carryOut 166 = .ok (.iload 4, 2) := by decide +kernel
theorem dX12_carryOut_168 : decode cX12_carryOut 168 = .ok (.aload_n 0, 1) := by decide +kernel
theorem dX12_carryOut_169 : decode cX12_carryOut 169 = .ok (.getfield 40, 3) := by decide +kernel
theorem dX12_carryOut_172 : decode cX12_carryOut 172 = .ok (.invokevirtual 100, 3) := by decide +kernel
theorem dX12_carryOut_175 : decode cX12_carryOut 175 = .ok (.ireturn, 1) := by decide +kernel
theorem dX12_carryOut_176 : decode cX12_carryOut 176 = .ok (.aload_n 0, 1) := by decide +kernel
theorem dX12_carryOut_177 : decode cX12_carryOut 177 = .ok (.getfield 10, 3) := by decide +kernel
theorem dX12_carryOut_180 : decode cX12_carryOut 180 = .ok (.getfield 96, 3) := by decide +kernel
theorem dX12_carryOut_183 : decode cX12_carryOut 183 = .ok (.iload_n 2, 1) := by decide +kernel
theorem dX12_carryOut_184 : decode cX12_carryOut 184 = .ok (.aload_n 0, 1) := by decide +kernel
theorem dX12_carryOut_185 : decode cX12_carryOut 185 = .ok (.getfield 10, 3) := by decide +kernel
theorem dX12_carryOut_188 : decode cX12_carryOut 188 = .ok (.getfield 106, 3) := by decide +kernel
theorem dX12_carryOut_191 : decode cX12_carryOut 191 = .ok (.aload_n 0, 1) := by decide +kernel
theorem dX12_carryOut_192 : decode cX12_carryOut 192 = .ok (.getfield 40, 3) := by decide +kernel
theorem dX12_carryOut_195 : decode cX12_carryOut 195 = .ok (.invokevirtual 110, 3) := by decide +kernel
theorem dX12_carryOut_198 : decode cX12_carryOut 198 = .ok (.ireturn, 1) := by decide +kernel
theorem dX12_carryOut_199 : decode cX12_carryOut 199 = .ok (.aload_n 0, 1) := by decide +kernel
theorem dX12_carryOut_200 : decode cX12_carryOut 200 = .ok (.getfield 10, 3) := by decide +kernel
theorem dX12_carryOut_203 : decode cX12_carryOut 203 = .ok (.getfield 96, 3) := by decide +kernel
theorem dX12_carryOut_206 : decode cX12_carryOut 206 = .ok (.iload_n 2, 1) := by decide +kernel
theorem dX12_carryOut_207 : decode cX12_carryOut 207 = .ok (.aload_n 0, 1) := by decide +kernel
theorem dX12_carryOut_208 : decode cX12_carryOut 208 = .ok (.getfield 10, 3) := by decide +kernel
theorem dX12_carryOut_211 : decode cX12_carryOut 211 = .ok (.getfield 106, 3) := by decide +kernel
theorem dX12_carryOut_214 : decode cX12_carryOut 214 = .ok (.aload_n 0, 1) := by decide +kernel
theorem dX12_carryOut_215 : decode cX12_carryOut 215 = .ok (.getfield 40, 3) := by decide +kernel
theorem dX12_carryOut_218 : decode cX12_carryOut 218 = .ok (.invokevirtual 114, 3) := by decide +kernel
theorem dX12_carryOut_221 : decode cX12_carryOut 221 = .ok (.ireturn, 1) := by decide +kernel
theorem dX12_carryOut_222 : decode cX12_carryOut 222 = .ok (.aload_n 0, 1) := by decide +kernel
theorem dX12_carryOut_223 : decode cX12_carryOut 223 = .ok (.getfield 10, 3) := by decide +kernel
theorem dX12_carryOut_226 : decode cX12_carryOut 226 = .ok (.getfield 84, 3) := by decide +kernel
theorem dX12_carryOut_229 : decode cX12_carryOut 229 = .ok (.iload_n 2, 1) := by decide +kernel
theorem dX12_carryOut_230 : decode cX12_carryOut 230 = .ok (.invokevirtual 88, 3) := by decide +kernel
theorem dX12_carryOut_233 : decode cX12_carryOut 233 = .ok (.ireturn, 1) := by decide +kernel
theorem dX12_carryOut_234 : decode cX12_carryOut 234 = .ok (.aload_n 0, 1) := by decide +kernel
theorem dX12_carryOut_235 : decode cX12_carryOut 235 = .ok (.getfield 10, 3) := by decide +kernel
theorem dX12_carryOut_238 : decode cX12_carryOut 238 = .ok (.iload_n 2, 1) := by decide +kernel
theorem dX12_carryOut_239 : decode cX12_carryOut 239 = .ok (.invokevirtual 93, 3) := by decide +kernel
theorem dX12_carryOut_242 : decode cX12_carryOut 242 = .ok (.ireturn, 1) := by decide +kernel
theorem dX12_isFrom_0 : decode cX12_isFrom 0 = .ok (.iload_n 1, 1) := by decide +kernel
theorem dX12_isFrom_1 : decode cX12_isFrom 1 = .ok (.iload_n 0, 1) := by decide +kernel
theorem dX12_isFrom_2 : decode cX12_isFrom 2 = .ok (.if_icmp .lt 12, 3) := by decide +kernel
theorem dX12_isFrom_5 : decode cX12_isFrom 5 = .ok (.iload_n 1, 1) := by decide +kernel
theorem dX12_isFrom_6 : decode cX12_isFrom 6 = .ok (.iload_n 2, 1) := by decide +kernel
theorem dX12_isFrom_7 : decode cX12_isFrom 7 = .ok (.if_icmp .gt 7, 3) := by decide +kernel
theorem dX12_isFrom_10 : decode cX12_isFrom 10 = .ok (.iconst 1, 1) := by decide +kernel
theorem dX12_isFrom_11 : decode cX12_isFrom 11 = .ok (.goto 4, 3) := by decide +kernel
theorem dX12_isFrom_14 : decode cX12_isFrom 14 = .ok (.iconst 0, 1) := by decide +kernel
theorem dX12_isFrom_15 : decode cX12_isFrom 15 = .ok (.ireturn, 1) := by decide +kernel
theorem dX12_between_0 : decode cX12_between 0 = .ok (.iload_n 1, 1) := by decide +kernel
theorem dX12_between_1 : decode cX12_between 1 = .ok (.iload_n 0, 1) := by decide +kernel
theorem dX12_between_2 : decode cX12_between 2 = .ok (.if_icmp .ge 5, 3) := by decide +kernel
theorem dX12_between_5 : decode cX12_between 5 = .ok (.iload_n 0, 1) := by decide +kernel
theorem dX12_between_6 : decode cX12_between 6 = .ok (.ireturn, 1) := by decide +kernel
theorem dX12_between_7 : decode cX12_between 7 = .ok (.iload_n 1, 1) := by decide +kernel
theorem dX12_between_8 : decode cX12_between 8 = .ok (.iload_n 2, 1) := by decide +kernel
theorem dX12_between_9 : decode cX12_between 9 = .ok (.if_icmp .le 7, 3) := by decide +kernel
theorem dX12_between_12 : decode cX12_between 12 = .ok (.iload_n 2, 1) := by decide +kernel
theorem dX12_between_13 : decode cX12_between 13 = .ok (.goto 4, 3) := by decide +kernel
theorem dX12_between_16 : decode cX12_between 16 = .ok (.iload_n 1, 1) := by decide +kernel
theorem dX12_between_17 : decode cX12_between 17 = .ok (.ireturn, 1) := by decide +kernel
theorem dX12_numberAt_0 : decode cX12_numberAt 0 = .ok (.iload_n 1, 1) := by decide +kernel
theorem dX12_numberAt_1 : decode cX12_numberAt 1 = .ok (.ifCond .lt 15, 3) := by decide +kernel
theorem dX12_numberAt_4 : decode cX12_numberAt 4 = .ok (.iload_n 1, 1) := by decide +kernel
theorem dX12_numberAt_5 : decode cX12_numberAt 5 = .ok (.aload_n 0, 1) := by decide +kernel
theorem dX12_numberAt_6 : decode cX12_numberAt 6 = .ok (.arraylength, 1) := by decide +kernel
theorem dX12_numberAt_7 : decode cX12_numberAt 7 = .ok (.if_icmp .ge 9, 3) := by decide +kernel
theorem dX12_numberAt_10 : decode cX12_numberAt 10 = .ok (.aload_n 0, 1) := by decide +kernel
theorem dX12_numberAt_11 : decode cX12_numberAt 11 = .ok (.iload_n 1, 1) := by decide +kernel
theorem dX12_numberAt_12 : decode cX12_numberAt 12 = .ok (.iaload, 1) := by decide +kernel
theorem dX12_numberAt_13 : decode cX12_numberAt 13 = .ok (.goto 4, 3) := by decide +kernel
theorem dX12_numberAt_16 : decode cX12_numberAt 16 = .ok (.iconst 0, 1) := by decide +kernel
theorem dX12_numberAt_17 : decode cX12_numberAt 17 = .ok (.ireturn, 1) := by decide +kernel
theorem dX12_setNumberAt_0 : decode cX12_setNumberAt 0 = .ok (.iload_n 1, 1) := by decide +kernel
theorem dX12_setNumberAt_1 : decode cX12_setNumberAt 1 = .ok (.ifCond .lt 13, 3) := by decide +kernel
theorem dX12_setNumberAt_4 : decode cX12_setNumberAt 4 = .ok (.iload_n 1, 1) := by decide +kernel
theorem dX12_setNumberAt_5 : decode cX12_setNumberAt 5 = .ok (.aload_n 0, 1) := by decide +kernel
theorem dX12_setNumberAt_6 : decode cX12_setNumberAt 6 = .ok (.arraylength, 1) := by decide +kernel
theorem dX12_setNumberAt_7 : decode cX12_setNumberAt 7 = .ok (.if_icmp .ge 7, 3) := by decide +kernel
theorem dX12_setNumberAt_10 : decode cX12_setNumberAt 10 = .ok (.aload_n 0, 1) := by decide +kernel
theorem dX12_setNumberAt_11 : decode cX12_setNumberAt 11 = .ok (.iload_n 1, 1) := by decide +kernel
theorem dX12_setNumberAt_12 : decode cX12_setNumberAt 12 = .ok (.iload_n 2, 1) := by decide +kernel
theorem dX12_setNumberAt_13 : decode cX12_setNumberAt 13 = .ok (.iastore, 1) := by decide +kernel
theorem dX12_setNumberAt_14 : decode cX12_setNumberAt 14 = .ok (.return_, 1) := by decide +kernel
theorem dX12_copyRow_0 : decode cX12_copyRow 0 = .ok (.iconst 0, 1) := by decide +kernel
theorem dX12_copyRow_1 : decode cX12_copyRow 1 = .ok (.istore_n 2, 1) := by decide +kernel
theorem dX12_copyRow_2 : decode cX12_copyRow 2 = .ok (.iload_n 2, 1) := by decide +kernel
theorem dX12_copyRow_3 : decode cX12_copyRow 3 = .ok (.aload_n 0, 1) := by decide +kernel
theorem dX12_copyRow_4 : decode cX12_copyRow 4 = .ok (.arraylength, 1) := by decide +kernel
theorem dX12_copyRow_5 : decode cX12_copyRow 5 = .ok (.if_icmp .ge 21, 3) := by decide +kernel
theorem dX12_copyRow_8 : decode cX12_copyRow 8 = .ok (.iload_n 2, 1) := by decide +kernel
theorem dX12_copyRow_9 : decode cX12_copyRow 9 = .ok (.aload_n 1, 1) := by decide +kernel
theorem dX12_copyRow_10 : decode cX12_copyRow 10 = .ok (.arraylength, 1) := by decide +kernel
theorem dX12_copyRow_11 : decode cX12_copyRow 11 = .ok (.if_icmp .ge 15, 3) := by decide +kernel
theorem dX12_copyRow_14 : decode cX12_copyRow 14 = .ok (.aload_n 1, 1) := by decide +kernel
theorem dX12_copyRow_15 : decode cX12_copyRow 15 = .ok (.iload_n 2, 1) := by decide +kernel
theorem dX12_copyRow_16 : decode cX12_copyRow 16 = .ok (.aload_n 0, 1) := by decide +kernel
theorem dX12_copyRow_17 : decode cX12_copyRow 17 = .ok (.iload_n 2, 1) := by decide +kernel
theorem dX12_copyRow_18 : decode cX12_copyRow 18 = .ok (.iaload, 1) := by decide +kernel
theorem dX12_copyRow_19 : decode cX12_copyRow 19 = .ok (.iastore, 1) := by decide +kernel
theorem dX12_copyRow_20 : decode cX12_copyRow 20 = .ok (.iinc 2 1, 3) := by decide +kernel
theorem dX12_copyRow_23 : decode cX12_copyRow 23 = .ok (.goto (-21), 3) := by decide +kernel
theorem dX12_copyRow_26 : decode cX12_copyRow 26 = .ok (.return_, 1) := by decide +kernel
theorem dX13_init_0 : decode cX13_init 0 = .ok (.aload_n 0, 1) := by decide +kernel
theorem dX13_init_1 : decode cX13_init 1 = .ok (.invokespecial 1, 3) := by decide +kernel
theorem dX13_init_4 : decode cX13_init 4 = .ok (.aload_n 0, 1) := by decide +kernel
theorem dX13_init_5 : decode cX13_init 5 = .ok (.sipush 227, 3) := by decide +kernel
theorem dX13_init_8 : decode cX13_init 8 = .ok (.newarray .int, 2) := by decide +kernel
theorem dX13_init_10 : decode cX13_init 10 = .ok (.putfield 7, 3) := by decide +kernel
theorem dX13_init_13 : decode cX13_init 13 = .ok (.aload_n 0, 1) := by decide +kernel
theorem dX13_init_14 : decode cX13_init 14 = .ok (.sipush 227, 3) := by decide +kernel
theorem dX13_init_17 : decode cX13_init 17 = .ok (.newarray .int, 2) := by decide +kernel
theorem dX13_init_19 : decode cX13_init 19 = .ok (.putfield 13, 3) := by decide +kernel
theorem dX13_init_22 : decode cX13_init 22 = .ok (.aload_n 0, 1) := by decide +kernel
theorem dX13_init_23 : decode cX13_init 23 = .ok (.sipush 227, 3) := by decide +kernel
theorem dX13_init_26 : decode cX13_init 26 = .ok (.newarray .int, 2) := by decide +kernel
theorem dX13_init_28 : decode cX13_init 28 = .ok (.putfield 16, 3) := by decide +kernel
theorem dX13_init_31 : decode cX13_init 31 = .ok (.aload_n 0, 1) := by decide +kernel
theorem dX13_init_32 : decode cX13_init 32 = .ok (.sipush 227, 3) := by decide +kernel
theorem dX13_init_35 : decode cX13_init 35 = .ok (.newarray .int, 2) := by decide +kernel
theorem dX13_init_37 : decode cX13_init 37 = .ok (.putfield 19, 3) := by decide +kernel
theorem dX13_init_40 : decode cX13_init 40 = .ok (.aload_n 0, 1) := by decide +kernel
theorem dX13_init_41 : decode cX13_init 41 = .ok (.sipush 1816, 3) := by decide +kernel
theorem dX13_init_44 : decode cX13_init 44 = .ok (.newarray .int, 2) := by decide +kernel
theorem dX13_init_46 : decode cX13_init 46 = .ok (.putfield 22, 3) := by decide +kernel
theorem dX13_init_49 : decode cX13_init 49 = .ok (.aload_n 0, 1) := by decide +kernel
theorem dX13_init_50 : decode cX13_init 50 = .ok (.bipush 60, 2) := by decide +kernel
theorem dX13_init_52 : decode cX13_init 52 = .ok (.newarray .int, 2) := by decide +kernel
theorem dX13_init_54 : decode cX13_init 54 = .ok (.putfield 25, 3) := by decide +kernel
theorem dX13_init_57 : decode cX13_init 57 = .ok (.aload_n 0, 1) := by decide +kernel
theorem dX13_init_58 : decode cX13_init 58 = .ok (.sipush 160, 3) := by decide +kernel
theorem dX13_init_61 : decode cX13_init 61 = .ok (.newarray .int, 2) := by decide +kernel
theorem dX13_init_63 : decode cX13_init 63 = .ok (.putfield 28, 3) := by decide +kernel
theorem dX13_init_66 : decode cX13_init 66 = .ok (.aload_n 0, 1) := by decide +kernel
theorem dX13_init_67 : decode cX13_init 67 = .ok (.bipush 80, 2) := by decide +kernel
theorem dX13_init_69 : decode cX13_init 69 = .ok (.newarray .int, 2) := by decide +kernel
theorem dX13_init_71 : decode cX13_init 71 = .ok (.putfield 31, 3) := by decide +kernel
theorem dX13_init_74 : decode cX13_init 74 = .ok (.aload_n 0, 1) := by decide +kernel
theorem dX13_init_75 : decode cX13_init 75 = .ok (.getfield 7, 3) := by decide +kernel
theorem dX13_init_78 : decode cX13_init 78 = .ok (.iconst 0, 1) := by decide +kernel
theorem dX13_init_79 : decode cX13_init 79 = .ok (.bipush 20, 2) := by decide +kernel
theorem dX13_init_81 : decode cX13_init 81 = .ok (.iastore, 1) := by decide +kernel
theorem dX13_init_82 : decode cX13_init 82 = .ok (.aload_n 0, 1) := by decide +kernel
theorem dX13_init_83 : decode cX13_init 83 = .ok (.getfield 7, 3) := by decide +kernel
theorem dX13_init_86 : decode cX13_init 86 = .ok (.iconst 1, 1) := by decide +kernel
theorem dX13_init_87 : decode cX13_init 87 = .ok (.bipush 20, 2) := by decide +kernel
theorem dX13_init_89 : decode cX13_init 89 = .ok (.iastore, 1) := by decide +kernel
theorem dX13_init_90 : decode cX13_init 90 = .ok (.aload_n 0, 1) := by decide +kernel
theorem dX13_init_91 : decode cX13_init 91 = .ok (.getfield 7, 3) := by decide +kernel
theorem dX13_init_94 : decode cX13_init 94 = .ok (.iconst 2, 1) := by decide +kernel
theorem dX13_init_95 : decode cX13_init 95 = .ok (.bipush 10, 2) := by decide +kernel
theorem dX13_init_97 : decode cX13_init 97 = .ok (.iastore, 1) := by decide +kernel
theorem dX13_init_98 : decode cX13_init 98 = .ok (.aload_n 0, 1) := by decide +kernel
theorem dX13_init_99 : decode cX13_init 99 = .ok (.getfield 7, 3) := by decide +kernel
theorem dX13_init_102 : decode cX13_init 102 = .ok (.bipush 6, 2) := by decide +kernel
theorem dX13_init_104 : decode cX13_init 104 = .ok (.sipush 2000, 3) := by decide +kernel
theorem dX13_init_107 : decode cX13_init 107 = .ok (.iastore, 1) := by decide +kernel
theorem dX13_init_108 : decode cX13_init 108 = .ok (.return_, 1) := by decide +kernel
theorem dX13_in_0 : decode cX13_in 0 = .ok (.iload_n 0, 1) := by decide +kernel
theorem dX13_in_1 : decode cX13_in 1 = .ok (.iload_n 1, 1) := by decide +kernel
theorem dX13_in_2 : decode cX13_in 2 = .ok (.if_icmp .lt 12, 3) := by decide +kernel
theorem dX13_in_5 : decode cX13_in 5 = .ok (.iload_n 0, 1) := by decide +kernel
theorem dX13_in_6 : decode cX13_in 6 = .ok (.iload_n 2, 1) := by decide +kernel
theorem dX13_in_7 : decode cX13_in 7 = .ok (.if_icmp .gt 7, 3) := by decide +kernel
theorem dX13_in_10 : decode cX13_in 10 = .ok (.iconst 1, 1) := by decide +kernel
theorem dX13_in_11 : decode cX13_in 11 = .ok (.goto 4, 3) := by decide +kernel
theorem dX13_in_14 : decode cX13_in 14 = .ok (.iconst 0, 1) := by decide +kernel
theorem dX13_in_15 : decode cX13_in 15 = .ok (.ireturn, 1) := by decide +kernel
theorem dX13_between_0 : decode cX13_between 0 = .ok (.iload_n 0, 1) := by decide +kernel
theorem dX13_between_1 : decode cX13_between 1 = .ok (.iload_n 1, 1) := by decide +kernel
theorem dX13_between_2 : decode cX13_between 2 = .ok (.if_icmp .ge 7, 3) := by decide +kernel
theorem dX13_between_5 : decode cX13_between 5 = .ok (.iload_n 1, 1) := by decide +kernel
theorem dX13_between_6 : decode cX13_between 6 = .ok (.goto 13, 3) := by decide +kernel
theorem dX13_between_9 : decode cX13_between 9 = .ok (.iload_n 0, 1) := by decide +kernel
theorem dX13_between_10 : decode cX13_between 10 = .ok (.iload_n 2, 1) := by decide +kernel
theorem dX13_between_11 : decode cX13_between 11 = .ok (.if_icmp .le 7, 3) := by decide +kernel
theorem dX13_between_14 : decode cX13_between 14 = .ok (.iload_n 2, 1) := by decide +kernel
theorem dX13_between_15 : decode cX13_between 15 = .ok (.goto 4, 3) := by decide +kernel
theorem dX13_between_18 : decode cX13_between 18 = .ok (.iload_n 0, 1) := by decide +kernel
theorem dX13_between_19 : decode cX13_between 19 = .ok (.ireturn, 1) := by decide +kernel
theorem dX13_remembers_0 : decode cX13_remembers 0 = .ok (.iconst 0, 1) := by decide +kernel
theorem dX13_remembers_1 : decode cX13_remembers 1 = .ok (.istore_n 1, 1) := by decide +kernel
theorem dX13_remembers_2 : decode cX13_remembers 2 = .ok (.iload_n 1, 1) := by decide +kernel
theorem dX13_remembers_3 : decode cX13_remembers 3 = .ok (.sipush 227, 3) := by decide +kernel
theorem dX13_remembers_6 : decode cX13_remembers 6 = .ok (.if_icmp .ge 21, 3) := by decide +kernel
theorem dX13_remembers_9 : decode cX13_remembers 9 = .ok (.aload_n 0, 1) := by decide +kernel
theorem dX13_remembers_10 : decode cX13_remembers 10 = .ok (.getfield 13, 3) := by decide +kernel
theorem dX13_remembers_13 : decode cX13_remembers 13 = .ok (.iload_n 1, 1) := by decide +kernel
theorem dX13_remembers_14 : decode cX13_remembers 14 = .ok (.aload_n 0, 1) := by decide +kernel
theorem dX13_remembers_15 : decode cX13_remembers 15 = .ok (.getfield 7, 3) := by decide +kernel
theorem dX13_remembers_18 : decode cX13_remembers 18 = .ok (.iload_n 1, 1) := by decide +kernel
theorem dX13_remembers_19 : decode cX13_remembers 19 = .ok (.iaload, 1) := by decide +kernel
theorem dX13_remembers_20 : decode cX13_remembers 20 = .ok (.iastore, 1) := by decide +kernel
theorem dX13_remembers_21 : decode cX13_remembers 21 = .ok (.iinc 1 1, 3) := by decide +kernel
theorem dX13_remembers_24 : decode cX13_remembers 24 = .ok (.goto (-22), 3) := by decide +kernel
theorem dX13_remembers_27 : decode cX13_remembers 27 = .ok (.return_, 1) := by decide +kernel
theorem dX13_changed_0 : decode cX13_changed 0 = .ok (.aload_n 0, 1) := by decide +kernel
theorem dX13_changed_1 : decode cX13_changed 1 = .ok (.getfield 34, 3) := by decide +kernel
theorem dX13_changed_4 : decode cX13_changed 4 = .ok (.bipush 8, 2) := by decide +kernel
theorem dX13_changed_6 : decode cX13_changed 6 = .ok (.if_icmp .ne 37, 3) := by decide +kernel
theorem dX13_changed_9 : decode cX13_changed 9 = .ok (.iconst 0, 1) := by decide +kernel
theorem dX13_changed_10 : decode cX13_changed 10 = .ok (.istore_n 2, 1) := by decide +kernel
theorem dX13_changed_11 : decode cX13_changed 11 = .ok (.iload_n 2, 1) := by decide +kernel
theorem dX13_changed_12 : decode cX13_changed 12 = .ok (.sipush 1589, 3) := by decide +kernel
theorem dX13_changed_15 : decode cX13_changed 15 = .ok (.if_icmp .ge 25, 3) := by decide +kernel
theorem dX13_changed_18 : decode cX13_changed 18 = .ok (.aload_n 0, 1) := by decide +kernel
theorem dX13_changed_19 : decode cX13_changed 19 = .ok (.getfield 22, 3) := by decide +kernel
theorem dX13_changed_22 : decode cX13_changed 22 = .ok (.iload_n 2, 1) := by decide +kernel
theorem dX13_changed_23 : decode cX13_changed 23 = .ok (.aload_n 0, 1) := by decide +kernel
theorem dX13_changed_24 : decode cX13_changed 24 = .ok (.getfield 22, 3) := by decide +kernel
theorem dX13_changed_27 : decode cX13_changed 27 = .ok (.iload_n 2, 1) := by decide +kernel
theorem dX13_changed_28 : decode cX13_changed 28 = .ok (.sipush 227, 3) := by decide +kernel
theorem dX13_changed_31 : decode cX13_changed 31 = .ok (.iadd, 1) := by decide +kernel
theorem dX13_changed_32 : decode cX13_changed 32 = .ok (.iaload, 1) := by decide +kernel
theorem dX13_changed_33 : decode cX13_changed 33 = .ok (.iastore, 1) := by decide +kernel
theorem dX13_changed_34 : decode cX13_changed 34 = .ok (.iinc 2 1, 3) := by decide +kernel
theorem dX13_changed_37 : decode cX13_changed 37 = .ok (.goto (-26), 3) := by decide +kernel
theorem dX13_changed_40 : decode cX13_changed 40 = .ok (.goto 13, 3) := by decide +kernel
theorem dX13_changed_43 : decode cX13_changed 43 = .ok (.aload_n 0, 1) := by decide +kernel
theorem dX13_changed_44 : decode cX13_changed 44 = .ok (.dup, 1) := by decide +kernel
theorem dX13_changed_45 : decode cX13_changed 45 = .ok (.getfield 34, 3) := by decide +kernel
theorem dX13_changed_48 : decode cX13_changed 48 = .ok (.iconst 1, 1) := by decide +kernel
theorem dX13_changed_49 : decode cX13_changed 49 = .ok (.iadd, 1) := by decide +kernel
theorem dX13_changed_50 : decode cX13_changed 50 = .ok (.putfield 34, 3) := by decide +kernel
theorem dX13_changed_53 : decode cX13_changed 53 = .ok (.iconst 0, 1) := by decide +kernel
theorem dX13_changed_54 : decode cX13_changed 54 = .ok (.istore_n 2, 1) := by decide +kernel
theorem dX13_changed_55 : decode cX13_changed 55 = .ok (.iload_n 2, 1) := by decide +kernel
theorem dX13_changed_56 : decode cX13_changed 56 = .ok (.sipush 227, 3) := by decide +kernel
theorem dX13_changed_59 : decode cX13_changed 59 = .ok (.if_icmp .ge 32, 3) := by decide +kernel
theorem dX13_changed_62 : decode cX13_changed 62 = .ok (.aload_n 0, 1) := by decide +kernel
theorem dX13_changed_63 : decode cX13_changed 63 = .ok (.getfield 22, 3) := by decide +kernel
theorem dX13_changed_66 : decode cX13_changed 66 = .ok (.sipush 227, 3) := by decide +kernel
theorem dX13_changed_69 : decode cX13_changed 69 = .ok (.aload_n 0, 1) := by decide +kernel
theorem dX13_changed_70 : decode cX13_changed 70 = .ok (.getfield 34, 3) := by decide +kernel
theorem dX13_changed_73 : decode cX13_changed 73 = .ok (.iconst 1, 1) := by decide +kernel
theorem dX13_changed_74 : decode cX13_changed 74 = .ok (.isub, 1) := by decide +kernel
theorem dX13_changed_75 : decode cX13_changed 75 = .ok (.imul, 1) := by decide +kernel
theorem dX13_changed_76 : decode cX13_changed 76 = .ok (.iload_n 2, 1) := by decide +kernel
theorem dX13_changed_77 : decode cX13_changed 77 = .ok (.iadd, 1) := by decide +kernel
theorem dX13_changed_78 : decode cX13_changed 78 = .ok (.aload_n 0, 1) := by decide +kernel
theorem dX13_changed_79 : decode cX13_changed 79 = .ok (.getfield 13, 3) := by decide +kernel
theorem dX13_changed_82 : decode cX13_changed 82 = .ok (.iload_n 2, 1) := by decide +kernel
theorem dX13_changed_83 : decode cX13_changed 83 = .ok (.iaload, 1) := by decide +kernel
theorem dX13_changed_84 : decode cX13_changed 84 = .ok (.iastore, 1) := by decide +kernel
theorem dX13_changed_85 : decode cX13_changed 85 = .ok (.iinc 2 1, 3) := by decide +kernel
theorem dX13_changed_88 : decode cX13_changed 88 = .ok (.goto (-33), 3) := by decide +kernel
theorem dX13_changed_91 : decode cX13_changed 91 = .ok (.iload_n 1, 1) := by decide +kernel
theorem dX13_changed_92 : decode cX13_changed 92 = .ok (.ireturn, 1) := by decide +kernel
theorem dX13_refused_0 : decode cX13_refused 0 = .ok (.aload_n 0, 1) := by decide +kernel
theorem dX13_refused_1 : decode cX13_refused 1 = .ok (.iload_n 2, 1) := by decide +kernel
theorem dX13_refused_2 : decode cX13_refused 2 = .ok (.putfield 38, 3) := by decide +kernel
theorem dX13_refused_5 : decode cX13_refused 5 = .ok (.iload_n 1, 1) := by decide +kernel
theorem dX13_refused_6 : decode cX13_refused 6 = .ok (.ireturn, 1) := by decide +kernel
theorem dX13_done_0 : decode cX13_done 0 = .ok (.aload_n 0, 1) := by decide +kernel
theorem dX13_done_1 : decode cX13_done 1 = .ok (.iload_n 1, 1) := by decide +kernel
theorem dX13_done_2 : decode cX13_done 2 = .ok (.putfield 41, 3) := by decide +kernel
theorem dX13_done_5 : decode cX13_done 5 = .ok (.iconst 0, 1) := by decide +kernel
theorem dX13_done_6 : decode cX13_done 6 = .ok (.ireturn, 1) := by decide +kernel
theorem dX13_ends_0 : decode cX13_ends 0 = .ok (.iload_n 1, 1) := by decide +kernel
theorem dX13_ends_1 : decode cX13_ends 1 = .ok (.ifCond .ne 12, 3) := by decide +kernel
theorem dX13_ends_4 : decode cX13_ends 4 = .ok (.aload_n 0, 1) := by decide +kernel
theorem dX13_ends_5 : decode cX13_ends 5 = .ok (.aload_n 0, 1) := by decide +kernel
theorem dX13_ends_6 : decode cX13_ends 6 = .ok (.getfield 41, 3) := by decide +kernel
theorem dX13_ends_9 : decode cX13_ends 9 = .ok (.invokevirtual 44, 3) := by decide +kernel
theorem dX13_ends_12 : decode cX13_ends 12 = .ok (.ireturn, 1) := by decide +kernel
theorem dX13_ends_13 : decode cX13_ends 13 = .ok (.iload_n 1, 1) := by decide +kernel
theorem dX13_ends_14 : decode cX13_ends 14 = .ok (.ifCond .ge 5, 3) := by decide +kernel
theorem dX13_ends_17 : decode cX13_ends 17 = .ok (.iload_n 1, 1) := by decide +kernel
theorem dX13_ends_18 : decode cX13_ends 18 = .ok (.ireturn, 1) := by decide +kernel
theorem dX13_ends_19 : decode cX13_ends 19 = .ok (.aload_n 0, 1) := by decide +kernel
theorem dX13_ends_20 : decode cX13_ends 20 = .ok (.iload_n 1, 1) := by decide +kernel
theorem dX13_ends_21 : decode cX13_ends 21 = .ok (.putfield 48, 3) := by decide +kernel
theorem dX13_ends_24 : decode cX13_ends 24 = .ok (.aload_n 0, 1) := by decide +kernel
theorem dX13_ends_25 : decode cX13_ends 25 = .ok (.aload_n 0, 1) := by decide +kernel
theorem dX13_ends_26 : decode cX13_ends 26 = .ok (.getfield 38, 3) := by decide +kernel
theorem dX13_ends_29 : decode cX13_ends 29 = .ok (.putfield 51, 3) := by decide +kernel
theorem dX13_ends_32 : decode cX13_ends 32 = .ok (.sipush (-10004), 3) := by decide +kernel
theorem dX13_ends_35 : decode cX13_ends 35 = .ok (.ireturn, 1) := by decide +kernel
theorem dX13_isPot_0 : decode cX13_isPot 0 = .ok (.iload_n 1, 1) := by decide +kernel
theorem dX13_isPot_1 : decode cX13_isPot 1 = .ok (.iconst 0, 1) := by decide +kernel
theorem dX13_isPot_2 : decode cX13_isPot 2 = .ok (.aload_n 0, 1) := by decide +kernel
theorem dX13_isPot_3 : decode cX13_isPot 3 = .ok (.getfield 7, 3) := by decide +kernel
theorem dX13_isPot_6 : decode cX13_isPot 6 = .ok (.bipush 15, 2) := by decide +kernel
theorem dX13_isPot_8 : decode cX13_isPot 8 = .ok (.iaload, 1) := by decide +kernel
theorem dX13_isPot_9 : decode cX13_isPot 9 = .ok (.iconst 1, 1) := by decide +kernel
theorem dX13_isPot_10 : decode cX13_isPot 10 = .ok (.isub, 1) := by decide +kernel
theorem dX13_isPot_11 : decode cX13_isPot 11 = .ok (.invokestatic 54, 3) := by decide +kernel
theorem dX13_isPot_14 : decode cX13_isPot 14 = .ok (.ireturn, 1) := by decide +kernel
theorem dX13_error_0 : decode cX13_error 0 = .ok (.aload_n 0, 1) := by decide +kernel
theorem dX13_error_1 : decode cX13_error 1 = .ok (.getfield 7, 3) := by decide +kernel
theorem dX13_error_4 : decode cX13_error 4 = .ok (.iconst 1, 1) := by decide +kernel
theorem dX13_error_5 : decode cX13_error 5 = .ok (.iaload, 1) := by decide +kernel
theorem dX13_error_6 : decode cX13_error 6 = .ok (.aload_n 0, 1) := by decide +kernel
theorem dX13_error_7 : decode cX13_error 7 = .ok (.getfield 7, 3) := by decide +kernel
theorem dX13_error_10 : decode cX13_error 10 = .ok (.iconst 0, 1) := by decide +kernel
theorem dX13_error_11 : decode cX13_error 11 = .ok (.iaload, 1) := by decide +kernel
theorem dX13_error_12 : decode cX13_error 12 = .ok (.isub, 1) := by decide +kernel
theorem dX13_error_13 : decode cX13_error 13 = .ok (.ireturn, 1) := by decide +kernel
theorem dX13_sumThen_0 : decode cX13_sumThen 0 = .ok (.aload_n 0, 1) := by decide +kernel
theorem dX13_sumThen_1 : decode cX13_sumThen 1 = .ok (.getfield 7, 3) := by decide +kernel
theorem dX13_sumThen_4 : decode cX13_sumThen 4 = .ok (.iconst 5, 1) := by decide +kernel
theorem dX13_sumThen_5 : decode cX13_sumThen 5 = .ok (.iaload, 1) := by decide +kernel
theorem dX13_sumThen_6 : decode cX13_sumThen 6 = .ok (.aload_n 0, 1) := by decide +kernel
theorem dX13_sumThen_7 : decode cX13_sumThen 7 = .ok (.invokevirtual 58, 3) := by decide +kernel
theorem dX13_sumThen_10 : decode cX13_sumThen 10 = .ok (.iadd, 1) := by decide +kernel
theorem dX13_sumThen_11 : decode cX13_sumThen 11 = .ok (.aload_n 0, 1) := by decide +kernel
theorem dX13_sumThen_12 : decode cX13_sumThen 12 = .ok (.getfield 7, 3) := by decide +kernel
theorem dX13_sumThen_15 : decode cX13_sumThen 15 = .ok (.bipush 6, 2) := by decide +kernel
theorem dX13_sumThen_17 : decode cX13_sumThen 17 = .ok (.iaload, 1) := by decide +kernel
theorem dX13_sumThen_18 : decode cX13_sumThen 18 = .ok (.ineg, 1) := by decide +kernel
theorem dX13_sumThen_19 : decode cX13_sumThen 19 = .ok (.aload_n 0, 1) := by decide +kernel
theorem dX13_sumThen_20 : decode cX13_sumThen 20 = .ok (.getfield 7, 3) := by decide +kernel
theorem dX13_sumThen_23 : decode cX13_sumThen 23 = .ok (.bipush 6, 2) := by decide +kernel
theorem dX13_sumThen_25 : decode cX13_sumThen 25 = .ok (.iaload, 1) := by decide +kernel
theorem dX13_sumThen_26 : decode cX13_sumThen 26 = .ok (.invokestatic 62, 3) := by decide +kernel
theorem dX13_sumThen_29 : decode cX13_sumThen 29 = .ok (.ireturn, 1) := by decide +kernel
theorem dX13_wantedNow_0 : decode cX13_wantedNow 0 = .ok (.bipush 10, 2) := by decide +kernel
theorem dX13_wantedNow_2 : decode cX13_wantedNow 2 = .ok (.aload_n 0, 1) := by decide +kernel
theorem dX13_wantedNow_3 : decode cX13_wantedNow 3 = .ok (.getfield 7, 3) := by decide +kernel
theorem dX13_wantedNow_6 : decode cX13_wantedNow 6 = .ok (.iconst 2, 1) := by decide +kernel
theorem dX13_wantedNow_7 : decode cX13_wantedNow 7 = .ok (.iaload, 1) := by decide +kernel
theorem dX13_wantedNow_8 : decode cX13_wantedNow 8 = .ok (.imul, 1) := by decide +kernel
theorem dX13_wantedNow_9 : decode cX13_wantedNow 9 = .ok (.aload_n 0, 1) := by decide +kernel
theorem dX13_wantedNow_10 : decode cX13_wantedNow 10 = .ok (.invokevirtual 58, 3) := by decide +kernel
theorem dX13_wantedNow_13 : decode cX13_wantedNow 13 = .ok (.imul, 1) := by decide +kernel
theorem dX13_wantedNow_14 : decode cX13_wantedNow 14 = .ok (.aload_n 0, 1) := by decide +kernel
theorem dX13_wantedNow_15 : decode cX13_wantedNow 15 = .ok (.getfield 7, 3) := by decide +kernel
theorem dX13_wantedNow_18 : decode cX13_wantedNow 18 = .ok (.iconst 3, 1) := by decide +kernel
theorem dX13_wantedNow_19 : decode cX13_wantedNow 19 = .ok (.iaload, 1) := by decide +kernel
theorem dX13_wantedNow_20 : decode cX13_wantedNow 20 = .ok (.aload_n 0, 1) := by decide +kernel
theorem dX13_wantedNow_21 : decode cX13_wantedNow 21 = .ok (.invokevirtual 66, 3) := by decide +kernel
theorem dX13_wantedNow_24 : decode cX13_wantedNow 24 = .ok (.imul, 1) := by decide +kernel
theorem dX13_wantedNow_25 : decode cX13_wantedNow 25 = .ok (.iadd, 1) := by decide +kernel
theorem dX13_wantedNow_26 : decode cX13_wantedNow 26 = .ok (.bipush 10, 2) := by decide +kernel
theorem dX13_wantedNow_28 : decode cX13_wantedNow 28 = .ok (.aload_n 0, 1) := by decide +kernel
theorem dX13_wantedNow_29 : decode cX13_wantedNow 29 = .ok (.getfield 7, 3) := by decide +kernel
theorem dX13_wantedNow_32 : decode cX13_wantedNow 32 = .ok (.iconst 4, 1) := by decide +kernel
theorem dX13_wantedNow_33 : decode cX13_wantedNow 33 = .ok (.iaload, 1) := by decide +kernel
theorem dX13_wantedNow_34 : decode cX13_wantedNow 34 = .ok (.imul, 1) := by decide +kernel
theorem dX13_wantedNow_35 : decode cX13_wantedNow 35 = .ok (.aload_n 0, 1) := by decide +kernel
theorem dX13_wantedNow_36 : decode cX13_wantedNow 36 = .ok (.invokevirtual 58, 3) := by decide +kernel
theorem dX13_wantedNow_39 : decode cX13_wantedNow 39 = .ok (.aload_n 0, 1) := by decide +kernel
theorem dX13_wantedNow_40 : decode cX13_wantedNow 40 = .ok (.getfield 7, 3) := by decide +kernel
theorem dX13_wantedNow_43 : decode cX13_wantedNow 43 = .ok (.bipush 7, 2) := by decide +kernel
theorem dX13_wantedNow_45 : decode cX13_wantedNow 45 = .ok (.iaload, 1) := by decide +kernel
theorem dX13_wantedNow_46 : decode cX13_wantedNow 46 = .ok (.isub, 1) := by decide +kernel
theorem dX13_wantedNow_47 : decode cX13_wantedNow 47 = .ok (.imul, 1) := by decide +kernel
theorem dX13_wantedNow_48 : decode cX13_wantedNow 48 = .ok (.iadd, 1) := by decide +kernel
theorem dX13_wantedNow_49 : decode cX13_wantedNow 49 = .ok (.bipush 100, 2) := by decide +kernel
theorem dX13_wantedNow_51 : decode cX13_wantedNow 51 = .ok (.idiv, 1) := by decide +kernel
theorem dX13_wantedNow_52 : decode cX13_wantedNow 52 = .ok (.iconst 0, 1) := by decide +kernel
theorem dX13_wantedNow_53 : decode cX13_wantedNow 53 = .ok (.bipush 100, 2) := by decide +kernel
theorem dX13_wantedNow_55 : decode cX13_wantedNow 55 = .ok (.invokestatic 62, 3) := by decide +kernel
theorem dX13_wantedNow_58 : decode cX13_wantedNow 58 = .ok (.ireturn, 1) := by decide +kernel
theorem dX13_lagged_0 : decode cX13_lagged 0 = .ok (.aload_n 0, 1) := by decide +kernel
theorem dX13_lagged_1 : decode cX13_lagged 1 = .ok (.getfield 7, 3) := by decide +kernel
theorem dX13_lagged_4 : decode cX13_lagged 4 = .ok (.bipush 8, 2) := by decide +kernel
theorem dX13_lagged_6 : decode cX13_lagged 6 = .ok (.iaload, 1) := by decide +kernel
theorem dX13_lagged_7 : decode cX13_lagged 7 = .ok (.ifCond .ne 5, 3) := by decide +kernel
theorem dX13_lagged_10 : decode cX13_lagged 10 = .ok (.iload_n 1, 1) := by decide +kernel
theorem dX13_lagged_11 : decode cX13_lagged 11 = .ok (.ireturn, 1) := by decide +kernel
theorem dX13_lagged_12 : decode cX13_lagged 12 = .ok (.aload_n 0, 1) := by decide +kernel
theorem dX13_lagged_13 : decode cX13_lagged 13 = .ok (.getfield 7, 3) := by decide +kernel
theorem dX13_lagged_16 : decode cX13_lagged 16 = .ok (.bipush 17, 2) := by decide +kernel
theorem dX13_lagged_18 : decode cX13_lagged 18 = .ok (.iaload, 1) := by decide +kernel
theorem dX13_lagged_19 : decode cX13_lagged 19 = .ok (.istore_n 2, 1) := by decide +kernel
theorem dX13_lagged_20 : decode cX13_lagged 20 = .ok (.iconst 0, 1) := by decide +kernel
theorem dX13_lagged_21 : decode cX13_lagged 21 = .ok (.istore_n 3, 1) := by decide +kernel
theorem dX13_lagged_22 : decode cX13_lagged 22 = .ok (.iload_n 3, 1) := by decide +kernel
theorem dX13_lagged_23 : decode cX13_lagged 23 = .ok (.iconst 1, 1) := by decide +kernel
theorem dX13_lagged_24 : decode cX13_lagged 24 = .ok (.iadd, 1) := by decide +kernel
theorem dX13_lagged_25 : decode cX13_lagged 25 = .ok (.aload_n 0, 1) := by decide +kernel
theorem dX13_lagged_26 : decode cX13_lagged 26 = .ok (.getfield 7, 3) := by decide +kernel
theorem dX13_lagged_29 : decode cX13_lagged 29 = .ok (.bipush 8, 2) := by decide +kernel
theorem dX13_lagged_31 : decode cX13_lagged 31 = .ok (.iaload, 1) := by decide +kernel
theorem dX13_lagged_32 : decode cX13_lagged 32 = .ok (.if_icmp .ge 29, 3) := by decide +kernel
theorem dX13_lagged_35 : decode cX13_lagged 35 = .ok (.aload_n 0, 1) := by decide +kernel
theorem dX13_lagged_36 : decode cX13_lagged 36 = .ok (.getfield 7, 3) := by decide +kernel
theorem dX13_lagged_39 : decode cX13_lagged 39 = .ok (.bipush 17, 2) := by decide +kernel
theorem dX13_lagged_41 : decode cX13_lagged 41 = .ok (.iload_n 3, 1) := by decide +kernel
theorem dX13_lagged_42 : decode cX13_lagged 42 = .ok (.iadd, 1) := by decide +kernel
theorem dX13_lagged_43 : decode cX13_lagged 43 = .ok (.aload_n 0, 1) := by decide +kernel
theorem dX13_lagged_44 : decode cX13_lagged 44 = .ok (.getfield 7, 3) := by decide +kernel
theorem dX13_lagged_47 : decode cX13_lagged 47 = .ok (.bipush 17, 2) := by decide +kernel
theorem dX13_lagged_49 : decode cX13_lagged 49 = .ok (.iload_n 3, 1) := by decide +kernel
theorem dX13_lagged_50 : decode cX13_lagged 50 = .ok (.iadd, 1) := by decide +kernel
theorem dX13_lagged_51 : decode cX13_lagged 51 = .ok (.iconst 1, 1) := by decide +kernel
theorem dX13_lagged_52 : decode cX13_lagged 52 = .ok (.iadd, 1) := by decide +kernel
theorem dX13_lagged_53 : decode cX13_lagged 53 = .ok (.iaload, 1) := by decide +kernel
theorem dX13_lagged_54 : decode cX13_lagged 54 = .ok (.iastore, 1) := by decide +kernel
theorem dX13_lagged_55 : decode cX13_lagged 55 = .ok (.iinc 3 1, 3) := by decide +kernel
theorem dX13_lagged_58 : decode cX13_lagged 58 = .ok (.goto (-36), 3) := by decide +kernel
theorem dX13_lagged_61 : decode cX13_lagged 61 = .ok (.aload_n 0, 1) := by decide +kernel
theorem dX13_lagged_62 : decode cX13_lagged 62 = .ok (.getfield 7, 3) := by decide +kernel
theorem dX13_lagged_65 : decode cX13_lagged 65 = .ok (.bipush 17, 2) := by decide +kernel
theorem dX13_lagged_67 : decode cX13_lagged 67 = .ok (.aload_n 0, 1) := by decide +kernel
theorem dX13_lagged_68 : decode cX13_lagged 68 = .ok (.getfield 7, 3) := by decide +kernel
theorem dX13_lagged_71 : decode cX13_lagged 71 = .ok (.bipush 8, 2) := by decide +kernel
theorem dX13_lagged_73 : decode cX13_lagged 73 = .ok (.iaload, 1) := by decide +kernel
theorem dX13_lagged_74 : decode cX13_lagged 74 = .ok (.iadd, 1) := by decide +kernel
theorem dX13_lagged_75 : decode cX13_lagged 75 = .ok (.iconst 1, 1) := by decide +kernel
theorem dX13_lagged_76 : decode cX13_lagged 76 = .ok (.isub, 1) := by decide +kernel
theorem dX13_lagged_77 : decode cX13_lagged 77 = .ok (.iload_n 1, 1) := by decide +kernel
theorem dX13_lagged_78 : decode cX13_lagged 78 = .ok (.iastore, 1) := by decide +kernel
theorem dX13_lagged_79 : decode cX13_lagged 79 = .ok (.iload_n 2, 1) := by decide +kernel
theorem dX13_lagged_80 : decode cX13_lagged 80 = .ok (.ireturn, 1) := by decide +kernel
theorem dX13_notesMinute_0 : decode cX13_notesMinute 0 = .ok (.bipush 47, 2) := by decide +kernel
theorem dX13_notesMinute_2 : decode cX13_notesMinute 2 = .ok (.istore_n 3, 1) := by decide +kernel
theorem dX13_notesMinute_3 : decode cX13_notesMinute 3 = .ok (.iload_n 3, 1) := by decide +kernel
theorem dX13_notesMinute_4 : decode cX13_notesMinute 4 = .ok (.iconst 3, 1) := by decide +kernel
theorem dX13_notesMinute_5 : decode cX13_notesMinute 5 = .ok (.if_icmp .le 29, 3) := by decide +kernel
theorem dX13_notesMinute_8 : decode cX13_notesMinute 8 = .ok (.aload_n 0, 1) := by decide +kernel
theorem dX13_notesMinute_9 : decode cX13_notesMinute 9 = .ok (.getfield 7, 3) := by decide +kernel
theorem dX13_notesMinute_12 : decode cX13_notesMinute 12 = .ok (.bipush 123, 2) := by decide +kernel
theorem dX13_notesMinute_14 : decode cX13_notesMinute 14 = .ok (.iload_n 3, 1) := by decide +kernel
theorem dX13_notesMinute_15 : decode cX13_notesMinute 15 = .ok (.iadd, 1) := by decide +kernel
theorem dX13_notesMinute_16 : decode cX13_notesMinute 16 = .ok (.aload_n 0, 1) := by decide +kernel
theorem dX13_notesMinute_17 : decode cX13_notesMinute 17 = .ok (.getfield 7, 3) := by decide +kernel
theorem dX13_notesMinute_20 : decode cX13_notesMinute 20 = .ok (.bipush 123, 2) := by decide +kernel
theorem dX13_notesMinute_22 : decode cX13_notesMinute 22 = .ok (.iload_n 3, 1) := by decide +kernel
theorem dX13_notesMinute_23 : decode cX13_notesMinute 23 = .ok (.iadd, 1) := by decide +kernel
theorem dX13_notesMinute_24 : decode cX13_notesMinute 24 = .ok (.iconst 4, 1) := by decide +kernel
theorem dX13_notesMinute_25 : decode cX13_notesMinute 25 = .ok (.isub, 1) := by decide +kernel
theorem dX13_notesMinute_26 : decode cX13_notesMinute 26 = .ok (.iaload, 1) := by decide +kernel
theorem dX13_notesMinute_27 : decode cX13_notesMinute 27 = .ok (.iastore, 1) := by decide +kernel
theorem dX13_notesMinute_28 : decode cX13_notesMinute 28 = .ok (.iinc 3 (-1), 3) := by decide +kernel
theorem dX13_notesMinute_31 : decode cX13_notesMinute 31 = .ok (.goto (-28), 3) := by decide +kernel
theorem dX13_notesMinute_34 : decode cX13_notesMinute 34 = .ok (.aload_n 0, 1) := by decide +kernel
theorem dX13_notesMinute_35 : decode cX13_notesMinute 35 = .ok (.getfield 7, 3) := by decide +kernel
theorem dX13_notesMinute_38 : decode cX13_notesMinute 38 = .ok (.bipush 123, 2) := by decide +kernel
theorem dX13_notesMinute_40 : decode cX13_notesMinute 40 = .ok (.aload_n 0, 1) := by decide +kernel
theorem dX13_notesMinute_41 : decode cX13_notesMinute 41 = .ok (.getfield 7, 3) := by decide +kernel
theorem dX13_notesMinute_44 : decode cX13_notesMinute 44 = .ok (.iconst 0, 1) := by decide +kernel
theorem dX13_notesMinute_45 : decode cX13_notesMinute 45 = .ok (.iaload, 1) := by decide +kernel
theorem dX13_notesMinute_46 : decode cX13_notesMinute 46 = .ok (.iastore, 1) := by decide +kernel
theorem dX13_notesMinute_47 : decode cX13_notesMinute 47 = .ok (.aload_n 0, 1) := by decide +kernel
theorem dX13_notesMinute_48 : decode cX13_notesMinute 48 = .ok (.getfield 7, 3) := by decide +kernel
theorem dX13_notesMinute_51 : decode cX13_notesMinute 51 = .ok (.bipush 124, 2) := by decide +kernel
theorem dX13_notesMinute_53 : decode cX13_notesMinute 53 = .ok (.aload_n 0, 1) := by decide +kernel
theorem dX13_notesMinute_54 : decode cX13_notesMinute 54 = .ok (.getfield 7, 3) := by decide +kernel
theorem dX13_notesMinute_57 : decode cX13_notesMinute 57 = .ok (.bipush 9, 2) := by decide +kernel
theorem dX13_notesMinute_59 : decode cX13_notesMinute 59 = .ok (.iaload, 1) := by decide +kernel
theorem dX13_notesMinute_60 : decode cX13_notesMinute 60 = .ok (.iastore, 1) := by decide +kernel
theorem dX13_notesMinute_61 : decode cX13_notesMinute 61 = .ok (.aload_n 0, 1) := by decide +kernel
theorem dX13_notesMinute_62 : decode cX13_notesMinute 62 = .ok (.getfield 7, 3) := by decide +kernel
theorem dX13_notesMinute_65 : decode cX13_notesMinute 65 = .ok (.bipush 125, 2) := by decide +kernel
theorem dX13_notesMinute_67 : decode cX13_notesMinute 67 = .ok (.iload_n 1, 1) := by decide +kernel
theorem dX13_notesMinute_68 : decode cX13_notesMinute 68 = .ok (.iastore, 1) := by decide +kernel
theorem dX13_notesMinute_69 : decode cX13_notesMinute 69 = .ok (.aload_n 0, 1) := by decide +kernel
theorem dX13_notesMinute_70 : decode cX13_notesMinute 70 = .ok (.getfield 7, 3) := by decide +kernel
theorem dX13_notesMinute_73 : decode cX13_notesMinute 73 = .ok (.bipush 126, 2) := by decide +kernel
theorem dX13_notesMinute_75 : decode cX13_notesMinute 75 = .ok (.iload_n 2, 1) := by decide +kernel
theorem dX13_notesMinute_76 : decode cX13_notesMinute 76 = .ok (.iastore, 1) := by decide +kernel
theorem dX13_notesMinute_77 : decode cX13_notesMinute 77 = .ok (.aload_n 0, 1) := by decide +kernel
theorem dX13_notesMinute_78 : decode cX13_notesMinute 78 = .ok (.getfield 7, 3) := by decide +kernel
theorem dX13_notesMinute_81 : decode cX13_notesMinute 81 = .ok (.bipush 14, 2) := by decide +kernel
theorem dX13_notesMinute_83 : decode cX13_notesMinute 83 = .ok (.dup2, 1) := by decide +kernel
theorem dX13_notesMinute_84 : decode cX13_notesMinute 84 = .ok (.iaload, 1) := by decide +kernel
theorem dX13_notesMinute_85 : decode cX13_notesMinute 85 = .ok (.aload_n 0, 1) := by decide +kernel
theorem dX13_notesMinute_86 : decode cX13_notesMinute 86 = .ok (.getfield 7, 3) := by decide +kernel
theorem dX13_notesMinute_89 : decode cX13_notesMinute 89 = .ok (.bipush 14, 2) := by decide +kernel
theorem dX13_notesMinute_91 : decode cX13_notesMinute 91 = .ok (.iaload, 1) := by decide +kernel
theorem dX13_notesMinute_92 : decode cX13_notesMinute 92 = .ok (.bipush 12, 2) := by decide +kernel
theorem dX13_notesMinute_94 : decode cX13_notesMinute 94 = .ok (.if_icmp .ge 7, 3) := by decide +kernel
theorem dX13_notesMinute_97 : decode cX13_notesMinute 97 = .ok (.iconst 1, 1) := by decide +kernel
theorem dX13_notesMinute_98 : decode cX13_notesMinute 98 = .ok (.goto 4, 3) := by decide +kernel
theorem dX13_notesMinute_101 : decode cX13_notesMinute 101 = .ok (.iconst 0, 1) := by decide +kernel
theorem dX13_notesMinute_102 : decode cX13_notesMinute 102 = .ok (.iadd, 1) := by decide +kernel
theorem dX13_notesMinute_103 : decode cX13_notesMinute 103 = .ok (.iastore, 1) := by decide +kernel
theorem dX13_notesMinute_104 : decode cX13_notesMinute 104 = .ok (.return_, 1) := by decide +kernel
theorem dX13_heats_0 : decode cX13_heats 0 = .ok (.aload_n 0, 1) := by decide +kernel
theorem dX13_heats_1 : decode cX13_heats 1 = .ok (.getfield 7, 3) := by decide +kernel
theorem dX13_heats_4 : decode cX13_heats 4 = .ok (.sipush 219, 3) := by decide +kernel
theorem dX13_heats_7 : decode cX13_heats 7 = .ok (.iload_n 1, 1) := by decide +kernel
theorem dX13_heats_8 : decode cX13_heats 8 = .ok (.iadd, 1) := by decide +kernel
theorem dX13_heats_9 : decode cX13_heats 9 = .ok (.iload_n 2, 1) := by decide +kernel
theorem dX13_heats_10 : decode cX13_heats 10 = .ok (.aload_n 0, 1) := by decide +kernel
theorem dX13_heats_11 : decode cX13_heats 11 = .ok (.getfield 7, 3) := by decide +kernel
theorem dX13_heats_14 : decode cX13_heats 14 = .ok (.sipush 219, 3) := by decide +kernel
theorem dX13_heats_17 : decode cX13_heats 17 = .ok (.iload_n 1, 1) := by decide +kernel
theorem dX13_heats_18 : decode cX13_heats 18 = .ok (.iadd, 1) := by decide +kernel
theorem dX13_heats_19 : decode cX13_heats 19 = .ok (.iaload, 1) := by decide +kernel
theorem dX13_heats_20 : decode cX13_heats 20 = .ok (.if_icmp .le 7, 3) := by decide +kernel
theorem dX13_heats_23 : decode cX13_heats 23 = .ok (.iload_n 2, 1) := by decide +kernel
theorem dX13_heats_24 : decode cX13_heats 24 = .ok (.goto 13, 3) := by decide +kernel
theorem dX13_heats_27 : decode cX13_heats 27 = .ok (.aload_n 0, 1) := by decide +kernel
theorem dX13_heats_28 : decode cX13_heats 28 = .ok (.getfield 7, 3) := by decide +kernel
theorem dX13_heats_31 : decode cX13_heats 31 = .ok (.sipush 219, 3) := by decide +kernel
theorem dX13_heats_34 : decode cX13_heats 34 = .ok (.iload_n 1, 1) := by decide +kernel
theorem dX13_heats_35 : decode cX13_heats 35 = .ok (.iadd, 1) := by decide +kernel
theorem dX13_heats_36 : decode cX13_heats 36 = .ok (.iaload, 1) := by decide +kernel
theorem dX13_heats_37 : decode cX13_heats 37 = .ok (.iastore, 1) := by decide +kernel
theorem dX13_heats_38 : decode cX13_heats 38 = .ok (.iload_n 2, 1) := by decide +kernel
theorem dX13_heats_39 : decode cX13_heats 39 = .ok (.aload_n 0, 1) := by decide +kernel
theorem dX13_heats_40 : decode cX13_heats 40 = .ok (.getfield 7, 3) := by decide +kernel
theorem dX13_heats_43 : decode cX13_heats 43 = .ok (.sipush 171, 3) := by decide +kernel
theorem dX13_heats_46 : decode cX13_heats 46 = .ok (.iload_n 1, 1) := by decide +kernel
theorem dX13_heats_47 : decode cX13_heats 47 = .ok (.iadd, 1) := by decide +kernel
theorem dX13_heats_48 : decode cX13_heats 48 = .ok (.iaload, 1) := by decide +kernel
theorem dX13_heats_49 : decode cX13_heats 49 = .ok (.if_icmp .gt 25, 3) := by decide +kernel
theorem dX13_heats_52 : decode cX13_heats 52 = .ok (.aload_n 0, 1) := by decide +kernel
theorem dX13_heats_53 : decode cX13_heats 53 = .ok (.getfield 7, 3) := by decide +kernel
theorem dX13_heats_56 : decode cX13_heats 56 = .ok (.iconst 0, 1) := by decide +kernel
theorem dX13_heats_57 : decode cX13_heats 57 = .ok (.iaload, 1) := by decide +kernel
theorem dX13_heats_58 : decode cX13_heats 58 = .ok (.aload_n 0, 1) := by decide +kernel
theorem dX13_heats_59 : decode cX13_heats 59 = .ok (.getfield 7, 3) := by decide +kernel
theorem dX13_heats_62 : decode cX13_heats 62 = .ok (.sipush 179, 3) := by decide +kernel
theorem dX13_heats_65 : decode cX13_heats 65 = .ok (.iload_n 1, 1) := by decide +kernel
theorem dX13_heats_66 : decode cX13_heats 66 = .ok (.iadd, 1) := by decide +kernel
theorem dX13_heats_67 : decode cX13_heats 67 = .ok (.iaload, 1) := by decide +kernel
theorem dX13_heats_68 : decode cX13_heats 68 = .ok (.bipush 80, 2) := by decide +kernel
theorem dX13_heats_70 : decode cX13_heats 70 = .ok (.iadd, 1) := by decide +kernel
theorem dX13_heats_71 : decode cX13_heats 71 = .ok (.if_icmp .le 15, 3) := by decide +kernel
theorem dX13_heats_74 : decode cX13_heats 74 = .ok (.aload_n 0, 1) := by decide +kernel
theorem dX13_heats_75 : decode cX13_heats 75 = .ok (.getfield 7, 3) := by decide +kernel
theorem dX13_heats_78 : decode cX13_heats 78 = .ok (.sipush 195, 3) := by decide +kernel
theorem dX13_heats_81 : decode cX13_heats 81 = .ok (.iload_n 1, 1) := by decide +kernel
theorem dX13_heats_82 : decode cX13_heats 82 = .ok (.iadd, 1) := by decide +kernel
theorem dX13_heats_83 : decode cX13_heats 83 = .ok (.iconst 3, 1) := by decide +kernel
theorem dX13_heats_84 : decode cX13_heats 84 = .ok (.iastore, 1) := by decide +kernel
theorem dX13_heats_85 : decode cX13_heats 85 = .ok (.return_, 1) := by decide +kernel
theorem dX13_heats_86 : decode cX13_heats 86 = .ok (.aload_n 0, 1) := by decide +kernel
theorem dX13_heats_87 : decode cX13_heats 87 = .ok (.getfield 7, 3) := by decide +kernel
theorem dX13_heats_90 : decode cX13_heats 90 = .ok (.iconst 0, 1) := by decide +kernel
theorem dX13_heats_91 : decode cX13_heats 91 = .ok (.iaload, 1) := by decide +kernel
theorem dX13_heats_92 : decode cX13_heats 92 = .ok (.aload_n 0, 1) := by decide +kernel
theorem dX13_heats_93 : decode cX13_heats 93 = .ok (.getfield 7, 3) := by decide +kernel
theorem dX13_heats_96 : decode cX13_heats 96 = .ok (.sipush 179, 3) := by decide +kernel
theorem dX13_heats_99 : decode cX13_heats 99 = .ok (.iload_n 1, 1) := by decide +kernel
theorem dX13_heats_100 : decode cX13_heats 100 = .ok (.iadd, 1) := by decide +kernel
theorem dX13_heats_101 : decode cX13_heats 101 = .ok (.iaload, 1) := by decide +kernel
theorem dX13_heats_102 : decode cX13_heats 102 = .ok (.if_icmp .ge 4, 3) := by decide +kernel
theorem dX13_heats_105 : decode cX13_heats 105 = .ok (.return_, 1) := by decide +kernel
theorem dX13_heats_106 : decode cX13_heats 106 = .ok (.aload_n 0, 1) := by decide +kernel
theorem dX13_heats_107 : decode cX13_heats 107 = .ok (.getfield 7, 3) := by decide +kernel
theorem dX13_heats_110 : decode cX13_heats 110 = .ok (.sipush 203, 3) := by decide +kernel
theorem dX13_heats_113 : decode cX13_heats 113 = .ok (.iload_n 1, 1) := by decide +kernel
theorem dX13_heats_114 : decode cX13_heats 114 = .ok (.iadd, 1) := by decide +kernel
theorem dX13_heats_115 : decode cX13_heats 115 = .ok (.dup2, 1) := by decide +kernel
theorem dX13_heats_116 : decode cX13_heats 116 = .ok (.iaload, 1) := by decide +kernel
theorem dX13_heats_117 : decode cX13_heats 117 = .ok (.iconst 1, 1) := by decide +kernel
theorem dX13_heats_118 : decode cX13_heats 118 = .ok (.iadd, 1) := by decide +kernel
theorem dX13_heats_119 : decode cX13_heats 119 = .ok (.iastore, 1) := by decide +kernel
theorem dX13_heats_120 : decode cX13_heats 120 = .ok (.aload_n 0, 1) := by decide +kernel
theorem dX13_heats_121 : decode cX13_heats 121 = .ok (.getfield 7, 3) := by decide +kernel
theorem dX13_heats_124 : decode cX13_heats 124 = .ok (.sipush 203, 3) := by decide +kernel
theorem dX13_heats_127 : decode cX13_heats 127 = .ok (.iload_n 1, 1) := by decide +kernel
theorem dX13_heats_128 : decode cX13_heats 128 = .ok (.iadd, 1) := by decide +kernel
theorem dX13_heats_129 : decode cX13_heats 129 = .ok (.iaload, 1) := by decide +kernel
theorem dX13_heats_130 : decode cX13_heats 130 = .ok (.aload_n 0, 1) := by decide +kernel
theorem dX13_heats_131 : decode cX13_heats 131 = .ok (.getfield 7, 3) := by decide +kernel
theorem dX13_heats_134 : decode cX13_heats 134 = .ok (.sipush 187, 3) := by decide +kernel
theorem dX13_heats_137 : decode cX13_heats 137 = .ok (.iload_n 1, 1) := by decide +kernel
theorem dX13_heats_138 : decode cX13_heats 138 = .ok (.iadd, 1) := by decide +kernel
theorem dX13_heats_139 : decode cX13_heats 139 = .ok (.iaload, 1) := by decide +kernel
theorem dX13_heats_140 : decode cX13_heats 140 = .ok (.if_icmp .ne 14, 3) := by decide +kernel
theorem dX13_heats_143 : decode cX13_heats 143 = .ok (.aload_n 0, 1) := by decide +kernel
theorem dX13_heats_144 : decode cX13_heats 144 = .ok (.getfield 7, 3) := by decide +kernel
theorem dX13_heats_147 : decode cX13_heats 147 = .ok (.sipush 195, 3) := by decide +kernel
theorem dX13_heats_150 : decode cX13_heats 150 = .ok (.iload_n 1, 1) := by decide +kernel
theorem dX13_heats_151 : decode cX13_heats 151 = .ok (.iadd, 1) := by decide +kernel
theorem dX13_heats_152 : decode cX13_heats 152 = .ok (.iconst 2, 1) := by decide +kernel
theorem dX13_heats_153 : decode cX13_heats 153 = .ok (.iastore, 1) := by decide +kernel
theorem dX13_heats_154 : decode cX13_heats 154 = .ok (.return_, 1) := by decide +kernel
theorem dX13_goesBy_0 : decode cX13_goesBy 0 = .ok (.aload_n 0, 1) := by decide +kernel
theorem dX13_goesBy_1 : decode cX13_goesBy 1 = .ok (.invokevirtual 58, 3) := by decide +kernel
theorem dX13_goesBy_4 : decode cX13_goesBy 4 = .ok (.istore_n 1, 1) := by decide +kernel
theorem dX13_goesBy_5 : decode cX13_goesBy 5 = .ok (.aload_n 0, 1) := by decide +kernel
theorem dX13_goesBy_6 : decode cX13_goesBy 6 = .ok (.getfield 7, 3) := by decide +kernel
theorem dX13_goesBy_9 : decode cX13_goesBy 9 = .ok (.iconst 0, 1) := by decide +kernel
theorem dX13_goesBy_10 : decode cX13_goesBy 10 = .ok (.iaload, 1) := by decide +kernel
theorem dX13_goesBy_11 : decode cX13_goesBy 11 = .ok (.istore_n 2, 1) := by decide +kernel
theorem dX13_goesBy_12 : decode cX13_goesBy 12 = .ok (.aload_n 0, 1) := by decide +kernel
theorem dX13_goesBy_13 : decode cX13_goesBy 13 = .ok (.invokevirtual 69, 3) := by decide +kernel
theorem dX13_goesBy_16 : decode cX13_goesBy 16 = .ok (.istore_n 3, 1) := by decide +kernel
theorem dX13_goesBy_17 : decode cX13_goesBy 17 = .ok (.aload_n 0, 1) := by decide +kernel
theorem dX13_goesBy_18 : decode cX13_goesBy 18 = .ok (.getfield 7, 3) := by decide +kernel
theorem dX13_goesBy_21 : decode cX13_goesBy 21 = .ok (.iconst 5, 1) := by decide +kernel
theorem dX13_goesBy_22 : decode cX13_goesBy 22 = .ok (.aload_n 0, 1) := by decide +kernel
theorem dX13_goesBy_23 : decode cX13_goesBy 23 = .ok (.invokevirtual 66, 3) := by decide +kernel
theorem dX13_goesBy_26 : decode cX13_goesBy 26 = .ok (.iastore, 1) := by decide +kernel
theorem dX13_goesBy_27 : decode cX13_goesBy 27 = .ok (.aload_n 0, 1) := by decide +kernel
theorem dX13_goesBy_28 : decode cX13_goesBy 28 = .ok (.getfield 7, 3) := by decide +kernel
theorem dX13_goesBy_31 : decode cX13_goesBy 31 = .ok (.bipush 7, 2) := by decide +kernel
theorem dX13_goesBy_33 : decode cX13_goesBy 33 = .ok (.iload_n 1, 1) := by decide +kernel
theorem dX13_goesBy_34 : decode cX13_goesBy 34 = .ok (.iastore, 1) := by decide +kernel
theorem dX13_goesBy_35 : decode cX13_goesBy 35 = .ok (.aload_n 0, 1) := by decide +kernel
theorem dX13_goesBy_36 : decode cX13_goesBy 36 = .ok (.getfield 7, 3) := by decide +kernel
theorem dX13_goesBy_39 : decode cX13_goesBy 39 = .ok (.bipush 9, 2) := by decide +kernel
theorem dX13_goesBy_41 : decode cX13_goesBy 41 = .ok (.aload_n 0, 1) := by decide +kernel
theorem dX13_goesBy_42 : decode cX13_goesBy 42 = .ok (.iload_n 3, 1) := by decide +kernel
theorem dX13_goesBy_43 : decode cX13_goesBy 43 = .ok (.invokevirtual 72, 3) := by decide +kernel
theorem dX13_goesBy_46 : decode cX13_goesBy 46 = .ok (.aload_n 0, 1) := by decide +kernel
theorem dX13_goesBy_47 : decode cX13_goesBy 47 = .ok (.getfield 7, 3) := by decide +kernel
theorem dX13_goesBy_50 : decode cX13_goesBy 50 = .ok (.bipush 9, 2) := by decide +kernel
theorem dX13_goesBy_52 : decode cX13_goesBy 52 = .ok (.iaload, 1) := by decide +kernel
theorem dX13_goesBy_53 : decode cX13_goesBy 53 = .ok (.bipush 20, 2) := by decide +kernel
theorem dX13_goesBy_55 : decode cX13_goesBy 55 = .ok (.isub, 1) := by decide +kernel
theorem dX13_goesBy_56 : decode cX13_goesBy 56 = .ok (.aload_n 0, 1) := by decide +kernel
theorem dX13_goesBy_57 : decode cX13_goesBy 57 = .ok (.getfield 7, 3) := by decide +kernel
theorem dX13_goesBy_60 : decode cX13_goesBy 60 = .ok (.bipush 9, 2) := by decide +kernel
theorem dX13_goesBy_62 : decode cX13_goesBy 62 = .ok (.iaload, 1) := by decide +kernel
theorem dX13_goesBy_63 : decode cX13_goesBy 63 = .ok (.bipush 20, 2) := by decide +kernel
theorem dX13_goesBy_65 : decode cX13_goesBy 65 = .ok (.iadd, 1) := by decide +kernel
theorem dX13_goesBy_66 : decode cX13_goesBy 66 = .ok (.invokestatic 62, 3) := by decide +kernel
theorem dX13_goesBy_69 : decode cX13_goesBy 69 = .ok (.iastore, 1) := by decide +kernel
theorem dX13_goesBy_70 : decode cX13_goesBy 70 = .ok (.aload_n 0, 1) := by decide +kernel
theorem dX13_goesBy_71 : decode cX13_goesBy 71 = .ok (.getfield 7, 3) := by decide +kernel
theorem dX13_goesBy_74 : decode cX13_goesBy 74 = .ok (.bipush 9, 2) := by decide +kernel
theorem dX13_goesBy_76 : decode cX13_goesBy 76 = .ok (.iaload, 1) := by decide +kernel
theorem dX13_goesBy_77 : decode cX13_goesBy 77 = .ok (.aload_n 0, 1) := by decide +kernel
theorem dX13_goesBy_78 : decode cX13_goesBy 78 = .ok (.getfield 7, 3) := by decide +kernel
theorem dX13_goesBy_81 : decode cX13_goesBy 81 = .ok (.bipush 10, 2) := by decide +kernel
theorem dX13_goesBy_83 : decode cX13_goesBy 83 = .ok (.iaload, 1) := by decide +kernel
theorem dX13_goesBy_84 : decode cX13_goesBy 84 = .ok (.if_icmp .ge 13, 3) := by decide +kernel
theorem dX13_goesBy_87 : decode cX13_goesBy 87 = .ok (.aload_n 0, 1) := by decide +kernel
theorem dX13_goesBy_88 : decode cX13_goesBy 88 = .ok (.getfield 7, 3) := by decide +kernel
theorem dX13_goesBy_91 : decode cX13_goesBy 91 = .ok (.bipush 9, 2) := by decide +kernel
theorem dX13_goesBy_93 : decode cX13_goesBy 93 = .ok (.iaload, 1) := by decide +kernel
theorem dX13_goesBy_94 : decode cX13_goesBy 94 = .ok (.goto 10, 3) := by decide +kernel
theorem dX13_goesBy_97 : decode cX13_goesBy 97 = .ok (.aload_n 0, 1) := by decide +kernel
theorem dX13_goesBy_98 : decode cX13_goesBy 98 = .ok (.getfield 7, 3) := by decide +kernel
theorem dX13_goesBy_101 : decode cX13_goesBy 101 = .ok (.bipush 10, 2) := by decide +kernel
theorem dX13_goesBy_103 : decode cX13_goesBy 103 = .ok (.iaload, 1) := by decide +kernel
theorem dX13_goesBy_104 : decode cX13_goesBy 104 = .ok (.istore 4, 2) := by decide +kernel
theorem dX13_goesBy_106 : decode cX13_goesBy 106 = .ok (.aload_n 0, 1) := by decide +kernel
theorem dX13_goesBy_107 : decode cX13_goesBy 107 = .ok (.getfield 7, 3) := by decide +kernel
theorem dX13_goesBy_110 : decode cX13_goesBy 110 = .ok (.bipush 10, 2) := by decide +kernel
theorem dX13_goesBy_112 : decode cX13_goesBy 112 = .ok (.dup2, 1) := by decide +kernel
theorem dX13_goesBy_113 : decode cX13_goesBy 113 = .ok (.iaload, 1) := by decide +kernel
theorem dX13_goesBy_114 : decode cX13_goesBy 114 = .ok (.iload 4, 2) := by decide +kernel
theorem dX13_goesBy_116 : decode cX13_goesBy 116 = .ok (.isub, 1) := by decide +kernel
theorem dX13_goesBy_117 : decode cX13_goesBy 117 = .ok (.iastore, 1) := by decide +kernel
theorem dX13_goesBy_118 : decode cX13_goesBy 118 = .ok (.aload_n 0, 1) := by decide +kernel
theorem dX13_goesBy_119 : decode cX13_goesBy 119 = .ok (.getfield 7, 3) := by decide +kernel
theorem dX13_goesBy_122 : decode cX13_goesBy 122 = .ok (.bipush 16, 2) := by decide +kernel
theorem dX13_goesBy_124 : decode cX13_goesBy 124 = .ok (.dup2, 1) := by decide +kernel
theorem dX13_goesBy_125 : decode cX13_goesBy 125 = .ok (.iaload, 1) := by decide +kernel
theorem dX13_goesBy_126 : decode cX13_goesBy 126 = .ok (.iload 4, 2) := by decide +kernel
theorem dX13_goesBy_128 : decode cX13_goesBy 128 = .ok (.iadd, 1) := by decide +kernel
theorem dX13_goesBy_129 : decode cX13_goesBy 129 = .ok (.iastore, 1) := by decide +kernel
theorem dX13_goesBy_130 : decode cX13_goesBy 130 = .ok (.aload_n 0, 1) := by decide +kernel
theorem dX13_goesBy_131 : decode cX13_goesBy 131 = .ok (.getfield 7, 3) := by decide +kernel
theorem dX13_goesBy_134 : decode cX13_goesBy 134 = .ok (.bipush 22, 2) := by decide +kernel
theorem dX13_goesBy_136 : decode cX13_goesBy 136 = .ok (.iload 4, 2) := by decide +kernel
theorem dX13_goesBy_138 : decode cX13_goesBy 138 = .ok (.iadd, 1) := by decide +kernel
theorem dX13_goesBy_139 : decode cX13_goesBy 139 = .ok (.dup2, 1) := by decide +kernel
theorem dX13_goesBy_140 : decode cX13_goesBy 140 = .ok (.iaload, 1) := by decide +kernel
theorem dX13_goesBy_141 : decode cX13_goesBy 141 = .ok (.iconst 1, 1) := by decide +kernel
theorem dX13_goesBy_142 : decode cX13_goesBy 142 = .ok (.iadd, 1) := by decide +kernel
theorem dX13_goesBy_143 : decode cX13_goesBy 143 = .ok (.iastore, 1) := by decide +kernel
theorem dX13_goesBy_144 : decode cX13_goesBy 144 = .ok (.aload_n 0, 1) := by decide +kernel
theorem dX13_goesBy_145 : decode cX13_goesBy 145 = .ok (.getfield 7, 3) := by decide +kernel
theorem dX13_goesBy_148 : decode cX13_goesBy 148 = .ok (.iconst 0, 1) := by decide +kernel
theorem dX13_goesBy_149 : decode cX13_goesBy 149 = .ok (.iload_n 2, 1) := by decide +kernel
theorem dX13_goesBy_150 : decode cX13_goesBy 150 = .ok (.iload 4, 2) := by decide +kernel
theorem dX13_goesBy_152 : decode cX13_goesBy 152 = .ok (.iconst 2, 1) := by decide +kernel
theorem dX13_goesBy_153 : decode cX13_goesBy 153 = .ok (.idiv, 1) := by decide +kernel
theorem dX13_goesBy_154 : decode cX13_goesBy 154 = .ok (.iadd, 1) := by decide +kernel
theorem dX13_goesBy_155 : decode cX13_goesBy 155 = .ok (.iload_n 2, 1) := by decide +kernel
theorem dX13_goesBy_156 : decode cX13_goesBy 156 = .ok (.bipush 20, 2) := by decide +kernel
theorem dX13_goesBy_158 : decode cX13_goesBy 158 = .ok (.isub, 1) := by decide +kernel
theorem dX13_goesBy_159 : decode cX13_goesBy 159 = .ok (.bipush 25, 2) := by decide +kernel
theorem dX13_goesBy_161 : decode cX13_goesBy 161 = .ok (.idiv, 1) := by decide +kernel
theorem dX13_goesBy_162 : decode cX13_goesBy 162 = .ok (.isub, 1) := by decide +kernel
theorem dX13_goesBy_163 : decode cX13_goesBy 163 = .ok (.iastore, 1) := by decide +kernel
theorem dX13_goesBy_164 : decode cX13_goesBy 164 = .ok (.aload_n 0, 1) := by decide +kernel
theorem dX13_goesBy_165 : decode cX13_goesBy 165 = .ok (.getfield 7, 3) := by decide +kernel
theorem dX13_goesBy_168 : decode cX13_goesBy 168 = .ok (.bipush 12, 2) := by decide +kernel
theorem dX13_goesBy_170 : decode cX13_goesBy 170 = .ok (.dup2, 1) := by decide +kernel
theorem dX13_goesBy_171 : decode cX13_goesBy 171 = .ok (.iaload, 1) := by decide +kernel
theorem dX13_goesBy_172 : decode cX13_goesBy 172 = .ok (.iconst 1, 1) := by decide +kernel
theorem dX13_goesBy_173 : decode cX13_goesBy 173 = .ok (.iadd, 1) := by decide +kernel
theorem dX13_goesBy_174 : decode cX13_goesBy 174 = .ok (.iastore, 1) := by decide +kernel
theorem dX13_goesBy_175 : decode cX13_goesBy 175 = .ok (.aload_n 0, 1) := by decide +kernel
theorem dX13_goesBy_176 : decode cX13_goesBy 176 = .ok (.getfield 7, 3) := by decide +kernel
theorem dX13_goesBy_179 : decode cX13_goesBy 179 = .ok (.bipush 13, 2) := by decide +kernel
theorem dX13_goesBy_181 : decode cX13_goesBy 181 = .ok (.aload_n 0, 1) := by decide +kernel
theorem dX13_goesBy_182 : decode cX13_goesBy 182 = .ok (.invokevirtual 58, 3) := by decide +kernel
theorem dX13_goesBy_185 : decode cX13_goesBy 185 = .ok (.ineg, 1) := by decide +kernel
theorem dX13_goesBy_186 : decode cX13_goesBy 186 = .ok (.aload_n 0, 1) := by decide +kernel
theorem dX13_goesBy_187 : decode cX13_goesBy 187 = .ok (.getfield 7, 3) := by decide +kernel
theorem dX13_goesBy_190 : decode cX13_goesBy 190 = .ok (.bipush 13, 2) := by decide +kernel
theorem dX13_goesBy_192 : decode cX13_goesBy 192 = .ok (.iaload, 1) := by decide +kernel
theorem dX13_goesBy_193 : decode cX13_goesBy 193 = .ok (.if_icmp .le 11, 3) := by decide +kernel
theorem dX13_goesBy_196 : decode cX13_goesBy 196 = .ok (.aload_n 0, 1) := by decide +kernel
theorem dX13_goesBy_197 : decode cX13_goesBy 197 = .ok (.invokevirtual 58, 3) := by decide +kernel
theorem dX13_goesBy_200 : decode cX13_goesBy 200 = .ok (.ineg, 1) := by decide +kernel
theorem dX13_goesBy_201 : decode cX13_goesBy 201 = .ok (.goto 10, 3) := by decide +kernel
theorem dX13_goesBy_204 : decode cX13_goesBy 204 = .ok (.aload_n 0, 1) := by decide +kernel
theorem dX13_goesBy_205 : decode cX13_goesBy 205 = .ok (.getfield 7, 3) := by decide +kernel
theorem dX13_goesBy_208 : decode cX13_goesBy 208 = .ok (.bipush 13, 2) := by decide +kernel
theorem dX13_goesBy_210 : decode cX13_goesBy 210 = .ok (.iaload, 1) := by decide +kernel
theorem dX13_goesBy_211 : decode cX13_goesBy 211 = .ok (.iastore, 1) := by decide +kernel
theorem dX13_goesBy_212 : decode cX13_goesBy 212 = .ok (.aload_n 0, 1) := by decide +kernel
theorem dX13_goesBy_213 : decode cX13_goesBy 213 = .ok (.iload_n 1, 1) := by decide +kernel
theorem dX13_goesBy_214 : decode cX13_goesBy 214 = .ok (.iload 4, 2) := by decide +kernel
theorem dX13_goesBy_216 : decode cX13_goesBy 216 = .ok (.invokevirtual 75, 3) := by decide +kernel
theorem dX13_goesBy_219 : decode cX13_goesBy 219 = .ok (.aload_n 0, 1) := by decide +kernel
theorem dX13_goesBy_220 : decode cX13_goesBy 220 = .ok (.getfield 7, 3) := by decide +kernel
theorem dX13_goesBy_223 : decode cX13_goesBy 223 = .ok (.iconst 0, 1) := by decide +kernel
theorem dX13_goesBy_224 : decode cX13_goesBy 224 = .ok (.iaload, 1) := by decide +kernel
theorem dX13_goesBy_225 : decode cX13_goesBy 225 = .ok (.iload_n 2, 1) := by decide +kernel
theorem dX13_goesBy_226 : decode cX13_goesBy 226 = .ok (.if_icmp .ge 14, 3) := by decide +kernel
theorem dX13_goesBy_229 : decode cX13_goesBy 229 = .ok (.iload_n 2, 1) := by decide +kernel
theorem dX13_goesBy_230 : decode cX13_goesBy 230 = .ok (.aload_n 0, 1) := by decide +kernel
theorem dX13_goesBy_231 : decode cX13_goesBy 231 = .ok (.getfield 7, 3) := by decide +kernel
theorem dX13_goesBy_234 : decode cX13_goesBy 234 = .ok (.iconst 0, 1) := by decide +kernel
theorem dX13_goesBy_235 : decode cX13_goesBy 235 = .ok (.iaload, 1) := by decide +kernel
theorem dX13_goesBy_236 : decode cX13_goesBy 236 = .ok (.isub, 1) := by decide +kernel
theorem dX13_goesBy_237 : decode cX13_goesBy 237 = .ok (.goto 11, 3) := by decide +kernel
theorem dX13_goesBy_240 : decode cX13_goesBy 240 = .ok (.aload_n 0, 1) := by decide +kernel
theorem dX13_goesBy_241 : decode cX13_goesBy 241 = .ok (.getfield 7, 3) := by decide +kernel
theorem dX13_goesBy_244 : decode cX13_goesBy 244 = .ok (.iconst 0, 1) := by decide +kernel
theorem dX13_goesBy_245 : decode cX13_goesBy 245 = .ok (.iaload, 1) := by decide +kernel
theorem dX13_goesBy_246 : decode cX13_goesBy 246 = .ok (.iload_n 2, 1) := by decide +kernel
theorem dX13_goesBy_247 : decode cX13_goesBy 247 = .ok (.isub, 1) := by decide +kernel
theorem dX13_goesBy_248 : decode cX13_goesBy 248 = .ok (.istore 5, 2) := by decide +kernel
theorem dX13_goesBy_250 : decode cX13_goesBy 250 = .ok (.iconst 0, 1) := by decide +kernel
theorem dX13_goesBy_251 : decode cX13_goesBy 251 = .ok (.istore 6, 2) := by decide +kernel
theorem dX13_goesBy_253 : decode cX13_goesBy 253 = .ok (.iload 6, 2) := by decide +kernel
theorem dX13_goesBy_255 : decode cX13_goesBy 255 = .ok (.aload_n 0, 1) := by decide +kernel
theorem dX13_goesBy_256 : decode cX13_goesBy 256 = .ok (.getfield 7, 3) := by decide +kernel
theorem dX13_goesBy_259 : decode cX13_goesBy 259 = .ok (.bipush 15, 2) := by decide +kernel
theorem dX13_goesBy_261 : decode cX13_goesBy 261 = .ok (.iaload, 1) := by decide +kernel
theorem dX13_goesBy_262 : decode cX13_goesBy 262 = .ok (.if_icmp .ge 32, 3) := by decide +kernel
theorem dX13_goesBy_265 : decode cX13_goesBy 265 = .ok (.aload_n 0, 1) := by decide +kernel
theorem dX13_goesBy_266 : decode cX13_goesBy 266 = .ok (.getfield 7, 3) := by decide +kernel
theorem dX13_goesBy_269 : decode cX13_goesBy 269 = .ok (.sipush 195, 3) := by decide +kernel
theorem dX13_goesBy_272 : decode cX13_goesBy 272 = .ok (.iload 6, 2) := by decide +kernel
theorem dX13_goesBy_274 : decode cX13_goesBy 274 = .ok (.iadd, 1) := by decide +kernel
theorem dX13_goesBy_275 : decode cX13_goesBy 275 = .ok (.iaload, 1) := by decide +kernel
theorem dX13_goesBy_276 : decode cX13_goesBy 276 = .ok (.iconst 1, 1) := by decide +kernel
theorem dX13_goesBy_277 : decode cX13_goesBy 277 = .ok (.if_icmp .ne 11, 3) := by decide +kernel
theorem dX13_goesBy_280 : decode cX13_goesBy 280 = .ok (.aload_n 0, 1) := by decide +kernel
theorem dX13_goesBy_281 : decode cX13_goesBy 281 = .ok (.iload 6, 2) := by decide +kernel
theorem dX13_goesBy_283 : decode cX13_goesBy 283 = .ok (.iload 5, 2) := by decide +kernel
theorem dX13_goesBy_285 : decode cX13_goesBy 285 = .ok (.invokevirtual 79, 3) := by decide +kernel
theorem dX13_goesBy_288 : decode cX13_goesBy 288 = .ok (.iinc 6 1, 3) := by decide +kernel
theorem dX13_goesBy_291 : decode cX13_goesBy 291 = .ok (.goto (-38), 3) := by decide +kernel
theorem dX13_goesBy_294 : decode cX13_goesBy 294 = .ok (.return_, 1) := by decide +kernel
theorem dX13_thinks_0 : decode cX13_thinks 0 = .ok (.iconst 0, 1) := by decide +kernel
theorem dX13_thinks_1 : decode cX13_thinks 1 = .ok (.istore_n 2, 1) := by decide +kernel
theorem dX13_thinks_2 : decode cX13_thinks 2 = .ok (.iload_n 2, 1) := by decide +kernel
theorem dX13_thinks_3 : decode cX13_thinks 3 = .ok (.sipush 227, 3) := by decide +kernel
theorem dX13_thinks_6 : decode cX13_thinks 6 = .ok (.if_icmp .ge 21, 3) := by decide +kernel
theorem dX13_thinks_9 : decode cX13_thinks 9 = .ok (.aload_n 0, 1) := by decide +kernel
theorem dX13_thinks_10 : decode cX13_thinks 10 = .ok (.getfield 19, 3) := by decide +kernel
theorem dX13_thinks_13 : decode cX13_thinks 13 = .ok (.iload_n 2, 1) := by decide +kernel
theorem dX13_thinks_14 : decode cX13_thinks 14 = .ok (.aload_n 0, 1) := by decide +kernel
theorem dX13_thinks_15 : decode cX13_thinks 15 = .ok (.getfield 7, 3) := by decide +kernel
theorem dX13_thinks_18 : decode cX13_thinks 18 = .ok (.iload_n 2, 1) := by decide +kernel
theorem dX13_thinks_19 : decode cX13_thinks 19 = .ok (.iaload, 1) := by decide +kernel
theorem dX13_thinks_20 : decode cX13_thinks 20 = .ok (.iastore, 1) := by decide +kernel
theorem dX13_thinks_21 : decode cX13_thinks 21 = .ok (.iinc 2 1, 3) := by decide +kernel
theorem dX13_thinks_24 : decode cX13_thinks 24 = .ok (.goto (-22), 3) := by decide +kernel
theorem dX13_thinks_27 : decode cX13_thinks 27 = .ok (.iconst 0, 1) := by decide +kernel
theorem dX13_thinks_28 : decode cX13_thinks 28 = .ok (.istore_n 2, 1) := by decide +kernel
theorem dX13_thinks_29 : decode cX13_thinks 29 = .ok (.iload_n 2, 1) := by decide +kernel
theorem dX13_thinks_30 : decode cX13_thinks 30 = .ok (.iload_n 1, 1) := by decide +kernel
theorem dX13_thinks_31 : decode cX13_thinks 31 = .ok (.if_icmp .ge 13, 3) := by decide +kernel
theorem dX13_thinks_34 : decode cX13_thinks 34 = .ok (.aload_n 0, 1) := by decide +kernel
theorem dX13_thinks_35 : decode cX13_thinks 35 = .ok (.invokevirtual 82, 3) := by decide +kernel
theorem dX13_thinks_38 : decode cX13_thinks 38 = .ok (.iinc 2 1, 3) := by decide +kernel
theorem dX13_thinks_41 : decode cX13_thinks 41 = .ok (.goto (-12), 3) := by decide +kernel
theorem dX13_thinks_44 : decode cX13_thinks 44 = .ok (.return_, 1) := by decide +kernel
theorem dX13_forgets_0 : decode cX13_forgets 0 = .ok (.iconst 0, 1) := by decide +kernel
theorem dX13_forgets_1 : decode cX13_forgets 1 = .ok (.istore_n 1, 1) := by decide +kernel
theorem dX13_forgets_2 : decode cX13_forgets 2 = .ok (.iload_n 1, 1) := by decide +kernel
theorem dX13_forgets_3 : decode cX13_forgets 3 = .ok (.sipush 227, 3) := by decide +kernel
theorem dX13_forgets_6 : decode cX13_forgets 6 = .ok (.if_icmp .ge 21, 3) := by decide +kernel
theorem dX13_forgets_9 : decode cX13_forgets 9 = .ok (.aload_n 0, 1) := by decide +kernel
theorem dX13_forgets_10 : decode cX13_forgets 10 = .ok (.getfield 7, 3) := by decide +kernel
theorem dX13_forgets_13 : decode cX13_forgets 13 = .ok (.iload_n 1, 1) := by decide +kernel
theorem dX13_forgets_14 : decode cX13_forgets 14 = .ok (.aload_n 0, 1) := by decide +kernel
theorem dX13_forgets_15 : decode cX13_forgets 15 = .ok (.getfield 19, 3) := by decide +kernel
theorem dX13_forgets_18 : decode cX13_forgets 18 = .ok (.iload_n 1, 1) := by decide +kernel
theorem dX13_forgets_19 : decode cX13_forgets 19 = .ok (.iaload, 1) := by decide +kernel
theorem dX13_forgets_20 : decode cX13_forgets 20 = .ok (.iastore, 1) := by decide +kernel
theorem dX13_forgets_21 : decode cX13_forgets 21 = .ok (.iinc 1 1, 3) := by decide +kernel
theorem dX13_forgets_24 : decode cX13_forgets 24 = .ok (.goto (-22), 3) := by decide +kernel
theorem dX13_forgets_27 : decode cX13_forgets 27 = .ok (.return_, 1) := by decide +kernel
theorem dX13_aims_0 : decode cX13_aims 0 = .ok (.iload_n 1, 1) := by decide +kernel
theorem dX13_aims_1 : decode cX13_aims 1 = .ok (.bipush 20, 2) := by decide +kernel
theorem dX13_aims_3 : decode cX13_aims 3 = .ok (.sipush 1200, 3) := by decide +kernel
theorem dX13_aims_6 : decode cX13_aims 6 = .ok (.invokestatic 54, 3) := by decide +kernel
theorem dX13_aims_9 : decode cX13_aims 9 = .ok (.ifCond .ne 7, 3) := by decide +kernel
theorem dX13_aims_12 : decode cX13_aims 12 = .ok (.sipush (-10002), 3) := by decide +kernel
theorem dX13_aims_15 : decode cX13_aims 15 = .ok (.ireturn, 1) := by decide +kernel
theorem dX13_aims_16 : decode cX13_aims 16 = .ok (.aload_n 0, 1) := by decide +kernel
theorem dX13_aims_17 : decode cX13_aims 17 = .ok (.getfield 7, 3) := by decide +kernel
theorem dX13_aims_20 : decode cX13_aims 20 = .ok (.iconst 1, 1) := by decide +kernel
theorem dX13_aims_21 : decode cX13_aims 21 = .ok (.iaload, 1) := by decide +kernel
theorem dX13_aims_22 : decode cX13_aims 22 = .ok (.istore_n 2, 1) := by decide +kernel
theorem dX13_aims_23 : decode cX13_aims 23 = .ok (.iload_n 2, 1) := by decide +kernel
theorem dX13_aims_24 : decode cX13_aims 24 = .ok (.iload_n 1, 1) := by decide +kernel
theorem dX13_aims_25 : decode cX13_aims 25 = .ok (.if_icmp .ne 10, 3) := by decide +kernel
theorem dX13_aims_28 : decode cX13_aims 28 = .ok (.aload_n 0, 1) := by decide +kernel
theorem dX13_aims_29 : decode cX13_aims 29 = .ok (.iconst 5, 1) := by decide +kernel
theorem dX13_aims_30 : decode cX13_aims 30 = .ok (.iload_n 1, 1) := by decide +kernel
theorem dX13_aims_31 : decode cX13_aims 31 = .ok (.invokevirtual 85, 3) := by decide +kernel
theorem dX13_aims_34 : decode cX13_aims 34 = .ok (.ireturn, 1) := by decide +kernel
theorem dX13_aims_35 : decode cX13_aims 35 = .ok (.aload_n 0, 1) := by decide +kernel
theorem dX13_aims_36 : decode cX13_aims 36 = .ok (.getfield 7, 3) := by decide +kernel
theorem dX13_aims_39 : decode cX13_aims 39 = .ok (.iconst 1, 1) := by decide +kernel
theorem dX13_aims_40 : decode cX13_aims 40 = .ok (.iload_n 1, 1) := by decide +kernel
theorem dX13_aims_41 : decode cX13_aims 41 = .ok (.iastore, 1) := by decide +kernel
theorem dX13_aims_42 : decode cX13_aims 42 = .ok (.aload_n 0, 1) := by decide +kernel
theorem dX13_aims_43 : decode cX13_aims 43 = .ok (.getfield 7, 3) := by decide +kernel
theorem dX13_aims_46 : decode cX13_aims 46 = .ok (.bipush 13, 2) := by decide +kernel
theorem dX13_aims_48 : decode cX13_aims 48 = .ok (.iconst 0, 1) := by decide +kernel
theorem dX13_aims_49 : decode cX13_aims 49 = .ok (.iastore, 1) := by decide +kernel
theorem dX13_aims_50 : decode cX13_aims 50 = .ok (.aload_n 0, 1) := by decide +kernel
theorem dX13_aims_51 : decode cX13_aims 51 = .ok (.iload_n 2, 1) := by decide +kernel
theorem dX13_aims_52 : decode cX13_aims 52 = .ok (.invokevirtual 89, 3) := by decide +kernel
theorem dX13_aims_55 : decode cX13_aims 55 = .ok (.ireturn, 1) := by decide +kernel
theorem dX13_gainsOf_0 : decode cX13_gainsOf 0 = .ok (.iload_n 1, 1) := by decide +kernel
theorem dX13_gainsOf_1 : decode cX13_gainsOf 1 = .ok (.iconst 0, 1) := by decide +kernel
theorem dX13_gainsOf_2 : decode cX13_gainsOf 2 = .ok (.bipush 50, 2) := by decide +kernel
theorem dX13_gainsOf_4 : decode cX13_gainsOf 4 = .ok (.invokestatic 54, 3) := by decide +kernel
theorem dX13_gainsOf_7 : decode cX13_gainsOf 7 = .ok (.ifCond .eq 23, 3) := by decide +kernel
theorem dX13_gainsOf_10 : decode cX13_gainsOf 10 = .ok (.iload_n 2, 1) := by decide +kernel
theorem dX13_gainsOf_11 : decode cX13_gainsOf 11 = .ok (.iconst 0, 1) := by decide +kernel
theorem dX13_gainsOf_12 : decode cX13_gainsOf 12 = .ok (.bipush 50, 2) := by decide +kernel
theorem dX13_gainsOf_14 : decode cX13_gainsOf 14 = .ok (.invokestatic 54, 3) := by decide +kernel
theorem dX13_gainsOf_17 : decode cX13_gainsOf 17 = .ok (.ifCond .eq 13, 3) := by decide +kernel
theorem dX13_gainsOf_20 : decode cX13_gainsOf 20 = .ok (.iload_n 3, 1) := by decide +kernel
theorem dX13_gainsOf_21 : decode cX13_gainsOf 21 = .ok (.iconst 0, 1) := by decide +kernel
theorem dX13_gainsOf_22 : decode cX13_gainsOf 22 = .ok (.bipush 50, 2) := by decide +kernel
theorem dX13_gainsOf_24 : decode cX13_gainsOf 24 = .ok (.invokestatic 54, 3) := by decide +kernel
theorem dX13_gainsOf_27 : decode cX13_gainsOf 27 = .ok (.ifCond .ne 7, 3) := by decide +kernel
theorem dX13_gainsOf_30 : decode cX13_gainsOf 30 = .ok (.sipush (-10002), 3) := by decide +kernel
theorem dX13_gainsOf_33 : decode cX13_gainsOf 33 = .ok (.ireturn, 1) := by decide +kernel
theorem dX13_gainsOf_34 : decode cX13_gainsOf 34 = .ok (.sipush 10000, 3) := by decide +kernel
theorem dX13_gainsOf_37 : decode cX13_gainsOf 37 = .ok (.aload_n 0, 1) := by decide +kernel
theorem dX13_gainsOf_38 : decode cX13_gainsOf 38 = .ok (.getfield 7, 3) := by decide +kernel
theorem dX13_gainsOf_41 : decode cX13_gainsOf 41 = .ok (.iconst 2, 1) := by decide +kernel
theorem dX13_gainsOf_42 : decode cX13_gainsOf 42 = .ok (.iaload, 1) := by decide +kernel
theorem dX13_gainsOf_43 : decode cX13_gainsOf 43 = .ok (.imul, 1) := by decide +kernel
theorem dX13_gainsOf_44 : decode cX13_gainsOf 44 = .ok (.bipush 100, 2) := by decide +kernel
theorem dX13_gainsOf_46 : decode cX13_gainsOf 46 = .ok (.aload_n 0, 1) := by decide +kernel
theorem dX13_gainsOf_47 : decode cX13_gainsOf 47 = .ok (.getfield 7, 3) := by decide +kernel
theorem dX13_gainsOf_50 : decode cX13_gainsOf 50 = .ok (.iconst 3, 1) := by decide +kernel
theorem dX13_gainsOf_51 : decode cX13_gainsOf 51 = .ok (.iaload, 1) := by decide +kernel
theorem dX13_gainsOf_52 : decode cX13_gainsOf 52 = .ok (.imul, 1) := by decide +kernel
theorem dX13_gainsOf_53 : decode cX13_gainsOf 53 = .ok (.iadd, 1) := by decide +kernel
theorem dX13_gainsOf_54 : decode cX13_gainsOf 54 = .ok (.aload_n 0, 1) := by decide +kernel
theorem dX13_gainsOf_55 : decode cX13_gainsOf 55 = .ok (.getfield 7, 3) := by decide +kernel
theorem dX13_gainsOf_58 : decode cX13_gainsOf 58 = .ok (.iconst 4, 1) := by decide +kernel
theorem dX13_gainsOf_59 : decode cX13_gainsOf 59 = .ok (.iaload, 1) := by decide +kernel
theorem dX13_gainsOf_60 : decode cX13_gainsOf 60 = .ok (.iadd, 1) := by decide +kernel
theorem dX13_gainsOf_61 : decode cX13_gainsOf 61 = .ok (.istore 4, 2) := by decide +kernel
theorem dX13_gainsOf_63 : decode cX13_gainsOf 63 = .ok (.aload_n 0, 1) := by decide +kernel
theorem dX13_gainsOf_64 : decode cX13_gainsOf 64 = .ok (.getfield 7, 3) := by decide +kernel
theorem dX13_gainsOf_67 : decode cX13_gainsOf 67 = .ok (.iconst 2, 1) := by decide +kernel
theorem dX13_gainsOf_68 : decode cX13_gainsOf 68 = .ok (.iload_n 1, 1) := by decide +kernel
theorem dX13_gainsOf_69 : decode cX13_gainsOf 69 = .ok (.iastore, 1) := by decide +kernel
theorem dX13_gainsOf_70 : decode cX13_gainsOf 70 = .ok (.aload_n 0, 1) := by decide +kernel
theorem dX13_gainsOf_71 : decode cX13_gainsOf 71 = .ok (.getfield 7, 3) := by decide +kernel
theorem dX13_gainsOf_74 : decode cX13_gainsOf 74 = .ok (.iconst 3, 1) := by decide +kernel
theorem dX13_gainsOf_75 : decode cX13_gainsOf 75 = .ok (.iload_n 2, 1) := by decide +kernel
theorem dX13_gainsOf_76 : decode cX13_gainsOf 76 = .ok (.iastore, 1) := by decide +kernel
theorem dX13_gainsOf_77 : decode cX13_gainsOf 77 = .ok (.aload_n 0, 1) := by decide +kernel
theorem dX13_gainsOf_78 : decode cX13_gainsOf 78 = .ok (.getfield 7, 3) := by decide +kernel
theorem dX13_gainsOf_81 : decode cX13_gainsOf 81 = .ok (.iconst 4, 1) := by decide +kernel
theorem dX13_gainsOf_82 : decode cX13_gainsOf 82 = .ok (.iload_n 3, 1) := by decide +kernel
theorem dX13_gainsOf_83 : decode cX13_gainsOf 83 = .ok (.iastore, 1) := by decide +kernel
theorem dX13_gainsOf_84 : decode cX13_gainsOf 84 = .ok (.aload_n 0, 1) := by decide +kernel
theorem dX13_gainsOf_85 : decode cX13_gainsOf 85 = .ok (.iload 4, 2) := by decide +kernel
theorem dX13_gainsOf_87 : decode cX13_gainsOf 87 = .ok (.invokevirtual 89, 3) := by decide +kernel
theorem dX13_gainsOf_90 : decode cX13_gainsOf 90 = .ok (.ireturn, 1) := by decide +kernel
theorem dX13_caps_0 : decode cX13_caps 0 = .ok (.iload_n 1, 1) := by decide +kernel
theorem dX13_caps_1 : decode cX13_caps 1 = .ok (.iconst 0, 1) := by decide +kernel
theorem dX13_caps_2 : decode cX13_caps 2 = .ok (.sipush 9000, 3) := by decide +kernel
theorem dX13_caps_5 : decode cX13_caps 5 = .ok (.invokestatic 54, 3) := by decide +kernel
theorem dX13_caps_8 : decode cX13_caps 8 = .ok (.ifCond .ne 7, 3) := by decide +kernel
theorem dX13_caps_11 : decode cX13_caps 11 = .ok (.sipush (-10002), 3) := by decide +kernel
theorem dX13_caps_14 : decode cX13_caps 14 = .ok (.ireturn, 1) := by decide +kernel
theorem dX13_caps_15 : decode cX13_caps 15 = .ok (.aload_n 0, 1) := by decide +kernel
theorem dX13_caps_16 : decode cX13_caps 16 = .ok (.getfield 7, 3) := by decide +kernel
theorem dX13_caps_19 : decode cX13_caps 19 = .ok (.bipush 6, 2) := by decide +kernel
theorem dX13_caps_21 : decode cX13_caps 21 = .ok (.iaload, 1) := by decide +kernel
theorem dX13_caps_22 : decode cX13_caps 22 = .ok (.istore_n 2, 1) := by decide +kernel
theorem dX13_caps_23 : decode cX13_caps 23 = .ok (.iload_n 2, 1) := by decide +kernel
theorem dX13_caps_24 : decode cX13_caps 24 = .ok (.iload_n 1, 1) := by decide +kernel
theorem dX13_caps_25 : decode cX13_caps 25 = .ok (.if_icmp .ne 10, 3) := by decide +kernel
theorem dX13_caps_28 : decode cX13_caps 28 = .ok (.aload_n 0, 1) := by decide +kernel
theorem dX13_caps_29 : decode cX13_caps 29 = .ok (.iconst 5, 1) := by decide +kernel
theorem dX13_caps_30 : decode cX13_caps 30 = .ok (.iload_n 1, 1) := by decide +kernel
theorem dX13_caps_31 : decode cX13_caps 31 = .ok (.invokevirtual 85, 3) := by decide +kernel
theorem dX13_caps_34 : decode cX13_caps 34 = .ok (.ireturn, 1) := by decide +kernel
theorem dX13_caps_35 : decode cX13_caps 35 = .ok (.aload_n 0, 1) := by decide +kernel
theorem dX13_caps_36 : decode cX13_caps 36 = .ok (.getfield 7, 3) := by decide +kernel
theorem dX13_caps_39 : decode cX13_caps 39 = .ok (.bipush 6, 2) := by decide +kernel
theorem dX13_caps_41 : decode cX13_caps 41 = .ok (.iload_n 1, 1) := by decide +kernel
theorem dX13_caps_42 : decode cX13_caps 42 = .ok (.iastore, 1) := by decide +kernel
theorem dX13_caps_43 : decode cX13_caps 43 = .ok (.aload_n 0, 1) := by decide +kernel
theorem dX13_caps_44 : decode cX13_caps 44 = .ok (.getfield 7, 3) := by decide +kernel
theorem dX13_caps_47 : decode cX13_caps 47 = .ok (.iconst 5, 1) := by decide +kernel
theorem dX13_caps_48 : decode cX13_caps 48 = .ok (.aload_n 0, 1) := by decide +kernel
theorem dX13_caps_49 : decode cX13_caps 49 = .ok (.getfield 7, 3) := by decide +kernel
theorem dX13_caps_52 : decode cX13_caps 52 = .ok (.iconst 5, 1) := by decide +kernel
theorem dX13_caps_53 : decode cX13_caps 53 = .ok (.iaload, 1) := by decide +kernel
theorem dX13_caps_54 : decode cX13_caps 54 = .ok (.iload_n 1, 1) := by decide +kernel
theorem dX13_caps_55 : decode cX13_caps 55 = .ok (.ineg, 1) := by decide +kernel
theorem dX13_caps_56 : decode cX13_caps 56 = .ok (.iload_n 1, 1) := by decide +kernel
theorem dX13_caps_57 : decode cX13_caps 57 = .ok (.invokestatic 62, 3) := by decide +kernel
theorem dX13_caps_60 : decode cX13_caps 60 = .ok (.iastore, 1) := by decide +kernel
theorem dX13_caps_61 : decode cX13_caps 61 = .ok (.aload_n 0, 1) := by decide +kernel
theorem dX13_caps_62 : decode cX13_caps 62 = .ok (.iload_n 2, 1) := by decide +kernel
theorem dX13_caps_63 : decode cX13_caps 63 = .ok (.invokevirtual 89, 3) := by decide +kernel
theorem dX13_caps_66 : decode cX13_caps 66 = .ok (.ireturn, 1) := by decide +kernel
theorem dX13_lags_0 : decode cX13_lags 0 = .ok (.iload_n 1, 1) := by decide +kernel
theorem dX13_lags_1 : decode cX13_lags 1 = .ok (.iconst 0, 1) := by decide +kernel
theorem dX13_lags_2 : decode cX13_lags 2 = .ok (.iconst 5, 1) := by decide +kernel
theorem dX13_lags_3 : decode cX13_lags 3 = .ok (.invokestatic 54, 3) := by decide +kernel
theorem dX13_lags_6 : decode cX13_lags 6 = .ok (.ifCond .ne 7, 3) := by decide +kernel
theorem dX13_lags_9 : decode cX13_lags 9 = .ok (.sipush (-10002), 3) := by decide +kernel
theorem dX13_lags_12 : decode cX13_lags 12 = .ok (.ireturn, 1) := by decide +kernel
theorem dX13_lags_13 : decode cX13_lags 13 = .ok (.aload_n 0, 1) := by decide +kernel
theorem dX13_lags_14 : decode cX13_lags 14 = .ok (.getfield 7, 3) := by decide +kernel
theorem dX13_lags_17 : decode cX13_lags 17 = .ok (.bipush 8, 2) := by decide +kernel
theorem dX13_lags_19 : decode cX13_lags 19 = .ok (.iaload, 1) := by decide +kernel
theorem dX13_lags_20 : decode cX13_lags 20 = .ok (.istore_n 2, 1) := by decide +kernel
theorem dX13_lags_21 : decode cX13_lags 21 = .ok (.iload_n 2, 1) := by decide +kernel
theorem dX13_lags_22 : decode cX13_lags 22 = .ok (.iload_n 1, 1) := by decide +kernel
theorem dX13_lags_23 : decode cX13_lags 23 = .ok (.if_icmp .ne 10, 3) := by decide +kernel
theorem dX13_lags_26 : decode cX13_lags 26 = .ok (.aload_n 0, 1) := by decide +kernel
theorem dX13_lags_27 : decode cX13_lags 27 = .ok (.iconst 5, 1) := by decide +kernel
theorem dX13_lags_28 : decode cX13_lags 28 = .ok (.iload_n 1, 1) := by decide +kernel
theorem dX13_lags_29 : decode cX13_lags 29 = .ok (.invokevirtual 85, 3) := by decide +kernel
theorem dX13_lags_32 : decode cX13_lags 32 = .ok (.ireturn, 1) := by decide +kernel
theorem dX13_lags_33 : decode cX13_lags 33 = .ok (.aload_n 0, 1) := by decide +kernel
theorem dX13_lags_34 : decode cX13_lags 34 = .ok (.getfield 7, 3) := by decide +kernel
theorem dX13_lags_37 : decode cX13_lags 37 = .ok (.bipush 8, 2) := by decide +kernel
theorem dX13_lags_39 : decode cX13_lags 39 = .ok (.iaload, 1) := by decide +kernel
theorem dX13_lags_40 : decode cX13_lags 40 = .ok (.iload_n 1, 1) := by decide +kernel
theorem dX13_lags_41 : decode cX13_lags 41 = .ok (.if_icmp .le 39, 3) := by decide +kernel
theorem dX13_lags_44 : decode cX13_lags 44 = .ok (.aload_n 0, 1) := by decide +kernel
theorem dX13_lags_45 : decode cX13_lags 45 = .ok (.iconst 0, 1) := by decide +kernel
theorem dX13_lags_46 : decode cX13_lags 46 = .ok (.invokevirtual 72, 3) := by decide +kernel
theorem dX13_lags_49 : decode cX13_lags 49 = .ok (.istore_n 3, 1) := by decide +kernel
theorem dX13_lags_50 : decode cX13_lags 50 = .ok (.aload_n 0, 1) := by decide +kernel
theorem dX13_lags_51 : decode cX13_lags 51 = .ok (.getfield 7, 3) := by decide +kernel
theorem dX13_lags_54 : decode cX13_lags 54 = .ok (.bipush 8, 2) := by decide +kernel
theorem dX13_lags_56 : decode cX13_lags 56 = .ok (.dup2, 1) := by decide +kernel
theorem dX13_lags_57 : decode cX13_lags 57 = .ok (.iaload, 1) := by decide +kernel
theorem dX13_lags_58 : decode cX13_lags 58 = .ok (.iconst 1, 1) := by decide +kernel
theorem dX13_lags_59 : decode cX13_lags 59 = .ok (.isub, 1) := by decide +kernel
theorem dX13_lags_60 : decode cX13_lags 60 = .ok (.iastore, 1) := by decide +kernel
theorem dX13_lags_61 : decode cX13_lags 61 = .ok (.aload_n 0, 1) := by decide +kernel
theorem dX13_lags_62 : decode cX13_lags 62 = .ok (.getfield 7, 3) := by decide +kernel
theorem dX13_lags_65 : decode cX13_lags 65 = .ok (.bipush 17, 2) := by decide +kernel
theorem dX13_lags_67 : decode cX13_lags 67 = .ok (.aload_n 0, 1) := by decide +kernel
theorem dX13_lags_68 : decode cX13_lags 68 = .ok (.getfield 7, 3) := by decide +kernel
theorem dX13_lags_71 : decode cX13_lags 71 = .ok (.bipush 8, 2) := by decide +kernel
theorem dX13_lags_73 : decode cX13_lags 73 = .ok (.iaload, 1) := by decide +kernel
theorem dX13_lags_74 : decode cX13_lags 74 = .ok (.iadd, 1) := by decide +kernel
theorem dX13_lags_75 : decode cX13_lags 75 = .ok (.iconst 0, 1) := by decide +kernel
theorem dX13_lags_76 : decode cX13_lags 76 = .ok (.iastore, 1) := by decide +kernel
theorem dX13_lags_77 : decode cX13_lags 77 = .ok (.goto (-44), 3) := by decide +kernel
theorem dX13_lags_80 : decode cX13_lags 80 = .ok (.aload_n 0, 1) := by decide +kernel
theorem dX13_lags_81 : decode cX13_lags 81 = .ok (.getfield 7, 3) := by decide +kernel
theorem dX13_lags_84 : decode cX13_lags 84 = .ok (.bipush 8, 2) := by decide +kernel
theorem dX13_lags_86 : decode cX13_lags 86 = .ok (.iaload, 1) := by decide +kernel
theorem dX13_lags_87 : decode cX13_lags 87 = .ok (.iload_n 1, 1) := by decide +kernel
theorem dX13_lags_88 : decode cX13_lags 88 = .ok (.if_icmp .ge 69, 3) := by decide +kernel
theorem dX13_lags_91 : decode cX13_lags 91 = .ok (.aload_n 0, 1) := by decide +kernel
theorem dX13_lags_92 : decode cX13_lags 92 = .ok (.getfield 7, 3) := by decide +kernel
theorem dX13_lags_95 : decode cX13_lags 95 = .ok (.bipush 8, 2) := by decide +kernel
theorem dX13_lags_97 : decode cX13_lags 97 = .ok (.iaload, 1) := by decide +kernel
theorem dX13_lags_98 : decode cX13_lags 98 = .ok (.istore_n 3, 1) := by decide +kernel
theorem dX13_lags_99 : decode cX13_lags 99 = .ok (.iload_n 3, 1) := by decide +kernel
theorem dX13_lags_100 : decode cX13_lags 100 = .ok (.ifCond .le 29, 3) := by decide +kernel
theorem dX13_lags_103 : decode cX13_lags 103 = .ok (.aload_n 0, 1) := by decide +kernel
theorem dX13_lags_104 : decode cX13_lags 104 = .ok (.getfield 7, 3) := by decide +kernel
theorem dX13_lags_107 : decode cX13_lags 107 = .ok (.bipush 17, 2) := by decide +kernel
theorem dX13_lags_109 : decode cX13_lags 109 = .ok (.iload_n 3, 1) := by decide +kernel
theorem dX13_lags_110 : decode cX13_lags 110 = .ok (.iadd, 1) := by decide +kernel
theorem dX13_lags_111 : decode cX13_lags 111 = .ok (.aload_n 0, 1) := by decide +kernel
theorem dX13_lags_112 : decode cX13_lags 112 = .ok (.getfield 7, 3) := by decide +kernel
theorem dX13_lags_115 : decode cX13_lags 115 = .ok (.bipush 17, 2) := by decide +kernel
theorem dX13_lags_117 : decode cX13_lags 117 = .ok (.iload_n 3, 1) := by decide +kernel
theorem dX13_lags_118 : decode cX13_lags 118 = .ok (.iadd, 1) := by decide +kernel
theorem dX13_lags_119 : decode cX13_lags 119 = .ok (.iconst 1, 1) := by decide +kernel
theorem dX13_lags_120 : decode cX13_lags 120 = .ok (.isub, 1) := by decide +kernel
theorem dX13_lags_121 : decode cX13_lags 121 = .ok (.iaload, 1) := by decide +kernel
theorem dX13_lags_122 : decode cX13_lags 122 = .ok (.iastore, 1) := by decide +kernel
theorem dX13_lags_123 : decode cX13_lags 123 = .ok (.iinc 3 (-1), 3) := by decide +kernel
theorem dX13_lags_126 : decode cX13_lags 126 = .ok (.goto (-27), 3) := by decide +kernel
theorem dX13_lags_129 : decode cX13_lags 129 = .ok (.aload_n 0, 1) := by decide +kernel
theorem dX13_lags_130 : decode cX13_lags 130 = .ok (.getfield 7, 3) := by decide +kernel
theorem dX13_lags_133 : decode cX13_lags 133 = .ok (.bipush 17, 2) := by decide +kernel
theorem dX13_lags_135 : decode cX13_lags 135 = .ok (.aload_n 0, 1) := by decide +kernel
theorem dX13_lags_136 : decode cX13_lags 136 = .ok (.getfield 7, 3) := by decide +kernel
theorem dX13_lags_139 : decode cX13_lags 139 = .ok (.bipush 9, 2) := by decide +kernel
theorem dX13_lags_141 : decode cX13_lags 141 = .ok (.iaload, 1) := by decide +kernel
theorem dX13_lags_142 : decode cX13_lags 142 = .ok (.iastore, 1) := by decide +kernel
theorem dX13_lags_143 : decode cX13_lags 143 = .ok (.aload_n 0, 1) := by decide +kernel
theorem dX13_lags_144 : decode cX13_lags 144 = .ok (.getfield 7, 3) := by decide +kernel
theorem dX13_lags_147 : decode cX13_lags 147 = .ok (.bipush 8, 2) := by decide +kernel
theorem dX13_lags_149 : decode cX13_lags 149 = .ok (.dup2, 1) := by decide +kernel
theorem dX13_lags_150 : decode cX13_lags 150 = .ok (.iaload, 1) := by decide +kernel
theorem dX13_lags_151 : decode cX13_lags 151 = .ok (.iconst 1, 1) := by decide +kernel
theorem dX13_lags_152 : decode cX13_lags 152 = .ok (.iadd, 1) := by decide +kernel
theorem dX13_lags_153 : decode cX13_lags 153 = .ok (.iastore, 1) := by decide +kernel
theorem dX13_lags_154 : decode cX13_lags 154 = .ok (.goto (-74), 3) := by decide +kernel
theorem dX13_lags_157 : decode cX13_lags 157 = .ok (.aload_n 0, 1) := by decide +kernel
theorem dX13_lags_158 : decode cX13_lags 158 = .ok (.iload_n 2, 1) := by decide +kernel
theorem dX13_lags_159 : decode cX13_lags 159 = .ok (.invokevirtual 89, 3) := by decide +kernel
theorem dX13_lags_162 : decode cX13_lags 162 = .ok (.ireturn, 1) := by decide +kernel
theorem dX13_fuels_0 : decode cX13_fuels 0 = .ok (.iload_n 1, 1) := by decide +kernel
theorem dX13_fuels_1 : decode cX13_fuels 1 = .ok (.iconst 1, 1) := by decide +kernel
theorem dX13_fuels_2 : decode cX13_fuels 2 = .ok (.sipush 9999, 3) := by decide +kernel
theorem dX13_fuels_5 : decode cX13_fuels 5 = .ok (.invokestatic 54, 3) := by decide +kernel
theorem dX13_fuels_8 : decode cX13_fuels 8 = .ok (.ifCond .ne 7, 3) := by decide +kernel
theorem dX13_fuels_11 : decode cX13_fuels 11 = .ok (.sipush (-10002), 3) := by decide +kernel
theorem dX13_fuels_14 : decode cX13_fuels 14 = .ok (.ireturn, 1) := by decide +kernel
theorem dX13_fuels_15 : decode cX13_fuels 15 = .ok (.aload_n 0, 1) := by decide +kernel
theorem dX13_fuels_16 : decode cX13_fuels 16 = .ok (.getfield 7, 3) := by decide +kernel
theorem dX13_fuels_19 : decode cX13_fuels 19 = .ok (.bipush 10, 2) := by decide +kernel
theorem dX13_fuels_21 : decode cX13_fuels 21 = .ok (.dup2, 1) := by decide +kernel
theorem dX13_fuels_22 : decode cX13_fuels 22 = .ok (.iaload, 1) := by decide +kernel
theorem dX13_fuels_23 : decode cX13_fuels 23 = .ok (.iload_n 1, 1) := by decide +kernel
theorem dX13_fuels_24 : decode cX13_fuels 24 = .ok (.iadd, 1) := by decide +kernel
theorem dX13_fuels_25 : decode cX13_fuels 25 = .ok (.iastore, 1) := by decide +kernel
theorem dX13_fuels_26 : decode cX13_fuels 26 = .ok (.aload_n 0, 1) := by decide +kernel
theorem dX13_fuels_27 : decode cX13_fuels 27 = .ok (.getfield 7, 3) := by decide +kernel
theorem dX13_fuels_30 : decode cX13_fuels 30 = .ok (.bipush 11, 2) := by decide +kernel
theorem dX13_fuels_32 : decode cX13_fuels 32 = .ok (.dup2, 1) := by decide +kernel
theorem dX13_fuels_33 : decode cX13_fuels 33 = .ok (.iaload, 1) := by decide +kernel
theorem dX13_fuels_34 : decode cX13_fuels 34 = .ok (.iload_n 1, 1) := by decide +kernel
theorem dX13_fuels_35 : decode cX13_fuels 35 = .ok (.iadd, 1) := by decide +kernel
theorem dX13_fuels_36 : decode cX13_fuels 36 = .ok (.iastore, 1) := by decide +kernel
theorem dX13_fuels_37 : decode cX13_fuels 37 = .ok (.aload_n 0, 1) := by decide +kernel
theorem dX13_fuels_38 : decode cX13_fuels 38 = .ok (.aload_n 0, 1) := by decide +kernel
theorem dX13_fuels_39 : decode cX13_fuels 39 = .ok (.getfield 7, 3) := by decide +kernel
theorem dX13_fuels_42 : decode cX13_fuels 42 = .ok (.bipush 10, 2) := by decide +kernel
theorem dX13_fuels_44 : decode cX13_fuels 44 = .ok (.iaload, 1) := by decide +kernel
theorem dX13_fuels_45 : decode cX13_fuels 45 = .ok (.invokevirtual 89, 3) := by decide +kernel
theorem dX13_fuels_48 : decode cX13_fuels 48 = .ok (.ireturn, 1) := by decide +kernel
theorem dX13_goesOn_0 : decode cX13_goesOn 0 = .ok (.iload_n 1, 1) := by decide +kernel
theorem dX13_goesOn_1 : decode cX13_goesOn 1 = .ok (.iconst 1, 1) := by decide +kernel
theorem dX13_goesOn_2 : decode cX13_goesOn 2 = .ok (.sipush 300, 3) := by decide +kernel
theorem dX13_goesOn_5 : decode cX13_goesOn 5 = .ok (.invokestatic 54, 3) := by decide +kernel
theorem dX13_goesOn_8 : decode cX13_goesOn 8 = .ok (.ifCond .ne 7, 3) := by decide +kernel
theorem dX13_goesOn_11 : decode cX13_goesOn 11 = .ok (.sipush (-10002), 3) := by decide +kernel
theorem dX13_goesOn_14 : decode cX13_goesOn 14 = .ok (.ireturn, 1) := by decide +kernel
theorem dX13_goesOn_15 : decode cX13_goesOn 15 = .ok (.iconst 0, 1) := by decide +kernel
theorem dX13_goesOn_16 : decode cX13_goesOn 16 = .ok (.istore_n 2, 1) := by decide +kernel
theorem dX13_goesOn_17 : decode cX13_goesOn 17 = .ok (.iload_n 2, 1) := by decide +kernel
theorem dX13_goesOn_18 : decode cX13_goesOn 18 = .ok (.iload_n 1, 1) := by decide +kernel
theorem dX13_goesOn_19 : decode cX13_goesOn 19 = .ok (.if_icmp .ge 13, 3) := by decide +kernel
theorem dX13_goesOn_22 : decode cX13_goesOn 22 = .ok (.aload_n 0, 1) := by decide +kernel
theorem dX13_goesOn_23 : decode cX13_goesOn 23 = .ok (.invokevirtual 82, 3) := by decide +kernel
theorem dX13_goesOn_26 : decode cX13_goesOn 26 = .ok (.iinc 2 1, 3) := by decide +kernel
theorem dX13_goesOn_29 : decode cX13_goesOn 29 = .ok (.goto (-12), 3) := by decide +kernel
theorem dX13_goesOn_32 : decode cX13_goesOn 32 = .ok (.aload_n 0, 1) := by decide +kernel
theorem dX13_goesOn_33 : decode cX13_goesOn 33 = .ok (.aload_n 0, 1) := by decide +kernel
theorem dX13_goesOn_34 : decode cX13_goesOn 34 = .ok (.getfield 7, 3) := by decide +kernel
theorem dX13_goesOn_37 : decode cX13_goesOn 37 = .ok (.iconst 0, 1) := by decide +kernel
theorem dX13_goesOn_38 : decode cX13_goesOn 38 = .ok (.iaload, 1) := by decide +kernel
theorem dX13_goesOn_39 : decode cX13_goesOn 39 = .ok (.invokevirtual 89, 3) := by decide +kernel
theorem dX13_goesOn_42 : decode cX13_goesOn 42 = .ok (.ireturn, 1) := by decide +kernel
theorem dX13_comes_0 : decode cX13_comes 0 = .ok (.iload_n 1, 1) := by decide +kernel
theorem dX13_comes_1 : decode cX13_comes 1 = .ok (.iconst 1, 1) := by decide +kernel
theorem dX13_comes_2 : decode cX13_comes 2 = .ok (.bipush 60, 2) := by decide +kernel
theorem dX13_comes_4 : decode cX13_comes 4 = .ok (.invokestatic 54, 3) := by decide +kernel
theorem dX13_comes_7 : decode cX13_comes 7 = .ok (.ifCond .eq 25, 3) := by decide +kernel
theorem dX13_comes_10 : decode cX13_comes 10 = .ok (.iload_n 2, 1) := by decide +kernel
theorem dX13_comes_11 : decode cX13_comes 11 = .ok (.bipush 100, 2) := by decide +kernel
theorem dX13_comes_13 : decode cX13_comes 13 = .ok (.sipush 1200, 3) := by decide +kernel
theorem dX13_comes_16 : decode cX13_comes 16 = .ok (.invokestatic 54, 3) := by decide +kernel
theorem dX13_comes_19 : decode cX13_comes 19 = .ok (.ifCond .eq 13, 3) := by decide +kernel
theorem dX13_comes_22 : decode cX13_comes 22 = .ok (.iload_n 3, 1) := by decide +kernel
theorem dX13_comes_23 : decode cX13_comes 23 = .ok (.iconst 1, 1) := by decide +kernel
theorem dX13_comes_24 : decode cX13_comes 24 = .ok (.bipush 99, 2) := by decide +kernel
theorem dX13_comes_26 : decode cX13_comes 26 = .ok (.invokestatic 54, 3) := by decide +kernel
theorem dX13_comes_29 : decode cX13_comes 29 = .ok (.ifCond .ne 7, 3) := by decide +kernel
theorem dX13_comes_32 : decode cX13_comes 32 = .ok (.sipush (-10002), 3) := by decide +kernel
theorem dX13_comes_35 : decode cX13_comes 35 = .ok (.ireturn, 1) := by decide +kernel
theorem dX13_comes_36 : decode cX13_comes 36 = .ok (.aload_n 0, 1) := by decide +kernel
theorem dX13_comes_37 : decode cX13_comes 37 = .ok (.getfield 7, 3) := by decide +kernel
theorem dX13_comes_40 : decode cX13_comes 40 = .ok (.bipush 15, 2) := by decide +kernel
theorem dX13_comes_42 : decode cX13_comes 42 = .ok (.iaload, 1) := by decide +kernel
theorem dX13_comes_43 : decode cX13_comes 43 = .ok (.istore 4, 2) := by decide +kernel
theorem dX13_comes_45 : decode cX13_comes 45 = .ok (.iload 4, 2) := by decide +kernel
theorem dX13_comes_47 : decode cX13_comes 47 = .ok (.bipush 8, 2) := by decide +kernel
theorem dX13_comes_49 : decode cX13_comes 49 = .ok (.if_icmp .ne 11, 3) := by decide +kernel
theorem dX13_comes_52 : decode cX13_comes 52 = .ok (.aload_n 0, 1) := by decide +kernel
theorem dX13_comes_53 : decode cX13_comes 53 = .ok (.iconst 1, 1) := by decide +kernel
theorem dX13_comes_54 : decode cX13_comes 54 = .ok (.bipush 8, 2) := by decide +kernel
theorem dX13_comes_56 : decode cX13_comes 56 = .ok (.invokevirtual 85, 3) := by decide +kernel
theorem dX13_comes_59 : decode cX13_comes 59 = .ok (.ireturn, 1) := by decide +kernel
theorem dX13_comes_60 : decode cX13_comes 60 = .ok (.aload_n 0, 1) := by decide +kernel
theorem dX13_comes_61 : decode cX13_comes 61 = .ok (.getfield 7, 3) := by decide +kernel
theorem dX13_comes_64 : decode cX13_comes 64 = .ok (.sipush 171, 3) := by decide +kernel
theorem dX13_comes_67 : decode cX13_comes 67 = .ok (.iload 4, 2) := by decide +kernel
theorem dX13_comes_69 : decode cX13_comes 69 = .ok (.iadd, 1) := by decide +kernel
theorem dX13_comes_70 : decode cX13_comes 70 = .ok (.iload_n 1, 1) := by decide +kernel
theorem dX13_comes_71 : decode cX13_comes 71 = .ok (.iastore, 1) := by decide +kernel
theorem dX13_comes_72 : decode cX13_comes 72 = .ok (.aload_n 0, 1) := by decide +kernel
theorem dX13_comes_73 : decode cX13_comes 73 = .ok (.getfield 7, 3) := by decide +kernel
theorem dX13_comes_76 : decode cX13_comes 76 = .ok (.sipush 179, 3) := by decide +kernel
theorem dX13_comes_79 : decode cX13_comes 79 = .ok (.iload 4, 2) := by decide +kernel
theorem dX13_comes_81 : decode cX13_comes 81 = .ok (.iadd, 1) := by decide +kernel
theorem dX13_comes_82 : decode cX13_comes 82 = .ok (.iload_n 2, 1) := by decide +kernel
theorem dX13_comes_83 : decode cX13_comes 83 = .ok (.iastore, 1) := by decide +kernel
theorem dX13_comes_84 : decode cX13_comes 84 = .ok (.aload_n 0, 1) := by decide +kernel
theorem dX13_comes_85 : decode cX13_comes 85 = .ok (.getfield 7, 3) := by decide +kernel
theorem dX13_comes_88 : decode cX13_comes 88 = .ok (.sipush 187, 3) := by decide +kernel
theorem dX13_comes_91 : decode cX13_comes 91 = .ok (.iload 4, 2) := by decide +kernel
theorem dX13_comes_93 : decode cX13_comes 93 = .ok (.iadd, 1) := by decide +kernel
theorem dX13_comes_94 : decode cX13_comes 94 = .ok (.iload_n 3, 1) := by decide +kernel
theorem dX13_comes_95 : decode cX13_comes 95 = .ok (.iastore, 1) := by decide +kernel
theorem dX13_comes_96 : decode cX13_comes 96 = .ok (.aload_n 0, 1) := by decide +kernel
theorem dX13_comes_97 : decode cX13_comes 97 = .ok (.getfield 7, 3) := by decide +kernel
theorem dX13_comes_100 : decode cX13_comes 100 = .ok (.bipush 15, 2) := by decide +kernel
theorem dX13_comes_102 : decode cX13_comes 102 = .ok (.iload 4, 2) := by decide +kernel
theorem dX13_comes_104 : decode cX13_comes 104 = .ok (.iconst 1, 1) := by decide +kernel
theorem dX13_comes_105 : decode cX13_comes 105 = .ok (.iadd, 1) := by decide +kernel
theorem dX13_comes_106 : decode cX13_comes 106 = .ok (.iastore, 1) := by decide +kernel
theorem dX13_comes_107 : decode cX13_comes 107 = .ok (.aload_n 0, 1) := by decide +kernel
theorem dX13_comes_108 : decode cX13_comes 108 = .ok (.iload 4, 2) := by decide +kernel
theorem dX13_comes_110 : decode cX13_comes 110 = .ok (.invokevirtual 89, 3) := by decide +kernel
theorem dX13_comes_113 : decode cX13_comes 113 = .ok (.ireturn, 1) := by decide +kernel
theorem dX13_within_0 : decode cX13_within 0 = .ok (.iconst 0, 1) := by decide +kernel
theorem dX13_within_1 : decode cX13_within 1 = .ok (.istore_n 1, 1) := by decide +kernel
theorem dX13_within_2 : decode cX13_within 2 = .ok (.iconst 0, 1) := by decide +kernel
theorem dX13_within_3 : decode cX13_within 3 = .ok (.istore_n 2, 1) := by decide +kernel
theorem dX13_within_4 : decode cX13_within 4 = .ok (.iload_n 2, 1) := by decide +kernel
theorem dX13_within_5 : decode cX13_within 5 = .ok (.aload_n 0, 1) := by decide +kernel
theorem dX13_within_6 : decode cX13_within 6 = .ok (.getfield 7, 3) := by decide +kernel
theorem dX13_within_9 : decode cX13_within 9 = .ok (.bipush 15, 2) := by decide +kernel
theorem dX13_within_11 : decode cX13_within 11 = .ok (.iaload, 1) := by decide +kernel
theorem dX13_within_12 : decode cX13_within 12 = .ok (.if_icmp .ge 22, 3) := by decide +kernel
theorem dX13_within_15 : decode cX13_within 15 = .ok (.iload_n 1, 1) := by decide +kernel
theorem dX13_within_16 : decode cX13_within 16 = .ok (.aload_n 0, 1) := by decide +kernel
theorem dX13_within_17 : decode cX13_within 17 = .ok (.getfield 7, 3) := by decide +kernel
theorem dX13_within_20 : decode cX13_within 20 = .ok (.sipush 211, 3) := by decide +kernel
theorem dX13_within_23 : decode cX13_within 23 = .ok (.iload_n 2, 1) := by decide +kernel
theorem dX13_within_24 : decode cX13_within 24 = .ok (.iadd, 1) := by decide +kernel
theorem dX13_within_25 : decode cX13_within 25 = .ok (.iaload, 1) := by decide +kernel
theorem dX13_within_26 : decode cX13_within 26 = .ok (.iadd, 1) := by decide +kernel
theorem dX13_within_27 : decode cX13_within 27 = .ok (.istore_n 1, 1) := by decide +kernel
theorem dX13_within_28 : decode cX13_within 28 = .ok (.iinc 2 1, 3) := by decide +kernel
theorem dX13_within_31 : decode cX13_within 31 = .ok (.goto (-27), 3) := by decide +kernel
theorem dX13_within_34 : decode cX13_within 34 = .ok (.iload_n 1, 1) := by decide +kernel
theorem dX13_within_35 : decode cX13_within 35 = .ok (.ireturn, 1) := by decide +kernel
theorem dX13_puts_0 : decode cX13_puts 0 = .ok (.aload_n 0, 1) := by decide +kernel
theorem dX13_puts_1 : decode cX13_puts 1 = .ok (.iload_n 1, 1) := by decide +kernel
theorem dX13_puts_2 : decode cX13_puts 2 = .ok (.invokevirtual 92, 3) := by decide +kernel
theorem dX13_puts_5 : decode cX13_puts 5 = .ok (.ifCond .ne 7, 3) := by decide +kernel
theorem dX13_puts_8 : decode cX13_puts 8 = .ok (.sipush (-10001), 3) := by decide +kernel
theorem dX13_puts_11 : decode cX13_puts 11 = .ok (.ireturn, 1) := by decide +kernel
theorem dX13_puts_12 : decode cX13_puts 12 = .ok (.aload_n 0, 1) := by decide +kernel
theorem dX13_puts_13 : decode cX13_puts 13 = .ok (.getfield 7, 3) := by decide +kernel
theorem dX13_puts_16 : decode cX13_puts 16 = .ok (.sipush 195, 3) := by decide +kernel
theorem dX13_puts_19 : decode cX13_puts 19 = .ok (.iload_n 1, 1) := by decide +kernel
theorem dX13_puts_20 : decode cX13_puts 20 = .ok (.iadd, 1) := by decide +kernel
theorem dX13_puts_21 : decode cX13_puts 21 = .ok (.iaload, 1) := by decide +kernel
theorem dX13_puts_22 : decode cX13_puts 22 = .ok (.ifCond .eq 19, 3) := by decide +kernel
theorem dX13_puts_25 : decode cX13_puts 25 = .ok (.aload_n 0, 1) := by decide +kernel
theorem dX13_puts_26 : decode cX13_puts 26 = .ok (.iconst 2, 1) := by decide +kernel
theorem dX13_puts_27 : decode cX13_puts 27 = .ok (.aload_n 0, 1) := by decide +kernel
theorem dX13_puts_28 : decode cX13_puts 28 = .ok (.getfield 7, 3) := by decide +kernel
theorem dX13_puts_31 : decode cX13_puts 31 = .ok (.sipush 195, 3) := by decide +kernel
theorem dX13_puts_34 : decode cX13_puts 34 = .ok (.iload_n 1, 1) := by decide +kernel
theorem dX13_puts_35 : decode cX13_puts 35 = .ok (.iadd, 1) := by decide +kernel
theorem dX13_puts_36 : decode cX13_puts 36 = .ok (.iaload, 1) := by decide +kernel
theorem dX13_puts_37 : decode cX13_puts 37 = .ok (.invokevirtual 85, 3) := by decide +kernel
theorem dX13_puts_40 : decode cX13_puts 40 = .ok (.ireturn, 1) := by decide +kernel
theorem dX13_puts_41 : decode cX13_puts 41 = .ok (.aload_n 0, 1) := by decide +kernel
theorem dX13_puts_42 : decode cX13_puts 42 = .ok (.getfield 7, 3) := by decide +kernel
theorem dX13_puts_45 : decode cX13_puts 45 = .ok (.iconst 0, 1) := by decide +kernel
theorem dX13_puts_46 : decode cX13_puts 46 = .ok (.iaload, 1) := by decide +kernel
theorem dX13_puts_47 : decode cX13_puts 47 = .ok (.bipush 60, 2) := by decide +kernel
theorem dX13_puts_49 : decode cX13_puts 49 = .ok (.if_icmp .le 15, 3) := by decide +kernel
theorem dX13_puts_52 : decode cX13_puts 52 = .ok (.aload_n 0, 1) := by decide +kernel
theorem dX13_puts_53 : decode cX13_puts 53 = .ok (.iconst 4, 1) := by decide +kernel
theorem dX13_puts_54 : decode cX13_puts 54 = .ok (.aload_n 0, 1) := by decide +kernel
theorem dX13_puts_55 : decode cX13_puts 55 = .ok (.getfield 7, 3) := by decide +kernel
theorem dX13_puts_58 : decode cX13_puts 58 = .ok (.iconst 0, 1) := by decide +kernel
theorem dX13_puts_59 : decode cX13_puts 59 = .ok (.iaload, 1) := by decide +kernel
theorem dX13_puts_60 : decode cX13_puts 60 = .ok (.invokevirtual 85, 3) := by decide +kernel
theorem dX13_puts_63 : decode cX13_puts 63 = .ok (.ireturn, 1) := by decide +kernel
theorem dX13_puts_64 : decode cX13_puts 64 = .ok (.aload_n 0, 1) := by decide +kernel
theorem dX13_puts_65 : decode cX13_puts 65 = .ok (.invokevirtual 96, 3) := by decide +kernel
theorem dX13_puts_68 : decode cX13_puts 68 = .ok (.iconst 4, 1) := by decide +kernel
theorem dX13_puts_69 : decode cX13_puts 69 = .ok (.if_icmp .ne 10, 3) := by decide +kernel
theorem dX13_puts_72 : decode cX13_puts 72 = .ok (.aload_n 0, 1) := by decide +kernel
theorem dX13_puts_73 : decode cX13_puts 73 = .ok (.iconst 1, 1) := by decide +kernel
theorem dX13_puts_74 : decode cX13_puts 74 = .ok (.iconst 4, 1) := by decide +kernel
theorem dX13_puts_75 : decode cX13_puts 75 = .ok (.invokevirtual 85, 3) := by decide +kernel
theorem dX13_puts_78 : decode cX13_puts 78 = .ok (.ireturn, 1) := by decide +kernel
theorem dX13_puts_79 : decode cX13_puts 79 = .ok (.aload_n 0, 1) := by decide +kernel
theorem dX13_puts_80 : decode cX13_puts 80 = .ok (.getfield 7, 3) := by decide +kernel
theorem dX13_puts_83 : decode cX13_puts 83 = .ok (.sipush 195, 3) := by decide +kernel
theorem dX13_puts_86 : decode cX13_puts 86 = .ok (.iload_n 1, 1) := by decide +kernel
theorem dX13_puts_87 : decode cX13_puts 87 = .ok (.iadd, 1) := by decide +kernel
theorem dX13_puts_88 : decode cX13_puts 88 = .ok (.iconst 1, 1) := by decide +kernel
theorem dX13_puts_89 : decode cX13_puts 89 = .ok (.iastore, 1) := by decide +kernel
theorem dX13_puts_90 : decode cX13_puts 90 = .ok (.aload_n 0, 1) := by decide +kernel
theorem dX13_puts_91 : decode cX13_puts 91 = .ok (.getfield 7, 3) := by decide +kernel
theorem dX13_puts_94 : decode cX13_puts 94 = .ok (.sipush 211, 3) := by decide +kernel
theorem dX13_puts_97 : decode cX13_puts 97 = .ok (.iload_n 1, 1) := by decide +kernel
theorem dX13_puts_98 : decode cX13_puts 98 = .ok (.iadd, 1) := by decide +kernel
theorem dX13_puts_99 : decode cX13_puts 99 = .ok (.iconst 1, 1) := by decide +kernel
theorem dX13_puts_100 : decode cX13_puts 100 = .ok (.iastore, 1) := by decide +kernel
theorem dX13_puts_101 : decode cX13_puts 101 = .ok (.aload_n 0, 1) := by decide +kernel
theorem dX13_puts_102 : decode cX13_puts 102 = .ok (.aload_n 0, 1) := by decide +kernel
theorem dX13_puts_103 : decode cX13_puts 103 = .ok (.invokevirtual 96, 3) := by decide +kernel
theorem dX13_puts_106 : decode cX13_puts 106 = .ok (.invokevirtual 89, 3) := by decide +kernel
theorem dX13_puts_109 : decode cX13_puts 109 = .ok (.ireturn, 1) := by decide +kernel
theorem dX13_takes_0 : decode cX13_takes 0 = .ok (.aload_n 0, 1) := by decide +kernel
theorem dX13_takes_1 : decode cX13_takes 1 = .ok (.iload_n 1, 1) := by decide +kernel
theorem dX13_takes_2 : decode cX13_takes 2 = .ok (.invokevirtual 92, 3) := by decide +kernel
theorem dX13_takes_5 : decode cX13_takes 5 = .ok (.ifCond .ne 7, 3) := by decide +kernel
theorem dX13_takes_8 : decode cX13_takes 8 = .ok (.sipush (-10001), 3) := by decide +kernel
theorem dX13_takes_11 : decode cX13_takes 11 = .ok (.ireturn, 1) := by decide +kernel
theorem dX13_takes_12 : decode cX13_takes 12 = .ok (.aload_n 0, 1) := by decide +kernel
theorem dX13_takes_13 : decode cX13_takes 13 = .ok (.getfield 7, 3) := by decide +kernel
theorem dX13_takes_16 : decode cX13_takes 16 = .ok (.sipush 211, 3) := by decide +kernel
theorem dX13_takes_19 : decode cX13_takes 19 = .ok (.iload_n 1, 1) := by decide +kernel
theorem dX13_takes_20 : decode cX13_takes 20 = .ok (.iadd, 1) := by decide +kernel
theorem dX13_takes_21 : decode cX13_takes 21 = .ok (.iaload, 1) := by decide +kernel
theorem dX13_takes_22 : decode cX13_takes 22 = .ok (.ifCond .ne 19, 3) := by decide +kernel
theorem dX13_takes_25 : decode cX13_takes 25 = .ok (.aload_n 0, 1) := by decide +kernel
theorem dX13_takes_26 : decode cX13_takes 26 = .ok (.iconst 3, 1) := by decide +kernel
theorem dX13_takes_27 : decode cX13_takes 27 = .ok (.aload_n 0, 1) := by decide +kernel
theorem dX13_takes_28 : decode cX13_takes 28 = .ok (.getfield 7, 3) := by decide +kernel
theorem dX13_takes_31 : decode cX13_takes 31 = .ok (.sipush 195, 3) := by decide +kernel
theorem dX13_takes_34 : decode cX13_takes 34 = .ok (.iload_n 1, 1) := by decide +kernel
theorem dX13_takes_35 : decode cX13_takes 35 = .ok (.iadd, 1) := by decide +kernel
theorem dX13_takes_36 : decode cX13_takes 36 = .ok (.iaload, 1) := by decide +kernel
theorem dX13_takes_37 : decode cX13_takes 37 = .ok (.invokevirtual 85, 3) := by decide +kernel
theorem dX13_takes_40 : decode cX13_takes 40 = .ok (.ireturn, 1) := by decide +kernel
theorem dX13_takes_41 : decode cX13_takes 41 = .ok (.aload_n 0, 1) := by decide +kernel
theorem dX13_takes_42 : decode cX13_takes 42 = .ok (.getfield 7, 3) := by decide +kernel
theorem dX13_takes_45 : decode cX13_takes 45 = .ok (.iconst 0, 1) := by decide +kernel
theorem dX13_takes_46 : decode cX13_takes 46 = .ok (.iaload, 1) := by decide +kernel
theorem dX13_takes_47 : decode cX13_takes 47 = .ok (.bipush 60, 2) := by decide +kernel
theorem dX13_takes_49 : decode cX13_takes 49 = .ok (.if_icmp .le 15, 3) := by decide +kernel
theorem dX13_takes_52 : decode cX13_takes 52 = .ok (.aload_n 0, 1) := by decide +kernel
theorem dX13_takes_53 : decode cX13_takes 53 = .ok (.iconst 4, 1) := by decide +kernel
theorem dX13_takes_54 : decode cX13_takes 54 = .ok (.aload_n 0, 1) := by decide +kernel
theorem dX13_takes_55 : decode cX13_takes 55 = .ok (.getfield 7, 3) := by decide +kernel
theorem dX13_takes_58 : decode cX13_takes 58 = .ok (.iconst 0, 1) := by decide +kernel
theorem dX13_takes_59 : decode cX13_takes 59 = .ok (.iaload, 1) := by decide +kernel
theorem dX13_takes_60 : decode cX13_takes 60 = .ok (.invokevirtual 85, 3) := by decide +kernel
theorem dX13_takes_63 : decode cX13_takes 63 = .ok (.ireturn, 1) := by decide +kernel
theorem dX13_takes_64 : decode cX13_takes 64 = .ok (.aload_n 0, 1) := by decide +kernel
theorem dX13_takes_65 : decode cX13_takes 65 = .ok (.getfield 7, 3) := by decide +kernel
theorem dX13_takes_68 : decode cX13_takes 68 = .ok (.sipush 211, 3) := by decide +kernel
theorem dX13_takes_71 : decode cX13_takes 71 = .ok (.iload_n 1, 1) := by decide +kernel
theorem dX13_takes_72 : decode cX13_takes 72 = .ok (.iadd, 1) := by decide +kernel
theorem dX13_takes_73 : decode cX13_takes 73 = .ok (.iconst 0, 1) := by decide +kernel
theorem dX13_takes_74 : decode cX13_takes 74 = .ok (.iastore, 1) := by decide +kernel
theorem dX13_takes_75 : decode cX13_takes 75 = .ok (.aload_n 0, 1) := by decide +kernel
theorem dX13_takes_76 : decode cX13_takes 76 = .ok (.getfield 7, 3) := by decide +kernel
theorem dX13_takes_79 : decode cX13_takes 79 = .ok (.sipush 195, 3) := by decide +kernel
theorem dX13_takes_82 : decode cX13_takes 82 = .ok (.iload_n 1, 1) := by decide +kernel
theorem dX13_takes_83 : decode cX13_takes 83 = .ok (.iadd, 1) := by decide +kernel
theorem dX13_takes_84 : decode cX13_takes 84 = .ok (.aload_n 0, 1) := by decide +kernel
theorem dX13_takes_85 : decode cX13_takes 85 = .ok (.getfield 7, 3) := by decide +kernel
theorem dX13_takes_88 : decode cX13_takes 88 = .ok (.sipush 195, 3) := by decide +kernel
theorem dX13_takes_91 : decode cX13_takes 91 = .ok (.iload_n 1, 1) := by decide +kernel
theorem dX13_takes_92 : decode cX13_takes 92 = .ok (.iadd, 1) := by decide +kernel
theorem dX13_takes_93 : decode cX13_takes 93 = .ok (.iaload, 1) := by decide +kernel
theorem dX13_takes_94 : decode cX13_takes 94 = .ok (.iconst 1, 1) := by decide +kernel
theorem dX13_takes_95 : decode cX13_takes 95 = .ok (.if_icmp .ne 7, 3) := by decide +kernel
theorem dX13_takes_98 : decode cX13_takes 98 = .ok (.iconst 0, 1) := by decide +kernel
theorem dX13_takes_99 : decode cX13_takes 99 = .ok (.goto 13, 3) := by decide +kernel
theorem dX13_takes_102 : decode cX13_takes 102 = .ok (.aload_n 0, 1) := by decide +kernel
theorem dX13_takes_103 : decode cX13_takes 103 = .ok (.getfield 7, 3) := by decide +kernel
theorem dX13_takes_106 : decode cX13_takes 106 = .ok (.sipush 195, 3) := by decide +kernel
theorem dX13_takes_109 : decode cX13_takes 109 = .ok (.iload_n 1, 1) := by decide +kernel
theorem dX13_takes_110 : decode cX13_takes 110 = .ok (.iadd, 1) := by decide +kernel
theorem dX13_takes_111 : decode cX13_takes 111 = .ok (.iaload, 1) := by decide +kernel
theorem dX13_takes_112 : decode cX13_takes 112 = .ok (.iastore, 1) := by decide +kernel
theorem dX13_takes_113 : decode cX13_takes 113 = .ok (.aload_n 0, 1) := by decide +kernel
theorem dX13_takes_114 : decode cX13_takes 114 = .ok (.aload_n 0, 1) := by decide +kernel
theorem dX13_takes_115 : decode cX13_takes 115 = .ok (.getfield 7, 3) := by decide +kernel
theorem dX13_takes_118 : decode cX13_takes 118 = .ok (.sipush 195, 3) := by decide +kernel
theorem dX13_takes_121 : decode cX13_takes 121 = .ok (.iload_n 1, 1) := by decide +kernel
theorem dX13_takes_122 : decode cX13_takes 122 = .ok (.iadd, 1) := by decide +kernel
theorem dX13_takes_123 : decode cX13_takes 123 = .ok (.iaload, 1) := by decide +kernel
theorem dX13_takes_124 : decode cX13_takes 124 = .ok (.invokevirtual 89, 3) := by decide +kernel
theorem dX13_takes_127 : decode cX13_takes 127 = .ok (.ireturn, 1) := by decide +kernel
theorem dX13_aim_0 : decode cX13_aim 0 = .ok (.aload_n 0, 1) := by decide +kernel
theorem dX13_aim_1 : decode cX13_aim 1 = .ok (.invokevirtual 99, 3) := by decide +kernel
theorem dX13_aim_4 : decode cX13_aim 4 = .ok (.aload_n 0, 1) := by decide +kernel
theorem dX13_aim_5 : decode cX13_aim 5 = .ok (.aload_n 0, 1) := by decide +kernel
theorem dX13_aim_6 : decode cX13_aim 6 = .ok (.iload_n 1, 1) := by decide +kernel
theorem dX13_aim_7 : decode cX13_aim 7 = .ok (.invokevirtual 102, 3) := by decide +kernel
theorem dX13_aim_10 : decode cX13_aim 10 = .ok (.invokevirtual 105, 3) := by decide +kernel
theorem dX13_aim_13 : decode cX13_aim 13 = .ok (.ireturn, 1) := by decide +kernel
theorem dX13_gains_0 : decode cX13_gains 0 = .ok (.aload_n 0, 1) := by decide +kernel
theorem dX13_gains_1 : decode cX13_gains 1 = .ok (.invokevirtual 99, 3) := by decide +kernel
theorem dX13_gains_4 : decode cX13_gains 4 = .ok (.aload_n 0, 1) := by decide +kernel
theorem dX13_gains_5 : decode cX13_gains 5 = .ok (.aload_n 0, 1) := by decide +kernel
theorem dX13_gains_6 : decode cX13_gains 6 = .ok (.iload_n 1, 1) := by decide +kernel
theorem dX13_gains_7 : decode cX13_gains 7 = .ok (.iload_n 2, 1) := by decide +kernel
theorem dX13_gains_8 : decode cX13_gains 8 = .ok (.iload_n 3, 1) := by decide +kernel
theorem dX13_gains_9 : decode cX13_gains 9 = .ok (.invokevirtual 108, 3) := by decide +kernel
theorem dX13_gains_12 : decode cX13_gains 12 = .ok (.invokevirtual 105, 3) := by decide +kernel
theorem dX13_gains_15 : decode cX13_gains 15 = .ok (.ireturn, 1) := by decide +kernel
theorem dX13_cap_0 : decode cX13_cap 0 = .ok (.aload_n 0, 1) := by decide +kernel
theorem dX13_cap_1 : decode cX13_cap 1 = .ok (.invokevirtual 99, 3) := by decide +kernel
theorem dX13_cap_4 : decode cX13_cap 4 = .ok (.aload_n 0, 1) := by decide +kernel
theorem dX13_cap_5 : decode cX13_cap 5 = .ok (.aload_n 0, 1) := by decide +kernel
theorem dX13_cap_6 : decode cX13_cap 6 = .ok (.iload_n 1, 1) := by decide +kernel
theorem dX13_cap_7 : decode cX13_cap 7 = .ok (.invokevirtual 111, 3) := by decide +kernel
theorem dX13_cap_10 : decode cX13_cap 10 = .ok (.invokevirtual 105, 3) := by decide +kernel
theorem dX13_cap_13 : decode cX13_cap 13 = .ok (.ireturn, 1) := by decide +kernel
theorem dX13_lag_0 : decode cX13_lag 0 = .ok (.aload_n 0, 1) := by decide +kernel
theorem dX13_lag_1 : decode cX13_lag 1 = .ok (.invokevirtual 99, 3) := by decide +kernel
theorem dX13_lag_4 : decode cX13_lag 4 = .ok (.aload_n 0, 1) := by decide +kernel
theorem dX13_lag_5 : decode cX13_lag 5 = .ok (.aload_n 0, 1) := by decide +kernel
theorem dX13_lag_6 : decode cX13_lag 6 = .ok (.iload_n 1, 1) := by decide +kernel
theorem dX13_lag_7 : decode cX13_lag 7 = .ok (.invokevirtual 114, 3) := by decide +kernel
theorem dX13_lag_10 : decode cX13_lag 10 = .ok (.invokevirtual 105, 3) := by decide +kernel
theorem dX13_lag_13 : decode cX13_lag 13 = .ok (.ireturn, 1) := by decide +kernel
theorem dX13_fuel_0 : decode cX13_fuel 0 = .ok (.aload_n 0, 1) := by decide +kernel
theorem dX13_fuel_1 : decode cX13_fuel 1 = .ok (.invokevirtual 99, 3) := by decide +kernel
theorem dX13_fuel_4 : decode cX13_fuel 4 = .ok (.aload_n 0, 1) := by decide +kernel
theorem dX13_fuel_5 : decode cX13_fuel 5 = .ok (.aload_n 0, 1) := by decide +kernel
theorem dX13_fuel_6 : decode cX13_fuel 6 = .ok (.iload_n 1, 1) := by decide +kernel
theorem dX13_fuel_7 : decode cX13_fuel 7 = .ok (.invokevirtual 117, 3) := by decide +kernel
theorem dX13_fuel_10 : decode cX13_fuel 10 = .ok (.invokevirtual 105, 3) := by decide +kernel
theorem dX13_fuel_13 : decode cX13_fuel 13 = .ok (.ireturn, 1) := by decide +kernel
theorem dX13_go_0 : decode cX13_go 0 = .ok (.aload_n 0, 1) := by decide +kernel
theorem dX13_go_1 : decode cX13_go 1 = .ok (.invokevirtual 99, 3) := by decide +kernel
theorem dX13_go_4 : decode cX13_go 4 = .ok (.aload_n 0, 1) := by decide +kernel
theorem dX13_go_5 : decode cX13_go 5 = .ok (.aload_n 0, 1) := by decide +kernel
theorem dX13_go_6 : decode cX13_go 6 = .ok (.iload_n 1, 1) := by decide +kernel
theorem dX13_go_7 : decode cX13_go 7 = .ok (.invokevirtual 120, 3) := by decide +kernel
theorem dX13_go_10 : decode cX13_go 10 = .ok (.invokevirtual 105, 3) := by decide +kernel
theorem dX13_go_13 : decode cX13_go 13 = .ok (.ireturn, 1) := by decide +kernel
theorem dX13_pot_0 : decode cX13_pot 0 = .ok (.aload_n 0, 1) := by decide +kernel
theorem dX13_pot_1 : decode cX13_pot 1 = .ok (.invokevirtual 99, 3) := by decide +kernel
theorem dX13_pot_4 : decode cX13_pot 4 = .ok (.aload_n 0, 1) := by decide +kernel
theorem dX13_pot_5 : decode cX13_pot 5 = .ok (.aload_n 0, 1) := by decide +kernel
theorem dX13_pot_6 : decode cX13_pot 6 = .ok (.iload_n 1, 1) := by decide +kernel
theorem dX13_pot_7 : decode cX13_pot 7 = .ok (.iload_n 2, 1) := by decide +kernel
theorem dX13_pot_8 : decode cX13_pot 8 = .ok (.iload_n 3, 1) := by decide +kernel
theorem dX13_pot_9 : decode cX13_pot 9 = .ok (.invokevirtual 123, 3) := by decide +kernel
theorem dX13_pot_12 : decode cX13_pot 12 = .ok (.invokevirtual 105, 3) := by decide +kernel
theorem dX13_pot_15 : decode cX13_pot 15 = .ok (.ireturn, 1) := by decide +kernel
theorem dX13_put_0 : decode cX13_put 0 = .ok (.aload_n 0, 1) := by decide +kernel
theorem dX13_put_1 : decode cX13_put 1 = .ok (.invokevirtual 99, 3) := by decide +kernel
theorem dX13_put_4 : decode cX13_put 4 = .ok (.aload_n 0, 1) := by decide +kernel
theorem dX13_put_5 : decode cX13_put 5 = .ok (.aload_n 0, 1) := by decide +kernel
theorem dX13_put_6 : decode cX13_put 6 = .ok (.iload_n 1, 1) := by decide +kernel
theorem dX13_put_7 : decode cX13_put 7 = .ok (.invokevirtual 126, 3) := by decide +kernel
theorem dX13_put_10 : decode cX13_put 10 = .ok (.invokevirtual 105, 3) := by decide +kernel
theorem dX13_put_13 : decode cX13_put 13 = .ok (.ireturn, 1) := by decide +kernel
theorem dX13_take_0 : decode cX13_take 0 = .ok (.aload_n 0, 1) := by decide +kernel
theorem dX13_take_1 : decode cX13_take 1 = .ok (.invokevirtual 99, 3) := by decide +kernel
theorem dX13_take_4 : decode cX13_take 4 = .ok (.aload_n 0, 1) := by decide +kernel
theorem dX13_take_5 : decode cX13_take 5 = .ok (.aload_n 0, 1) := by decide +kernel
theorem dX13_take_6 : decode cX13_take 6 = .ok (.iload_n 1, 1) := by decide +kernel
theorem dX13_take_7 : decode cX13_take 7 = .ok (.invokevirtual 129, 3) := by decide +kernel
theorem dX13_take_10 : decode cX13_take 10 = .ok (.invokevirtual 105, 3) := by decide +kernel
theorem dX13_take_13 : decode cX13_take 13 = .ok (.ireturn, 1) := by decide +kernel
theorem dX13_potOf_0 : decode cX13_potOf 0 = .ok (.aload_n 0, 1) := by decide +kernel
theorem dX13_potOf_1 : decode cX13_potOf 1 = .ok (.iload_n 1, 1) := by decide +kernel
theorem dX13_potOf_2 : decode cX13_potOf 2 = .ok (.invokevirtual 92, 3) := by decide +kernel
theorem dX13_potOf_5 : decode cX13_potOf 5 = .ok (.ifCond .ne 7, 3) := by decide +kernel
theorem dX13_potOf_8 : decode cX13_potOf 8 = .ok (.sipush (-10001), 3) := by decide +kernel
theorem dX13_potOf_11 : decode cX13_potOf 11 = .ok (.ireturn, 1) := by decide +kernel
theorem dX13_potOf_12 : decode cX13_potOf 12 = .ok (.iload_n 2, 1) := by decide +kernel
theorem dX13_potOf_13 : decode cX13_potOf 13 = .ok (.tableswitch 120 0 6 #[43, 54, 65, 76, 87, 98, 109], 43) := by decide +kernel
theorem dX13_potOf_56 : decode cX13_potOf 56 = .ok (.aload_n 0, 1) := by decide +kernel
theorem dX13_potOf_57 : decode cX13_potOf 57 = .ok (.getfield 7, 3) := by decide +kernel
theorem dX13_potOf_60 : decode cX13_potOf 60 = .ok (.sipush 171, 3) := by decide +kernel
theorem dX13_potOf_63 : decode cX13_potOf 63 = .ok (.iload_n 1, 1) := by decide +kernel
theorem dX13_potOf_64 : decode cX13_potOf 64 = .ok (.iadd, 1) := by decide +kernel
theorem dX13_potOf_65 : decode cX13_potOf 65 = .ok (.iaload, 1) := by decide +kernel
theorem dX13_potOf_66 : decode cX13_potOf 66 = .ok (.ireturn, 1) := by decide +kernel
theorem dX13_potOf_67 : decode cX13_potOf 67 = .ok (.aload_n 0, 1) := by decide +kernel
theorem dX13_potOf_68 : decode cX13_potOf 68 = .ok (.getfield 7, 3) := by decide +kernel
theorem dX13_potOf_71 : decode cX13_potOf 71 = .ok (.sipush 179, 3) := by decide +kernel
theorem dX13_potOf_74 : decode cX13_potOf 74 = .ok (.iload_n 1, 1) := by decide +kernel
theorem dX13_potOf_75 : decode cX13_potOf 75 = .ok (.iadd, 1) := by decide +kernel
theorem dX13_potOf_76 : decode cX13_potOf 76 = .ok (.iaload, 1) := by decide +kernel
theorem dX13_potOf_77 : decode cX13_potOf 77 = .ok (.ireturn, 1) := by decide +kernel
theorem dX13_potOf_78 : decode cX13_potOf 78 = .ok (.aload_n 0, 1) := by decide +kernel
theorem dX13_potOf_79 : decode cX13_potOf 79 = .ok (.getfield 7, 3) := by decide +kernel
theorem dX13_potOf_82 : decode cX13_potOf 82 = .ok (.sipush 187, 3) := by decide +kernel
theorem dX13_potOf_85 : decode cX13_potOf 85 = .ok (.iload_n 1, 1) := by decide +kernel
theorem dX13_potOf_86 : decode cX13_potOf 86 = .ok (.iadd, 1) := by decide +kernel
theorem dX13_potOf_87 : decode cX13_potOf 87 = .ok (.iaload, 1) := by decide +kernel
theorem dX13_potOf_88 : decode cX13_potOf 88 = .ok (.ireturn, 1) := by decide +kernel
theorem dX13_potOf_89 : decode cX13_potOf 89 = .ok (.aload_n 0, 1) := by decide +kernel
theorem dX13_potOf_90 : decode cX13_potOf 90 = .ok (.getfield 7, 3) := by decide +kernel
theorem dX13_potOf_93 : decode cX13_potOf 93 = .ok (.sipush 195, 3) := by decide +kernel
theorem dX13_potOf_96 : decode cX13_potOf 96 = .ok (.iload_n 1, 1) := by decide +kernel
theorem dX13_potOf_97 : decode cX13_potOf 97 = .ok (.iadd, 1) := by decide +kernel
theorem dX13_potOf_98 : decode cX13_potOf 98 = .ok (.iaload, 1) := by decide +kernel
theorem dX13_potOf_99 : decode cX13_potOf 99 = .ok (.ireturn, 1) := by decide +kernel
theorem dX13_potOf_100 : decode cX13_potOf 100 = .ok (.aload_n 0, 1) := by decide +kernel
theorem dX13_potOf_101 : decode cX13_potOf 101 = .ok (.getfield 7, 3) := by decide +kernel
theorem dX13_potOf_104 : decode cX13_potOf 104 = .ok (.sipush 203, 3) := by decide +kernel
theorem dX13_potOf_107 : decode cX13_potOf 107 = .ok (.iload_n 1, 1) := by decide +kernel
theorem dX13_potOf_108 : decode cX13_potOf 108 = .ok (.iadd, 1) := by decide +kernel
theorem dX13_potOf_109 : decode cX13_potOf 109 = .ok (.iaload, 1) := by decide +kernel
theorem dX13_potOf_110 : decode cX13_potOf 110 = .ok (.ireturn, 1) := by decide +kernel
theorem dX13_potOf_111 : decode cX13_potOf 111 = .ok (.aload_n 0, 1) := by decide +kernel
theorem dX13_potOf_112 : decode cX13_potOf 112 = .ok (.getfield 7, 3) := by decide +kernel
theorem dX13_potOf_115 : decode cX13_potOf 115 = .ok (.sipush 211, 3) := by decide +kernel
theorem dX13_potOf_118 : decode cX13_potOf 118 = .ok (.iload_n 1, 1) := by decide +kernel
theorem dX13_potOf_119 : decode cX13_potOf 119 = .ok (.iadd, 1) := by decide +kernel
theorem dX13_potOf_120 : decode cX13_potOf 120 = .ok (.iaload, 1) := by decide +kernel
theorem dX13_potOf_121 : decode cX13_potOf 121 = .ok (.ireturn, 1) := by decide +kernel
theorem dX13_potOf_122 : decode cX13_potOf 122 = .ok (.aload_n 0, 1) := by decide +kernel
theorem dX13_potOf_123 : decode cX13_potOf 123 = .ok (.getfield 7, 3) := by decide +kernel
theorem dX13_potOf_126 : decode cX13_potOf 126 = .ok (.sipush 219, 3) := by decide +kernel
theorem dX13_potOf_129 : decode cX13_potOf 129 = .ok (.iload_n 1, 1) := by decide +kernel
theorem dX13_potOf_130 : decode cX13_potOf 130 = .ok (.iadd, 1) := by decide +kernel
theorem dX13_potOf_131 : decode cX13_potOf 131 = .ok (.iaload, 1) := by decide +kernel
theorem dX13_potOf_132 : decode cX13_potOf 132 = .ok (.ireturn, 1) := by decide +kernel
theorem dX13_potOf_133 : decode cX13_potOf 133 = .ok (.sipush (-10002), 3) := by decide +kernel
theorem dX13_potOf_136 : decode cX13_potOf 136 = .ok (.ireturn, 1) := by decide +kernel
theorem dX13_firedIn_0 : decode cX13_firedIn 0 = .ok (.aload_n 0, 1) := by decide +kernel
theorem dX13_firedIn_1 : decode cX13_firedIn 1 = .ok (.iload_n 1, 1) := by decide +kernel
theorem dX13_firedIn_2 : decode cX13_firedIn 2 = .ok (.invokevirtual 92, 3) := by decide +kernel
theorem dX13_firedIn_5 : decode cX13_firedIn 5 = .ok (.ifCond .ne 7, 3) := by decide +kernel
theorem dX13_firedIn_8 : decode cX13_firedIn 8 = .ok (.sipush (-10001), 3) := by decide +kernel
theorem dX13_firedIn_11 : decode cX13_firedIn 11 = .ok (.ireturn, 1) := by decide +kernel
theorem dX13_firedIn_12 : decode cX13_firedIn 12 = .ok (.aload_n 0, 1) := by decide +kernel
theorem dX13_firedIn_13 : decode cX13_firedIn 13 = .ok (.iconst 0, 1) := by decide +kernel
theorem dX13_firedIn_14 : decode cX13_firedIn 14 = .ok (.invokevirtual 132, 3) := by decide +kernel
theorem dX13_firedIn_17 : decode cX13_firedIn 17 = .ok (.iconst 0, 1) := by decide +kernel
theorem dX13_firedIn_18 : decode cX13_firedIn 18 = .ok (.istore_n 2, 1) := by decide +kernel
theorem dX13_firedIn_19 : decode cX13_firedIn 19 = .ok (.iload_n 2, 1) := by decide +kernel
theorem dX13_firedIn_20 : decode cX13_firedIn 20 = .ok (.sipush 300, 3) := by decide +kernel
theorem dX13_firedIn_23 : decode cX13_firedIn 23 = .ok (.if_icmp .ge 27, 3) := by decide +kernel
theorem dX13_firedIn_26 : decode cX13_firedIn 26 = .ok (.aload_n 0, 1) := by decide +kernel
theorem dX13_firedIn_27 : decode cX13_firedIn 27 = .ok (.getfield 7, 3) := by decide +kernel
theorem dX13_firedIn_30 : decode cX13_firedIn 30 = .ok (.sipush 195, 3) := by decide +kernel
theorem dX13_firedIn_33 : decode cX13_firedIn 33 = .ok (.iload_n 1, 1) := by decide +kernel
theorem dX13_firedIn_34 : decode cX13_firedIn 34 = .ok (.iadd, 1) := by decide +kernel
theorem dX13_firedIn_35 : decode cX13_firedIn 35 = .ok (.iaload, 1) := by decide +kernel
theorem dX13_firedIn_36 : decode cX13_firedIn 36 = .ok (.iconst 1, 1) := by decide +kernel
theorem dX13_firedIn_37 : decode cX13_firedIn 37 = .ok (.if_icmp .ne 13, 3) := by decide +kernel
theorem dX13_firedIn_40 : decode cX13_firedIn 40 = .ok (.aload_n 0, 1) := by decide +kernel
theorem dX13_firedIn_41 : decode cX13_firedIn 41 = .ok (.invokevirtual 82, 3) := by decide +kernel
theorem dX13_firedIn_44 : decode cX13_firedIn 44 = .ok (.iinc 2 1, 3) := by decide +kernel
theorem dX13_firedIn_47 : decode cX13_firedIn 47 = .ok (.goto (-28), 3) := by decide +kernel
theorem dX13_firedIn_50 : decode cX13_firedIn 50 = .ok (.aload_n 0, 1) := by decide +kernel
theorem dX13_firedIn_51 : decode cX13_firedIn 51 = .ok (.getfield 7, 3) := by decide +kernel
theorem dX13_firedIn_54 : decode cX13_firedIn 54 = .ok (.sipush 195, 3) := by decide +kernel
theorem dX13_firedIn_57 : decode cX13_firedIn 57 = .ok (.iload_n 1, 1) := by decide +kernel
theorem dX13_firedIn_58 : decode cX13_firedIn 58 = .ok (.iadd, 1) := by decide +kernel
theorem dX13_firedIn_59 : decode cX13_firedIn 59 = .ok (.iaload, 1) := by decide +kernel
theorem dX13_firedIn_60 : decode cX13_firedIn 60 = .ok (.iconst 2, 1) := by decide +kernel
theorem dX13_firedIn_61 : decode cX13_firedIn 61 = .ok (.if_icmp .ne 7, 3) := by decide +kernel
theorem dX13_firedIn_64 : decode cX13_firedIn 64 = .ok (.iconst 1, 1) := by decide +kernel
theorem dX13_firedIn_65 : decode cX13_firedIn 65 = .ok (.goto 4, 3) := by decide +kernel
theorem dX13_firedIn_68 : decode cX13_firedIn 68 = .ok (.iconst 0, 1) := by decide +kernel
theorem dX13_firedIn_69 : decode cX13_firedIn 69 = .ok (.istore_n 3, 1) := by decide +kernel
theorem dX13_firedIn_70 : decode cX13_firedIn 70 = .ok (.aload_n 0, 1) := by decide +kernel
theorem dX13_firedIn_71 : decode cX13_firedIn 71 = .ok (.invokevirtual 136, 3) := by decide +kernel
theorem dX13_firedIn_74 : decode cX13_firedIn 74 = .ok (.iload_n 3, 1) := by decide +kernel
theorem dX13_firedIn_75 : decode cX13_firedIn 75 = .ok (.ifCond .eq 7, 3) := by decide +kernel
theorem dX13_firedIn_78 : decode cX13_firedIn 78 = .ok (.iload_n 2, 1) := by decide +kernel
theorem dX13_firedIn_79 : decode cX13_firedIn 79 = .ok (.goto 6, 3) := by decide +kernel
theorem dX13_firedIn_82 : decode cX13_firedIn 82 = .ok (.sipush (-10005), 3) := by decide +kernel
theorem dX13_firedIn_85 : decode cX13_firedIn 85 = .ok (.ireturn, 1) := by decide +kernel
theorem dX13_wouldCrack_0 : decode cX13_wouldCrack 0 = .ok (.iload_n 1, 1) := by decide +kernel
theorem dX13_wouldCrack_1 : decode cX13_wouldCrack 1 = .ok (.iconst 0, 1) := by decide +kernel
theorem dX13_wouldCrack_2 : decode cX13_wouldCrack 2 = .ok (.sipush 300, 3) := by decide +kernel
theorem dX13_wouldCrack_5 : decode cX13_wouldCrack 5 = .ok (.invokestatic 54, 3) := by decide +kernel
theorem dX13_wouldCrack_8 : decode cX13_wouldCrack 8 = .ok (.ifCond .ne 7, 3) := by decide +kernel
theorem dX13_wouldCrack_11 : decode cX13_wouldCrack 11 = .ok (.sipush (-10002), 3) := by decide +kernel
theorem dX13_wouldCrack_14 : decode cX13_wouldCrack 14 = .ok (.ireturn, 1) := by decide +kernel
theorem dX13_wouldCrack_15 : decode cX13_wouldCrack 15 = .ok (.aload_n 0, 1) := by decide +kernel
theorem dX13_wouldCrack_16 : decode cX13_wouldCrack 16 = .ok (.iload_n 1, 1) := by decide +kernel
theorem dX13_wouldCrack_17 : decode cX13_wouldCrack 17 = .ok (.invokevirtual 132, 3) := by decide +kernel
theorem dX13_wouldCrack_20 : decode cX13_wouldCrack 20 = .ok (.iconst 0, 1) := by decide +kernel
theorem dX13_wouldCrack_21 : decode cX13_wouldCrack 21 = .ok (.istore_n 2, 1) := by decide +kernel
theorem dX13_wouldCrack_22 : decode cX13_wouldCrack 22 = .ok (.iconst 0, 1) := by decide +kernel
theorem dX13_wouldCrack_23 : decode cX13_wouldCrack 23 = .ok (.istore_n 3, 1) := by decide +kernel
theorem dX13_wouldCrack_24 : decode cX13_wouldCrack 24 = .ok (.iload_n 3, 1) := by decide +kernel
theorem dX13_wouldCrack_25 : decode cX13_wouldCrack 25 = .ok (.aload_n 0, 1) := by decide +kernel
theorem dX13_wouldCrack_26 : decode cX13_wouldCrack 26 = .ok (.getfield 7, 3) := by decide +kernel
theorem dX13_wouldCrack_29 : decode cX13_wouldCrack 29 = .ok (.bipush 15, 2) := by decide +kernel
theorem dX13_wouldCrack_31 : decode cX13_wouldCrack 31 = .ok (.iaload, 1) := by decide +kernel
theorem dX13_wouldCrack_32 : decode cX13_wouldCrack 32 = .ok (.if_icmp .ge 47, 3) := by decide +kernel
theorem dX13_wouldCrack_35 : decode cX13_wouldCrack 35 = .ok (.iload_n 2, 1) := by decide +kernel
theorem dX13_wouldCrack_36 : decode cX13_wouldCrack 36 = .ok (.aload_n 0, 1) := by decide +kernel
theorem dX13_wouldCrack_37 : decode cX13_wouldCrack 37 = .ok (.getfield 7, 3) := by decide +kernel
theorem dX13_wouldCrack_40 : decode cX13_wouldCrack 40 = .ok (.sipush 195, 3) := by decide +kernel
theorem dX13_wouldCrack_43 : decode cX13_wouldCrack 43 = .ok (.iload_n 3, 1) := by decide +kernel
theorem dX13_wouldCrack_44 : decode cX13_wouldCrack 44 = .ok (.iadd, 1) := by decide +kernel
theorem dX13_wouldCrack_45 : decode cX13_wouldCrack 45 = .ok (.iaload, 1) := by decide +kernel
theorem dX13_wouldCrack_46 : decode cX13_wouldCrack 46 = .ok (.iconst 3, 1) := by decide +kernel
theorem dX13_wouldCrack_47 : decode cX13_wouldCrack 47 = .ok (.if_icmp .ne 23, 3) := by decide +kernel
theorem dX13_wouldCrack_50 : decode cX13_wouldCrack 50 = .ok (.aload_n 0, 1) := by decide +kernel
theorem dX13_wouldCrack_51 : decode cX13_wouldCrack 51 = .ok (.getfield 19, 3) := by decide +kernel
theorem dX13_wouldCrack_54 : decode cX13_wouldCrack 54 = .ok (.sipush 195, 3) := by decide +kernel
theorem dX13_wouldCrack_57 : decode cX13_wouldCrack 57 = .ok (.iload_n 3, 1) := by decide +kernel
theorem dX13_wouldCrack_58 : decode cX13_wouldCrack 58 = .ok (.iadd, 1) := by decide +kernel
theorem dX13_wouldCrack_59 : decode cX13_wouldCrack 59 = .ok (.iaload, 1) := by decide +kernel
theorem dX13_wouldCrack_60 : decode cX13_wouldCrack 60 = .ok (.iconst 3, 1) := by decide +kernel
theorem dX13_wouldCrack_61 : decode cX13_wouldCrack 61 = .ok (.if_icmp .eq 9, 3) := by decide +kernel
theorem dX13_wouldCrack_64 : decode cX13_wouldCrack 64 = .ok (.iconst 1, 1) := by decide +kernel
theorem dX13_wouldCrack_65 : decode cX13_wouldCrack 65 = .ok (.iload_n 3, 1) := by decide +kernel
theorem dX13_wouldCrack_66 : decode cX13_wouldCrack 66 = .ok (.ishl, 1) := by decide +kernel
theorem dX13_wouldCrack_67 : decode cX13_wouldCrack 67 = .ok (.goto 4, 3) := by decide +kernel
theorem dX13_wouldCrack_70 : decode cX13_wouldCrack 70 = .ok (.iconst 0, 1) := by decide +kernel
theorem dX13_wouldCrack_71 : decode cX13_wouldCrack 71 = .ok (.ior, 1) := by decide +kernel
theorem dX13_wouldCrack_72 : decode cX13_wouldCrack 72 = .ok (.istore_n 2, 1) := by decide +kernel
theorem dX13_wouldCrack_73 : decode cX13_wouldCrack 73 = .ok (.iinc 3 1, 3) := by decide +kernel
theorem dX13_wouldCrack_76 : decode cX13_wouldCrack 76 = .ok (.goto (-52), 3) := by decide +kernel
theorem dX13_wouldCrack_79 : decode cX13_wouldCrack 79 = .ok (.aload_n 0, 1) := by decide +kernel
theorem dX13_wouldCrack_80 : decode cX13_wouldCrack 80 = .ok (.invokevirtual 136, 3) := by decide +kernel
theorem dX13_wouldCrack_83 : decode cX13_wouldCrack 83 = .ok (.iload_n 2, 1) := by decide +kernel
theorem dX13_wouldCrack_84 : decode cX13_wouldCrack 84 = .ok (.ireturn, 1) := by decide +kernel
theorem dX13_left_0 : decode cX13_left 0 = .ok (.aload_n 0, 1) := by decide +kernel
theorem dX13_left_1 : decode cX13_left 1 = .ok (.getfield 7, 3) := by decide +kernel
theorem dX13_left_4 : decode cX13_left 4 = .ok (.sipush 187, 3) := by decide +kernel
theorem dX13_left_7 : decode cX13_left 7 = .ok (.iload_n 1, 1) := by decide +kernel
theorem dX13_left_8 : decode cX13_left 8 = .ok (.iadd, 1) := by decide +kernel
theorem dX13_left_9 : decode cX13_left 9 = .ok (.iaload, 1) := by decide +kernel
theorem dX13_left_10 : decode cX13_left 10 = .ok (.aload_n 0, 1) := by decide +kernel
theorem dX13_left_11 : decode cX13_left 11 = .ok (.getfield 7, 3) := by decide +kernel
theorem dX13_left_14 : decode cX13_left 14 = .ok (.sipush 203, 3) := by decide +kernel
theorem dX13_left_17 : decode cX13_left 17 = .ok (.iload_n 1, 1) := by decide +kernel
theorem dX13_left_18 : decode cX13_left 18 = .ok (.iadd, 1) := by decide +kernel
theorem dX13_left_19 : decode cX13_left 19 = .ok (.iaload, 1) := by decide +kernel
theorem dX13_left_20 : decode cX13_left 20 = .ok (.isub, 1) := by decide +kernel
theorem dX13_left_21 : decode cX13_left 21 = .ok (.ireturn, 1) := by decide +kernel
theorem dX13_isAhead_0 : decode cX13_isAhead 0 = .ok (.aload_n 0, 1) := by decide +kernel
theorem dX13_isAhead_1 : decode cX13_isAhead 1 = .ok (.iload_n 1, 1) := by decide +kernel
theorem dX13_isAhead_2 : decode cX13_isAhead 2 = .ok (.invokevirtual 139, 3) := by decide +kernel
theorem dX13_isAhead_5 : decode cX13_isAhead 5 = .ok (.aload_n 0, 1) := by decide +kernel
theorem dX13_isAhead_6 : decode cX13_isAhead 6 = .ok (.iload_n 2, 1) := by decide +kernel
theorem dX13_isAhead_7 : decode cX13_isAhead 7 = .ok (.invokevirtual 139, 3) := by decide +kernel
theorem dX13_isAhead_10 : decode cX13_isAhead 10 = .ok (.if_icmp .eq 22, 3) := by decide +kernel
theorem dX13_isAhead_13 : decode cX13_isAhead 13 = .ok (.aload_n 0, 1) := by decide +kernel
theorem dX13_isAhead_14 : decode cX13_isAhead 14 = .ok (.iload_n 1, 1) := by decide +kernel
theorem dX13_isAhead_15 : decode cX13_isAhead 15 = .ok (.invokevirtual 139, 3) := by decide +kernel
theorem dX13_isAhead_18 : decode cX13_isAhead 18 = .ok (.aload_n 0, 1) := by decide +kernel
theorem dX13_isAhead_19 : decode cX13_isAhead 19 = .ok (.iload_n 2, 1) := by decide +kernel
theorem dX13_isAhead_20 : decode cX13_isAhead 20 = .ok (.invokevirtual 139, 3) := by decide +kernel
theorem dX13_isAhead_23 : decode cX13_isAhead 23 = .ok (.if_icmp .ge 7, 3) := by decide +kernel
theorem dX13_isAhead_26 : decode cX13_isAhead 26 = .ok (.iconst 1, 1) := by decide +kernel
theorem dX13_isAhead_27 : decode cX13_isAhead 27 = .ok (.goto 4, 3) := by decide +kernel
theorem dX13_isAhead_30 : decode cX13_isAhead 30 = .ok (.iconst 0, 1) := by decide +kernel
theorem dX13_isAhead_31 : decode cX13_isAhead 31 = .ok (.ireturn, 1) := by decide +kernel
theorem dX13_isAhead_32 : decode cX13_isAhead 32 = .ok (.aload_n 0, 1) := by decide +kernel
theorem dX13_isAhead_33 : decode cX13_isAhead 33 = .ok (.getfield 7, 3) := by decide +kernel
theorem dX13_isAhead_36 : decode cX13_isAhead 36 = .ok (.sipush 179, 3) := by decide +kernel
theorem dX13_isAhead_39 : decode cX13_isAhead 39 = .ok (.iload_n 1, 1) := by decide +kernel
theorem dX13_isAhead_40 : decode cX13_isAhead 40 = .ok (.iadd, 1) := by decide +kernel
theorem dX13_isAhead_41 : decode cX13_isAhead 41 = .ok (.iaload, 1) := by decide +kernel
theorem dX13_isAhead_42 : decode cX13_isAhead 42 = .ok (.aload_n 0, 1) := by decide +kernel
theorem dX13_isAhead_43 : decode cX13_isAhead 43 = .ok (.getfield 7, 3) := by decide +kernel
theorem dX13_isAhead_46 : decode cX13_isAhead 46 = .ok (.sipush 179, 3) := by decide +kernel
theorem dX13_isAhead_49 : decode cX13_isAhead 49 = .ok (.iload_n 2, 1) := by decide +kernel
theorem dX13_isAhead_50 : decode cX13_isAhead 50 = .ok (.iadd, 1) := by decide +kernel
theorem dX13_isAhead_51 : decode cX13_isAhead 51 = .ok (.iaload, 1) := by decide +kernel
theorem dX13_isAhead_52 : decode cX13_isAhead 52 = .ok (.if_icmp .gt 31, 3) := by decide +kernel
theorem dX13_isAhead_55 : decode cX13_isAhead 55 = .ok (.aload_n 0, 1) := by decide +kernel
theorem dX13_isAhead_56 : decode cX13_isAhead 56 = .ok (.getfield 7, 3) := by decide +kernel
theorem dX13_isAhead_59 : decode cX13_isAhead 59 = .ok (.sipush 179, 3) := by decide +kernel
theorem dX13_isAhead_62 : decode cX13_isAhead 62 = .ok (.iload_n 1, 1) := by decide +kernel
theorem dX13_isAhead_63 : decode cX13_isAhead 63 = .ok (.iadd, 1) := by decide +kernel
theorem dX13_isAhead_64 : decode cX13_isAhead 64 = .ok (.iaload, 1) := by decide +kernel
theorem dX13_isAhead_65 : decode cX13_isAhead 65 = .ok (.aload_n 0, 1) := by decide +kernel
theorem dX13_isAhead_66 : decode cX13_isAhead 66 = .ok (.getfield 7, 3) := by decide +kernel
theorem dX13_isAhead_69 : decode cX13_isAhead 69 = .ok (.sipush 179, 3) := by decide +kernel
theorem dX13_isAhead_72 : decode cX13_isAhead 72 = .ok (.iload_n 2, 1) := by decide +kernel
theorem dX13_isAhead_73 : decode cX13_isAhead 73 = .ok (.iadd, 1) := by decide +kernel
theorem dX13_isAhead_74 : decode cX13_isAhead 74 = .ok (.iaload, 1) := by decide +kernel
theorem dX13_isAhead_75 : decode cX13_isAhead 75 = .ok (.if_icmp .ne 12, 3) := by decide +kernel
theorem dX13_isAhead_78 : decode cX13_isAhead 78 = .ok (.iload_n 1, 1) := by decide +kernel
theorem dX13_isAhead_79 : decode cX13_isAhead 79 = .ok (.iload_n 2, 1) := by decide +kernel
theorem dX13_isAhead_80 : decode cX13_isAhead 80 = .ok (.if_icmp .ge 7, 3) := by decide +kernel
theorem dX13_isAhead_83 : decode cX13_isAhead 83 = .ok (.iconst 1, 1) := by decide +kernel
theorem dX13_isAhead_84 : decode cX13_isAhead 84 = .ok (.goto 4, 3) := by decide +kernel
theorem dX13_isAhead_87 : decode cX13_isAhead 87 = .ok (.iconst 0, 1) := by decide +kernel
theorem dX13_isAhead_88 : decode cX13_isAhead 88 = .ok (.ireturn, 1) := by decide +kernel
theorem dX13_ranked_0 : decode cX13_ranked 0 = .ok (.iconst 0, 1) := by decide +kernel
theorem dX13_ranked_1 : decode cX13_ranked 1 = .ok (.istore_n 2, 1) := by decide +kernel
theorem dX13_ranked_2 : decode cX13_ranked 2 = .ok (.iload_n 2, 1) := by decide +kernel
theorem dX13_ranked_3 : decode cX13_ranked 3 = .ok (.aload_n 0, 1) := by decide +kernel
theorem dX13_ranked_4 : decode cX13_ranked 4 = .ok (.getfield 7, 3) := by decide +kernel
theorem dX13_ranked_7 : decode cX13_ranked 7 = .ok (.bipush 15, 2) := by decide +kernel
theorem dX13_ranked_9 : decode cX13_ranked 9 = .ok (.iaload, 1) := by decide +kernel
theorem dX13_ranked_10 : decode cX13_ranked 10 = .ok (.if_icmp .ge 63, 3) := by decide +kernel
theorem dX13_ranked_13 : decode cX13_ranked 13 = .ok (.iconst 0, 1) := by decide +kernel
theorem dX13_ranked_14 : decode cX13_ranked 14 = .ok (.istore_n 3, 1) := by decide +kernel
theorem dX13_ranked_15 : decode cX13_ranked 15 = .ok (.iconst 0, 1) := by decide +kernel
theorem dX13_ranked_16 : decode cX13_ranked 16 = .ok (.istore 4, 2) := by decide +kernel
theorem dX13_ranked_18 : decode cX13_ranked 18 = .ok (.iload 4, 2) := by decide +kernel
theorem dX13_ranked_20 : decode cX13_ranked 20 = .ok (.aload_n 0, 1) := by decide +kernel
theorem dX13_ranked_21 : decode cX13_ranked 21 = .ok (.getfield 7, 3) := by decide +kernel
theorem dX13_ranked_24 : decode cX13_ranked 24 = .ok (.bipush 15, 2) := by decide +kernel
theorem dX13_ranked_26 : decode cX13_ranked 26 = .ok (.iaload, 1) := by decide +kernel
theorem dX13_ranked_27 : decode cX13_ranked 27 = .ok (.if_icmp .ge 33, 3) := by decide +kernel
theorem dX13_ranked_30 : decode cX13_ranked 30 = .ok (.iload_n 3, 1) := by decide +kernel
theorem dX13_ranked_31 : decode cX13_ranked 31 = .ok (.iload 4, 2) := by decide +kernel
theorem dX13_ranked_33 : decode cX13_ranked 33 = .ok (.iload_n 2, 1) := by decide +kernel
theorem dX13_ranked_34 : decode cX13_ranked 34 = .ok (.if_icmp .eq 17, 3) := by decide +kernel
theorem dX13_ranked_37 : decode cX13_ranked 37 = .ok (.aload_n 0, 1) := by decide +kernel
theorem dX13_ranked_38 : decode cX13_ranked 38 = .ok (.iload 4, 2) := by decide +kernel
theorem dX13_ranked_40 : decode cX13_ranked 40 = .ok (.iload_n 2, 1) := by decide +kernel
theorem dX13_ranked_41 : decode cX13_ranked 41 = .ok (.invokevirtual 142, 3) := by decide +kernel
theorem dX13_ranked_44 : decode cX13_ranked 44 = .ok (.ifCond .eq 7, 3) := by decide +kernel
theorem dX13_ranked_47 : decode cX13_ranked 47 = .ok (.iconst 1, 1) := by decide +kernel
theorem dX13_ranked_48 : decode cX13_ranked 48 = .ok (.goto 4, 3) := by decide +kernel
theorem dX13_ranked_51 : decode cX13_ranked 51 = .ok (.iconst 0, 1) := by decide +kernel
theorem dX13_ranked_52 : decode cX13_ranked 52 = .ok (.iadd, 1) := by decide +kernel
theorem dX13_ranked_53 : decode cX13_ranked 53 = .ok (.istore_n 3, 1) := by decide +kernel
theorem dX13_ranked_54 : decode cX13_ranked 54 = .ok (.iinc 4 1, 3) := by decide +kernel
theorem dX13_ranked_57 : decode cX13_ranked 57 = .ok (.goto (-39), 3) := by decide +kernel
theorem dX13_ranked_60 : decode cX13_ranked 60 = .ok (.iload_n 3, 1) := by decide +kernel
theorem dX13_ranked_61 : decode cX13_ranked 61 = .ok (.iload_n 1, 1) := by decide +kernel
theorem dX13_ranked_62 : decode cX13_ranked 62 = .ok (.if_icmp .ne 5, 3) := by decide +kernel
theorem dX13_ranked_65 : decode cX13_ranked 65 = .ok (.iload_n 2, 1) := by decide +kernel
theorem dX13_ranked_66 : decode cX13_ranked 66 = .ok (.ireturn, 1) := by decide +kernel
theorem dX13_ranked_67 : decode cX13_ranked 67 = .ok (.iinc 2 1, 3) := by decide +kernel
theorem dX13_ranked_70 : decode cX13_ranked 70 = .ok (.goto (-68), 3) := by decide +kernel
theorem dX13_ranked_73 : decode cX13_ranked 73 = .ok (.sipush (-10001), 3) := by decide +kernel
theorem dX13_ranked_76 : decode cX13_ranked 76 = .ok (.ireturn, 1) := by decide +kernel
theorem dX13_degreesIn_0 : decode cX13_degreesIn 0 = .ok (.iload_n 1, 1) := by decide +kernel
theorem dX13_degreesIn_1 : decode cX13_degreesIn 1 = .ok (.iconst 0, 1) := by decide +kernel
theorem dX13_degreesIn_2 : decode cX13_degreesIn 2 = .ok (.sipush 300, 3) := by decide +kernel
theorem dX13_degreesIn_5 : decode cX13_degreesIn 5 = .ok (.invokestatic 54, 3) := by decide +kernel
theorem dX13_degreesIn_8 : decode cX13_degreesIn 8 = .ok (.ifCond .ne 7, 3) := by decide +kernel
theorem dX13_degreesIn_11 : decode cX13_degreesIn 11 = .ok (.sipush (-10002), 3) := by decide +kernel
theorem dX13_degreesIn_14 : decode cX13_degreesIn 14 = .ok (.ireturn, 1) := by decide +kernel
theorem dX13_degreesIn_15 : decode cX13_degreesIn 15 = .ok (.aload_n 0, 1) := by decide +kernel
theorem dX13_degreesIn_16 : decode cX13_degreesIn 16 = .ok (.iload_n 1, 1) := by decide +kernel
theorem dX13_degreesIn_17 : decode cX13_degreesIn 17 = .ok (.invokevirtual 132, 3) := by decide +kernel
theorem dX13_degreesIn_20 : decode cX13_degreesIn 20 = .ok (.aload_n 0, 1) := by decide +kernel
theorem dX13_degreesIn_21 : decode cX13_degreesIn 21 = .ok (.getfield 7, 3) := by decide +kernel
theorem dX13_degreesIn_24 : decode cX13_degreesIn 24 = .ok (.iconst 0, 1) := by decide +kernel
theorem dX13_degreesIn_25 : decode cX13_degreesIn 25 = .ok (.iaload, 1) := by decide +kernel
theorem dX13_degreesIn_26 : decode cX13_degreesIn 26 = .ok (.istore_n 2, 1) := by decide +kernel
theorem dX13_degreesIn_27 : decode cX13_degreesIn 27 = .ok (.aload_n 0, 1) := by decide +kernel
theorem dX13_degreesIn_28 : decode cX13_degreesIn 28 = .ok (.invokevirtual 136, 3) := by decide +kernel
theorem dX13_degreesIn_31 : decode cX13_degreesIn 31 = .ok (.iload_n 2, 1) := by decide +kernel
theorem dX13_degreesIn_32 : decode cX13_degreesIn 32 = .ok (.ireturn, 1) := by decide +kernel
theorem dX13_wanted_0 : decode cX13_wanted 0 = .ok (.aload_n 0, 1) := by decide +kernel
theorem dX13_wanted_1 : decode cX13_wanted 1 = .ok (.invokevirtual 69, 3) := by decide +kernel
theorem dX13_wanted_4 : decode cX13_wanted 4 = .ok (.ireturn, 1) := by decide +kernel
theorem dX13_settlesIn_0 : decode cX13_settlesIn 0 = .ok (.aload_n 0, 1) := by decide +kernel
theorem dX13_settlesIn_1 : decode cX13_settlesIn 1 = .ok (.iconst 0, 1) := by decide +kernel
theorem dX13_settlesIn_2 : decode cX13_settlesIn 2 = .ok (.invokevirtual 132, 3) := by decide +kernel
theorem dX13_settlesIn_5 : decode cX13_settlesIn 5 = .ok (.iconst 0, 1) := by decide +kernel
theorem dX13_settlesIn_6 : decode cX13_settlesIn 6 = .ok (.istore_n 1, 1) := by decide +kernel
theorem dX13_settlesIn_7 : decode cX13_settlesIn 7 = .ok (.iconst 0, 1) := by decide +kernel
theorem dX13_settlesIn_8 : decode cX13_settlesIn 8 = .ok (.istore_n 2, 1) := by decide +kernel
theorem dX13_settlesIn_9 : decode cX13_settlesIn 9 = .ok (.iload_n 2, 1) := by decide +kernel
theorem dX13_settlesIn_10 : decode cX13_settlesIn 10 = .ok (.sipush 300, 3) := by decide +kernel
theorem dX13_settlesIn_13 : decode cX13_settlesIn 13 = .ok (.if_icmp .ge 40, 3) := by decide +kernel
theorem dX13_settlesIn_16 : decode cX13_settlesIn 16 = .ok (.iload_n 1, 1) := by decide +kernel
theorem dX13_settlesIn_17 : decode cX13_settlesIn 17 = .ok (.bipush 10, 2) := by decide +kernel
theorem dX13_settlesIn_19 : decode cX13_settlesIn 19 = .ok (.if_icmp .ge 34, 3) := by decide +kernel
theorem dX13_settlesIn_22 : decode cX13_settlesIn 22 = .ok (.aload_n 0, 1) := by decide +kernel
theorem dX13_settlesIn_23 : decode cX13_settlesIn 23 = .ok (.invokevirtual 82, 3) := by decide +kernel
theorem dX13_settlesIn_26 : decode cX13_settlesIn 26 = .ok (.aload_n 0, 1) := by decide +kernel
theorem dX13_settlesIn_27 : decode cX13_settlesIn 27 = .ok (.invokevirtual 58, 3) := by decide +kernel
theorem dX13_settlesIn_30 : decode cX13_settlesIn 30 = .ok (.bipush (-5), 2) := by decide +kernel
theorem dX13_settlesIn_32 : decode cX13_settlesIn 32 = .ok (.iconst 5, 1) := by decide +kernel
theorem dX13_settlesIn_33 : decode cX13_settlesIn 33 = .ok (.invokestatic 54, 3) := by decide +kernel
theorem dX13_settlesIn_36 : decode cX13_settlesIn 36 = .ok (.ifCond .eq 9, 3) := by decide +kernel
theorem dX13_settlesIn_39 : decode cX13_settlesIn 39 = .ok (.iload_n 1, 1) := by decide +kernel
theorem dX13_settlesIn_40 : decode cX13_settlesIn 40 = .ok (.iconst 1, 1) := by decide +kernel
theorem dX13_settlesIn_41 : decode cX13_settlesIn 41 = .ok (.iadd, 1) := by decide +kernel
theorem dX13_settlesIn_42 : decode cX13_settlesIn 42 = .ok (.goto 4, 3) := by decide +kernel
theorem dX13_settlesIn_45 : decode cX13_settlesIn 45 = .ok (.iconst 0, 1) := by decide +kernel
theorem dX13_settlesIn_46 : decode cX13_settlesIn 46 = .ok (.istore_n 1, 1) := by decide +kernel
theorem dX13_settlesIn_47 : decode cX13_settlesIn 47 = .ok (.iinc 2 1, 3) := by decide +kernel
theorem dX13_settlesIn_50 : decode cX13_settlesIn 50 = .ok (.goto (-41), 3) := by decide +kernel
theorem dX13_settlesIn_53 : decode cX13_settlesIn 53 = .ok (.aload_n 0, 1) := by decide +kernel
theorem dX13_settlesIn_54 : decode cX13_settlesIn 54 = .ok (.invokevirtual 136, 3) := by decide +kernel
theorem dX13_settlesIn_57 : decode cX13_settlesIn 57 = .ok (.iload_n 1, 1) := by decide +kernel
theorem dX13_settlesIn_58 : decode cX13_settlesIn 58 = .ok (.bipush 10, 2) := by decide +kernel
theorem dX13_settlesIn_60 : decode cX13_settlesIn 60 = .ok (.if_icmp .ne 7, 3) := by decide +kernel
theorem dX13_settlesIn_63 : decode cX13_settlesIn 63 = .ok (.iload_n 2, 1) := by decide +kernel
theorem dX13_settlesIn_64 : decode cX13_settlesIn 64 = .ok (.goto 6, 3) := by decide +kernel
theorem dX13_settlesIn_67 : decode cX13_settlesIn 67 = .ok (.sipush (-10005), 3) := by decide +kernel
theorem dX13_settlesIn_70 : decode cX13_settlesIn 70 = .ok (.ireturn, 1) := by decide +kernel
theorem dX13_wouldOvershoot_0 : decode cX13_wouldOvershoot 0 = .ok (.iload_n 1, 1) := by decide +kernel
theorem dX13_wouldOvershoot_1 : decode cX13_wouldOvershoot 1 = .ok (.iconst 0, 1) := by decide +kernel
theorem dX13_wouldOvershoot_2 : decode cX13_wouldOvershoot 2 = .ok (.sipush 300, 3) := by decide +kernel
theorem dX13_wouldOvershoot_5 : decode cX13_wouldOvershoot 5 = .ok (.invokestatic 54, 3) := by decide +kernel
theorem dX13_wouldOvershoot_8 : decode cX13_wouldOvershoot 8 = .ok (.ifCond .ne 7, 3) := by decide +kernel
theorem dX13_wouldOvershoot_11 : decode cX13_wouldOvershoot 11 = .ok (.sipush (-10002), 3) := by decide +kernel
theorem dX13_wouldOvershoot_14 : decode cX13_wouldOvershoot 14 = .ok (.ireturn, 1) := by decide +kernel
theorem dX13_wouldOvershoot_15 : decode cX13_wouldOvershoot 15 = .ok (.aload_n 0, 1) := by decide +kernel
theorem dX13_wouldOvershoot_16 : decode cX13_wouldOvershoot 16 = .ok (.iload_n 1, 1) := by decide +kernel
theorem dX13_wouldOvershoot_17 : decode cX13_wouldOvershoot 17 = .ok (.invokevirtual 132, 3) := by decide +kernel
theorem dX13_wouldOvershoot_20 : decode cX13_wouldOvershoot 20 = .ok (.aload_n 0, 1) := by decide +kernel
theorem dX13_wouldOvershoot_21 : decode cX13_wouldOvershoot 21 = .ok (.getfield 7, 3) := by decide +kernel
theorem dX13_wouldOvershoot_24 : decode cX13_wouldOvershoot 24 = .ok (.bipush 13, 2) := by decide +kernel
theorem dX13_wouldOvershoot_26 : decode cX13_wouldOvershoot 26 = .ok (.iaload, 1) := by decide +kernel
theorem dX13_wouldOvershoot_27 : decode cX13_wouldOvershoot 27 = .ok (.istore_n 2, 1) := by decide +kernel
theorem dX13_wouldOvershoot_28 : decode cX13_wouldOvershoot 28 = .ok (.aload_n 0, 1) := by decide +kernel
theorem dX13_wouldOvershoot_29 : decode cX13_wouldOvershoot 29 = .ok (.invokevirtual 136, 3) := by decide +kernel
theorem dX13_wouldOvershoot_32 : decode cX13_wouldOvershoot 32 = .ok (.iload_n 2, 1) := by decide +kernel
theorem dX13_wouldOvershoot_33 : decode cX13_wouldOvershoot 33 = .ok (.ireturn, 1) := by decide +kernel
theorem dX13_logged_0 : decode cX13_logged 0 = .ok (.iload_n 1, 1) := by decide +kernel
theorem dX13_logged_1 : decode cX13_logged 1 = .ok (.iconst 0, 1) := by decide +kernel
theorem dX13_logged_2 : decode cX13_logged 2 = .ok (.aload_n 0, 1) := by decide +kernel
theorem dX13_logged_3 : decode cX13_logged 3 = .ok (.getfield 7, 3) := by decide +kernel
theorem dX13_logged_6 : decode cX13_logged 6 = .ok (.bipush 14, 2) := by decide +kernel
theorem dX13_logged_8 : decode cX13_logged 8 = .ok (.iaload, 1) := by decide +kernel
theorem dX13_logged_9 : decode cX13_logged 9 = .ok (.iconst 1, 1) := by decide +kernel
theorem dX13_logged_10 : decode cX13_logged 10 = .ok (.isub, 1) := by decide +kernel
theorem dX13_logged_11 : decode cX13_logged 11 = .ok (.invokestatic 54, 3) := by decide +kernel
theorem dX13_logged_14 : decode cX13_logged 14 = .ok (.ifCond .ne 7, 3) := by decide +kernel
theorem dX13_logged_17 : decode cX13_logged 17 = .ok (.sipush (-10001), 3) := by decide +kernel
theorem dX13_logged_20 : decode cX13_logged 20 = .ok (.ireturn, 1) := by decide +kernel
theorem dX13_logged_21 : decode cX13_logged 21 = .ok (.iload_n 2, 1) := by decide +kernel
theorem dX13_logged_22 : decode cX13_logged 22 = .ok (.iconst 0, 1) := by decide +kernel
theorem dX13_logged_23 : decode cX13_logged 23 = .ok (.iconst 3, 1) := by decide +kernel
theorem dX13_logged_24 : decode cX13_logged 24 = .ok (.invokestatic 54, 3) := by decide +kernel
theorem dX13_logged_27 : decode cX13_logged 27 = .ok (.ifCond .eq 19, 3) := by decide +kernel
theorem dX13_logged_30 : decode cX13_logged 30 = .ok (.aload_n 0, 1) := by decide +kernel
theorem dX13_logged_31 : decode cX13_logged 31 = .ok (.getfield 7, 3) := by decide +kernel
theorem dX13_logged_34 : decode cX13_logged 34 = .ok (.bipush 123, 2) := by decide +kernel
theorem dX13_logged_36 : decode cX13_logged 36 = .ok (.iconst 4, 1) := by decide +kernel
theorem dX13_logged_37 : decode cX13_logged 37 = .ok (.iload_n 1, 1) := by decide +kernel
theorem dX13_logged_38 : decode cX13_logged 38 = .ok (.imul, 1) := by decide +kernel
theorem dX13_logged_39 : decode cX13_logged 39 = .ok (.iadd, 1) := by decide +kernel
theorem dX13_logged_40 : decode cX13_logged 40 = .ok (.iload_n 2, 1) := by decide +kernel
theorem dX13_logged_41 : decode cX13_logged 41 = .ok (.iadd, 1) := by decide +kernel
theorem dX13_logged_42 : decode cX13_logged 42 = .ok (.iaload, 1) := by decide +kernel
theorem dX13_logged_43 : decode cX13_logged 43 = .ok (.goto 6, 3) := by decide +kernel
theorem dX13_logged_46 : decode cX13_logged 46 = .ok (.sipush (-10002), 3) := by decide +kernel
theorem dX13_logged_49 : decode cX13_logged 49 = .ok (.ireturn, 1) := by decide +kernel
theorem dX13_burnt_0 : decode cX13_burnt 0 = .ok (.aload_n 0, 1) := by decide +kernel
theorem dX13_burnt_1 : decode cX13_burnt 1 = .ok (.getfield 7, 3) := by decide +kernel
theorem dX13_burnt_4 : decode cX13_burnt 4 = .ok (.bipush 16, 2) := by decide +kernel
theorem dX13_burnt_6 : decode cX13_burnt 6 = .ok (.iaload, 1) := by decide +kernel
theorem dX13_burnt_7 : decode cX13_burnt 7 = .ok (.ireturn, 1) := by decide +kernel
theorem dX13_burntAgain_0 : decode cX13_burntAgain 0 = .ok (.iconst 0, 1) := by decide +kernel
theorem dX13_burntAgain_1 : decode cX13_burntAgain 1 = .ok (.istore_n 1, 1) := by decide +kernel
theorem dX13_burntAgain_2 : decode cX13_burntAgain 2 = .ok (.iconst 0, 1) := by decide +kernel
theorem dX13_burntAgain_3 : decode cX13_burntAgain 3 = .ok (.istore_n 2, 1) := by decide +kernel
theorem dX13_burntAgain_4 : decode cX13_burntAgain 4 = .ok (.iload_n 2, 1) := by decide +kernel
theorem dX13_burntAgain_5 : decode cX13_burntAgain 5 = .ok (.bipush 100, 2) := by decide +kernel
theorem dX13_burntAgain_7 : decode cX13_burntAgain 7 = .ok (.if_icmp .gt 23, 3) := by decide +kernel
theorem dX13_burntAgain_10 : decode cX13_burntAgain 10 = .ok (.iload_n 1, 1) := by decide +kernel
theorem dX13_burntAgain_11 : decode cX13_burntAgain 11 = .ok (.iload_n 2, 1) := by decide +kernel
theorem dX13_burntAgain_12 : decode cX13_burntAgain 12 = .ok (.aload_n 0, 1) := by decide +kernel
theorem dX13_burntAgain_13 : decode cX13_burntAgain 13 = .ok (.getfield 7, 3) := by decide +kernel
theorem dX13_burntAgain_16 : decode cX13_burntAgain 16 = .ok (.bipush 22, 2) := by decide +kernel
theorem dX13_burntAgain_18 : decode cX13_burntAgain 18 = .ok (.iload_n 2, 1) := by decide +kernel
theorem dX13_burntAgain_19 : decode cX13_burntAgain 19 = .ok (.iadd, 1) := by decide +kernel
theorem dX13_burntAgain_20 : decode cX13_burntAgain 20 = .ok (.iaload, 1) := by decide +kernel
theorem dX13_burntAgain_21 : decode cX13_burntAgain 21 = .ok (.imul, 1) := by decide +kernel
theorem dX13_burntAgain_22 : decode cX13_burntAgain 22 = .ok (.iadd, 1) := by decide +kernel
theorem dX13_burntAgain_23 : decode cX13_burntAgain 23 = .ok (.istore_n 1, 1) := by decide +kernel
theorem dX13_burntAgain_24 : decode cX13_burntAgain 24 = .ok (.iinc 2 1, 3) := by decide +kernel
theorem dX13_burntAgain_27 : decode cX13_burntAgain 27 = .ok (.goto (-23), 3) := by decide +kernel
theorem dX13_burntAgain_30 : decode cX13_burntAgain 30 = .ok (.iload_n 1, 1) := by decide +kernel
theorem dX13_burntAgain_31 : decode cX13_burntAgain 31 = .ok (.ireturn, 1) := by decide +kernel
theorem dX13_minutesWith_0 : decode cX13_minutesWith 0 = .ok (.iload_n 1, 1) := by decide +kernel
theorem dX13_minutesWith_1 : decode cX13_minutesWith 1 = .ok (.iconst 0, 1) := by decide +kernel
theorem dX13_minutesWith_2 : decode cX13_minutesWith 2 = .ok (.bipush 100, 2) := by decide +kernel
theorem dX13_minutesWith_4 : decode cX13_minutesWith 4 = .ok (.invokestatic 54, 3) := by decide +kernel
theorem dX13_minutesWith_7 : decode cX13_minutesWith 7 = .ok (.ifCond .eq 15, 3) := by decide +kernel
theorem dX13_minutesWith_10 : decode cX13_minutesWith 10 = .ok (.aload_n 0, 1) := by decide +kernel
theorem dX13_minutesWith_11 : decode cX13_minutesWith 11 = .ok (.getfield 7, 3) := by decide +kernel
theorem dX13_minutesWith_14 : decode cX13_minutesWith 14 = .ok (.bipush 22, 2) := by decide +kernel
theorem dX13_minutesWith_16 : decode cX13_minutesWith 16 = .ok (.iload_n 1, 1) := by decide +kernel
theorem dX13_minutesWith_17 : decode cX13_minutesWith 17 = .ok (.iadd, 1) := by decide +kernel
theorem dX13_minutesWith_18 : decode cX13_minutesWith 18 = .ok (.iaload, 1) := by decide +kernel
theorem dX13_minutesWith_19 : decode cX13_minutesWith 19 = .ok (.goto 6, 3) := by decide +kernel
theorem dX13_minutesWith_22 : decode cX13_minutesWith 22 = .ok (.sipush (-10002), 3) := by decide +kernel
theorem dX13_minutesWith_25 : decode cX13_minutesWith 25 = .ok (.ireturn, 1) := by decide +kernel
theorem dX13_append_0 : decode cX13_append 0 = .ok (.iload_n 1, 1) := by decide +kernel
theorem dX13_append_1 : decode cX13_append 1 = .ok (.bipush 32, 2) := by decide +kernel
theorem dX13_append_3 : decode cX13_append 3 = .ok (.bipush 126, 2) := by decide +kernel
theorem dX13_append_5 : decode cX13_append 5 = .ok (.invokestatic 54, 3) := by decide +kernel
theorem dX13_append_8 : decode cX13_append 8 = .ok (.ifCond .ne 7, 3) := by decide +kernel
theorem dX13_append_11 : decode cX13_append 11 = .ok (.sipush (-10002), 3) := by decide +kernel
theorem dX13_append_14 : decode cX13_append 14 = .ok (.ireturn, 1) := by decide +kernel
theorem dX13_append_15 : decode cX13_append 15 = .ok (.aload_n 0, 1) := by decide +kernel
theorem dX13_append_16 : decode cX13_append 16 = .ok (.getfield 146, 3) := by decide +kernel
theorem dX13_append_19 : decode cX13_append 19 = .ok (.bipush 60, 2) := by decide +kernel
theorem dX13_append_21 : decode cX13_append 21 = .ok (.if_icmp .ne 7, 3) := by decide +kernel
theorem dX13_append_24 : decode cX13_append 24 = .ok (.sipush (-10003), 3) := by decide +kernel
theorem dX13_append_27 : decode cX13_append 27 = .ok (.ireturn, 1) := by decide +kernel
theorem dX13_append_28 : decode cX13_append 28 = .ok (.aload_n 0, 1) := by decide +kernel
theorem dX13_append_29 : decode cX13_append 29 = .ok (.getfield 25, 3) := by decide +kernel
theorem dX13_append_32 : decode cX13_append 32 = .ok (.aload_n 0, 1) := by decide +kernel
theorem dX13_append_33 : decode cX13_append 33 = .ok (.getfield 146, 3) := by decide +kernel
theorem dX13_append_36 : decode cX13_append 36 = .ok (.iload_n 1, 1) := by decide +kernel
theorem dX13_append_37 : decode cX13_append 37 = .ok (.iastore, 1) := by decide +kernel
theorem dX13_append_38 : decode cX13_append 38 = .ok (.aload_n 0, 1) := by decide +kernel
theorem dX13_append_39 : decode cX13_append 39 = .ok (.dup, 1) := by decide +kernel
theorem dX13_append_40 : decode cX13_append 40 = .ok (.getfield 146, 3) := by decide +kernel
theorem dX13_append_43 : decode cX13_append 43 = .ok (.iconst 1, 1) := by decide +kernel
theorem dX13_append_44 : decode cX13_append 44 = .ok (.iadd, 1) := by decide +kernel
theorem dX13_append_45 : decode cX13_append 45 = .ok (.putfield 146, 3) := by decide +kernel
theorem dX13_append_48 : decode cX13_append 48 = .ok (.aload_n 0, 1) := by decide +kernel
theorem dX13_append_49 : decode cX13_append 49 = .ok (.getfield 146, 3) := by decide +kernel
theorem dX13_append_52 : decode cX13_append 52 = .ok (.ireturn, 1) := by decide +kernel
theorem dX13_here_0 : decode cX13_here 0 = .ok (.aload_n 0, 1) := by decide +kernel
theorem dX13_here_1 : decode cX13_here 1 = .ok (.getfield 149, 3) := by decide +kernel
theorem dX13_here_4 : decode cX13_here 4 = .ok (.iload_n 1, 1) := by decide +kernel
theorem dX13_here_5 : decode cX13_here 5 = .ok (.iadd, 1) := by decide +kernel
theorem dX13_here_6 : decode cX13_here 6 = .ok (.aload_n 0, 1) := by decide +kernel
theorem dX13_here_7 : decode cX13_here 7 = .ok (.getfield 152, 3) := by decide +kernel
theorem dX13_here_10 : decode cX13_here 10 = .ok (.if_icmp .ge 17, 3) := by decide +kernel
theorem dX13_here_13 : decode cX13_here 13 = .ok (.aload_n 0, 1) := by decide +kernel
theorem dX13_here_14 : decode cX13_here 14 = .ok (.getfield 25, 3) := by decide +kernel
theorem dX13_here_17 : decode cX13_here 17 = .ok (.aload_n 0, 1) := by decide +kernel
theorem dX13_here_18 : decode cX13_here 18 = .ok (.getfield 149, 3) := by decide +kernel
theorem dX13_here_21 : decode cX13_here 21 = .ok (.iload_n 1, 1) := by decide +kernel
theorem dX13_here_22 : decode cX13_here 22 = .ok (.iadd, 1) := by decide +kernel
theorem dX13_here_23 : decode cX13_here 23 = .ok (.iaload, 1) := by decide +kernel
theorem dX13_here_24 : decode cX13_here 24 = .ok (.goto 6, 3) := by decide +kernel
theorem dX13_here_27 : decode cX13_here 27 = .ok (.sipush (-10001), 3) := by decide +kernel
theorem dX13_here_30 : decode cX13_here 30 = .ok (.ireturn, 1) := by decide +kernel
theorem dX13_word_0 : decode cX13_word 0 = .ok (.iconst 0, 1) := by decide +kernel
theorem dX13_word_1 : decode cX13_word 1 = .ok (.istore_n 2, 1) := by decide +kernel
theorem dX13_word_2 : decode cX13_word 2 = .ok (.iload_n 2, 1) := by decide +kernel
theorem dX13_word_3 : decode cX13_word 3 = .ok (.aload_n 1, 1) := by decide +kernel
theorem dX13_word_4 : decode cX13_word 4 = .ok (.invokevirtual 155, 3) := by decide +kernel
theorem dX13_word_7 : decode cX13_word 7 = .ok (.if_icmp .ge 59, 3) := by decide +kernel
theorem dX13_word_10 : decode cX13_word 10 = .ok (.aload_n 0, 1) := by decide +kernel
theorem dX13_word_11 : decode cX13_word 11 = .ok (.getfield 159, 3) := by decide +kernel
theorem dX13_word_14 : decode cX13_word 14 = .ok (.ifCond .ne 52, 3) := by decide +kernel
theorem dX13_word_17 : decode cX13_word 17 = .ok (.aload_n 0, 1) := by decide +kernel
theorem dX13_word_18 : decode cX13_word 18 = .ok (.aload_n 0, 1) := by decide +kernel
theorem dX13_word_19 : decode cX13_word 19 = .ok (.iconst 0, 1) := by decide +kernel
theorem dX13_word_20 : decode cX13_word 20 = .ok (.invokevirtual 163, 3) := by decide +kernel
theorem dX13_word_23 : decode cX13_word 23 = .ok (.aload_n 1, 1) := by decide +kernel
theorem dX13_word_24 : decode cX13_word 24 = .ok (.iload_n 2, 1) := by decide +kernel
theorem dX13_word_25 : decode cX13_word 25 = .ok (.invokevirtual 166, 3) := by decide +kernel
theorem dX13_word_28 : decode cX13_word 28 = .ok (.if_icmp .eq 7, 3) := by decide +kernel
theorem dX13_word_31 : decode cX13_word 31 = .ok (.iconst 1, 1) := by decide +kernel
theorem dX13_word_32 : decode cX13_word 32 = .ok (.goto 4, 3) := by decide +kernel
theorem dX13_word_35 : decode cX13_word 35 = .ok (.iconst 0, 1) := by decide +kernel
theorem dX13_word_36 : decode cX13_word 36 = .ok (.putfield 159, 3) := by decide +kernel
theorem dX13_word_39 : decode cX13_word 39 = .ok (.aload_n 0, 1) := by decide +kernel
theorem dX13_word_40 : decode cX13_word 40 = .ok (.dup, 1) := by decide +kernel
theorem dX13_word_41 : decode cX13_word 41 = .ok (.getfield 149, 3) := by decide +kernel
theorem dX13_word_44 : decode cX13_word 44 = .ok (.aload_n 0, 1) := by decide +kernel
theorem dX13_word_45 : decode cX13_word 45 = .ok (.getfield 159, 3) := by decide +kernel
theorem dX13_word_48 : decode cX13_word 48 = .ok (.ifCond .eq 7, 3) := by decide +kernel
theorem dX13_word_51 : decode cX13_word 51 = .ok (.iconst 0, 1) := by decide +kernel
theorem dX13_word_52 : decode cX13_word 52 = .ok (.goto 4, 3) := by decide +kernel
theorem dX13_word_55 : decode cX13_word 55 = .ok (.iconst 1, 1) := by decide +kernel
theorem dX13_word_56 : decode cX13_word 56 = .ok (.iadd, 1) := by decide +kernel
theorem dX13_word_57 : decode cX13_word 57 = .ok (.putfield 149, 3) := by decide +kernel
theorem dX13_word_60 : decode cX13_word 60 = .ok (.iinc 2 1, 3) := by decide +kernel
theorem dX13_word_63 : decode cX13_word 63 = .ok (.goto (-61), 3) := by decide +kernel
theorem dX13_word_66 : decode cX13_word 66 = .ok (.return_, 1) := by decide +kernel
theorem dX13_number_0 : decode cX13_number 0 = .ok (.aload_n 0, 1) := by decide +kernel
theorem dX13_number_1 : decode cX13_number 1 = .ok (.ldc 170, 2) := by decide +kernel
theorem dX13_number_3 : decode cX13_number 3 = .ok (.invokevirtual 172, 3) := by decide +kernel
theorem dX13_number_6 : decode cX13_number 6 = .ok (.iconst 0, 1) := by decide +kernel
theorem dX13_number_7 : decode cX13_number 7 = .ok (.istore_n 3, 1) := by decide +kernel
theorem dX13_number_8 : decode cX13_number 8 = .ok (.iconst 0, 1) := by decide +kernel
theorem dX13_number_9 : decode cX13_number 9 = .ok (.istore 4, 2) := by decide +kernel
theorem dX13_number_11 : decode cX13_number 11 = .ok (.aload_n 0, 1) := by decide +kernel
theorem dX13_number_12 : decode cX13_number 12 = .ok (.getfield 159, 3) := by decide +kernel
theorem dX13_number_15 : decode cX13_number 15 = .ok (.ifCond .ne 54, 3) := by decide +kernel
theorem dX13_number_18 : decode cX13_number 18 = .ok (.iload 4, 2) := by decide +kernel
theorem dX13_number_20 : decode cX13_number 20 = .ok (.iload_n 2, 1) := by decide +kernel
theorem dX13_number_21 : decode cX13_number 21 = .ok (.if_icmp .ge 48, 3) := by decide +kernel
theorem dX13_number_24 : decode cX13_number 24 = .ok (.aload_n 0, 1) := by decide +kernel
theorem dX13_number_25 : decode cX13_number 25 = .ok (.iconst 0, 1) := by decide +kernel
theorem dX13_number_26 : decode cX13_number 26 = .ok (.invokevirtual 163, 3) := by decide +kernel
theorem dX13_number_29 : decode cX13_number 29 = .ok (.bipush 48, 2) := by decide +kernel
theorem dX13_number_31 : decode cX13_number 31 = .ok (.bipush 57, 2) := by decide +kernel
theorem dX13_number_33 : decode cX13_number 33 = .ok (.invokestatic 54, 3) := by decide +kernel
theorem dX13_number_36 : decode cX13_number 36 = .ok (.ifCond .eq 33, 3) := by decide +kernel
theorem dX13_number_39 : decode cX13_number 39 = .ok (.bipush 10, 2) := by decide +kernel
theorem dX13_number_41 : decode cX13_number 41 = .ok (.iload_n 3, 1) := by decide +kernel
theorem dX13_number_42 : decode cX13_number 42 = .ok (.imul, 1) := by decide +kernel
theorem dX13_number_43 : decode cX13_number 43 = .ok (.aload_n 0, 1) := by decide +kernel
theorem dX13_number_44 : decode cX13_number 44 = .ok (.iconst 0, 1) := by decide +kernel
theorem dX13_number_45 : decode cX13_number 45 = .ok (.invokevirtual 163, 3) := by decide +kernel
theorem dX13_number_48 : decode cX13_number 48 = .ok (.iadd, 1) := by decide +kernel
theorem dX13_number_49 : decode cX13_number 49 = .ok (.bipush 48, 2) := by decide +kernel
theorem dX13_number_51 : decode cX13_number 51 = .ok (.isub, 1) := by decide +kernel
theorem dX13_number_52 : decode cX13_number 52 = .ok (.istore_n 3, 1) := by decide +kernel
theorem dX13_number_53 : decode cX13_number 53 = .ok (.aload_n 0, 1) := by decide +kernel
theorem dX13_number_54 : decode cX13_number 54 = .ok (.dup, 1) := by decide +kernel
theorem dX13_number_55 : decode cX13_number 55 = .ok (.getfield 149, 3) := by decide +kernel
theorem dX13_number_58 : decode cX13_number 58 = .ok (.iconst 1, 1) := by decide +kernel
theorem dX13_number_59 : decode cX13_number 59 = .ok (.iadd, 1) := by decide +kernel
theorem dX13_number_60 : decode cX13_number 60 = .ok (.putfield 149, 3) := by decide +kernel
theorem dX13_number_63 : decode cX13_number 63 = .ok (.iinc 4 1, 3) := by decide +kernel
theorem dX13_number_66 : decode cX13_number 66 = .ok (.goto (-55), 3) := by decide +kernel
theorem dX13_number_69 : decode cX13_number 69 = .ok (.aload_n 0, 1) := by decide +kernel
theorem dX13_number_70 : decode cX13_number 70 = .ok (.aload_n 0, 1) := by decide +kernel
theorem dX13_number_71 : decode cX13_number 71 = .ok (.getfield 159, 3) := by decide +kernel
theorem dX13_number_74 : decode cX13_number 74 = .ok (.ifCond .ne 8, 3) := by decide +kernel
theorem dX13_number_77 : decode cX13_number 77 = .ok (.iload 4, 2) := by decide +kernel
theorem dX13_number_79 : decode cX13_number 79 = .ok (.ifCond .ne 7, 3) := by decide +kernel
theorem dX13_number_82 : decode cX13_number 82 = .ok (.iconst 1, 1) := by decide +kernel
theorem dX13_number_83 : decode cX13_number 83 = .ok (.goto 4, 3) := by decide +kernel
theorem dX13_number_86 : decode cX13_number 86 = .ok (.iconst 0, 1) := by decide +kernel
theorem dX13_number_87 : decode cX13_number 87 = .ok (.putfield 159, 3) := by decide +kernel
theorem dX13_number_90 : decode cX13_number 90 = .ok (.aload_n 0, 1) := by decide +kernel
theorem dX13_number_91 : decode cX13_number 91 = .ok (.getfield 28, 3) := by decide +kernel
theorem dX13_number_94 : decode cX13_number 94 = .ok (.iconst 4, 1) := by decide +kernel
theorem dX13_number_95 : decode cX13_number 95 = .ok (.aload_n 0, 1) := by decide +kernel
theorem dX13_number_96 : decode cX13_number 96 = .ok (.getfield 176, 3) := by decide +kernel
theorem dX13_number_99 : decode cX13_number 99 = .ok (.imul, 1) := by decide +kernel
theorem dX13_number_100 : decode cX13_number 100 = .ok (.iload_n 1, 1) := by decide +kernel
theorem dX13_number_101 : decode cX13_number 101 = .ok (.iadd, 1) := by decide +kernel
theorem dX13_number_102 : decode cX13_number 102 = .ok (.iload_n 3, 1) := by decide +kernel
theorem dX13_number_103 : decode cX13_number 103 = .ok (.iastore, 1) := by decide +kernel
theorem dX13_number_104 : decode cX13_number 104 = .ok (.return_, 1) := by decide +kernel
theorem dX13_reads_0 : decode cX13_reads 0 = .ok (.aload_n 0, 1) := by decide +kernel
theorem dX13_reads_1 : decode cX13_reads 1 = .ok (.aload_n 1, 1) := by decide +kernel
theorem dX13_reads_2 : decode cX13_reads 2 = .ok (.invokevirtual 172, 3) := by decide +kernel
theorem dX13_reads_5 : decode cX13_reads 5 = .ok (.aload_n 0, 1) := by decide +kernel
theorem dX13_reads_6 : decode cX13_reads 6 = .ok (.iconst 1, 1) := by decide +kernel
theorem dX13_reads_7 : decode cX13_reads 7 = .ok (.iload_n 2, 1) := by decide +kernel
theorem dX13_reads_8 : decode cX13_reads 8 = .ok (.invokevirtual 179, 3) := by decide +kernel
theorem dX13_reads_11 : decode cX13_reads 11 = .ok (.return_, 1) := by decide +kernel
theorem dX13_sort_0 : decode cX13_sort 0 = .ok (.aload_n 0, 1) := by decide +kernel
theorem dX13_sort_1 : decode cX13_sort 1 = .ok (.iconst 0, 1) := by decide +kernel
theorem dX13_sort_2 : decode cX13_sort 2 = .ok (.invokevirtual 163, 3) := by decide +kernel
theorem dX13_sort_5 : decode cX13_sort 5 = .ok (.istore_n 1, 1) := by decide +kernel
theorem dX13_sort_6 : decode cX13_sort 6 = .ok (.iload_n 1, 1) := by decide +kernel
theorem dX13_sort_7 : decode cX13_sort 7 = .ok (.bipush 103, 2) := by decide +kernel
theorem dX13_sort_9 : decode cX13_sort 9 = .ok (.if_icmp .ne 21, 3) := by decide +kernel
theorem dX13_sort_12 : decode cX13_sort 12 = .ok (.aload_n 0, 1) := by decide +kernel
theorem dX13_sort_13 : decode cX13_sort 13 = .ok (.iconst 1, 1) := by decide +kernel
theorem dX13_sort_14 : decode cX13_sort 14 = .ok (.invokevirtual 163, 3) := by decide +kernel
theorem dX13_sort_17 : decode cX13_sort 17 = .ok (.bipush 97, 2) := by decide +kernel
theorem dX13_sort_19 : decode cX13_sort 19 = .ok (.if_icmp .ne 8, 3) := by decide +kernel
theorem dX13_sort_22 : decode cX13_sort 22 = .ok (.bipush 110, 2) := by decide +kernel
theorem dX13_sort_24 : decode cX13_sort 24 = .ok (.goto 5, 3) := by decide +kernel
theorem dX13_sort_27 : decode cX13_sort 27 = .ok (.bipush 103, 2) := by decide +kernel
theorem dX13_sort_29 : decode cX13_sort 29 = .ok (.ireturn, 1) := by decide +kernel
theorem dX13_sort_30 : decode cX13_sort 30 = .ok (.iload_n 1, 1) := by decide +kernel
theorem dX13_sort_31 : decode cX13_sort 31 = .ok (.bipush 112, 2) := by decide +kernel
theorem dX13_sort_33 : decode cX13_sort 33 = .ok (.if_icmp .ne 21, 3) := by decide +kernel
theorem dX13_sort_36 : decode cX13_sort 36 = .ok (.aload_n 0, 1) := by decide +kernel
theorem dX13_sort_37 : decode cX13_sort 37 = .ok (.iconst 1, 1) := by decide +kernel
theorem dX13_sort_38 : decode cX13_sort 38 = .ok (.invokevirtual 163, 3) := by decide +kernel
theorem dX13_sort_41 : decode cX13_sort 41 = .ok (.bipush 117, 2) := by decide +kernel
theorem dX13_sort_43 : decode cX13_sort 43 = .ok (.if_icmp .ne 8, 3) := by decide +kernel
theorem dX13_sort_46 : decode cX13_sort 46 = .ok (.bipush 117, 2) := by decide +kernel
theorem dX13_sort_48 : decode cX13_sort 48 = .ok (.goto 5, 3) := by decide +kernel
theorem dX13_sort_51 : decode cX13_sort 51 = .ok (.bipush 112, 2) := by decide +kernel
theorem dX13_sort_53 : decode cX13_sort 53 = .ok (.ireturn, 1) := by decide +kernel
theorem dX13_sort_54 : decode cX13_sort 54 = .ok (.iload_n 1, 1) := by decide +kernel
theorem dX13_sort_55 : decode cX13_sort 55 = .ok (.ireturn, 1) := by decide +kernel
theorem dX13_readsOne_0 : decode cX13_readsOne 0 = .ok (.aload_n 0, 1) := by decide +kernel
theorem dX13_readsOne_1 : decode cX13_readsOne 1 = .ok (.invokevirtual 182, 3) := by decide +kernel
theorem dX13_readsOne_4 : decode cX13_readsOne 4 = .ok (.istore_n 1, 1) := by decide +kernel
theorem dX13_readsOne_5 : decode cX13_readsOne 5 = .ok (.aload_n 0, 1) := by decide +kernel
theorem dX13_readsOne_6 : decode cX13_readsOne 6 = .ok (.getfield 28, 3) := by decide +kernel
theorem dX13_readsOne_9 : decode cX13_readsOne 9 = .ok (.iconst 4, 1) := by decide +kernel
theorem dX13_readsOne_10 : decode cX13_readsOne 10 = .ok (.aload_n 0, 1) := by decide +kernel
theorem dX13_readsOne_11 : decode cX13_readsOne 11 = .ok (.getfield 176, 3) := by decide +kernel
theorem dX13_readsOne_14 : decode cX13_readsOne 14 = .ok (.imul, 1) := by decide +kernel
theorem dX13_readsOne_15 : decode cX13_readsOne 15 = .ok (.iload_n 1, 1) := by decide +kernel
theorem dX13_readsOne_16 : decode cX13_readsOne 16 = .ok (.iastore, 1) := by decide +kernel
theorem dX13_readsOne_17 : decode cX13_readsOne 17 = .ok (.iload_n 1, 1) := by decide +kernel
theorem dX13_readsOne_18 : decode cX13_readsOne 18 = .ok (.tableswitch 212 97 117 #[98, 212, 130, 212, 212, 192, 202, 212, 212, 212, 212, 140, 212, 108, 212, 150, 212, 212, 212, 182, 172], 98) := by decide +kernel
theorem dX13_readsOne_116 : decode cX13_readsOne 116 = .ok (.aload_n 0, 1) := by decide +kernel
theorem dX13_readsOne_117 : decode cX13_readsOne 117 = .ok (.ldc 185, 2) := by decide +kernel
theorem dX13_readsOne_119 : decode cX13_readsOne 119 = .ok (.iconst 4, 1) := by decide +kernel
theorem dX13_readsOne_120 : decode cX13_readsOne 120 = .ok (.invokevirtual 187, 3) := by decide +kernel
theorem dX13_readsOne_123 : decode cX13_readsOne 123 = .ok (.goto 112, 3) := by decide +kernel
theorem dX13_readsOne_126 : decode cX13_readsOne 126 = .ok (.aload_n 0, 1) := by decide +kernel
theorem dX13_readsOne_127 : decode cX13_readsOne 127 = .ok (.ldc 191, 2) := by decide +kernel
theorem dX13_readsOne_129 : decode cX13_readsOne 129 = .ok (.iconst 2, 1) := by decide +kernel
theorem dX13_readsOne_130 : decode cX13_readsOne 130 = .ok (.invokevirtual 187, 3) := by decide +kernel
theorem dX13_readsOne_133 : decode cX13_readsOne 133 = .ok (.aload_n 0, 1) := by decide +kernel
theorem dX13_readsOne_134 : decode cX13_readsOne 134 = .ok (.iconst 2, 1) := by decide +kernel
theorem dX13_readsOne_135 : decode cX13_readsOne 135 = .ok (.iconst 2, 1) := by decide +kernel
theorem dX13_readsOne_136 : decode cX13_readsOne 136 = .ok (.invokevirtual 179, 3) := by decide +kernel
theorem dX13_readsOne_139 : decode cX13_readsOne 139 = .ok (.aload_n 0, 1) := by decide +kernel
theorem dX13_readsOne_140 : decode cX13_readsOne 140 = .ok (.iconst 3, 1) := by decide +kernel
theorem dX13_readsOne_141 : decode cX13_readsOne 141 = .ok (.iconst 2, 1) := by decide +kernel
theorem dX13_readsOne_142 : decode cX13_readsOne 142 = .ok (.invokevirtual 179, 3) := by decide +kernel
theorem dX13_readsOne_145 : decode cX13_readsOne 145 = .ok (.goto 90, 3) := by decide +kernel
theorem dX13_readsOne_148 : decode cX13_readsOne 148 = .ok (.aload_n 0, 1) := by decide +kernel
theorem dX13_readsOne_149 : decode cX13_readsOne 149 = .ok (.ldc 193, 2) := by decide +kernel
theorem dX13_readsOne_151 : decode cX13_readsOne 151 = .ok (.iconst 4, 1) := by decide +kernel
theorem dX13_readsOne_152 : decode cX13_readsOne 152 = .ok (.invokevirtual 187, 3) := by decide +kernel
theorem dX13_readsOne_155 : decode cX13_readsOne 155 = .ok (.goto 80, 3) := by decide +kernel
theorem dX13_readsOne_158 : decode cX13_readsOne 158 = .ok (.aload_n 0, 1) := by decide +kernel
theorem dX13_readsOne_159 : decode cX13_readsOne 159 = .ok (.ldc 195, 2) := by decide +kernel
theorem dX13_readsOne_161 : decode cX13_readsOne 161 = .ok (.iconst 1, 1) := by decide +kernel
theorem dX13_readsOne_162 : decode cX13_readsOne 162 = .ok (.invokevirtual 187, 3) := by decide +kernel
theorem dX13_readsOne_165 : decode cX13_readsOne 165 = .ok (.goto 70, 3) := by decide +kernel
theorem dX13_readsOne_168 : decode cX13_readsOne 168 = .ok (.aload_n 0, 1) := by decide +kernel
theorem dX13_readsOne_169 : decode cX13_readsOne 169 = .ok (.ldc 197, 2) := by decide +kernel
theorem dX13_readsOne_171 : decode cX13_readsOne 171 = .ok (.iconst 2, 1) := by decide +kernel
theorem dX13_readsOne_172 : decode cX13_readsOne 172 = .ok (.invokevirtual 187, 3) := by decide +kernel
theorem dX13_readsOne_175 : decode cX13_readsOne 175 = .ok (.aload_n 0, 1) := by decide +kernel
theorem dX13_readsOne_176 : decode cX13_readsOne 176 = .ok (.iconst 2, 1) := by decide +kernel
theorem dX13_readsOne_177 : decode cX13_readsOne 177 = .ok (.iconst 4, 1) := by decide +kernel
theorem dX13_readsOne_178 : decode cX13_readsOne 178 = .ok (.invokevirtual 179, 3) := by decide +kernel
theorem dX13_readsOne_181 : decode cX13_readsOne 181 = .ok (.aload_n 0, 1) := by decide +kernel
theorem dX13_readsOne_182 : decode cX13_readsOne 182 = .ok (.iconst 3, 1) := by decide +kernel
theorem dX13_readsOne_183 : decode cX13_readsOne 183 = .ok (.iconst 2, 1) := by decide +kernel
theorem dX13_readsOne_184 : decode cX13_readsOne 184 = .ok (.invokevirtual 179, 3) := by decide +kernel
theorem dX13_readsOne_187 : decode cX13_readsOne 187 = .ok (.goto 48, 3) := by decide +kernel
theorem dX13_readsOne_190 : decode cX13_readsOne 190 = .ok (.aload_n 0, 1) := by decide +kernel
theorem dX13_readsOne_191 : decode cX13_readsOne 191 = .ok (.ldc 199, 2) := by decide +kernel
theorem dX13_readsOne_193 : decode cX13_readsOne 193 = .ok (.iconst 1, 1) := by decide +kernel
theorem dX13_readsOne_194 : decode cX13_readsOne 194 = .ok (.invokevirtual 187, 3) := by decide +kernel
theorem dX13_readsOne_197 : decode cX13_readsOne 197 = .ok (.goto 38, 3) := by decide +kernel
theorem dX13_readsOne_200 : decode cX13_readsOne 200 = .ok (.aload_n 0, 1) := by decide +kernel
theorem dX13_readsOne_201 : decode cX13_readsOne 201 = .ok (.ldc 201, 2) := by decide +kernel
theorem dX13_readsOne_203 : decode cX13_readsOne 203 = .ok (.iconst 1, 1) := by decide +kernel
theorem dX13_readsOne_204 : decode cX13_readsOne 204 = .ok (.invokevirtual 187, 3) := by decide +kernel
theorem dX13_readsOne_207 : decode cX13_readsOne 207 = .ok (.goto 28, 3) := by decide +kernel
theorem dX13_readsOne_210 : decode cX13_readsOne 210 = .ok (.aload_n 0, 1) := by decide +kernel
theorem dX13_readsOne_211 : decode cX13_readsOne 211 = .ok (.ldc 203, 2) := by decide +kernel
theorem dX13_readsOne_213 : decode cX13_readsOne 213 = .ok (.iconst 4, 1) := by decide +kernel
theorem dX13_readsOne_214 : decode cX13_readsOne 214 = .ok (.invokevirtual 187, 3) := by decide +kernel
theorem dX13_readsOne_217 : decode cX13_readsOne 217 = .ok (.goto 18, 3) := by decide +kernel
theorem dX13_readsOne_220 : decode cX13_readsOne 220 = .ok (.aload_n 0, 1) := by decide +kernel
theorem dX13_readsOne_221 : decode cX13_readsOne 221 = .ok (.ldc 205, 2) := by decide +kernel
theorem dX13_readsOne_223 : decode cX13_readsOne 223 = .ok (.iconst 3, 1) := by decide +kernel
theorem dX13_readsOne_224 : decode cX13_readsOne 224 = .ok (.invokevirtual 187, 3) := by decide +kernel
theorem dX13_readsOne_227 : decode cX13_readsOne 227 = .ok (.goto 8, 3) := by decide +kernel
theorem dX13_readsOne_230 : decode cX13_readsOne 230 = .ok (.aload_n 0, 1) := by decide +kernel
theorem dX13_readsOne_231 : decode cX13_readsOne 231 = .ok (.iconst 1, 1) := by decide +kernel
theorem dX13_readsOne_232 : decode cX13_readsOne 232 = .ok (.putfield 159, 3) := by decide +kernel
theorem dX13_readsOne_235 : decode cX13_readsOne 235 = .ok (.aload_n 0, 1) := by decide +kernel
theorem dX13_readsOne_236 : decode cX13_readsOne 236 = .ok (.dup, 1) := by decide +kernel
theorem dX13_readsOne_237 : decode cX13_readsOne 237 = .ok (.getfield 176, 3) := by decide +kernel
theorem dX13_readsOne_240 : decode cX13_readsOne 240 = .ok (.iconst 1, 1) := by decide +kernel
theorem dX13_readsOne_241 : decode cX13_readsOne 241 = .ok (.iadd, 1) := by decide +kernel
theorem dX13_readsOne_242 : decode cX13_readsOne 242 = .ok (.putfield 176, 3) := by decide +kernel
theorem dX13_readsOne_245 : decode cX13_readsOne 245 = .ok (.return_, 1) := by decide +kernel
theorem dX13_does_0 : decode cX13_does 0 = .ok (.aload_n 0, 1) := by decide +kernel
theorem dX13_does_1 : decode cX13_does 1 = .ok (.getfield 28, 3) := by decide +kernel
theorem dX13_does_4 : decode cX13_does 4 = .ok (.iconst 4, 1) := by decide +kernel
theorem dX13_does_5 : decode cX13_does 5 = .ok (.iload_n 1, 1) := by decide +kernel
theorem dX13_does_6 : decode cX13_does 6 = .ok (.imul, 1) := by decide +kernel
theorem dX13_does_7 : decode cX13_does 7 = .ok (.iconst 1, 1) := by decide +kernel
theorem dX13_does_8 : decode cX13_does 8 = .ok (.iadd, 1) := by decide +kernel
theorem dX13_does_9 : decode cX13_does 9 = .ok (.iaload, 1) := by decide +kernel
theorem dX13_does_10 : decode cX13_does 10 = .ok (.istore_n 2, 1) := by decide +kernel
theorem dX13_does_11 : decode cX13_does 11 = .ok (.aload_n 0, 1) := by decide +kernel
theorem dX13_does_12 : decode cX13_does 12 = .ok (.getfield 28, 3) := by decide +kernel
theorem dX13_does_15 : decode cX13_does 15 = .ok (.iconst 4, 1) := by decide +kernel
theorem dX13_does_16 : decode cX13_does 16 = .ok (.iload_n 1, 1) := by decide +kernel
theorem dX13_does_17 : decode cX13_does 17 = .ok (.imul, 1) := by decide +kernel
theorem dX13_does_18 : decode cX13_does 18 = .ok (.iconst 2, 1) := by decide +kernel
theorem dX13_does_19 : decode cX13_does 19 = .ok (.iadd, 1) := by decide +kernel
theorem dX13_does_20 : decode cX13_does 20 = .ok (.iaload, 1) := by decide +kernel
theorem dX13_does_21 : decode cX13_does 21 = .ok (.istore_n 3, 1) := by decide +kernel
theorem dX13_does_22 : decode cX13_does 22 = .ok (.aload_n 0, 1) := by decide +kernel
theorem dX13_does_23 : decode cX13_does 23 = .ok (.getfield 28, 3) := by decide +kernel
theorem dX13_does_26 : decode cX13_does 26 = .ok (.iconst 4, 1) := by decide +kernel
theorem dX13_does_27 : decode cX13_does 27 = .ok (.iload_n 1, 1) := by decide +kernel
theorem dX13_does_28 : decode cX13_does 28 = .ok (.imul, 1) := by decide +kernel
theorem dX13_does_29 : decode cX13_does 29 = .ok (.iconst 3, 1) := by decide +kernel
theorem dX13_does_30 : decode cX13_does 30 = .ok (.iadd, 1) := by decide +kernel
theorem dX13_does_31 : decode cX13_does 31 = .ok (.iaload, 1) := by decide +kernel
theorem dX13_does_32 : decode cX13_does 32 = .ok (.istore 4, 2) := by decide +kernel
theorem dX13_does_34 : decode cX13_does 34 = .ok (.aload_n 0, 1) := by decide +kernel
theorem dX13_does_35 : decode cX13_does 35 = .ok (.getfield 28, 3) := by decide +kernel
theorem dX13_does_38 : decode cX13_does 38 = .ok (.iconst 4, 1) := by decide +kernel
theorem dX13_does_39 : decode cX13_does 39 = .ok (.iload_n 1, 1) := by decide +kernel
theorem dX13_does_40 : decode cX13_does 40 = .ok (.imul, 1) := by decide +kernel
theorem dX13_does_41 : decode cX13_does 41 = .ok (.iaload, 1) := by decide +kernel
theorem dX13_does_42 : decode cX13_does 42 = .ok (.tableswitch 152 97 117 #[98, 152, 113, 152, 152, 146, 152, 152, 152, 152, 152, 119, 152, 104, 152, 125, 152, 152, 152, 140, 134], 98) := by decide +kernel
theorem dX13_does_140 : decode cX13_does 140 = .ok (.aload_n 0, 1) := by decide +kernel
theorem dX13_does_141 : decode cX13_does 141 = .ok (.iload_n 2, 1) := by decide +kernel
theorem dX13_does_142 : decode cX13_does 142 = .ok (.invokevirtual 102, 3) := by decide +kernel
theorem dX13_does_145 : decode cX13_does 145 = .ok (.ireturn, 1) := by decide +kernel
theorem dX13_does_146 : decode cX13_does 146 = .ok (.aload_n 0, 1) := by decide +kernel
theorem dX13_does_147 : decode cX13_does 147 = .ok (.iload_n 2, 1) := by decide +kernel
theorem dX13_does_148 : decode cX13_does 148 = .ok (.iload_n 3, 1) := by decide +kernel
theorem dX13_does_149 : decode cX13_does 149 = .ok (.iload 4, 2) := by decide +kernel
theorem dX13_does_151 : decode cX13_does 151 = .ok (.invokevirtual 108, 3) := by decide +kernel
theorem dX13_does_154 : decode cX13_does 154 = .ok (.ireturn, 1) := by decide +kernel
theorem dX13_does_155 : decode cX13_does 155 = .ok (.aload_n 0, 1) := by decide +kernel
theorem dX13_does_156 : decode cX13_does 156 = .ok (.iload_n 2, 1) := by decide +kernel
theorem dX13_does_157 : decode cX13_does 157 = .ok (.invokevirtual 111, 3) := by decide +kernel
theorem dX13_does_160 : decode cX13_does 160 = .ok (.ireturn, 1) := by decide +kernel
theorem dX13_does_161 : decode cX13_does 161 = .ok (.aload_n 0, 1) := by decide +kernel
theorem dX13_does_162 : decode cX13_does 162 = .ok (.iload_n 2, 1) := by decide +kernel
theorem dX13_does_163 : decode cX13_does 163 = .ok (.invokevirtual 114, 3) := by decide +kernel
theorem dX13_does_166 : decode cX13_does 166 = .ok (.ireturn, 1) := by decide +kernel
theorem dX13_does_167 : decode cX13_does 167 = .ok (.aload_n 0, 1) := by decide +kernel
theorem dX13_does_168 : decode cX13_does 168 = .ok (.iload_n 2, 1) := by decide +kernel
theorem dX13_does_169 : decode cX13_does 169 = .ok (.iload_n 3, 1) := by decide +kernel
theorem dX13_does_170 : decode cX13_does 170 = .ok (.iload 4, 2) := by decide +kernel
theorem dX13_does_172 : decode cX13_does 172 = .ok (.invokevirtual 123, 3) := by decide +kernel
theorem dX13_does_175 : decode cX13_does 175 = .ok (.ireturn, 1) := by decide +kernel
theorem dX13_does_176 : decode cX13_does 176 = .ok (.aload_n 0, 1) := by decide +kernel
theorem dX13_does_177 : decode cX13_does 177 = .ok (.iload_n 2, 1) := by decide +kernel
theorem dX13_does_178 : decode cX13_does 178 = .ok (.invokevirtual 126, 3) := by decide +kernel
theorem dX13_does_181 : decode cX13_does 181 = .ok (.ireturn, 1) := by decide +kernel
theorem dX13_does_182 : decode cX13_does 182 = .ok (.aload_n 0, 1) := by decide +kernel
theorem dX13_does_183 : decode cX13_does 183 = .ok (.iload_n 2, 1) := by decide +kernel
theorem dX13_does_184 : decode cX13_does 184 = .ok (.invokevirtual 129, 3) := by decide +kernel
theorem dX13_does_187 : decode cX13_does 187 = .ok (.ireturn, 1) := by decide +kernel
theorem dX13_does_188 : decode cX13_does 188 = .ok (.aload_n 0, 1) := by decide +kernel
theorem dX13_does_189 : decode cX13_does 189 = .ok (.iload_n 2, 1) := by decide +kernel
theorem dX13_does_190 : decode cX13_does 190 = .ok (.invokevirtual 117, 3) := by decide +kernel
theorem dX13_does_193 : decode cX13_does 193 = .ok (.ireturn, 1) := by decide +kernel
theorem dX13_does_194 : decode cX13_does 194 = .ok (.aload_n 0, 1) := by decide +kernel
theorem dX13_does_195 : decode cX13_does 195 = .ok (.iload_n 2, 1) := by decide +kernel
theorem dX13_does_196 : decode cX13_does 196 = .ok (.invokevirtual 120, 3) := by decide +kernel
theorem dX13_does_199 : decode cX13_does 199 = .ok (.ireturn, 1) := by decide +kernel
theorem dX13_run_0 : decode cX13_run 0 = .ok (.aload_n 0, 1) := by decide +kernel
theorem dX13_run_1 : decode cX13_run 1 = .ok (.invokevirtual 99, 3) := by decide +kernel
theorem dX13_run_4 : decode cX13_run 4 = .ok (.aload_n 0, 1) := by decide +kernel
theorem dX13_run_5 : decode cX13_run 5 = .ok (.iconst 0, 1) := by decide +kernel
theorem dX13_run_6 : decode cX13_run 6 = .ok (.putfield 149, 3) := by decide +kernel
theorem dX13_run_9 : decode cX13_run 9 = .ok (.aload_n 0, 1) := by decide +kernel
theorem dX13_run_10 : decode cX13_run 10 = .ok (.aload_n 0, 1) := by decide +kernel
theorem dX13_run_11 : decode cX13_run 11 = .ok (.getfield 146, 3) := by decide +kernel
theorem dX13_run_14 : decode cX13_run 14 = .ok (.putfield 152, 3) := by decide +kernel
theorem dX13_run_17 : decode cX13_run 17 = .ok (.aload_n 0, 1) := by decide +kernel
theorem dX13_run_18 : decode cX13_run 18 = .ok (.iconst 0, 1) := by decide +kernel
theorem dX13_run_19 : decode cX13_run 19 = .ok (.putfield 146, 3) := by decide +kernel
theorem dX13_run_22 : decode cX13_run 22 = .ok (.aload_n 0, 1) := by decide +kernel
theorem dX13_run_23 : decode cX13_run 23 = .ok (.iconst 0, 1) := by decide +kernel
theorem dX13_run_24 : decode cX13_run 24 = .ok (.putfield 176, 3) := by decide +kernel
theorem dX13_run_27 : decode cX13_run 27 = .ok (.aload_n 0, 1) := by decide +kernel
theorem dX13_run_28 : decode cX13_run 28 = .ok (.iconst 0, 1) := by decide +kernel
theorem dX13_run_29 : decode cX13_run 29 = .ok (.putfield 159, 3) := by decide +kernel
theorem dX13_run_32 : decode cX13_run 32 = .ok (.aload_n 0, 1) := by decide +kernel
theorem dX13_run_33 : decode cX13_run 33 = .ok (.invokevirtual 207, 3) := by decide +kernel
theorem dX13_run_36 : decode cX13_run 36 = .ok (.aload_n 0, 1) := by decide +kernel
theorem dX13_run_37 : decode cX13_run 37 = .ok (.getfield 159, 3) := by decide +kernel
theorem dX13_run_40 : decode cX13_run 40 = .ok (.ifCond .ne 30, 3) := by decide +kernel
theorem dX13_run_43 : decode cX13_run 43 = .ok (.aload_n 0, 1) := by decide +kernel
theorem dX13_run_44 : decode cX13_run 44 = .ok (.iconst 0, 1) := by decide +kernel
theorem dX13_run_45 : decode cX13_run 45 = .ok (.invokevirtual 163, 3) := by decide +kernel
theorem dX13_run_48 : decode cX13_run 48 = .ok (.bipush 59, 2) := by decide +kernel
theorem dX13_run_50 : decode cX13_run 50 = .ok (.if_icmp .ne 20, 3) := by decide +kernel
theorem dX13_run_53 : decode cX13_run 53 = .ok (.aload_n 0, 1) := by decide +kernel
theorem dX13_run_54 : decode cX13_run 54 = .ok (.dup, 1) := by decide +kernel
theorem dX13_run_55 : decode cX13_run 55 = .ok (.getfield 149, 3) := by decide +kernel
theorem dX13_run_58 : decode cX13_run 58 = .ok (.iconst 1, 1) := by decide +kernel
theorem dX13_run_59 : decode cX13_run 59 = .ok (.iadd, 1) := by decide +kernel
theorem dX13_run_60 : decode cX13_run 60 = .ok (.putfield 149, 3) := by decide +kernel
theorem dX13_run_63 : decode cX13_run 63 = .ok (.aload_n 0, 1) := by decide +kernel
theorem dX13_run_64 : decode cX13_run 64 = .ok (.invokevirtual 207, 3) := by decide +kernel
theorem dX13_run_67 : decode cX13_run 67 = .ok (.goto (-31), 3) := by decide +kernel
theorem dX13_run_70 : decode cX13_run 70 = .ok (.aload_n 0, 1) := by decide +kernel
theorem dX13_run_71 : decode cX13_run 71 = .ok (.getfield 159, 3) := by decide +kernel
theorem dX13_run_74 : decode cX13_run 74 = .ok (.ifCond .ne 14, 3) := by decide +kernel
theorem dX13_run_77 : decode cX13_run 77 = .ok (.aload_n 0, 1) := by decide +kernel
theorem dX13_run_78 : decode cX13_run 78 = .ok (.getfield 149, 3) := by decide +kernel
theorem dX13_run_81 : decode cX13_run 81 = .ok (.aload_n 0, 1) := by decide +kernel
theorem dX13_run_82 : decode cX13_run 82 = .ok (.getfield 152, 3) := by decide +kernel
theorem dX13_run_85 : decode cX13_run 85 = .ok (.if_icmp .ge 12, 3) := by decide +kernel
theorem dX13_run_88 : decode cX13_run 88 = .ok (.sipush (-20000), 3) := by decide +kernel
theorem dX13_run_91 : decode cX13_run 91 = .ok (.aload_n 0, 1) := by decide +kernel
theorem dX13_run_92 : decode cX13_run 92 = .ok (.getfield 149, 3) := by decide +kernel
theorem dX13_run_95 : decode cX13_run 95 = .ok (.isub, 1) := by decide +kernel
theorem dX13_run_96 : decode cX13_run 96 = .ok (.ireturn, 1) := by decide +kernel
theorem dX13_run_97 : decode cX13_run 97 = .ok (.iconst 0, 1) := by decide +kernel
theorem dX13_run_98 : decode cX13_run 98 = .ok (.istore_n 1, 1) := by decide +kernel
theorem dX13_run_99 : decode cX13_run 99 = .ok (.iload_n 1, 1) := by decide +kernel
theorem dX13_run_100 : decode cX13_run 100 = .ok (.aload_n 0, 1) := by decide +kernel
theorem dX13_run_101 : decode cX13_run 101 = .ok (.getfield 176, 3) := by decide +kernel
theorem dX13_run_104 : decode cX13_run 104 = .ok (.if_icmp .ge 59, 3) := by decide +kernel
theorem dX13_run_107 : decode cX13_run 107 = .ok (.aload_n 0, 1) := by decide +kernel
theorem dX13_run_108 : decode cX13_run 108 = .ok (.iload_n 1, 1) := by decide +kernel
theorem dX13_run_109 : decode cX13_run 109 = .ok (.invokevirtual 210, 3) := by decide +kernel
theorem dX13_run_112 : decode cX13_run 112 = .ok (.ifCond .ne 6, 3) := by decide +kernel
theorem dX13_run_115 : decode cX13_run 115 = .ok (.goto 42, 3) := by decide +kernel
theorem dX13_run_118 : decode cX13_run 118 = .ok (.iconst 0, 1) := by decide +kernel
theorem dX13_run_119 : decode cX13_run 119 = .ok (.istore_n 2, 1) := by decide +kernel
theorem dX13_run_120 : decode cX13_run 120 = .ok (.iload_n 2, 1) := by decide +kernel
theorem dX13_run_121 : decode cX13_run 121 = .ok (.sipush 227, 3) := by decide +kernel
theorem dX13_run_124 : decode cX13_run 124 = .ok (.if_icmp .ge 21, 3) := by decide +kernel
theorem dX13_run_127 : decode cX13_run 127 = .ok (.aload_n 0, 1) := by decide +kernel
theorem dX13_run_128 : decode cX13_run 128 = .ok (.getfield 7, 3) := by decide +kernel
theorem dX13_run_131 : decode cX13_run 131 = .ok (.iload_n 2, 1) := by decide +kernel
theorem dX13_run_132 : decode cX13_run 132 = .ok (.aload_n 0, 1) := by decide +kernel
theorem dX13_run_133 : decode cX13_run 133 = .ok (.getfield 13, 3) := by decide +kernel
theorem dX13_run_136 : decode cX13_run 136 = .ok (.iload_n 2, 1) := by decide +kernel
theorem dX13_run_137 : decode cX13_run 137 = .ok (.iaload, 1) := by decide +kernel
theorem dX13_run_138 : decode cX13_run 138 = .ok (.iastore, 1) := by decide +kernel
theorem dX13_run_139 : decode cX13_run 139 = .ok (.iinc 2 1, 3) := by decide +kernel
theorem dX13_run_142 : decode cX13_run 142 = .ok (.goto (-22), 3) := by decide +kernel
theorem dX13_run_145 : decode cX13_run 145 = .ok (.aload_n 0, 1) := by decide +kernel
theorem dX13_run_146 : decode cX13_run 146 = .ok (.aload_n 0, 1) := by decide +kernel
theorem dX13_run_147 : decode cX13_run 147 = .ok (.bipush 6, 2) := by decide +kernel
theorem dX13_run_149 : decode cX13_run 149 = .ok (.iload_n 1, 1) := by decide +kernel
theorem dX13_run_150 : decode cX13_run 150 = .ok (.invokevirtual 85, 3) := by decide +kernel
theorem dX13_run_153 : decode cX13_run 153 = .ok (.invokevirtual 105, 3) := by decide +kernel
theorem dX13_run_156 : decode cX13_run 156 = .ok (.ireturn, 1) := by decide +kernel
theorem dX13_run_157 : decode cX13_run 157 = .ok (.iinc 1 1, 3) := by decide +kernel
theorem dX13_run_160 : decode cX13_run 160 = .ok (.goto (-61), 3) := by decide +kernel
theorem dX13_run_163 : decode cX13_run 163 = .ok (.aload_n 0, 1) := by decide +kernel
theorem dX13_run_164 : decode cX13_run 164 = .ok (.aload_n 0, 1) := by decide +kernel
theorem dX13_run_165 : decode cX13_run 165 = .ok (.getfield 176, 3) := by decide +kernel
theorem dX13_run_168 : decode cX13_run 168 = .ok (.invokevirtual 44, 3) := by decide +kernel
theorem dX13_run_171 : decode cX13_run 171 = .ok (.ireturn, 1) := by decide +kernel
theorem dX13_writes_0 : decode cX13_writes 0 = .ok (.aload_n 0, 1) := by decide +kernel
theorem dX13_writes_1 : decode cX13_writes 1 = .ok (.getfield 31, 3) := by decide +kernel
theorem dX13_writes_4 : decode cX13_writes 4 = .ok (.aload_n 0, 1) := by decide +kernel
theorem dX13_writes_5 : decode cX13_writes 5 = .ok (.getfield 213, 3) := by decide +kernel
theorem dX13_writes_8 : decode cX13_writes 8 = .ok (.iload_n 1, 1) := by decide +kernel
theorem dX13_writes_9 : decode cX13_writes 9 = .ok (.iastore, 1) := by decide +kernel
theorem dX13_writes_10 : decode cX13_writes 10 = .ok (.aload_n 0, 1) := by decide +kernel
theorem dX13_writes_11 : decode cX13_writes 11 = .ok (.dup, 1) := by decide +kernel
theorem dX13_writes_12 : decode cX13_writes 12 = .ok (.getfield 213, 3) := by decide +kernel
theorem dX13_writes_15 : decode cX13_writes 15 = .ok (.iconst 1, 1) := by decide +kernel
theorem dX13_writes_16 : decode cX13_writes 16 = .ok (.iadd, 1) := by decide +kernel
theorem dX13_writes_17 : decode cX13_writes 17 = .ok (.putfield 213, 3) := by decide +kernel
theorem dX13_writes_20 : decode cX13_writes 20 = .ok (.return_, 1) := by decide +kernel
theorem dX13_writesNumber_0 : decode cX13_writesNumber 0 = .ok (.iconst 1, 1) := by decide +kernel
theorem dX13_writesNumber_1 : decode cX13_writesNumber 1 = .ok (.istore_n 2, 1) := by decide +kernel
theorem dX13_writesNumber_2 : decode cX13_writesNumber 2 = .ok (.iload_n 1, 1) := by decide +kernel
theorem dX13_writesNumber_3 : decode cX13_writesNumber 3 = .ok (.iload_n 2, 1) := by decide +kernel
theorem dX13_writesNumber_4 : decode cX13_writesNumber 4 = .ok (.idiv, 1) := by decide +kernel
theorem dX13_writesNumber_5 : decode cX13_writesNumber 5 = .ok (.bipush 9, 2) := by decide +kernel
theorem dX13_writesNumber_7 : decode cX13_writesNumber 7 = .ok (.if_icmp .le 11, 3) := by decide +kernel
theorem dX13_writesNumber_10 : decode cX13_writesNumber 10 = .ok (.iload_n 2, 1) := by decide +kernel
theorem dX13_writesNumber_11 : decode cX13_writesNumber 11 = .ok (.bipush 10, 2) := by decide +kernel
theorem dX13_writesNumber_13 : decode cX13_writesNumber 13 = .ok (.imul, 1) := by decide +kernel
theorem dX13_writesNumber_14 : decode cX13_writesNumber 14 = .ok (.istore_n 2, 1) := by decide +kernel
theorem dX13_writesNumber_15 : decode cX13_writesNumber 15 = .ok (.goto (-13), 3) := by decide +kernel
theorem dX13_writesNumber_18 : decode cX13_writesNumber 18 = .ok (.iload_n 2, 1) := by decide +kernel
theorem dX13_writesNumber_19 : decode cX13_writesNumber 19 = .ok (.istore_n 3, 1) := by decide +kernel
theorem dX13_writesNumber_20 : decode cX13_writesNumber 20 = .ok (.iload_n 3, 1) := by decide +kernel
theorem dX13_writesNumber_21 : decode cX13_writesNumber 21 = .ok (.ifCond .le 24, 3) := by decide +kernel
theorem dX13_writesNumber_24 : decode cX13_writesNumber 24 = .ok (.aload_n 0, 1) := by decide +kernel
theorem dX13_writesNumber_25 : decode cX13_writesNumber 25 = .ok (.bipush 48, 2) := by decide +kernel
theorem dX13_writesNumber_27 : decode cX13_writesNumber 27 = .ok (.iload_n 1, 1) := by decide +kernel
theorem dX13_writesNumber_28 : decode cX13_writesNumber 28 = .ok (.iload_n 3, 1) := by decide +kernel
theorem dX13_writesNumber_29 : decode cX13_writesNumber 29 = .ok (.idiv, 1) := by decide +kernel
theorem dX13_writesNumber_30 : decode cX13_writesNumber 30 = .ok (.bipush 10, 2) := by decide +kernel
theorem dX13_writesNumber_32 : decode cX13_writesNumber 32 = .ok (.irem, 1) := by decide +kernel
theorem dX13_writesNumber_33 : decode cX13_writesNumber 33 = .ok (.iadd, 1) := by decide +kernel
theorem dX13_writesNumber_34 : decode cX13_writesNumber 34 = .ok (.invokevirtual 216, 3) := by decide +kernel
theorem dX13_writesNumber_37 : decode cX13_writesNumber 37 = .ok (.iload_n 3, 1) := by decide +kernel
theorem dX13_writesNumber_38 : decode cX13_writesNumber 38 = .ok (.bipush 10, 2) := by decide +kernel
theorem dX13_writesNumber_40 : decode cX13_writesNumber 40 = .ok (.idiv, 1) := by decide +kernel
theorem dX13_writesNumber_41 : decode cX13_writesNumber 41 = .ok (.istore_n 3, 1) := by decide +kernel
theorem dX13_writesNumber_42 : decode cX13_writesNumber 42 = .ok (.goto (-22), 3) := by decide +kernel
theorem dX13_writesNumber_45 : decode cX13_writesNumber 45 = .ok (.return_, 1) := by decide +kernel
theorem dX13_writesPart_0 : decode cX13_writesPart 0 = .ok (.aload_n 0, 1) := by decide +kernel
theorem dX13_writesPart_1 : decode cX13_writesPart 1 = .ok (.iload_n 1, 1) := by decide +kernel
theorem dX13_writesPart_2 : decode cX13_writesPart 2 = .ok (.invokevirtual 216, 3) := by decide +kernel
theorem dX13_writesPart_5 : decode cX13_writesPart 5 = .ok (.aload_n 0, 1) := by decide +kernel
theorem dX13_writesPart_6 : decode cX13_writesPart 6 = .ok (.iload_n 2, 1) := by decide +kernel
theorem dX13_writesPart_7 : decode cX13_writesPart 7 = .ok (.invokevirtual 219, 3) := by decide +kernel
theorem dX13_writesPart_10 : decode cX13_writesPart 10 = .ok (.return_, 1) := by decide +kernel
theorem dX13_tell_0 : decode cX13_tell 0 = .ok (.aload_n 0, 1) := by decide +kernel
theorem dX13_tell_1 : decode cX13_tell 1 = .ok (.iconst 0, 1) := by decide +kernel
theorem dX13_tell_2 : decode cX13_tell 2 = .ok (.putfield 213, 3) := by decide +kernel
theorem dX13_tell_5 : decode cX13_tell 5 = .ok (.aload_n 0, 1) := by decide +kernel
theorem dX13_tell_6 : decode cX13_tell 6 = .ok (.aload_n 0, 1) := by decide +kernel
theorem dX13_tell_7 : decode cX13_tell 7 = .ok (.getfield 7, 3) := by decide +kernel
theorem dX13_tell_10 : decode cX13_tell 10 = .ok (.iconst 0, 1) := by decide +kernel
theorem dX13_tell_11 : decode cX13_tell 11 = .ok (.iaload, 1) := by decide +kernel
theorem dX13_tell_12 : decode cX13_tell 12 = .ok (.invokevirtual 219, 3) := by decide +kernel
theorem dX13_tell_15 : decode cX13_tell 15 = .ok (.aload_n 0, 1) := by decide +kernel
theorem dX13_tell_16 : decode cX13_tell 16 = .ok (.bipush 62, 2) := by decide +kernel
theorem dX13_tell_18 : decode cX13_tell 18 = .ok (.aload_n 0, 1) := by decide +kernel
theorem dX13_tell_19 : decode cX13_tell 19 = .ok (.getfield 7, 3) := by decide +kernel
theorem dX13_tell_22 : decode cX13_tell 22 = .ok (.iconst 1, 1) := by decide +kernel
theorem dX13_tell_23 : decode cX13_tell 23 = .ok (.iaload, 1) := by decide +kernel
theorem dX13_tell_24 : decode cX13_tell 24 = .ok (.invokevirtual 222, 3) := by decide +kernel
theorem dX13_tell_27 : decode cX13_tell 27 = .ok (.aload_n 0, 1) := by decide +kernel
theorem dX13_tell_28 : decode cX13_tell 28 = .ok (.bipush 100, 2) := by decide +kernel
theorem dX13_tell_30 : decode cX13_tell 30 = .ok (.aload_n 0, 1) := by decide +kernel
theorem dX13_tell_31 : decode cX13_tell 31 = .ok (.getfield 7, 3) := by decide +kernel
theorem dX13_tell_34 : decode cX13_tell 34 = .ok (.bipush 9, 2) := by decide +kernel
theorem dX13_tell_36 : decode cX13_tell 36 = .ok (.iaload, 1) := by decide +kernel
theorem dX13_tell_37 : decode cX13_tell 37 = .ok (.invokevirtual 222, 3) := by decide +kernel
theorem dX13_tell_40 : decode cX13_tell 40 = .ok (.aload_n 0, 1) := by decide +kernel
theorem dX13_tell_41 : decode cX13_tell 41 = .ok (.bipush 102, 2) := by decide +kernel
theorem dX13_tell_43 : decode cX13_tell 43 = .ok (.aload_n 0, 1) := by decide +kernel
theorem dX13_tell_44 : decode cX13_tell 44 = .ok (.getfield 7, 3) := by decide +kernel
theorem dX13_tell_47 : decode cX13_tell 47 = .ok (.bipush 10, 2) := by decide +kernel
theorem dX13_tell_49 : decode cX13_tell 49 = .ok (.iaload, 1) := by decide +kernel
theorem dX13_tell_50 : decode cX13_tell 50 = .ok (.invokevirtual 222, 3) := by decide +kernel
theorem dX13_tell_53 : decode cX13_tell 53 = .ok (.iconst 0, 1) := by decide +kernel
theorem dX13_tell_54 : decode cX13_tell 54 = .ok (.istore_n 1, 1) := by decide +kernel
theorem dX13_tell_55 : decode cX13_tell 55 = .ok (.iload_n 1, 1) := by decide +kernel
theorem dX13_tell_56 : decode cX13_tell 56 = .ok (.aload_n 0, 1) := by decide +kernel
theorem dX13_tell_57 : decode cX13_tell 57 = .ok (.getfield 7, 3) := by decide +kernel
theorem dX13_tell_60 : decode cX13_tell 60 = .ok (.bipush 8, 2) := by decide +kernel
theorem dX13_tell_62 : decode cX13_tell 62 = .ok (.iaload, 1) := by decide +kernel
theorem dX13_tell_63 : decode cX13_tell 63 = .ok (.if_icmp .ge 24, 3) := by decide +kernel
theorem dX13_tell_66 : decode cX13_tell 66 = .ok (.aload_n 0, 1) := by decide +kernel
theorem dX13_tell_67 : decode cX13_tell 67 = .ok (.bipush 126, 2) := by decide +kernel
theorem dX13_tell_69 : decode cX13_tell 69 = .ok (.aload_n 0, 1) := by decide +kernel
theorem dX13_tell_70 : decode cX13_tell 70 = .ok (.getfield 7, 3) := by decide +kernel
theorem dX13_tell_73 : decode cX13_tell 73 = .ok (.bipush 17, 2) := by decide +kernel
theorem dX13_tell_75 : decode cX13_tell 75 = .ok (.iload_n 1, 1) := by decide +kernel
theorem dX13_tell_76 : decode cX13_tell 76 = .ok (.iadd, 1) := by decide +kernel
theorem dX13_tell_77 : decode cX13_tell 77 = .ok (.iaload, 1) := by decide +kernel
theorem dX13_tell_78 : decode cX13_tell 78 = .ok (.invokevirtual 222, 3) := by decide +kernel
theorem dX13_tell_81 : decode cX13_tell 81 = .ok (.iinc 1 1, 3) := by decide +kernel
theorem dX13_tell_84 : decode cX13_tell 84 = .ok (.goto (-29), 3) := by decide +kernel
theorem dX13_tell_87 : decode cX13_tell 87 = .ok (.aload_n 0, 1) := by decide +kernel
theorem dX13_tell_88 : decode cX13_tell 88 = .ok (.getfield 213, 3) := by decide +kernel
theorem dX13_tell_91 : decode cX13_tell 91 = .ok (.ireturn, 1) := by decide +kernel
theorem dX13_tellPot_0 : decode cX13_tellPot 0 = .ok (.aload_n 0, 1) := by decide +kernel
theorem dX13_tellPot_1 : decode cX13_tellPot 1 = .ok (.iload_n 1, 1) := by decide +kernel
theorem dX13_tellPot_2 : decode cX13_tellPot 2 = .ok (.invokevirtual 92, 3) := by decide +kernel
theorem dX13_tellPot_5 : decode cX13_tellPot 5 = .ok (.ifCond .ne 7, 3) := by decide +kernel
theorem dX13_tellPot_8 : decode cX13_tellPot 8 = .ok (.sipush (-10001), 3) := by decide +kernel
theorem dX13_tellPot_11 : decode cX13_tellPot 11 = .ok (.ireturn, 1) := by decide +kernel
theorem dX13_tellPot_12 : decode cX13_tellPot 12 = .ok (.aload_n 0, 1) := by decide +kernel
theorem dX13_tellPot_13 : decode cX13_tellPot 13 = .ok (.iconst 0, 1) := by decide +kernel
theorem dX13_tellPot_14 : decode cX13_tellPot 14 = .ok (.putfield 213, 3) := by decide +kernel
theorem dX13_tellPot_17 : decode cX13_tellPot 17 = .ok (.aload_n 0, 1) := by decide +kernel
theorem dX13_tellPot_18 : decode cX13_tellPot 18 = .ok (.iload_n 1, 1) := by decide +kernel
theorem dX13_tellPot_19 : decode cX13_tellPot 19 = .ok (.invokevirtual 219, 3) := by decide +kernel
theorem dX13_tellPot_22 : decode cX13_tellPot 22 = .ok (.aload_n 0, 1) := by decide +kernel
theorem dX13_tellPot_23 : decode cX13_tellPot 23 = .ok (.bipush 33, 2) := by decide +kernel
theorem dX13_tellPot_25 : decode cX13_tellPot 25 = .ok (.aload_n 0, 1) := by decide +kernel
theorem dX13_tellPot_26 : decode cX13_tellPot 26 = .ok (.getfield 7, 3) := by decide +kernel
theorem dX13_tellPot_29 : decode cX13_tellPot 29 = .ok (.sipush 171, 3) := by decide +kernel
theorem dX13_tellPot_32 : decode cX13_tellPot 32 = .ok (.iload_n 1, 1) := by decide +kernel
theorem dX13_tellPot_33 : decode cX13_tellPot 33 = .ok (.iadd, 1) := by decide +kernel
theorem dX13_tellPot_34 : decode cX13_tellPot 34 = .ok (.iaload, 1) := by decide +kernel
theorem dX13_tellPot_35 : decode cX13_tellPot 35 = .ok (.invokevirtual 222, 3) := by decide +kernel
theorem dX13_tellPot_38 : decode cX13_tellPot 38 = .ok (.aload_n 0, 1) := by decide +kernel
theorem dX13_tellPot_39 : decode cX13_tellPot 39 = .ok (.bipush 94, 2) := by decide +kernel
theorem dX13_tellPot_41 : decode cX13_tellPot 41 = .ok (.aload_n 0, 1) := by decide +kernel
theorem dX13_tellPot_42 : decode cX13_tellPot 42 = .ok (.getfield 7, 3) := by decide +kernel
theorem dX13_tellPot_45 : decode cX13_tellPot 45 = .ok (.sipush 179, 3) := by decide +kernel
theorem dX13_tellPot_48 : decode cX13_tellPot 48 = .ok (.iload_n 1, 1) := by decide +kernel
theorem dX13_tellPot_49 : decode cX13_tellPot 49 = .ok (.iadd, 1) := by decide +kernel
theorem dX13_tellPot_50 : decode cX13_tellPot 50 = .ok (.iaload, 1) := by decide +kernel
theorem dX13_tellPot_51 : decode cX13_tellPot 51 = .ok (.invokevirtual 222, 3) := by decide +kernel
theorem dX13_tellPot_54 : decode cX13_tellPot 54 = .ok (.aload_n 0, 1) := by decide +kernel
theorem dX13_tellPot_55 : decode cX13_tellPot 55 = .ok (.bipush 42, 2) := by decide +kernel
theorem dX13_tellPot_57 : decode cX13_tellPot 57 = .ok (.aload_n 0, 1) := by decide +kernel
theorem dX13_tellPot_58 : decode cX13_tellPot 58 = .ok (.getfield 7, 3) := by decide +kernel
theorem dX13_tellPot_61 : decode cX13_tellPot 61 = .ok (.sipush 203, 3) := by decide +kernel
theorem dX13_tellPot_64 : decode cX13_tellPot 64 = .ok (.iload_n 1, 1) := by decide +kernel
theorem dX13_tellPot_65 : decode cX13_tellPot 65 = .ok (.iadd, 1) := by decide +kernel
theorem dX13_tellPot_66 : decode cX13_tellPot 66 = .ok (.iaload, 1) := by decide +kernel
theorem dX13_tellPot_67 : decode cX13_tellPot 67 = .ok (.invokevirtual 222, 3) := by decide +kernel
theorem dX13_tellPot_70 : decode cX13_tellPot 70 = .ok (.aload_n 0, 1) := by decide +kernel
theorem dX13_tellPot_71 : decode cX13_tellPot 71 = .ok (.bipush 47, 2) := by decide +kernel
theorem dX13_tellPot_73 : decode cX13_tellPot 73 = .ok (.aload_n 0, 1) := by decide +kernel
theorem dX13_tellPot_74 : decode cX13_tellPot 74 = .ok (.getfield 7, 3) := by decide +kernel
theorem dX13_tellPot_77 : decode cX13_tellPot 77 = .ok (.sipush 187, 3) := by decide +kernel
theorem dX13_tellPot_80 : decode cX13_tellPot 80 = .ok (.iload_n 1, 1) := by decide +kernel
theorem dX13_tellPot_81 : decode cX13_tellPot 81 = .ok (.iadd, 1) := by decide +kernel
theorem dX13_tellPot_82 : decode cX13_tellPot 82 = .ok (.iaload, 1) := by decide +kernel
theorem dX13_tellPot_83 : decode cX13_tellPot 83 = .ok (.invokevirtual 222, 3) := by decide +kernel
theorem dX13_tellPot_86 : decode cX13_tellPot 86 = .ok (.aload_n 0, 1) := by decide +kernel
theorem dX13_tellPot_87 : decode cX13_tellPot 87 = .ok (.getfield 7, 3) := by decide +kernel
theorem dX13_tellPot_90 : decode cX13_tellPot 90 = .ok (.sipush 195, 3) := by decide +kernel
theorem dX13_tellPot_93 : decode cX13_tellPot 93 = .ok (.iload_n 1, 1) := by decide +kernel
theorem dX13_tellPot_94 : decode cX13_tellPot 94 = .ok (.iadd, 1) := by decide +kernel
theorem dX13_tellPot_95 : decode cX13_tellPot 95 = .ok (.iaload, 1) := by decide +kernel
theorem dX13_tellPot_96 : decode cX13_tellPot 96 = .ok (.istore_n 2, 1) := by decide +kernel
theorem dX13_tellPot_97 : decode cX13_tellPot 97 = .ok (.aload_n 0, 1) := by decide +kernel
theorem dX13_tellPot_98 : decode cX13_tellPot 98 = .ok (.iload_n 2, 1) := by decide +kernel
theorem dX13_tellPot_99 : decode cX13_tellPot 99 = .ok (.ifCond .ne 8, 3) := by decide +kernel
theorem dX13_tellPot_102 : decode cX13_tellPot 102 = .ok (.bipush 119, 2) := by decide +kernel
theorem dX13_tellPot_104 : decode cX13_tellPot 104 = .ok (.goto 25, 3) := by decide +kernel
theorem dX13_tellPot_107 : decode cX13_tellPot 107 = .ok (.iload_n 2, 1) := by decide +kernel
theorem dX13_tellPot_108 : decode cX13_tellPot 108 = .ok (.iconst 1, 1) := by decide +kernel
theorem dX13_tellPot_109 : decode cX13_tellPot 109 = .ok (.if_icmp .ne 8, 3) := by decide +kernel
theorem dX13_tellPot_112 : decode cX13_tellPot 112 = .ok (.bipush 107, 2) := by decide +kernel
theorem dX13_tellPot_114 : decode cX13_tellPot 114 = .ok (.goto 15, 3) := by decide +kernel
theorem dX13_tellPot_117 : decode cX13_tellPot 117 = .ok (.iload_n 2, 1) := by decide +kernel
theorem dX13_tellPot_118 : decode cX13_tellPot 118 = .ok (.iconst 2, 1) := by decide +kernel
theorem dX13_tellPot_119 : decode cX13_tellPot 119 = .ok (.if_icmp .ne 8, 3) := by decide +kernel
theorem dX13_tellPot_122 : decode cX13_tellPot 122 = .ok (.bipush 102, 2) := by decide +kernel
theorem dX13_tellPot_124 : decode cX13_tellPot 124 = .ok (.goto 5, 3) := by decide +kernel
theorem dX13_tellPot_127 : decode cX13_tellPot 127 = .ok (.bipush 120, 2) := by decide +kernel
theorem dX13_tellPot_129 : decode cX13_tellPot 129 = .ok (.invokevirtual 216, 3) := by decide +kernel
theorem dX13_tellPot_132 : decode cX13_tellPot 132 = .ok (.aload_n 0, 1) := by decide +kernel
theorem dX13_tellPot_133 : decode cX13_tellPot 133 = .ok (.getfield 213, 3) := by decide +kernel
theorem dX13_tellPot_136 : decode cX13_tellPot 136 = .ok (.ireturn, 1) := by decide +kernel
theorem dX13_character_0 : decode cX13_character 0 = .ok (.iload_n 1, 1) := by decide +kernel
theorem dX13_character_1 : decode cX13_character 1 = .ok (.iconst 0, 1) := by decide +kernel
theorem dX13_character_2 : decode cX13_character 2 = .ok (.aload_n 0, 1) := by decide +kernel
theorem dX13_character_3 : decode cX13_character 3 = .ok (.getfield 213, 3) := by decide +kernel
theorem dX13_character_6 : decode cX13_character 6 = .ok (.iconst 1, 1) := by decide +kernel
theorem dX13_character_7 : decode cX13_character 7 = .ok (.isub, 1) := by decide +kernel
theorem dX13_character_8 : decode cX13_character 8 = .ok (.invokestatic 54, 3) := by decide +kernel
theorem dX13_character_11 : decode cX13_character 11 = .ok (.ifCond .eq 12, 3) := by decide +kernel
theorem dX13_character_14 : decode cX13_character 14 = .ok (.aload_n 0, 1) := by decide +kernel
theorem dX13_character_15 : decode cX13_character 15 = .ok (.getfield 31, 3) := by decide +kernel
theorem dX13_character_18 : decode cX13_character 18 = .ok (.iload_n 1, 1) := by decide +kernel
theorem dX13_character_19 : decode cX13_character 19 = .ok (.iaload, 1) := by decide +kernel
theorem dX13_character_20 : decode cX13_character 20 = .ok (.goto 6, 3) := by decide +kernel
theorem dX13_character_23 : decode cX13_character 23 = .ok (.sipush (-10001), 3) := by decide +kernel
theorem dX13_character_26 : decode cX13_character 26 = .ok (.ireturn, 1) := by decide +kernel
theorem dX13_reason_0 : decode cX13_reason 0 = .ok (.aload_n 0, 1) := by decide +kernel
theorem dX13_reason_1 : decode cX13_reason 1 = .ok (.getfield 48, 3) := by decide +kernel
theorem dX13_reason_4 : decode cX13_reason 4 = .ok (.ifCond .ne 9, 3) := by decide +kernel
theorem dX13_reason_7 : decode cX13_reason 7 = .ok (.sipush (-10005), 3) := by decide +kernel
theorem dX13_reason_10 : decode cX13_reason 10 = .ok (.goto 18, 3) := by decide +kernel
theorem dX13_reason_13 : decode cX13_reason 13 = .ok (.iload_n 1, 1) := by decide +kernel
theorem dX13_reason_14 : decode cX13_reason 14 = .ok (.ifCond .eq 10, 3) := by decide +kernel
theorem dX13_reason_17 : decode cX13_reason 17 = .ok (.aload_n 0, 1) := by decide +kernel
theorem dX13_reason_18 : decode cX13_reason 18 = .ok (.getfield 51, 3) := by decide +kernel
theorem dX13_reason_21 : decode cX13_reason 21 = .ok (.goto 7, 3) := by decide +kernel
theorem dX13_reason_24 : decode cX13_reason 24 = .ok (.aload_n 0, 1) := by decide +kernel
theorem dX13_reason_25 : decode cX13_reason 25 = .ok (.getfield 48, 3) := by decide +kernel
theorem dX13_reason_28 : decode cX13_reason 28 = .ok (.ireturn, 1) := by decide +kernel
theorem dX13_manyThat_0 : decode cX13_manyThat 0 = .ok (.iconst 0, 1) := by decide +kernel
theorem dX13_manyThat_1 : decode cX13_manyThat 1 = .ok (.istore_n 2, 1) := by decide +kernel
theorem dX13_manyThat_2 : decode cX13_manyThat 2 = .ok (.iconst 0, 1) := by decide +kernel
theorem dX13_manyThat_3 : decode cX13_manyThat 3 = .ok (.istore_n 3, 1) := by decide +kernel
theorem dX13_manyThat_4 : decode cX13_manyThat 4 = .ok (.iload_n 3, 1) := by decide +kernel
theorem dX13_manyThat_5 : decode cX13_manyThat 5 = .ok (.aload_n 0, 1) := by decide +kernel
theorem dX13_manyThat_6 : decode cX13_manyThat 6 = .ok (.getfield 7, 3) := by decide +kernel
theorem dX13_manyThat_9 : decode cX13_manyThat 9 = .ok (.bipush 15, 2) := by decide +kernel
theorem dX13_manyThat_11 : decode cX13_manyThat 11 = .ok (.iaload, 1) := by decide +kernel
theorem dX13_manyThat_12 : decode cX13_manyThat 12 = .ok (.if_icmp .ge 31, 3) := by decide +kernel
theorem dX13_manyThat_15 : decode cX13_manyThat 15 = .ok (.iload_n 2, 1) := by decide +kernel
theorem dX13_manyThat_16 : decode cX13_manyThat 16 = .ok (.aload_n 0, 1) := by decide +kernel
theorem dX13_manyThat_17 : decode cX13_manyThat 17 = .ok (.getfield 7, 3) := by decide +kernel
theorem dX13_manyThat_20 : decode cX13_manyThat 20 = .ok (.sipush 195, 3) := by decide +kernel
theorem dX13_manyThat_23 : decode cX13_manyThat 23 = .ok (.iload_n 3, 1) := by decide +kernel
theorem dX13_manyThat_24 : decode cX13_manyThat 24 = .ok (.iadd, 1) := by decide +kernel
theorem dX13_manyThat_25 : decode cX13_manyThat 25 = .ok (.iaload, 1) := by decide +kernel
theorem dX13_manyThat_26 : decode cX13_manyThat 26 = .ok (.iload_n 1, 1) := by decide +kernel
theorem dX13_manyThat_27 : decode cX13_manyThat 27 = .ok (.if_icmp .ne 7, 3) := by decide +kernel
theorem dX13_manyThat_30 : decode cX13_manyThat 30 = .ok (.iconst 1, 1) := by decide +kernel
theorem dX13_manyThat_31 : decode cX13_manyThat 31 = .ok (.goto 4, 3) := by decide +kernel
theorem dX13_manyThat_34 : decode cX13_manyThat 34 = .ok (.iconst 0, 1) := by decide +kernel
theorem dX13_manyThat_35 : decode cX13_manyThat 35 = .ok (.iadd, 1) := by decide +kernel
theorem dX13_manyThat_36 : decode cX13_manyThat 36 = .ok (.istore_n 2, 1) := by decide +kernel
theorem dX13_manyThat_37 : decode cX13_manyThat 37 = .ok (.iinc 3 1, 3) := by decide +kernel
theorem dX13_manyThat_40 : decode cX13_manyThat 40 = .ok (.goto (-36), 3) := by decide +kernel
theorem dX13_manyThat_43 : decode cX13_manyThat 43 = .ok (.iload_n 2, 1) := by decide +kernel
theorem dX13_manyThat_44 : decode cX13_manyThat 44 = .ok (.ireturn, 1) := by decide +kernel
theorem dX13_account_0 : decode cX13_account 0 = .ok (.iload_n 1, 1) := by decide +kernel
theorem dX13_account_1 : decode cX13_account 1 = .ok (.bipush 11, 2) := by decide +kernel
theorem dX13_account_3 : decode cX13_account 3 = .ok (.bipush 14, 2) := by decide +kernel
theorem dX13_account_5 : decode cX13_account 5 = .ok (.invokestatic 54, 3) := by decide +kernel
theorem dX13_account_8 : decode cX13_account 8 = .ok (.ifCond .eq 12, 3) := by decide +kernel
theorem dX13_account_11 : decode cX13_account 11 = .ok (.aload_n 0, 1) := by decide +kernel
theorem dX13_account_12 : decode cX13_account 12 = .ok (.iload_n 1, 1) := by decide +kernel
theorem dX13_account_13 : decode cX13_account 13 = .ok (.bipush 11, 2) := by decide +kernel
theorem dX13_account_15 : decode cX13_account 15 = .ok (.isub, 1) := by decide +kernel
theorem dX13_account_16 : decode cX13_account 16 = .ok (.invokevirtual 225, 3) := by decide +kernel
theorem dX13_account_19 : decode cX13_account 19 = .ok (.ireturn, 1) := by decide +kernel
theorem dX13_account_20 : decode cX13_account 20 = .ok (.iload_n 1, 1) := by decide +kernel
theorem dX13_account_21 : decode cX13_account 21 = .ok (.tableswitch 184 0 17 #[87, 95, 102, 109, 114, 121, 129, 137, 145, 153, 161, 184, 184, 184, 184, 169, 174, 179], 87) := by decide +kernel
theorem dX13_account_108 : decode cX13_account 108 = .ok (.aload_n 0, 1) := by decide +kernel
theorem dX13_account_109 : decode cX13_account 109 = .ok (.getfield 7, 3) := by decide +kernel
theorem dX13_account_112 : decode cX13_account 112 = .ok (.bipush 12, 2) := by decide +kernel
theorem dX13_account_114 : decode cX13_account 114 = .ok (.iaload, 1) := by decide +kernel
theorem dX13_account_115 : decode cX13_account 115 = .ok (.ireturn, 1) := by decide +kernel
theorem dX13_account_116 : decode cX13_account 116 = .ok (.aload_n 0, 1) := by decide +kernel
theorem dX13_account_117 : decode cX13_account 117 = .ok (.getfield 7, 3) := by decide +kernel
theorem dX13_account_120 : decode cX13_account 120 = .ok (.iconst 0, 1) := by decide +kernel
theorem dX13_account_121 : decode cX13_account 121 = .ok (.iaload, 1) := by decide +kernel
theorem dX13_account_122 : decode cX13_account 122 = .ok (.ireturn, 1) := by decide +kernel
theorem dX13_account_123 : decode cX13_account 123 = .ok (.aload_n 0, 1) := by decide +kernel
theorem dX13_account_124 : decode cX13_account 124 = .ok (.getfield 7, 3) := by decide +kernel
theorem dX13_account_127 : decode cX13_account 127 = .ok (.iconst 1, 1) := by decide +kernel
theorem dX13_account_128 : decode cX13_account 128 = .ok (.iaload, 1) := by decide +kernel
theorem dX13_account_129 : decode cX13_account 129 = .ok (.ireturn, 1) := by decide +kernel
theorem dX13_account_130 : decode cX13_account 130 = .ok (.aload_n 0, 1) := by decide +kernel
theorem dX13_account_131 : decode cX13_account 131 = .ok (.invokevirtual 58, 3) := by decide +kernel
theorem dX13_account_134 : decode cX13_account 134 = .ok (.ireturn, 1) := by decide +kernel
theorem dX13_account_135 : decode cX13_account 135 = .ok (.aload_n 0, 1) := by decide +kernel
theorem dX13_account_136 : decode cX13_account 136 = .ok (.getfield 7, 3) := by decide +kernel
theorem dX13_account_139 : decode cX13_account 139 = .ok (.iconst 5, 1) := by decide +kernel
theorem dX13_account_140 : decode cX13_account 140 = .ok (.iaload, 1) := by decide +kernel
theorem dX13_account_141 : decode cX13_account 141 = .ok (.ireturn, 1) := by decide +kernel
theorem dX13_account_142 : decode cX13_account 142 = .ok (.aload_n 0, 1) := by decide +kernel
theorem dX13_account_143 : decode cX13_account 143 = .ok (.getfield 7, 3) := by decide +kernel
theorem dX13_account_146 : decode cX13_account 146 = .ok (.bipush 7, 2) := by decide +kernel
theorem dX13_account_148 : decode cX13_account 148 = .ok (.iaload, 1) := by decide +kernel
theorem dX13_account_149 : decode cX13_account 149 = .ok (.ireturn, 1) := by decide +kernel
theorem dX13_account_150 : decode cX13_account 150 = .ok (.aload_n 0, 1) := by decide +kernel
theorem dX13_account_151 : decode cX13_account 151 = .ok (.getfield 7, 3) := by decide +kernel
theorem dX13_account_154 : decode cX13_account 154 = .ok (.bipush 9, 2) := by decide +kernel
theorem dX13_account_156 : decode cX13_account 156 = .ok (.iaload, 1) := by decide +kernel
theorem dX13_account_157 : decode cX13_account 157 = .ok (.ireturn, 1) := by decide +kernel
theorem dX13_account_158 : decode cX13_account 158 = .ok (.aload_n 0, 1) := by decide +kernel
theorem dX13_account_159 : decode cX13_account 159 = .ok (.getfield 7, 3) := by decide +kernel
theorem dX13_account_162 : decode cX13_account 162 = .ok (.bipush 10, 2) := by decide +kernel
theorem dX13_account_164 : decode cX13_account 164 = .ok (.iaload, 1) := by decide +kernel
theorem dX13_account_165 : decode cX13_account 165 = .ok (.ireturn, 1) := by decide +kernel
theorem dX13_account_166 : decode cX13_account 166 = .ok (.aload_n 0, 1) := by decide +kernel
theorem dX13_account_167 : decode cX13_account 167 = .ok (.getfield 7, 3) := by decide +kernel
theorem dX13_account_170 : decode cX13_account 170 = .ok (.bipush 11, 2) := by decide +kernel
theorem dX13_account_172 : decode cX13_account 172 = .ok (.iaload, 1) := by decide +kernel
theorem dX13_account_173 : decode cX13_account 173 = .ok (.ireturn, 1) := by decide +kernel
theorem dX13_account_174 : decode cX13_account 174 = .ok (.aload_n 0, 1) := by decide +kernel
theorem dX13_account_175 : decode cX13_account 175 = .ok (.getfield 7, 3) := by decide +kernel
theorem dX13_account_178 : decode cX13_account 178 = .ok (.bipush 13, 2) := by decide +kernel
theorem dX13_account_180 : decode cX13_account 180 = .ok (.iaload, 1) := by decide +kernel
theorem dX13_account_181 : decode cX13_account 181 = .ok (.ireturn, 1) := by decide +kernel
theorem dX13_account_182 : decode cX13_account 182 = .ok (.aload_n 0, 1) := by decide +kernel
theorem dX13_account_183 : decode cX13_account 183 = .ok (.getfield 7, 3) := by decide +kernel
theorem dX13_account_186 : decode cX13_account 186 = .ok (.bipush 15, 2) := by decide +kernel
theorem dX13_account_188 : decode cX13_account 188 = .ok (.iaload, 1) := by decide +kernel
theorem dX13_account_189 : decode cX13_account 189 = .ok (.ireturn, 1) := by decide +kernel
theorem dX13_account_190 : decode cX13_account 190 = .ok (.aload_n 0, 1) := by decide +kernel
theorem dX13_account_191 : decode cX13_account 191 = .ok (.invokevirtual 96, 3) := by decide +kernel
theorem dX13_account_194 : decode cX13_account 194 = .ok (.ireturn, 1) := by decide +kernel
theorem dX13_account_195 : decode cX13_account 195 = .ok (.aload_n 0, 1) := by decide +kernel
theorem dX13_account_196 : decode cX13_account 196 = .ok (.getfield 146, 3) := by decide +kernel
theorem dX13_account_199 : decode cX13_account 199 = .ok (.ireturn, 1) := by decide +kernel
theorem dX13_account_200 : decode cX13_account 200 = .ok (.aload_n 0, 1) := by decide +kernel
theorem dX13_account_201 : decode cX13_account 201 = .ok (.getfield 34, 3) := by decide +kernel
theorem dX13_account_204 : decode cX13_account 204 = .ok (.ireturn, 1) := by decide +kernel
theorem dX13_account_205 : decode cX13_account 205 = .ok (.sipush (-10002), 3) := by decide +kernel
theorem dX13_account_208 : decode cX13_account 208 = .ok (.ireturn, 1) := by decide +kernel
theorem dX13_isBalanced_0 : decode cX13_isBalanced 0 = .ok (.iconst 0, 1) := by decide +kernel
theorem dX13_isBalanced_1 : decode cX13_isBalanced 1 = .ok (.istore_n 1, 1) := by decide +kernel
theorem dX13_isBalanced_2 : decode cX13_isBalanced 2 = .ok (.iconst 0, 1) := by decide +kernel
theorem dX13_isBalanced_3 : decode cX13_isBalanced 3 = .ok (.istore_n 2, 1) := by decide +kernel
theorem dX13_isBalanced_4 : decode cX13_isBalanced 4 = .ok (.iload_n 2, 1) := by decide +kernel
theorem dX13_isBalanced_5 : decode cX13_isBalanced 5 = .ok (.bipush 100, 2) := by decide +kernel
theorem dX13_isBalanced_7 : decode cX13_isBalanced 7 = .ok (.if_icmp .gt 21, 3) := by decide +kernel
theorem dX13_isBalanced_10 : decode cX13_isBalanced 10 = .ok (.iload_n 1, 1) := by decide +kernel
theorem dX13_isBalanced_11 : decode cX13_isBalanced 11 = .ok (.aload_n 0, 1) := by decide +kernel
theorem dX13_isBalanced_12 : decode cX13_isBalanced 12 = .ok (.getfield 7, 3) := by decide +kernel
theorem dX13_isBalanced_15 : decode cX13_isBalanced 15 = .ok (.bipush 22, 2) := by decide +kernel
theorem dX13_isBalanced_17 : decode cX13_isBalanced 17 = .ok (.iload_n 2, 1) := by decide +kernel
theorem dX13_isBalanced_18 : decode cX13_isBalanced 18 = .ok (.iadd, 1) := by decide +kernel
theorem dX13_isBalanced_19 : decode cX13_isBalanced 19 = .ok (.iaload, 1) := by decide +kernel
theorem dX13_isBalanced_20 : decode cX13_isBalanced 20 = .ok (.iadd, 1) := by decide +kernel
theorem dX13_isBalanced_21 : decode cX13_isBalanced 21 = .ok (.istore_n 1, 1) := by decide +kernel
theorem dX13_isBalanced_22 : decode cX13_isBalanced 22 = .ok (.iinc 2 1, 3) := by decide +kernel
theorem dX13_isBalanced_25 : decode cX13_isBalanced 25 = .ok (.goto (-21), 3) := by decide +kernel
theorem dX13_isBalanced_28 : decode cX13_isBalanced 28 = .ok (.aload_n 0, 1) := by decide +kernel
theorem dX13_isBalanced_29 : decode cX13_isBalanced 29 = .ok (.getfield 7, 3) := by decide +kernel
theorem dX13_isBalanced_32 : decode cX13_isBalanced 32 = .ok (.bipush 11, 2) := by decide +kernel
theorem dX13_isBalanced_34 : decode cX13_isBalanced 34 = .ok (.iaload, 1) := by decide +kernel
theorem dX13_isBalanced_35 : decode cX13_isBalanced 35 = .ok (.aload_n 0, 1) := by decide +kernel
theorem dX13_isBalanced_36 : decode cX13_isBalanced 36 = .ok (.getfield 7, 3) := by decide +kernel
theorem dX13_isBalanced_39 : decode cX13_isBalanced 39 = .ok (.bipush 10, 2) := by decide +kernel
theorem dX13_isBalanced_41 : decode cX13_isBalanced 41 = .ok (.iaload, 1) := by decide +kernel
theorem dX13_isBalanced_42 : decode cX13_isBalanced 42 = .ok (.aload_n 0, 1) := by decide +kernel
theorem dX13_isBalanced_43 : decode cX13_isBalanced 43 = .ok (.getfield 7, 3) := by decide +kernel
theorem dX13_isBalanced_46 : decode cX13_isBalanced 46 = .ok (.bipush 16, 2) := by decide +kernel
theorem dX13_isBalanced_48 : decode cX13_isBalanced 48 = .ok (.iaload, 1) := by decide +kernel
theorem dX13_isBalanced_49 : decode cX13_isBalanced 49 = .ok (.iadd, 1) := by decide +kernel
theorem dX13_isBalanced_50 : decode cX13_isBalanced 50 = .ok (.if_icmp .ne 32, 3) := by decide +kernel
theorem dX13_isBalanced_53 : decode cX13_isBalanced 53 = .ok (.aload_n 0, 1) := by decide +kernel
theorem dX13_isBalanced_54 : decode cX13_isBalanced 54 = .ok (.getfield 7, 3) := by decide +kernel
theorem dX13_isBalanced_57 : decode cX13_isBalanced 57 = .ok (.bipush 16, 2) := by decide +kernel
theorem dX13_isBalanced_59 : decode cX13_isBalanced 59 = .ok (.iaload, 1) := by decide +kernel
theorem dX13_isBalanced_60 : decode cX13_isBalanced 60 = .ok (.aload_n 0, 1) := by decide +kernel
theorem dX13_isBalanced_61 : decode cX13_isBalanced 61 = .ok (.invokevirtual 228, 3) := by decide +kernel
theorem dX13_isBalanced_64 : decode cX13_isBalanced 64 = .ok (.if_icmp .ne 18, 3) := by decide +kernel
theorem dX13_isBalanced_67 : decode cX13_isBalanced 67 = .ok (.iload_n 1, 1) := by decide +kernel
theorem dX13_isBalanced_68 : decode cX13_isBalanced 68 = .ok (.aload_n 0, 1) := by decide +kernel
theorem dX13_isBalanced_69 : decode cX13_isBalanced 69 = .ok (.getfield 7, 3) := by decide +kernel
theorem dX13_isBalanced_72 : decode cX13_isBalanced 72 = .ok (.bipush 12, 2) := by decide +kernel
theorem dX13_isBalanced_74 : decode cX13_isBalanced 74 = .ok (.iaload, 1) := by decide +kernel
theorem dX13_isBalanced_75 : decode cX13_isBalanced 75 = .ok (.if_icmp .ne 7, 3) := by decide +kernel
theorem dX13_isBalanced_78 : decode cX13_isBalanced 78 = .ok (.iconst 1, 1) := by decide +kernel
theorem dX13_isBalanced_79 : decode cX13_isBalanced 79 = .ok (.goto 4, 3) := by decide +kernel
theorem dX13_isBalanced_82 : decode cX13_isBalanced 82 = .ok (.iconst 0, 1) := by decide +kernel
theorem dX13_isBalanced_83 : decode cX13_isBalanced 83 = .ok (.istore_n 2, 1) := by decide +kernel
theorem dX13_isBalanced_84 : decode cX13_isBalanced 84 = .ok (.iconst 0, 1) := by decide +kernel
theorem dX13_isBalanced_85 : decode cX13_isBalanced 85 = .ok (.istore_n 3, 1) := by decide +kernel
theorem dX13_isBalanced_86 : decode cX13_isBalanced 86 = .ok (.iload_n 3, 1) := by decide +kernel
theorem dX13_isBalanced_87 : decode cX13_isBalanced 87 = .ok (.aload_n 0, 1) := by decide +kernel
theorem dX13_isBalanced_88 : decode cX13_isBalanced 88 = .ok (.getfield 7, 3) := by decide +kernel
theorem dX13_isBalanced_91 : decode cX13_isBalanced 91 = .ok (.bipush 15, 2) := by decide +kernel
theorem dX13_isBalanced_93 : decode cX13_isBalanced 93 = .ok (.iaload, 1) := by decide +kernel
theorem dX13_isBalanced_94 : decode cX13_isBalanced 94 = .ok (.if_icmp .ge 27, 3) := by decide +kernel
theorem dX13_isBalanced_97 : decode cX13_isBalanced 97 = .ok (.iload_n 2, 1) := by decide +kernel
theorem dX13_isBalanced_98 : decode cX13_isBalanced 98 = .ok (.ifCond .eq 15, 3) := by decide +kernel
theorem dX13_isBalanced_101 : decode cX13_isBalanced 101 = .ok (.aload_n 0, 1) := by decide +kernel
theorem dX13_isBalanced_102 : decode cX13_isBalanced 102 = .ok (.iload_n 3, 1) := by decide +kernel
theorem dX13_isBalanced_103 : decode cX13_isBalanced 103 = .ok (.invokevirtual 139, 3) := by decide +kernel
theorem dX13_isBalanced_106 : decode cX13_isBalanced 106 = .ok (.ifCond .lt 7, 3) := by decide +kernel
theorem dX13_isBalanced_109 : decode cX13_isBalanced 109 = .ok (.iconst 1, 1) := by decide +kernel
theorem dX13_isBalanced_110 : decode cX13_isBalanced 110 = .ok (.goto 4, 3) := by decide +kernel
theorem dX13_isBalanced_113 : decode cX13_isBalanced 113 = .ok (.iconst 0, 1) := by decide +kernel
theorem dX13_isBalanced_114 : decode cX13_isBalanced 114 = .ok (.istore_n 2, 1) := by decide +kernel
theorem dX13_isBalanced_115 : decode cX13_isBalanced 115 = .ok (.iinc 3 1, 3) := by decide +kernel
theorem dX13_isBalanced_118 : decode cX13_isBalanced 118 = .ok (.goto (-32), 3) := by decide +kernel
theorem dX13_isBalanced_121 : decode cX13_isBalanced 121 = .ok (.iload_n 2, 1) := by decide +kernel
theorem dX13_isBalanced_122 : decode cX13_isBalanced 122 = .ok (.ifCond .eq 7, 3) := by decide +kernel
theorem dX13_isBalanced_125 : decode cX13_isBalanced 125 = .ok (.iconst 1, 1) := by decide +kernel
theorem dX13_isBalanced_126 : decode cX13_isBalanced 126 = .ok (.goto 4, 3) := by decide +kernel
theorem dX13_isBalanced_129 : decode cX13_isBalanced 129 = .ok (.iconst 0, 1) := by decide +kernel
theorem dX13_isBalanced_130 : decode cX13_isBalanced 130 = .ok (.ireturn, 1) := by decide +kernel
theorem dX13_meanBurnt_0 : decode cX13_meanBurnt 0 = .ok (.aload_n 0, 1) := by decide +kernel
theorem dX13_meanBurnt_1 : decode cX13_meanBurnt 1 = .ok (.getfield 7, 3) := by decide +kernel
theorem dX13_meanBurnt_4 : decode cX13_meanBurnt 4 = .ok (.bipush 12, 2) := by decide +kernel
theorem dX13_meanBurnt_6 : decode cX13_meanBurnt 6 = .ok (.iaload, 1) := by decide +kernel
theorem dX13_meanBurnt_7 : decode cX13_meanBurnt 7 = .ok (.ifCond .ne 7, 3) := by decide +kernel
theorem dX13_meanBurnt_10 : decode cX13_meanBurnt 10 = .ok (.dconst 0, 1) := by decide +kernel
theorem dX13_meanBurnt_11 : decode cX13_meanBurnt 11 = .ok (.goto 20, 3) := by decide +kernel
theorem dX13_meanBurnt_14 : decode cX13_meanBurnt 14 = .ok (.aload_n 0, 1) := by decide +kernel
theorem dX13_meanBurnt_15 : decode cX13_meanBurnt 15 = .ok (.getfield 7, 3) := by decide +kernel
theorem dX13_meanBurnt_18 : decode cX13_meanBurnt 18 = .ok (.bipush 16, 2) := by decide +kernel
theorem dX13_meanBurnt_20 : decode cX13_meanBurnt 20 = .ok (.iaload, 1) := by decide +kernel
theorem dX13_meanBurnt_21 : decode cX13_meanBurnt 21 = .ok (.i2d, 1) := by decide +kernel
theorem dX13_meanBurnt_22 : decode cX13_meanBurnt 22 = .ok (.aload_n 0, 1) := by decide +kernel
theorem dX13_meanBurnt_23 : decode cX13_meanBurnt 23 = .ok (.getfield 7, 3) := by decide +kernel
theorem dX13_meanBurnt_26 : decode cX13_meanBurnt 26 = .ok (.bipush 12, 2) := by decide +kernel
theorem dX13_meanBurnt_28 : decode cX13_meanBurnt 28 = .ok (.iaload, 1) := by decide +kernel
theorem dX13_meanBurnt_29 : decode cX13_meanBurnt 29 = .ok (.i2d, 1) := by decide +kernel
theorem dX13_meanBurnt_30 : decode cX13_meanBurnt 30 = .ok (.ddiv, 1) := by decide +kernel
theorem dX13_meanBurnt_31 : decode cX13_meanBurnt 31 = .ok (.dreturn, 1) := by decide +kernel
theorem dX13_firedShare_0 : decode cX13_firedShare 0 = .ok (.aload_n 0, 1) := by decide +kernel
theorem dX13_firedShare_1 : decode cX13_firedShare 1 = .ok (.getfield 7, 3) := by decide +kernel
theorem dX13_firedShare_4 : decode cX13_firedShare 4 = .ok (.bipush 15, 2) := by decide +kernel
theorem dX13_firedShare_6 : decode cX13_firedShare 6 = .ok (.iaload, 1) := by decide +kernel
theorem dX13_firedShare_7 : decode cX13_firedShare 7 = .ok (.ifCond .ne 7, 3) := by decide +kernel
theorem dX13_firedShare_10 : decode cX13_firedShare 10 = .ok (.fconst 0, 1) := by decide +kernel
theorem dX13_firedShare_11 : decode cX13_firedShare 11 = .ok (.goto 18, 3) := by decide +kernel
theorem dX13_firedShare_14 : decode cX13_firedShare 14 = .ok (.aload_n 0, 1) := by decide +kernel
theorem dX13_firedShare_15 : decode cX13_firedShare 15 = .ok (.iconst 2, 1) := by decide +kernel
theorem dX13_firedShare_16 : decode cX13_firedShare 16 = .ok (.invokevirtual 225, 3) := by decide +kernel
theorem dX13_firedShare_19 : decode cX13_firedShare 19 = .ok (.i2f, 1) := by decide +kernel
theorem dX13_firedShare_20 : decode cX13_firedShare 20 = .ok (.aload_n 0, 1) := by decide +kernel
theorem dX13_firedShare_21 : decode cX13_firedShare 21 = .ok (.getfield 7, 3) := by decide +kernel
theorem dX13_firedShare_24 : decode cX13_firedShare 24 = .ok (.bipush 15, 2) := by decide +kernel
theorem dX13_firedShare_26 : decode cX13_firedShare 26 = .ok (.iaload, 1) := by decide +kernel
theorem dX13_firedShare_27 : decode cX13_firedShare 27 = .ok (.i2f, 1) := by decide +kernel
theorem dX13_firedShare_28 : decode cX13_firedShare 28 = .ok (.fdiv, 1) := by decide +kernel
theorem dX13_firedShare_29 : decode cX13_firedShare 29 = .ok (.freturn, 1) := by decide +kernel
theorem dX13_undo_0 : decode cX13_undo 0 = .ok (.aload_n 0, 1) := by decide +kernel
theorem dX13_undo_1 : decode cX13_undo 1 = .ok (.getfield 34, 3) := by decide +kernel
theorem dX13_undo_4 : decode cX13_undo 4 = .ok (.ifCond .ne 7, 3) := by decide +kernel
theorem dX13_undo_7 : decode cX13_undo 7 = .ok (.sipush (-10005), 3) := by decide +kernel
theorem dX13_undo_10 : decode cX13_undo 10 = .ok (.ireturn, 1) := by decide +kernel
theorem dX13_undo_11 : decode cX13_undo 11 = .ok (.aload_n 0, 1) := by decide +kernel
theorem dX13_undo_12 : decode cX13_undo 12 = .ok (.dup, 1) := by decide +kernel
theorem dX13_undo_13 : decode cX13_undo 13 = .ok (.getfield 34, 3) := by decide +kernel
theorem dX13_undo_16 : decode cX13_undo 16 = .ok (.iconst 1, 1) := by decide +kernel
theorem dX13_undo_17 : decode cX13_undo 17 = .ok (.isub, 1) := by decide +kernel
theorem dX13_undo_18 : decode cX13_undo 18 = .ok (.putfield 34, 3) := by decide +kernel
theorem dX13_undo_21 : decode cX13_undo 21 = .ok (.iconst 0, 1) := by decide +kernel
theorem dX13_undo_22 : decode cX13_undo 22 = .ok (.istore_n 1, 1) := by decide +kernel
theorem dX13_undo_23 : decode cX13_undo 23 = .ok (.iload_n 1, 1) := by decide +kernel
theorem dX13_undo_24 : decode cX13_undo 24 = .ok (.sipush 227, 3) := by decide +kernel
theorem dX13_undo_27 : decode cX13_undo 27 = .ok (.if_icmp .ge 30, 3) := by decide +kernel
theorem dX13_undo_30 : decode cX13_undo 30 = .ok (.aload_n 0, 1) := by decide +kernel
theorem dX13_undo_31 : decode cX13_undo 31 = .ok (.getfield 7, 3) := by decide +kernel
theorem dX13_undo_34 : decode cX13_undo 34 = .ok (.iload_n 1, 1) := by decide +kernel
theorem dX13_undo_35 : decode cX13_undo 35 = .ok (.aload_n 0, 1) := by decide +kernel
theorem dX13_undo_36 : decode cX13_undo 36 = .ok (.getfield 22, 3) := by decide +kernel
theorem dX13_undo_39 : decode cX13_undo 39 = .ok (.sipush 227, 3) := by decide +kernel
theorem dX13_undo_42 : decode cX13_undo 42 = .ok (.aload_n 0, 1) := by decide +kernel
theorem dX13_undo_43 : decode cX13_undo 43 = .ok (.getfield 34, 3) := by decide +kernel
theorem dX13_undo_46 : decode cX13_undo 46 = .ok (.imul, 1) := by decide +kernel
theorem dX13_undo_47 : decode cX13_undo 47 = .ok (.iload_n 1, 1) := by decide +kernel
theorem dX13_undo_48 : decode cX13_undo 48 = .ok (.iadd, 1) := by decide +kernel
theorem dX13_undo_49 : decode cX13_undo 49 = .ok (.iaload, 1) := by decide +kernel
theorem dX13_undo_50 : decode cX13_undo 50 = .ok (.iastore, 1) := by decide +kernel
theorem dX13_undo_51 : decode cX13_undo 51 = .ok (.iinc 1 1, 3) := by decide +kernel
theorem dX13_undo_54 : decode cX13_undo 54 = .ok (.goto (-31), 3) := by decide +kernel
theorem dX13_undo_57 : decode cX13_undo 57 = .ok (.aload_n 0, 1) := by decide +kernel
theorem dX13_undo_58 : decode cX13_undo 58 = .ok (.getfield 34, 3) := by decide +kernel
theorem dX13_undo_61 : decode cX13_undo 61 = .ok (.ireturn, 1) := by decide +kernel
theorem dX13_save_0 : decode cX13_save 0 = .ok (.iconst 0, 1) := by decide +kernel
theorem dX13_save_1 : decode cX13_save 1 = .ok (.istore_n 1, 1) := by decide +kernel
theorem dX13_save_2 : decode cX13_save 2 = .ok (.iload_n 1, 1) := by decide +kernel
theorem dX13_save_3 : decode cX13_save 3 = .ok (.sipush 227, 3) := by decide +kernel
theorem dX13_save_6 : decode cX13_save 6 = .ok (.if_icmp .ge 21, 3) := by decide +kernel
theorem dX13_save_9 : decode cX13_save 9 = .ok (.aload_n 0, 1) := by decide +kernel
theorem dX13_save_10 : decode cX13_save 10 = .ok (.getfield 16, 3) := by decide +kernel
theorem dX13_save_13 : decode cX13_save 13 = .ok (.iload_n 1, 1) := by decide +kernel
theorem dX13_save_14 : decode cX13_save 14 = .ok (.aload_n 0, 1) := by decide +kernel
theorem dX13_save_15 : decode cX13_save 15 = .ok (.getfield 7, 3) := by decide +kernel
theorem dX13_save_18 : decode cX13_save 18 = .ok (.iload_n 1, 1) := by decide +kernel
theorem dX13_save_19 : decode cX13_save 19 = .ok (.iaload, 1) := by decide +kernel
theorem dX13_save_20 : decode cX13_save 20 = .ok (.iastore, 1) := by decide +kernel
theorem dX13_save_21 : decode cX13_save 21 = .ok (.iinc 1 1, 3) := by decide +kernel
theorem dX13_save_24 : decode cX13_save 24 = .ok (.goto (-22), 3) := by decide +kernel
theorem dX13_save_27 : decode cX13_save 27 = .ok (.aload_n 0, 1) := by decide +kernel
theorem dX13_save_28 : decode cX13_save 28 = .ok (.iconst 1, 1) := by decide +kernel
theorem dX13_save_29 : decode cX13_save 29 = .ok (.putfield 231, 3) := by decide +kernel
theorem dX13_save_32 : decode cX13_save 32 = .ok (.aload_n 0, 1) := by decide +kernel
theorem dX13_save_33 : decode cX13_save 33 = .ok (.getfield 7, 3) := by decide +kernel
theorem dX13_save_36 : decode cX13_save 36 = .ok (.bipush 12, 2) := by decide +kernel
theorem dX13_save_38 : decode cX13_save 38 = .ok (.iaload, 1) := by decide +kernel
theorem dX13_save_39 : decode cX13_save 39 = .ok (.ireturn, 1) := by decide +kernel
theorem dX13_restore_0 : decode cX13_restore 0 = .ok (.aload_n 0, 1) := by decide +kernel
theorem dX13_restore_1 : decode cX13_restore 1 = .ok (.getfield 231, 3) := by decide +kernel
theorem dX13_restore_4 : decode cX13_restore 4 = .ok (.ifCond .ne 7, 3) := by decide +kernel
theorem dX13_restore_7 : decode cX13_restore 7 = .ok (.sipush (-10005), 3) := by decide +kernel
theorem dX13_restore_10 : decode cX13_restore 10 = .ok (.ireturn, 1) := by decide +kernel
theorem dX13_restore_11 : decode cX13_restore 11 = .ok (.iconst 0, 1) := by decide +kernel
theorem dX13_restore_12 : decode cX13_restore 12 = .ok (.istore_n 1, 1) := by decide +kernel
theorem dX13_restore_13 : decode cX13_restore 13 = .ok (.iload_n 1, 1) := by decide +kernel
theorem dX13_restore_14 : decode cX13_restore 14 = .ok (.sipush 227, 3) := by decide +kernel
theorem dX13_restore_17 : decode cX13_restore 17 = .ok (.if_icmp .ge 21, 3) := by decide +kernel
theorem dX13_restore_20 : decode cX13_restore 20 = .ok (.aload_n 0, 1) := by decide +kernel
theorem dX13_restore_21 : decode cX13_restore 21 = .ok (.getfield 7, 3) := by decide +kernel
theorem dX13_restore_24 : decode cX13_restore 24 = .ok (.iload_n 1, 1) := by decide +kernel
theorem dX13_restore_25 : decode cX13_restore 25 = .ok (.aload_n 0, 1) := by decide +kernel
theorem dX13_restore_26 : decode cX13_restore 26 = .ok (.getfield 16, 3) := by decide +kernel
theorem dX13_restore_29 : decode cX13_restore 29 = .ok (.iload_n 1, 1) := by decide +kernel
theorem dX13_restore_30 : decode cX13_restore 30 = .ok (.iaload, 1) := by decide +kernel
theorem dX13_restore_31 : decode cX13_restore 31 = .ok (.iastore, 1) := by decide +kernel
theorem dX13_restore_32 : decode cX13_restore 32 = .ok (.iinc 1 1, 3) := by decide +kernel
theorem dX13_restore_35 : decode cX13_restore 35 = .ok (.goto (-22), 3) := by decide +kernel
theorem dX13_restore_38 : decode cX13_restore 38 = .ok (.aload_n 0, 1) := by decide +kernel
theorem dX13_restore_39 : decode cX13_restore 39 = .ok (.iconst 0, 1) := by decide +kernel
theorem dX13_restore_40 : decode cX13_restore 40 = .ok (.putfield 34, 3) := by decide +kernel
theorem dX13_restore_43 : decode cX13_restore 43 = .ok (.aload_n 0, 1) := by decide +kernel
theorem dX13_restore_44 : decode cX13_restore 44 = .ok (.getfield 7, 3) := by decide +kernel
theorem dX13_restore_47 : decode cX13_restore 47 = .ok (.bipush 12, 2) := by decide +kernel
theorem dX13_restore_49 : decode cX13_restore 49 = .ok (.iaload, 1) := by decide +kernel
theorem dX13_restore_50 : decode cX13_restore 50 = .ok (.ireturn, 1) := by decide +kernel
theorem dJ5_init_d00df_0 : decode cJ5_init_d00df 0 = .ok (.aload_n 0, 1) := by decide +kernel
theorem dJ5_init_d00df_1 : decode cJ5_init_d00df 1 = .ok (.invokespecial 3, 3) := by decide +kernel
theorem dJ5_init_d00df_4 : decode cJ5_init_d00df 4 = .ok (.getstatic 18, 3) := by decide +kernel
theorem dJ5_init_d00df_7 : decode cJ5_init_d00df 7 = .ok (.ifCond .eq 18, 3) := by decide +kernel
theorem dJ5_init_d00df_10 : decode cJ5_init_d00df 10 = .ok (.aload_n 0, 1) := by decide +kernel
theorem dJ5_init_d00df_11 : decode cJ5_init_d00df 11 = .ok (.iload_n 1, 1) := by decide +kernel
theorem dJ5_init_d00df_12 : decode cJ5_init_d00df 12 = .ok (.newarray .byte, 2) := by decide +kernel
theorem dJ5_init_d00df_14 : decode cJ5_init_d00df 14 = .ok (.putfield 15, 3) := by decide +kernel
theorem dJ5_init_d00df_17 : decode cJ5_init_d00df 17 = .ok (.aload_n 0, 1) := by decide +kernel
theorem dJ5_init_d00df_18 : decode cJ5_init_d00df 18 = .ok (.iconst 0, 1) := by decide +kernel
theorem dJ5_init_d00df_19 : decode cJ5_init_d00df 19 = .ok (.putfield 22, 3) := by decide +kernel
theorem dJ5_init_d00df_22 : decode cJ5_init_d00df 22 = .ok (.goto 16, 3) := by decide +kernel
theorem dJ5_init_d00df_25 : decode cJ5_init_d00df 25 = .ok (.aload_n 0, 1) := by decide +kernel
theorem dJ5_init_d00df_26 : decode cJ5_init_d00df 26 = .ok (.iload_n 1, 1) := by decide +kernel
theorem dJ5_init_d00df_27 : decode cJ5_init_d00df 27 = .ok (.invokestatic 26, 3) := by decide +kernel
theorem dJ5_init_d00df_30 : decode cJ5_init_d00df 30 = .ok (.putfield 15, 3) := by decide +kernel
theorem dJ5_init_d00df_33 : decode cJ5_init_d00df 33 = .ok (.aload_n 0, 1) := by decide +kernel
theorem dJ5_init_d00df_34 : decode cJ5_init_d00df 34 = .ok (.iconst 1, 1) := by decide +kernel
theorem dJ5_init_d00df_35 : decode cJ5_init_d00df 35 = .ok (.putfield 22, 3) := by decide +kernel
theorem dJ5_init_d00df_38 : decode cJ5_init_d00df 38 = .ok (.return_, 1) := by decide +kernel
theorem dJ5_length_8abf5_0 : decode cJ5_length_8abf5 0 = .ok (.aload_n 0, 1) := by decide +kernel
theorem dJ5_length_8abf5_1 : decode cJ5_length_8abf5 1 = .ok (.getfield 79, 3) := by decide +kernel
theorem dJ5_length_8abf5_4 : decode cJ5_length_8abf5 4 = .ok (.ireturn, 1) := by decide +kernel
theorem dJ5_ensureCapacityInternal_d00df_0 : decode cJ5_ensureCapacityInternal_d00df 0 = .ok (.aload_n 0, 1) := by decide +kernel
theorem dJ5_ensureCapacityInternal_d00df_1 : decode cJ5_ensureCapacityInternal_d00df 1 = .ok (.getfield 15, 3) := by decide +kernel
theorem dJ5_ensureCapacityInternal_d00df_4 : decode cJ5_ensureCapacityInternal_d00df 4 = .ok (.arraylength, 1) := by decide +kernel
theorem dJ5_ensureCapacityInternal_d00df_5 : decode cJ5_ensureCapacityInternal_d00df 5 = .ok (.aload_n 0, 1) := by decide +kernel
theorem dJ5_ensureCapacityInternal_d00df_6 : decode cJ5_ensureCapacityInternal_d00df 6 = .ok (.getfield 22, 3) := by decide +kernel
theorem dJ5_ensureCapacityInternal_d00df_9 : decode cJ5_ensureCapacityInternal_d00df 9 = .ok (.ishr, 1) := by decide +kernel
theorem dJ5_ensureCapacityInternal_d00df_10 : decode cJ5_ensureCapacityInternal_d00df 10 = .ok (.istore_n 2, 1) := by decide +kernel
theorem dJ5_ensureCapacityInternal_d00df_11 : decode cJ5_ensureCapacityInternal_d00df 11 = .ok (.iload_n 1, 1) := by decide +kernel
theorem dJ5_ensureCapacityInternal_d00df_12 : decode cJ5_ensureCapacityInternal_d00df 12 = .ok (.iload_n 2, 1) := by decide +kernel
theorem dJ5_ensureCapacityInternal_d00df_13 : decode cJ5_ensureCapacityInternal_d00df 13 = .ok (.isub, 1) := by decide +kernel
theorem dJ5_ensureCapacityInternal_d00df_14 : decode cJ5_ensureCapacityInternal_d00df 14 = .ok (.ifCond .le 24, 3) := by decide +kernel
theorem dJ5_ensureCapacityInternal_d00df_17 : decode cJ5_ensureCapacityInternal_d00df 17 = .ok (.aload_n 0, 1) := by decide +kernel
theorem dJ5_ensureCapacityInternal_d00df_18 : decode cJ5_ensureCapacityInternal_d00df 18 = .ok (.aload_n 0, 1) := by decide +kernel
theorem dJ5_ensureCapacityInternal_d00df_19 : decode cJ5_ensureCapacityInternal_d00df 19 = .ok (.getfield 15, 3) := by decide +kernel
theorem dJ5_ensureCapacityInternal_d00df_22 : decode cJ5_ensureCapacityInternal_d00df 22 = .ok (.aload_n 0, 1) := by decide +kernel
theorem dJ5_ensureCapacityInternal_d00df_23 : decode cJ5_ensureCapacityInternal_d00df 23 = .ok (.iload_n 1, 1) := by decide +kernel
theorem dJ5_ensureCapacityInternal_d00df_24 : decode cJ5_ensureCapacityInternal_d00df 24 = .ok (.invokevirtual 104, 3) := by decide +kernel
theorem dJ5_ensureCapacityInternal_d00df_27 : decode cJ5_ensureCapacityInternal_d00df 27 = .ok (.aload_n 0, 1) := by decide +kernel
theorem dJ5_ensureCapacityInternal_d00df_28 : decode cJ5_ensureCapacityInternal_d00df 28 = .ok (.getfield 22, 3) := by decide +kernel
theorem dJ5_ensureCapacityInternal_d00df_31 : decode cJ5_ensureCapacityInternal_d00df 31 = .ok (.ishl, 1) := by decide +kernel
theorem dJ5_ensureCapacityInternal_d00df_32 : decode cJ5_ensureCapacityInternal_d00df 32 = .ok (.invokestatic 108, 3) := by decide +kernel
theorem dJ5_ensureCapacityInternal_d00df_35 : decode cJ5_ensureCapacityInternal_d00df 35 = .ok (.putfield 15, 3) := by decide +kernel
theorem dJ5_ensureCapacityInternal_d00df_38 : decode cJ5_ensureCapacityInternal_d00df 38 = .ok (.return_, 1) := by decide +kernel
theorem dJ5_newCapacity_0f7a4_0 : decode cJ5_newCapacity_0f7a4 0 = .ok (.aload_n 0, 1) := by decide +kernel
theorem dJ5_newCapacity_0f7a4_1 : decode cJ5_newCapacity_0f7a4 1 = .ok (.getfield 15, 3) := by decide +kernel
theorem dJ5_newCapacity_0f7a4_4 : decode cJ5_newCapacity_0f7a4 4 = .ok (.arraylength, 1) := by decide +kernel
theorem dJ5_newCapacity_0f7a4_5 : decode cJ5_newCapacity_0f7a4 5 = .ok (.istore_n 2, 1) := by decide +kernel
theorem dJ5_newCapacity_0f7a4_6 : decode cJ5_newCapacity_0f7a4 6 = .ok (.iload_n 1, 1) := by decide +kernel
theorem dJ5_newCapacity_0f7a4_7 : decode cJ5_newCapacity_0f7a4 7 = .ok (.aload_n 0, 1) := by decide +kernel
theorem dJ5_newCapacity_0f7a4_8 : decode cJ5_newCapacity_0f7a4 8 = .ok (.getfield 22, 3) := by decide +kernel
theorem dJ5_newCapacity_0f7a4_11 : decode cJ5_newCapacity_0f7a4 11 = .ok (.ishl, 1) := by decide +kernel
theorem dJ5_newCapacity_0f7a4_12 : decode cJ5_newCapacity_0f7a4 12 = .ok (.istore_n 3, 1) := by decide +kernel
theorem dJ5_newCapacity_0f7a4_13 : decode cJ5_newCapacity_0f7a4 13 = .ok (.iload_n 3, 1) := by decide +kernel
theorem dJ5_newCapacity_0f7a4_14 : decode cJ5_newCapacity_0f7a4 14 = .ok (.iload_n 2, 1) := by decide +kernel
theorem dJ5_newCapacity_0f7a4_15 : decode cJ5_newCapacity_0f7a4 15 = .ok (.isub, 1) := by decide +kernel
theorem dJ5_newCapacity_0f7a4_16 : decode cJ5_newCapacity_0f7a4 16 = .ok (.istore 4, 2) := by decide +kernel
theorem dJ5_newCapacity_0f7a4_18 : decode cJ5_newCapacity_0f7a4 18 = .ok (.iload_n 2, 1) := by decide +kernel
theorem dJ5_newCapacity_0f7a4_19 : decode cJ5_newCapacity_0f7a4 19 = .ok (.iload 4, 2) := by decide +kernel
theorem dJ5_newCapacity_0f7a4_21 : decode cJ5_newCapacity_0f7a4 21 = .ok (.iload_n 2, 1) := by decide +kernel
theorem dJ5_newCapacity_0f7a4_22 : decode cJ5_newCapacity_0f7a4 22 = .ok (.iconst 2, 1) := by decide +kernel
theorem dJ5_newCapacity_0f7a4_23 : decode cJ5_newCapacity_0f7a4 23 = .ok (.aload_n 0, 1) := by decide +kernel
theorem dJ5_newCapacity_0f7a4_24 : decode cJ5_newCapacity_0f7a4 24 = .ok (.getfield 22, 3) := by decide +kernel
theorem dJ5_newCapacity_0f7a4_27 : decode cJ5_newCapacity_0f7a4 27 = .ok (.ishl, 1) := by decide +kernel
theorem dJ5_newCapacity_0f7a4_28 : decode cJ5_newCapacity_0f7a4 28 = .ok (.iadd, 1) := by decide +kernel
theorem dJ5_newCapacity_0f7a4_29 : decode cJ5_newCapacity_0f7a4 29 = .ok (.invokestatic 114, 3) := by decide +kernel
theorem dJ5_newCapacity_0f7a4_32 : decode cJ5_newCapacity_0f7a4 32 = .ok (.istore 5, 2) := by decide +kernel
theorem dJ5_newCapacity_0f7a4_34 : decode cJ5_newCapacity_0f7a4 34 = .ok (.iload 5, 2) := by decide +kernel
theorem dJ5_newCapacity_0f7a4_36 : decode cJ5_newCapacity_0f7a4 36 = .ok (.ldc 39, 2) := by decide +kernel
theorem dJ5_newCapacity_0f7a4_38 : decode cJ5_newCapacity_0f7a4 38 = .ok (.if_icmp .ne 13, 3) := by decide +kernel
theorem dJ5_newCapacity_0f7a4_41 : decode cJ5_newCapacity_0f7a4 41 = .ok (.new 120, 3) := by decide +kernel
theorem dJ5_newCapacity_0f7a4_44 : decode cJ5_newCapacity_0f7a4 44 = .ok (.dup, 1) := by decide +kernel
theorem dJ5_newCapacity_0f7a4_45 : decode cJ5_newCapacity_0f7a4 45 = .ok (.ldc 122, 2) := by decide +kernel
theorem dJ5_newCapacity_0f7a4_47 : decode cJ5_newCapacity_0f7a4 47 = .ok (.invokespecial 124, 3) := by decide +kernel
theorem dJ5_newCapacity_0f7a4_50 : decode cJ5_newCapacity_0f7a4 50 = .ok (.athrow, 1) := by decide +kernel
theorem dJ5_newCapacity_0f7a4_51 : decode cJ5_newCapacity_0f7a4 51 = .ok (.iload 5, 2) := by decide +kernel
theorem dJ5_newCapacity_0f7a4_53 : decode cJ5_newCapacity_0f7a4 53 = .ok (.aload_n 0, 1) := by decide +kernel
theorem dJ5_newCapacity_0f7a4_54 : decode cJ5_newCapacity_0f7a4 54 = .ok (.getfield 22, 3) := by decide +kernel
theorem dJ5_newCapacity_0f7a4_57 : decode cJ5_newCapacity_0f7a4 57 = .ok (.ishr, 1) := by decide +kernel
theorem dJ5_newCapacity_0f7a4_58 : decode cJ5_newCapacity_0f7a4 58 = .ok (.ireturn, 1) := by decide +kernel
theorem dJ5_inflate_da8c8_0 : decode cJ5_inflate_da8c8 0 = .ok (.aload_n 0, 1) := by decide +kernel
theorem dJ5_inflate_da8c8_1 : decode cJ5_inflate_da8c8 1 = .ok (.invokevirtual 83, 3) := by decide +kernel
theorem dJ5_inflate_da8c8_4 : decode cJ5_inflate_da8c8 4 = .ok (.ifCond .ne 4, 3) := by decide +kernel
theorem dJ5_inflate_da8c8_7 : decode cJ5_inflate_da8c8 7 = .ok (.return_, 1) := by decide +kernel
theorem dJ5_inflate_da8c8_8 : decode cJ5_inflate_da8c8 8 = .ok (.aload_n 0, 1) := by decide +kernel
theorem dJ5_inflate_da8c8_9 : decode cJ5_inflate_da8c8 9 = .ok (.getfield 15, 3) := by decide +kernel
theorem dJ5_inflate_da8c8_12 : decode cJ5_inflate_da8c8 12 = .ok (.arraylength, 1) := by decide +kernel
theorem dJ5_inflate_da8c8_13 : decode cJ5_inflate_da8c8 13 = .ok (.invokestatic 26, 3) := by decide +kernel
theorem dJ5_inflate_da8c8_16 : decode cJ5_inflate_da8c8 16 = .ok (.astore_n 1, 1) := by decide +kernel
theorem dJ5_inflate_da8c8_17 : decode cJ5_inflate_da8c8 17 = .ok (.aload_n 0, 1) := by decide +kernel
theorem dJ5_inflate_da8c8_18 : decode cJ5_inflate_da8c8 18 = .ok (.getfield 15, 3) := by decide +kernel
theorem dJ5_inflate_da8c8_21 : decode cJ5_inflate_da8c8 21 = .ok (.iconst 0, 1) := by decide +kernel
theorem dJ5_inflate_da8c8_22 : decode cJ5_inflate_da8c8 22 = .ok (.aload_n 1, 1) := by decide +kernel
theorem dJ5_inflate_da8c8_23 : decode cJ5_inflate_da8c8 23 = .ok (.iconst 0, 1) := by decide +kernel
theorem dJ5_inflate_da8c8_24 : decode cJ5_inflate_da8c8 24 = .ok (.aload_n 0, 1) := by decide +kernel
theorem dJ5_inflate_da8c8_25 : decode cJ5_inflate_da8c8 25 = .ok (.getfield 79, 3) := by decide +kernel
theorem dJ5_inflate_da8c8_28 : decode cJ5_inflate_da8c8 28 = .ok (.invokestatic 125, 3) := by decide +kernel
theorem dJ5_inflate_da8c8_31 : decode cJ5_inflate_da8c8 31 = .ok (.aload_n 0, 1) := by decide +kernel
theorem dJ5_inflate_da8c8_32 : decode cJ5_inflate_da8c8 32 = .ok (.aload_n 1, 1) := by decide +kernel
theorem dJ5_inflate_da8c8_33 : decode cJ5_inflate_da8c8 33 = .ok (.putfield 15, 3) := by decide +kernel
theorem dJ5_inflate_da8c8_36 : decode cJ5_inflate_da8c8 36 = .ok (.aload_n 0, 1) := by decide +kernel
theorem dJ5_inflate_da8c8_37 : decode cJ5_inflate_da8c8 37 = .ok (.iconst 1, 1) := by decide +kernel
theorem dJ5_inflate_da8c8_38 : decode cJ5_inflate_da8c8 38 = .ok (.putfield 22, 3) := by decide +kernel
theorem dJ5_inflate_da8c8_41 : decode cJ5_inflate_da8c8 41 = .ok (.return_, 1) := by decide +kernel
theorem dJ5_setLength_d00df_0 : decode cJ5_setLength_d00df 0 = .ok (.iload_n 1, 1) := by decide +kernel
theorem dJ5_setLength_d00df_1 : decode cJ5_setLength_d00df 1 = .ok (.ifCond .ge 12, 3) := by decide +kernel
theorem dJ5_setLength_d00df_4 : decode cJ5_setLength_d00df 4 = .ok (.new 129, 3) := by decide +kernel
theorem dJ5_setLength_d00df_7 : decode cJ5_setLength_d00df 7 = .ok (.dup, 1) := by decide +kernel
theorem dJ5_setLength_d00df_8 : decode cJ5_setLength_d00df 8 = .ok (.iload_n 1, 1) := by decide +kernel
theorem dJ5_setLength_d00df_9 : decode cJ5_setLength_d00df 9 = .ok (.invokespecial 131, 3) := by decide +kernel
theorem dJ5_setLength_d00df_12 : decode cJ5_setLength_d00df 12 = .ok (.athrow, 1) := by decide +kernel
theorem dJ5_setLength_d00df_13 : decode cJ5_setLength_d00df 13 = .ok (.aload_n 0, 1) := by decide +kernel
theorem dJ5_setLength_d00df_14 : decode cJ5_setLength_d00df 14 = .ok (.iload_n 1, 1) := by decide +kernel
theorem dJ5_setLength_d00df_15 : decode cJ5_setLength_d00df 15 = .ok (.invokevirtual 100, 3) := by decide +kernel
theorem dJ5_setLength_d00df_18 : decode cJ5_setLength_d00df 18 = .ok (.aload_n 0, 1) := by decide +kernel
theorem dJ5_setLength_d00df_19 : decode cJ5_setLength_d00df 19 = .ok (.getfield 79, 3) := by decide +kernel
theorem dJ5_setLength_d00df_22 : decode cJ5_setLength_d00df 22 = .ok (.iload_n 1, 1) := by decide +kernel
theorem dJ5_setLength_d00df_23 : decode cJ5_setLength_d00df 23 = .ok (.if_icmp .ge 40, 3) := by decide +kernel
theorem dJ5_setLength_d00df_26 : decode cJ5_setLength_d00df 26 = .ok (.aload_n 0, 1) := by decide +kernel
theorem dJ5_setLength_d00df_27 : decode cJ5_setLength_d00df 27 = .ok (.invokevirtual 83, 3) := by decide +kernel
theorem dJ5_setLength_d00df_30 : decode cJ5_setLength_d00df 30 = .ok (.ifCond .eq 18, 3) := by decide +kernel
theorem dJ5_setLength_d00df_33 : decode cJ5_setLength_d00df 33 = .ok (.aload_n 0, 1) := by decide +kernel
theorem dJ5_setLength_d00df_34 : decode cJ5_setLength_d00df 34 = .ok (.getfield 15, 3) := by decide +kernel
theorem dJ5_setLength_d00df_37 : decode cJ5_setLength_d00df 37 = .ok (.aload_n 0, 1) := by decide +kernel
theorem dJ5_setLength_d00df_38 : decode cJ5_setLength_d00df 38 = .ok (.getfield 79, 3) := by decide +kernel
theorem dJ5_setLength_d00df_41 : decode cJ5_setLength_d00df 41 = .ok (.iload_n 1, 1) := by decide +kernel
theorem dJ5_setLength_d00df_42 : decode cJ5_setLength_d00df 42 = .ok (.invokestatic 133, 3) := by decide +kernel
theorem dJ5_setLength_d00df_45 : decode cJ5_setLength_d00df 45 = .ok (.goto 31, 3) := by decide +kernel
theorem dJ5_setLength_d00df_48 : decode cJ5_setLength_d00df 48 = .ok (.aload_n 0, 1) := by decide +kernel
theorem dJ5_setLength_d00df_49 : decode cJ5_setLength_d00df 49 = .ok (.getfield 15, 3) := by decide +kernel
theorem dJ5_setLength_d00df_52 : decode cJ5_setLength_d00df 52 = .ok (.aload_n 0, 1) := by decide +kernel
theorem dJ5_setLength_d00df_53 : decode cJ5_setLength_d00df 53 = .ok (.getfield 79, 3) := by decide +kernel
theorem dJ5_setLength_d00df_56 : decode cJ5_setLength_d00df 56 = .ok (.iload_n 1, 1) := by decide +kernel
theorem dJ5_setLength_d00df_57 : decode cJ5_setLength_d00df 57 = .ok (.invokestatic 137, 3) := by decide +kernel
theorem dJ5_setLength_d00df_60 : decode cJ5_setLength_d00df 60 = .ok (.goto 16, 3) := by decide +kernel
theorem dJ5_setLength_d00df_63 : decode cJ5_setLength_d00df 63 = .ok (.aload_n 0, 1) := by decide +kernel
theorem dJ5_setLength_d00df_64 : decode cJ5_setLength_d00df 64 = .ok (.getfield 79, 3) := by decide +kernel
theorem dJ5_setLength_d00df_67 : decode cJ5_setLength_d00df 67 = .ok (.iload_n 1, 1) := by decide +kernel
theorem dJ5_setLength_d00df_68 : decode cJ5_setLength_d00df 68 = .ok (.if_icmp .le 8, 3) := by decide +kernel
theorem dJ5_setLength_d00df_71 : decode cJ5_setLength_d00df 71 = .ok (.aload_n 0, 1) := by decide +kernel
theorem dJ5_setLength_d00df_72 : decode cJ5_setLength_d00df 72 = .ok (.iconst 1, 1) := by decide +kernel
theorem dJ5_setLength_d00df_73 : decode cJ5_setLength_d00df 73 = .ok (.putfield 73, 3) := by decide +kernel
theorem dJ5_setLength_d00df_76 : decode cJ5_setLength_d00df 76 = .ok (.aload_n 0, 1) := by decide +kernel
theorem dJ5_setLength_d00df_77 : decode cJ5_setLength_d00df 77 = .ok (.iload_n 1, 1) := by decide +kernel
theorem dJ5_setLength_d00df_78 : decode cJ5_setLength_d00df 78 = .ok (.putfield 79, 3) := by decide +kernel
theorem dJ5_setLength_d00df_81 : decode cJ5_setLength_d00df 81 = .ok (.return_, 1) := by decide +kernel
theorem dJ5_charAt_5068e_0 : decode cJ5_charAt_5068e 0 = .ok (.aload_n 0, 1) := by decide +kernel
theorem dJ5_charAt_5068e_1 : decode cJ5_charAt_5068e 1 = .ok (.getfield 22, 3) := by decide +kernel
theorem dJ5_charAt_5068e_4 : decode cJ5_charAt_5068e 4 = .ok (.istore_n 2, 1) := by decide +kernel
theorem dJ5_charAt_5068e_5 : decode cJ5_charAt_5068e 5 = .ok (.aload_n 0, 1) := by decide +kernel
theorem dJ5_charAt_5068e_6 : decode cJ5_charAt_5068e 6 = .ok (.getfield 15, 3) := by decide +kernel
theorem dJ5_charAt_5068e_9 : decode cJ5_charAt_5068e 9 = .ok (.astore_n 3, 1) := by decide +kernel
theorem dJ5_charAt_5068e_10 : decode cJ5_charAt_5068e 10 = .ok (.aload_n 0, 1) := by decide +kernel
theorem dJ5_charAt_5068e_11 : decode cJ5_charAt_5068e 11 = .ok (.getfield 79, 3) := by decide +kernel
theorem dJ5_charAt_5068e_14 : decode cJ5_charAt_5068e 14 = .ok (.aload_n 3, 1) := by decide +kernel
theorem dJ5_charAt_5068e_15 : decode cJ5_charAt_5068e 15 = .ok (.arraylength, 1) := by decide +kernel
theorem dJ5_charAt_5068e_16 : decode cJ5_charAt_5068e 16 = .ok (.iload_n 2, 1) := by decide +kernel
theorem dJ5_charAt_5068e_17 : decode cJ5_charAt_5068e 17 = .ok (.ishr, 1) := by decide +kernel
theorem dJ5_charAt_5068e_18 : decode cJ5_charAt_5068e 18 = .ok (.invokestatic 138, 3) := by decide +kernel
theorem dJ5_charAt_5068e_21 : decode cJ5_charAt_5068e 21 = .ok (.istore 4, 2) := by decide +kernel
theorem dJ5_charAt_5068e_23 : decode cJ5_charAt_5068e 23 = .ok (.iload_n 1, 1) := by decide +kernel
theorem dJ5_charAt_5068e_24 : decode cJ5_charAt_5068e 24 = .ok (.iload 4, 2) := by decide +kernel
theorem dJ5_charAt_5068e_26 : decode cJ5_charAt_5068e 26 = .ok (.invokestatic 144, 3) := by decide +kernel
theorem dJ5_charAt_5068e_29 : decode cJ5_charAt_5068e 29 = .ok (.iload_n 2, 1) := by decide +kernel
theorem dJ5_charAt_5068e_30 : decode cJ5_charAt_5068e 30 = .ok (.ifCond .ne 12, 3) := by decide +kernel
theorem dJ5_charAt_5068e_33 : decode cJ5_charAt_5068e 33 = .ok (.aload_n 3, 1) := by decide +kernel
theorem dJ5_charAt_5068e_34 : decode cJ5_charAt_5068e 34 = .ok (.iload_n 1, 1) := by decide +kernel
theorem dJ5_charAt_5068e_35 : decode cJ5_charAt_5068e 35 = .ok (.baload, 1) := by decide +kernel
theorem dJ5_charAt_5068e_36 : decode cJ5_charAt_5068e 36 = .ok (.sipush 255, 3) := by decide +kernel
theorem dJ5_charAt_5068e_39 : decode cJ5_charAt_5068e 39 = .ok (.iand, 1) := by decide +kernel
theorem dJ5_charAt_5068e_40 : decode cJ5_charAt_5068e 40 = .ok (.i2c, 1) := by decide +kernel
theorem dJ5_charAt_5068e_41 : decode cJ5_charAt_5068e 41 = .ok (.ireturn, 1) := by decide +kernel
theorem dJ5_charAt_5068e_42 : decode cJ5_charAt_5068e 42 = .ok (.aload_n 3, 1) := by decide +kernel
theorem dJ5_charAt_5068e_43 : decode cJ5_charAt_5068e 43 = .ok (.iload_n 1, 1) := by decide +kernel
theorem dJ5_charAt_5068e_44 : decode cJ5_charAt_5068e 44 = .ok (.invokestatic 148, 3) := by decide +kernel
theorem dJ5_charAt_5068e_47 : decode cJ5_charAt_5068e 47 = .ok (.ireturn, 1) := by decide +kernel
theorem dJ5_append_3fe6f_0 : decode cJ5_append_3fe6f 0 = .ok (.aload_n 0, 1) := by decide +kernel
theorem dJ5_append_3fe6f_1 : decode cJ5_append_3fe6f 1 = .ok (.aload_n 0, 1) := by decide +kernel
theorem dJ5_append_3fe6f_2 : decode cJ5_append_3fe6f 2 = .ok (.getfield 79, 3) := by decide +kernel
theorem dJ5_append_3fe6f_5 : decode cJ5_append_3fe6f 5 = .ok (.iconst 1, 1) := by decide +kernel
theorem dJ5_append_3fe6f_6 : decode cJ5_append_3fe6f 6 = .ok (.iadd, 1) := by decide +kernel
theorem dJ5_append_3fe6f_7 : decode cJ5_append_3fe6f 7 = .ok (.invokevirtual 100, 3) := by decide +kernel
theorem dJ5_append_3fe6f_10 : decode cJ5_append_3fe6f 10 = .ok (.aload_n 0, 1) := by decide +kernel
theorem dJ5_append_3fe6f_11 : decode cJ5_append_3fe6f 11 = .ok (.invokevirtual 83, 3) := by decide +kernel
theorem dJ5_append_3fe6f_14 : decode cJ5_append_3fe6f 14 = .ok (.ifCond .eq 31, 3) := by decide +kernel
theorem dJ5_append_3fe6f_17 : decode cJ5_append_3fe6f 17 = .ok (.iload_n 1, 1) := by decide +kernel
theorem dJ5_append_3fe6f_18 : decode cJ5_append_3fe6f 18 = .ok (.invokestatic 191, 3) := by decide +kernel
theorem dJ5_append_3fe6f_21 : decode cJ5_append_3fe6f 21 = .ok (.ifCond .eq 24, 3) := by decide +kernel
theorem dJ5_append_3fe6f_24 : decode cJ5_append_3fe6f 24 = .ok (.aload_n 0, 1) := by decide +kernel
theorem dJ5_append_3fe6f_25 : decode cJ5_append_3fe6f 25 = .ok (.getfield 15, 3) := by decide +kernel
theorem dJ5_append_3fe6f_28 : decode cJ5_append_3fe6f 28 = .ok (.aload_n 0, 1) := by decide +kernel
theorem dJ5_append_3fe6f_29 : decode cJ5_append_3fe6f 29 = .ok (.dup, 1) := by decide +kernel
theorem dJ5_append_3fe6f_30 : decode cJ5_append_3fe6f 30 = .ok (.getfield 79, 3) := by decide +kernel
theorem dJ5_append_3fe6f_33 : decode cJ5_append_3fe6f 33 = .ok (.dup_x1, 1) := by decide +kernel
theorem dJ5_append_3fe6f_34 : decode cJ5_append_3fe6f 34 = .ok (.iconst 1, 1) := by decide +kernel
theorem dJ5_append_3fe6f_35 : decode cJ5_append_3fe6f 35 = .ok (.iadd, 1) := by decide +kernel
theorem dJ5_append_3fe6f_36 : decode cJ5_append_3fe6f 36 = .ok (.putfield 79, 3) := by decide +kernel
theorem dJ5_append_3fe6f_39 : decode cJ5_append_3fe6f 39 = .ok (.iload_n 1, 1) := by decide +kernel
theorem dJ5_append_3fe6f_40 : decode cJ5_append_3fe6f 40 = .ok (.i2b, 1) := by decide +kernel
theorem dJ5_append_3fe6f_41 : decode cJ5_append_3fe6f 41 = .ok (.bastore, 1) := by decide +kernel
theorem dJ5_append_3fe6f_42 : decode cJ5_append_3fe6f 42 = .ok (.goto 33, 3) := by decide +kernel
theorem dJ5_append_3fe6f_45 : decode cJ5_append_3fe6f 45 = .ok (.aload_n 0, 1) := by decide +kernel
theorem dJ5_append_3fe6f_46 : decode cJ5_append_3fe6f 46 = .ok (.invokevirtual 83, 3) := by decide +kernel
theorem dJ5_append_3fe6f_49 : decode cJ5_append_3fe6f 49 = .ok (.ifCond .eq 7, 3) := by decide +kernel
theorem dJ5_append_3fe6f_52 : decode cJ5_append_3fe6f 52 = .ok (.aload_n 0, 1) := by decide +kernel
theorem dJ5_append_3fe6f_53 : decode cJ5_append_3fe6f 53 = .ok (.invokevirtual 195, 3) := by decide +kernel
theorem dJ5_append_3fe6f_56 : decode cJ5_append_3fe6f 56 = .ok (.aload_n 0, 1) := by decide +kernel
theorem dJ5_append_3fe6f_57 : decode cJ5_append_3fe6f 57 = .ok (.getfield 15, 3) := by decide +kernel
theorem dJ5_append_3fe6f_60 : decode cJ5_append_3fe6f 60 = .ok (.aload_n 0, 1) := by decide +kernel
theorem dJ5_append_3fe6f_61 : decode cJ5_append_3fe6f 61 = .ok (.dup, 1) := by decide +kernel
theorem dJ5_append_3fe6f_62 : decode cJ5_append_3fe6f 62 = .ok (.getfield 79, 3) := by decide +kernel
theorem dJ5_append_3fe6f_65 : decode cJ5_append_3fe6f 65 = .ok (.dup_x1, 1) := by decide +kernel
theorem dJ5_append_3fe6f_66 : decode cJ5_append_3fe6f 66 = .ok (.iconst 1, 1) := by decide +kernel
theorem dJ5_append_3fe6f_67 : decode cJ5_append_3fe6f 67 = .ok (.iadd, 1) := by decide +kernel
theorem dJ5_append_3fe6f_68 : decode cJ5_append_3fe6f 68 = .ok (.putfield 79, 3) := by decide +kernel
theorem dJ5_append_3fe6f_71 : decode cJ5_append_3fe6f 71 = .ok (.iload_n 1, 1) := by decide +kernel
theorem dJ5_append_3fe6f_72 : decode cJ5_append_3fe6f 72 = .ok (.invokestatic 197, 3) := by decide +kernel
theorem dJ5_append_3fe6f_75 : decode cJ5_append_3fe6f 75 = .ok (.aload_n 0, 1) := by decide +kernel
theorem dJ5_append_3fe6f_76 : decode cJ5_append_3fe6f 76 = .ok (.areturn, 1) := by decide +kernel
theorem dJ5_append_c97b9_0 : decode cJ5_append_c97b9 0 = .ok (.aload_n 0, 1) := by decide +kernel
theorem dJ5_append_c97b9_1 : decode cJ5_append_c97b9 1 = .ok (.getfield 79, 3) := by decide +kernel
theorem dJ5_append_c97b9_4 : decode cJ5_append_c97b9 4 = .ok (.istore_n 2, 1) := by decide +kernel
theorem dJ5_append_c97b9_5 : decode cJ5_append_c97b9 5 = .ok (.iload_n 2, 1) := by decide +kernel
theorem dJ5_append_c97b9_6 : decode cJ5_append_c97b9 6 = .ok (.iload_n 1, 1) := by decide +kernel
theorem dJ5_append_c97b9_7 : decode cJ5_append_c97b9 7 = .ok (.invokestatic 245, 3) := by decide +kernel
theorem dJ5_append_c97b9_10 : decode cJ5_append_c97b9 10 = .ok (.iadd, 1) := by decide +kernel
theorem dJ5_append_c97b9_11 : decode cJ5_append_c97b9 11 = .ok (.istore_n 3, 1) := by decide +kernel
theorem dJ5_append_c97b9_12 : decode cJ5_append_c97b9 12 = .ok (.aload_n 0, 1) := by decide +kernel
theorem dJ5_append_c97b9_13 : decode cJ5_append_c97b9 13 = .ok (.iload_n 3, 1) := by decide +kernel
theorem dJ5_append_c97b9_14 : decode cJ5_append_c97b9 14 = .ok (.invokevirtual 100, 3) := by decide +kernel
theorem dJ5_append_c97b9_17 : decode cJ5_append_c97b9 17 = .ok (.aload_n 0, 1) := by decide +kernel
theorem dJ5_append_c97b9_18 : decode cJ5_append_c97b9 18 = .ok (.invokevirtual 83, 3) := by decide +kernel
theorem dJ5_append_c97b9_21 : decode cJ5_append_c97b9 21 = .ok (.ifCond .eq 16, 3) := by decide +kernel
theorem dJ5_append_c97b9_24 : decode cJ5_append_c97b9 24 = .ok (.iload_n 1, 1) := by decide +kernel
theorem dJ5_append_c97b9_25 : decode cJ5_append_c97b9 25 = .ok (.iload_n 3, 1) := by decide +kernel
theorem dJ5_append_c97b9_26 : decode cJ5_append_c97b9 26 = .ok (.aload_n 0, 1) := by decide +kernel
theorem dJ5_append_c97b9_27 : decode cJ5_append_c97b9 27 = .ok (.getfield 15, 3) := by decide +kernel
theorem dJ5_append_c97b9_30 : decode cJ5_append_c97b9 30 = .ok (.invokestatic 248, 3) := by decide +kernel
theorem dJ5_append_c97b9_33 : decode cJ5_append_c97b9 33 = .ok (.pop, 1) := by decide +kernel
theorem dJ5_append_c97b9_34 : decode cJ5_append_c97b9 34 = .ok (.goto 14, 3) := by decide +kernel
theorem dJ5_append_c97b9_37 : decode cJ5_append_c97b9 37 = .ok (.iload_n 1, 1) := by decide +kernel
theorem dJ5_append_c97b9_38 : decode cJ5_append_c97b9 38 = .ok (.iload_n 2, 1) := by decide +kernel
theorem dJ5_append_c97b9_39 : decode cJ5_append_c97b9 39 = .ok (.iload_n 3, 1) := by decide +kernel
theorem dJ5_append_c97b9_40 : decode cJ5_append_c97b9 40 = .ok (.aload_n 0, 1) := by decide +kernel
theorem dJ5_append_c97b9_41 : decode cJ5_append_c97b9 41 = .ok (.getfield 15, 3) := by decide +kernel
theorem dJ5_append_c97b9_44 : decode cJ5_append_c97b9 44 = .ok (.invokestatic 251, 3) := by decide +kernel
theorem dJ5_append_c97b9_47 : decode cJ5_append_c97b9 47 = .ok (.pop, 1) := by decide +kernel
theorem dJ5_append_c97b9_48 : decode cJ5_append_c97b9 48 = .ok (.aload_n 0, 1) := by decide +kernel
theorem dJ5_append_c97b9_49 : decode cJ5_append_c97b9 49 = .ok (.iload_n 3, 1) := by decide +kernel
theorem dJ5_append_c97b9_50 : decode cJ5_append_c97b9 50 = .ok (.putfield 79, 3) := by decide +kernel
theorem dJ5_append_c97b9_53 : decode cJ5_append_c97b9 53 = .ok (.aload_n 0, 1) := by decide +kernel
theorem dJ5_append_c97b9_54 : decode cJ5_append_c97b9 54 = .ok (.areturn, 1) := by decide +kernel
theorem dJ5_isLatin1_aae02_0 : decode cJ5_isLatin1_aae02 0 = .ok (.getstatic 18, 3) := by decide +kernel
theorem dJ5_isLatin1_aae02_3 : decode cJ5_isLatin1_aae02 3 = .ok (.ifCond .eq 14, 3) := by decide +kernel
theorem dJ5_isLatin1_aae02_6 : decode cJ5_isLatin1_aae02 6 = .ok (.aload_n 0, 1) := by decide +kernel
theorem dJ5_isLatin1_aae02_7 : decode cJ5_isLatin1_aae02 7 = .ok (.getfield 22, 3) := by decide +kernel
theorem dJ5_isLatin1_aae02_10 : decode cJ5_isLatin1_aae02 10 = .ok (.ifCond .ne 7, 3) := by decide +kernel
theorem dJ5_isLatin1_aae02_13 : decode cJ5_isLatin1_aae02 13 = .ok (.iconst 1, 1) := by decide +kernel
theorem dJ5_isLatin1_aae02_14 : decode cJ5_isLatin1_aae02 14 = .ok (.goto 4, 3) := by decide +kernel
theorem dJ5_isLatin1_aae02_17 : decode cJ5_isLatin1_aae02 17 = .ok (.iconst 0, 1) := by decide +kernel
theorem dJ5_isLatin1_aae02_18 : decode cJ5_isLatin1_aae02 18 = .ok (.ireturn, 1) := by decide +kernel
theorem dJx29ce0_ordinal_8abf5_0 : decode cJx29ce0_ordinal_8abf5 0 = .ok (.aload_n 0, 1) := by decide +kernel
theorem dJx29ce0_ordinal_8abf5_1 : decode cJx29ce0_ordinal_8abf5 1 = .ok (.getfield 7, 3) := by decide +kernel
theorem dJx29ce0_ordinal_8abf5_4 : decode cJx29ce0_ordinal_8abf5 4 = .ok (.ireturn, 1) := by decide +kernel
theorem dJ6_getChars_ba4f3_0 : decode cJ6_getChars_ba4f3 0 = .ok (.iload_n 1, 1) := by decide +kernel
theorem dJ6_getChars_ba4f3_1 : decode cJ6_getChars_ba4f3 1 = .ok (.istore 5, 2) := by decide +kernel
theorem dJ6_getChars_ba4f3_3 : decode cJ6_getChars_ba4f3 3 = .ok (.iload_n 0, 1) := by decide +kernel
theorem dJ6_getChars_ba4f3_4 : decode cJ6_getChars_ba4f3 4 = .ok (.ifCond .ge 7, 3) := by decide +kernel
theorem dJ6_getChars_ba4f3_7 : decode cJ6_getChars_ba4f3 7 = .ok (.iconst 1, 1) := by decide +kernel
theorem dJ6_getChars_ba4f3_8 : decode cJ6_getChars_ba4f3 8 = .ok (.goto 4, 3) := by decide +kernel
theorem dJ6_getChars_ba4f3_11 : decode cJ6_getChars_ba4f3 11 = .ok (.iconst 0, 1) := by decide +kernel
theorem dJ6_getChars_ba4f3_12 : decode cJ6_getChars_ba4f3 12 = .ok (.istore 6, 2) := by decide +kernel
theorem dJ6_getChars_ba4f3_14 : decode cJ6_getChars_ba4f3 14 = .ok (.iload 6, 2) := by decide +kernel
theorem dJ6_getChars_ba4f3_16 : decode cJ6_getChars_ba4f3 16 = .ok (.ifCond .ne 6, 3) := by decide +kernel
theorem dJ6_getChars_ba4f3_19 : decode cJ6_getChars_ba4f3 19 = .ok (.iload_n 0, 1) := by decide +kernel
theorem dJ6_getChars_ba4f3_20 : decode cJ6_getChars_ba4f3 20 = .ok (.ineg, 1) := by decide +kernel
theorem dJ6_getChars_ba4f3_21 : decode cJ6_getChars_ba4f3 21 = .ok (.istore_n 0, 1) := by decide +kernel
theorem dJ6_getChars_ba4f3_22 : decode cJ6_getChars_ba4f3 22 = .ok (.iload_n 0, 1) := by decide +kernel
theorem dJ6_getChars_ba4f3_23 : decode cJ6_getChars_ba4f3 23 = .ok (.bipush (-100), 2) := by decide +kernel
theorem dJ6_getChars_ba4f3_25 : decode cJ6_getChars_ba4f3 25 = .ok (.if_icmp .gt 47, 3) := by decide +kernel
theorem dJ6_getChars_ba4f3_28 : decode cJ6_getChars_ba4f3 28 = .ok (.iload_n 0, 1) := by decide +kernel
theorem dJ6_getChars_ba4f3_29 : decode cJ6_getChars_ba4f3 29 = .ok (.bipush 100, 2) := by decide +kernel
theorem dJ6_getChars_ba4f3_31 : decode cJ6_getChars_ba4f3 31 = .ok (.idiv, 1) := by decide +kernel
theorem dJ6_getChars_ba4f3_32 : decode cJ6_getChars_ba4f3 32 = .ok (.istore_n 3, 1) := by decide +kernel
theorem dJ6_getChars_ba4f3_33 : decode cJ6_getChars_ba4f3 33 = .ok (.iload_n 3, 1) := by decide +kernel
theorem dJ6_getChars_ba4f3_34 : decode cJ6_getChars_ba4f3 34 = .ok (.bipush 100, 2) := by decide +kernel
theorem dJ6_getChars_ba4f3_36 : decode cJ6_getChars_ba4f3 36 = .ok (.imul, 1) := by decide +kernel
theorem dJ6_getChars_ba4f3_37 : decode cJ6_getChars_ba4f3 37 = .ok (.iload_n 0, 1) := by decide +kernel
theorem dJ6_getChars_ba4f3_38 : decode cJ6_getChars_ba4f3 38 = .ok (.isub, 1) := by decide +kernel
theorem dJ6_getChars_ba4f3_39 : decode cJ6_getChars_ba4f3 39 = .ok (.istore 4, 2) := by decide +kernel
theorem dJ6_getChars_ba4f3_41 : decode cJ6_getChars_ba4f3 41 = .ok (.iload_n 3, 1) := by decide +kernel
theorem dJ6_getChars_ba4f3_42 : decode cJ6_getChars_ba4f3 42 = .ok (.istore_n 0, 1) := by decide +kernel
theorem dJ6_getChars_ba4f3_43 : decode cJ6_getChars_ba4f3 43 = .ok (.aload_n 2, 1) := by decide +kernel
theorem dJ6_getChars_ba4f3_44 : decode cJ6_getChars_ba4f3 44 = .ok (.iinc 5 (-1), 3) := by decide +kernel
theorem dJ6_getChars_ba4f3_47 : decode cJ6_getChars_ba4f3 47 = .ok (.iload 5, 2) := by decide +kernel
theorem dJ6_getChars_ba4f3_49 : decode cJ6_getChars_ba4f3 49 = .ok (.getstatic 83, 3) := by decide +kernel
theorem dJ6_getChars_ba4f3_52 : decode cJ6_getChars_ba4f3 52 = .ok (.iload 4, 2) := by decide +kernel
theorem dJ6_getChars_ba4f3_54 : decode cJ6_getChars_ba4f3 54 = .ok (.baload, 1) := by decide +kernel
theorem dJ6_getChars_ba4f3_55 : decode cJ6_getChars_ba4f3 55 = .ok (.bastore, 1) := by decide +kernel
theorem dJ6_getChars_ba4f3_56 : decode cJ6_getChars_ba4f3 56 = .ok (.aload_n 2, 1) := by decide +kernel
theorem dJ6_getChars_ba4f3_57 : decode cJ6_getChars_ba4f3 57 = .ok (.iinc 5 (-1), 3) := by decide +kernel
theorem dJ6_getChars_ba4f3_60 : decode cJ6_getChars_ba4f3 60 = .ok (.iload 5, 2) := by decide +kernel
theorem dJ6_getChars_ba4f3_62 : decode cJ6_getChars_ba4f3 62 = .ok (.getstatic 87, 3) := by decide +kernel
theorem dJ6_getChars_ba4f3_65 : decode cJ6_getChars_ba4f3 65 = .ok (.iload 4, 2) := by decide +kernel
theorem dJ6_getChars_ba4f3_67 : decode cJ6_getChars_ba4f3 67 = .ok (.baload, 1) := by decide +kernel
theorem dJ6_getChars_ba4f3_68 : decode cJ6_getChars_ba4f3 68 = .ok (.bastore, 1) := by decide +kernel
theorem dJ6_getChars_ba4f3_69 : decode cJ6_getChars_ba4f3 69 = .ok (.goto (-47), 3) := by decide +kernel
theorem dJ6_getChars_ba4f3_72 : decode cJ6_getChars_ba4f3 72 = .ok (.aload_n 2, 1) := by decide +kernel
theorem dJ6_getChars_ba4f3_73 : decode cJ6_getChars_ba4f3 73 = .ok (.iinc 5 (-1), 3) := by decide +kernel
theorem dJ6_getChars_ba4f3_76 : decode cJ6_getChars_ba4f3 76 = .ok (.iload 5, 2) := by decide +kernel
theorem dJ6_getChars_ba4f3_78 : decode cJ6_getChars_ba4f3 78 = .ok (.getstatic 83, 3) := by decide +kernel
theorem dJ6_getChars_ba4f3_81 : decode cJ6_getChars_ba4f3 81 = .ok (.iload_n 0, 1) := by decide +kernel
theorem dJ6_getChars_ba4f3_82 : decode cJ6_getChars_ba4f3 82 = .ok (.ineg, 1) := by decide +kernel
theorem dJ6_getChars_ba4f3_83 : decode cJ6_getChars_ba4f3 83 = .ok (.baload, 1) := by decide +kernel
theorem dJ6_getChars_ba4f3_84 : decode cJ6_getChars_ba4f3 84 = .ok (.bastore, 1) := by decide +kernel
theorem dJ6_getChars_ba4f3_85 : decode cJ6_getChars_ba4f3 85 = .ok (.iload_n 0, 1) := by decide +kernel
theorem dJ6_getChars_ba4f3_86 : decode cJ6_getChars_ba4f3 86 = .ok (.bipush (-9), 2) := by decide +kernel
theorem dJ6_getChars_ba4f3_88 : decode cJ6_getChars_ba4f3 88 = .ok (.if_icmp .ge 16, 3) := by decide +kernel
theorem dJ6_getChars_ba4f3_91 : decode cJ6_getChars_ba4f3 91 = .ok (.aload_n 2, 1) := by decide +kernel
theorem dJ6_getChars_ba4f3_92 : decode cJ6_getChars_ba4f3 92 = .ok (.iinc 5 (-1), 3) := by decide +kernel
theorem dJ6_getChars_ba4f3_95 : decode cJ6_getChars_ba4f3 95 = .ok (.iload 5, 2) := by decide +kernel
theorem dJ6_getChars_ba4f3_97 : decode cJ6_getChars_ba4f3 97 = .ok (.getstatic 87, 3) := by decide +kernel
theorem dJ6_getChars_ba4f3_100 : decode cJ6_getChars_ba4f3 100 = .ok (.iload_n 0, 1) := by decide +kernel
theorem dJ6_getChars_ba4f3_101 : decode cJ6_getChars_ba4f3 101 = .ok (.ineg, 1) := by decide +kernel
theorem dJ6_getChars_ba4f3_102 : decode cJ6_getChars_ba4f3 102 = .ok (.baload, 1) := by decide +kernel
theorem dJ6_getChars_ba4f3_103 : decode cJ6_getChars_ba4f3 103 = .ok (.bastore, 1) := by decide +kernel
theorem dJ6_getChars_ba4f3_104 : decode cJ6_getChars_ba4f3 104 = .ok (.iload 6, 2) := by decide +kernel
theorem dJ6_getChars_ba4f3_106 : decode cJ6_getChars_ba4f3 106 = .ok (.ifCond .eq 12, 3) := by decide +kernel
theorem dJ6_getChars_ba4f3_109 : decode cJ6_getChars_ba4f3 109 = .ok (.aload_n 2, 1) := by decide +kernel
theorem dJ6_getChars_ba4f3_110 : decode cJ6_getChars_ba4f3 110 = .ok (.iinc 5 (-1), 3) := by decide +kernel
theorem dJ6_getChars_ba4f3_113 : decode cJ6_getChars_ba4f3 113 = .ok (.iload 5, 2) := by decide +kernel
theorem dJ6_getChars_ba4f3_115 : decode cJ6_getChars_ba4f3 115 = .ok (.bipush 45, 2) := by decide +kernel
theorem dJ6_getChars_ba4f3_117 : decode cJ6_getChars_ba4f3 117 = .ok (.bastore, 1) := by decide +kernel
theorem dJ6_getChars_ba4f3_118 : decode cJ6_getChars_ba4f3 118 = .ok (.iload 5, 2) := by decide +kernel
theorem dJ6_getChars_ba4f3_120 : decode cJ6_getChars_ba4f3 120 = .ok (.ireturn, 1) := by decide +kernel
theorem dJ6_stringSize_0f7a4_0 : decode cJ6_stringSize_0f7a4 0 = .ok (.iconst 1, 1) := by decide +kernel
theorem dJ6_stringSize_0f7a4_1 : decode cJ6_stringSize_0f7a4 1 = .ok (.istore_n 1, 1) := by decide +kernel
theorem dJ6_stringSize_0f7a4_2 : decode cJ6_stringSize_0f7a4 2 = .ok (.iload_n 0, 1) := by decide +kernel
theorem dJ6_stringSize_0f7a4_3 : decode cJ6_stringSize_0f7a4 3 = .ok (.ifCond .lt 8, 3) := by decide +kernel
theorem dJ6_stringSize_0f7a4_6 : decode cJ6_stringSize_0f7a4 6 = .ok (.iconst 0, 1) := by decide +kernel
theorem dJ6_stringSize_0f7a4_7 : decode cJ6_stringSize_0f7a4 7 = .ok (.istore_n 1, 1) := by decide +kernel
theorem dJ6_stringSize_0f7a4_8 : decode cJ6_stringSize_0f7a4 8 = .ok (.iload_n 0, 1) := by decide +kernel
theorem dJ6_stringSize_0f7a4_9 : decode cJ6_stringSize_0f7a4 9 = .ok (.ineg, 1) := by decide +kernel
theorem dJ6_stringSize_0f7a4_10 : decode cJ6_stringSize_0f7a4 10 = .ok (.istore_n 0, 1) := by decide +kernel
theorem dJ6_stringSize_0f7a4_11 : decode cJ6_stringSize_0f7a4 11 = .ok (.bipush (-10), 2) := by decide +kernel
theorem dJ6_stringSize_0f7a4_13 : decode cJ6_stringSize_0f7a4 13 = .ok (.istore_n 2, 1) := by decide +kernel
theorem dJ6_stringSize_0f7a4_14 : decode cJ6_stringSize_0f7a4 14 = .ok (.iconst 1, 1) := by decide +kernel
theorem dJ6_stringSize_0f7a4_15 : decode cJ6_stringSize_0f7a4 15 = .ok (.istore_n 3, 1) := by decide +kernel
theorem dJ6_stringSize_0f7a4_16 : decode cJ6_stringSize_0f7a4 16 = .ok (.iload_n 3, 1) := by decide +kernel
theorem dJ6_stringSize_0f7a4_17 : decode cJ6_stringSize_0f7a4 17 = .ok (.bipush 10, 2) := by decide +kernel
theorem dJ6_stringSize_0f7a4_19 : decode cJ6_stringSize_0f7a4 19 = .ok (.if_icmp .ge 23, 3) := by decide +kernel
theorem dJ6_stringSize_0f7a4_22 : decode cJ6_stringSize_0f7a4 22 = .ok (.iload_n 0, 1) := by decide +kernel
theorem dJ6_stringSize_0f7a4_23 : decode cJ6_stringSize_0f7a4 23 = .ok (.iload_n 2, 1) := by decide +kernel
theorem dJ6_stringSize_0f7a4_24 : decode cJ6_stringSize_0f7a4 24 = .ok (.if_icmp .le 7, 3) := by decide +kernel
theorem dJ6_stringSize_0f7a4_27 : decode cJ6_stringSize_0f7a4 27 = .ok (.iload_n 3, 1) := by decide +kernel
theorem dJ6_stringSize_0f7a4_28 : decode cJ6_stringSize_0f7a4 28 = .ok (.iload_n 1, 1) := by decide +kernel
theorem dJ6_stringSize_0f7a4_29 : decode cJ6_stringSize_0f7a4 29 = .ok (.iadd, 1) := by decide +kernel
theorem dJ6_stringSize_0f7a4_30 : decode cJ6_stringSize_0f7a4 30 = .ok (.ireturn, 1) := by decide +kernel
theorem dJ6_stringSize_0f7a4_31 : decode cJ6_stringSize_0f7a4 31 = .ok (.bipush 10, 2) := by decide +kernel
theorem dJ6_stringSize_0f7a4_33 : decode cJ6_stringSize_0f7a4 33 = .ok (.iload_n 2, 1) := by decide +kernel
theorem dJ6_stringSize_0f7a4_34 : decode cJ6_stringSize_0f7a4 34 = .ok (.imul, 1) := by decide +kernel
theorem dJ6_stringSize_0f7a4_35 : decode cJ6_stringSize_0f7a4 35 = .ok (.istore_n 2, 1) := by decide +kernel
theorem dJ6_stringSize_0f7a4_36 : decode cJ6_stringSize_0f7a4 36 = .ok (.iinc 3 1, 3) := by decide +kernel
theorem dJ6_stringSize_0f7a4_39 : decode cJ6_stringSize_0f7a4 39 = .ok (.goto (-23), 3) := by decide +kernel
theorem dJ6_stringSize_0f7a4_42 : decode cJ6_stringSize_0f7a4 42 = .ok (.bipush 10, 2) := by decide +kernel
theorem dJ6_stringSize_0f7a4_44 : decode cJ6_stringSize_0f7a4 44 = .ok (.iload_n 1, 1) := by decide +kernel
theorem dJ6_stringSize_0f7a4_45 : decode cJ6_stringSize_0f7a4 45 = .ok (.iadd, 1) := by decide +kernel
theorem dJ6_stringSize_0f7a4_46 : decode cJ6_stringSize_0f7a4 46 = .ok (.ireturn, 1) := by decide +kernel
theorem dJ9_floorDiv_7cf53_0 : decode cJ9_floorDiv_7cf53 0 = .ok (.iload_n 0, 1) := by decide +kernel
theorem dJ9_floorDiv_7cf53_1 : decode cJ9_floorDiv_7cf53 1 = .ok (.iload_n 1, 1) := by decide +kernel
theorem dJ9_floorDiv_7cf53_2 : decode cJ9_floorDiv_7cf53 2 = .ok (.idiv, 1) := by decide +kernel
theorem dJ9_floorDiv_7cf53_3 : decode cJ9_floorDiv_7cf53 3 = .ok (.istore_n 2, 1) := by decide +kernel
theorem dJ9_floorDiv_7cf53_4 : decode cJ9_floorDiv_7cf53 4 = .ok (.iload_n 0, 1) := by decide +kernel
theorem dJ9_floorDiv_7cf53_5 : decode cJ9_floorDiv_7cf53 5 = .ok (.iload_n 1, 1) := by decide +kernel
theorem dJ9_floorDiv_7cf53_6 : decode cJ9_floorDiv_7cf53 6 = .ok (.ixor, 1) := by decide +kernel
theorem dJ9_floorDiv_7cf53_7 : decode cJ9_floorDiv_7cf53 7 = .ok (.ifCond .ge 14, 3) := by decide +kernel
theorem dJ9_floorDiv_7cf53_10 : decode cJ9_floorDiv_7cf53 10 = .ok (.iload_n 2, 1) := by decide +kernel
theorem dJ9_floorDiv_7cf53_11 : decode cJ9_floorDiv_7cf53 11 = .ok (.iload_n 1, 1) := by decide +kernel
theorem dJ9_floorDiv_7cf53_12 : decode cJ9_floorDiv_7cf53 12 = .ok (.imul, 1) := by decide +kernel
theorem dJ9_floorDiv_7cf53_13 : decode cJ9_floorDiv_7cf53 13 = .ok (.iload_n 0, 1) := by decide +kernel
theorem dJ9_floorDiv_7cf53_14 : decode cJ9_floorDiv_7cf53 14 = .ok (.if_icmp .eq 7, 3) := by decide +kernel
theorem dJ9_floorDiv_7cf53_17 : decode cJ9_floorDiv_7cf53 17 = .ok (.iload_n 2, 1) := by decide +kernel
theorem dJ9_floorDiv_7cf53_18 : decode cJ9_floorDiv_7cf53 18 = .ok (.iconst 1, 1) := by decide +kernel
theorem dJ9_floorDiv_7cf53_19 : decode cJ9_floorDiv_7cf53 19 = .ok (.isub, 1) := by decide +kernel
theorem dJ9_floorDiv_7cf53_20 : decode cJ9_floorDiv_7cf53 20 = .ok (.ireturn, 1) := by decide +kernel
theorem dJ9_floorDiv_7cf53_21 : decode cJ9_floorDiv_7cf53 21 = .ok (.iload_n 2, 1) := by decide +kernel
theorem dJ9_floorDiv_7cf53_22 : decode cJ9_floorDiv_7cf53 22 = .ok (.ireturn, 1) := by decide +kernel
theorem dJ9_abs_0f7a4_0 : decode cJ9_abs_0f7a4 0 = .ok (.iload_n 0, 1) := by decide +kernel
theorem dJ9_abs_0f7a4_1 : decode cJ9_abs_0f7a4 1 = .ok (.ifCond .ge 8, 3) := by decide +kernel
theorem dJ9_abs_0f7a4_4 : decode cJ9_abs_0f7a4 4 = .ok (.iload_n 0, 1) := by decide +kernel
theorem dJ9_abs_0f7a4_5 : decode cJ9_abs_0f7a4 5 = .ok (.ineg, 1) := by decide +kernel
theorem dJ9_abs_0f7a4_6 : decode cJ9_abs_0f7a4 6 = .ok (.goto 4, 3) := by decide +kernel
theorem dJ9_abs_0f7a4_9 : decode cJ9_abs_0f7a4 9 = .ok (.iload_n 0, 1) := by decide +kernel
theorem dJ9_abs_0f7a4_10 : decode cJ9_abs_0f7a4 10 = .ok (.ireturn, 1) := by decide +kernel
theorem dJ9_max_7cf53_0 : decode cJ9_max_7cf53 0 = .ok (.iload_n 0, 1) := by decide +kernel
theorem dJ9_max_7cf53_1 : decode cJ9_max_7cf53 1 = .ok (.iload_n 1, 1) := by decide +kernel
theorem dJ9_max_7cf53_2 : decode cJ9_max_7cf53 2 = .ok (.if_icmp .lt 7, 3) := by decide +kernel
theorem dJ9_max_7cf53_5 : decode cJ9_max_7cf53 5 = .ok (.iload_n 0, 1) := by decide +kernel
theorem dJ9_max_7cf53_6 : decode cJ9_max_7cf53 6 = .ok (.goto 4, 3) := by decide +kernel
theorem dJ9_max_7cf53_9 : decode cJ9_max_7cf53 9 = .ok (.iload_n 1, 1) := by decide +kernel
theorem dJ9_max_7cf53_10 : decode cJ9_max_7cf53 10 = .ok (.ireturn, 1) := by decide +kernel
theorem dJ9_min_7cf53_0 : decode cJ9_min_7cf53 0 = .ok (.iload_n 0, 1) := by decide +kernel
theorem dJ9_min_7cf53_1 : decode cJ9_min_7cf53 1 = .ok (.iload_n 1, 1) := by decide +kernel
theorem dJ9_min_7cf53_2 : decode cJ9_min_7cf53 2 = .ok (.if_icmp .gt 7, 3) := by decide +kernel
theorem dJ9_min_7cf53_5 : decode cJ9_min_7cf53 5 = .ok (.iload_n 0, 1) := by decide +kernel
theorem dJ9_min_7cf53_6 : decode cJ9_min_7cf53 6 = .ok (.goto 4, 3) := by decide +kernel
theorem dJ9_min_7cf53_9 : decode cJ9_min_7cf53 9 = .ok (.iload_n 1, 1) := by decide +kernel
theorem dJ9_min_7cf53_10 : decode cJ9_min_7cf53 10 = .ok (.ireturn, 1) := by decide +kernel
theorem dJ0_length_8abf5_0 : decode cJ0_length_8abf5 0 = .ok (.aload_n 0, 1) := by decide +kernel
theorem dJ0_length_8abf5_1 : decode cJ0_length_8abf5 1 = .ok (.getfield 9, 3) := by decide +kernel
theorem dJ0_length_8abf5_4 : decode cJ0_length_8abf5 4 = .ok (.arraylength, 1) := by decide +kernel
theorem dJ0_length_8abf5_5 : decode cJ0_length_8abf5 5 = .ok (.aload_n 0, 1) := by decide +kernel
theorem dJ0_length_8abf5_6 : decode cJ0_length_8abf5 6 = .ok (.invokevirtual 335, 3) := by decide +kernel
theorem dJ0_length_8abf5_9 : decode cJ0_length_8abf5 9 = .ok (.ishr, 1) := by decide +kernel
theorem dJ0_length_8abf5_10 : decode cJ0_length_8abf5 10 = .ok (.ireturn, 1) := by decide +kernel
theorem dJ0_charAt_5068e_0 : decode cJ0_charAt_5068e 0 = .ok (.aload_n 0, 1) := by decide +kernel
theorem dJ0_charAt_5068e_1 : decode cJ0_charAt_5068e 1 = .ok (.invokevirtual 492, 3) := by decide +kernel
theorem dJ0_charAt_5068e_4 : decode cJ0_charAt_5068e 4 = .ok (.ifCond .eq 12, 3) := by decide +kernel
theorem dJ0_charAt_5068e_7 : decode cJ0_charAt_5068e 7 = .ok (.aload_n 0, 1) := by decide +kernel
theorem dJ0_charAt_5068e_8 : decode cJ0_charAt_5068e 8 = .ok (.getfield 9, 3) := by decide +kernel
theorem dJ0_charAt_5068e_11 : decode cJ0_charAt_5068e 11 = .ok (.iload_n 1, 1) := by decide +kernel
theorem dJ0_charAt_5068e_12 : decode cJ0_charAt_5068e 12 = .ok (.invokestatic 495, 3) := by decide +kernel
theorem dJ0_charAt_5068e_15 : decode cJ0_charAt_5068e 15 = .ok (.ireturn, 1) := by decide +kernel
theorem dJ0_charAt_5068e_16 : decode cJ0_charAt_5068e 16 = .ok (.aload_n 0, 1) := by decide +kernel
theorem dJ0_charAt_5068e_17 : decode cJ0_charAt_5068e 17 = .ok (.getfield 9, 3) := by decide +kernel
theorem dJ0_charAt_5068e_20 : decode cJ0_charAt_5068e 20 = .ok (.iload_n 1, 1) := by decide +kernel
theorem dJ0_charAt_5068e_21 : decode cJ0_charAt_5068e 21 = .ok (.invokestatic 498, 3) := by decide +kernel
theorem dJ0_charAt_5068e_24 : decode cJ0_charAt_5068e 24 = .ok (.ireturn, 1) := by decide +kernel
theorem dJ0_coder_7d493_0 : decode cJ0_coder_7d493 0 = .ok (.getstatic 38, 3) := by decide +kernel
theorem dJ0_coder_7d493_3 : decode cJ0_coder_7d493 3 = .ok (.ifCond .eq 10, 3) := by decide +kernel
theorem dJ0_coder_7d493_6 : decode cJ0_coder_7d493 6 = .ok (.aload_n 0, 1) := by decide +kernel
theorem dJ0_coder_7d493_7 : decode cJ0_coder_7d493 7 = .ok (.getfield 15, 3) := by decide +kernel
theorem dJ0_coder_7d493_10 : decode cJ0_coder_7d493 10 = .ok (.goto 4, 3) := by decide +kernel
theorem dJ0_coder_7d493_13 : decode cJ0_coder_7d493 13 = .ok (.iconst 1, 1) := by decide +kernel
theorem dJ0_coder_7d493_14 : decode cJ0_coder_7d493 14 = .ok (.ireturn, 1) := by decide +kernel
theorem dJ0_isLatin1_aae02_0 : decode cJ0_isLatin1_aae02 0 = .ok (.getstatic 38, 3) := by decide +kernel
theorem dJ0_isLatin1_aae02_3 : decode cJ0_isLatin1_aae02 3 = .ok (.ifCond .eq 14, 3) := by decide +kernel
theorem dJ0_isLatin1_aae02_6 : decode cJ0_isLatin1_aae02 6 = .ok (.aload_n 0, 1) := by decide +kernel
theorem dJ0_isLatin1_aae02_7 : decode cJ0_isLatin1_aae02 7 = .ok (.getfield 15, 3) := by decide +kernel
theorem dJ0_isLatin1_aae02_10 : decode cJ0_isLatin1_aae02 10 = .ok (.ifCond .ne 7, 3) := by decide +kernel
theorem dJ0_isLatin1_aae02_13 : decode cJ0_isLatin1_aae02 13 = .ok (.iconst 1, 1) := by decide +kernel
theorem dJ0_isLatin1_aae02_14 : decode cJ0_isLatin1_aae02 14 = .ok (.goto 4, 3) := by decide +kernel
theorem dJ0_isLatin1_aae02_17 : decode cJ0_isLatin1_aae02 17 = .ok (.iconst 0, 1) := by decide +kernel
theorem dJ0_isLatin1_aae02_18 : decode cJ0_isLatin1_aae02 18 = .ok (.ireturn, 1) := by decide +kernel
theorem dJ0_checkIndex_df160_0 : decode cJ0_checkIndex_df160 0 = .ok (.iload_n 0, 1) := by decide +kernel
theorem dJ0_checkIndex_df160_1 : decode cJ0_checkIndex_df160 1 = .ok (.iload_n 1, 1) := by decide +kernel
theorem dJ0_checkIndex_df160_2 : decode cJ0_checkIndex_df160 2 = .ok (.getstatic 1053, 3) := by decide +kernel
theorem dJ0_checkIndex_df160_5 : decode cJ0_checkIndex_df160 5 = .ok (.invokestatic 1059, 3) := by decide +kernel
theorem dJ0_checkIndex_df160_8 : decode cJ0_checkIndex_df160 8 = .ok (.pop, 1) := by decide +kernel
theorem dJ0_checkIndex_df160_9 : decode cJ0_checkIndex_df160 9 = .ok (.return_, 1) := by decide +kernel
theorem dJ0_checkBoundsOffCount_cabcc_0 : decode cJ0_checkBoundsOffCount_cabcc 0 = .ok (.iload_n 0, 1) := by decide +kernel
theorem dJ0_checkBoundsOffCount_cabcc_1 : decode cJ0_checkBoundsOffCount_cabcc 1 = .ok (.iload_n 1, 1) := by decide +kernel
theorem dJ0_checkBoundsOffCount_cabcc_2 : decode cJ0_checkBoundsOffCount_cabcc 2 = .ok (.iload_n 2, 1) := by decide +kernel
theorem dJ0_checkBoundsOffCount_cabcc_3 : decode cJ0_checkBoundsOffCount_cabcc 3 = .ok (.getstatic 1053, 3) := by decide +kernel
theorem dJ0_checkBoundsOffCount_cabcc_6 : decode cJ0_checkBoundsOffCount_cabcc 6 = .ok (.invokestatic 1065, 3) := by decide +kernel
theorem dJ0_checkBoundsOffCount_cabcc_9 : decode cJ0_checkBoundsOffCount_cabcc 9 = .ok (.ireturn, 1) := by decide +kernel
theorem dJ0_checkBoundsBeginEnd_23922_0 : decode cJ0_checkBoundsBeginEnd_23922 0 = .ok (.iload_n 0, 1) := by decide +kernel
theorem dJ0_checkBoundsBeginEnd_23922_1 : decode cJ0_checkBoundsBeginEnd_23922 1 = .ok (.iload_n 1, 1) := by decide +kernel
theorem dJ0_checkBoundsBeginEnd_23922_2 : decode cJ0_checkBoundsBeginEnd_23922 2 = .ok (.iload_n 2, 1) := by decide +kernel
theorem dJ0_checkBoundsBeginEnd_23922_3 : decode cJ0_checkBoundsBeginEnd_23922 3 = .ok (.getstatic 1053, 3) := by decide +kernel
theorem dJ0_checkBoundsBeginEnd_23922_6 : decode cJ0_checkBoundsBeginEnd_23922 6 = .ok (.invokestatic 1062, 3) := by decide +kernel
theorem dJ0_checkBoundsBeginEnd_23922_9 : decode cJ0_checkBoundsBeginEnd_23922 9 = .ok (.pop, 1) := by decide +kernel
theorem dJ0_checkBoundsBeginEnd_23922_10 : decode cJ0_checkBoundsBeginEnd_23922 10 = .ok (.return_, 1) := by decide +kernel
theorem dJ4_init_da8c8_0 : decode cJ4_init_da8c8 0 = .ok (.aload_n 0, 1) := by decide +kernel
theorem dJ4_init_da8c8_1 : decode cJ4_init_da8c8 1 = .ok (.bipush 16, 2) := by decide +kernel
theorem dJ4_init_da8c8_3 : decode cJ4_init_da8c8 3 = .ok (.invokespecial 1, 3) := by decide +kernel
theorem dJ4_init_da8c8_6 : decode cJ4_init_da8c8 6 = .ok (.return_, 1) := by decide +kernel
theorem dJ4_append_cf468_0 : decode cJ4_append_cf468 0 = .ok (.aload_n 0, 1) := by decide +kernel
theorem dJ4_append_cf468_1 : decode cJ4_append_cf468 1 = .ok (.iload_n 1, 1) := by decide +kernel
theorem dJ4_append_cf468_2 : decode cJ4_append_cf468 2 = .ok (.invokespecial 50, 3) := by decide +kernel
theorem dJ4_append_cf468_5 : decode cJ4_append_cf468 5 = .ok (.pop, 1) := by decide +kernel
theorem dJ4_append_cf468_6 : decode cJ4_append_cf468 6 = .ok (.aload_n 0, 1) := by decide +kernel
theorem dJ4_append_cf468_7 : decode cJ4_append_cf468 7 = .ok (.areturn, 1) := by decide +kernel
theorem dJ4_append_bf812_0 : decode cJ4_append_bf812 0 = .ok (.aload_n 0, 1) := by decide +kernel
theorem dJ4_append_bf812_1 : decode cJ4_append_bf812 1 = .ok (.iload_n 1, 1) := by decide +kernel
theorem dJ4_append_bf812_2 : decode cJ4_append_bf812 2 = .ok (.invokespecial 53, 3) := by decide +kernel
theorem dJ4_append_bf812_5 : decode cJ4_append_bf812 5 = .ok (.pop, 1) := by decide +kernel
theorem dJ4_append_bf812_6 : decode cJ4_append_bf812 6 = .ok (.aload_n 0, 1) := by decide +kernel
theorem dJ4_append_bf812_7 : decode cJ4_append_bf812 7 = .ok (.areturn, 1) := by decide +kernel
theorem dJ4_charAt_5068e_0 : decode cJ4_charAt_5068e 0 = .ok (.aload_n 0, 1) := by decide +kernel
theorem dJ4_charAt_5068e_1 : decode cJ4_charAt_5068e 1 = .ok (.iload_n 1, 1) := by decide +kernel
theorem dJ4_charAt_5068e_2 : decode cJ4_charAt_5068e 2 = .ok (.invokespecial 329, 3) := by decide +kernel
theorem dJ4_charAt_5068e_5 : decode cJ4_charAt_5068e 5 = .ok (.ireturn, 1) := by decide +kernel
theorem dJ4_setLength_d00df_0 : decode cJ4_setLength_d00df 0 = .ok (.aload_n 0, 1) := by decide +kernel
theorem dJ4_setLength_d00df_1 : decode cJ4_setLength_d00df 1 = .ok (.iload_n 1, 1) := by decide +kernel
theorem dJ4_setLength_d00df_2 : decode cJ4_setLength_d00df 2 = .ok (.invokespecial 333, 3) := by decide +kernel
theorem dJ4_setLength_d00df_5 : decode cJ4_setLength_d00df 5 = .ok (.return_, 1) := by decide +kernel
theorem dJ4_length_8abf5_0 : decode cJ4_length_8abf5 0 = .ok (.aload_n 0, 1) := by decide +kernel
theorem dJ4_length_8abf5_1 : decode cJ4_length_8abf5 1 = .ok (.invokespecial 343, 3) := by decide +kernel
theorem dJ4_length_8abf5_4 : decode cJ4_length_8abf5 4 = .ok (.ireturn, 1) := by decide +kernel
theorem dJ1_charAt_3b067_0 : decode cJ1_charAt_3b067 0 = .ok (.iload_n 1, 1) := by decide +kernel
theorem dJ1_charAt_3b067_1 : decode cJ1_charAt_3b067 1 = .ok (.aload_n 0, 1) := by decide +kernel
theorem dJ1_charAt_3b067_2 : decode cJ1_charAt_3b067 2 = .ok (.arraylength, 1) := by decide +kernel
theorem dJ1_charAt_3b067_3 : decode cJ1_charAt_3b067 3 = .ok (.invokestatic 9, 3) := by decide +kernel
theorem dJ1_charAt_3b067_6 : decode cJ1_charAt_3b067 6 = .ok (.aload_n 0, 1) := by decide +kernel
theorem dJ1_charAt_3b067_7 : decode cJ1_charAt_3b067 7 = .ok (.iload_n 1, 1) := by decide +kernel
theorem dJ1_charAt_3b067_8 : decode cJ1_charAt_3b067 8 = .ok (.baload, 1) := by decide +kernel
theorem dJ1_charAt_3b067_9 : decode cJ1_charAt_3b067 9 = .ok (.sipush 255, 3) := by decide +kernel
theorem dJ1_charAt_3b067_12 : decode cJ1_charAt_3b067 12 = .ok (.iand, 1) := by decide +kernel
theorem dJ1_charAt_3b067_13 : decode cJ1_charAt_3b067 13 = .ok (.i2c, 1) := by decide +kernel
theorem dJ1_charAt_3b067_14 : decode cJ1_charAt_3b067 14 = .ok (.ireturn, 1) := by decide +kernel
theorem dJ1_canEncode_fc78d_0 : decode cJ1_canEncode_fc78d 0 = .ok (.iload_n 0, 1) := by decide +kernel
theorem dJ1_canEncode_fc78d_1 : decode cJ1_canEncode_fc78d 1 = .ok (.sipush 255, 3) := by decide +kernel
theorem dJ1_canEncode_fc78d_4 : decode cJ1_canEncode_fc78d 4 = .ok (.if_icmp .gt 7, 3) := by decide +kernel
theorem dJ1_canEncode_fc78d_7 : decode cJ1_canEncode_fc78d 7 = .ok (.iconst 1, 1) := by decide +kernel
theorem dJ1_canEncode_fc78d_8 : decode cJ1_canEncode_fc78d 8 = .ok (.goto 4, 3) := by decide +kernel
theorem dJ1_canEncode_fc78d_11 : decode cJ1_canEncode_fc78d 11 = .ok (.iconst 0, 1) := by decide +kernel
theorem dJ1_canEncode_fc78d_12 : decode cJ1_canEncode_fc78d 12 = .ok (.ireturn, 1) := by decide +kernel
theorem dJ1_fillNull_b72d1_0 : decode cJ1_fillNull_b72d1 0 = .ok (.aload_n 0, 1) := by decide +kernel
theorem dJ1_fillNull_b72d1_1 : decode cJ1_fillNull_b72d1 1 = .ok (.iload_n 1, 1) := by decide +kernel
theorem dJ1_fillNull_b72d1_2 : decode cJ1_fillNull_b72d1 2 = .ok (.iload_n 2, 1) := by decide +kernel
theorem dJ1_fillNull_b72d1_3 : decode cJ1_fillNull_b72d1 3 = .ok (.iconst 0, 1) := by decide +kernel
theorem dJ1_fillNull_b72d1_4 : decode cJ1_fillNull_b72d1 4 = .ok (.invokestatic 236, 3) := by decide +kernel
theorem dJ1_fillNull_b72d1_7 : decode cJ1_fillNull_b72d1 7 = .ok (.return_, 1) := by decide +kernel
theorem dJ1_inflate_0e8fd_0 : decode cJ1_inflate_0e8fd 0 = .ok (.aload_n 0, 1) := by decide +kernel
theorem dJ1_inflate_0e8fd_1 : decode cJ1_inflate_0e8fd 1 = .ok (.iload_n 1, 1) := by decide +kernel
theorem dJ1_inflate_0e8fd_2 : decode cJ1_inflate_0e8fd 2 = .ok (.aload_n 2, 1) := by decide +kernel
theorem dJ1_inflate_0e8fd_3 : decode cJ1_inflate_0e8fd 3 = .ok (.iload_n 3, 1) := by decide +kernel
theorem dJ1_inflate_0e8fd_4 : decode cJ1_inflate_0e8fd 4 = .ok (.iload 4, 2) := by decide +kernel
theorem dJ1_inflate_0e8fd_6 : decode cJ1_inflate_0e8fd 6 = .ok (.invokestatic 240, 3) := by decide +kernel
theorem dJ1_inflate_0e8fd_9 : decode cJ1_inflate_0e8fd 9 = .ok (.return_, 1) := by decide +kernel
theorem dJ2_newBytesFor_77867_0 : decode cJ2_newBytesFor_77867 0 = .ok (.iload_n 0, 1) := by decide +kernel
theorem dJ2_newBytesFor_77867_1 : decode cJ2_newBytesFor_77867 1 = .ok (.invokestatic 11, 3) := by decide +kernel
theorem dJ2_newBytesFor_77867_4 : decode cJ2_newBytesFor_77867 4 = .ok (.newarray .byte, 2) := by decide +kernel
theorem dJ2_newBytesFor_77867_6 : decode cJ2_newBytesFor_77867 6 = .ok (.areturn, 1) := by decide +kernel
theorem dJ2_newBytesLength_0f7a4_0 : decode cJ2_newBytesLength_0f7a4 0 = .ok (.iload_n 0, 1) := by decide +kernel
theorem dJ2_newBytesLength_0f7a4_1 : decode cJ2_newBytesLength_0f7a4 1 = .ok (.ifCond .ge 11, 3) := by decide +kernel
theorem dJ2_newBytesLength_0f7a4_4 : decode cJ2_newBytesLength_0f7a4 4 = .ok (.new 17, 3) := by decide +kernel
theorem dJ2_newBytesLength_0f7a4_7 : decode cJ2_newBytesLength_0f7a4 7 = .ok (.dup, 1) := by decide +kernel
theorem dJ2_newBytesLength_0f7a4_8 : decode cJ2_newBytesLength_0f7a4 8 = .ok (.invokespecial 19, 3) := by decide +kernel
theorem dJ2_newBytesLength_0f7a4_11 : decode cJ2_newBytesLength_0f7a4 11 = .ok (.athrow, 1) := by decide +kernel
theorem dJ2_newBytesLength_0f7a4_12 : decode cJ2_newBytesLength_0f7a4 12 = .ok (.iload_n 0, 1) := by decide +kernel
theorem dJ2_newBytesLength_0f7a4_13 : decode cJ2_newBytesLength_0f7a4 13 = .ok (.ldc 20, 2) := by decide +kernel
theorem dJ2_newBytesLength_0f7a4_15 : decode cJ2_newBytesLength_0f7a4 15 = .ok (.if_icmp .lt 40, 3) := by decide +kernel
theorem dJ2_newBytesLength_0f7a4_18 : decode cJ2_newBytesLength_0f7a4 18 = .ok (.new 21, 3) := by decide +kernel
theorem dJ2_newBytesLength_0f7a4_21 : decode cJ2_newBytesLength_0f7a4 21 = .ok (.dup, 1) := by decide +kernel
theorem dJ2_newBytesLength_0f7a4_22 : decode cJ2_newBytesLength_0f7a4 22 = .ok (.new 23, 3) := by decide +kernel
theorem dJ2_newBytesLength_0f7a4_25 : decode cJ2_newBytesLength_0f7a4 25 = .ok (.dup, 1) := by decide +kernel
theorem dJ2_newBytesLength_0f7a4_26 : decode cJ2_newBytesLength_0f7a4 26 = .ok (.invokespecial 25, 3) := by decide +kernel
theorem dJ2_newBytesLength_0f7a4_29 : decode cJ2_newBytesLength_0f7a4 29 = .ok (.ldc 26, 2) := by decide +kernel
theorem dJ2_newBytesLength_0f7a4_31 : decode cJ2_newBytesLength_0f7a4 31 = .ok (.invokevirtual 28, 3) := by decide +kernel
theorem dJ2_newBytesLength_0f7a4_34 : decode cJ2_newBytesLength_0f7a4 34 = .ok (.iload_n 0, 1) := by decide +kernel
theorem dJ2_newBytesLength_0f7a4_35 : decode cJ2_newBytesLength_0f7a4 35 = .ok (.invokevirtual 32, 3) := by decide +kernel
theorem dJ2_newBytesLength_0f7a4_38 : decode cJ2_newBytesLength_0f7a4 38 = .ok (.ldc 35, 2) := by decide +kernel
theorem dJ2_newBytesLength_0f7a4_40 : decode cJ2_newBytesLength_0f7a4 40 = .ok (.invokevirtual 28, 3) := by decide +kernel
theorem dJ2_newBytesLength_0f7a4_43 : decode cJ2_newBytesLength_0f7a4 43 = .ok (.ldc 20, 2) := by decide +kernel
theorem dJ2_newBytesLength_0f7a4_45 : decode cJ2_newBytesLength_0f7a4 45 = .ok (.invokevirtual 32, 3) := by decide +kernel
theorem dJ2_newBytesLength_0f7a4_48 : decode cJ2_newBytesLength_0f7a4 48 = .ok (.invokevirtual 37, 3) := by decide +kernel
theorem dJ2_newBytesLength_0f7a4_51 : decode cJ2_newBytesLength_0f7a4 51 = .ok (.invokespecial 41, 3) := by decide +kernel
theorem dJ2_newBytesLength_0f7a4_54 : decode cJ2_newBytesLength_0f7a4 54 = .ok (.athrow, 1) := by decide +kernel
theorem dJ2_newBytesLength_0f7a4_55 : decode cJ2_newBytesLength_0f7a4 55 = .ok (.iload_n 0, 1) := by decide +kernel
theorem dJ2_newBytesLength_0f7a4_56 : decode cJ2_newBytesLength_0f7a4 56 = .ok (.iconst 1, 1) := by decide +kernel
theorem dJ2_newBytesLength_0f7a4_57 : decode cJ2_newBytesLength_0f7a4 57 = .ok (.ishl, 1) := by decide +kernel
theorem dJ2_newBytesLength_0f7a4_58 : decode cJ2_newBytesLength_0f7a4 58 = .ok (.ireturn, 1) := by decide +kernel
theorem dJ2_putChar_b72d1_0 : decode cJ2_putChar_b72d1 0 = .ok (.getstatic 44, 3) := by decide +kernel
theorem dJ2_putChar_b72d1_3 : decode cJ2_putChar_b72d1 3 = .ok (.ifCond .ne 25, 3) := by decide +kernel
theorem dJ2_putChar_b72d1_6 : decode cJ2_putChar_b72d1 6 = .ok (.iload_n 1, 1) := by decide +kernel
theorem dJ2_putChar_b72d1_7 : decode cJ2_putChar_b72d1 7 = .ok (.ifCond .lt 11, 3) := by decide +kernel
theorem dJ2_putChar_b72d1_10 : decode cJ2_putChar_b72d1 10 = .ok (.iload_n 1, 1) := by decide +kernel
theorem dJ2_putChar_b72d1_11 : decode cJ2_putChar_b72d1 11 = .ok (.aload_n 0, 1) := by decide +kernel
theorem dJ2_putChar_b72d1_12 : decode cJ2_putChar_b72d1 12 = .ok (.invokestatic 48, 3) := by decide +kernel
theorem dJ2_putChar_b72d1_15 : decode cJ2_putChar_b72d1 15 = .ok (.if_icmp .lt 13, 3) := by decide +kernel
theorem dJ2_putChar_b72d1_18 : decode cJ2_putChar_b72d1 18 = .ok (.new 52, 3) := by decide +kernel
theorem dJ2_putChar_b72d1_21 : decode cJ2_putChar_b72d1 21 = .ok (.dup, 1) := by decide +kernel
theorem dJ2_putChar_b72d1_22 : decode cJ2_putChar_b72d1 22 = .ok (.ldc 54, 2) := by decide +kernel
theorem dJ2_putChar_b72d1_24 : decode cJ2_putChar_b72d1 24 = .ok (.invokespecial 56, 3) := by decide +kernel
theorem dJ2_putChar_b72d1_27 : decode cJ2_putChar_b72d1 27 = .ok (.athrow, 1) := by decide +kernel
theorem dJ2_putChar_b72d1_28 : decode cJ2_putChar_b72d1 28 = .ok (.iload_n 1, 1) := by decide +kernel
theorem dJ2_putChar_b72d1_29 : decode cJ2_putChar_b72d1 29 = .ok (.iconst 1, 1) := by decide +kernel
theorem dJ2_putChar_b72d1_30 : decode cJ2_putChar_b72d1 30 = .ok (.ishl, 1) := by decide +kernel
theorem dJ2_putChar_b72d1_31 : decode cJ2_putChar_b72d1 31 = .ok (.istore_n 1, 1) := by decide +kernel
theorem dJ2_putChar_b72d1_32 : decode cJ2_putChar_b72d1 32 = .ok (.aload_n 0, 1) := by decide +kernel
theorem dJ2_putChar_b72d1_33 : decode cJ2_putChar_b72d1 33 = .ok (.iload_n 1, 1) := by decide +kernel
theorem dJ2_putChar_b72d1_34 : decode cJ2_putChar_b72d1 34 = .ok (.iinc 1 1, 3) := by decide +kernel
theorem dJ2_putChar_b72d1_37 : decode cJ2_putChar_b72d1 37 = .ok (.iload_n 2, 1) := by decide +kernel
theorem dJ2_putChar_b72d1_38 : decode cJ2_putChar_b72d1 38 = .ok (.getstatic 59, 3) := by decide +kernel
theorem dJ2_putChar_b72d1_41 : decode cJ2_putChar_b72d1 41 = .ok (.ishr, 1) := by decide +kernel
theorem dJ2_putChar_b72d1_42 : decode cJ2_putChar_b72d1 42 = .ok (.i2b, 1) := by decide +kernel
theorem dJ2_putChar_b72d1_43 : decode cJ2_putChar_b72d1 43 = .ok (.bastore, 1) := by decide +kernel
theorem dJ2_putChar_b72d1_44 : decode cJ2_putChar_b72d1 44 = .ok (.aload_n 0, 1) := by decide +kernel
theorem dJ2_putChar_b72d1_45 : decode cJ2_putChar_b72d1 45 = .ok (.iload_n 1, 1) := by decide +kernel
theorem dJ2_putChar_b72d1_46 : decode cJ2_putChar_b72d1 46 = .ok (.iload_n 2, 1) := by decide +kernel
theorem dJ2_putChar_b72d1_47 : decode cJ2_putChar_b72d1 47 = .ok (.getstatic 63, 3) := by decide +kernel
theorem dJ2_putChar_b72d1_50 : decode cJ2_putChar_b72d1 50 = .ok (.ishr, 1) := by decide +kernel
theorem dJ2_putChar_b72d1_51 : decode cJ2_putChar_b72d1 51 = .ok (.i2b, 1) := by decide +kernel
theorem dJ2_putChar_b72d1_52 : decode cJ2_putChar_b72d1 52 = .ok (.bastore, 1) := by decide +kernel
theorem dJ2_putChar_b72d1_53 : decode cJ2_putChar_b72d1 53 = .ok (.return_, 1) := by decide +kernel
theorem dJ2_getChar_3b067_0 : decode cJ2_getChar_3b067 0 = .ok (.getstatic 44, 3) := by decide +kernel
theorem dJ2_getChar_3b067_3 : decode cJ2_getChar_3b067 3 = .ok (.ifCond .ne 25, 3) := by decide +kernel
theorem dJ2_getChar_3b067_6 : decode cJ2_getChar_3b067 6 = .ok (.iload_n 1, 1) := by decide +kernel
theorem dJ2_getChar_3b067_7 : decode cJ2_getChar_3b067 7 = .ok (.ifCond .lt 11, 3) := by decide +kernel
theorem dJ2_getChar_3b067_10 : decode cJ2_getChar_3b067 10 = .ok (.iload_n 1, 1) := by decide +kernel
theorem dJ2_getChar_3b067_11 : decode cJ2_getChar_3b067 11 = .ok (.aload_n 0, 1) := by decide +kernel
theorem dJ2_getChar_3b067_12 : decode cJ2_getChar_3b067 12 = .ok (.invokestatic 48, 3) := by decide +kernel
theorem dJ2_getChar_3b067_15 : decode cJ2_getChar_3b067 15 = .ok (.if_icmp .lt 13, 3) := by decide +kernel
theorem dJ2_getChar_3b067_18 : decode cJ2_getChar_3b067 18 = .ok (.new 52, 3) := by decide +kernel
theorem dJ2_getChar_3b067_21 : decode cJ2_getChar_3b067 21 = .ok (.dup, 1) := by decide +kernel
theorem dJ2_getChar_3b067_22 : decode cJ2_getChar_3b067 22 = .ok (.ldc 54, 2) := by decide +kernel
theorem dJ2_getChar_3b067_24 : decode cJ2_getChar_3b067 24 = .ok (.invokespecial 56, 3) := by decide +kernel
theorem dJ2_getChar_3b067_27 : decode cJ2_getChar_3b067 27 = .ok (.athrow, 1) := by decide +kernel
theorem dJ2_getChar_3b067_28 : decode cJ2_getChar_3b067 28 = .ok (.iload_n 1, 1) := by decide +kernel
theorem dJ2_getChar_3b067_29 : decode cJ2_getChar_3b067 29 = .ok (.iconst 1, 1) := by decide +kernel
theorem dJ2_getChar_3b067_30 : decode cJ2_getChar_3b067 30 = .ok (.ishl, 1) := by decide +kernel
theorem dJ2_getChar_3b067_31 : decode cJ2_getChar_3b067 31 = .ok (.istore_n 1, 1) := by decide +kernel
theorem dJ2_getChar_3b067_32 : decode cJ2_getChar_3b067 32 = .ok (.aload_n 0, 1) := by decide +kernel
theorem dJ2_getChar_3b067_33 : decode cJ2_getChar_3b067 33 = .ok (.iload_n 1, 1) := by decide +kernel
theorem dJ2_getChar_3b067_34 : decode cJ2_getChar_3b067 34 = .ok (.iinc 1 1, 3) := by decide +kernel
theorem dJ2_getChar_3b067_37 : decode cJ2_getChar_3b067 37 = .ok (.baload, 1) := by decide +kernel
theorem dJ2_getChar_3b067_38 : decode cJ2_getChar_3b067 38 = .ok (.sipush 255, 3) := by decide +kernel
theorem dJ2_getChar_3b067_41 : decode cJ2_getChar_3b067 41 = .ok (.iand, 1) := by decide +kernel
theorem dJ2_getChar_3b067_42 : decode cJ2_getChar_3b067 42 = .ok (.getstatic 59, 3) := by decide +kernel
theorem dJ2_getChar_3b067_45 : decode cJ2_getChar_3b067 45 = .ok (.ishl, 1) := by decide +kernel
theorem dJ2_getChar_3b067_46 : decode cJ2_getChar_3b067 46 = .ok (.aload_n 0, 1) := by decide +kernel
theorem dJ2_getChar_3b067_47 : decode cJ2_getChar_3b067 47 = .ok (.iload_n 1, 1) := by decide +kernel
theorem dJ2_getChar_3b067_48 : decode cJ2_getChar_3b067 48 = .ok (.baload, 1) := by decide +kernel
theorem dJ2_getChar_3b067_49 : decode cJ2_getChar_3b067 49 = .ok (.sipush 255, 3) := by decide +kernel
theorem dJ2_getChar_3b067_52 : decode cJ2_getChar_3b067 52 = .ok (.iand, 1) := by decide +kernel
theorem dJ2_getChar_3b067_53 : decode cJ2_getChar_3b067 53 = .ok (.getstatic 63, 3) := by decide +kernel
theorem dJ2_getChar_3b067_56 : decode cJ2_getChar_3b067 56 = .ok (.ishl, 1) := by decide +kernel
theorem dJ2_getChar_3b067_57 : decode cJ2_getChar_3b067 57 = .ok (.ior, 1) := by decide +kernel
theorem dJ2_getChar_3b067_58 : decode cJ2_getChar_3b067 58 = .ok (.i2c, 1) := by decide +kernel
theorem dJ2_getChar_3b067_59 : decode cJ2_getChar_3b067 59 = .ok (.ireturn, 1) := by decide +kernel
theorem dJ2_length_9d52b_0 : decode cJ2_length_9d52b 0 = .ok (.aload_n 0, 1) := by decide +kernel
theorem dJ2_length_9d52b_1 : decode cJ2_length_9d52b 1 = .ok (.arraylength, 1) := by decide +kernel
theorem dJ2_length_9d52b_2 : decode cJ2_length_9d52b 2 = .ok (.iconst 1, 1) := by decide +kernel
theorem dJ2_length_9d52b_3 : decode cJ2_length_9d52b 3 = .ok (.ishr, 1) := by decide +kernel
theorem dJ2_length_9d52b_4 : decode cJ2_length_9d52b 4 = .ok (.ireturn, 1) := by decide +kernel
theorem dJ2_fillNull_b72d1_0 : decode cJ2_fillNull_b72d1 0 = .ok (.aload_n 0, 1) := by decide +kernel
theorem dJ2_fillNull_b72d1_1 : decode cJ2_fillNull_b72d1 1 = .ok (.iload_n 1, 1) := by decide +kernel
theorem dJ2_fillNull_b72d1_2 : decode cJ2_fillNull_b72d1 2 = .ok (.iconst 1, 1) := by decide +kernel
theorem dJ2_fillNull_b72d1_3 : decode cJ2_fillNull_b72d1 3 = .ok (.ishl, 1) := by decide +kernel
theorem dJ2_fillNull_b72d1_4 : decode cJ2_fillNull_b72d1 4 = .ok (.iload_n 2, 1) := by decide +kernel
theorem dJ2_fillNull_b72d1_5 : decode cJ2_fillNull_b72d1 5 = .ok (.iconst 1, 1) := by decide +kernel
theorem dJ2_fillNull_b72d1_6 : decode cJ2_fillNull_b72d1 6 = .ok (.ishl, 1) := by decide +kernel
theorem dJ2_fillNull_b72d1_7 : decode cJ2_fillNull_b72d1 7 = .ok (.iconst 0, 1) := by decide +kernel
theorem dJ2_fillNull_b72d1_8 : decode cJ2_fillNull_b72d1 8 = .ok (.invokestatic 380, 3) := by decide +kernel
theorem dJ2_fillNull_b72d1_11 : decode cJ2_fillNull_b72d1 11 = .ok (.return_, 1) := by decide +kernel
theorem dJ2_putCharSB_b72d1_0 : decode cJ2_putCharSB_b72d1 0 = .ok (.iload_n 1, 1) := by decide +kernel
theorem dJ2_putCharSB_b72d1_1 : decode cJ2_putCharSB_b72d1 1 = .ok (.aload_n 0, 1) := by decide +kernel
theorem dJ2_putCharSB_b72d1_2 : decode cJ2_putCharSB_b72d1 2 = .ok (.invokestatic 67, 3) := by decide +kernel
theorem dJ2_putCharSB_b72d1_5 : decode cJ2_putCharSB_b72d1 5 = .ok (.aload_n 0, 1) := by decide +kernel
theorem dJ2_putCharSB_b72d1_6 : decode cJ2_putCharSB_b72d1 6 = .ok (.iload_n 1, 1) := by decide +kernel
theorem dJ2_putCharSB_b72d1_7 : decode cJ2_putCharSB_b72d1 7 = .ok (.iload_n 2, 1) := by decide +kernel
theorem dJ2_putCharSB_b72d1_8 : decode cJ2_putCharSB_b72d1 8 = .ok (.invokestatic 111, 3) := by decide +kernel
theorem dJ2_putCharSB_b72d1_11 : decode cJ2_putCharSB_b72d1 11 = .ok (.return_, 1) := by decide +kernel
theorem dJ2_getChars_46870_0 : decode cJ2_getChars_46870 0 = .ok (.iload_n 1, 1) := by decide +kernel
theorem dJ2_getChars_46870_1 : decode cJ2_getChars_46870 1 = .ok (.iload_n 2, 1) := by decide +kernel
theorem dJ2_getChars_46870_2 : decode cJ2_getChars_46870 2 = .ok (.aload_n 3, 1) := by decide +kernel
theorem dJ2_getChars_46870_3 : decode cJ2_getChars_46870 3 = .ok (.invokestatic 96, 3) := by decide +kernel
theorem dJ2_getChars_46870_6 : decode cJ2_getChars_46870 6 = .ok (.iload_n 0, 1) := by decide +kernel
theorem dJ2_getChars_46870_7 : decode cJ2_getChars_46870 7 = .ok (.iload_n 2, 1) := by decide +kernel
theorem dJ2_getChars_46870_8 : decode cJ2_getChars_46870 8 = .ok (.aload_n 3, 1) := by decide +kernel
theorem dJ2_getChars_46870_9 : decode cJ2_getChars_46870 9 = .ok (.invokestatic 393, 3) := by decide +kernel
theorem dJ2_getChars_46870_12 : decode cJ2_getChars_46870 12 = .ok (.istore 4, 2) := by decide +kernel
theorem dJ2_getChars_46870_14 : decode cJ2_getChars_46870 14 = .ok (.getstatic 44, 3) := by decide +kernel
theorem dJ2_getChars_46870_17 : decode cJ2_getChars_46870 17 = .ok (.ifCond .ne 17, 3) := by decide +kernel
theorem dJ2_getChars_46870_20 : decode cJ2_getChars_46870 20 = .ok (.iload_n 1, 1) := by decide +kernel
theorem dJ2_getChars_46870_21 : decode cJ2_getChars_46870 21 = .ok (.iload 4, 2) := by decide +kernel
theorem dJ2_getChars_46870_23 : decode cJ2_getChars_46870 23 = .ok (.if_icmp .eq 11, 3) := by decide +kernel
theorem dJ2_getChars_46870_26 : decode cJ2_getChars_46870 26 = .ok (.new 52, 3) := by decide +kernel
theorem dJ2_getChars_46870_29 : decode cJ2_getChars_46870 29 = .ok (.dup, 1) := by decide +kernel
theorem dJ2_getChars_46870_30 : decode cJ2_getChars_46870 30 = .ok (.invokespecial 66, 3) := by decide +kernel
theorem dJ2_getChars_46870_33 : decode cJ2_getChars_46870 33 = .ok (.athrow, 1) := by decide +kernel
theorem dJ2_getChars_46870_34 : decode cJ2_getChars_46870 34 = .ok (.iload 4, 2) := by decide +kernel
theorem dJ2_getChars_46870_36 : decode cJ2_getChars_46870 36 = .ok (.ireturn, 1) := by decide +kernel
theorem dJ2_charAt_3b067_0 : decode cJ2_charAt_3b067 0 = .ok (.iload_n 1, 1) := by decide +kernel
theorem dJ2_charAt_3b067_1 : decode cJ2_charAt_3b067 1 = .ok (.aload_n 0, 1) := by decide +kernel
theorem dJ2_charAt_3b067_2 : decode cJ2_charAt_3b067 2 = .ok (.invokestatic 67, 3) := by decide +kernel
theorem dJ2_charAt_3b067_5 : decode cJ2_charAt_3b067 5 = .ok (.aload_n 0, 1) := by decide +kernel
theorem dJ2_charAt_3b067_6 : decode cJ2_charAt_3b067 6 = .ok (.iload_n 1, 1) := by decide +kernel
theorem dJ2_charAt_3b067_7 : decode cJ2_charAt_3b067 7 = .ok (.invokestatic 71, 3) := by decide +kernel
theorem dJ2_charAt_3b067_10 : decode cJ2_charAt_3b067 10 = .ok (.ireturn, 1) := by decide +kernel
theorem dJ2_inflate_0e8fd_0 : decode cJ2_inflate_0e8fd 0 = .ok (.iload_n 3, 1) := by decide +kernel
theorem dJ2_inflate_0e8fd_1 : decode cJ2_inflate_0e8fd 1 = .ok (.iload 4, 2) := by decide +kernel
theorem dJ2_inflate_0e8fd_3 : decode cJ2_inflate_0e8fd 3 = .ok (.aload_n 2, 1) := by decide +kernel
theorem dJ2_inflate_0e8fd_4 : decode cJ2_inflate_0e8fd 4 = .ok (.invokestatic 173, 3) := by decide +kernel
theorem dJ2_inflate_0e8fd_7 : decode cJ2_inflate_0e8fd 7 = .ok (.iconst 0, 1) := by decide +kernel
theorem dJ2_inflate_0e8fd_8 : decode cJ2_inflate_0e8fd 8 = .ok (.istore 5, 2) := by decide +kernel
theorem dJ2_inflate_0e8fd_10 : decode cJ2_inflate_0e8fd 10 = .ok (.iload 5, 2) := by decide +kernel
theorem dJ2_inflate_0e8fd_12 : decode cJ2_inflate_0e8fd 12 = .ok (.iload 4, 2) := by decide +kernel
theorem dJ2_inflate_0e8fd_14 : decode cJ2_inflate_0e8fd 14 = .ok (.if_icmp .ge 27, 3) := by decide +kernel
theorem dJ2_inflate_0e8fd_17 : decode cJ2_inflate_0e8fd 17 = .ok (.aload_n 2, 1) := by decide +kernel
theorem dJ2_inflate_0e8fd_18 : decode cJ2_inflate_0e8fd 18 = .ok (.iload_n 3, 1) := by decide +kernel
theorem dJ2_inflate_0e8fd_19 : decode cJ2_inflate_0e8fd 19 = .ok (.iinc 3 1, 3) := by decide +kernel
theorem dJ2_inflate_0e8fd_22 : decode cJ2_inflate_0e8fd 22 = .ok (.aload_n 0, 1) := by decide +kernel
theorem dJ2_inflate_0e8fd_23 : decode cJ2_inflate_0e8fd 23 = .ok (.iload_n 1, 1) := by decide +kernel
theorem dJ2_inflate_0e8fd_24 : decode cJ2_inflate_0e8fd 24 = .ok (.iinc 1 1, 3) := by decide +kernel
theorem dJ2_inflate_0e8fd_27 : decode cJ2_inflate_0e8fd 27 = .ok (.baload, 1) := by decide +kernel
theorem dJ2_inflate_0e8fd_28 : decode cJ2_inflate_0e8fd 28 = .ok (.sipush 255, 3) := by decide +kernel
theorem dJ2_inflate_0e8fd_31 : decode cJ2_inflate_0e8fd 31 = .ok (.iand, 1) := by decide +kernel
theorem dJ2_inflate_0e8fd_32 : decode cJ2_inflate_0e8fd 32 = .ok (.invokestatic 111, 3) := by decide +kernel
theorem dJ2_inflate_0e8fd_35 : decode cJ2_inflate_0e8fd 35 = .ok (.iinc 5 1, 3) := by decide +kernel
theorem dJ2_inflate_0e8fd_38 : decode cJ2_inflate_0e8fd 38 = .ok (.goto (-28), 3) := by decide +kernel
theorem dJ2_inflate_0e8fd_41 : decode cJ2_inflate_0e8fd 41 = .ok (.return_, 1) := by decide +kernel
theorem dJ2_getChars_ba4f3_0 : decode cJ2_getChars_ba4f3 0 = .ok (.iload_n 1, 1) := by decide +kernel
theorem dJ2_getChars_ba4f3_1 : decode cJ2_getChars_ba4f3 1 = .ok (.istore 5, 2) := by decide +kernel
theorem dJ2_getChars_ba4f3_3 : decode cJ2_getChars_ba4f3 3 = .ok (.iload_n 0, 1) := by decide +kernel
theorem dJ2_getChars_ba4f3_4 : decode cJ2_getChars_ba4f3 4 = .ok (.ifCond .ge 7, 3) := by decide +kernel
theorem dJ2_getChars_ba4f3_7 : decode cJ2_getChars_ba4f3 7 = .ok (.iconst 1, 1) := by decide +kernel
theorem dJ2_getChars_ba4f3_8 : decode cJ2_getChars_ba4f3 8 = .ok (.goto 4, 3) := by decide +kernel
theorem dJ2_getChars_ba4f3_11 : decode cJ2_getChars_ba4f3 11 = .ok (.iconst 0, 1) := by decide +kernel
theorem dJ2_getChars_ba4f3_12 : decode cJ2_getChars_ba4f3 12 = .ok (.istore 6, 2) := by decide +kernel
theorem dJ2_getChars_ba4f3_14 : decode cJ2_getChars_ba4f3 14 = .ok (.iload 6, 2) := by decide +kernel
theorem dJ2_getChars_ba4f3_16 : decode cJ2_getChars_ba4f3 16 = .ok (.ifCond .ne 6, 3) := by decide +kernel
theorem dJ2_getChars_ba4f3_19 : decode cJ2_getChars_ba4f3 19 = .ok (.iload_n 0, 1) := by decide +kernel
theorem dJ2_getChars_ba4f3_20 : decode cJ2_getChars_ba4f3 20 = .ok (.ineg, 1) := by decide +kernel
theorem dJ2_getChars_ba4f3_21 : decode cJ2_getChars_ba4f3 21 = .ok (.istore_n 0, 1) := by decide +kernel
theorem dJ2_getChars_ba4f3_22 : decode cJ2_getChars_ba4f3 22 = .ok (.iload_n 0, 1) := by decide +kernel
theorem dJ2_getChars_ba4f3_23 : decode cJ2_getChars_ba4f3 23 = .ok (.bipush (-100), 2) := by decide +kernel
theorem dJ2_getChars_ba4f3_25 : decode cJ2_getChars_ba4f3 25 = .ok (.if_icmp .gt 51, 3) := by decide +kernel
theorem dJ2_getChars_ba4f3_28 : decode cJ2_getChars_ba4f3 28 = .ok (.iload_n 0, 1) := by decide +kernel
theorem dJ2_getChars_ba4f3_29 : decode cJ2_getChars_ba4f3 29 = .ok (.bipush 100, 2) := by decide +kernel
theorem dJ2_getChars_ba4f3_31 : decode cJ2_getChars_ba4f3 31 = .ok (.idiv, 1) := by decide +kernel
theorem dJ2_getChars_ba4f3_32 : decode cJ2_getChars_ba4f3 32 = .ok (.istore_n 3, 1) := by decide +kernel
theorem dJ2_getChars_ba4f3_33 : decode cJ2_getChars_ba4f3 33 = .ok (.iload_n 3, 1) := by decide +kernel
theorem dJ2_getChars_ba4f3_34 : decode cJ2_getChars_ba4f3 34 = .ok (.bipush 100, 2) := by decide +kernel
theorem dJ2_getChars_ba4f3_36 : decode cJ2_getChars_ba4f3 36 = .ok (.imul, 1) := by decide +kernel
theorem dJ2_getChars_ba4f3_37 : decode cJ2_getChars_ba4f3 37 = .ok (.iload_n 0, 1) := by decide +kernel
theorem dJ2_getChars_ba4f3_38 : decode cJ2_getChars_ba4f3 38 = .ok (.isub, 1) := by decide +kernel
theorem dJ2_getChars_ba4f3_39 : decode cJ2_getChars_ba4f3 39 = .ok (.istore 4, 2) := by decide +kernel
theorem dJ2_getChars_ba4f3_41 : decode cJ2_getChars_ba4f3 41 = .ok (.iload_n 3, 1) := by decide +kernel
theorem dJ2_getChars_ba4f3_42 : decode cJ2_getChars_ba4f3 42 = .ok (.istore_n 0, 1) := by decide +kernel
theorem dJ2_getChars_ba4f3_43 : decode cJ2_getChars_ba4f3 43 = .ok (.aload_n 2, 1) := by decide +kernel
theorem dJ2_getChars_ba4f3_44 : decode cJ2_getChars_ba4f3 44 = .ok (.iinc 5 (-1), 3) := by decide +kernel
theorem dJ2_getChars_ba4f3_47 : decode cJ2_getChars_ba4f3 47 = .ok (.iload 5, 2) := by decide +kernel
theorem dJ2_getChars_ba4f3_49 : decode cJ2_getChars_ba4f3 49 = .ok (.getstatic 403, 3) := by decide +kernel
theorem dJ2_getChars_ba4f3_52 : decode cJ2_getChars_ba4f3 52 = .ok (.iload 4, 2) := by decide +kernel
theorem dJ2_getChars_ba4f3_54 : decode cJ2_getChars_ba4f3 54 = .ok (.baload, 1) := by decide +kernel
theorem dJ2_getChars_ba4f3_55 : decode cJ2_getChars_ba4f3 55 = .ok (.invokestatic 111, 3) := by decide +kernel
theorem dJ2_getChars_ba4f3_58 : decode cJ2_getChars_ba4f3 58 = .ok (.aload_n 2, 1) := by decide +kernel
theorem dJ2_getChars_ba4f3_59 : decode cJ2_getChars_ba4f3 59 = .ok (.iinc 5 (-1), 3) := by decide +kernel
theorem dJ2_getChars_ba4f3_62 : decode cJ2_getChars_ba4f3 62 = .ok (.iload 5, 2) := by decide +kernel
theorem dJ2_getChars_ba4f3_64 : decode cJ2_getChars_ba4f3 64 = .ok (.getstatic 407, 3) := by decide +kernel
theorem dJ2_getChars_ba4f3_67 : decode cJ2_getChars_ba4f3 67 = .ok (.iload 4, 2) := by decide +kernel
theorem dJ2_getChars_ba4f3_69 : decode cJ2_getChars_ba4f3 69 = .ok (.baload, 1) := by decide +kernel
theorem dJ2_getChars_ba4f3_70 : decode cJ2_getChars_ba4f3 70 = .ok (.invokestatic 111, 3) := by decide +kernel
theorem dJ2_getChars_ba4f3_73 : decode cJ2_getChars_ba4f3 73 = .ok (.goto (-51), 3) := by decide +kernel
theorem dJ2_getChars_ba4f3_76 : decode cJ2_getChars_ba4f3 76 = .ok (.aload_n 2, 1) := by decide +kernel
theorem dJ2_getChars_ba4f3_77 : decode cJ2_getChars_ba4f3 77 = .ok (.iinc 5 (-1), 3) := by decide +kernel
theorem dJ2_getChars_ba4f3_80 : decode cJ2_getChars_ba4f3 80 = .ok (.iload 5, 2) := by decide +kernel
theorem dJ2_getChars_ba4f3_82 : decode cJ2_getChars_ba4f3 82 = .ok (.getstatic 403, 3) := by decide +kernel
theorem dJ2_getChars_ba4f3_85 : decode cJ2_getChars_ba4f3 85 = .ok (.iload_n 0, 1) := by decide +kernel
theorem dJ2_getChars_ba4f3_86 : decode cJ2_getChars_ba4f3 86 = .ok (.ineg, 1) := by decide +kernel
theorem dJ2_getChars_ba4f3_87 : decode cJ2_getChars_ba4f3 87 = .ok (.baload, 1) := by decide +kernel
theorem dJ2_getChars_ba4f3_88 : decode cJ2_getChars_ba4f3 88 = .ok (.invokestatic 111, 3) := by decide +kernel
theorem dJ2_getChars_ba4f3_91 : decode cJ2_getChars_ba4f3 91 = .ok (.iload_n 0, 1) := by decide +kernel
theorem dJ2_getChars_ba4f3_92 : decode cJ2_getChars_ba4f3 92 = .ok (.bipush (-9), 2) := by decide +kernel
theorem dJ2_getChars_ba4f3_94 : decode cJ2_getChars_ba4f3 94 = .ok (.if_icmp .ge 18, 3) := by decide +kernel
theorem dJ2_getChars_ba4f3_97 : decode cJ2_getChars_ba4f3 97 = .ok (.aload_n 2, 1) := by decide +kernel
theorem dJ2_getChars_ba4f3_98 : decode cJ2_getChars_ba4f3 98 = .ok (.iinc 5 (-1), 3) := by decide +kernel
theorem dJ2_getChars_ba4f3_101 : decode cJ2_getChars_ba4f3 101 = .ok (.iload 5, 2) := by decide +kernel
theorem dJ2_getChars_ba4f3_103 : decode cJ2_getChars_ba4f3 103 = .ok (.getstatic 407, 3) := by decide +kernel
theorem dJ2_getChars_ba4f3_106 : decode cJ2_getChars_ba4f3 106 = .ok (.iload_n 0, 1) := by decide +kernel
theorem dJ2_getChars_ba4f3_107 : decode cJ2_getChars_ba4f3 107 = .ok (.ineg, 1) := by decide +kernel
theorem dJ2_getChars_ba4f3_108 : decode cJ2_getChars_ba4f3 108 = .ok (.baload, 1) := by decide +kernel
theorem dJ2_getChars_ba4f3_109 : decode cJ2_getChars_ba4f3 109 = .ok (.invokestatic 111, 3) := by decide +kernel
theorem dJ2_getChars_ba4f3_112 : decode cJ2_getChars_ba4f3 112 = .ok (.iload 6, 2) := by decide +kernel
theorem dJ2_getChars_ba4f3_114 : decode cJ2_getChars_ba4f3 114 = .ok (.ifCond .eq 14, 3) := by decide +kernel
theorem dJ2_getChars_ba4f3_117 : decode cJ2_getChars_ba4f3 117 = .ok (.aload_n 2, 1) := by decide +kernel
theorem dJ2_getChars_ba4f3_118 : decode cJ2_getChars_ba4f3 118 = .ok (.iinc 5 (-1), 3) := by decide +kernel
theorem dJ2_getChars_ba4f3_121 : decode cJ2_getChars_ba4f3 121 = .ok (.iload 5, 2) := by decide +kernel
theorem dJ2_getChars_ba4f3_123 : decode cJ2_getChars_ba4f3 123 = .ok (.bipush 45, 2) := by decide +kernel
theorem dJ2_getChars_ba4f3_125 : decode cJ2_getChars_ba4f3 125 = .ok (.invokestatic 111, 3) := by decide +kernel
theorem dJ2_getChars_ba4f3_128 : decode cJ2_getChars_ba4f3 128 = .ok (.iload 5, 2) := by decide +kernel
theorem dJ2_getChars_ba4f3_130 : decode cJ2_getChars_ba4f3 130 = .ok (.ireturn, 1) := by decide +kernel
theorem dJ2_checkIndex_2214a_0 : decode cJ2_checkIndex_2214a 0 = .ok (.iload_n 0, 1) := by decide +kernel
theorem dJ2_checkIndex_2214a_1 : decode cJ2_checkIndex_2214a 1 = .ok (.aload_n 1, 1) := by decide +kernel
theorem dJ2_checkIndex_2214a_2 : decode cJ2_checkIndex_2214a 2 = .ok (.invokestatic 48, 3) := by decide +kernel
theorem dJ2_checkIndex_2214a_5 : decode cJ2_checkIndex_2214a 5 = .ok (.invokestatic 414, 3) := by decide +kernel
theorem dJ2_checkIndex_2214a_8 : decode cJ2_checkIndex_2214a 8 = .ok (.return_, 1) := by decide +kernel
theorem dJ2_checkBoundsBeginEnd_d044e_0 : decode cJ2_checkBoundsBeginEnd_d044e 0 = .ok (.iload_n 0, 1) := by decide +kernel
theorem dJ2_checkBoundsBeginEnd_d044e_1 : decode cJ2_checkBoundsBeginEnd_d044e 1 = .ok (.iload_n 1, 1) := by decide +kernel
theorem dJ2_checkBoundsBeginEnd_d044e_2 : decode cJ2_checkBoundsBeginEnd_d044e 2 = .ok (.aload_n 2, 1) := by decide +kernel
theorem dJ2_checkBoundsBeginEnd_d044e_3 : decode cJ2_checkBoundsBeginEnd_d044e 3 = .ok (.invokestatic 48, 3) := by decide +kernel
theorem dJ2_checkBoundsBeginEnd_d044e_6 : decode cJ2_checkBoundsBeginEnd_d044e 6 = .ok (.invokestatic 241, 3) := by decide +kernel
theorem dJ2_checkBoundsBeginEnd_d044e_9 : decode cJ2_checkBoundsBeginEnd_d044e 9 = .ok (.return_, 1) := by decide +kernel
theorem dJ2_checkBoundsOffCount_d044e_0 : decode cJ2_checkBoundsOffCount_d044e 0 = .ok (.iload_n 0, 1) := by decide +kernel
theorem dJ2_checkBoundsOffCount_d044e_1 : decode cJ2_checkBoundsOffCount_d044e 1 = .ok (.iload_n 1, 1) := by decide +kernel
theorem dJ2_checkBoundsOffCount_d044e_2 : decode cJ2_checkBoundsOffCount_d044e 2 = .ok (.aload_n 2, 1) := by decide +kernel
theorem dJ2_checkBoundsOffCount_d044e_3 : decode cJ2_checkBoundsOffCount_d044e 3 = .ok (.invokestatic 48, 3) := by decide +kernel
theorem dJ2_checkBoundsOffCount_d044e_6 : decode cJ2_checkBoundsOffCount_d044e 6 = .ok (.invokestatic 419, 3) := by decide +kernel
theorem dJ2_checkBoundsOffCount_d044e_9 : decode cJ2_checkBoundsOffCount_d044e 9 = .ok (.pop, 1) := by decide +kernel
theorem dJ2_checkBoundsOffCount_d044e_10 : decode cJ2_checkBoundsOffCount_d044e 10 = .ok (.return_, 1) := by decide +kernel
theorem dJ7_rangeCheck_23922_0 : decode cJ7_rangeCheck_23922 0 = .ok (.iload_n 1, 1) := by decide +kernel
theorem dJ7_rangeCheck_23922_1 : decode cJ7_rangeCheck_23922 1 = .ok (.iload_n 2, 1) := by decide +kernel
theorem dJ7_rangeCheck_23922_2 : decode cJ7_rangeCheck_23922 2 = .ok (.if_icmp .le 44, 3) := by decide +kernel
theorem dJ7_rangeCheck_23922_5 : decode cJ7_rangeCheck_23922 5 = .ok (.new 43, 3) := by decide +kernel
theorem dJ7_rangeCheck_23922_8 : decode cJ7_rangeCheck_23922 8 = .ok (.dup, 1) := by decide +kernel
theorem dJ7_rangeCheck_23922_9 : decode cJ7_rangeCheck_23922 9 = .ok (.new 45, 3) := by decide +kernel
theorem dJ7_rangeCheck_23922_12 : decode cJ7_rangeCheck_23922 12 = .ok (.dup, 1) := by decide +kernel
theorem dJ7_rangeCheck_23922_13 : decode cJ7_rangeCheck_23922 13 = .ok (.invokespecial 47, 3) := by decide +kernel
theorem dJ7_rangeCheck_23922_16 : decode cJ7_rangeCheck_23922 16 = .ok (.ldc 48, 2) := by decide +kernel
theorem dJ7_rangeCheck_23922_18 : decode cJ7_rangeCheck_23922 18 = .ok (.invokevirtual 50, 3) := by decide +kernel
theorem dJ7_rangeCheck_23922_21 : decode cJ7_rangeCheck_23922 21 = .ok (.iload_n 1, 1) := by decide +kernel
theorem dJ7_rangeCheck_23922_22 : decode cJ7_rangeCheck_23922 22 = .ok (.invokevirtual 54, 3) := by decide +kernel
theorem dJ7_rangeCheck_23922_25 : decode cJ7_rangeCheck_23922 25 = .ok (.ldc 57, 2) := by decide +kernel
theorem dJ7_rangeCheck_23922_27 : decode cJ7_rangeCheck_23922 27 = .ok (.invokevirtual 50, 3) := by decide +kernel
theorem dJ7_rangeCheck_23922_30 : decode cJ7_rangeCheck_23922 30 = .ok (.iload_n 2, 1) := by decide +kernel
theorem dJ7_rangeCheck_23922_31 : decode cJ7_rangeCheck_23922 31 = .ok (.invokevirtual 54, 3) := by decide +kernel
theorem dJ7_rangeCheck_23922_34 : decode cJ7_rangeCheck_23922 34 = .ok (.ldc 59, 2) := by decide +kernel
theorem dJ7_rangeCheck_23922_36 : decode cJ7_rangeCheck_23922 36 = .ok (.invokevirtual 50, 3) := by decide +kernel
theorem dJ7_rangeCheck_23922_39 : decode cJ7_rangeCheck_23922 39 = .ok (.invokevirtual 61, 3) := by decide +kernel
theorem dJ7_rangeCheck_23922_42 : decode cJ7_rangeCheck_23922 42 = .ok (.invokespecial 65, 3) := by decide +kernel
theorem dJ7_rangeCheck_23922_45 : decode cJ7_rangeCheck_23922 45 = .ok (.athrow, 1) := by decide +kernel
theorem dJ7_rangeCheck_23922_46 : decode cJ7_rangeCheck_23922 46 = .ok (.iload_n 1, 1) := by decide +kernel
theorem dJ7_rangeCheck_23922_47 : decode cJ7_rangeCheck_23922 47 = .ok (.ifCond .ge 12, 3) := by decide +kernel
theorem dJ7_rangeCheck_23922_50 : decode cJ7_rangeCheck_23922 50 = .ok (.new 68, 3) := by decide +kernel
theorem dJ7_rangeCheck_23922_53 : decode cJ7_rangeCheck_23922 53 = .ok (.dup, 1) := by decide +kernel
theorem dJ7_rangeCheck_23922_54 : decode cJ7_rangeCheck_23922 54 = .ok (.iload_n 1, 1) := by decide +kernel
theorem dJ7_rangeCheck_23922_55 : decode cJ7_rangeCheck_23922 55 = .ok (.invokespecial 70, 3) := by decide +kernel
theorem dJ7_rangeCheck_23922_58 : decode cJ7_rangeCheck_23922 58 = .ok (.athrow, 1) := by decide +kernel
theorem dJ7_rangeCheck_23922_59 : decode cJ7_rangeCheck_23922 59 = .ok (.iload_n 2, 1) := by decide +kernel
theorem dJ7_rangeCheck_23922_60 : decode cJ7_rangeCheck_23922 60 = .ok (.iload_n 0, 1) := by decide +kernel
theorem dJ7_rangeCheck_23922_61 : decode cJ7_rangeCheck_23922 61 = .ok (.if_icmp .le 12, 3) := by decide +kernel
theorem dJ7_rangeCheck_23922_64 : decode cJ7_rangeCheck_23922 64 = .ok (.new 68, 3) := by decide +kernel
theorem dJ7_rangeCheck_23922_67 : decode cJ7_rangeCheck_23922 67 = .ok (.dup, 1) := by decide +kernel
theorem dJ7_rangeCheck_23922_68 : decode cJ7_rangeCheck_23922 68 = .ok (.iload_n 2, 1) := by decide +kernel
theorem dJ7_rangeCheck_23922_69 : decode cJ7_rangeCheck_23922 69 = .ok (.invokespecial 70, 3) := by decide +kernel
theorem dJ7_rangeCheck_23922_72 : decode cJ7_rangeCheck_23922 72 = .ok (.athrow, 1) := by decide +kernel
theorem dJ7_rangeCheck_23922_73 : decode cJ7_rangeCheck_23922 73 = .ok (.return_, 1) := by decide +kernel
theorem dJ7_fill_eb02e_0 : decode cJ7_fill_eb02e 0 = .ok (.aload_n 0, 1) := by decide +kernel
theorem dJ7_fill_eb02e_1 : decode cJ7_fill_eb02e 1 = .ok (.arraylength, 1) := by decide +kernel
theorem dJ7_fill_eb02e_2 : decode cJ7_fill_eb02e 2 = .ok (.iload_n 1, 1) := by decide +kernel
theorem dJ7_fill_eb02e_3 : decode cJ7_fill_eb02e 3 = .ok (.iload_n 2, 1) := by decide +kernel
theorem dJ7_fill_eb02e_4 : decode cJ7_fill_eb02e 4 = .ok (.invokestatic 13, 3) := by decide +kernel
theorem dJ7_fill_eb02e_7 : decode cJ7_fill_eb02e 7 = .ok (.iload_n 1, 1) := by decide +kernel
theorem dJ7_fill_eb02e_8 : decode cJ7_fill_eb02e 8 = .ok (.istore 4, 2) := by decide +kernel
theorem dJ7_fill_eb02e_10 : decode cJ7_fill_eb02e 10 = .ok (.iload 4, 2) := by decide +kernel
theorem dJ7_fill_eb02e_12 : decode cJ7_fill_eb02e 12 = .ok (.iload_n 2, 1) := by decide +kernel
theorem dJ7_fill_eb02e_13 : decode cJ7_fill_eb02e 13 = .ok (.if_icmp .ge 14, 3) := by decide +kernel
theorem dJ7_fill_eb02e_16 : decode cJ7_fill_eb02e 16 = .ok (.aload_n 0, 1) := by decide +kernel
theorem dJ7_fill_eb02e_17 : decode cJ7_fill_eb02e 17 = .ok (.iload 4, 2) := by decide +kernel
theorem dJ7_fill_eb02e_19 : decode cJ7_fill_eb02e 19 = .ok (.iload_n 3, 1) := by decide +kernel
theorem dJ7_fill_eb02e_20 : decode cJ7_fill_eb02e 20 = .ok (.bastore, 1) := by decide +kernel
theorem dJ7_fill_eb02e_21 : decode cJ7_fill_eb02e 21 = .ok (.iinc 4 1, 3) := by decide +kernel
theorem dJ7_fill_eb02e_24 : decode cJ7_fill_eb02e 24 = .ok (.goto (-14), 3) := by decide +kernel
theorem dJ7_fill_eb02e_27 : decode cJ7_fill_eb02e 27 = .ok (.return_, 1) := by decide +kernel
theorem dJ7_copyOf_9075b_0 : decode cJ7_copyOf_9075b 0 = .ok (.iload_n 1, 1) := by decide +kernel
theorem dJ7_copyOf_9075b_1 : decode cJ7_copyOf_9075b 1 = .ok (.aload_n 0, 1) := by decide +kernel
theorem dJ7_copyOf_9075b_2 : decode cJ7_copyOf_9075b 2 = .ok (.arraylength, 1) := by decide +kernel
theorem dJ7_copyOf_9075b_3 : decode cJ7_copyOf_9075b 3 = .ok (.if_icmp .ne 11, 3) := by decide +kernel
theorem dJ7_copyOf_9075b_6 : decode cJ7_copyOf_9075b 6 = .ok (.aload_n 0, 1) := by decide +kernel
theorem dJ7_copyOf_9075b_7 : decode cJ7_copyOf_9075b 7 = .ok (.invokevirtual 310, 3) := by decide +kernel
theorem dJ7_copyOf_9075b_10 : decode cJ7_copyOf_9075b 10 = .ok (.checkcast 311, 3) := by decide +kernel
theorem dJ7_copyOf_9075b_13 : decode cJ7_copyOf_9075b 13 = .ok (.areturn, 1) := by decide +kernel
theorem dJ7_copyOf_9075b_14 : decode cJ7_copyOf_9075b 14 = .ok (.iload_n 1, 1) := by decide +kernel
theorem dJ7_copyOf_9075b_15 : decode cJ7_copyOf_9075b 15 = .ok (.newarray .byte, 2) := by decide +kernel
theorem dJ7_copyOf_9075b_17 : decode cJ7_copyOf_9075b 17 = .ok (.astore_n 2, 1) := by decide +kernel
theorem dJ7_copyOf_9075b_18 : decode cJ7_copyOf_9075b 18 = .ok (.aload_n 0, 1) := by decide +kernel
theorem dJ7_copyOf_9075b_19 : decode cJ7_copyOf_9075b 19 = .ok (.iconst 0, 1) := by decide +kernel
theorem dJ7_copyOf_9075b_20 : decode cJ7_copyOf_9075b 20 = .ok (.aload_n 2, 1) := by decide +kernel
theorem dJ7_copyOf_9075b_21 : decode cJ7_copyOf_9075b 21 = .ok (.iconst 0, 1) := by decide +kernel
theorem dJ7_copyOf_9075b_22 : decode cJ7_copyOf_9075b 22 = .ok (.aload_n 0, 1) := by decide +kernel
theorem dJ7_copyOf_9075b_23 : decode cJ7_copyOf_9075b 23 = .ok (.arraylength, 1) := by decide +kernel
theorem dJ7_copyOf_9075b_24 : decode cJ7_copyOf_9075b 24 = .ok (.iload_n 1, 1) := by decide +kernel
theorem dJ7_copyOf_9075b_25 : decode cJ7_copyOf_9075b 25 = .ok (.invokestatic 304, 3) := by decide +kernel
theorem dJ7_copyOf_9075b_28 : decode cJ7_copyOf_9075b 28 = .ok (.invokestatic 150, 3) := by decide +kernel
theorem dJ7_copyOf_9075b_31 : decode cJ7_copyOf_9075b 31 = .ok (.aload_n 2, 1) := by decide +kernel
theorem dJ7_copyOf_9075b_32 : decode cJ7_copyOf_9075b 32 = .ok (.areturn, 1) := by decide +kernel
theorem dJ8_newLength_cabcc_0 : decode cJ8_newLength_cabcc 0 = .ok (.iload_n 0, 1) := by decide +kernel
theorem dJ8_newLength_cabcc_1 : decode cJ8_newLength_cabcc 1 = .ok (.iload_n 1, 1) := by decide +kernel
theorem dJ8_newLength_cabcc_2 : decode cJ8_newLength_cabcc 2 = .ok (.iload_n 2, 1) := by decide +kernel
theorem dJ8_newLength_cabcc_3 : decode cJ8_newLength_cabcc 3 = .ok (.invokestatic 194, 3) := by decide +kernel
theorem dJ8_newLength_cabcc_6 : decode cJ8_newLength_cabcc 6 = .ok (.iadd, 1) := by decide +kernel
theorem dJ8_newLength_cabcc_7 : decode cJ8_newLength_cabcc 7 = .ok (.istore_n 3, 1) := by decide +kernel
theorem dJ8_newLength_cabcc_8 : decode cJ8_newLength_cabcc 8 = .ok (.iconst 0, 1) := by decide +kernel
theorem dJ8_newLength_cabcc_9 : decode cJ8_newLength_cabcc 9 = .ok (.iload_n 3, 1) := by decide +kernel
theorem dJ8_newLength_cabcc_10 : decode cJ8_newLength_cabcc 10 = .ok (.if_icmp .ge 11, 3) := by decide +kernel
theorem dJ8_newLength_cabcc_13 : decode cJ8_newLength_cabcc 13 = .ok (.iload_n 3, 1) := by decide +kernel
theorem dJ8_newLength_cabcc_14 : decode cJ8_newLength_cabcc 14 = .ok (.ldc 200, 2) := by decide +kernel
theorem dJ8_newLength_cabcc_16 : decode cJ8_newLength_cabcc 16 = .ok (.if_icmp .gt 5, 3) := by decide +kernel
theorem dJ8_newLength_cabcc_19 : decode cJ8_newLength_cabcc 19 = .ok (.iload_n 3, 1) := by decide +kernel
theorem dJ8_newLength_cabcc_20 : decode cJ8_newLength_cabcc 20 = .ok (.ireturn, 1) := by decide +kernel
theorem dJ8_newLength_cabcc_21 : decode cJ8_newLength_cabcc 21 = .ok (.iload_n 0, 1) := by decide +kernel
theorem dJ8_newLength_cabcc_22 : decode cJ8_newLength_cabcc 22 = .ok (.iload_n 1, 1) := by decide +kernel
theorem dJ8_newLength_cabcc_23 : decode cJ8_newLength_cabcc 23 = .ok (.invokestatic 201, 3) := by decide +kernel
theorem dJ8_newLength_cabcc_26 : decode cJ8_newLength_cabcc 26 = .ok (.ireturn, 1) := by decide +kernel
theorem dJ8_hugeLength_7cf53_0 : decode cJ8_hugeLength_7cf53 0 = .ok (.iload_n 0, 1) := by decide +kernel
theorem dJ8_hugeLength_7cf53_1 : decode cJ8_hugeLength_7cf53 1 = .ok (.iload_n 1, 1) := by decide +kernel
theorem dJ8_hugeLength_7cf53_2 : decode cJ8_hugeLength_7cf53 2 = .ok (.iadd, 1) := by decide +kernel
theorem dJ8_hugeLength_7cf53_3 : decode cJ8_hugeLength_7cf53 3 = .ok (.istore_n 2, 1) := by decide +kernel
theorem dJ8_hugeLength_7cf53_4 : decode cJ8_hugeLength_7cf53 4 = .ok (.iload_n 2, 1) := by decide +kernel
theorem dJ8_hugeLength_7cf53_5 : decode cJ8_hugeLength_7cf53 5 = .ok (.ifCond .ge 44, 3) := by decide +kernel
theorem dJ8_hugeLength_7cf53_8 : decode cJ8_hugeLength_7cf53 8 = .ok (.new 204, 3) := by decide +kernel
theorem dJ8_hugeLength_7cf53_11 : decode cJ8_hugeLength_7cf53 11 = .ok (.dup, 1) := by decide +kernel
theorem dJ8_hugeLength_7cf53_12 : decode cJ8_hugeLength_7cf53 12 = .ok (.new 89, 3) := by decide +kernel
theorem dJ8_hugeLength_7cf53_15 : decode cJ8_hugeLength_7cf53 15 = .ok (.dup, 1) := by decide +kernel
theorem dJ8_hugeLength_7cf53_16 : decode cJ8_hugeLength_7cf53 16 = .ok (.invokespecial 91, 3) := by decide +kernel
theorem dJ8_hugeLength_7cf53_19 : decode cJ8_hugeLength_7cf53 19 = .ok (.ldc 206, 2) := by decide +kernel
theorem dJ8_hugeLength_7cf53_21 : decode cJ8_hugeLength_7cf53 21 = .ok (.invokevirtual 94, 3) := by decide +kernel
theorem dJ8_hugeLength_7cf53_24 : decode cJ8_hugeLength_7cf53 24 = .ok (.iload_n 0, 1) := by decide +kernel
theorem dJ8_hugeLength_7cf53_25 : decode cJ8_hugeLength_7cf53 25 = .ok (.invokevirtual 98, 3) := by decide +kernel
theorem dJ8_hugeLength_7cf53_28 : decode cJ8_hugeLength_7cf53 28 = .ok (.ldc 208, 2) := by decide +kernel
theorem dJ8_hugeLength_7cf53_30 : decode cJ8_hugeLength_7cf53 30 = .ok (.invokevirtual 94, 3) := by decide +kernel
theorem dJ8_hugeLength_7cf53_33 : decode cJ8_hugeLength_7cf53 33 = .ok (.iload_n 1, 1) := by decide +kernel
theorem dJ8_hugeLength_7cf53_34 : decode cJ8_hugeLength_7cf53 34 = .ok (.invokevirtual 98, 3) := by decide +kernel
theorem dJ8_hugeLength_7cf53_37 : decode cJ8_hugeLength_7cf53 37 = .ok (.ldc 210, 2) := by decide +kernel
theorem dJ8_hugeLength_7cf53_39 : decode cJ8_hugeLength_7cf53 39 = .ok (.invokevirtual 94, 3) := by decide +kernel
theorem dJ8_hugeLength_7cf53_42 : decode cJ8_hugeLength_7cf53 42 = .ok (.invokevirtual 101, 3) := by decide +kernel
theorem dJ8_hugeLength_7cf53_45 : decode cJ8_hugeLength_7cf53 45 = .ok (.invokespecial 212, 3) := by decide +kernel
theorem dJ8_hugeLength_7cf53_48 : decode cJ8_hugeLength_7cf53 48 = .ok (.athrow, 1) := by decide +kernel
theorem dJ8_hugeLength_7cf53_49 : decode cJ8_hugeLength_7cf53 49 = .ok (.iload_n 2, 1) := by decide +kernel
theorem dJ8_hugeLength_7cf53_50 : decode cJ8_hugeLength_7cf53 50 = .ok (.ldc 200, 2) := by decide +kernel
theorem dJ8_hugeLength_7cf53_52 : decode cJ8_hugeLength_7cf53 52 = .ok (.if_icmp .gt 6, 3) := by decide +kernel
theorem dJ8_hugeLength_7cf53_55 : decode cJ8_hugeLength_7cf53 55 = .ok (.ldc 200, 2) := by decide +kernel
theorem dJ8_hugeLength_7cf53_57 : decode cJ8_hugeLength_7cf53 57 = .ok (.ireturn, 1) := by decide +kernel
theorem dJ8_hugeLength_7cf53_58 : decode cJ8_hugeLength_7cf53 58 = .ok (.iload_n 2, 1) := by decide +kernel
theorem dJ8_hugeLength_7cf53_59 : decode cJ8_hugeLength_7cf53 59 = .ok (.ireturn, 1) := by decide +kernel
theorem dJ3_checkIndex_8e157_0 : decode cJ3_checkIndex_8e157 0 = .ok (.iload_n 0, 1) := by decide +kernel
theorem dJ3_checkIndex_8e157_1 : decode cJ3_checkIndex_8e157 1 = .ok (.ifCond .lt 8, 3) := by decide +kernel
theorem dJ3_checkIndex_8e157_4 : decode cJ3_checkIndex_8e157 4 = .ok (.iload_n 0, 1) := by decide +kernel
theorem dJ3_checkIndex_8e157_5 : decode cJ3_checkIndex_8e157 5 = .ok (.iload_n 1, 1) := by decide +kernel
theorem dJ3_checkIndex_8e157_6 : decode cJ3_checkIndex_8e157 6 = .ok (.if_icmp .lt 10, 3) := by decide +kernel
theorem dJ3_checkIndex_8e157_9 : decode cJ3_checkIndex_8e157 9 = .ok (.aload_n 2, 1) := by decide +kernel
theorem dJ3_checkIndex_8e157_10 : decode cJ3_checkIndex_8e157 10 = .ok (.iload_n 0, 1) := by decide +kernel
theorem dJ3_checkIndex_8e157_11 : decode cJ3_checkIndex_8e157 11 = .ok (.iload_n 1, 1) := by decide +kernel
theorem dJ3_checkIndex_8e157_12 : decode cJ3_checkIndex_8e157 12 = .ok (.invokestatic 95, 3) := by decide +kernel
theorem dJ3_checkIndex_8e157_15 : decode cJ3_checkIndex_8e157 15 = .ok (.athrow, 1) := by decide +kernel
theorem dJ3_checkIndex_8e157_16 : decode cJ3_checkIndex_8e157 16 = .ok (.iload_n 0, 1) := by decide +kernel
theorem dJ3_checkIndex_8e157_17 : decode cJ3_checkIndex_8e157 17 = .ok (.ireturn, 1) := by decide +kernel
theorem dJ3_checkFromToIndex_8c36e_0 : decode cJ3_checkFromToIndex_8c36e 0 = .ok (.iload_n 0, 1) := by decide +kernel
theorem dJ3_checkFromToIndex_8c36e_1 : decode cJ3_checkFromToIndex_8c36e 1 = .ok (.ifCond .lt 13, 3) := by decide +kernel
theorem dJ3_checkFromToIndex_8c36e_4 : decode cJ3_checkFromToIndex_8c36e 4 = .ok (.iload_n 0, 1) := by decide +kernel
theorem dJ3_checkFromToIndex_8c36e_5 : decode cJ3_checkFromToIndex_8c36e 5 = .ok (.iload_n 1, 1) := by decide +kernel
theorem dJ3_checkFromToIndex_8c36e_6 : decode cJ3_checkFromToIndex_8c36e 6 = .ok (.if_icmp .gt 8, 3) := by decide +kernel
theorem dJ3_checkFromToIndex_8c36e_9 : decode cJ3_checkFromToIndex_8c36e 9 = .ok (.iload_n 1, 1) := by decide +kernel
theorem dJ3_checkFromToIndex_8c36e_10 : decode cJ3_checkFromToIndex_8c36e 10 = .ok (.iload_n 2, 1) := by decide +kernel
theorem dJ3_checkFromToIndex_8c36e_11 : decode cJ3_checkFromToIndex_8c36e 11 = .ok (.if_icmp .le 11, 3) := by decide +kernel
theorem dJ3_checkFromToIndex_8c36e_14 : decode cJ3_checkFromToIndex_8c36e 14 = .ok (.aload_n 3, 1) := by decide +kernel
theorem dJ3_checkFromToIndex_8c36e_15 : decode cJ3_checkFromToIndex_8c36e 15 = .ok (.iload_n 0, 1) := by decide +kernel
theorem dJ3_checkFromToIndex_8c36e_16 : decode cJ3_checkFromToIndex_8c36e 16 = .ok (.iload_n 1, 1) := by decide +kernel
theorem dJ3_checkFromToIndex_8c36e_17 : decode cJ3_checkFromToIndex_8c36e 17 = .ok (.iload_n 2, 1) := by decide +kernel
theorem dJ3_checkFromToIndex_8c36e_18 : decode cJ3_checkFromToIndex_8c36e 18 = .ok (.invokestatic 99, 3) := by decide +kernel
theorem dJ3_checkFromToIndex_8c36e_21 : decode cJ3_checkFromToIndex_8c36e 21 = .ok (.athrow, 1) := by decide +kernel
theorem dJ3_checkFromToIndex_8c36e_22 : decode cJ3_checkFromToIndex_8c36e 22 = .ok (.iload_n 0, 1) := by decide +kernel
theorem dJ3_checkFromToIndex_8c36e_23 : decode cJ3_checkFromToIndex_8c36e 23 = .ok (.ireturn, 1) := by decide +kernel
theorem dJ3_checkFromIndexSize_8c36e_0 : decode cJ3_checkFromIndexSize_8c36e 0 = .ok (.iload_n 2, 1) := by decide +kernel
theorem dJ3_checkFromIndexSize_8c36e_1 : decode cJ3_checkFromIndexSize_8c36e 1 = .ok (.iload_n 0, 1) := by decide +kernel
theorem dJ3_checkFromIndexSize_8c36e_2 : decode cJ3_checkFromIndexSize_8c36e 2 = .ok (.ior, 1) := by decide +kernel
theorem dJ3_checkFromIndexSize_8c36e_3 : decode cJ3_checkFromIndexSize_8c36e 3 = .ok (.iload_n 1, 1) := by decide +kernel
theorem dJ3_checkFromIndexSize_8c36e_4 : decode cJ3_checkFromIndexSize_8c36e 4 = .ok (.ior, 1) := by decide +kernel
theorem dJ3_checkFromIndexSize_8c36e_5 : decode cJ3_checkFromIndexSize_8c36e 5 = .ok (.ifCond .lt 10, 3) := by decide +kernel
theorem dJ3_checkFromIndexSize_8c36e_8 : decode cJ3_checkFromIndexSize_8c36e 8 = .ok (.iload_n 1, 1) := by decide +kernel
theorem dJ3_checkFromIndexSize_8c36e_9 : decode cJ3_checkFromIndexSize_8c36e 9 = .ok (.iload_n 2, 1) := by decide +kernel
theorem dJ3_checkFromIndexSize_8c36e_10 : decode cJ3_checkFromIndexSize_8c36e 10 = .ok (.iload_n 0, 1) := by decide +kernel
theorem dJ3_checkFromIndexSize_8c36e_11 : decode cJ3_checkFromIndexSize_8c36e 11 = .ok (.isub, 1) := by decide +kernel
theorem dJ3_checkFromIndexSize_8c36e_12 : decode cJ3_checkFromIndexSize_8c36e 12 = .ok (.if_icmp .le 11, 3) := by decide +kernel
theorem dJ3_checkFromIndexSize_8c36e_15 : decode cJ3_checkFromIndexSize_8c36e 15 = .ok (.aload_n 3, 1) := by decide +kernel
theorem dJ3_checkFromIndexSize_8c36e_16 : decode cJ3_checkFromIndexSize_8c36e 16 = .ok (.iload_n 0, 1) := by decide +kernel
theorem dJ3_checkFromIndexSize_8c36e_17 : decode cJ3_checkFromIndexSize_8c36e 17 = .ok (.iload_n 1, 1) := by decide +kernel
theorem dJ3_checkFromIndexSize_8c36e_18 : decode cJ3_checkFromIndexSize_8c36e 18 = .ok (.iload_n 2, 1) := by decide +kernel
theorem dJ3_checkFromIndexSize_8c36e_19 : decode cJ3_checkFromIndexSize_8c36e 19 = .ok (.invokestatic 103, 3) := by decide +kernel
theorem dJ3_checkFromIndexSize_8c36e_22 : decode cJ3_checkFromIndexSize_8c36e 22 = .ok (.athrow, 1) := by decide +kernel
theorem dJ3_checkFromIndexSize_8c36e_23 : decode cJ3_checkFromIndexSize_8c36e 23 = .ok (.iload_n 0, 1) := by decide +kernel
theorem dJ3_checkFromIndexSize_8c36e_24 : decode cJ3_checkFromIndexSize_8c36e 24 = .ok (.ireturn, 1) := by decide +kernel
theorem dL_law_0 : decode cL_law 0 = .ok (.new 7, 3) := by decide +kernel
theorem dL_law_3 : decode cL_law 3 = .ok (.dup, 1) := by decide +kernel
theorem dL_law_4 : decode cL_law 4 = .ok (.invokespecial 9, 3) := by decide +kernel
theorem dL_law_7 : decode cL_law 7 = .ok (.astore_n 1, 1) := by decide +kernel
theorem dL_law_8 : decode cL_law 8 = .ok (.new 10, 3) := by decide +kernel
theorem dL_law_11 : decode cL_law 11 = .ok (.dup, 1) := by decide +kernel
theorem dL_law_12 : decode cL_law 12 = .ok (.invokespecial 12, 3) := by decide +kernel
theorem dL_law_15 : decode cL_law 15 = .ok (.astore_n 2, 1) := by decide +kernel
theorem dL_law_16 : decode cL_law 16 = .ok (.iconst 0, 1) := by decide +kernel
theorem dL_law_17 : decode cL_law 17 = .ok (.istore_n 3, 1) := by decide +kernel
theorem dL_law_18 : decode cL_law 18 = .ok (.iload_n 3, 1) := by decide +kernel
theorem dL_law_19 : decode cL_law 19 = .ok (.aload_n 0, 1) := by decide +kernel
theorem dL_law_20 : decode cL_law 20 = .ok (.arraylength, 1) := by decide +kernel
theorem dL_law_21 : decode cL_law 21 = .ok (.iconst 4, 1) := by decide +kernel
theorem dL_law_22 : decode cL_law 22 = .ok (.isub, 1) := by decide +kernel
theorem dL_law_23 : decode cL_law 23 = .ok (.if_icmp .gt 963, 3) := by decide +kernel
theorem dL_law_26 : decode cL_law 26 = .ok (.aload_n 0, 1) := by decide +kernel
theorem dL_law_27 : decode cL_law 27 = .ok (.iload_n 3, 1) := by decide +kernel
theorem dL_law_28 : decode cL_law 28 = .ok (.iaload, 1) := by decide +kernel
theorem dL_law_29 : decode cL_law 29 = .ok (.bipush 63, 2) := by decide +kernel
theorem dL_law_31 : decode cL_law 31 = .ok (.iand, 1) := by decide +kernel
theorem dL_law_32 : decode cL_law 32 = .ok (.tableswitch 948 0 33 #[152, 175, 218, 241, 264, 287, 310, 353, 376, 399, 432, 455, 478, 501, 524, 537, 550, 573, 606, 619, 632, 655, 678, 691, 704, 727, 750, 789, 812, 825, 866, 909, 922, 935], 152) := by decide +kernel
theorem dL_law_184 : decode cL_law 184 = .ok (.aload_n 1, 1) := by decide +kernel
theorem dL_law_185 : decode cL_law 185 = .ok (.aload_n 0, 1) := by decide +kernel
theorem dL_law_186 : decode cL_law 186 = .ok (.iload_n 3, 1) := by decide +kernel
theorem dL_law_187 : decode cL_law 187 = .ok (.iconst 1, 1) := by decide +kernel
theorem dL_law_188 : decode cL_law 188 = .ok (.iadd, 1) := by decide +kernel
theorem dL_law_189 : decode cL_law 189 = .ok (.iaload, 1) := by decide +kernel
theorem dL_law_190 : decode cL_law 190 = .ok (.invokevirtual 13, 3) := by decide +kernel
theorem dL_law_193 : decode cL_law 193 = .ok (.aload_n 2, 1) := by decide +kernel
theorem dL_law_194 : decode cL_law 194 = .ok (.aload_n 0, 1) := by decide +kernel
theorem dL_law_195 : decode cL_law 195 = .ok (.iload_n 3, 1) := by decide +kernel
theorem dL_law_196 : decode cL_law 196 = .ok (.iconst 1, 1) := by decide +kernel
theorem dL_law_197 : decode cL_law 197 = .ok (.iadd, 1) := by decide +kernel
theorem dL_law_198 : decode cL_law 198 = .ok (.iaload, 1) := by decide +kernel
theorem dL_law_199 : decode cL_law 199 = .ok (.invokevirtual 17, 3) := by decide +kernel
theorem dL_law_202 : decode cL_law 202 = .ok (.if_icmp .eq 778, 3) := by decide +kernel
theorem dL_law_205 : decode cL_law 205 = .ok (.iconst 0, 1) := by decide +kernel
theorem dL_law_206 : decode cL_law 206 = .ok (.ireturn, 1) := by decide +kernel
theorem dL_law_207 : decode cL_law 207 = .ok (.aload_n 1, 1) := by decide +kernel
theorem dL_law_208 : decode cL_law 208 = .ok (.aload_n 0, 1) := by decide +kernel
theorem dL_law_209 : decode cL_law 209 = .ok (.iload_n 3, 1) := by decide +kernel
theorem dL_law_210 : decode cL_law 210 = .ok (.iconst 1, 1) := by decide +kernel
theorem dL_law_211 : decode cL_law 211 = .ok (.iadd, 1) := by decide +kernel
theorem dL_law_212 : decode cL_law 212 = .ok (.iaload, 1) := by decide +kernel
theorem dL_law_213 : decode cL_law 213 = .ok (.aload_n 0, 1) := by decide +kernel
theorem dL_law_214 : decode cL_law 214 = .ok (.iload_n 3, 1) := by decide +kernel
theorem dL_law_215 : decode cL_law 215 = .ok (.iconst 2, 1) := by decide +kernel
theorem dL_law_216 : decode cL_law 216 = .ok (.iadd, 1) := by decide +kernel
theorem dL_law_217 : decode cL_law 217 = .ok (.iaload, 1) := by decide +kernel
theorem dL_law_218 : decode cL_law 218 = .ok (.aload_n 0, 1) := by decide +kernel
theorem dL_law_219 : decode cL_law 219 = .ok (.iload_n 3, 1) := by decide +kernel
theorem dL_law_220 : decode cL_law 220 = .ok (.iconst 3, 1) := by decide +kernel
theorem dL_law_221 : decode cL_law 221 = .ok (.iadd, 1) := by decide +kernel
theorem dL_law_222 : decode cL_law 222 = .ok (.iaload, 1) := by decide +kernel
theorem dL_law_223 : decode cL_law 223 = .ok (.invokevirtual 18, 3) := by decide +kernel
theorem dL_law_226 : decode cL_law 226 = .ok (.aload_n 2, 1) := by decide +kernel
theorem dL_law_227 : decode cL_law 227 = .ok (.aload_n 0, 1) := by decide +kernel
theorem dL_law_228 : decode cL_law 228 = .ok (.iload_n 3, 1) := by decide +kernel
theorem dL_law_229 : decode cL_law 229 = .ok (.iconst 1, 1) := by decide +kernel
theorem dL_law_230 : decode cL_law 230 = .ok (.iadd, 1) := by decide +kernel
theorem dL_law_231 : decode cL_law 231 = .ok (.iaload, 1) := by decide +kernel
theorem dL_law_232 : decode cL_law 232 = .ok (.aload_n 0, 1) := by decide +kernel
theorem dL_law_233 : decode cL_law 233 = .ok (.iload_n 3, 1) := by decide +kernel
theorem dL_law_234 : decode cL_law 234 = .ok (.iconst 2, 1) := by decide +kernel
theorem dL_law_235 : decode cL_law 235 = .ok (.iadd, 1) := by decide +kernel
theorem dL_law_236 : decode cL_law 236 = .ok (.iaload, 1) := by decide +kernel
theorem dL_law_237 : decode cL_law 237 = .ok (.aload_n 0, 1) := by decide +kernel
theorem dL_law_238 : decode cL_law 238 = .ok (.iload_n 3, 1) := by decide +kernel
theorem dL_law_239 : decode cL_law 239 = .ok (.iconst 3, 1) := by decide +kernel
theorem dL_law_240 : decode cL_law 240 = .ok (.iadd, 1) := by decide +kernel
theorem dL_law_241 : decode cL_law 241 = .ok (.iaload, 1) := by decide +kernel
theorem dL_law_242 : decode cL_law 242 = .ok (.invokevirtual 22, 3) := by decide +kernel
theorem dL_law_245 : decode cL_law 245 = .ok (.if_icmp .eq 735, 3) := by decide +kernel
theorem dL_law_248 : decode cL_law 248 = .ok (.iconst 0, 1) := by decide +kernel
theorem dL_law_249 : decode cL_law 249 = .ok (.ireturn, 1) := by decide +kernel
theorem dL_law_250 : decode cL_law 250 = .ok (.aload_n 1, 1) := by decide +kernel
theorem dL_law_251 : decode cL_law 251 = .ok (.aload_n 0, 1) := by decide +kernel
theorem dL_law_252 : decode cL_law 252 = .ok (.iload_n 3, 1) := by decide +kernel
theorem dL_law_253 : decode cL_law 253 = .ok (.iconst 1, 1) := by decide +kernel
theorem dL_law_254 : decode cL_law 254 = .ok (.iadd, 1) := by decide +kernel
theorem dL_law_255 : decode cL_law 255 = .ok (.iaload, 1) := by decide +kernel
theorem dL_law_256 : decode cL_law 256 = .ok (.invokevirtual 23, 3) := by decide +kernel
theorem dL_law_259 : decode cL_law 259 = .ok (.aload_n 2, 1) := by decide +kernel
theorem dL_law_260 : decode cL_law 260 = .ok (.aload_n 0, 1) := by decide +kernel
theorem dL_law_261 : decode cL_law 261 = .ok (.iload_n 3, 1) := by decide +kernel
theorem dL_law_262 : decode cL_law 262 = .ok (.iconst 1, 1) := by decide +kernel
theorem dL_law_263 : decode cL_law 263 = .ok (.iadd, 1) := by decide +kernel
theorem dL_law_264 : decode cL_law 264 = .ok (.iaload, 1) := by decide +kernel
theorem dL_law_265 : decode cL_law 265 = .ok (.invokevirtual 26, 3) := by decide +kernel
theorem dL_law_268 : decode cL_law 268 = .ok (.if_icmp .eq 712, 3) := by decide +kernel
theorem dL_law_271 : decode cL_law 271 = .ok (.iconst 0, 1) := by decide +kernel
theorem dL_law_272 : decode cL_law 272 = .ok (.ireturn, 1) := by decide +kernel
theorem dL_law_273 : decode cL_law 273 = .ok (.aload_n 1, 1) := by decide +kernel
theorem dL_law_274 : decode cL_law 274 = .ok (.aload_n 0, 1) := by decide +kernel
theorem dL_law_275 : decode cL_law 275 = .ok (.iload_n 3, 1) := by decide +kernel
theorem dL_law_276 : decode cL_law 276 = .ok (.iconst 1, 1) := by decide +kernel
theorem dL_law_277 : decode cL_law 277 = .ok (.iadd, 1) := by decide +kernel
theorem dL_law_278 : decode cL_law 278 = .ok (.iaload, 1) := by decide +kernel
theorem dL_law_279 : decode cL_law 279 = .ok (.invokevirtual 27, 3) := by decide +kernel
theorem dL_law_282 : decode cL_law 282 = .ok (.aload_n 2, 1) := by decide +kernel
theorem dL_law_283 : decode cL_law 283 = .ok (.aload_n 0, 1) := by decide +kernel
theorem dL_law_284 : decode cL_law 284 = .ok (.iload_n 3, 1) := by decide +kernel
theorem dL_law_285 : decode cL_law 285 = .ok (.iconst 1, 1) := by decide +kernel
theorem dL_law_286 : decode cL_law 286 = .ok (.iadd, 1) := by decide +kernel
theorem dL_law_287 : decode cL_law 287 = .ok (.iaload, 1) := by decide +kernel
theorem dL_law_288 : decode cL_law 288 = .ok (.invokevirtual 30, 3) := by decide +kernel
theorem dL_law_291 : decode cL_law 291 = .ok (.if_icmp .eq 689, 3) := by decide +kernel
theorem dL_law_294 : decode cL_law 294 = .ok (.iconst 0, 1) := by decide +kernel
theorem dL_law_295 : decode cL_law 295 = .ok (.ireturn, 1) := by decide +kernel
theorem dL_law_296 : decode cL_law 296 = .ok (.aload_n 1, 1) := by decide +kernel
theorem dL_law_297 : decode cL_law 297 = .ok (.aload_n 0, 1) := by decide +kernel
theorem dL_law_298 : decode cL_law 298 = .ok (.iload_n 3, 1) := by decide +kernel
theorem dL_law_299 : decode cL_law 299 = .ok (.iconst 1, 1) := by decide +kernel
theorem dL_law_300 : decode cL_law 300 = .ok (.iadd, 1) := by decide +kernel
theorem dL_law_301 : decode cL_law 301 = .ok (.iaload, 1) := by decide +kernel
theorem dL_law_302 : decode cL_law 302 = .ok (.invokevirtual 31, 3) := by decide +kernel
theorem dL_law_305 : decode cL_law 305 = .ok (.aload_n 2, 1) := by decide +kernel
theorem dL_law_306 : decode cL_law 306 = .ok (.aload_n 0, 1) := by decide +kernel
theorem dL_law_307 : decode cL_law 307 = .ok (.iload_n 3, 1) := by decide +kernel
theorem dL_law_308 : decode cL_law 308 = .ok (.iconst 1, 1) := by decide +kernel
theorem dL_law_309 : decode cL_law 309 = .ok (.iadd, 1) := by decide +kernel
theorem dL_law_310 : decode cL_law 310 = .ok (.iaload, 1) := by decide +kernel
theorem dL_law_311 : decode cL_law 311 = .ok (.invokevirtual 34, 3) := by decide +kernel
theorem dL_law_314 : decode cL_law 314 = .ok (.if_icmp .eq 666, 3) := by decide +kernel
theorem dL_law_317 : decode cL_law 317 = .ok (.iconst 0, 1) := by decide +kernel
theorem dL_law_318 : decode cL_law 318 = .ok (.ireturn, 1) := by decide +kernel
theorem dL_law_319 : decode cL_law 319 = .ok (.aload_n 1, 1) := by decide +kernel
theorem dL_law_320 : decode cL_law 320 = .ok (.aload_n 0, 1) := by decide +kernel
theorem dL_law_321 : decode cL_law 321 = .ok (.iload_n 3, 1) := by decide +kernel
theorem dL_law_322 : decode cL_law 322 = .ok (.iconst 1, 1) := by decide +kernel
theorem dL_law_323 : decode cL_law 323 = .ok (.iadd, 1) := by decide +kernel
theorem dL_law_324 : decode cL_law 324 = .ok (.iaload, 1) := by decide +kernel
theorem dL_law_325 : decode cL_law 325 = .ok (.invokevirtual 35, 3) := by decide +kernel
theorem dL_law_328 : decode cL_law 328 = .ok (.aload_n 2, 1) := by decide +kernel
theorem dL_law_329 : decode cL_law 329 = .ok (.aload_n 0, 1) := by decide +kernel
theorem dL_law_330 : decode cL_law 330 = .ok (.iload_n 3, 1) := by decide +kernel
theorem dL_law_331 : decode cL_law 331 = .ok (.iconst 1, 1) := by decide +kernel
theorem dL_law_332 : decode cL_law 332 = .ok (.iadd, 1) := by decide +kernel
theorem dL_law_333 : decode cL_law 333 = .ok (.iaload, 1) := by decide +kernel
theorem dL_law_334 : decode cL_law 334 = .ok (.invokevirtual 38, 3) := by decide +kernel
theorem dL_law_337 : decode cL_law 337 = .ok (.if_icmp .eq 643, 3) := by decide +kernel
theorem dL_law_340 : decode cL_law 340 = .ok (.iconst 0, 1) := by decide +kernel
theorem dL_law_341 : decode cL_law 341 = .ok (.ireturn, 1) := by decide +kernel
theorem dL_law_342 : decode cL_law 342 = .ok (.aload_n 1, 1) := by decide +kernel
theorem dL_law_343 : decode cL_law 343 = .ok (.aload_n 0, 1) := by decide +kernel
theorem dL_law_344 : decode cL_law 344 = .ok (.iload_n 3, 1) := by decide +kernel
theorem dL_law_345 : decode cL_law 345 = .ok (.iconst 1, 1) := by decide +kernel
theorem dL_law_346 : decode cL_law 346 = .ok (.iadd, 1) := by decide +kernel
theorem dL_law_347 : decode cL_law 347 = .ok (.iaload, 1) := by decide +kernel
theorem dL_law_348 : decode cL_law 348 = .ok (.aload_n 0, 1) := by decide +kernel
theorem dL_law_349 : decode cL_law 349 = .ok (.iload_n 3, 1) := by decide +kernel
theorem dL_law_350 : decode cL_law 350 = .ok (.iconst 2, 1) := by decide +kernel
theorem dL_law_351 : decode cL_law 351 = .ok (.iadd, 1) := by decide +kernel
theorem dL_law_352 : decode cL_law 352 = .ok (.iaload, 1) := by decide +kernel
theorem dL_law_353 : decode cL_law 353 = .ok (.aload_n 0, 1) := by decide +kernel
theorem dL_law_354 : decode cL_law 354 = .ok (.iload_n 3, 1) := by decide +kernel
theorem dL_law_355 : decode cL_law 355 = .ok (.iconst 3, 1) := by decide +kernel
theorem dL_law_356 : decode cL_law 356 = .ok (.iadd, 1) := by decide +kernel
theorem dL_law_357 : decode cL_law 357 = .ok (.iaload, 1) := by decide +kernel
theorem dL_law_358 : decode cL_law 358 = .ok (.invokevirtual 39, 3) := by decide +kernel
theorem dL_law_361 : decode cL_law 361 = .ok (.aload_n 2, 1) := by decide +kernel
theorem dL_law_362 : decode cL_law 362 = .ok (.aload_n 0, 1) := by decide +kernel
theorem dL_law_363 : decode cL_law 363 = .ok (.iload_n 3, 1) := by decide +kernel
theorem dL_law_364 : decode cL_law 364 = .ok (.iconst 1, 1) := by decide +kernel
theorem dL_law_365 : decode cL_law 365 = .ok (.iadd, 1) := by decide +kernel
theorem dL_law_366 : decode cL_law 366 = .ok (.iaload, 1) := by decide +kernel
theorem dL_law_367 : decode cL_law 367 = .ok (.aload_n 0, 1) := by decide +kernel
theorem dL_law_368 : decode cL_law 368 = .ok (.iload_n 3, 1) := by decide +kernel
theorem dL_law_369 : decode cL_law 369 = .ok (.iconst 2, 1) := by decide +kernel
theorem dL_law_370 : decode cL_law 370 = .ok (.iadd, 1) := by decide +kernel
theorem dL_law_371 : decode cL_law 371 = .ok (.iaload, 1) := by decide +kernel
theorem dL_law_372 : decode cL_law 372 = .ok (.aload_n 0, 1) := by decide +kernel
theorem dL_law_373 : decode cL_law 373 = .ok (.iload_n 3, 1) := by decide +kernel
theorem dL_law_374 : decode cL_law 374 = .ok (.iconst 3, 1) := by decide +kernel
theorem dL_law_375 : decode cL_law 375 = .ok (.iadd, 1) := by decide +kernel
theorem dL_law_376 : decode cL_law 376 = .ok (.iaload, 1) := by decide +kernel
theorem dL_law_377 : decode cL_law 377 = .ok (.invokevirtual 42, 3) := by decide +kernel
theorem dL_law_380 : decode cL_law 380 = .ok (.if_icmp .eq 600, 3) := by decide +kernel
theorem dL_law_383 : decode cL_law 383 = .ok (.iconst 0, 1) := by decide +kernel
theorem dL_law_384 : decode cL_law 384 = .ok (.ireturn, 1) := by decide +kernel
theorem dL_law_385 : decode cL_law 385 = .ok (.aload_n 1, 1) := by decide +kernel
theorem dL_law_386 : decode cL_law 386 = .ok (.aload_n 0, 1) := by decide +kernel
theorem dL_law_387 : decode cL_law 387 = .ok (.iload_n 3, 1) := by decide +kernel
theorem dL_law_388 : decode cL_law 388 = .ok (.iconst 1, 1) := by decide +kernel
theorem dL_law_389 : decode cL_law 389 = .ok (.iadd, 1) := by decide +kernel
theorem dL_law_390 : decode cL_law 390 = .ok (.iaload, 1) := by decide +kernel
theorem dL_law_391 : decode cL_law 391 = .ok (.invokevirtual 43, 3) := by decide +kernel
theorem dL_law_394 : decode cL_law 394 = .ok (.aload_n 2, 1) := by decide +kernel
theorem dL_law_395 : decode cL_law 395 = .ok (.aload_n 0, 1) := by decide +kernel
theorem dL_law_396 : decode cL_law 396 = .ok (.iload_n 3, 1) := by decide +kernel
theorem dL_law_397 : decode cL_law 397 = .ok (.iconst 1, 1) := by decide +kernel
theorem dL_law_398 : decode cL_law 398 = .ok (.iadd, 1) := by decide +kernel
theorem dL_law_399 : decode cL_law 399 = .ok (.iaload, 1) := by decide +kernel
theorem dL_law_400 : decode cL_law 400 = .ok (.invokevirtual 46, 3) := by decide +kernel
theorem dL_law_403 : decode cL_law 403 = .ok (.if_icmp .eq 577, 3) := by decide +kernel
theorem dL_law_406 : decode cL_law 406 = .ok (.iconst 0, 1) := by decide +kernel
theorem dL_law_407 : decode cL_law 407 = .ok (.ireturn, 1) := by decide +kernel
theorem dL_law_408 : decode cL_law 408 = .ok (.aload_n 1, 1) := by decide +kernel
theorem dL_law_409 : decode cL_law 409 = .ok (.aload_n 0, 1) := by decide +kernel
theorem dL_law_410 : decode cL_law 410 = .ok (.iload_n 3, 1) := by decide +kernel
theorem dL_law_411 : decode cL_law 411 = .ok (.iconst 1, 1) := by decide +kernel
theorem dL_law_412 : decode cL_law 412 = .ok (.iadd, 1) := by decide +kernel
theorem dL_law_413 : decode cL_law 413 = .ok (.iaload, 1) := by decide +kernel
theorem dL_law_414 : decode cL_law 414 = .ok (.invokevirtual 47, 3) := by decide +kernel
theorem dL_law_417 : decode cL_law 417 = .ok (.aload_n 2, 1) := by decide +kernel
theorem dL_law_418 : decode cL_law 418 = .ok (.aload_n 0, 1) := by decide +kernel
theorem dL_law_419 : decode cL_law 419 = .ok (.iload_n 3, 1) := by decide +kernel
theorem dL_law_420 : decode cL_law 420 = .ok (.iconst 1, 1) := by decide +kernel
theorem dL_law_421 : decode cL_law 421 = .ok (.iadd, 1) := by decide +kernel
theorem dL_law_422 : decode cL_law 422 = .ok (.iaload, 1) := by decide +kernel
theorem dL_law_423 : decode cL_law 423 = .ok (.invokevirtual 50, 3) := by decide +kernel
theorem dL_law_426 : decode cL_law 426 = .ok (.if_icmp .eq 554, 3) := by decide +kernel
theorem dL_law_429 : decode cL_law 429 = .ok (.iconst 0, 1) := by decide +kernel
theorem dL_law_430 : decode cL_law 430 = .ok (.ireturn, 1) := by decide +kernel
theorem dL_law_431 : decode cL_law 431 = .ok (.aload_n 1, 1) := by decide +kernel
theorem dL_law_432 : decode cL_law 432 = .ok (.aload_n 0, 1) := by decide +kernel
theorem dL_law_433 : decode cL_law 433 = .ok (.iload_n 3, 1) := by decide +kernel
theorem dL_law_434 : decode cL_law 434 = .ok (.iconst 1, 1) := by decide +kernel
theorem dL_law_435 : decode cL_law 435 = .ok (.iadd, 1) := by decide +kernel
theorem dL_law_436 : decode cL_law 436 = .ok (.iaload, 1) := by decide +kernel
theorem dL_law_437 : decode cL_law 437 = .ok (.aload_n 0, 1) := by decide +kernel
theorem dL_law_438 : decode cL_law 438 = .ok (.iload_n 3, 1) := by decide +kernel
theorem dL_law_439 : decode cL_law 439 = .ok (.iconst 2, 1) := by decide +kernel
theorem dL_law_440 : decode cL_law 440 = .ok (.iadd, 1) := by decide +kernel
theorem dL_law_441 : decode cL_law 441 = .ok (.iaload, 1) := by decide +kernel
theorem dL_law_442 : decode cL_law 442 = .ok (.invokevirtual 51, 3) := by decide +kernel
theorem dL_law_445 : decode cL_law 445 = .ok (.aload_n 2, 1) := by decide +kernel
theorem dL_law_446 : decode cL_law 446 = .ok (.aload_n 0, 1) := by decide +kernel
theorem dL_law_447 : decode cL_law 447 = .ok (.iload_n 3, 1) := by decide +kernel
theorem dL_law_448 : decode cL_law 448 = .ok (.iconst 1, 1) := by decide +kernel
theorem dL_law_449 : decode cL_law 449 = .ok (.iadd, 1) := by decide +kernel
theorem dL_law_450 : decode cL_law 450 = .ok (.iaload, 1) := by decide +kernel
theorem dL_law_451 : decode cL_law 451 = .ok (.aload_n 0, 1) := by decide +kernel
theorem dL_law_452 : decode cL_law 452 = .ok (.iload_n 3, 1) := by decide +kernel
theorem dL_law_453 : decode cL_law 453 = .ok (.iconst 2, 1) := by decide +kernel
theorem dL_law_454 : decode cL_law 454 = .ok (.iadd, 1) := by decide +kernel
theorem dL_law_455 : decode cL_law 455 = .ok (.iaload, 1) := by decide +kernel
theorem dL_law_456 : decode cL_law 456 = .ok (.invokevirtual 55, 3) := by decide +kernel
theorem dL_law_459 : decode cL_law 459 = .ok (.if_icmp .eq 521, 3) := by decide +kernel
theorem dL_law_462 : decode cL_law 462 = .ok (.iconst 0, 1) := by decide +kernel
theorem dL_law_463 : decode cL_law 463 = .ok (.ireturn, 1) := by decide +kernel
theorem dL_law_464 : decode cL_law 464 = .ok (.aload_n 1, 1) := by decide +kernel
theorem dL_law_465 : decode cL_law 465 = .ok (.aload_n 0, 1) := by decide +kernel
theorem dL_law_466 : decode cL_law 466 = .ok (.iload_n 3, 1) := by decide +kernel
theorem dL_law_467 : decode cL_law 467 = .ok (.iconst 1, 1) := by decide +kernel
theorem dL_law_468 : decode cL_law 468 = .ok (.iadd, 1) := by decide +kernel
theorem dL_law_469 : decode cL_law 469 = .ok (.iaload, 1) := by decide +kernel
theorem dL_law_470 : decode cL_law 470 = .ok (.invokevirtual 56, 3) := by decide +kernel
theorem dL_law_473 : decode cL_law 473 = .ok (.aload_n 2, 1) := by decide +kernel
theorem dL_law_474 : decode cL_law 474 = .ok (.aload_n 0, 1) := by decide +kernel
theorem dL_law_475 : decode cL_law 475 = .ok (.iload_n 3, 1) := by decide +kernel
theorem dL_law_476 : decode cL_law 476 = .ok (.iconst 1, 1) := by decide +kernel
theorem dL_law_477 : decode cL_law 477 = .ok (.iadd, 1) := by decide +kernel
theorem dL_law_478 : decode cL_law 478 = .ok (.iaload, 1) := by decide +kernel
theorem dL_law_479 : decode cL_law 479 = .ok (.invokevirtual 59, 3) := by decide +kernel
theorem dL_law_482 : decode cL_law 482 = .ok (.if_icmp .eq 498, 3) := by decide +kernel
theorem dL_law_485 : decode cL_law 485 = .ok (.iconst 0, 1) := by decide +kernel
theorem dL_law_486 : decode cL_law 486 = .ok (.ireturn, 1) := by decide +kernel
theorem dL_law_487 : decode cL_law 487 = .ok (.aload_n 1, 1) := by decide +kernel
theorem dL_law_488 : decode cL_law 488 = .ok (.aload_n 0, 1) := by decide +kernel
theorem dL_law_489 : decode cL_law 489 = .ok (.iload_n 3, 1) := by decide +kernel
theorem dL_law_490 : decode cL_law 490 = .ok (.iconst 1, 1) := by decide +kernel
theorem dL_law_491 : decode cL_law 491 = .ok (.iadd, 1) := by decide +kernel
theorem dL_law_492 : decode cL_law 492 = .ok (.iaload, 1) := by decide +kernel
theorem dL_law_493 : decode cL_law 493 = .ok (.invokevirtual 60, 3) := by decide +kernel
theorem dL_law_496 : decode cL_law 496 = .ok (.aload_n 2, 1) := by decide +kernel
theorem dL_law_497 : decode cL_law 497 = .ok (.aload_n 0, 1) := by decide +kernel
theorem dL_law_498 : decode cL_law 498 = .ok (.iload_n 3, 1) := by decide +kernel
theorem dL_law_499 : decode cL_law 499 = .ok (.iconst 1, 1) := by decide +kernel
theorem dL_law_500 : decode cL_law 500 = .ok (.iadd, 1) := by decide +kernel
theorem dL_law_501 : decode cL_law 501 = .ok (.iaload, 1) := by decide +kernel
theorem dL_law_502 : decode cL_law 502 = .ok (.invokevirtual 63, 3) := by decide +kernel
theorem dL_law_505 : decode cL_law 505 = .ok (.if_icmp .eq 475, 3) := by decide +kernel
theorem dL_law_508 : decode cL_law 508 = .ok (.iconst 0, 1) := by decide +kernel
theorem dL_law_509 : decode cL_law 509 = .ok (.ireturn, 1) := by decide +kernel
theorem dL_law_510 : decode cL_law 510 = .ok (.aload_n 1, 1) := by decide +kernel
theorem dL_law_511 : decode cL_law 511 = .ok (.aload_n 0, 1) := by decide +kernel
theorem dL_law_512 : decode cL_law 512 = .ok (.iload_n 3, 1) := by decide +kernel
theorem dL_law_513 : decode cL_law 513 = .ok (.iconst 1, 1) := by decide +kernel
theorem dL_law_514 : decode cL_law 514 = .ok (.iadd, 1) := by decide +kernel
theorem dL_law_515 : decode cL_law 515 = .ok (.iaload, 1) := by decide +kernel
theorem dL_law_516 : decode cL_law 516 = .ok (.invokevirtual 64, 3) := by decide +kernel
theorem dL_law_519 : decode cL_law 519 = .ok (.aload_n 2, 1) := by decide +kernel
theorem dL_law_520 : decode cL_law 520 = .ok (.aload_n 0, 1) := by decide +kernel
theorem dL_law_521 : decode cL_law 521 = .ok (.iload_n 3, 1) := by decide +kernel
theorem dL_law_522 : decode cL_law 522 = .ok (.iconst 1, 1) := by decide +kernel
theorem dL_law_523 : decode cL_law 523 = .ok (.iadd, 1) := by decide +kernel
theorem dL_law_524 : decode cL_law 524 = .ok (.iaload, 1) := by decide +kernel
theorem dL_law_525 : decode cL_law 525 = .ok (.invokevirtual 67, 3) := by decide +kernel
theorem dL_law_528 : decode cL_law 528 = .ok (.if_icmp .eq 452, 3) := by decide +kernel
theorem dL_law_531 : decode cL_law 531 = .ok (.iconst 0, 1) := by decide +kernel
theorem dL_law_532 : decode cL_law 532 = .ok (.ireturn, 1) := by decide +kernel
theorem dL_law_533 : decode cL_law 533 = .ok (.aload_n 1, 1) := by decide +kernel
theorem dL_law_534 : decode cL_law 534 = .ok (.aload_n 0, 1) := by decide +kernel
theorem dL_law_535 : decode cL_law 535 = .ok (.iload_n 3, 1) := by decide +kernel
theorem dL_law_536 : decode cL_law 536 = .ok (.iconst 1, 1) := by decide +kernel
theorem dL_law_537 : decode cL_law 537 = .ok (.iadd, 1) := by decide +kernel
theorem dL_law_538 : decode cL_law 538 = .ok (.iaload, 1) := by decide +kernel
theorem dL_law_539 : decode cL_law 539 = .ok (.invokevirtual 68, 3) := by decide +kernel
theorem dL_law_542 : decode cL_law 542 = .ok (.aload_n 2, 1) := by decide +kernel
theorem dL_law_543 : decode cL_law 543 = .ok (.aload_n 0, 1) := by decide +kernel
theorem dL_law_544 : decode cL_law 544 = .ok (.iload_n 3, 1) := by decide +kernel
theorem dL_law_545 : decode cL_law 545 = .ok (.iconst 1, 1) := by decide +kernel
theorem dL_law_546 : decode cL_law 546 = .ok (.iadd, 1) := by decide +kernel
theorem dL_law_547 : decode cL_law 547 = .ok (.iaload, 1) := by decide +kernel
theorem dL_law_548 : decode cL_law 548 = .ok (.invokevirtual 71, 3) := by decide +kernel
theorem dL_law_551 : decode cL_law 551 = .ok (.if_icmp .eq 429, 3) := by decide +kernel
theorem dL_law_554 : decode cL_law 554 = .ok (.iconst 0, 1) := by decide +kernel
theorem dL_law_555 : decode cL_law 555 = .ok (.ireturn, 1) := by decide +kernel
theorem dL_law_556 : decode cL_law 556 = .ok (.aload_n 1, 1) := by decide +kernel
theorem dL_law_557 : decode cL_law 557 = .ok (.invokevirtual 72, 3) := by decide +kernel
theorem dL_law_560 : decode cL_law 560 = .ok (.aload_n 2, 1) := by decide +kernel
theorem dL_law_561 : decode cL_law 561 = .ok (.invokevirtual 76, 3) := by decide +kernel
theorem dL_law_564 : decode cL_law 564 = .ok (.if_icmp .eq 416, 3) := by decide +kernel
theorem dL_law_567 : decode cL_law 567 = .ok (.iconst 0, 1) := by decide +kernel
theorem dL_law_568 : decode cL_law 568 = .ok (.ireturn, 1) := by decide +kernel
theorem dL_law_569 : decode cL_law 569 = .ok (.aload_n 1, 1) := by decide +kernel
theorem dL_law_570 : decode cL_law 570 = .ok (.invokevirtual 77, 3) := by decide +kernel
theorem dL_law_573 : decode cL_law 573 = .ok (.aload_n 2, 1) := by decide +kernel
theorem dL_law_574 : decode cL_law 574 = .ok (.invokevirtual 80, 3) := by decide +kernel
theorem dL_law_577 : decode cL_law 577 = .ok (.if_icmp .eq 403, 3) := by decide +kernel
theorem dL_law_580 : decode cL_law 580 = .ok (.iconst 0, 1) := by decide +kernel
theorem dL_law_581 : decode cL_law 581 = .ok (.ireturn, 1) := by decide +kernel
theorem dL_law_582 : decode cL_law 582 = .ok (.aload_n 1, 1) := by decide +kernel
theorem dL_law_583 : decode cL_law 583 = .ok (.aload_n 0, 1) := by decide +kernel
theorem dL_law_584 : decode cL_law 584 = .ok (.iload_n 3, 1) := by decide +kernel
theorem dL_law_585 : decode cL_law 585 = .ok (.iconst 1, 1) := by decide +kernel
theorem dL_law_586 : decode cL_law 586 = .ok (.iadd, 1) := by decide +kernel
theorem dL_law_587 : decode cL_law 587 = .ok (.iaload, 1) := by decide +kernel
theorem dL_law_588 : decode cL_law 588 = .ok (.invokevirtual 81, 3) := by decide +kernel
theorem dL_law_591 : decode cL_law 591 = .ok (.aload_n 2, 1) := by decide +kernel
theorem dL_law_592 : decode cL_law 592 = .ok (.aload_n 0, 1) := by decide +kernel
theorem dL_law_593 : decode cL_law 593 = .ok (.iload_n 3, 1) := by decide +kernel
theorem dL_law_594 : decode cL_law 594 = .ok (.iconst 1, 1) := by decide +kernel
theorem dL_law_595 : decode cL_law 595 = .ok (.iadd, 1) := by decide +kernel
theorem dL_law_596 : decode cL_law 596 = .ok (.iaload, 1) := by decide +kernel
theorem dL_law_597 : decode cL_law 597 = .ok (.invokevirtual 84, 3) := by decide +kernel
theorem dL_law_600 : decode cL_law 600 = .ok (.if_icmp .eq 380, 3) := by decide +kernel
theorem dL_law_603 : decode cL_law 603 = .ok (.iconst 0, 1) := by decide +kernel
theorem dL_law_604 : decode cL_law 604 = .ok (.ireturn, 1) := by decide +kernel
theorem dL_law_605 : decode cL_law 605 = .ok (.aload_n 1, 1) := by decide +kernel
theorem dL_law_606 : decode cL_law 606 = .ok (.aload_n 0, 1) := by decide +kernel
theorem dL_law_607 : decode cL_law 607 = .ok (.iload_n 3, 1) := by decide +kernel
theorem dL_law_608 : decode cL_law 608 = .ok (.iconst 1, 1) := by decide +kernel
theorem dL_law_609 : decode cL_law 609 = .ok (.iadd, 1) := by decide +kernel
theorem dL_law_610 : decode cL_law 610 = .ok (.iaload, 1) := by decide +kernel
theorem dL_law_611 : decode cL_law 611 = .ok (.aload_n 0, 1) := by decide +kernel
theorem dL_law_612 : decode cL_law 612 = .ok (.iload_n 3, 1) := by decide +kernel
theorem dL_law_613 : decode cL_law 613 = .ok (.iconst 2, 1) := by decide +kernel
theorem dL_law_614 : decode cL_law 614 = .ok (.iadd, 1) := by decide +kernel
theorem dL_law_615 : decode cL_law 615 = .ok (.iaload, 1) := by decide +kernel
theorem dL_law_616 : decode cL_law 616 = .ok (.invokevirtual 85, 3) := by decide +kernel
theorem dL_law_619 : decode cL_law 619 = .ok (.aload_n 2, 1) := by decide +kernel
theorem dL_law_620 : decode cL_law 620 = .ok (.aload_n 0, 1) := by decide +kernel
theorem dL_law_621 : decode cL_law 621 = .ok (.iload_n 3, 1) := by decide +kernel
theorem dL_law_622 : decode cL_law 622 = .ok (.iconst 1, 1) := by decide +kernel
theorem dL_law_623 : decode cL_law 623 = .ok (.iadd, 1) := by decide +kernel
theorem dL_law_624 : decode cL_law 624 = .ok (.iaload, 1) := by decide +kernel
theorem dL_law_625 : decode cL_law 625 = .ok (.aload_n 0, 1) := by decide +kernel
theorem dL_law_626 : decode cL_law 626 = .ok (.iload_n 3, 1) := by decide +kernel
theorem dL_law_627 : decode cL_law 627 = .ok (.iconst 2, 1) := by decide +kernel
theorem dL_law_628 : decode cL_law 628 = .ok (.iadd, 1) := by decide +kernel
theorem dL_law_629 : decode cL_law 629 = .ok (.iaload, 1) := by decide +kernel
theorem dL_law_630 : decode cL_law 630 = .ok (.invokevirtual 88, 3) := by decide +kernel
theorem dL_law_633 : decode cL_law 633 = .ok (.if_icmp .eq 347, 3) := by decide +kernel
theorem dL_law_636 : decode cL_law 636 = .ok (.iconst 0, 1) := by decide +kernel
theorem dL_law_637 : decode cL_law 637 = .ok (.ireturn, 1) := by decide +kernel
theorem dL_law_638 : decode cL_law 638 = .ok (.aload_n 1, 1) := by decide +kernel
theorem dL_law_639 : decode cL_law 639 = .ok (.invokevirtual 89, 3) := by decide +kernel
theorem dL_law_642 : decode cL_law 642 = .ok (.aload_n 2, 1) := by decide +kernel
theorem dL_law_643 : decode cL_law 643 = .ok (.invokevirtual 92, 3) := by decide +kernel
theorem dL_law_646 : decode cL_law 646 = .ok (.if_icmp .eq 334, 3) := by decide +kernel
theorem dL_law_649 : decode cL_law 649 = .ok (.iconst 0, 1) := by decide +kernel
theorem dL_law_650 : decode cL_law 650 = .ok (.ireturn, 1) := by decide +kernel
theorem dL_law_651 : decode cL_law 651 = .ok (.aload_n 1, 1) := by decide +kernel
theorem dL_law_652 : decode cL_law 652 = .ok (.invokevirtual 93, 3) := by decide +kernel
theorem dL_law_655 : decode cL_law 655 = .ok (.aload_n 2, 1) := by decide +kernel
theorem dL_law_656 : decode cL_law 656 = .ok (.invokevirtual 96, 3) := by decide +kernel
theorem dL_law_659 : decode cL_law 659 = .ok (.if_icmp .eq 321, 3) := by decide +kernel
theorem dL_law_662 : decode cL_law 662 = .ok (.iconst 0, 1) := by decide +kernel
theorem dL_law_663 : decode cL_law 663 = .ok (.ireturn, 1) := by decide +kernel
theorem dL_law_664 : decode cL_law 664 = .ok (.aload_n 1, 1) := by decide +kernel
theorem dL_law_665 : decode cL_law 665 = .ok (.aload_n 0, 1) := by decide +kernel
theorem dL_law_666 : decode cL_law 666 = .ok (.iload_n 3, 1) := by decide +kernel
theorem dL_law_667 : decode cL_law 667 = .ok (.iconst 1, 1) := by decide +kernel
theorem dL_law_668 : decode cL_law 668 = .ok (.iadd, 1) := by decide +kernel
theorem dL_law_669 : decode cL_law 669 = .ok (.iaload, 1) := by decide +kernel
theorem dL_law_670 : decode cL_law 670 = .ok (.invokevirtual 97, 3) := by decide +kernel
theorem dL_law_673 : decode cL_law 673 = .ok (.aload_n 2, 1) := by decide +kernel
theorem dL_law_674 : decode cL_law 674 = .ok (.aload_n 0, 1) := by decide +kernel
theorem dL_law_675 : decode cL_law 675 = .ok (.iload_n 3, 1) := by decide +kernel
theorem dL_law_676 : decode cL_law 676 = .ok (.iconst 1, 1) := by decide +kernel
theorem dL_law_677 : decode cL_law 677 = .ok (.iadd, 1) := by decide +kernel
theorem dL_law_678 : decode cL_law 678 = .ok (.iaload, 1) := by decide +kernel
theorem dL_law_679 : decode cL_law 679 = .ok (.invokevirtual 100, 3) := by decide +kernel
theorem dL_law_682 : decode cL_law 682 = .ok (.if_icmp .eq 298, 3) := by decide +kernel
theorem dL_law_685 : decode cL_law 685 = .ok (.iconst 0, 1) := by decide +kernel
theorem dL_law_686 : decode cL_law 686 = .ok (.ireturn, 1) := by decide +kernel
theorem dL_law_687 : decode cL_law 687 = .ok (.aload_n 1, 1) := by decide +kernel
theorem dL_law_688 : decode cL_law 688 = .ok (.aload_n 0, 1) := by decide +kernel
theorem dL_law_689 : decode cL_law 689 = .ok (.iload_n 3, 1) := by decide +kernel
theorem dL_law_690 : decode cL_law 690 = .ok (.iconst 1, 1) := by decide +kernel
theorem dL_law_691 : decode cL_law 691 = .ok (.iadd, 1) := by decide +kernel
theorem dL_law_692 : decode cL_law 692 = .ok (.iaload, 1) := by decide +kernel
theorem dL_law_693 : decode cL_law 693 = .ok (.invokevirtual 101, 3) := by decide +kernel
theorem dL_law_696 : decode cL_law 696 = .ok (.aload_n 2, 1) := by decide +kernel
theorem dL_law_697 : decode cL_law 697 = .ok (.aload_n 0, 1) := by decide +kernel
theorem dL_law_698 : decode cL_law 698 = .ok (.iload_n 3, 1) := by decide +kernel
theorem dL_law_699 : decode cL_law 699 = .ok (.iconst 1, 1) := by decide +kernel
theorem dL_law_700 : decode cL_law 700 = .ok (.iadd, 1) := by decide +kernel
theorem dL_law_701 : decode cL_law 701 = .ok (.iaload, 1) := by decide +kernel
theorem dL_law_702 : decode cL_law 702 = .ok (.invokevirtual 104, 3) := by decide +kernel
theorem dL_law_705 : decode cL_law 705 = .ok (.if_icmp .eq 275, 3) := by decide +kernel
theorem dL_law_708 : decode cL_law 708 = .ok (.iconst 0, 1) := by decide +kernel
theorem dL_law_709 : decode cL_law 709 = .ok (.ireturn, 1) := by decide +kernel
theorem dL_law_710 : decode cL_law 710 = .ok (.aload_n 1, 1) := by decide +kernel
theorem dL_law_711 : decode cL_law 711 = .ok (.invokevirtual 105, 3) := by decide +kernel
theorem dL_law_714 : decode cL_law 714 = .ok (.aload_n 2, 1) := by decide +kernel
theorem dL_law_715 : decode cL_law 715 = .ok (.invokevirtual 108, 3) := by decide +kernel
theorem dL_law_718 : decode cL_law 718 = .ok (.if_icmp .eq 262, 3) := by decide +kernel
theorem dL_law_721 : decode cL_law 721 = .ok (.iconst 0, 1) := by decide +kernel
theorem dL_law_722 : decode cL_law 722 = .ok (.ireturn, 1) := by decide +kernel
theorem dL_law_723 : decode cL_law 723 = .ok (.aload_n 1, 1) := by decide +kernel
theorem dL_law_724 : decode cL_law 724 = .ok (.invokevirtual 109, 3) := by decide +kernel
theorem dL_law_727 : decode cL_law 727 = .ok (.aload_n 2, 1) := by decide +kernel
theorem dL_law_728 : decode cL_law 728 = .ok (.invokevirtual 112, 3) := by decide +kernel
theorem dL_law_731 : decode cL_law 731 = .ok (.if_icmp .eq 249, 3) := by decide +kernel
theorem dL_law_734 : decode cL_law 734 = .ok (.iconst 0, 1) := by decide +kernel
theorem dL_law_735 : decode cL_law 735 = .ok (.ireturn, 1) := by decide +kernel
theorem dL_law_736 : decode cL_law 736 = .ok (.aload_n 1, 1) := by decide +kernel
theorem dL_law_737 : decode cL_law 737 = .ok (.aload_n 0, 1) := by decide +kernel
theorem dL_law_738 : decode cL_law 738 = .ok (.iload_n 3, 1) := by decide +kernel
theorem dL_law_739 : decode cL_law 739 = .ok (.iconst 1, 1) := by decide +kernel
theorem dL_law_740 : decode cL_law 740 = .ok (.iadd, 1) := by decide +kernel
theorem dL_law_741 : decode cL_law 741 = .ok (.iaload, 1) := by decide +kernel
theorem dL_law_742 : decode cL_law 742 = .ok (.invokevirtual 113, 3) := by decide +kernel
theorem dL_law_745 : decode cL_law 745 = .ok (.aload_n 2, 1) := by decide +kernel
theorem dL_law_746 : decode cL_law 746 = .ok (.aload_n 0, 1) := by decide +kernel
theorem dL_law_747 : decode cL_law 747 = .ok (.iload_n 3, 1) := by decide +kernel
theorem dL_law_748 : decode cL_law 748 = .ok (.iconst 1, 1) := by decide +kernel
theorem dL_law_749 : decode cL_law 749 = .ok (.iadd, 1) := by decide +kernel
theorem dL_law_750 : decode cL_law 750 = .ok (.iaload, 1) := by decide +kernel
theorem dL_law_751 : decode cL_law 751 = .ok (.invokevirtual 116, 3) := by decide +kernel
theorem dL_law_754 : decode cL_law 754 = .ok (.if_icmp .eq 226, 3) := by decide +kernel
theorem dL_law_757 : decode cL_law 757 = .ok (.iconst 0, 1) := by decide +kernel
theorem dL_law_758 : decode cL_law 758 = .ok (.ireturn, 1) := by decide +kernel
theorem dL_law_759 : decode cL_law 759 = .ok (.aload_n 1, 1) := by decide +kernel
theorem dL_law_760 : decode cL_law 760 = .ok (.aload_n 0, 1) := by decide +kernel
theorem dL_law_761 : decode cL_law 761 = .ok (.iload_n 3, 1) := by decide +kernel
theorem dL_law_762 : decode cL_law 762 = .ok (.iconst 1, 1) := by decide +kernel
theorem dL_law_763 : decode cL_law 763 = .ok (.iadd, 1) := by decide +kernel
theorem dL_law_764 : decode cL_law 764 = .ok (.iaload, 1) := by decide +kernel
theorem dL_law_765 : decode cL_law 765 = .ok (.invokevirtual 117, 3) := by decide +kernel
theorem dL_law_768 : decode cL_law 768 = .ok (.aload_n 2, 1) := by decide +kernel
theorem dL_law_769 : decode cL_law 769 = .ok (.aload_n 0, 1) := by decide +kernel
theorem dL_law_770 : decode cL_law 770 = .ok (.iload_n 3, 1) := by decide +kernel
theorem dL_law_771 : decode cL_law 771 = .ok (.iconst 1, 1) := by decide +kernel
theorem dL_law_772 : decode cL_law 772 = .ok (.iadd, 1) := by decide +kernel
theorem dL_law_773 : decode cL_law 773 = .ok (.iaload, 1) := by decide +kernel
theorem dL_law_774 : decode cL_law 774 = .ok (.invokevirtual 120, 3) := by decide +kernel
theorem dL_law_777 : decode cL_law 777 = .ok (.if_icmp .eq 203, 3) := by decide +kernel
theorem dL_law_780 : decode cL_law 780 = .ok (.iconst 0, 1) := by decide +kernel
theorem dL_law_781 : decode cL_law 781 = .ok (.ireturn, 1) := by decide +kernel
theorem dL_law_782 : decode cL_law 782 = .ok (.aload_n 1, 1) := by decide +kernel
theorem dL_law_783 : decode cL_law 783 = .ok (.aload_n 0, 1) := by decide +kernel
theorem dL_law_784 : decode cL_law 784 = .ok (.iload_n 3, 1) := by decide +kernel
theorem dL_law_785 : decode cL_law 785 = .ok (.iconst 1, 1) := by decide +kernel
theorem dL_law_786 : decode cL_law 786 = .ok (.iadd, 1) := by decide +kernel
theorem dL_law_787 : decode cL_law 787 = .ok (.iaload, 1) := by decide +kernel
theorem dL_law_788 : decode cL_law 788 = .ok (.ifCond .eq 7, 3) := by decide +kernel
theorem dL_law_791 : decode cL_law 791 = .ok (.iconst 1, 1) := by decide +kernel
theorem dL_law_792 : decode cL_law 792 = .ok (.goto 4, 3) := by decide +kernel
theorem dL_law_795 : decode cL_law 795 = .ok (.iconst 0, 1) := by decide +kernel
theorem dL_law_796 : decode cL_law 796 = .ok (.invokevirtual 121, 3) := by decide +kernel
theorem dL_law_799 : decode cL_law 799 = .ok (.aload_n 2, 1) := by decide +kernel
theorem dL_law_800 : decode cL_law 800 = .ok (.aload_n 0, 1) := by decide +kernel
theorem dL_law_801 : decode cL_law 801 = .ok (.iload_n 3, 1) := by decide +kernel
theorem dL_law_802 : decode cL_law 802 = .ok (.iconst 1, 1) := by decide +kernel
theorem dL_law_803 : decode cL_law 803 = .ok (.iadd, 1) := by decide +kernel
theorem dL_law_804 : decode cL_law 804 = .ok (.iaload, 1) := by decide +kernel
theorem dL_law_805 : decode cL_law 805 = .ok (.ifCond .eq 7, 3) := by decide +kernel
theorem dL_law_808 : decode cL_law 808 = .ok (.iconst 1, 1) := by decide +kernel
theorem dL_law_809 : decode cL_law 809 = .ok (.goto 4, 3) := by decide +kernel
theorem dL_law_812 : decode cL_law 812 = .ok (.iconst 0, 1) := by decide +kernel
theorem dL_law_813 : decode cL_law 813 = .ok (.invokevirtual 125, 3) := by decide +kernel
theorem dL_law_816 : decode cL_law 816 = .ok (.if_icmp .eq 164, 3) := by decide +kernel
theorem dL_law_819 : decode cL_law 819 = .ok (.iconst 0, 1) := by decide +kernel
theorem dL_law_820 : decode cL_law 820 = .ok (.ireturn, 1) := by decide +kernel
theorem dL_law_821 : decode cL_law 821 = .ok (.aload_n 1, 1) := by decide +kernel
theorem dL_law_822 : decode cL_law 822 = .ok (.aload_n 0, 1) := by decide +kernel
theorem dL_law_823 : decode cL_law 823 = .ok (.iload_n 3, 1) := by decide +kernel
theorem dL_law_824 : decode cL_law 824 = .ok (.iconst 1, 1) := by decide +kernel
theorem dL_law_825 : decode cL_law 825 = .ok (.iadd, 1) := by decide +kernel
theorem dL_law_826 : decode cL_law 826 = .ok (.iaload, 1) := by decide +kernel
theorem dL_law_827 : decode cL_law 827 = .ok (.invokevirtual 126, 3) := by decide +kernel
theorem dL_law_830 : decode cL_law 830 = .ok (.aload_n 2, 1) := by decide +kernel
theorem dL_law_831 : decode cL_law 831 = .ok (.aload_n 0, 1) := by decide +kernel
theorem dL_law_832 : decode cL_law 832 = .ok (.iload_n 3, 1) := by decide +kernel
theorem dL_law_833 : decode cL_law 833 = .ok (.iconst 1, 1) := by decide +kernel
theorem dL_law_834 : decode cL_law 834 = .ok (.iadd, 1) := by decide +kernel
theorem dL_law_835 : decode cL_law 835 = .ok (.iaload, 1) := by decide +kernel
theorem dL_law_836 : decode cL_law 836 = .ok (.invokevirtual 129, 3) := by decide +kernel
theorem dL_law_839 : decode cL_law 839 = .ok (.if_icmp .eq 141, 3) := by decide +kernel
theorem dL_law_842 : decode cL_law 842 = .ok (.iconst 0, 1) := by decide +kernel
theorem dL_law_843 : decode cL_law 843 = .ok (.ireturn, 1) := by decide +kernel
theorem dL_law_844 : decode cL_law 844 = .ok (.aload_n 1, 1) := by decide +kernel
theorem dL_law_845 : decode cL_law 845 = .ok (.invokevirtual 130, 3) := by decide +kernel
theorem dL_law_848 : decode cL_law 848 = .ok (.aload_n 2, 1) := by decide +kernel
theorem dL_law_849 : decode cL_law 849 = .ok (.invokevirtual 133, 3) := by decide +kernel
theorem dL_law_852 : decode cL_law 852 = .ok (.if_icmp .eq 128, 3) := by decide +kernel
theorem dL_law_855 : decode cL_law 855 = .ok (.iconst 0, 1) := by decide +kernel
theorem dL_law_856 : decode cL_law 856 = .ok (.ireturn, 1) := by decide +kernel
theorem dL_law_857 : decode cL_law 857 = .ok (.aload_n 1, 1) := by decide +kernel
theorem dL_law_858 : decode cL_law 858 = .ok (.invokevirtual 134, 3) := by decide +kernel
theorem dL_law_861 : decode cL_law 861 = .ok (.dstore 4, 2) := by decide +kernel
theorem dL_law_863 : decode cL_law 863 = .ok (.aload_n 2, 1) := by decide +kernel
theorem dL_law_864 : decode cL_law 864 = .ok (.invokevirtual 138, 3) := by decide +kernel
theorem dL_law_867 : decode cL_law 867 = .ok (.dstore 6, 2) := by decide +kernel
theorem dL_law_869 : decode cL_law 869 = .ok (.dload 4, 2) := by decide +kernel
theorem dL_law_871 : decode cL_law 871 = .ok (.dload 6, 2) := by decide +kernel
theorem dL_law_873 : decode cL_law 873 = .ok (.dcmp .l, 1) := by decide +kernel
theorem dL_law_874 : decode cL_law 874 = .ok (.ifCond .eq 21, 3) := by decide +kernel
theorem dL_law_877 : decode cL_law 877 = .ok (.dload 4, 2) := by decide +kernel
theorem dL_law_879 : decode cL_law 879 = .ok (.dload 4, 2) := by decide +kernel
theorem dL_law_881 : decode cL_law 881 = .ok (.dcmp .l, 1) := by decide +kernel
theorem dL_law_882 : decode cL_law 882 = .ok (.ifCond .eq 11, 3) := by decide +kernel
theorem dL_law_885 : decode cL_law 885 = .ok (.dload 6, 2) := by decide +kernel
theorem dL_law_887 : decode cL_law 887 = .ok (.dload 6, 2) := by decide +kernel
theorem dL_law_889 : decode cL_law 889 = .ok (.dcmp .l, 1) := by decide +kernel
theorem dL_law_890 : decode cL_law 890 = .ok (.ifCond .ne 5, 3) := by decide +kernel
theorem dL_law_893 : decode cL_law 893 = .ok (.iconst 0, 1) := by decide +kernel
theorem dL_law_894 : decode cL_law 894 = .ok (.ireturn, 1) := by decide +kernel
theorem dL_law_895 : decode cL_law 895 = .ok (.goto 85, 3) := by decide +kernel
theorem dL_law_898 : decode cL_law 898 = .ok (.aload_n 1, 1) := by decide +kernel
theorem dL_law_899 : decode cL_law 899 = .ok (.invokevirtual 139, 3) := by decide +kernel
theorem dL_law_902 : decode cL_law 902 = .ok (.f2d, 1) := by decide +kernel
theorem dL_law_903 : decode cL_law 903 = .ok (.dstore 4, 2) := by decide +kernel
theorem dL_law_905 : decode cL_law 905 = .ok (.aload_n 2, 1) := by decide +kernel
theorem dL_law_906 : decode cL_law 906 = .ok (.invokevirtual 143, 3) := by decide +kernel
theorem dL_law_909 : decode cL_law 909 = .ok (.f2d, 1) := by decide +kernel
theorem dL_law_910 : decode cL_law 910 = .ok (.dstore 6, 2) := by decide +kernel
theorem dL_law_912 : decode cL_law 912 = .ok (.dload 4, 2) := by decide +kernel
theorem dL_law_914 : decode cL_law 914 = .ok (.dload 6, 2) := by decide +kernel
theorem dL_law_916 : decode cL_law 916 = .ok (.dcmp .l, 1) := by decide +kernel
theorem dL_law_917 : decode cL_law 917 = .ok (.ifCond .eq 21, 3) := by decide +kernel
theorem dL_law_920 : decode cL_law 920 = .ok (.dload 4, 2) := by decide +kernel
theorem dL_law_922 : decode cL_law 922 = .ok (.dload 4, 2) := by decide +kernel
theorem dL_law_924 : decode cL_law 924 = .ok (.dcmp .l, 1) := by decide +kernel
theorem dL_law_925 : decode cL_law 925 = .ok (.ifCond .eq 11, 3) := by decide +kernel
theorem dL_law_928 : decode cL_law 928 = .ok (.dload 6, 2) := by decide +kernel
theorem dL_law_930 : decode cL_law 930 = .ok (.dload 6, 2) := by decide +kernel
theorem dL_law_932 : decode cL_law 932 = .ok (.dcmp .l, 1) := by decide +kernel
theorem dL_law_933 : decode cL_law 933 = .ok (.ifCond .ne 5, 3) := by decide +kernel
theorem dL_law_936 : decode cL_law 936 = .ok (.iconst 0, 1) := by decide +kernel
theorem dL_law_937 : decode cL_law 937 = .ok (.ireturn, 1) := by decide +kernel
theorem dL_law_938 : decode cL_law 938 = .ok (.goto 42, 3) := by decide +kernel
theorem dL_law_941 : decode cL_law 941 = .ok (.aload_n 1, 1) := by decide +kernel
theorem dL_law_942 : decode cL_law 942 = .ok (.invokevirtual 144, 3) := by decide +kernel
theorem dL_law_945 : decode cL_law 945 = .ok (.aload_n 2, 1) := by decide +kernel
theorem dL_law_946 : decode cL_law 946 = .ok (.invokevirtual 147, 3) := by decide +kernel
theorem dL_law_949 : decode cL_law 949 = .ok (.if_icmp .eq 31, 3) := by decide +kernel
theorem dL_law_952 : decode cL_law 952 = .ok (.iconst 0, 1) := by decide +kernel
theorem dL_law_953 : decode cL_law 953 = .ok (.ireturn, 1) := by decide +kernel
theorem dL_law_954 : decode cL_law 954 = .ok (.aload_n 1, 1) := by decide +kernel
theorem dL_law_955 : decode cL_law 955 = .ok (.invokevirtual 148, 3) := by decide +kernel
theorem dL_law_958 : decode cL_law 958 = .ok (.aload_n 2, 1) := by decide +kernel
theorem dL_law_959 : decode cL_law 959 = .ok (.invokevirtual 151, 3) := by decide +kernel
theorem dL_law_962 : decode cL_law 962 = .ok (.if_icmp .eq 18, 3) := by decide +kernel
theorem dL_law_965 : decode cL_law 965 = .ok (.iconst 0, 1) := by decide +kernel
theorem dL_law_966 : decode cL_law 966 = .ok (.ireturn, 1) := by decide +kernel
theorem dL_law_967 : decode cL_law 967 = .ok (.aload_n 1, 1) := by decide +kernel
theorem dL_law_968 : decode cL_law 968 = .ok (.invokevirtual 152, 3) := by decide +kernel
theorem dL_law_971 : decode cL_law 971 = .ok (.aload_n 2, 1) := by decide +kernel
theorem dL_law_972 : decode cL_law 972 = .ok (.invokevirtual 155, 3) := by decide +kernel
theorem dL_law_975 : decode cL_law 975 = .ok (.if_icmp .eq 5, 3) := by decide +kernel
theorem dL_law_978 : decode cL_law 978 = .ok (.iconst 0, 1) := by decide +kernel
theorem dL_law_979 : decode cL_law 979 = .ok (.ireturn, 1) := by decide +kernel
theorem dL_law_980 : decode cL_law 980 = .ok (.iinc 3 4, 3) := by decide +kernel
theorem dL_law_983 : decode cL_law 983 = .ok (.goto (-965), 3) := by decide +kernel
theorem dL_law_986 : decode cL_law 986 = .ok (.iconst 1, 1) := by decide +kernel
theorem dL_law_987 : decode cL_law 987 = .ok (.ireturn, 1) := by decide +kernel
abbrev vwCl : List vw_C := [(RJ4, TJ4, 4), (RX1, TX1, 6), (RX2, TX2, 3), (RX3, TX3, 8), (RX4, TX4, 2), (RX5, TX5, 2), (RX6, TX6, 7), (RX7, TX7, 2), (RX8, TX8, 2), (RX9, TX9, 2), (RX10, TX10, 6), (RX12, TX12, 9), (RX13, TX13, 20)]
end
section
/-! The words of the tables that a method may be handed: all that bear moving; each by its place. -/
def AW : List Cond := lw_tbl.filter goodWord
theorem AW_good : ∀ w ∈ AW, goodWord w = true := fun w h => (List.mem_filter.mp h).2
theorem AW_tbl : ∀ w ∈ AW, w ∈ lw_tbl := fun w h => (List.mem_filter.mp h).1
theorem AW_mem (i : Nat) {w : Cond} (h : lw_tbl[i]? = some w) (hg : goodWord w = true) : w ∈ AW := List.mem_filter.mpr ⟨List.mem_of_getElem? h, hg⟩
theorem AW_m1 (i : Nat) {w : Cond} (h : tables_1_1[i]? = some w) (hg : goodWord w = true) : w ∈ AW := List.mem_filter.mpr ⟨List.mem_append_right _ (List.mem_append_left _ (List.mem_of_getElem? h)), hg⟩
theorem AW_in {w : Cond} (h : w ∈ AW) : GoodIn AW (w :: AW) := fun x hx => (List.mem_cons.mp hx).elim (fun e => ⟨by rw [e]; exact h, good_of_word (AW_good x (by rw [e]; exact h))⟩) (fun g => ⟨g, good_of_word (AW_good x g)⟩)
theorem AW_m0 (i : Nat) {w : Cond} (h : (k2_sels lw_privs)[i]? = some w) (hg : goodWord w = true) : w ∈ AW := List.mem_filter.mpr ⟨List.mem_append_left _ (List.mem_of_getElem? h), hg⟩
theorem AW_m2 (i : Nat) {w : Cond} (h : tables_1_2[i]? = some w) (hg : goodWord w = true) : w ∈ AW := List.mem_filter.mpr ⟨List.mem_append_right _ (List.mem_append_right _ (List.mem_append_left _ (List.mem_of_getElem? h))), hg⟩
theorem AW_m3 (i : Nat) {w : Cond} (h : tables_1_3[i]? = some w) (hg : goodWord w = true) : w ∈ AW := List.mem_filter.mpr ⟨List.mem_append_right _ (List.mem_append_right _ (List.mem_append_right _ (List.mem_append_left _ (List.mem_of_getElem? h)))), hg⟩
theorem AW_m4 (i : Nat) {w : Cond} (h : tables_1_4[i]? = some w) (hg : goodWord w = true) : w ∈ AW := List.mem_filter.mpr ⟨List.mem_append_right _ (List.mem_append_right _ (List.mem_append_right _ (List.mem_append_right _ (List.mem_append_left _ (List.mem_of_getElem? h))))), hg⟩
theorem AW_m5 (i : Nat) {w : Cond} (h : tables_1_5[i]? = some w) (hg : goodWord w = true) : w ∈ AW := List.mem_filter.mpr ⟨List.mem_append_right _ (List.mem_append_right _ (List.mem_append_right _ (List.mem_append_right _ (List.mem_append_right _ (List.mem_append_left _ (List.mem_of_getElem? h)))))), hg⟩
theorem AW_m6 (i : Nat) {w : Cond} (h : tables_1_6[i]? = some w) (hg : goodWord w = true) : w ∈ AW := List.mem_filter.mpr ⟨List.mem_append_right _ (List.mem_append_right _ (List.mem_append_right _ (List.mem_append_right _ (List.mem_append_right _ (List.mem_append_right _ (List.mem_of_getElem? h)))))), hg⟩
theorem aw_0 : (Cond.selects "KilnKeeper" ({ cls := "KilnKeeper", name := "beginChange", desc := "()V" } : MethodName) ({ cls := "KilnKeeper", name := "beginChange", desc := "()V" } : MethodName)) ∈ AW := AW_m0 0 rfl rfl
theorem aw_1 : (Cond.selects "KilnKeeper" ({ cls := "KilnKeeper", name := "endChange", desc := "(I)I" } : MethodName) ({ cls := "KilnKeeper", name := "endChange", desc := "(I)I" } : MethodName)) ∈ AW := AW_m0 1 rfl rfl
theorem aw_2 : (Cond.selects "KilnKeeper$Changes" ({ cls := "KilnKeeper$Changes", name := "kilnAt", desc := "(I)LKilnKeeper$Kiln;" } : MethodName) ({ cls := "KilnKeeper$Changes", name := "kilnAt", desc := "(I)LKilnKeeper$Kiln;" } : MethodName)) ∈ AW := AW_m0 2 rfl rfl
theorem aw_3 : (Cond.selects "KilnKeeper$LagRow" ({ cls := "KilnKeeper$LagRow", name := "shiftBy", desc := "(I)V" } : MethodName) ({ cls := "KilnKeeper$LagRow", name := "shiftBy", desc := "(I)V" } : MethodName)) ∈ AW := AW_m0 3 rfl rfl
theorem aw_4 : (Cond.selects "KilnKeeper$Regulator" ({ cls := "KilnKeeper$Regulator", name := "sumWith", desc := "(I)I" } : MethodName) ({ cls := "KilnKeeper$Regulator", name := "sumWith", desc := "(I)I" } : MethodName)) ∈ AW := AW_m0 4 rfl rfl
theorem aw_5 : (Cond.selects "KilnKeeper" ({ cls := "KilnKeeper", name := "tryMinutes", desc := "(I)LKilnKeeper$Kiln;" } : MethodName) ({ cls := "KilnKeeper", name := "tryMinutes", desc := "(I)LKilnKeeper$Kiln;" } : MethodName)) ∈ AW := AW_m0 5 rfl rfl
theorem aw_6 : (Cond.selects "KilnKeeper$Rack" ({ cls := "KilnKeeper$Rack", name := "countAheadOf", desc := "(I)I" } : MethodName) ({ cls := "KilnKeeper$Rack", name := "countAheadOf", desc := "(I)I" } : MethodName)) ∈ AW := AW_m0 6 rfl rfl
theorem aw_7 : (Cond.selects "KilnKeeper$Reader" ({ cls := "KilnKeeper$Reader", name := "readOrder", desc := "(ILKilnKeeper$Order;)I" } : MethodName) ({ cls := "KilnKeeper$Reader", name := "readOrder", desc := "(ILKilnKeeper$Order;)I" } : MethodName)) ∈ AW := AW_m0 7 rfl rfl
theorem aw_8 : (Cond.selects "KilnKeeper$Reader" ({ cls := "KilnKeeper$Reader", name := "readForm", desc := "(LKilnKeeper$Word;ILKilnKeeper$Order;)I" } : MethodName) ({ cls := "KilnKeeper$Reader", name := "readForm", desc := "(LKilnKeeper$Word;ILKilnKeeper$Order;)I" } : MethodName)) ∈ AW := AW_m0 8 rfl rfl
theorem aw_9 : (Cond.selects "KilnKeeper$Reader" ({ cls := "KilnKeeper$Reader", name := "endOfDigits", desc := "(II)I" } : MethodName) ({ cls := "KilnKeeper$Reader", name := "endOfDigits", desc := "(II)I" } : MethodName)) ∈ AW := AW_m0 9 rfl rfl
theorem aw_10 : (Cond.selects "KilnKeeper$Reader" ({ cls := "KilnKeeper$Reader", name := "digitAt", desc := "(I)I" } : MethodName) ({ cls := "KilnKeeper$Reader", name := "digitAt", desc := "(I)I" } : MethodName)) ∈ AW := AW_m0 10 rfl rfl
theorem aw_11 : (Cond.selects "KilnKeeper$Reader" ({ cls := "KilnKeeper$Reader", name := "numberFrom", desc := "(II)I" } : MethodName) ({ cls := "KilnKeeper$Reader", name := "numberFrom", desc := "(II)I" } : MethodName)) ∈ AW := AW_m0 11 rfl rfl
theorem aw_12 : (Cond.selects "KilnKeeper$Reader" ({ cls := "KilnKeeper$Reader", name := "isSignAt", desc := "(IC)Z" } : MethodName) ({ cls := "KilnKeeper$Reader", name := "isSignAt", desc := "(IC)Z" } : MethodName)) ∈ AW := AW_m0 12 rfl rfl
theorem aw_13 : (Cond.selects "KilnKeeper" ({ cls := "KilnKeeper", name := "carryOut", desc := "(LKilnKeeper$Order;)I" } : MethodName) ({ cls := "KilnKeeper", name := "carryOut", desc := "(LKilnKeeper$Order;)I" } : MethodName)) ∈ AW := AW_m0 13 rfl rfl
theorem aw_14 : (Cond.selects "KilnKeeper$Pot" ({ cls := "KilnKeeper$Pot", name := "stateLetter", desc := "()C" } : MethodName) ({ cls := "KilnKeeper$Pot", name := "stateLetter", desc := "()C" } : MethodName)) ∈ AW := AW_m0 14 rfl rfl
theorem aw_15 : (Cond.selects "KilnKeeperModel" ({ cls := "KilnKeeperModel", name := "remembers", desc := "()V" } : MethodName) ({ cls := "KilnKeeperModel", name := "remembers", desc := "()V" } : MethodName)) ∈ AW := AW_m0 15 rfl rfl
theorem aw_16 : (Cond.selects "KilnKeeperModel" ({ cls := "KilnKeeperModel", name := "aims", desc := "(I)I" } : MethodName) ({ cls := "KilnKeeperModel", name := "aims", desc := "(I)I" } : MethodName)) ∈ AW := AW_m0 16 rfl rfl
theorem aw_17 : (Cond.selects "KilnKeeperModel" ({ cls := "KilnKeeperModel", name := "refused", desc := "(II)I" } : MethodName) ({ cls := "KilnKeeperModel", name := "refused", desc := "(II)I" } : MethodName)) ∈ AW := AW_m0 17 rfl rfl
theorem aw_18 : (Cond.selects "KilnKeeperModel" ({ cls := "KilnKeeperModel", name := "done", desc := "(I)I" } : MethodName) ({ cls := "KilnKeeperModel", name := "done", desc := "(I)I" } : MethodName)) ∈ AW := AW_m0 18 rfl rfl
theorem aw_19 : (Cond.selects "KilnKeeperModel" ({ cls := "KilnKeeperModel", name := "ends", desc := "(I)I" } : MethodName) ({ cls := "KilnKeeperModel", name := "ends", desc := "(I)I" } : MethodName)) ∈ AW := AW_m0 19 rfl rfl
theorem aw_20 : (Cond.selects "KilnKeeperModel" ({ cls := "KilnKeeperModel", name := "changed", desc := "(I)I" } : MethodName) ({ cls := "KilnKeeperModel", name := "changed", desc := "(I)I" } : MethodName)) ∈ AW := AW_m0 20 rfl rfl
theorem aw_21 : (Cond.selects "KilnKeeperModel" ({ cls := "KilnKeeperModel", name := "gainsOf", desc := "(III)I" } : MethodName) ({ cls := "KilnKeeperModel", name := "gainsOf", desc := "(III)I" } : MethodName)) ∈ AW := AW_m0 21 rfl rfl
theorem aw_22 : (Cond.selects "KilnKeeperModel" ({ cls := "KilnKeeperModel", name := "caps", desc := "(I)I" } : MethodName) ({ cls := "KilnKeeperModel", name := "caps", desc := "(I)I" } : MethodName)) ∈ AW := AW_m0 22 rfl rfl
theorem aw_23 : (Cond.selects "KilnKeeperModel" ({ cls := "KilnKeeperModel", name := "lags", desc := "(I)I" } : MethodName) ({ cls := "KilnKeeperModel", name := "lags", desc := "(I)I" } : MethodName)) ∈ AW := AW_m0 23 rfl rfl
theorem aw_24 : (Cond.selects "KilnKeeperModel" ({ cls := "KilnKeeperModel", name := "lagged", desc := "(I)I" } : MethodName) ({ cls := "KilnKeeperModel", name := "lagged", desc := "(I)I" } : MethodName)) ∈ AW := AW_m0 24 rfl rfl
theorem aw_25 : (Cond.selects "KilnKeeperModel" ({ cls := "KilnKeeperModel", name := "fuels", desc := "(I)I" } : MethodName) ({ cls := "KilnKeeperModel", name := "fuels", desc := "(I)I" } : MethodName)) ∈ AW := AW_m0 25 rfl rfl
theorem aw_26 : (Cond.selects "KilnKeeperModel" ({ cls := "KilnKeeperModel", name := "goesOn", desc := "(I)I" } : MethodName) ({ cls := "KilnKeeperModel", name := "goesOn", desc := "(I)I" } : MethodName)) ∈ AW := AW_m0 26 rfl rfl
theorem aw_27 : (Cond.selects "KilnKeeperModel" ({ cls := "KilnKeeperModel", name := "goesBy", desc := "()V" } : MethodName) ({ cls := "KilnKeeperModel", name := "goesBy", desc := "()V" } : MethodName)) ∈ AW := AW_m0 27 rfl rfl
theorem aw_28 : (Cond.selects "KilnKeeperModel" ({ cls := "KilnKeeperModel", name := "error", desc := "()I" } : MethodName) ({ cls := "KilnKeeperModel", name := "error", desc := "()I" } : MethodName)) ∈ AW := AW_m0 28 rfl rfl
theorem aw_29 : (Cond.selects "KilnKeeperModel" ({ cls := "KilnKeeperModel", name := "wantedNow", desc := "()I" } : MethodName) ({ cls := "KilnKeeperModel", name := "wantedNow", desc := "()I" } : MethodName)) ∈ AW := AW_m0 29 rfl rfl
theorem aw_30 : (Cond.selects "KilnKeeperModel" ({ cls := "KilnKeeperModel", name := "sumThen", desc := "()I" } : MethodName) ({ cls := "KilnKeeperModel", name := "sumThen", desc := "()I" } : MethodName)) ∈ AW := AW_m0 30 rfl rfl
theorem aw_31 : (Cond.selects "KilnKeeperModel" ({ cls := "KilnKeeperModel", name := "notesMinute", desc := "(II)V" } : MethodName) ({ cls := "KilnKeeperModel", name := "notesMinute", desc := "(II)V" } : MethodName)) ∈ AW := AW_m0 31 rfl rfl
theorem aw_32 : (Cond.selects "KilnKeeperModel" ({ cls := "KilnKeeperModel", name := "heats", desc := "(II)V" } : MethodName) ({ cls := "KilnKeeperModel", name := "heats", desc := "(II)V" } : MethodName)) ∈ AW := AW_m0 32 rfl rfl
theorem aw_33 : (Cond.selects "KilnKeeperModel" ({ cls := "KilnKeeperModel", name := "comes", desc := "(III)I" } : MethodName) ({ cls := "KilnKeeperModel", name := "comes", desc := "(III)I" } : MethodName)) ∈ AW := AW_m0 33 rfl rfl
theorem aw_34 : (Cond.selects "KilnKeeperModel" ({ cls := "KilnKeeperModel", name := "puts", desc := "(I)I" } : MethodName) ({ cls := "KilnKeeperModel", name := "puts", desc := "(I)I" } : MethodName)) ∈ AW := AW_m0 34 rfl rfl
theorem aw_35 : (Cond.selects "KilnKeeperModel" ({ cls := "KilnKeeperModel", name := "isPot", desc := "(I)Z" } : MethodName) ({ cls := "KilnKeeperModel", name := "isPot", desc := "(I)Z" } : MethodName)) ∈ AW := AW_m0 35 rfl rfl
theorem aw_36 : (Cond.selects "KilnKeeperModel" ({ cls := "KilnKeeperModel", name := "within", desc := "()I" } : MethodName) ({ cls := "KilnKeeperModel", name := "within", desc := "()I" } : MethodName)) ∈ AW := AW_m0 36 rfl rfl
theorem aw_37 : (Cond.selects "KilnKeeperModel" ({ cls := "KilnKeeperModel", name := "takes", desc := "(I)I" } : MethodName) ({ cls := "KilnKeeperModel", name := "takes", desc := "(I)I" } : MethodName)) ∈ AW := AW_m0 37 rfl rfl
theorem aw_38 : (Cond.selects "KilnKeeperModel" ({ cls := "KilnKeeperModel", name := "thinks", desc := "(I)V" } : MethodName) ({ cls := "KilnKeeperModel", name := "thinks", desc := "(I)V" } : MethodName)) ∈ AW := AW_m0 38 rfl rfl
theorem aw_39 : (Cond.selects "KilnKeeperModel" ({ cls := "KilnKeeperModel", name := "forgets", desc := "()V" } : MethodName) ({ cls := "KilnKeeperModel", name := "forgets", desc := "()V" } : MethodName)) ∈ AW := AW_m0 39 rfl rfl
theorem aw_40 : (Cond.selects "KilnKeeperModel" ({ cls := "KilnKeeperModel", name := "isAhead", desc := "(II)Z" } : MethodName) ({ cls := "KilnKeeperModel", name := "isAhead", desc := "(II)Z" } : MethodName)) ∈ AW := AW_m0 40 rfl rfl
theorem aw_41 : (Cond.selects "KilnKeeperModel" ({ cls := "KilnKeeperModel", name := "left", desc := "(I)I" } : MethodName) ({ cls := "KilnKeeperModel", name := "left", desc := "(I)I" } : MethodName)) ∈ AW := AW_m0 41 rfl rfl
theorem aw_42 : (Cond.selects "KilnKeeperModel" ({ cls := "KilnKeeperModel", name := "readsOne", desc := "()V" } : MethodName) ({ cls := "KilnKeeperModel", name := "readsOne", desc := "()V" } : MethodName)) ∈ AW := AW_m0 42 rfl rfl
theorem aw_43 : (Cond.selects "KilnKeeperModel" ({ cls := "KilnKeeperModel", name := "sort", desc := "()I" } : MethodName) ({ cls := "KilnKeeperModel", name := "sort", desc := "()I" } : MethodName)) ∈ AW := AW_m0 43 rfl rfl
theorem aw_44 : (Cond.selects "KilnKeeperModel" ({ cls := "KilnKeeperModel", name := "here", desc := "(I)I" } : MethodName) ({ cls := "KilnKeeperModel", name := "here", desc := "(I)I" } : MethodName)) ∈ AW := AW_m0 44 rfl rfl
theorem aw_45 : (Cond.selects "KilnKeeperModel" ({ cls := "KilnKeeperModel", name := "reads", desc := "(Ljava/lang/String;I)V" } : MethodName) ({ cls := "KilnKeeperModel", name := "reads", desc := "(Ljava/lang/String;I)V" } : MethodName)) ∈ AW := AW_m0 45 rfl rfl
theorem aw_46 : (Cond.selects "KilnKeeperModel" ({ cls := "KilnKeeperModel", name := "word", desc := "(Ljava/lang/String;)V" } : MethodName) ({ cls := "KilnKeeperModel", name := "word", desc := "(Ljava/lang/String;)V" } : MethodName)) ∈ AW := AW_m0 46 rfl rfl
theorem aw_47 : (Cond.selects "KilnKeeperModel" ({ cls := "KilnKeeperModel", name := "number", desc := "(II)V" } : MethodName) ({ cls := "KilnKeeperModel", name := "number", desc := "(II)V" } : MethodName)) ∈ AW := AW_m0 47 rfl rfl
theorem aw_48 : (Cond.selects "KilnKeeperModel" ({ cls := "KilnKeeperModel", name := "does", desc := "(I)I" } : MethodName) ({ cls := "KilnKeeperModel", name := "does", desc := "(I)I" } : MethodName)) ∈ AW := AW_m0 48 rfl rfl
theorem aw_49 : (Cond.selects "KilnKeeperModel" ({ cls := "KilnKeeperModel", name := "writesNumber", desc := "(I)V" } : MethodName) ({ cls := "KilnKeeperModel", name := "writesNumber", desc := "(I)V" } : MethodName)) ∈ AW := AW_m0 49 rfl rfl
theorem aw_50 : (Cond.selects "KilnKeeperModel" ({ cls := "KilnKeeperModel", name := "writes", desc := "(I)V" } : MethodName) ({ cls := "KilnKeeperModel", name := "writes", desc := "(I)V" } : MethodName)) ∈ AW := AW_m0 50 rfl rfl
theorem aw_51 : (Cond.selects "KilnKeeperModel" ({ cls := "KilnKeeperModel", name := "writesPart", desc := "(II)V" } : MethodName) ({ cls := "KilnKeeperModel", name := "writesPart", desc := "(II)V" } : MethodName)) ∈ AW := AW_m0 51 rfl rfl
theorem aw_52 : (Cond.selects "KilnKeeperModel" ({ cls := "KilnKeeperModel", name := "manyThat", desc := "(I)I" } : MethodName) ({ cls := "KilnKeeperModel", name := "manyThat", desc := "(I)I" } : MethodName)) ∈ AW := AW_m0 52 rfl rfl
theorem aw_53 : (Cond.initialized "KilnKeeperLaw") ∈ AW := AW_m1 0 rfl rfl
theorem aw_54 : (Cond.initialized "KilnKeeper") ∈ AW := AW_m1 1 rfl rfl
theorem aw_55 : (Cond.initialized "KilnKeeper$Kiln") ∈ AW := AW_m1 2 rfl rfl
theorem aw_56 : (Cond.initialized "KilnKeeper$Regulator") ∈ AW := AW_m1 3 rfl rfl
theorem aw_57 : (Cond.initialized "KilnKeeper$LagRow") ∈ AW := AW_m1 4 rfl rfl
theorem aw_58 : (Cond.initialized "KilnKeeper$Book") ∈ AW := AW_m1 5 rfl rfl
theorem aw_59 : (Cond.initialized "KilnKeeper$Rack") ∈ AW := AW_m1 6 rfl rfl
theorem aw_60 : (Cond.initialized "KilnKeeper$Pot") ∈ AW := AW_m1 7 rfl rfl
theorem aw_61 : (Cond.initialized "KilnKeeper$Changes") ∈ AW := AW_m1 8 rfl rfl
theorem aw_62 : (Cond.initialized "KilnKeeper$Refusal") ∈ AW := AW_m1 9 rfl rfl
theorem aw_63 : (Cond.initialized "KilnKeeper$Reader") ∈ AW := AW_m1 10 rfl rfl
theorem aw_64 : (Cond.initialized "java/lang/AbstractStringBuilder") ∈ AW := AW_m1 11 rfl rfl
theorem aw_65 : (Cond.initialized "java/lang/StringBuilder") ∈ AW := AW_m1 12 rfl rfl
theorem aw_66 : (Cond.initialized "java/lang/String") ∈ AW := AW_m1 13 rfl rfl
theorem aw_67 : (Cond.initialized "java/lang/StringUTF16") ∈ AW := AW_m1 14 rfl rfl
theorem aw_68 : (Cond.initialized "KilnKeeper$Order") ∈ AW := AW_m1 15 rfl rfl
theorem aw_69 : (Cond.initialized "java/lang/Enum") ∈ AW := AW_m1 16 rfl rfl
theorem aw_70 : (Cond.initialized "KilnKeeper$Word") ∈ AW := AW_m1 17 rfl rfl
theorem aw_71 : (Cond.initialized "KilnKeeperModel") ∈ AW := AW_m1 18 rfl rfl
theorem aw_72 : (Cond.initialized "java/lang/Math") ∈ AW := AW_m1 19 rfl rfl
theorem aw_73 : (Cond.initialized "jdk/internal/util/ArraysSupport") ∈ AW := AW_m1 20 rfl rfl
theorem aw_74 : (Cond.initialized "java/util/Arrays") ∈ AW := AW_m1 21 rfl rfl
theorem aw_75 : (Cond.initialized "java/lang/System") ∈ AW := AW_m1 22 rfl rfl
theorem aw_76 : (Cond.initialized "java/lang/StringLatin1") ∈ AW := AW_m1 23 rfl rfl
theorem aw_77 : (Cond.initialized "jdk/internal/util/Preconditions") ∈ AW := AW_m1 24 rfl rfl
theorem aw_78 : (Cond.initialized "KilnKeeper$1") ∈ AW := AW_m1 25 rfl rfl
theorem aw_79 : (Cond.initialized "java/lang/Integer") ∈ AW := AW_m1 26 rfl rfl
theorem aw_80 : (Cond.classLink "KilnKeeperLaw" (7 : Nat) "KilnKeeper") ∈ AW := AW_m1 27 rfl rfl
theorem aw_81 : (Cond.instantiable "KilnKeeper" (9 : Nat)) ∈ AW := AW_m1 28 rfl rfl
theorem aw_82 : (Cond.methodLink "KilnKeeperLaw" (9 : Nat) ({ cls := "KilnKeeper", name := "<init>", desc := "()V" } : MethodName)) ∈ AW := AW_m1 29 rfl rfl
theorem aw_83 : (Cond.instanceMethod ({ cls := "KilnKeeper", name := "<init>", desc := "()V" } : MethodName)) ∈ AW := AW_m1 30 rfl rfl
theorem aw_84 : (Cond.code ({ cls := "KilnKeeper", name := "<init>", desc := "()V" } : MethodName) prog_1_method_1_code (1 : Nat) (Option.none : Option FieldType)) ∈ AW := AW_m1 31 rfl rfl
theorem aw_85 : (Cond.methodLink "KilnKeeper" (1 : Nat) ({ cls := "java/lang/Object", name := "<init>", desc := "()V" } : MethodName)) ∈ AW := AW_m1 32 rfl rfl
theorem aw_86 : (Cond.instanceMethod ({ cls := "java/lang/Object", name := "<init>", desc := "()V" } : MethodName)) ∈ AW := AW_m1 33 rfl rfl
theorem aw_87 : (Cond.code ({ cls := "java/lang/Object", name := "<init>", desc := "()V" } : MethodName) object_method_1_code (1 : Nat) (Option.none : Option FieldType)) ∈ AW := AW_m1 34 rfl rfl
theorem aw_88 : (Cond.classLink "KilnKeeper" (7 : Nat) "KilnKeeper$Kiln") ∈ AW := AW_m1 35 rfl rfl
theorem aw_89 : (Cond.instantiable "KilnKeeper$Kiln" (8 : Nat)) ∈ AW := AW_m1 36 rfl rfl
theorem at_90 : (Cond.methodLinkNest "KilnKeeper" (9 : Nat) ({ cls := "KilnKeeper$Kiln", name := "<init>", desc := "()V" } : MethodName) "KilnKeeper") ∈ lw_tbl := List.mem_append_right _ (List.mem_append_left _ (List.mem_of_getElem? (l := tables_1_1) (i := 37) rfl))
theorem aw_91 : (Cond.instanceMethod ({ cls := "KilnKeeper$Kiln", name := "<init>", desc := "()V" } : MethodName)) ∈ AW := AW_m1 38 rfl rfl
theorem aw_92 : (Cond.code ({ cls := "KilnKeeper$Kiln", name := "<init>", desc := "()V" } : MethodName) prog_5_method_1_code (1 : Nat) (Option.none : Option FieldType)) ∈ AW := AW_m1 39 rfl rfl
theorem aw_93 : (Cond.methodLink "KilnKeeper$Kiln" (3 : Nat) ({ cls := "java/lang/Object", name := "<init>", desc := "()V" } : MethodName)) ∈ AW := AW_m1 40 rfl rfl
theorem aw_94 : (Cond.classLink "KilnKeeper$Kiln" (24 : Nat) "KilnKeeper$Regulator") ∈ AW := AW_m1 41 rfl rfl
theorem aw_95 : (Cond.instantiable "KilnKeeper$Regulator" (6 : Nat)) ∈ AW := AW_m1 42 rfl rfl
theorem at_96 : (Cond.methodLinkNest "KilnKeeper$Kiln" (26 : Nat) ({ cls := "KilnKeeper$Regulator", name := "<init>", desc := "()V" } : MethodName) "KilnKeeper") ∈ lw_tbl := List.mem_append_right _ (List.mem_append_left _ (List.mem_of_getElem? (l := tables_1_1) (i := 43) rfl))
theorem aw_97 : (Cond.instanceMethod ({ cls := "KilnKeeper$Regulator", name := "<init>", desc := "()V" } : MethodName)) ∈ AW := AW_m1 44 rfl rfl
theorem aw_98 : (Cond.code ({ cls := "KilnKeeper$Regulator", name := "<init>", desc := "()V" } : MethodName) prog_12_method_1_code (1 : Nat) (Option.none : Option FieldType)) ∈ AW := AW_m1 45 rfl rfl
theorem aw_99 : (Cond.methodLink "KilnKeeper$Regulator" (3 : Nat) ({ cls := "java/lang/Object", name := "<init>", desc := "()V" } : MethodName)) ∈ AW := AW_m1 46 rfl rfl
theorem aw_100 : (Cond.fieldLink "KilnKeeper$Regulator" (9 : Nat) "KilnKeeper$Regulator" "errorGain" "I") ∈ AW := AW_m1 47 rfl rfl
theorem aw_101 : (Cond.fieldLink "KilnKeeper$Regulator" (15 : Nat) "KilnKeeper$Regulator" "sumGain" "I") ∈ AW := AW_m1 48 rfl rfl
theorem aw_102 : (Cond.fieldLink "KilnKeeper$Regulator" (18 : Nat) "KilnKeeper$Regulator" "changeGain" "I") ∈ AW := AW_m1 49 rfl rfl
theorem aw_103 : (Cond.fieldLink "KilnKeeper$Regulator" (21 : Nat) "KilnKeeper$Regulator" "cap" "I") ∈ AW := AW_m1 50 rfl rfl
theorem aw_104 : (Cond.fieldLink "KilnKeeper$Regulator" (24 : Nat) "KilnKeeper$Regulator" "sum" "I") ∈ AW := AW_m1 51 rfl rfl
theorem aw_105 : (Cond.fieldLink "KilnKeeper$Kiln" (140 : Nat) "KilnKeeper$Regulator" "sum" "I") ∈ AW := AW_m1 52 rfl rfl
theorem aw_106 : (Cond.fieldLink "KilnKeeper$Regulator" (27 : Nat) "KilnKeeper$Regulator" "latestError" "I") ∈ AW := AW_m1 53 rfl rfl
theorem aw_107 : (Cond.fieldLink "KilnKeeper$Kiln" (143 : Nat) "KilnKeeper$Regulator" "latestError" "I") ∈ AW := AW_m1 54 rfl rfl
theorem aw_108 : (Cond.lays "KilnKeeper$Regulator" "KilnKeeper$Regulator" "errorGain" "I") ∈ AW := AW_m1 55 rfl rfl
theorem aw_109 : (Cond.soleField "KilnKeeper$Regulator" "errorGain") ∈ AW := AW_m1 56 rfl rfl
theorem aw_110 : (Cond.lays "KilnKeeper$Regulator" "KilnKeeper$Regulator" "sumGain" "I") ∈ AW := AW_m1 57 rfl rfl
theorem aw_111 : (Cond.soleField "KilnKeeper$Regulator" "sumGain") ∈ AW := AW_m1 58 rfl rfl
theorem aw_112 : (Cond.lays "KilnKeeper$Regulator" "KilnKeeper$Regulator" "changeGain" "I") ∈ AW := AW_m1 59 rfl rfl
theorem aw_113 : (Cond.soleField "KilnKeeper$Regulator" "changeGain") ∈ AW := AW_m1 60 rfl rfl
theorem aw_114 : (Cond.lays "KilnKeeper$Regulator" "KilnKeeper$Regulator" "cap" "I") ∈ AW := AW_m1 61 rfl rfl
theorem aw_115 : (Cond.soleField "KilnKeeper$Regulator" "cap") ∈ AW := AW_m1 62 rfl rfl
theorem aw_116 : (Cond.lays "KilnKeeper$Regulator" "KilnKeeper$Regulator" "sum" "I") ∈ AW := AW_m1 63 rfl rfl
theorem aw_117 : (Cond.soleField "KilnKeeper$Regulator" "sum") ∈ AW := AW_m1 64 rfl rfl
theorem aw_118 : (Cond.lays "KilnKeeper$Regulator" "KilnKeeper$Regulator" "latestError" "I") ∈ AW := AW_m1 65 rfl rfl
theorem aw_119 : (Cond.soleField "KilnKeeper$Regulator" "latestError") ∈ AW := AW_m1 66 rfl rfl
theorem aw_120 : (Cond.superclass "KilnKeeper$Regulator" "java/lang/Object") ∈ AW := AW_m1 67 rfl rfl
theorem aw_121 : (Cond.classLink "KilnKeeper$Kiln" (31 : Nat) "KilnKeeper$LagRow") ∈ AW := AW_m1 68 rfl rfl
theorem aw_122 : (Cond.instantiable "KilnKeeper$LagRow" (2 : Nat)) ∈ AW := AW_m1 69 rfl rfl
theorem at_123 : (Cond.methodLinkNest "KilnKeeper$Kiln" (33 : Nat) ({ cls := "KilnKeeper$LagRow", name := "<init>", desc := "()V" } : MethodName) "KilnKeeper") ∈ lw_tbl := List.mem_append_right _ (List.mem_append_left _ (List.mem_of_getElem? (l := tables_1_1) (i := 70) rfl))
theorem aw_124 : (Cond.instanceMethod ({ cls := "KilnKeeper$LagRow", name := "<init>", desc := "()V" } : MethodName)) ∈ AW := AW_m1 71 rfl rfl
theorem aw_125 : (Cond.code ({ cls := "KilnKeeper$LagRow", name := "<init>", desc := "()V" } : MethodName) prog_6_method_1_code (1 : Nat) (Option.none : Option FieldType)) ∈ AW := AW_m1 72 rfl rfl
theorem aw_126 : (Cond.methodLink "KilnKeeper$LagRow" (3 : Nat) ({ cls := "java/lang/Object", name := "<init>", desc := "()V" } : MethodName)) ∈ AW := AW_m1 73 rfl rfl
theorem aw_127 : (Cond.fieldLink "KilnKeeper$LagRow" (9 : Nat) "KilnKeeper$LagRow" "length" "I") ∈ AW := AW_m1 74 rfl rfl
theorem aw_128 : (Cond.fieldLink "KilnKeeper$Kiln" (75 : Nat) "KilnKeeper$LagRow" "length" "I") ∈ AW := AW_m1 75 rfl rfl
theorem aw_129 : (Cond.fieldLink "KilnKeeper$LagRow" (15 : Nat) "KilnKeeper$LagRow" "dampers" "[I") ∈ AW := AW_m1 76 rfl rfl
theorem aw_130 : (Cond.lays "KilnKeeper$LagRow" "KilnKeeper$LagRow" "length" "I") ∈ AW := AW_m1 77 rfl rfl
theorem aw_131 : (Cond.soleField "KilnKeeper$LagRow" "length") ∈ AW := AW_m1 78 rfl rfl
theorem aw_132 : (Cond.laysFinal "KilnKeeper$LagRow" "KilnKeeper$LagRow" "dampers" "[I") ∈ AW := AW_m1 79 rfl rfl
theorem aw_133 : (Cond.soleField "KilnKeeper$LagRow" "dampers") ∈ AW := AW_m1 80 rfl rfl
theorem aw_134 : (Cond.superclass "KilnKeeper$LagRow" "java/lang/Object") ∈ AW := AW_m1 81 rfl rfl
theorem aw_135 : (Cond.arrayClass FieldType.int) ∈ AW := AW_m1 82 rfl rfl
theorem aw_136 : (Cond.classLink "KilnKeeper$Kiln" (38 : Nat) "KilnKeeper$Book") ∈ AW := AW_m1 83 rfl rfl
theorem aw_137 : (Cond.instantiable "KilnKeeper$Book" (6 : Nat)) ∈ AW := AW_m1 84 rfl rfl
theorem at_138 : (Cond.methodLinkNest "KilnKeeper$Kiln" (40 : Nat) ({ cls := "KilnKeeper$Book", name := "<init>", desc := "()V" } : MethodName) "KilnKeeper") ∈ lw_tbl := List.mem_append_right _ (List.mem_append_left _ (List.mem_of_getElem? (l := tables_1_1) (i := 85) rfl))
theorem aw_139 : (Cond.instanceMethod ({ cls := "KilnKeeper$Book", name := "<init>", desc := "()V" } : MethodName)) ∈ AW := AW_m1 86 rfl rfl
theorem aw_140 : (Cond.code ({ cls := "KilnKeeper$Book", name := "<init>", desc := "()V" } : MethodName) prog_3_method_1_code (1 : Nat) (Option.none : Option FieldType)) ∈ AW := AW_m1 87 rfl rfl
theorem aw_141 : (Cond.methodLink "KilnKeeper$Book" (3 : Nat) ({ cls := "java/lang/Object", name := "<init>", desc := "()V" } : MethodName)) ∈ AW := AW_m1 88 rfl rfl
theorem aw_142 : (Cond.fieldLink "KilnKeeper$Book" (9 : Nat) "KilnKeeper$Book" "minutes" "I") ∈ AW := AW_m1 89 rfl rfl
theorem aw_143 : (Cond.fieldLink "KilnKeeper$Kiln" (137 : Nat) "KilnKeeper$Book" "minutes" "I") ∈ AW := AW_m1 90 rfl rfl
theorem aw_144 : (Cond.fieldLink "KilnKeeper" (236 : Nat) "KilnKeeper$Book" "minutes" "I") ∈ AW := AW_m1 91 rfl rfl
theorem aw_145 : (Cond.fieldLink "KilnKeeper$Book" (15 : Nat) "KilnKeeper$Book" "fuelLeft" "I") ∈ AW := AW_m1 92 rfl rfl
theorem aw_146 : (Cond.fieldLink "KilnKeeper$Kiln" (130 : Nat) "KilnKeeper$Book" "fuelLeft" "I") ∈ AW := AW_m1 93 rfl rfl
theorem aw_147 : (Cond.fieldLink "KilnKeeper$Book" (18 : Nat) "KilnKeeper$Book" "fuelThatCame" "I") ∈ AW := AW_m1 94 rfl rfl
theorem aw_148 : (Cond.fieldLink "KilnKeeper$Kiln" (146 : Nat) "KilnKeeper$Book" "fuelThatCame" "I") ∈ AW := AW_m1 95 rfl rfl
theorem aw_149 : (Cond.fieldLink "KilnKeeper$Book" (21 : Nat) "KilnKeeper$Book" "burntFuel" "I") ∈ AW := AW_m1 96 rfl rfl
theorem aw_150 : (Cond.fieldLink "KilnKeeper" (160 : Nat) "KilnKeeper$Book" "burntFuel" "I") ∈ AW := AW_m1 97 rfl rfl
theorem aw_151 : (Cond.fieldLink "KilnKeeper$Book" (24 : Nat) "KilnKeeper$Book" "amounts" "[I") ∈ AW := AW_m1 98 rfl rfl
theorem aw_152 : (Cond.fieldLink "KilnKeeper" (166 : Nat) "KilnKeeper$Book" "amounts" "[I") ∈ AW := AW_m1 99 rfl rfl
theorem aw_153 : (Cond.fieldLink "KilnKeeper$Book" (28 : Nat) "KilnKeeper$Book" "log" "[I") ∈ AW := AW_m1 100 rfl rfl
theorem aw_154 : (Cond.lays "KilnKeeper$Book" "KilnKeeper$Book" "minutes" "I") ∈ AW := AW_m1 101 rfl rfl
theorem aw_155 : (Cond.soleField "KilnKeeper$Book" "minutes") ∈ AW := AW_m1 102 rfl rfl
theorem aw_156 : (Cond.lays "KilnKeeper$Book" "KilnKeeper$Book" "fuelLeft" "I") ∈ AW := AW_m1 103 rfl rfl
theorem aw_157 : (Cond.soleField "KilnKeeper$Book" "fuelLeft") ∈ AW := AW_m1 104 rfl rfl
theorem aw_158 : (Cond.lays "KilnKeeper$Book" "KilnKeeper$Book" "fuelThatCame" "I") ∈ AW := AW_m1 105 rfl rfl
theorem aw_159 : (Cond.soleField "KilnKeeper$Book" "fuelThatCame") ∈ AW := AW_m1 106 rfl rfl
theorem aw_160 : (Cond.lays "KilnKeeper$Book" "KilnKeeper$Book" "burntFuel" "I") ∈ AW := AW_m1 107 rfl rfl
theorem aw_161 : (Cond.soleField "KilnKeeper$Book" "burntFuel") ∈ AW := AW_m1 108 rfl rfl
theorem aw_162 : (Cond.laysFinal "KilnKeeper$Book" "KilnKeeper$Book" "amounts" "[I") ∈ AW := AW_m1 109 rfl rfl
theorem aw_163 : (Cond.soleField "KilnKeeper$Book" "amounts") ∈ AW := AW_m1 110 rfl rfl
theorem aw_164 : (Cond.laysFinal "KilnKeeper$Book" "KilnKeeper$Book" "log" "[I") ∈ AW := AW_m1 111 rfl rfl
theorem aw_165 : (Cond.soleField "KilnKeeper$Book" "log") ∈ AW := AW_m1 112 rfl rfl
theorem aw_166 : (Cond.superclass "KilnKeeper$Book" "java/lang/Object") ∈ AW := AW_m1 113 rfl rfl
theorem aw_167 : (Cond.classLink "KilnKeeper$Kiln" (45 : Nat) "KilnKeeper$Rack") ∈ AW := AW_m1 114 rfl rfl
theorem aw_168 : (Cond.instantiable "KilnKeeper$Rack" (2 : Nat)) ∈ AW := AW_m1 115 rfl rfl
theorem aw_169 : (Cond.methodLink "KilnKeeper$Kiln" (47 : Nat) ({ cls := "KilnKeeper$Rack", name := "<init>", desc := "()V" } : MethodName)) ∈ AW := AW_m1 116 rfl rfl
theorem aw_170 : (Cond.instanceMethod ({ cls := "KilnKeeper$Rack", name := "<init>", desc := "()V" } : MethodName)) ∈ AW := AW_m1 117 rfl rfl
theorem aw_171 : (Cond.code ({ cls := "KilnKeeper$Rack", name := "<init>", desc := "()V" } : MethodName) prog_9_method_1_code (2 : Nat) (Option.none : Option FieldType)) ∈ AW := AW_m1 118 rfl rfl
theorem aw_172 : (Cond.methodLink "KilnKeeper$Rack" (3 : Nat) ({ cls := "java/lang/Object", name := "<init>", desc := "()V" } : MethodName)) ∈ AW := AW_m1 119 rfl rfl
theorem aw_173 : (Cond.classLink "KilnKeeper$Rack" (15 : Nat) "KilnKeeper$Pot") ∈ AW := AW_m1 120 rfl rfl
theorem at_174 : (Cond.arrayOver (FieldType.object "KilnKeeper$Pot")) ∈ lw_tbl := List.mem_append_right _ (List.mem_append_left _ (List.mem_of_getElem? (l := tables_1_1) (i := 121) rfl))
theorem aw_175 : (Cond.instantiable "KilnKeeper$Pot" (7 : Nat)) ∈ AW := AW_m1 122 rfl rfl
theorem at_176 : (Cond.methodLinkNest "KilnKeeper$Rack" (21 : Nat) ({ cls := "KilnKeeper$Pot", name := "<init>", desc := "()V" } : MethodName) "KilnKeeper") ∈ lw_tbl := List.mem_append_right _ (List.mem_append_left _ (List.mem_of_getElem? (l := tables_1_1) (i := 123) rfl))
theorem aw_177 : (Cond.instanceMethod ({ cls := "KilnKeeper$Pot", name := "<init>", desc := "()V" } : MethodName)) ∈ AW := AW_m1 124 rfl rfl
theorem aw_178 : (Cond.code ({ cls := "KilnKeeper$Pot", name := "<init>", desc := "()V" } : MethodName) prog_8_method_1_code (1 : Nat) (Option.none : Option FieldType)) ∈ AW := AW_m1 125 rfl rfl
theorem aw_179 : (Cond.methodLink "KilnKeeper$Pot" (3 : Nat) ({ cls := "java/lang/Object", name := "<init>", desc := "()V" } : MethodName)) ∈ AW := AW_m1 126 rfl rfl
theorem aw_180 : (Cond.fieldLink "KilnKeeper$Pot" (9 : Nat) "KilnKeeper$Pot" "shock" "I") ∈ AW := AW_m1 127 rfl rfl
theorem aw_181 : (Cond.fieldLink "KilnKeeper$Pot" (15 : Nat) "KilnKeeper$Pot" "needed" "I") ∈ AW := AW_m1 128 rfl rfl
theorem aw_182 : (Cond.fieldLink "KilnKeeper$Pot" (18 : Nat) "KilnKeeper$Pot" "soaking" "I") ∈ AW := AW_m1 129 rfl rfl
theorem aw_183 : (Cond.fieldLink "KilnKeeper$Rack" (70 : Nat) "KilnKeeper$Pot" "soaking" "I") ∈ AW := AW_m1 130 rfl rfl
theorem aw_184 : (Cond.fieldLink "KilnKeeper$Pot" (21 : Nat) "KilnKeeper$Pot" "state" "I") ∈ AW := AW_m1 131 rfl rfl
theorem aw_185 : (Cond.fieldLink "KilnKeeper$Rack" (44 : Nat) "KilnKeeper$Pot" "state" "I") ∈ AW := AW_m1 132 rfl rfl
theorem aw_186 : (Cond.fieldLink "KilnKeeper" (130 : Nat) "KilnKeeper$Pot" "state" "I") ∈ AW := AW_m1 133 rfl rfl
theorem aw_187 : (Cond.fieldLink "KilnKeeper$Pot" (24 : Nat) "KilnKeeper$Pot" "soaked" "I") ∈ AW := AW_m1 134 rfl rfl
theorem aw_188 : (Cond.fieldLink "KilnKeeper$Rack" (67 : Nat) "KilnKeeper$Pot" "soaked" "I") ∈ AW := AW_m1 135 rfl rfl
theorem aw_189 : (Cond.fieldLink "KilnKeeper$Pot" (27 : Nat) "KilnKeeper$Pot" "isWithin" "Z") ∈ AW := AW_m1 136 rfl rfl
theorem aw_190 : (Cond.fieldLink "KilnKeeper$Rack" (51 : Nat) "KilnKeeper$Pot" "isWithin" "Z") ∈ AW := AW_m1 137 rfl rfl
theorem aw_191 : (Cond.fieldLink "KilnKeeper$Pot" (31 : Nat) "KilnKeeper$Pot" "mostJump" "I") ∈ AW := AW_m1 138 rfl rfl
theorem aw_192 : (Cond.lays "KilnKeeper$Pot" "KilnKeeper$Pot" "shock" "I") ∈ AW := AW_m1 139 rfl rfl
theorem aw_193 : (Cond.soleField "KilnKeeper$Pot" "shock") ∈ AW := AW_m1 140 rfl rfl
theorem aw_194 : (Cond.lays "KilnKeeper$Pot" "KilnKeeper$Pot" "needed" "I") ∈ AW := AW_m1 141 rfl rfl
theorem aw_195 : (Cond.soleField "KilnKeeper$Pot" "needed") ∈ AW := AW_m1 142 rfl rfl
theorem aw_196 : (Cond.lays "KilnKeeper$Pot" "KilnKeeper$Pot" "soaking" "I") ∈ AW := AW_m1 143 rfl rfl
theorem aw_197 : (Cond.soleField "KilnKeeper$Pot" "soaking") ∈ AW := AW_m1 144 rfl rfl
theorem aw_198 : (Cond.lays "KilnKeeper$Pot" "KilnKeeper$Pot" "state" "I") ∈ AW := AW_m1 145 rfl rfl
theorem aw_199 : (Cond.soleField "KilnKeeper$Pot" "state") ∈ AW := AW_m1 146 rfl rfl
theorem aw_200 : (Cond.lays "KilnKeeper$Pot" "KilnKeeper$Pot" "soaked" "I") ∈ AW := AW_m1 147 rfl rfl
theorem aw_201 : (Cond.soleField "KilnKeeper$Pot" "soaked") ∈ AW := AW_m1 148 rfl rfl
theorem aw_202 : (Cond.lays "KilnKeeper$Pot" "KilnKeeper$Pot" "isWithin" "Z") ∈ AW := AW_m1 149 rfl rfl
theorem aw_203 : (Cond.soleField "KilnKeeper$Pot" "isWithin") ∈ AW := AW_m1 150 rfl rfl
theorem aw_204 : (Cond.lays "KilnKeeper$Pot" "KilnKeeper$Pot" "mostJump" "I") ∈ AW := AW_m1 151 rfl rfl
theorem aw_205 : (Cond.soleField "KilnKeeper$Pot" "mostJump") ∈ AW := AW_m1 152 rfl rfl
theorem aw_206 : (Cond.superclass "KilnKeeper$Pot" "java/lang/Object") ∈ AW := AW_m1 153 rfl rfl
theorem aw_207 : (Cond.fieldLink "KilnKeeper$Rack" (9 : Nat) "KilnKeeper$Rack" "count" "I") ∈ AW := AW_m1 154 rfl rfl
theorem aw_208 : (Cond.fieldLink "KilnKeeper$Kiln" (149 : Nat) "KilnKeeper$Rack" "count" "I") ∈ AW := AW_m1 155 rfl rfl
theorem aw_209 : (Cond.fieldLink "KilnKeeper" (239 : Nat) "KilnKeeper$Rack" "count" "I") ∈ AW := AW_m1 156 rfl rfl
theorem aw_210 : (Cond.fieldLink "KilnKeeper$Rack" (17 : Nat) "KilnKeeper$Rack" "pots" "[LKilnKeeper$Pot;") ∈ AW := AW_m1 157 rfl rfl
theorem aw_211 : (Cond.lays "KilnKeeper$Rack" "KilnKeeper$Rack" "count" "I") ∈ AW := AW_m1 158 rfl rfl
theorem aw_212 : (Cond.soleField "KilnKeeper$Rack" "count") ∈ AW := AW_m1 159 rfl rfl
theorem aw_213 : (Cond.laysFinal "KilnKeeper$Rack" "KilnKeeper$Rack" "pots" "[LKilnKeeper$Pot;") ∈ AW := AW_m1 160 rfl rfl
theorem aw_214 : (Cond.soleField "KilnKeeper$Rack" "pots") ∈ AW := AW_m1 161 rfl rfl
theorem aw_215 : (Cond.superclass "KilnKeeper$Rack" "java/lang/Object") ∈ AW := AW_m1 162 rfl rfl
theorem aw_216 : (Cond.fieldLink "KilnKeeper$Kiln" (9 : Nat) "KilnKeeper$Kiln" "degrees" "I") ∈ AW := AW_m1 163 rfl rfl
theorem aw_217 : (Cond.fieldLink "KilnKeeper" (106 : Nat) "KilnKeeper$Kiln" "degrees" "I") ∈ AW := AW_m1 164 rfl rfl
theorem aw_218 : (Cond.fieldLink "KilnKeeper$Kiln" (15 : Nat) "KilnKeeper$Kiln" "aimedDegrees" "I") ∈ AW := AW_m1 165 rfl rfl
theorem aw_219 : (Cond.fieldLink "KilnKeeper$Kiln" (18 : Nat) "KilnKeeper$Kiln" "overshoot" "I") ∈ AW := AW_m1 166 rfl rfl
theorem aw_220 : (Cond.fieldLink "KilnKeeper" (153 : Nat) "KilnKeeper$Kiln" "overshoot" "I") ∈ AW := AW_m1 167 rfl rfl
theorem aw_221 : (Cond.fieldLink "KilnKeeper$Kiln" (21 : Nat) "KilnKeeper$Kiln" "damper" "I") ∈ AW := AW_m1 168 rfl rfl
theorem aw_222 : (Cond.fieldLink "KilnKeeper$Kiln" (27 : Nat) "KilnKeeper$Kiln" "regulator" "LKilnKeeper$Regulator;") ∈ AW := AW_m1 169 rfl rfl
theorem aw_223 : (Cond.fieldLink "KilnKeeper" (68 : Nat) "KilnKeeper$Kiln" "regulator" "LKilnKeeper$Regulator;") ∈ AW := AW_m1 170 rfl rfl
theorem aw_224 : (Cond.fieldLink "KilnKeeper$Kiln" (34 : Nat) "KilnKeeper$Kiln" "lagRow" "LKilnKeeper$LagRow;") ∈ AW := AW_m1 171 rfl rfl
theorem aw_225 : (Cond.fieldLink "KilnKeeper$Kiln" (41 : Nat) "KilnKeeper$Kiln" "book" "LKilnKeeper$Book;") ∈ AW := AW_m1 172 rfl rfl
theorem aw_226 : (Cond.fieldLink "KilnKeeper" (84 : Nat) "KilnKeeper$Kiln" "book" "LKilnKeeper$Book;") ∈ AW := AW_m1 173 rfl rfl
theorem aw_227 : (Cond.fieldLink "KilnKeeper$Kiln" (48 : Nat) "KilnKeeper$Kiln" "rack" "LKilnKeeper$Rack;") ∈ AW := AW_m1 174 rfl rfl
theorem aw_228 : (Cond.fieldLink "KilnKeeper" (96 : Nat) "KilnKeeper$Kiln" "rack" "LKilnKeeper$Rack;") ∈ AW := AW_m1 175 rfl rfl
theorem aw_229 : (Cond.lays "KilnKeeper$Kiln" "KilnKeeper$Kiln" "degrees" "I") ∈ AW := AW_m1 176 rfl rfl
theorem aw_230 : (Cond.soleField "KilnKeeper$Kiln" "degrees") ∈ AW := AW_m1 177 rfl rfl
theorem aw_231 : (Cond.lays "KilnKeeper$Kiln" "KilnKeeper$Kiln" "aimedDegrees" "I") ∈ AW := AW_m1 178 rfl rfl
theorem aw_232 : (Cond.soleField "KilnKeeper$Kiln" "aimedDegrees") ∈ AW := AW_m1 179 rfl rfl
theorem aw_233 : (Cond.lays "KilnKeeper$Kiln" "KilnKeeper$Kiln" "overshoot" "I") ∈ AW := AW_m1 180 rfl rfl
theorem aw_234 : (Cond.soleField "KilnKeeper$Kiln" "overshoot") ∈ AW := AW_m1 181 rfl rfl
theorem aw_235 : (Cond.lays "KilnKeeper$Kiln" "KilnKeeper$Kiln" "damper" "I") ∈ AW := AW_m1 182 rfl rfl
theorem aw_236 : (Cond.soleField "KilnKeeper$Kiln" "damper") ∈ AW := AW_m1 183 rfl rfl
theorem aw_237 : (Cond.laysFinal "KilnKeeper$Kiln" "KilnKeeper$Kiln" "regulator" "LKilnKeeper$Regulator;") ∈ AW := AW_m1 184 rfl rfl
theorem aw_238 : (Cond.soleField "KilnKeeper$Kiln" "regulator") ∈ AW := AW_m1 185 rfl rfl
theorem aw_239 : (Cond.laysFinal "KilnKeeper$Kiln" "KilnKeeper$Kiln" "lagRow" "LKilnKeeper$LagRow;") ∈ AW := AW_m1 186 rfl rfl
theorem aw_240 : (Cond.soleField "KilnKeeper$Kiln" "lagRow") ∈ AW := AW_m1 187 rfl rfl
theorem aw_241 : (Cond.laysFinal "KilnKeeper$Kiln" "KilnKeeper$Kiln" "book" "LKilnKeeper$Book;") ∈ AW := AW_m1 188 rfl rfl
theorem aw_242 : (Cond.soleField "KilnKeeper$Kiln" "book") ∈ AW := AW_m1 189 rfl rfl
theorem aw_243 : (Cond.laysFinal "KilnKeeper$Kiln" "KilnKeeper$Kiln" "rack" "LKilnKeeper$Rack;") ∈ AW := AW_m1 190 rfl rfl
theorem aw_244 : (Cond.soleField "KilnKeeper$Kiln" "rack") ∈ AW := AW_m1 191 rfl rfl
theorem aw_245 : (Cond.superclass "KilnKeeper$Kiln" "java/lang/Object") ∈ AW := AW_m1 192 rfl rfl
theorem aw_246 : (Cond.classLink "KilnKeeper" (26 : Nat) "KilnKeeper$Changes") ∈ AW := AW_m1 193 rfl rfl
theorem aw_247 : (Cond.instantiable "KilnKeeper$Changes" (3 : Nat)) ∈ AW := AW_m1 194 rfl rfl
theorem aw_248 : (Cond.methodLink "KilnKeeper" (28 : Nat) ({ cls := "KilnKeeper$Changes", name := "<init>", desc := "()V" } : MethodName)) ∈ AW := AW_m1 195 rfl rfl
theorem aw_249 : (Cond.instanceMethod ({ cls := "KilnKeeper$Changes", name := "<init>", desc := "()V" } : MethodName)) ∈ AW := AW_m1 196 rfl rfl
theorem aw_250 : (Cond.code ({ cls := "KilnKeeper$Changes", name := "<init>", desc := "()V" } : MethodName) prog_4_method_1_code (2 : Nat) (Option.none : Option FieldType)) ∈ AW := AW_m1 197 rfl rfl
theorem aw_251 : (Cond.methodLink "KilnKeeper$Changes" (3 : Nat) ({ cls := "java/lang/Object", name := "<init>", desc := "()V" } : MethodName)) ∈ AW := AW_m1 198 rfl rfl
theorem aw_252 : (Cond.classLink "KilnKeeper$Changes" (18 : Nat) "KilnKeeper$Kiln") ∈ AW := AW_m1 199 rfl rfl
theorem at_253 : (Cond.arrayOver (FieldType.object "KilnKeeper$Kiln")) ∈ lw_tbl := List.mem_append_right _ (List.mem_append_left _ (List.mem_of_getElem? (l := tables_1_1) (i := 200) rfl))
theorem at_254 : (Cond.methodLinkNest "KilnKeeper$Changes" (24 : Nat) ({ cls := "KilnKeeper$Kiln", name := "<init>", desc := "()V" } : MethodName) "KilnKeeper") ∈ lw_tbl := List.mem_append_right _ (List.mem_append_left _ (List.mem_of_getElem? (l := tables_1_1) (i := 201) rfl))
theorem aw_255 : (Cond.fieldLink "KilnKeeper$Changes" (9 : Nat) "KilnKeeper$Changes" "count" "I") ∈ AW := AW_m1 202 rfl rfl
theorem aw_256 : (Cond.fieldLink "KilnKeeper" (223 : Nat) "KilnKeeper$Changes" "count" "I") ∈ AW := AW_m1 203 rfl rfl
theorem aw_257 : (Cond.fieldLink "KilnKeeper$Changes" (15 : Nat) "KilnKeeper$Changes" "start" "I") ∈ AW := AW_m1 204 rfl rfl
theorem aw_258 : (Cond.fieldLink "KilnKeeper$Changes" (20 : Nat) "KilnKeeper$Changes" "kilns" "[LKilnKeeper$Kiln;") ∈ AW := AW_m1 205 rfl rfl
theorem aw_259 : (Cond.lays "KilnKeeper$Changes" "KilnKeeper$Changes" "count" "I") ∈ AW := AW_m1 206 rfl rfl
theorem aw_260 : (Cond.soleField "KilnKeeper$Changes" "count") ∈ AW := AW_m1 207 rfl rfl
theorem aw_261 : (Cond.lays "KilnKeeper$Changes" "KilnKeeper$Changes" "start" "I") ∈ AW := AW_m1 208 rfl rfl
theorem aw_262 : (Cond.soleField "KilnKeeper$Changes" "start") ∈ AW := AW_m1 209 rfl rfl
theorem aw_263 : (Cond.laysFinal "KilnKeeper$Changes" "KilnKeeper$Changes" "kilns" "[LKilnKeeper$Kiln;") ∈ AW := AW_m1 210 rfl rfl
theorem aw_264 : (Cond.soleField "KilnKeeper$Changes" "kilns") ∈ AW := AW_m1 211 rfl rfl
theorem aw_265 : (Cond.superclass "KilnKeeper$Changes" "java/lang/Object") ∈ AW := AW_m1 212 rfl rfl
theorem aw_266 : (Cond.classLink "KilnKeeper" (33 : Nat) "KilnKeeper$Refusal") ∈ AW := AW_m1 213 rfl rfl
theorem aw_267 : (Cond.instantiable "KilnKeeper$Refusal" (2 : Nat)) ∈ AW := AW_m1 214 rfl rfl
theorem at_268 : (Cond.methodLinkNest "KilnKeeper" (35 : Nat) ({ cls := "KilnKeeper$Refusal", name := "<init>", desc := "()V" } : MethodName) "KilnKeeper") ∈ lw_tbl := List.mem_append_right _ (List.mem_append_left _ (List.mem_of_getElem? (l := tables_1_1) (i := 215) rfl))
theorem aw_269 : (Cond.instanceMethod ({ cls := "KilnKeeper$Refusal", name := "<init>", desc := "()V" } : MethodName)) ∈ AW := AW_m1 216 rfl rfl
theorem aw_270 : (Cond.code ({ cls := "KilnKeeper$Refusal", name := "<init>", desc := "()V" } : MethodName) prog_11_method_1_code (1 : Nat) (Option.none : Option FieldType)) ∈ AW := AW_m1 217 rfl rfl
theorem aw_271 : (Cond.methodLink "KilnKeeper$Refusal" (3 : Nat) ({ cls := "java/lang/Object", name := "<init>", desc := "()V" } : MethodName)) ∈ AW := AW_m1 218 rfl rfl
theorem aw_272 : (Cond.fieldLink "KilnKeeper$Refusal" (9 : Nat) "KilnKeeper$Refusal" "cause" "I") ∈ AW := AW_m1 219 rfl rfl
theorem aw_273 : (Cond.fieldLink "KilnKeeper" (214 : Nat) "KilnKeeper$Refusal" "cause" "I") ∈ AW := AW_m1 220 rfl rfl
theorem aw_274 : (Cond.fieldLink "KilnKeeper$Refusal" (15 : Nat) "KilnKeeper$Refusal" "detail" "I") ∈ AW := AW_m1 221 rfl rfl
theorem aw_275 : (Cond.fieldLink "KilnKeeper" (217 : Nat) "KilnKeeper$Refusal" "detail" "I") ∈ AW := AW_m1 222 rfl rfl
theorem aw_276 : (Cond.lays "KilnKeeper$Refusal" "KilnKeeper$Refusal" "cause" "I") ∈ AW := AW_m1 223 rfl rfl
theorem aw_277 : (Cond.soleField "KilnKeeper$Refusal" "cause") ∈ AW := AW_m1 224 rfl rfl
theorem aw_278 : (Cond.lays "KilnKeeper$Refusal" "KilnKeeper$Refusal" "detail" "I") ∈ AW := AW_m1 225 rfl rfl
theorem aw_279 : (Cond.soleField "KilnKeeper$Refusal" "detail") ∈ AW := AW_m1 226 rfl rfl
theorem aw_280 : (Cond.superclass "KilnKeeper$Refusal" "java/lang/Object") ∈ AW := AW_m1 227 rfl rfl
theorem aw_281 : (Cond.classLink "KilnKeeper" (43 : Nat) "KilnKeeper$Reader") ∈ AW := AW_m1 228 rfl rfl
theorem aw_282 : (Cond.instantiable "KilnKeeper$Reader" (2 : Nat)) ∈ AW := AW_m1 229 rfl rfl
theorem aw_283 : (Cond.methodLink "KilnKeeper" (45 : Nat) ({ cls := "KilnKeeper$Reader", name := "<init>", desc := "()V" } : MethodName)) ∈ AW := AW_m1 230 rfl rfl
theorem aw_284 : (Cond.instanceMethod ({ cls := "KilnKeeper$Reader", name := "<init>", desc := "()V" } : MethodName)) ∈ AW := AW_m1 231 rfl rfl
theorem aw_285 : (Cond.code ({ cls := "KilnKeeper$Reader", name := "<init>", desc := "()V" } : MethodName) prog_10_method_1_code (2 : Nat) (Option.none : Option FieldType)) ∈ AW := AW_m1 232 rfl rfl
theorem aw_286 : (Cond.methodLink "KilnKeeper$Reader" (3 : Nat) ({ cls := "java/lang/Object", name := "<init>", desc := "()V" } : MethodName)) ∈ AW := AW_m1 233 rfl rfl
theorem aw_287 : (Cond.classLink "KilnKeeper$Reader" (9 : Nat) "java/lang/StringBuilder") ∈ AW := AW_m1 234 rfl rfl
theorem aw_288 : (Cond.instantiable "java/lang/StringBuilder" (4 : Nat)) ∈ AW := AW_m1 235 rfl rfl
theorem aw_289 : (Cond.methodLink "KilnKeeper$Reader" (11 : Nat) ({ cls := "java/lang/StringBuilder", name := "<init>", desc := "()V" } : MethodName)) ∈ AW := AW_m1 236 rfl rfl
theorem aw_290 : (Cond.instanceMethod ({ cls := "java/lang/StringBuilder", name := "<init>", desc := "()V" } : MethodName)) ∈ AW := AW_m1 237 rfl rfl
theorem aw_291 : (Cond.code ({ cls := "java/lang/StringBuilder", name := "<init>", desc := "()V" } : MethodName) prog_22_method_1_code (1 : Nat) (Option.none : Option FieldType)) ∈ AW := AW_m1 238 rfl rfl
theorem aw_292 : (Cond.methodLink "java/lang/StringBuilder" (1 : Nat) ({ cls := "java/lang/AbstractStringBuilder", name := "<init>", desc := "(I)V" } : MethodName)) ∈ AW := AW_m1 239 rfl rfl
theorem aw_293 : (Cond.instanceMethod ({ cls := "java/lang/AbstractStringBuilder", name := "<init>", desc := "(I)V" } : MethodName)) ∈ AW := AW_m2 0 rfl rfl
theorem aw_294 : (Cond.code ({ cls := "java/lang/AbstractStringBuilder", name := "<init>", desc := "(I)V" } : MethodName) prog_16_method_2_code (2 : Nat) (Option.none : Option FieldType)) ∈ AW := AW_m2 1 rfl rfl
theorem aw_295 : (Cond.methodLink "java/lang/AbstractStringBuilder" (3 : Nat) ({ cls := "java/lang/Object", name := "<init>", desc := "()V" } : MethodName)) ∈ AW := AW_m2 2 rfl rfl
theorem aw_296 : (Cond.fieldLink "java/lang/AbstractStringBuilder" (18 : Nat) "java/lang/String" "COMPACT_STRINGS" "Z") ∈ AW := AW_m2 3 rfl rfl
theorem at_297 : (Cond.laysStatic "java/lang/String" "COMPACT_STRINGS" "Z") ∈ lw_tbl := List.mem_append_right _ (List.mem_append_right _ (List.mem_append_left _ (List.mem_of_getElem? (l := tables_1_2) (i := 4) rfl)))
theorem aw_298 : (Cond.methodLink "java/lang/AbstractStringBuilder" (26 : Nat) ({ cls := "java/lang/StringUTF16", name := "newBytesFor", desc := "(I)[B" } : MethodName)) ∈ AW := AW_m2 5 rfl rfl
theorem aw_299 : (Cond.static ({ cls := "java/lang/StringUTF16", name := "newBytesFor", desc := "(I)[B" } : MethodName)) ∈ AW := AW_m2 6 rfl rfl
theorem aw_300 : (Cond.code ({ cls := "java/lang/StringUTF16", name := "newBytesFor", desc := "(I)[B" } : MethodName) prog_24_method_2_code (1 : Nat) (Option.some (FieldType.array FieldType.byte))) ∈ AW := AW_m2 7 rfl rfl
theorem aw_301 : (Cond.methodLink "java/lang/StringUTF16" (11 : Nat) ({ cls := "java/lang/StringUTF16", name := "newBytesLength", desc := "(I)I" } : MethodName)) ∈ AW := AW_m2 8 rfl rfl
theorem aw_302 : (Cond.static ({ cls := "java/lang/StringUTF16", name := "newBytesLength", desc := "(I)I" } : MethodName)) ∈ AW := AW_m2 9 rfl rfl
theorem aw_303 : (Cond.code ({ cls := "java/lang/StringUTF16", name := "newBytesLength", desc := "(I)I" } : MethodName) prog_24_method_3_code (1 : Nat) (Option.some FieldType.int)) ∈ AW := AW_m2 10 rfl rfl
theorem aw_304 : (Cond.constant "java/lang/StringUTF16" (20 : Nat) (1073741823 : Int32)) ∈ AW := AW_m2 11 rfl rfl
theorem aw_305 : (Cond.fieldLink "java/lang/AbstractStringBuilder" (15 : Nat) "java/lang/AbstractStringBuilder" "value" "[B") ∈ AW := AW_m2 12 rfl rfl
theorem aw_306 : (Cond.fieldLink "java/lang/AbstractStringBuilder" (22 : Nat) "java/lang/AbstractStringBuilder" "coder" "B") ∈ AW := AW_m2 13 rfl rfl
theorem aw_307 : (Cond.fieldLink "java/lang/AbstractStringBuilder" (73 : Nat) "java/lang/AbstractStringBuilder" "maybeLatin1" "Z") ∈ AW := AW_m2 14 rfl rfl
theorem aw_308 : (Cond.fieldLink "java/lang/AbstractStringBuilder" (79 : Nat) "java/lang/AbstractStringBuilder" "count" "I") ∈ AW := AW_m2 15 rfl rfl
theorem aw_309 : (Cond.lays "java/lang/StringBuilder" "java/lang/AbstractStringBuilder" "value" "[B") ∈ AW := AW_m2 16 rfl rfl
theorem aw_310 : (Cond.soleField "java/lang/AbstractStringBuilder" "value") ∈ AW := AW_m2 17 rfl rfl
theorem aw_311 : (Cond.lays "java/lang/StringBuilder" "java/lang/AbstractStringBuilder" "coder" "B") ∈ AW := AW_m2 18 rfl rfl
theorem aw_312 : (Cond.soleField "java/lang/AbstractStringBuilder" "coder") ∈ AW := AW_m2 19 rfl rfl
theorem aw_313 : (Cond.lays "java/lang/StringBuilder" "java/lang/AbstractStringBuilder" "maybeLatin1" "Z") ∈ AW := AW_m2 20 rfl rfl
theorem aw_314 : (Cond.soleField "java/lang/AbstractStringBuilder" "maybeLatin1") ∈ AW := AW_m2 21 rfl rfl
theorem aw_315 : (Cond.lays "java/lang/StringBuilder" "java/lang/AbstractStringBuilder" "count" "I") ∈ AW := AW_m2 22 rfl rfl
theorem aw_316 : (Cond.soleField "java/lang/AbstractStringBuilder" "count") ∈ AW := AW_m2 23 rfl rfl
theorem aw_317 : (Cond.superclass "java/lang/StringBuilder" "java/lang/AbstractStringBuilder") ∈ AW := AW_m2 24 rfl rfl
theorem aw_318 : (Cond.arrayClass FieldType.byte) ∈ AW := AW_m2 25 rfl rfl
theorem aw_319 : (Cond.classLink "KilnKeeper$Reader" (18 : Nat) "KilnKeeper$Order") ∈ AW := AW_m2 26 rfl rfl
theorem at_320 : (Cond.arrayOver (FieldType.object "KilnKeeper$Order")) ∈ lw_tbl := List.mem_append_right _ (List.mem_append_right _ (List.mem_append_left _ (List.mem_of_getElem? (l := tables_1_2) (i := 27) rfl)))
theorem aw_321 : (Cond.instantiable "KilnKeeper$Order" (2 : Nat)) ∈ AW := AW_m2 28 rfl rfl
theorem at_322 : (Cond.methodLinkNest "KilnKeeper$Reader" (24 : Nat) ({ cls := "KilnKeeper$Order", name := "<init>", desc := "()V" } : MethodName) "KilnKeeper") ∈ lw_tbl := List.mem_append_right _ (List.mem_append_right _ (List.mem_append_left _ (List.mem_of_getElem? (l := tables_1_2) (i := 29) rfl)))
theorem aw_323 : (Cond.instanceMethod ({ cls := "KilnKeeper$Order", name := "<init>", desc := "()V" } : MethodName)) ∈ AW := AW_m2 30 rfl rfl
theorem aw_324 : (Cond.code ({ cls := "KilnKeeper$Order", name := "<init>", desc := "()V" } : MethodName) prog_7_method_1_code (1 : Nat) (Option.none : Option FieldType)) ∈ AW := AW_m2 31 rfl rfl
theorem aw_325 : (Cond.methodLink "KilnKeeper$Order" (3 : Nat) ({ cls := "java/lang/Object", name := "<init>", desc := "()V" } : MethodName)) ∈ AW := AW_m2 32 rfl rfl
theorem aw_326 : (Cond.fieldLink "KilnKeeper$Order" (9 : Nat) "KilnKeeper$Word" "GO" "LKilnKeeper$Word;") ∈ AW := AW_m2 33 rfl rfl
theorem at_327 : (Cond.laysStatic "KilnKeeper$Word" "GO" "LKilnKeeper$Word;") ∈ lw_tbl := List.mem_append_right _ (List.mem_append_right _ (List.mem_append_left _ (List.mem_of_getElem? (l := tables_1_2) (i := 34) rfl)))
theorem aw_328 : (Cond.fieldLink "KilnKeeper$Order" (15 : Nat) "KilnKeeper$Order" "word" "LKilnKeeper$Word;") ∈ AW := AW_m2 35 rfl rfl
theorem aw_329 : (Cond.fieldLink "KilnKeeper$Reader" (74 : Nat) "KilnKeeper$Order" "word" "LKilnKeeper$Word;") ∈ AW := AW_m2 36 rfl rfl
theorem aw_330 : (Cond.fieldLink "KilnKeeper" (254 : Nat) "KilnKeeper$Order" "word" "LKilnKeeper$Word;") ∈ AW := AW_m2 37 rfl rfl
theorem aw_331 : (Cond.fieldLink "KilnKeeper$Order" (20 : Nat) "KilnKeeper$Order" "numbers" "[I") ∈ AW := AW_m2 38 rfl rfl
theorem aw_332 : (Cond.fieldLink "KilnKeeper$Reader" (94 : Nat) "KilnKeeper$Order" "numbers" "[I") ∈ AW := AW_m2 39 rfl rfl
theorem aw_333 : (Cond.fieldLink "KilnKeeper" (260 : Nat) "KilnKeeper$Order" "numbers" "[I") ∈ AW := AW_m2 40 rfl rfl
theorem aw_334 : (Cond.lays "KilnKeeper$Order" "KilnKeeper$Order" "word" "LKilnKeeper$Word;") ∈ AW := AW_m2 41 rfl rfl
theorem aw_335 : (Cond.soleField "KilnKeeper$Order" "word") ∈ AW := AW_m2 42 rfl rfl
theorem aw_336 : (Cond.laysFinal "KilnKeeper$Order" "KilnKeeper$Order" "numbers" "[I") ∈ AW := AW_m2 43 rfl rfl
theorem aw_337 : (Cond.soleField "KilnKeeper$Order" "numbers") ∈ AW := AW_m2 44 rfl rfl
theorem aw_338 : (Cond.superclass "KilnKeeper$Order" "java/lang/Object") ∈ AW := AW_m2 45 rfl rfl
theorem aw_339 : (Cond.fieldLink "KilnKeeper$Reader" (12 : Nat) "KilnKeeper$Reader" "text" "Ljava/lang/StringBuilder;") ∈ AW := AW_m2 46 rfl rfl
theorem aw_340 : (Cond.fieldLink "KilnKeeper$Reader" (20 : Nat) "KilnKeeper$Reader" "orders" "[LKilnKeeper$Order;") ∈ AW := AW_m2 47 rfl rfl
theorem aw_341 : (Cond.laysFinal "KilnKeeper$Reader" "KilnKeeper$Reader" "text" "Ljava/lang/StringBuilder;") ∈ AW := AW_m2 48 rfl rfl
theorem aw_342 : (Cond.soleField "KilnKeeper$Reader" "text") ∈ AW := AW_m2 49 rfl rfl
theorem aw_343 : (Cond.laysFinal "KilnKeeper$Reader" "KilnKeeper$Reader" "orders" "[LKilnKeeper$Order;") ∈ AW := AW_m2 50 rfl rfl
theorem aw_344 : (Cond.soleField "KilnKeeper$Reader" "orders") ∈ AW := AW_m2 51 rfl rfl
theorem aw_345 : (Cond.superclass "KilnKeeper$Reader" "java/lang/Object") ∈ AW := AW_m2 52 rfl rfl
theorem aw_346 : (Cond.classLink "KilnKeeper" (50 : Nat) "java/lang/StringBuilder") ∈ AW := AW_m2 53 rfl rfl
theorem aw_347 : (Cond.methodLink "KilnKeeper" (52 : Nat) ({ cls := "java/lang/StringBuilder", name := "<init>", desc := "()V" } : MethodName)) ∈ AW := AW_m2 54 rfl rfl
theorem aw_348 : (Cond.fieldLink "KilnKeeper" (10 : Nat) "KilnKeeper" "kiln" "LKilnKeeper$Kiln;") ∈ AW := AW_m2 55 rfl rfl
theorem aw_349 : (Cond.fieldLink "KilnKeeper" (16 : Nat) "KilnKeeper" "spare" "LKilnKeeper$Kiln;") ∈ AW := AW_m2 56 rfl rfl
theorem aw_350 : (Cond.fieldLink "KilnKeeper" (19 : Nat) "KilnKeeper" "snapshot" "LKilnKeeper$Kiln;") ∈ AW := AW_m2 57 rfl rfl
theorem aw_351 : (Cond.fieldLink "KilnKeeper" (22 : Nat) "KilnKeeper" "isSaved" "Z") ∈ AW := AW_m2 58 rfl rfl
theorem aw_352 : (Cond.fieldLink "KilnKeeper" (29 : Nat) "KilnKeeper" "changes" "LKilnKeeper$Changes;") ∈ AW := AW_m2 59 rfl rfl
theorem aw_353 : (Cond.fieldLink "KilnKeeper" (36 : Nat) "KilnKeeper" "refusal" "LKilnKeeper$Refusal;") ∈ AW := AW_m2 60 rfl rfl
theorem aw_354 : (Cond.fieldLink "KilnKeeper" (40 : Nat) "KilnKeeper" "unheard" "LKilnKeeper$Refusal;") ∈ AW := AW_m2 61 rfl rfl
theorem aw_355 : (Cond.fieldLink "KilnKeeper" (46 : Nat) "KilnKeeper" "reader" "LKilnKeeper$Reader;") ∈ AW := AW_m2 62 rfl rfl
theorem aw_356 : (Cond.fieldLink "KilnKeeper" (53 : Nat) "KilnKeeper" "line" "Ljava/lang/StringBuilder;") ∈ AW := AW_m2 63 rfl rfl
theorem aw_357 : (Cond.laysFinal "KilnKeeper" "KilnKeeper" "kiln" "LKilnKeeper$Kiln;") ∈ AW := AW_m2 64 rfl rfl
theorem aw_358 : (Cond.soleField "KilnKeeper" "kiln") ∈ AW := AW_m2 65 rfl rfl
theorem aw_359 : (Cond.laysFinal "KilnKeeper" "KilnKeeper" "spare" "LKilnKeeper$Kiln;") ∈ AW := AW_m2 66 rfl rfl
theorem aw_360 : (Cond.soleField "KilnKeeper" "spare") ∈ AW := AW_m2 67 rfl rfl
theorem aw_361 : (Cond.laysFinal "KilnKeeper" "KilnKeeper" "snapshot" "LKilnKeeper$Kiln;") ∈ AW := AW_m2 68 rfl rfl
theorem aw_362 : (Cond.soleField "KilnKeeper" "snapshot") ∈ AW := AW_m2 69 rfl rfl
theorem aw_363 : (Cond.lays "KilnKeeper" "KilnKeeper" "isSaved" "Z") ∈ AW := AW_m2 70 rfl rfl
theorem aw_364 : (Cond.soleField "KilnKeeper" "isSaved") ∈ AW := AW_m2 71 rfl rfl
theorem aw_365 : (Cond.laysFinal "KilnKeeper" "KilnKeeper" "changes" "LKilnKeeper$Changes;") ∈ AW := AW_m2 72 rfl rfl
theorem aw_366 : (Cond.soleField "KilnKeeper" "changes") ∈ AW := AW_m2 73 rfl rfl
theorem aw_367 : (Cond.laysFinal "KilnKeeper" "KilnKeeper" "refusal" "LKilnKeeper$Refusal;") ∈ AW := AW_m2 74 rfl rfl
theorem aw_368 : (Cond.soleField "KilnKeeper" "refusal") ∈ AW := AW_m2 75 rfl rfl
theorem aw_369 : (Cond.laysFinal "KilnKeeper" "KilnKeeper" "unheard" "LKilnKeeper$Refusal;") ∈ AW := AW_m2 76 rfl rfl
theorem aw_370 : (Cond.soleField "KilnKeeper" "unheard") ∈ AW := AW_m2 77 rfl rfl
theorem aw_371 : (Cond.laysFinal "KilnKeeper" "KilnKeeper" "reader" "LKilnKeeper$Reader;") ∈ AW := AW_m2 78 rfl rfl
theorem aw_372 : (Cond.soleField "KilnKeeper" "reader") ∈ AW := AW_m2 79 rfl rfl
theorem aw_373 : (Cond.laysFinal "KilnKeeper" "KilnKeeper" "line" "Ljava/lang/StringBuilder;") ∈ AW := AW_m2 80 rfl rfl
theorem aw_374 : (Cond.soleField "KilnKeeper" "line") ∈ AW := AW_m2 81 rfl rfl
theorem aw_375 : (Cond.superclass "KilnKeeper" "java/lang/Object") ∈ AW := AW_m2 82 rfl rfl
theorem aw_376 : (Cond.methodLink "KilnKeeperLaw" (13 : Nat) ({ cls := "KilnKeeper", name := "aim", desc := "(I)I" } : MethodName)) ∈ AW := AW_m2 83 rfl rfl
theorem aw_377 : (Cond.instanceMethod ({ cls := "KilnKeeper", name := "aim", desc := "(I)I" } : MethodName)) ∈ AW := AW_m2 84 rfl rfl
theorem aw_378 : (Cond.selects "KilnKeeper" ({ cls := "KilnKeeper", name := "aim", desc := "(I)I" } : MethodName) ({ cls := "KilnKeeper", name := "aim", desc := "(I)I" } : MethodName)) ∈ AW := AW_m2 85 rfl rfl
theorem aw_379 : (Cond.code ({ cls := "KilnKeeper", name := "aim", desc := "(I)I" } : MethodName) prog_1_method_2_code (2 : Nat) (Option.some FieldType.int)) ∈ AW := AW_m2 86 rfl rfl
theorem aw_380 : (Cond.methodLink "KilnKeeper" (57 : Nat) ({ cls := "KilnKeeper", name := "beginChange", desc := "()V" } : MethodName)) ∈ AW := AW_m2 87 rfl rfl
theorem at_381 : (Cond.privateMethod ({ cls := "KilnKeeper", name := "beginChange", desc := "()V" } : MethodName)) ∈ lw_tbl := List.mem_append_right _ (List.mem_append_right _ (List.mem_append_left _ (List.mem_of_getElem? (l := tables_1_2) (i := 88) rfl)))
theorem aw_382 : (Cond.instanceMethod ({ cls := "KilnKeeper", name := "beginChange", desc := "()V" } : MethodName)) ∈ AW := AW_m2 89 rfl rfl
theorem aw_383 : (Cond.code ({ cls := "KilnKeeper", name := "beginChange", desc := "()V" } : MethodName) prog_1_method_36_code (1 : Nat) (Option.none : Option FieldType)) ∈ AW := AW_m2 90 rfl rfl
theorem aw_384 : (Cond.methodLink "KilnKeeper" (247 : Nat) ({ cls := "KilnKeeper$Kiln", name := "copyFrom", desc := "(LKilnKeeper$Kiln;)V" } : MethodName)) ∈ AW := AW_m2 91 rfl rfl
theorem aw_385 : (Cond.instanceMethod ({ cls := "KilnKeeper$Kiln", name := "copyFrom", desc := "(LKilnKeeper$Kiln;)V" } : MethodName)) ∈ AW := AW_m2 92 rfl rfl
theorem aw_386 : (Cond.selects "KilnKeeper$Kiln" ({ cls := "KilnKeeper$Kiln", name := "copyFrom", desc := "(LKilnKeeper$Kiln;)V" } : MethodName) ({ cls := "KilnKeeper$Kiln", name := "copyFrom", desc := "(LKilnKeeper$Kiln;)V" } : MethodName)) ∈ AW := AW_m2 93 rfl rfl
theorem aw_387 : (Cond.code ({ cls := "KilnKeeper$Kiln", name := "copyFrom", desc := "(LKilnKeeper$Kiln;)V" } : MethodName) prog_5_method_2_code (2 : Nat) (Option.none : Option FieldType)) ∈ AW := AW_m2 94 rfl rfl
theorem aw_388 : (Cond.methodLink "KilnKeeper$Kiln" (52 : Nat) ({ cls := "KilnKeeper$Regulator", name := "copyFrom", desc := "(LKilnKeeper$Regulator;)V" } : MethodName)) ∈ AW := AW_m2 95 rfl rfl
theorem aw_389 : (Cond.instanceMethod ({ cls := "KilnKeeper$Regulator", name := "copyFrom", desc := "(LKilnKeeper$Regulator;)V" } : MethodName)) ∈ AW := AW_m2 96 rfl rfl
theorem aw_390 : (Cond.selects "KilnKeeper$Regulator" ({ cls := "KilnKeeper$Regulator", name := "copyFrom", desc := "(LKilnKeeper$Regulator;)V" } : MethodName) ({ cls := "KilnKeeper$Regulator", name := "copyFrom", desc := "(LKilnKeeper$Regulator;)V" } : MethodName)) ∈ AW := AW_m2 97 rfl rfl
theorem aw_391 : (Cond.code ({ cls := "KilnKeeper$Regulator", name := "copyFrom", desc := "(LKilnKeeper$Regulator;)V" } : MethodName) prog_12_method_2_code (2 : Nat) (Option.none : Option FieldType)) ∈ AW := AW_m2 98 rfl rfl
theorem aw_392 : (Cond.methodLink "KilnKeeper$Kiln" (56 : Nat) ({ cls := "KilnKeeper$LagRow", name := "copyFrom", desc := "(LKilnKeeper$LagRow;)V" } : MethodName)) ∈ AW := AW_m2 99 rfl rfl
theorem aw_393 : (Cond.instanceMethod ({ cls := "KilnKeeper$LagRow", name := "copyFrom", desc := "(LKilnKeeper$LagRow;)V" } : MethodName)) ∈ AW := AW_m2 100 rfl rfl
theorem aw_394 : (Cond.selects "KilnKeeper$LagRow" ({ cls := "KilnKeeper$LagRow", name := "copyFrom", desc := "(LKilnKeeper$LagRow;)V" } : MethodName) ({ cls := "KilnKeeper$LagRow", name := "copyFrom", desc := "(LKilnKeeper$LagRow;)V" } : MethodName)) ∈ AW := AW_m2 101 rfl rfl
theorem aw_395 : (Cond.code ({ cls := "KilnKeeper$LagRow", name := "copyFrom", desc := "(LKilnKeeper$LagRow;)V" } : MethodName) prog_6_method_2_code (2 : Nat) (Option.none : Option FieldType)) ∈ AW := AW_m2 102 rfl rfl
theorem at_396 : (Cond.methodLinkNest "KilnKeeper$LagRow" (19 : Nat) ({ cls := "KilnKeeper", name := "copyRow", desc := "([I[I)V" } : MethodName) "KilnKeeper") ∈ lw_tbl := List.mem_append_right _ (List.mem_append_right _ (List.mem_append_left _ (List.mem_of_getElem? (l := tables_1_2) (i := 103) rfl)))
theorem aw_397 : (Cond.static ({ cls := "KilnKeeper", name := "copyRow", desc := "([I[I)V" } : MethodName)) ∈ AW := AW_m2 104 rfl rfl
theorem aw_398 : (Cond.code ({ cls := "KilnKeeper", name := "copyRow", desc := "([I[I)V" } : MethodName) prog_1_method_44_code (3 : Nat) (Option.none : Option FieldType)) ∈ AW := AW_m2 105 rfl rfl
theorem aw_399 : (Cond.methodLink "KilnKeeper$Kiln" (59 : Nat) ({ cls := "KilnKeeper$Book", name := "copyFrom", desc := "(LKilnKeeper$Book;)V" } : MethodName)) ∈ AW := AW_m2 106 rfl rfl
theorem aw_400 : (Cond.instanceMethod ({ cls := "KilnKeeper$Book", name := "copyFrom", desc := "(LKilnKeeper$Book;)V" } : MethodName)) ∈ AW := AW_m2 107 rfl rfl
theorem aw_401 : (Cond.selects "KilnKeeper$Book" ({ cls := "KilnKeeper$Book", name := "copyFrom", desc := "(LKilnKeeper$Book;)V" } : MethodName) ({ cls := "KilnKeeper$Book", name := "copyFrom", desc := "(LKilnKeeper$Book;)V" } : MethodName)) ∈ AW := AW_m2 108 rfl rfl
theorem aw_402 : (Cond.code ({ cls := "KilnKeeper$Book", name := "copyFrom", desc := "(LKilnKeeper$Book;)V" } : MethodName) prog_3_method_2_code (2 : Nat) (Option.none : Option FieldType)) ∈ AW := AW_m2 109 rfl rfl
theorem at_403 : (Cond.methodLinkNest "KilnKeeper$Book" (31 : Nat) ({ cls := "KilnKeeper", name := "copyRow", desc := "([I[I)V" } : MethodName) "KilnKeeper") ∈ lw_tbl := List.mem_append_right _ (List.mem_append_right _ (List.mem_append_left _ (List.mem_of_getElem? (l := tables_1_2) (i := 110) rfl)))
theorem aw_404 : (Cond.methodLink "KilnKeeper$Kiln" (62 : Nat) ({ cls := "KilnKeeper$Rack", name := "copyFrom", desc := "(LKilnKeeper$Rack;)V" } : MethodName)) ∈ AW := AW_m2 111 rfl rfl
theorem aw_405 : (Cond.instanceMethod ({ cls := "KilnKeeper$Rack", name := "copyFrom", desc := "(LKilnKeeper$Rack;)V" } : MethodName)) ∈ AW := AW_m2 112 rfl rfl
theorem aw_406 : (Cond.selects "KilnKeeper$Rack" ({ cls := "KilnKeeper$Rack", name := "copyFrom", desc := "(LKilnKeeper$Rack;)V" } : MethodName) ({ cls := "KilnKeeper$Rack", name := "copyFrom", desc := "(LKilnKeeper$Rack;)V" } : MethodName)) ∈ AW := AW_m2 113 rfl rfl
theorem aw_407 : (Cond.code ({ cls := "KilnKeeper$Rack", name := "copyFrom", desc := "(LKilnKeeper$Rack;)V" } : MethodName) prog_9_method_2_code (5 : Nat) (Option.none : Option FieldType)) ∈ AW := AW_m2 114 rfl rfl
theorem aw_408 : (Cond.methodLink "KilnKeeper$Rack" (22 : Nat) ({ cls := "KilnKeeper$Rack", name := "find", desc := "(I)LKilnKeeper$Pot;" } : MethodName)) ∈ AW := AW_m2 115 rfl rfl
theorem aw_409 : (Cond.instanceMethod ({ cls := "KilnKeeper$Rack", name := "find", desc := "(I)LKilnKeeper$Pot;" } : MethodName)) ∈ AW := AW_m2 116 rfl rfl
theorem aw_410 : (Cond.selects "KilnKeeper$Rack" ({ cls := "KilnKeeper$Rack", name := "find", desc := "(I)LKilnKeeper$Pot;" } : MethodName) ({ cls := "KilnKeeper$Rack", name := "find", desc := "(I)LKilnKeeper$Pot;" } : MethodName)) ∈ AW := AW_m2 117 rfl rfl
theorem aw_411 : (Cond.code ({ cls := "KilnKeeper$Rack", name := "find", desc := "(I)LKilnKeeper$Pot;" } : MethodName) prog_9_method_3_code (2 : Nat) (Option.some (FieldType.object "KilnKeeper$Pot"))) ∈ AW := AW_m2 118 rfl rfl
theorem aw_412 : (Cond.methodLink "KilnKeeper$Rack" (26 : Nat) ({ cls := "KilnKeeper$Pot", name := "copyFrom", desc := "(LKilnKeeper$Pot;)V" } : MethodName)) ∈ AW := AW_m2 119 rfl rfl
theorem aw_413 : (Cond.instanceMethod ({ cls := "KilnKeeper$Pot", name := "copyFrom", desc := "(LKilnKeeper$Pot;)V" } : MethodName)) ∈ AW := AW_m2 120 rfl rfl
theorem aw_414 : (Cond.selects "KilnKeeper$Pot" ({ cls := "KilnKeeper$Pot", name := "copyFrom", desc := "(LKilnKeeper$Pot;)V" } : MethodName) ({ cls := "KilnKeeper$Pot", name := "copyFrom", desc := "(LKilnKeeper$Pot;)V" } : MethodName)) ∈ AW := AW_m2 121 rfl rfl
theorem aw_415 : (Cond.code ({ cls := "KilnKeeper$Pot", name := "copyFrom", desc := "(LKilnKeeper$Pot;)V" } : MethodName) prog_8_method_2_code (2 : Nat) (Option.none : Option FieldType)) ∈ AW := AW_m2 122 rfl rfl
theorem aw_416 : (Cond.methodLink "KilnKeeper" (60 : Nat) ({ cls := "KilnKeeper$Kiln", name := "aimAt", desc := "(ILKilnKeeper$Refusal;)I" } : MethodName)) ∈ AW := AW_m2 123 rfl rfl
theorem aw_417 : (Cond.instanceMethod ({ cls := "KilnKeeper$Kiln", name := "aimAt", desc := "(ILKilnKeeper$Refusal;)I" } : MethodName)) ∈ AW := AW_m2 124 rfl rfl
theorem aw_418 : (Cond.selects "KilnKeeper$Kiln" ({ cls := "KilnKeeper$Kiln", name := "aimAt", desc := "(ILKilnKeeper$Refusal;)I" } : MethodName) ({ cls := "KilnKeeper$Kiln", name := "aimAt", desc := "(ILKilnKeeper$Refusal;)I" } : MethodName)) ∈ AW := AW_m2 125 rfl rfl
theorem aw_419 : (Cond.code ({ cls := "KilnKeeper$Kiln", name := "aimAt", desc := "(ILKilnKeeper$Refusal;)I" } : MethodName) prog_5_method_4_code (4 : Nat) (Option.some FieldType.int)) ∈ AW := AW_m2 126 rfl rfl
theorem at_420 : (Cond.methodLinkNest "KilnKeeper$Kiln" (65 : Nat) ({ cls := "KilnKeeper", name := "isFrom", desc := "(III)Z" } : MethodName) "KilnKeeper") ∈ lw_tbl := List.mem_append_right _ (List.mem_append_right _ (List.mem_append_left _ (List.mem_of_getElem? (l := tables_1_2) (i := 127) rfl)))
theorem aw_421 : (Cond.static ({ cls := "KilnKeeper", name := "isFrom", desc := "(III)Z" } : MethodName)) ∈ AW := AW_m2 128 rfl rfl
theorem aw_422 : (Cond.code ({ cls := "KilnKeeper", name := "isFrom", desc := "(III)Z" } : MethodName) prog_1_method_40_code (3 : Nat) (Option.some FieldType.boolean)) ∈ AW := AW_m2 129 rfl rfl
theorem aw_423 : (Cond.methodLink "KilnKeeper$Kiln" (69 : Nat) ({ cls := "KilnKeeper$Refusal", name := "because", desc := "(II)I" } : MethodName)) ∈ AW := AW_m2 130 rfl rfl
theorem aw_424 : (Cond.instanceMethod ({ cls := "KilnKeeper$Refusal", name := "because", desc := "(II)I" } : MethodName)) ∈ AW := AW_m2 131 rfl rfl
theorem aw_425 : (Cond.selects "KilnKeeper$Refusal" ({ cls := "KilnKeeper$Refusal", name := "because", desc := "(II)I" } : MethodName) ({ cls := "KilnKeeper$Refusal", name := "because", desc := "(II)I" } : MethodName)) ∈ AW := AW_m2 132 rfl rfl
theorem aw_426 : (Cond.code ({ cls := "KilnKeeper$Refusal", name := "because", desc := "(II)I" } : MethodName) prog_11_method_2_code (3 : Nat) (Option.some FieldType.int)) ∈ AW := AW_m2 133 rfl rfl
theorem aw_427 : (Cond.methodLink "KilnKeeper" (64 : Nat) ({ cls := "KilnKeeper", name := "endChange", desc := "(I)I" } : MethodName)) ∈ AW := AW_m2 134 rfl rfl
theorem at_428 : (Cond.privateMethod ({ cls := "KilnKeeper", name := "endChange", desc := "(I)I" } : MethodName)) ∈ lw_tbl := List.mem_append_right _ (List.mem_append_right _ (List.mem_append_left _ (List.mem_of_getElem? (l := tables_1_2) (i := 135) rfl)))
theorem aw_429 : (Cond.instanceMethod ({ cls := "KilnKeeper", name := "endChange", desc := "(I)I" } : MethodName)) ∈ AW := AW_m2 136 rfl rfl
theorem aw_430 : (Cond.code ({ cls := "KilnKeeper", name := "endChange", desc := "(I)I" } : MethodName) prog_1_method_37_code (2 : Nat) (Option.some FieldType.int)) ∈ AW := AW_m2 137 rfl rfl
theorem aw_431 : (Cond.methodLink "KilnKeeper" (251 : Nat) ({ cls := "KilnKeeper$Changes", name := "keep", desc := "(LKilnKeeper$Kiln;)V" } : MethodName)) ∈ AW := AW_m2 138 rfl rfl
theorem aw_432 : (Cond.instanceMethod ({ cls := "KilnKeeper$Changes", name := "keep", desc := "(LKilnKeeper$Kiln;)V" } : MethodName)) ∈ AW := AW_m2 139 rfl rfl
theorem aw_433 : (Cond.selects "KilnKeeper$Changes" ({ cls := "KilnKeeper$Changes", name := "keep", desc := "(LKilnKeeper$Kiln;)V" } : MethodName) ({ cls := "KilnKeeper$Changes", name := "keep", desc := "(LKilnKeeper$Kiln;)V" } : MethodName)) ∈ AW := AW_m2 140 rfl rfl
theorem aw_434 : (Cond.code ({ cls := "KilnKeeper$Changes", name := "keep", desc := "(LKilnKeeper$Kiln;)V" } : MethodName) prog_4_method_2_code (3 : Nat) (Option.none : Option FieldType)) ∈ AW := AW_m2 141 rfl rfl
theorem aw_435 : (Cond.methodLink "KilnKeeper$Changes" (25 : Nat) ({ cls := "KilnKeeper$Changes", name := "kilnAt", desc := "(I)LKilnKeeper$Kiln;" } : MethodName)) ∈ AW := AW_m2 142 rfl rfl
theorem at_436 : (Cond.privateMethod ({ cls := "KilnKeeper$Changes", name := "kilnAt", desc := "(I)LKilnKeeper$Kiln;" } : MethodName)) ∈ lw_tbl := List.mem_append_right _ (List.mem_append_right _ (List.mem_append_left _ (List.mem_of_getElem? (l := tables_1_2) (i := 143) rfl)))
theorem aw_437 : (Cond.instanceMethod ({ cls := "KilnKeeper$Changes", name := "kilnAt", desc := "(I)LKilnKeeper$Kiln;" } : MethodName)) ∈ AW := AW_m2 144 rfl rfl
theorem aw_438 : (Cond.code ({ cls := "KilnKeeper$Changes", name := "kilnAt", desc := "(I)LKilnKeeper$Kiln;" } : MethodName) prog_4_method_4_code (3 : Nat) (Option.some (FieldType.object "KilnKeeper$Kiln"))) ∈ AW := AW_m2 145 rfl rfl
theorem aw_439 : (Cond.methodLink "KilnKeeper$Changes" (29 : Nat) ({ cls := "KilnKeeper$Kiln", name := "copyFrom", desc := "(LKilnKeeper$Kiln;)V" } : MethodName)) ∈ AW := AW_m2 146 rfl rfl
theorem aw_440 : (Cond.methodLink "KilnKeeperLaw" (18 : Nat) ({ cls := "KilnKeeper", name := "gains", desc := "(III)I" } : MethodName)) ∈ AW := AW_m2 147 rfl rfl
theorem aw_441 : (Cond.instanceMethod ({ cls := "KilnKeeper", name := "gains", desc := "(III)I" } : MethodName)) ∈ AW := AW_m2 148 rfl rfl
theorem aw_442 : (Cond.selects "KilnKeeper" ({ cls := "KilnKeeper", name := "gains", desc := "(III)I" } : MethodName) ({ cls := "KilnKeeper", name := "gains", desc := "(III)I" } : MethodName)) ∈ AW := AW_m2 149 rfl rfl
theorem aw_443 : (Cond.code ({ cls := "KilnKeeper", name := "gains", desc := "(III)I" } : MethodName) prog_1_method_3_code (4 : Nat) (Option.some FieldType.int)) ∈ AW := AW_m2 150 rfl rfl
theorem aw_444 : (Cond.methodLink "KilnKeeper" (72 : Nat) ({ cls := "KilnKeeper$Regulator", name := "tellGains", desc := "(III)I" } : MethodName)) ∈ AW := AW_m2 151 rfl rfl
theorem aw_445 : (Cond.instanceMethod ({ cls := "KilnKeeper$Regulator", name := "tellGains", desc := "(III)I" } : MethodName)) ∈ AW := AW_m2 152 rfl rfl
theorem aw_446 : (Cond.selects "KilnKeeper$Regulator" ({ cls := "KilnKeeper$Regulator", name := "tellGains", desc := "(III)I" } : MethodName) ({ cls := "KilnKeeper$Regulator", name := "tellGains", desc := "(III)I" } : MethodName)) ∈ AW := AW_m2 153 rfl rfl
theorem aw_447 : (Cond.code ({ cls := "KilnKeeper$Regulator", name := "tellGains", desc := "(III)I" } : MethodName) prog_12_method_3_code (5 : Nat) (Option.some FieldType.int)) ∈ AW := AW_m2 154 rfl rfl
theorem at_448 : (Cond.methodLinkNest "KilnKeeper$Regulator" (30 : Nat) ({ cls := "KilnKeeper", name := "isFrom", desc := "(III)Z" } : MethodName) "KilnKeeper") ∈ lw_tbl := List.mem_append_right _ (List.mem_append_right _ (List.mem_append_left _ (List.mem_of_getElem? (l := tables_1_2) (i := 155) rfl)))
theorem aw_449 : (Cond.methodLink "KilnKeeperLaw" (23 : Nat) ({ cls := "KilnKeeper", name := "cap", desc := "(I)I" } : MethodName)) ∈ AW := AW_m2 156 rfl rfl
theorem aw_450 : (Cond.instanceMethod ({ cls := "KilnKeeper", name := "cap", desc := "(I)I" } : MethodName)) ∈ AW := AW_m2 157 rfl rfl
theorem aw_451 : (Cond.selects "KilnKeeper" ({ cls := "KilnKeeper", name := "cap", desc := "(I)I" } : MethodName) ({ cls := "KilnKeeper", name := "cap", desc := "(I)I" } : MethodName)) ∈ AW := AW_m2 158 rfl rfl
theorem aw_452 : (Cond.code ({ cls := "KilnKeeper", name := "cap", desc := "(I)I" } : MethodName) prog_1_method_4_code (2 : Nat) (Option.some FieldType.int)) ∈ AW := AW_m2 159 rfl rfl
theorem aw_453 : (Cond.methodLink "KilnKeeper" (78 : Nat) ({ cls := "KilnKeeper$Regulator", name := "tellCap", desc := "(ILKilnKeeper$Refusal;)I" } : MethodName)) ∈ AW := AW_m2 160 rfl rfl
theorem aw_454 : (Cond.instanceMethod ({ cls := "KilnKeeper$Regulator", name := "tellCap", desc := "(ILKilnKeeper$Refusal;)I" } : MethodName)) ∈ AW := AW_m2 161 rfl rfl
theorem aw_455 : (Cond.selects "KilnKeeper$Regulator" ({ cls := "KilnKeeper$Regulator", name := "tellCap", desc := "(ILKilnKeeper$Refusal;)I" } : MethodName) ({ cls := "KilnKeeper$Regulator", name := "tellCap", desc := "(ILKilnKeeper$Refusal;)I" } : MethodName)) ∈ AW := AW_m2 162 rfl rfl
theorem aw_456 : (Cond.code ({ cls := "KilnKeeper$Regulator", name := "tellCap", desc := "(ILKilnKeeper$Refusal;)I" } : MethodName) prog_12_method_4_code (4 : Nat) (Option.some FieldType.int)) ∈ AW := AW_m2 163 rfl rfl
theorem aw_457 : (Cond.methodLink "KilnKeeper$Regulator" (34 : Nat) ({ cls := "KilnKeeper$Refusal", name := "because", desc := "(II)I" } : MethodName)) ∈ AW := AW_m2 164 rfl rfl
theorem at_458 : (Cond.methodLinkNest "KilnKeeper$Regulator" (40 : Nat) ({ cls := "KilnKeeper", name := "between", desc := "(III)I" } : MethodName) "KilnKeeper") ∈ lw_tbl := List.mem_append_right _ (List.mem_append_right _ (List.mem_append_left _ (List.mem_of_getElem? (l := tables_1_2) (i := 165) rfl)))
theorem aw_459 : (Cond.static ({ cls := "KilnKeeper", name := "between", desc := "(III)I" } : MethodName)) ∈ AW := AW_m2 166 rfl rfl
theorem aw_460 : (Cond.code ({ cls := "KilnKeeper", name := "between", desc := "(III)I" } : MethodName) prog_1_method_41_code (3 : Nat) (Option.some FieldType.int)) ∈ AW := AW_m2 167 rfl rfl
theorem aw_461 : (Cond.methodLink "KilnKeeperLaw" (27 : Nat) ({ cls := "KilnKeeper", name := "lag", desc := "(I)I" } : MethodName)) ∈ AW := AW_m2 168 rfl rfl
theorem aw_462 : (Cond.instanceMethod ({ cls := "KilnKeeper", name := "lag", desc := "(I)I" } : MethodName)) ∈ AW := AW_m2 169 rfl rfl
theorem aw_463 : (Cond.selects "KilnKeeper" ({ cls := "KilnKeeper", name := "lag", desc := "(I)I" } : MethodName) ({ cls := "KilnKeeper", name := "lag", desc := "(I)I" } : MethodName)) ∈ AW := AW_m2 170 rfl rfl
theorem aw_464 : (Cond.code ({ cls := "KilnKeeper", name := "lag", desc := "(I)I" } : MethodName) prog_1_method_5_code (2 : Nat) (Option.some FieldType.int)) ∈ AW := AW_m2 171 rfl rfl
theorem aw_465 : (Cond.methodLink "KilnKeeper" (81 : Nat) ({ cls := "KilnKeeper$Kiln", name := "tellLag", desc := "(ILKilnKeeper$Refusal;)I" } : MethodName)) ∈ AW := AW_m2 172 rfl rfl
theorem aw_466 : (Cond.instanceMethod ({ cls := "KilnKeeper$Kiln", name := "tellLag", desc := "(ILKilnKeeper$Refusal;)I" } : MethodName)) ∈ AW := AW_m2 173 rfl rfl
theorem aw_467 : (Cond.selects "KilnKeeper$Kiln" ({ cls := "KilnKeeper$Kiln", name := "tellLag", desc := "(ILKilnKeeper$Refusal;)I" } : MethodName) ({ cls := "KilnKeeper$Kiln", name := "tellLag", desc := "(ILKilnKeeper$Refusal;)I" } : MethodName)) ∈ AW := AW_m2 174 rfl rfl
theorem aw_468 : (Cond.code ({ cls := "KilnKeeper$Kiln", name := "tellLag", desc := "(ILKilnKeeper$Refusal;)I" } : MethodName) prog_5_method_5_code (4 : Nat) (Option.some FieldType.int)) ∈ AW := AW_m2 175 rfl rfl
theorem aw_469 : (Cond.methodLink "KilnKeeper$Kiln" (78 : Nat) ({ cls := "KilnKeeper$LagRow", name := "resize", desc := "(II)V" } : MethodName)) ∈ AW := AW_m2 176 rfl rfl
theorem aw_470 : (Cond.instanceMethod ({ cls := "KilnKeeper$LagRow", name := "resize", desc := "(II)V" } : MethodName)) ∈ AW := AW_m2 177 rfl rfl
theorem aw_471 : (Cond.selects "KilnKeeper$LagRow" ({ cls := "KilnKeeper$LagRow", name := "resize", desc := "(II)V" } : MethodName) ({ cls := "KilnKeeper$LagRow", name := "resize", desc := "(II)V" } : MethodName)) ∈ AW := AW_m2 178 rfl rfl
theorem aw_472 : (Cond.code ({ cls := "KilnKeeper$LagRow", name := "resize", desc := "(II)V" } : MethodName) prog_6_method_4_code (5 : Nat) (Option.none : Option FieldType)) ∈ AW := AW_m2 179 rfl rfl
theorem aw_473 : (Cond.methodLink "KilnKeeper$LagRow" (27 : Nat) ({ cls := "KilnKeeper$LagRow", name := "shiftBy", desc := "(I)V" } : MethodName)) ∈ AW := AW_m2 180 rfl rfl
theorem at_474 : (Cond.privateMethod ({ cls := "KilnKeeper$LagRow", name := "shiftBy", desc := "(I)V" } : MethodName)) ∈ lw_tbl := List.mem_append_right _ (List.mem_append_right _ (List.mem_append_left _ (List.mem_of_getElem? (l := tables_1_2) (i := 181) rfl)))
theorem aw_475 : (Cond.instanceMethod ({ cls := "KilnKeeper$LagRow", name := "shiftBy", desc := "(I)V" } : MethodName)) ∈ AW := AW_m2 182 rfl rfl
theorem aw_476 : (Cond.code ({ cls := "KilnKeeper$LagRow", name := "shiftBy", desc := "(I)V" } : MethodName) prog_6_method_6_code (3 : Nat) (Option.none : Option FieldType)) ∈ AW := AW_m2 183 rfl rfl
theorem at_477 : (Cond.methodLinkNest "KilnKeeper$LagRow" (23 : Nat) ({ cls := "KilnKeeper", name := "numberAt", desc := "([II)I" } : MethodName) "KilnKeeper") ∈ lw_tbl := List.mem_append_right _ (List.mem_append_right _ (List.mem_append_left _ (List.mem_of_getElem? (l := tables_1_2) (i := 184) rfl)))
theorem aw_478 : (Cond.static ({ cls := "KilnKeeper", name := "numberAt", desc := "([II)I" } : MethodName)) ∈ AW := AW_m2 185 rfl rfl
theorem aw_479 : (Cond.code ({ cls := "KilnKeeper", name := "numberAt", desc := "([II)I" } : MethodName) prog_1_method_42_code (2 : Nat) (Option.some FieldType.int)) ∈ AW := AW_m2 186 rfl rfl
theorem at_480 : (Cond.methodLinkNest "KilnKeeper$LagRow" (31 : Nat) ({ cls := "KilnKeeper", name := "setNumberAt", desc := "([III)V" } : MethodName) "KilnKeeper") ∈ lw_tbl := List.mem_append_right _ (List.mem_append_right _ (List.mem_append_left _ (List.mem_of_getElem? (l := tables_1_2) (i := 187) rfl)))
theorem aw_481 : (Cond.static ({ cls := "KilnKeeper", name := "setNumberAt", desc := "([III)V" } : MethodName)) ∈ AW := AW_m2 188 rfl rfl
theorem aw_482 : (Cond.code ({ cls := "KilnKeeper", name := "setNumberAt", desc := "([III)V" } : MethodName) prog_1_method_43_code (3 : Nat) (Option.none : Option FieldType)) ∈ AW := AW_m2 189 rfl rfl
theorem aw_483 : (Cond.methodLink "KilnKeeperLaw" (31 : Nat) ({ cls := "KilnKeeper", name := "fuel", desc := "(I)I" } : MethodName)) ∈ AW := AW_m2 190 rfl rfl
theorem aw_484 : (Cond.instanceMethod ({ cls := "KilnKeeper", name := "fuel", desc := "(I)I" } : MethodName)) ∈ AW := AW_m2 191 rfl rfl
theorem aw_485 : (Cond.selects "KilnKeeper" ({ cls := "KilnKeeper", name := "fuel", desc := "(I)I" } : MethodName) ({ cls := "KilnKeeper", name := "fuel", desc := "(I)I" } : MethodName)) ∈ AW := AW_m2 192 rfl rfl
theorem aw_486 : (Cond.code ({ cls := "KilnKeeper", name := "fuel", desc := "(I)I" } : MethodName) prog_1_method_6_code (2 : Nat) (Option.some FieldType.int)) ∈ AW := AW_m2 193 rfl rfl
theorem aw_487 : (Cond.methodLink "KilnKeeper" (88 : Nat) ({ cls := "KilnKeeper$Book", name := "addFuel", desc := "(I)I" } : MethodName)) ∈ AW := AW_m2 194 rfl rfl
theorem aw_488 : (Cond.instanceMethod ({ cls := "KilnKeeper$Book", name := "addFuel", desc := "(I)I" } : MethodName)) ∈ AW := AW_m2 195 rfl rfl
theorem aw_489 : (Cond.selects "KilnKeeper$Book" ({ cls := "KilnKeeper$Book", name := "addFuel", desc := "(I)I" } : MethodName) ({ cls := "KilnKeeper$Book", name := "addFuel", desc := "(I)I" } : MethodName)) ∈ AW := AW_m2 196 rfl rfl
theorem aw_490 : (Cond.code ({ cls := "KilnKeeper$Book", name := "addFuel", desc := "(I)I" } : MethodName) prog_3_method_3_code (2 : Nat) (Option.some FieldType.int)) ∈ AW := AW_m2 197 rfl rfl
theorem at_491 : (Cond.methodLinkNest "KilnKeeper$Book" (35 : Nat) ({ cls := "KilnKeeper", name := "isFrom", desc := "(III)Z" } : MethodName) "KilnKeeper") ∈ lw_tbl := List.mem_append_right _ (List.mem_append_right _ (List.mem_append_left _ (List.mem_of_getElem? (l := tables_1_2) (i := 198) rfl)))
theorem aw_492 : (Cond.methodLink "KilnKeeperLaw" (35 : Nat) ({ cls := "KilnKeeper", name := "go", desc := "(I)I" } : MethodName)) ∈ AW := AW_m2 199 rfl rfl
theorem aw_493 : (Cond.instanceMethod ({ cls := "KilnKeeper", name := "go", desc := "(I)I" } : MethodName)) ∈ AW := AW_m2 200 rfl rfl
theorem aw_494 : (Cond.selects "KilnKeeper" ({ cls := "KilnKeeper", name := "go", desc := "(I)I" } : MethodName) ({ cls := "KilnKeeper", name := "go", desc := "(I)I" } : MethodName)) ∈ AW := AW_m2 201 rfl rfl
theorem aw_495 : (Cond.code ({ cls := "KilnKeeper", name := "go", desc := "(I)I" } : MethodName) prog_1_method_7_code (2 : Nat) (Option.some FieldType.int)) ∈ AW := AW_m2 202 rfl rfl
theorem aw_496 : (Cond.methodLink "KilnKeeper" (93 : Nat) ({ cls := "KilnKeeper$Kiln", name := "letGo", desc := "(I)I" } : MethodName)) ∈ AW := AW_m2 203 rfl rfl
theorem aw_497 : (Cond.instanceMethod ({ cls := "KilnKeeper$Kiln", name := "letGo", desc := "(I)I" } : MethodName)) ∈ AW := AW_m2 204 rfl rfl
theorem aw_498 : (Cond.selects "KilnKeeper$Kiln" ({ cls := "KilnKeeper$Kiln", name := "letGo", desc := "(I)I" } : MethodName) ({ cls := "KilnKeeper$Kiln", name := "letGo", desc := "(I)I" } : MethodName)) ∈ AW := AW_m2 205 rfl rfl
theorem aw_499 : (Cond.code ({ cls := "KilnKeeper$Kiln", name := "letGo", desc := "(I)I" } : MethodName) prog_5_method_6_code (3 : Nat) (Option.some FieldType.int)) ∈ AW := AW_m2 206 rfl rfl
theorem aw_500 : (Cond.methodLink "KilnKeeper$Kiln" (82 : Nat) ({ cls := "KilnKeeper$Kiln", name := "passMinute", desc := "()V" } : MethodName)) ∈ AW := AW_m2 207 rfl rfl
theorem aw_501 : (Cond.instanceMethod ({ cls := "KilnKeeper$Kiln", name := "passMinute", desc := "()V" } : MethodName)) ∈ AW := AW_m2 208 rfl rfl
theorem aw_502 : (Cond.selects "KilnKeeper$Kiln" ({ cls := "KilnKeeper$Kiln", name := "passMinute", desc := "()V" } : MethodName) ({ cls := "KilnKeeper$Kiln", name := "passMinute", desc := "()V" } : MethodName)) ∈ AW := AW_m2 209 rfl rfl
theorem aw_503 : (Cond.code ({ cls := "KilnKeeper$Kiln", name := "passMinute", desc := "()V" } : MethodName) prog_5_method_7_code (5 : Nat) (Option.none : Option FieldType)) ∈ AW := AW_m2 210 rfl rfl
theorem aw_504 : (Cond.methodLink "KilnKeeper$Kiln" (85 : Nat) ({ cls := "KilnKeeper$Kiln", name := "error", desc := "()I" } : MethodName)) ∈ AW := AW_m2 211 rfl rfl
theorem aw_505 : (Cond.instanceMethod ({ cls := "KilnKeeper$Kiln", name := "error", desc := "()I" } : MethodName)) ∈ AW := AW_m2 212 rfl rfl
theorem aw_506 : (Cond.selects "KilnKeeper$Kiln" ({ cls := "KilnKeeper$Kiln", name := "error", desc := "()I" } : MethodName) ({ cls := "KilnKeeper$Kiln", name := "error", desc := "()I" } : MethodName)) ∈ AW := AW_m2 213 rfl rfl
theorem aw_507 : (Cond.code ({ cls := "KilnKeeper$Kiln", name := "error", desc := "()I" } : MethodName) prog_5_method_3_code (1 : Nat) (Option.some FieldType.int)) ∈ AW := AW_m2 214 rfl rfl
theorem aw_508 : (Cond.methodLink "KilnKeeper$Kiln" (89 : Nat) ({ cls := "KilnKeeper$Regulator", name := "wantedDamper", desc := "(I)I" } : MethodName)) ∈ AW := AW_m2 215 rfl rfl
theorem aw_509 : (Cond.instanceMethod ({ cls := "KilnKeeper$Regulator", name := "wantedDamper", desc := "(I)I" } : MethodName)) ∈ AW := AW_m2 216 rfl rfl
theorem aw_510 : (Cond.selects "KilnKeeper$Regulator" ({ cls := "KilnKeeper$Regulator", name := "wantedDamper", desc := "(I)I" } : MethodName) ({ cls := "KilnKeeper$Regulator", name := "wantedDamper", desc := "(I)I" } : MethodName)) ∈ AW := AW_m2 217 rfl rfl
theorem aw_511 : (Cond.code ({ cls := "KilnKeeper$Regulator", name := "wantedDamper", desc := "(I)I" } : MethodName) prog_12_method_5_code (3 : Nat) (Option.some FieldType.int)) ∈ AW := AW_m2 218 rfl rfl
theorem aw_512 : (Cond.methodLink "KilnKeeper$Regulator" (44 : Nat) ({ cls := "KilnKeeper$Regulator", name := "sumWith", desc := "(I)I" } : MethodName)) ∈ AW := AW_m2 219 rfl rfl
theorem at_513 : (Cond.privateMethod ({ cls := "KilnKeeper$Regulator", name := "sumWith", desc := "(I)I" } : MethodName)) ∈ lw_tbl := List.mem_append_right _ (List.mem_append_right _ (List.mem_append_left _ (List.mem_of_getElem? (l := tables_1_2) (i := 220) rfl)))
theorem aw_514 : (Cond.instanceMethod ({ cls := "KilnKeeper$Regulator", name := "sumWith", desc := "(I)I" } : MethodName)) ∈ AW := AW_m2 221 rfl rfl
theorem aw_515 : (Cond.code ({ cls := "KilnKeeper$Regulator", name := "sumWith", desc := "(I)I" } : MethodName) prog_12_method_7_code (2 : Nat) (Option.some FieldType.int)) ∈ AW := AW_m2 222 rfl rfl
theorem aw_516 : (Cond.methodLink "KilnKeeper$Regulator" (48 : Nat) ({ cls := "java/lang/Math", name := "floorDiv", desc := "(II)I" } : MethodName)) ∈ AW := AW_m2 223 rfl rfl
theorem aw_517 : (Cond.static ({ cls := "java/lang/Math", name := "floorDiv", desc := "(II)I" } : MethodName)) ∈ AW := AW_m2 224 rfl rfl
theorem aw_518 : (Cond.code ({ cls := "java/lang/Math", name := "floorDiv", desc := "(II)I" } : MethodName) prog_20_method_47_code (3 : Nat) (Option.some FieldType.int)) ∈ AW := AW_m2 225 rfl rfl
theorem aw_519 : (Cond.methodLink "KilnKeeper$Kiln" (93 : Nat) ({ cls := "KilnKeeper$LagRow", name := "passThrough", desc := "(I)I" } : MethodName)) ∈ AW := AW_m2 226 rfl rfl
theorem aw_520 : (Cond.instanceMethod ({ cls := "KilnKeeper$LagRow", name := "passThrough", desc := "(I)I" } : MethodName)) ∈ AW := AW_m2 227 rfl rfl
theorem aw_521 : (Cond.selects "KilnKeeper$LagRow" ({ cls := "KilnKeeper$LagRow", name := "passThrough", desc := "(I)I" } : MethodName) ({ cls := "KilnKeeper$LagRow", name := "passThrough", desc := "(I)I" } : MethodName)) ∈ AW := AW_m2 228 rfl rfl
theorem aw_522 : (Cond.code ({ cls := "KilnKeeper$LagRow", name := "passThrough", desc := "(I)I" } : MethodName) prog_6_method_3_code (3 : Nat) (Option.some FieldType.int)) ∈ AW := AW_m2 229 rfl rfl
theorem aw_523 : (Cond.methodLink "KilnKeeper$Kiln" (96 : Nat) ({ cls := "KilnKeeper$Regulator", name := "noteError", desc := "(I)V" } : MethodName)) ∈ AW := AW_m2 230 rfl rfl
theorem aw_524 : (Cond.instanceMethod ({ cls := "KilnKeeper$Regulator", name := "noteError", desc := "(I)V" } : MethodName)) ∈ AW := AW_m2 231 rfl rfl
theorem aw_525 : (Cond.selects "KilnKeeper$Regulator" ({ cls := "KilnKeeper$Regulator", name := "noteError", desc := "(I)V" } : MethodName) ({ cls := "KilnKeeper$Regulator", name := "noteError", desc := "(I)V" } : MethodName)) ∈ AW := AW_m2 232 rfl rfl
theorem aw_526 : (Cond.code ({ cls := "KilnKeeper$Regulator", name := "noteError", desc := "(I)V" } : MethodName) prog_12_method_6_code (2 : Nat) (Option.none : Option FieldType)) ∈ AW := AW_m2 233 rfl rfl
theorem at_527 : (Cond.methodLinkNest "KilnKeeper$Kiln" (100 : Nat) ({ cls := "KilnKeeper", name := "between", desc := "(III)I" } : MethodName) "KilnKeeper") ∈ lw_tbl := List.mem_append_right _ (List.mem_append_right _ (List.mem_append_left _ (List.mem_of_getElem? (l := tables_1_2) (i := 234) rfl)))
theorem aw_528 : (Cond.methodLink "KilnKeeper$Kiln" (104 : Nat) ({ cls := "KilnKeeper$Book", name := "burn", desc := "(I)I" } : MethodName)) ∈ AW := AW_m2 235 rfl rfl
theorem aw_529 : (Cond.instanceMethod ({ cls := "KilnKeeper$Book", name := "burn", desc := "(I)I" } : MethodName)) ∈ AW := AW_m2 236 rfl rfl
theorem aw_530 : (Cond.selects "KilnKeeper$Book" ({ cls := "KilnKeeper$Book", name := "burn", desc := "(I)I" } : MethodName) ({ cls := "KilnKeeper$Book", name := "burn", desc := "(I)I" } : MethodName)) ∈ AW := AW_m2 237 rfl rfl
theorem aw_531 : (Cond.code ({ cls := "KilnKeeper$Book", name := "burn", desc := "(I)I" } : MethodName) prog_3_method_4_code (3 : Nat) (Option.some FieldType.int)) ∈ AW := AW_m2 238 rfl rfl
theorem aw_532 : (Cond.methodLink "KilnKeeper$Book" (39 : Nat) ({ cls := "java/lang/Math", name := "min", desc := "(II)I" } : MethodName)) ∈ AW := AW_m2 239 rfl rfl
theorem aw_533 : (Cond.static ({ cls := "java/lang/Math", name := "min", desc := "(II)I" } : MethodName)) ∈ AW := AW_m3 0 rfl rfl
theorem aw_534 : (Cond.code ({ cls := "java/lang/Math", name := "min", desc := "(II)I" } : MethodName) prog_20_method_69_code (2 : Nat) (Option.some FieldType.int)) ∈ AW := AW_m3 1 rfl rfl
theorem at_535 : (Cond.methodLinkNest "KilnKeeper$Book" (45 : Nat) ({ cls := "KilnKeeper", name := "numberAt", desc := "([II)I" } : MethodName) "KilnKeeper") ∈ lw_tbl := List.mem_append_right _ (List.mem_append_right _ (List.mem_append_right _ (List.mem_append_left _ (List.mem_of_getElem? (l := tables_1_3) (i := 2) rfl))))
theorem at_536 : (Cond.methodLinkNest "KilnKeeper$Book" (49 : Nat) ({ cls := "KilnKeeper", name := "setNumberAt", desc := "([III)V" } : MethodName) "KilnKeeper") ∈ lw_tbl := List.mem_append_right _ (List.mem_append_right _ (List.mem_append_right _ (List.mem_append_left _ (List.mem_of_getElem? (l := tables_1_3) (i := 3) rfl))))
theorem aw_537 : (Cond.methodLink "KilnKeeper$Kiln" (107 : Nat) ({ cls := "java/lang/Math", name := "max", desc := "(II)I" } : MethodName)) ∈ AW := AW_m3 4 rfl rfl
theorem aw_538 : (Cond.static ({ cls := "java/lang/Math", name := "max", desc := "(II)I" } : MethodName)) ∈ AW := AW_m3 5 rfl rfl
theorem aw_539 : (Cond.code ({ cls := "java/lang/Math", name := "max", desc := "(II)I" } : MethodName) prog_20_method_65_code (2 : Nat) (Option.some FieldType.int)) ∈ AW := AW_m3 6 rfl rfl
theorem aw_540 : (Cond.methodLink "KilnKeeper$Kiln" (112 : Nat) ({ cls := "KilnKeeper$Book", name := "logMinute", desc := "(IIII)V" } : MethodName)) ∈ AW := AW_m3 7 rfl rfl
theorem aw_541 : (Cond.instanceMethod ({ cls := "KilnKeeper$Book", name := "logMinute", desc := "(IIII)V" } : MethodName)) ∈ AW := AW_m3 8 rfl rfl
theorem aw_542 : (Cond.selects "KilnKeeper$Book" ({ cls := "KilnKeeper$Book", name := "logMinute", desc := "(IIII)V" } : MethodName) ({ cls := "KilnKeeper$Book", name := "logMinute", desc := "(IIII)V" } : MethodName)) ∈ AW := AW_m3 9 rfl rfl
theorem aw_543 : (Cond.code ({ cls := "KilnKeeper$Book", name := "logMinute", desc := "(IIII)V" } : MethodName) prog_3_method_5_code (6 : Nat) (Option.none : Option FieldType)) ∈ AW := AW_m3 10 rfl rfl
theorem aw_544 : (Cond.methodLink "KilnKeeper$Book" (53 : Nat) ({ cls := "KilnKeeper$Book", name := "logStart", desc := "(I)I" } : MethodName)) ∈ AW := AW_m3 11 rfl rfl
theorem aw_545 : (Cond.static ({ cls := "KilnKeeper$Book", name := "logStart", desc := "(I)I" } : MethodName)) ∈ AW := AW_m3 12 rfl rfl
theorem aw_546 : (Cond.code ({ cls := "KilnKeeper$Book", name := "logStart", desc := "(I)I" } : MethodName) prog_3_method_9_code (1 : Nat) (Option.some FieldType.int)) ∈ AW := AW_m3 13 rfl rfl
theorem aw_547 : (Cond.methodLink "KilnKeeper$Kiln" (116 : Nat) ({ cls := "java/lang/Math", name := "abs", desc := "(I)I" } : MethodName)) ∈ AW := AW_m3 14 rfl rfl
theorem aw_548 : (Cond.static ({ cls := "java/lang/Math", name := "abs", desc := "(I)I" } : MethodName)) ∈ AW := AW_m3 15 rfl rfl
theorem aw_549 : (Cond.code ({ cls := "java/lang/Math", name := "abs", desc := "(I)I" } : MethodName) prog_20_method_59_code (1 : Nat) (Option.some FieldType.int)) ∈ AW := AW_m3 16 rfl rfl
theorem aw_550 : (Cond.methodLink "KilnKeeper$Kiln" (119 : Nat) ({ cls := "KilnKeeper$Rack", name := "passMinute", desc := "(II)V" } : MethodName)) ∈ AW := AW_m3 17 rfl rfl
theorem aw_551 : (Cond.instanceMethod ({ cls := "KilnKeeper$Rack", name := "passMinute", desc := "(II)V" } : MethodName)) ∈ AW := AW_m3 18 rfl rfl
theorem aw_552 : (Cond.selects "KilnKeeper$Rack" ({ cls := "KilnKeeper$Rack", name := "passMinute", desc := "(II)V" } : MethodName) ({ cls := "KilnKeeper$Rack", name := "passMinute", desc := "(II)V" } : MethodName)) ∈ AW := AW_m3 19 rfl rfl
theorem aw_553 : (Cond.code ({ cls := "KilnKeeper$Rack", name := "passMinute", desc := "(II)V" } : MethodName) prog_9_method_7_code (5 : Nat) (Option.none : Option FieldType)) ∈ AW := AW_m3 20 rfl rfl
theorem aw_554 : (Cond.methodLink "KilnKeeper$Rack" (55 : Nat) ({ cls := "KilnKeeper$Pot", name := "passMinute", desc := "(II)V" } : MethodName)) ∈ AW := AW_m3 21 rfl rfl
theorem aw_555 : (Cond.instanceMethod ({ cls := "KilnKeeper$Pot", name := "passMinute", desc := "(II)V" } : MethodName)) ∈ AW := AW_m3 22 rfl rfl
theorem aw_556 : (Cond.selects "KilnKeeper$Pot" ({ cls := "KilnKeeper$Pot", name := "passMinute", desc := "(II)V" } : MethodName) ({ cls := "KilnKeeper$Pot", name := "passMinute", desc := "(II)V" } : MethodName)) ∈ AW := AW_m3 23 rfl rfl
theorem aw_557 : (Cond.code ({ cls := "KilnKeeper$Pot", name := "passMinute", desc := "(II)V" } : MethodName) prog_8_method_4_code (3 : Nat) (Option.none : Option FieldType)) ∈ AW := AW_m3 24 rfl rfl
theorem aw_558 : (Cond.methodLink "KilnKeeper$Pot" (34 : Nat) ({ cls := "java/lang/Math", name := "max", desc := "(II)I" } : MethodName)) ∈ AW := AW_m3 25 rfl rfl
theorem aw_559 : (Cond.methodLink "KilnKeeperLaw" (39 : Nat) ({ cls := "KilnKeeper", name := "pot", desc := "(III)I" } : MethodName)) ∈ AW := AW_m3 26 rfl rfl
theorem aw_560 : (Cond.instanceMethod ({ cls := "KilnKeeper", name := "pot", desc := "(III)I" } : MethodName)) ∈ AW := AW_m3 27 rfl rfl
theorem aw_561 : (Cond.selects "KilnKeeper" ({ cls := "KilnKeeper", name := "pot", desc := "(III)I" } : MethodName) ({ cls := "KilnKeeper", name := "pot", desc := "(III)I" } : MethodName)) ∈ AW := AW_m3 28 rfl rfl
theorem aw_562 : (Cond.code ({ cls := "KilnKeeper", name := "pot", desc := "(III)I" } : MethodName) prog_1_method_8_code (4 : Nat) (Option.some FieldType.int)) ∈ AW := AW_m3 29 rfl rfl
theorem aw_563 : (Cond.methodLink "KilnKeeper" (100 : Nat) ({ cls := "KilnKeeper$Rack", name := "addPot", desc := "(IIILKilnKeeper$Refusal;)I" } : MethodName)) ∈ AW := AW_m3 30 rfl rfl
theorem aw_564 : (Cond.instanceMethod ({ cls := "KilnKeeper$Rack", name := "addPot", desc := "(IIILKilnKeeper$Refusal;)I" } : MethodName)) ∈ AW := AW_m3 31 rfl rfl
theorem aw_565 : (Cond.selects "KilnKeeper$Rack" ({ cls := "KilnKeeper$Rack", name := "addPot", desc := "(IIILKilnKeeper$Refusal;)I" } : MethodName) ({ cls := "KilnKeeper$Rack", name := "addPot", desc := "(IIILKilnKeeper$Refusal;)I" } : MethodName)) ∈ AW := AW_m3 32 rfl rfl
theorem aw_566 : (Cond.code ({ cls := "KilnKeeper$Rack", name := "addPot", desc := "(IIILKilnKeeper$Refusal;)I" } : MethodName) prog_9_method_4_code (7 : Nat) (Option.some FieldType.int)) ∈ AW := AW_m3 33 rfl rfl
theorem at_567 : (Cond.methodLinkNest "KilnKeeper$Rack" (30 : Nat) ({ cls := "KilnKeeper", name := "isFrom", desc := "(III)Z" } : MethodName) "KilnKeeper") ∈ lw_tbl := List.mem_append_right _ (List.mem_append_right _ (List.mem_append_right _ (List.mem_append_left _ (List.mem_of_getElem? (l := tables_1_3) (i := 34) rfl))))
theorem aw_568 : (Cond.methodLink "KilnKeeper$Rack" (34 : Nat) ({ cls := "KilnKeeper$Refusal", name := "because", desc := "(II)I" } : MethodName)) ∈ AW := AW_m3 35 rfl rfl
theorem aw_569 : (Cond.methodLink "KilnKeeper$Rack" (40 : Nat) ({ cls := "KilnKeeper$Pot", name := "begin", desc := "(III)V" } : MethodName)) ∈ AW := AW_m3 36 rfl rfl
theorem aw_570 : (Cond.instanceMethod ({ cls := "KilnKeeper$Pot", name := "begin", desc := "(III)V" } : MethodName)) ∈ AW := AW_m3 37 rfl rfl
theorem aw_571 : (Cond.selects "KilnKeeper$Pot" ({ cls := "KilnKeeper$Pot", name := "begin", desc := "(III)V" } : MethodName) ({ cls := "KilnKeeper$Pot", name := "begin", desc := "(III)V" } : MethodName)) ∈ AW := AW_m3 38 rfl rfl
theorem aw_572 : (Cond.code ({ cls := "KilnKeeper$Pot", name := "begin", desc := "(III)V" } : MethodName) prog_8_method_3_code (4 : Nat) (Option.none : Option FieldType)) ∈ AW := AW_m3 39 rfl rfl
theorem aw_573 : (Cond.methodLink "KilnKeeperLaw" (43 : Nat) ({ cls := "KilnKeeper", name := "put", desc := "(I)I" } : MethodName)) ∈ AW := AW_m3 40 rfl rfl
theorem aw_574 : (Cond.instanceMethod ({ cls := "KilnKeeper", name := "put", desc := "(I)I" } : MethodName)) ∈ AW := AW_m3 41 rfl rfl
theorem aw_575 : (Cond.selects "KilnKeeper" ({ cls := "KilnKeeper", name := "put", desc := "(I)I" } : MethodName) ({ cls := "KilnKeeper", name := "put", desc := "(I)I" } : MethodName)) ∈ AW := AW_m3 42 rfl rfl
theorem aw_576 : (Cond.code ({ cls := "KilnKeeper", name := "put", desc := "(I)I" } : MethodName) prog_1_method_9_code (2 : Nat) (Option.some FieldType.int)) ∈ AW := AW_m3 43 rfl rfl
theorem aw_577 : (Cond.methodLink "KilnKeeper" (110 : Nat) ({ cls := "KilnKeeper$Rack", name := "bringIn", desc := "(IILKilnKeeper$Refusal;)I" } : MethodName)) ∈ AW := AW_m3 44 rfl rfl
theorem aw_578 : (Cond.instanceMethod ({ cls := "KilnKeeper$Rack", name := "bringIn", desc := "(IILKilnKeeper$Refusal;)I" } : MethodName)) ∈ AW := AW_m3 45 rfl rfl
theorem aw_579 : (Cond.selects "KilnKeeper$Rack" ({ cls := "KilnKeeper$Rack", name := "bringIn", desc := "(IILKilnKeeper$Refusal;)I" } : MethodName) ({ cls := "KilnKeeper$Rack", name := "bringIn", desc := "(IILKilnKeeper$Refusal;)I" } : MethodName)) ∈ AW := AW_m3 46 rfl rfl
theorem aw_580 : (Cond.code ({ cls := "KilnKeeper$Rack", name := "bringIn", desc := "(IILKilnKeeper$Refusal;)I" } : MethodName) prog_9_method_5_code (6 : Nat) (Option.some FieldType.int)) ∈ AW := AW_m3 47 rfl rfl
theorem aw_581 : (Cond.methodLink "KilnKeeper$Rack" (47 : Nat) ({ cls := "KilnKeeper$Rack", name := "countWithin", desc := "()I" } : MethodName)) ∈ AW := AW_m3 48 rfl rfl
theorem aw_582 : (Cond.instanceMethod ({ cls := "KilnKeeper$Rack", name := "countWithin", desc := "()I" } : MethodName)) ∈ AW := AW_m3 49 rfl rfl
theorem aw_583 : (Cond.selects "KilnKeeper$Rack" ({ cls := "KilnKeeper$Rack", name := "countWithin", desc := "()I" } : MethodName) ({ cls := "KilnKeeper$Rack", name := "countWithin", desc := "()I" } : MethodName)) ∈ AW := AW_m3 50 rfl rfl
theorem aw_584 : (Cond.code ({ cls := "KilnKeeper$Rack", name := "countWithin", desc := "()I" } : MethodName) prog_9_method_11_code (4 : Nat) (Option.some FieldType.int)) ∈ AW := AW_m3 51 rfl rfl
theorem aw_585 : (Cond.methodLink "KilnKeeperLaw" (47 : Nat) ({ cls := "KilnKeeper", name := "take", desc := "(I)I" } : MethodName)) ∈ AW := AW_m3 52 rfl rfl
theorem aw_586 : (Cond.instanceMethod ({ cls := "KilnKeeper", name := "take", desc := "(I)I" } : MethodName)) ∈ AW := AW_m3 53 rfl rfl
theorem aw_587 : (Cond.selects "KilnKeeper" ({ cls := "KilnKeeper", name := "take", desc := "(I)I" } : MethodName) ({ cls := "KilnKeeper", name := "take", desc := "(I)I" } : MethodName)) ∈ AW := AW_m3 54 rfl rfl
theorem aw_588 : (Cond.code ({ cls := "KilnKeeper", name := "take", desc := "(I)I" } : MethodName) prog_1_method_10_code (2 : Nat) (Option.some FieldType.int)) ∈ AW := AW_m3 55 rfl rfl
theorem aw_589 : (Cond.methodLink "KilnKeeper" (114 : Nat) ({ cls := "KilnKeeper$Rack", name := "bringOut", desc := "(IILKilnKeeper$Refusal;)I" } : MethodName)) ∈ AW := AW_m3 56 rfl rfl
theorem aw_590 : (Cond.instanceMethod ({ cls := "KilnKeeper$Rack", name := "bringOut", desc := "(IILKilnKeeper$Refusal;)I" } : MethodName)) ∈ AW := AW_m3 57 rfl rfl
theorem aw_591 : (Cond.selects "KilnKeeper$Rack" ({ cls := "KilnKeeper$Rack", name := "bringOut", desc := "(IILKilnKeeper$Refusal;)I" } : MethodName) ({ cls := "KilnKeeper$Rack", name := "bringOut", desc := "(IILKilnKeeper$Refusal;)I" } : MethodName)) ∈ AW := AW_m3 58 rfl rfl
theorem aw_592 : (Cond.code ({ cls := "KilnKeeper$Rack", name := "bringOut", desc := "(IILKilnKeeper$Refusal;)I" } : MethodName) prog_9_method_6_code (5 : Nat) (Option.some FieldType.int)) ∈ AW := AW_m3 59 rfl rfl
theorem aw_593 : (Cond.methodLink "KilnKeeperLaw" (51 : Nat) ({ cls := "KilnKeeper", name := "potOf", desc := "(II)I" } : MethodName)) ∈ AW := AW_m3 60 rfl rfl
theorem aw_594 : (Cond.instanceMethod ({ cls := "KilnKeeper", name := "potOf", desc := "(II)I" } : MethodName)) ∈ AW := AW_m3 61 rfl rfl
theorem aw_595 : (Cond.selects "KilnKeeper" ({ cls := "KilnKeeper", name := "potOf", desc := "(II)I" } : MethodName) ({ cls := "KilnKeeper", name := "potOf", desc := "(II)I" } : MethodName)) ∈ AW := AW_m3 62 rfl rfl
theorem aw_596 : (Cond.code ({ cls := "KilnKeeper", name := "potOf", desc := "(II)I" } : MethodName) prog_1_method_11_code (4 : Nat) (Option.some FieldType.int)) ∈ AW := AW_m3 63 rfl rfl
theorem aw_597 : (Cond.methodLink "KilnKeeper" (117 : Nat) ({ cls := "KilnKeeper$Rack", name := "find", desc := "(I)LKilnKeeper$Pot;" } : MethodName)) ∈ AW := AW_m3 64 rfl rfl
theorem aw_598 : (Cond.methodLink "KilnKeeper" (121 : Nat) ({ cls := "KilnKeeper$Pot", name := "number", desc := "(I)I" } : MethodName)) ∈ AW := AW_m3 65 rfl rfl
theorem aw_599 : (Cond.instanceMethod ({ cls := "KilnKeeper$Pot", name := "number", desc := "(I)I" } : MethodName)) ∈ AW := AW_m3 66 rfl rfl
theorem aw_600 : (Cond.selects "KilnKeeper$Pot" ({ cls := "KilnKeeper$Pot", name := "number", desc := "(I)I" } : MethodName) ({ cls := "KilnKeeper$Pot", name := "number", desc := "(I)I" } : MethodName)) ∈ AW := AW_m3 67 rfl rfl
theorem aw_601 : (Cond.code ({ cls := "KilnKeeper$Pot", name := "number", desc := "(I)I" } : MethodName) prog_8_method_6_code (2 : Nat) (Option.some FieldType.int)) ∈ AW := AW_m3 68 rfl rfl
theorem aw_602 : (Cond.methodLink "KilnKeeperLaw" (56 : Nat) ({ cls := "KilnKeeper", name := "firedIn", desc := "(I)I" } : MethodName)) ∈ AW := AW_m3 69 rfl rfl
theorem aw_603 : (Cond.instanceMethod ({ cls := "KilnKeeper", name := "firedIn", desc := "(I)I" } : MethodName)) ∈ AW := AW_m3 70 rfl rfl
theorem aw_604 : (Cond.selects "KilnKeeper" ({ cls := "KilnKeeper", name := "firedIn", desc := "(I)I" } : MethodName) ({ cls := "KilnKeeper", name := "firedIn", desc := "(I)I" } : MethodName)) ∈ AW := AW_m3 71 rfl rfl
theorem aw_605 : (Cond.code ({ cls := "KilnKeeper", name := "firedIn", desc := "(I)I" } : MethodName) prog_1_method_12_code (4 : Nat) (Option.some FieldType.int)) ∈ AW := AW_m3 72 rfl rfl
theorem aw_606 : (Cond.methodLink "KilnKeeper" (126 : Nat) ({ cls := "KilnKeeper", name := "tryMinutes", desc := "(I)LKilnKeeper$Kiln;" } : MethodName)) ∈ AW := AW_m3 73 rfl rfl
theorem at_607 : (Cond.privateMethod ({ cls := "KilnKeeper", name := "tryMinutes", desc := "(I)LKilnKeeper$Kiln;" } : MethodName)) ∈ lw_tbl := List.mem_append_right _ (List.mem_append_right _ (List.mem_append_right _ (List.mem_append_left _ (List.mem_of_getElem? (l := tables_1_3) (i := 74) rfl))))
theorem aw_608 : (Cond.instanceMethod ({ cls := "KilnKeeper", name := "tryMinutes", desc := "(I)LKilnKeeper$Kiln;" } : MethodName)) ∈ AW := AW_m3 75 rfl rfl
theorem aw_609 : (Cond.code ({ cls := "KilnKeeper", name := "tryMinutes", desc := "(I)LKilnKeeper$Kiln;" } : MethodName) prog_1_method_38_code (3 : Nat) (Option.some (FieldType.object "KilnKeeper$Kiln"))) ∈ AW := AW_m3 76 rfl rfl
theorem aw_610 : (Cond.methodLink "KilnKeeper" (133 : Nat) ({ cls := "KilnKeeper$Kiln", name := "passMinute", desc := "()V" } : MethodName)) ∈ AW := AW_m3 77 rfl rfl
theorem aw_611 : (Cond.methodLink "KilnKeeperLaw" (60 : Nat) ({ cls := "KilnKeeper", name := "wouldCrack", desc := "(I)I" } : MethodName)) ∈ AW := AW_m3 78 rfl rfl
theorem aw_612 : (Cond.instanceMethod ({ cls := "KilnKeeper", name := "wouldCrack", desc := "(I)I" } : MethodName)) ∈ AW := AW_m3 79 rfl rfl
theorem aw_613 : (Cond.selects "KilnKeeper" ({ cls := "KilnKeeper", name := "wouldCrack", desc := "(I)I" } : MethodName) ({ cls := "KilnKeeper", name := "wouldCrack", desc := "(I)I" } : MethodName)) ∈ AW := AW_m3 80 rfl rfl
theorem aw_614 : (Cond.code ({ cls := "KilnKeeper", name := "wouldCrack", desc := "(I)I" } : MethodName) prog_1_method_13_code (2 : Nat) (Option.some FieldType.int)) ∈ AW := AW_m3 81 rfl rfl
theorem aw_615 : (Cond.methodLink "KilnKeeper" (136 : Nat) ({ cls := "KilnKeeper", name := "isFrom", desc := "(III)Z" } : MethodName)) ∈ AW := AW_m3 82 rfl rfl
theorem aw_616 : (Cond.methodLink "KilnKeeper" (140 : Nat) ({ cls := "KilnKeeper$Rack", name := "crackedSet", desc := "()I" } : MethodName)) ∈ AW := AW_m3 83 rfl rfl
theorem aw_617 : (Cond.instanceMethod ({ cls := "KilnKeeper$Rack", name := "crackedSet", desc := "()I" } : MethodName)) ∈ AW := AW_m3 84 rfl rfl
theorem aw_618 : (Cond.selects "KilnKeeper$Rack" ({ cls := "KilnKeeper$Rack", name := "crackedSet", desc := "()I" } : MethodName) ({ cls := "KilnKeeper$Rack", name := "crackedSet", desc := "()I" } : MethodName)) ∈ AW := AW_m3 85 rfl rfl
theorem aw_619 : (Cond.code ({ cls := "KilnKeeper$Rack", name := "crackedSet", desc := "()I" } : MethodName) prog_9_method_12_code (4 : Nat) (Option.some FieldType.int)) ∈ AW := AW_m3 86 rfl rfl
theorem aw_620 : (Cond.methodLink "KilnKeeperLaw" (64 : Nat) ({ cls := "KilnKeeper", name := "ranked", desc := "(I)I" } : MethodName)) ∈ AW := AW_m3 87 rfl rfl
theorem aw_621 : (Cond.instanceMethod ({ cls := "KilnKeeper", name := "ranked", desc := "(I)I" } : MethodName)) ∈ AW := AW_m3 88 rfl rfl
theorem aw_622 : (Cond.selects "KilnKeeper" ({ cls := "KilnKeeper", name := "ranked", desc := "(I)I" } : MethodName) ({ cls := "KilnKeeper", name := "ranked", desc := "(I)I" } : MethodName)) ∈ AW := AW_m3 89 rfl rfl
theorem aw_623 : (Cond.code ({ cls := "KilnKeeper", name := "ranked", desc := "(I)I" } : MethodName) prog_1_method_14_code (2 : Nat) (Option.some FieldType.int)) ∈ AW := AW_m3 90 rfl rfl
theorem aw_624 : (Cond.methodLink "KilnKeeper" (144 : Nat) ({ cls := "KilnKeeper$Rack", name := "potAtPlace", desc := "(I)I" } : MethodName)) ∈ AW := AW_m3 91 rfl rfl
theorem aw_625 : (Cond.instanceMethod ({ cls := "KilnKeeper$Rack", name := "potAtPlace", desc := "(I)I" } : MethodName)) ∈ AW := AW_m3 92 rfl rfl
theorem aw_626 : (Cond.selects "KilnKeeper$Rack" ({ cls := "KilnKeeper$Rack", name := "potAtPlace", desc := "(I)I" } : MethodName) ({ cls := "KilnKeeper$Rack", name := "potAtPlace", desc := "(I)I" } : MethodName)) ∈ AW := AW_m3 93 rfl rfl
theorem aw_627 : (Cond.code ({ cls := "KilnKeeper$Rack", name := "potAtPlace", desc := "(I)I" } : MethodName) prog_9_method_8_code (3 : Nat) (Option.some FieldType.int)) ∈ AW := AW_m3 94 rfl rfl
theorem aw_628 : (Cond.methodLink "KilnKeeper$Rack" (59 : Nat) ({ cls := "KilnKeeper$Rack", name := "countAheadOf", desc := "(I)I" } : MethodName)) ∈ AW := AW_m3 95 rfl rfl
theorem at_629 : (Cond.privateMethod ({ cls := "KilnKeeper$Rack", name := "countAheadOf", desc := "(I)I" } : MethodName)) ∈ lw_tbl := List.mem_append_right _ (List.mem_append_right _ (List.mem_append_right _ (List.mem_append_left _ (List.mem_of_getElem? (l := tables_1_3) (i := 96) rfl))))
theorem aw_630 : (Cond.instanceMethod ({ cls := "KilnKeeper$Rack", name := "countAheadOf", desc := "(I)I" } : MethodName)) ∈ AW := AW_m3 97 rfl rfl
theorem aw_631 : (Cond.code ({ cls := "KilnKeeper$Rack", name := "countAheadOf", desc := "(I)I" } : MethodName) prog_9_method_9_code (6 : Nat) (Option.some FieldType.int)) ∈ AW := AW_m3 98 rfl rfl
theorem aw_632 : (Cond.methodLink "KilnKeeper$Rack" (63 : Nat) ({ cls := "KilnKeeper$Pot", name := "isAheadOf", desc := "(LKilnKeeper$Pot;)Z" } : MethodName)) ∈ AW := AW_m3 99 rfl rfl
theorem aw_633 : (Cond.instanceMethod ({ cls := "KilnKeeper$Pot", name := "isAheadOf", desc := "(LKilnKeeper$Pot;)Z" } : MethodName)) ∈ AW := AW_m3 100 rfl rfl
theorem aw_634 : (Cond.selects "KilnKeeper$Pot" ({ cls := "KilnKeeper$Pot", name := "isAheadOf", desc := "(LKilnKeeper$Pot;)Z" } : MethodName) ({ cls := "KilnKeeper$Pot", name := "isAheadOf", desc := "(LKilnKeeper$Pot;)Z" } : MethodName)) ∈ AW := AW_m3 101 rfl rfl
theorem aw_635 : (Cond.code ({ cls := "KilnKeeper$Pot", name := "isAheadOf", desc := "(LKilnKeeper$Pot;)Z" } : MethodName) prog_8_method_5_code (4 : Nat) (Option.some FieldType.boolean)) ∈ AW := AW_m3 102 rfl rfl
theorem aw_636 : (Cond.methodLink "KilnKeeperLaw" (68 : Nat) ({ cls := "KilnKeeper", name := "degreesIn", desc := "(I)I" } : MethodName)) ∈ AW := AW_m3 103 rfl rfl
theorem aw_637 : (Cond.instanceMethod ({ cls := "KilnKeeper", name := "degreesIn", desc := "(I)I" } : MethodName)) ∈ AW := AW_m3 104 rfl rfl
theorem aw_638 : (Cond.selects "KilnKeeper" ({ cls := "KilnKeeper", name := "degreesIn", desc := "(I)I" } : MethodName) ({ cls := "KilnKeeper", name := "degreesIn", desc := "(I)I" } : MethodName)) ∈ AW := AW_m3 105 rfl rfl
theorem aw_639 : (Cond.code ({ cls := "KilnKeeper", name := "degreesIn", desc := "(I)I" } : MethodName) prog_1_method_15_code (2 : Nat) (Option.some FieldType.int)) ∈ AW := AW_m3 106 rfl rfl
theorem aw_640 : (Cond.methodLink "KilnKeeperLaw" (72 : Nat) ({ cls := "KilnKeeper", name := "wanted", desc := "()I" } : MethodName)) ∈ AW := AW_m3 107 rfl rfl
theorem aw_641 : (Cond.instanceMethod ({ cls := "KilnKeeper", name := "wanted", desc := "()I" } : MethodName)) ∈ AW := AW_m3 108 rfl rfl
theorem aw_642 : (Cond.selects "KilnKeeper" ({ cls := "KilnKeeper", name := "wanted", desc := "()I" } : MethodName) ({ cls := "KilnKeeper", name := "wanted", desc := "()I" } : MethodName)) ∈ AW := AW_m3 109 rfl rfl
theorem aw_643 : (Cond.code ({ cls := "KilnKeeper", name := "wanted", desc := "()I" } : MethodName) prog_1_method_16_code (1 : Nat) (Option.some FieldType.int)) ∈ AW := AW_m3 110 rfl rfl
theorem aw_644 : (Cond.methodLink "KilnKeeper" (147 : Nat) ({ cls := "KilnKeeper$Kiln", name := "error", desc := "()I" } : MethodName)) ∈ AW := AW_m3 111 rfl rfl
theorem aw_645 : (Cond.methodLink "KilnKeeper" (150 : Nat) ({ cls := "KilnKeeper$Regulator", name := "wantedDamper", desc := "(I)I" } : MethodName)) ∈ AW := AW_m3 112 rfl rfl
theorem aw_646 : (Cond.methodLink "KilnKeeperLaw" (77 : Nat) ({ cls := "KilnKeeper", name := "settlesIn", desc := "()I" } : MethodName)) ∈ AW := AW_m3 113 rfl rfl
theorem aw_647 : (Cond.instanceMethod ({ cls := "KilnKeeper", name := "settlesIn", desc := "()I" } : MethodName)) ∈ AW := AW_m3 114 rfl rfl
theorem aw_648 : (Cond.selects "KilnKeeper" ({ cls := "KilnKeeper", name := "settlesIn", desc := "()I" } : MethodName) ({ cls := "KilnKeeper", name := "settlesIn", desc := "()I" } : MethodName)) ∈ AW := AW_m3 115 rfl rfl
theorem aw_649 : (Cond.code ({ cls := "KilnKeeper", name := "settlesIn", desc := "()I" } : MethodName) prog_1_method_17_code (3 : Nat) (Option.some FieldType.int)) ∈ AW := AW_m3 116 rfl rfl
theorem aw_650 : (Cond.methodLink "KilnKeeperLaw" (81 : Nat) ({ cls := "KilnKeeper", name := "wouldOvershoot", desc := "(I)I" } : MethodName)) ∈ AW := AW_m3 117 rfl rfl
theorem aw_651 : (Cond.instanceMethod ({ cls := "KilnKeeper", name := "wouldOvershoot", desc := "(I)I" } : MethodName)) ∈ AW := AW_m3 118 rfl rfl
theorem aw_652 : (Cond.selects "KilnKeeper" ({ cls := "KilnKeeper", name := "wouldOvershoot", desc := "(I)I" } : MethodName) ({ cls := "KilnKeeper", name := "wouldOvershoot", desc := "(I)I" } : MethodName)) ∈ AW := AW_m3 119 rfl rfl
theorem aw_653 : (Cond.code ({ cls := "KilnKeeper", name := "wouldOvershoot", desc := "(I)I" } : MethodName) prog_1_method_18_code (2 : Nat) (Option.some FieldType.int)) ∈ AW := AW_m3 120 rfl rfl
theorem aw_654 : (Cond.methodLink "KilnKeeperLaw" (85 : Nat) ({ cls := "KilnKeeper", name := "logged", desc := "(II)I" } : MethodName)) ∈ AW := AW_m3 121 rfl rfl
theorem aw_655 : (Cond.instanceMethod ({ cls := "KilnKeeper", name := "logged", desc := "(II)I" } : MethodName)) ∈ AW := AW_m3 122 rfl rfl
theorem aw_656 : (Cond.selects "KilnKeeper" ({ cls := "KilnKeeper", name := "logged", desc := "(II)I" } : MethodName) ({ cls := "KilnKeeper", name := "logged", desc := "(II)I" } : MethodName)) ∈ AW := AW_m3 123 rfl rfl
theorem aw_657 : (Cond.code ({ cls := "KilnKeeper", name := "logged", desc := "(II)I" } : MethodName) prog_1_method_19_code (3 : Nat) (Option.some FieldType.int)) ∈ AW := AW_m3 124 rfl rfl
theorem aw_658 : (Cond.methodLink "KilnKeeper" (156 : Nat) ({ cls := "KilnKeeper$Book", name := "loggedNumber", desc := "(II)I" } : MethodName)) ∈ AW := AW_m3 125 rfl rfl
theorem aw_659 : (Cond.instanceMethod ({ cls := "KilnKeeper$Book", name := "loggedNumber", desc := "(II)I" } : MethodName)) ∈ AW := AW_m3 126 rfl rfl
theorem aw_660 : (Cond.selects "KilnKeeper$Book" ({ cls := "KilnKeeper$Book", name := "loggedNumber", desc := "(II)I" } : MethodName) ({ cls := "KilnKeeper$Book", name := "loggedNumber", desc := "(II)I" } : MethodName)) ∈ AW := AW_m3 127 rfl rfl
theorem aw_661 : (Cond.code ({ cls := "KilnKeeper$Book", name := "loggedNumber", desc := "(II)I" } : MethodName) prog_3_method_6_code (3 : Nat) (Option.some FieldType.int)) ∈ AW := AW_m3 128 rfl rfl
theorem aw_662 : (Cond.methodLink "KilnKeeperLaw" (89 : Nat) ({ cls := "KilnKeeper", name := "burnt", desc := "()I" } : MethodName)) ∈ AW := AW_m3 129 rfl rfl
theorem aw_663 : (Cond.instanceMethod ({ cls := "KilnKeeper", name := "burnt", desc := "()I" } : MethodName)) ∈ AW := AW_m3 130 rfl rfl
theorem aw_664 : (Cond.selects "KilnKeeper" ({ cls := "KilnKeeper", name := "burnt", desc := "()I" } : MethodName) ({ cls := "KilnKeeper", name := "burnt", desc := "()I" } : MethodName)) ∈ AW := AW_m3 131 rfl rfl
theorem aw_665 : (Cond.code ({ cls := "KilnKeeper", name := "burnt", desc := "()I" } : MethodName) prog_1_method_20_code (1 : Nat) (Option.some FieldType.int)) ∈ AW := AW_m3 132 rfl rfl
theorem aw_666 : (Cond.methodLink "KilnKeeperLaw" (93 : Nat) ({ cls := "KilnKeeper", name := "burntAgain", desc := "()I" } : MethodName)) ∈ AW := AW_m3 133 rfl rfl
theorem aw_667 : (Cond.instanceMethod ({ cls := "KilnKeeper", name := "burntAgain", desc := "()I" } : MethodName)) ∈ AW := AW_m3 134 rfl rfl
theorem aw_668 : (Cond.selects "KilnKeeper" ({ cls := "KilnKeeper", name := "burntAgain", desc := "()I" } : MethodName) ({ cls := "KilnKeeper", name := "burntAgain", desc := "()I" } : MethodName)) ∈ AW := AW_m3 135 rfl rfl
theorem aw_669 : (Cond.code ({ cls := "KilnKeeper", name := "burntAgain", desc := "()I" } : MethodName) prog_1_method_21_code (1 : Nat) (Option.some FieldType.int)) ∈ AW := AW_m3 136 rfl rfl
theorem aw_670 : (Cond.methodLink "KilnKeeper" (163 : Nat) ({ cls := "KilnKeeper$Book", name := "burntByAmounts", desc := "()I" } : MethodName)) ∈ AW := AW_m3 137 rfl rfl
theorem aw_671 : (Cond.instanceMethod ({ cls := "KilnKeeper$Book", name := "burntByAmounts", desc := "()I" } : MethodName)) ∈ AW := AW_m3 138 rfl rfl
theorem aw_672 : (Cond.selects "KilnKeeper$Book" ({ cls := "KilnKeeper$Book", name := "burntByAmounts", desc := "()I" } : MethodName) ({ cls := "KilnKeeper$Book", name := "burntByAmounts", desc := "()I" } : MethodName)) ∈ AW := AW_m3 139 rfl rfl
theorem aw_673 : (Cond.code ({ cls := "KilnKeeper$Book", name := "burntByAmounts", desc := "()I" } : MethodName) prog_3_method_7_code (3 : Nat) (Option.some FieldType.int)) ∈ AW := AW_m3 140 rfl rfl
theorem aw_674 : (Cond.methodLink "KilnKeeperLaw" (97 : Nat) ({ cls := "KilnKeeper", name := "minutesWith", desc := "(I)I" } : MethodName)) ∈ AW := AW_m3 141 rfl rfl
theorem aw_675 : (Cond.instanceMethod ({ cls := "KilnKeeper", name := "minutesWith", desc := "(I)I" } : MethodName)) ∈ AW := AW_m3 142 rfl rfl
theorem aw_676 : (Cond.selects "KilnKeeper" ({ cls := "KilnKeeper", name := "minutesWith", desc := "(I)I" } : MethodName) ({ cls := "KilnKeeper", name := "minutesWith", desc := "(I)I" } : MethodName)) ∈ AW := AW_m3 143 rfl rfl
theorem aw_677 : (Cond.code ({ cls := "KilnKeeper", name := "minutesWith", desc := "(I)I" } : MethodName) prog_1_method_22_code (2 : Nat) (Option.some FieldType.int)) ∈ AW := AW_m3 144 rfl rfl
theorem aw_678 : (Cond.methodLink "KilnKeeper" (170 : Nat) ({ cls := "KilnKeeper", name := "numberAt", desc := "([II)I" } : MethodName)) ∈ AW := AW_m3 145 rfl rfl
theorem aw_679 : (Cond.methodLink "KilnKeeperLaw" (101 : Nat) ({ cls := "KilnKeeper", name := "append", desc := "(I)I" } : MethodName)) ∈ AW := AW_m3 146 rfl rfl
theorem aw_680 : (Cond.instanceMethod ({ cls := "KilnKeeper", name := "append", desc := "(I)I" } : MethodName)) ∈ AW := AW_m3 147 rfl rfl
theorem aw_681 : (Cond.selects "KilnKeeper" ({ cls := "KilnKeeper", name := "append", desc := "(I)I" } : MethodName) ({ cls := "KilnKeeper", name := "append", desc := "(I)I" } : MethodName)) ∈ AW := AW_m3 148 rfl rfl
theorem aw_682 : (Cond.code ({ cls := "KilnKeeper", name := "append", desc := "(I)I" } : MethodName) prog_1_method_23_code (2 : Nat) (Option.some FieldType.int)) ∈ AW := AW_m3 149 rfl rfl
theorem aw_683 : (Cond.methodLink "KilnKeeper" (174 : Nat) ({ cls := "KilnKeeper$Reader", name := "addCode", desc := "(I)I" } : MethodName)) ∈ AW := AW_m3 150 rfl rfl
theorem aw_684 : (Cond.instanceMethod ({ cls := "KilnKeeper$Reader", name := "addCode", desc := "(I)I" } : MethodName)) ∈ AW := AW_m3 151 rfl rfl
theorem aw_685 : (Cond.selects "KilnKeeper$Reader" ({ cls := "KilnKeeper$Reader", name := "addCode", desc := "(I)I" } : MethodName) ({ cls := "KilnKeeper$Reader", name := "addCode", desc := "(I)I" } : MethodName)) ∈ AW := AW_m3 152 rfl rfl
theorem aw_686 : (Cond.code ({ cls := "KilnKeeper$Reader", name := "addCode", desc := "(I)I" } : MethodName) prog_10_method_4_code (2 : Nat) (Option.some FieldType.int)) ∈ AW := AW_m3 153 rfl rfl
theorem at_687 : (Cond.methodLinkNest "KilnKeeper$Reader" (33 : Nat) ({ cls := "KilnKeeper", name := "isFrom", desc := "(III)Z" } : MethodName) "KilnKeeper") ∈ lw_tbl := List.mem_append_right _ (List.mem_append_right _ (List.mem_append_right _ (List.mem_append_left _ (List.mem_of_getElem? (l := tables_1_3) (i := 154) rfl))))
theorem aw_688 : (Cond.methodLink "KilnKeeper$Reader" (25 : Nat) ({ cls := "java/lang/StringBuilder", name := "length", desc := "()I" } : MethodName)) ∈ AW := AW_m3 155 rfl rfl
theorem aw_689 : (Cond.instanceMethod ({ cls := "java/lang/StringBuilder", name := "length", desc := "()I" } : MethodName)) ∈ AW := AW_m3 156 rfl rfl
theorem aw_690 : (Cond.selects "java/lang/StringBuilder" ({ cls := "java/lang/StringBuilder", name := "length", desc := "()I" } : MethodName) ({ cls := "java/lang/StringBuilder", name := "length", desc := "()I" } : MethodName)) ∈ AW := AW_m3 157 rfl rfl
theorem aw_691 : (Cond.code ({ cls := "java/lang/StringBuilder", name := "length", desc := "()I" } : MethodName) prog_22_method_93_code (1 : Nat) (Option.some FieldType.int)) ∈ AW := AW_m3 158 rfl rfl
theorem aw_692 : (Cond.methodLink "java/lang/StringBuilder" (343 : Nat) ({ cls := "java/lang/AbstractStringBuilder", name := "length", desc := "()I" } : MethodName)) ∈ AW := AW_m3 159 rfl rfl
theorem aw_693 : (Cond.instanceMethod ({ cls := "java/lang/AbstractStringBuilder", name := "length", desc := "()I" } : MethodName)) ∈ AW := AW_m3 160 rfl rfl
theorem aw_694 : (Cond.code ({ cls := "java/lang/AbstractStringBuilder", name := "length", desc := "()I" } : MethodName) prog_16_method_6_code (1 : Nat) (Option.some FieldType.int)) ∈ AW := AW_m3 161 rfl rfl
theorem aw_695 : (Cond.methodLink "KilnKeeper$Reader" (37 : Nat) ({ cls := "java/lang/StringBuilder", name := "append", desc := "(C)Ljava/lang/StringBuilder;" } : MethodName)) ∈ AW := AW_m3 162 rfl rfl
theorem aw_696 : (Cond.instanceMethod ({ cls := "java/lang/StringBuilder", name := "append", desc := "(C)Ljava/lang/StringBuilder;" } : MethodName)) ∈ AW := AW_m3 163 rfl rfl
theorem aw_697 : (Cond.selects "java/lang/StringBuilder" ({ cls := "java/lang/StringBuilder", name := "append", desc := "(C)Ljava/lang/StringBuilder;" } : MethodName) ({ cls := "java/lang/StringBuilder", name := "append", desc := "(C)Ljava/lang/StringBuilder;" } : MethodName)) ∈ AW := AW_m3 164 rfl rfl
theorem aw_698 : (Cond.code ({ cls := "java/lang/StringBuilder", name := "append", desc := "(C)Ljava/lang/StringBuilder;" } : MethodName) prog_22_method_14_code (2 : Nat) (Option.some (FieldType.object "java/lang/StringBuilder"))) ∈ AW := AW_m3 165 rfl rfl
theorem aw_699 : (Cond.methodLink "java/lang/StringBuilder" (50 : Nat) ({ cls := "java/lang/AbstractStringBuilder", name := "append", desc := "(C)Ljava/lang/AbstractStringBuilder;" } : MethodName)) ∈ AW := AW_m3 166 rfl rfl
theorem aw_700 : (Cond.instanceMethod ({ cls := "java/lang/AbstractStringBuilder", name := "append", desc := "(C)Ljava/lang/AbstractStringBuilder;" } : MethodName)) ∈ AW := AW_m3 167 rfl rfl
theorem aw_701 : (Cond.code ({ cls := "java/lang/AbstractStringBuilder", name := "append", desc := "(C)Ljava/lang/AbstractStringBuilder;" } : MethodName) prog_16_method_31_code (2 : Nat) (Option.some (FieldType.object "java/lang/AbstractStringBuilder"))) ∈ AW := AW_m3 168 rfl rfl
theorem aw_702 : (Cond.methodLink "java/lang/AbstractStringBuilder" (100 : Nat) ({ cls := "java/lang/AbstractStringBuilder", name := "ensureCapacityInternal", desc := "(I)V" } : MethodName)) ∈ AW := AW_m3 169 rfl rfl
theorem at_703 : (Cond.privateMethod ({ cls := "java/lang/AbstractStringBuilder", name := "ensureCapacityInternal", desc := "(I)V" } : MethodName)) ∈ lw_tbl := List.mem_append_right _ (List.mem_append_right _ (List.mem_append_right _ (List.mem_append_left _ (List.mem_of_getElem? (l := tables_1_3) (i := 170) rfl))))
theorem aw_704 : (Cond.instanceMethod ({ cls := "java/lang/AbstractStringBuilder", name := "ensureCapacityInternal", desc := "(I)V" } : MethodName)) ∈ AW := AW_m3 171 rfl rfl
theorem aw_705 : (Cond.code ({ cls := "java/lang/AbstractStringBuilder", name := "ensureCapacityInternal", desc := "(I)V" } : MethodName) prog_16_method_9_code (3 : Nat) (Option.none : Option FieldType)) ∈ AW := AW_m3 172 rfl rfl
theorem aw_706 : (Cond.methodLink "java/lang/AbstractStringBuilder" (104 : Nat) ({ cls := "java/lang/AbstractStringBuilder", name := "newCapacity", desc := "(I)I" } : MethodName)) ∈ AW := AW_m3 173 rfl rfl
theorem at_707 : (Cond.privateMethod ({ cls := "java/lang/AbstractStringBuilder", name := "newCapacity", desc := "(I)I" } : MethodName)) ∈ lw_tbl := List.mem_append_right _ (List.mem_append_right _ (List.mem_append_right _ (List.mem_append_left _ (List.mem_of_getElem? (l := tables_1_3) (i := 174) rfl))))
theorem aw_708 : (Cond.instanceMethod ({ cls := "java/lang/AbstractStringBuilder", name := "newCapacity", desc := "(I)I" } : MethodName)) ∈ AW := AW_m3 175 rfl rfl
theorem aw_709 : (Cond.code ({ cls := "java/lang/AbstractStringBuilder", name := "newCapacity", desc := "(I)I" } : MethodName) prog_16_method_10_code (6 : Nat) (Option.some FieldType.int)) ∈ AW := AW_m3 176 rfl rfl
theorem aw_710 : (Cond.methodLink "java/lang/AbstractStringBuilder" (114 : Nat) ({ cls := "jdk/internal/util/ArraysSupport", name := "newLength", desc := "(III)I" } : MethodName)) ∈ AW := AW_m3 177 rfl rfl
theorem aw_711 : (Cond.static ({ cls := "jdk/internal/util/ArraysSupport", name := "newLength", desc := "(III)I" } : MethodName)) ∈ AW := AW_m3 178 rfl rfl
theorem aw_712 : (Cond.code ({ cls := "jdk/internal/util/ArraysSupport", name := "newLength", desc := "(III)I" } : MethodName) prog_27_method_27_code (4 : Nat) (Option.some FieldType.int)) ∈ AW := AW_m3 179 rfl rfl
theorem aw_713 : (Cond.methodLink "jdk/internal/util/ArraysSupport" (194 : Nat) ({ cls := "java/lang/Math", name := "max", desc := "(II)I" } : MethodName)) ∈ AW := AW_m3 180 rfl rfl
theorem aw_714 : (Cond.constant "jdk/internal/util/ArraysSupport" (200 : Nat) (2147483639 : Int32)) ∈ AW := AW_m3 181 rfl rfl
theorem aw_715 : (Cond.methodLink "jdk/internal/util/ArraysSupport" (201 : Nat) ({ cls := "jdk/internal/util/ArraysSupport", name := "hugeLength", desc := "(II)I" } : MethodName)) ∈ AW := AW_m3 182 rfl rfl
theorem aw_716 : (Cond.static ({ cls := "jdk/internal/util/ArraysSupport", name := "hugeLength", desc := "(II)I" } : MethodName)) ∈ AW := AW_m3 183 rfl rfl
theorem aw_717 : (Cond.code ({ cls := "jdk/internal/util/ArraysSupport", name := "hugeLength", desc := "(II)I" } : MethodName) prog_27_method_28_code (3 : Nat) (Option.some FieldType.int)) ∈ AW := AW_m3 184 rfl rfl
theorem aw_718 : (Cond.constant "java/lang/AbstractStringBuilder" (39 : Nat) (2147483647 : Int32)) ∈ AW := AW_m3 185 rfl rfl
theorem aw_719 : (Cond.methodLink "java/lang/AbstractStringBuilder" (108 : Nat) ({ cls := "java/util/Arrays", name := "copyOf", desc := "([BI)[B" } : MethodName)) ∈ AW := AW_m3 186 rfl rfl
theorem aw_720 : (Cond.static ({ cls := "java/util/Arrays", name := "copyOf", desc := "([BI)[B" } : MethodName)) ∈ AW := AW_m3 187 rfl rfl
theorem aw_721 : (Cond.code ({ cls := "java/util/Arrays", name := "copyOf", desc := "([BI)[B" } : MethodName) prog_26_method_121_code (3 : Nat) (Option.some (FieldType.array FieldType.byte))) ∈ AW := AW_m3 188 rfl rfl
theorem aw_722 : (Cond.methodLink "java/util/Arrays" (310 : Nat) ({ cls := "[B", name := "clone", desc := "()Ljava/lang/Object;" } : MethodName)) ∈ AW := AW_m3 189 rfl rfl
theorem aw_723 : (Cond.sameMethod "[B" "java/lang/Object" "clone" "()Ljava/lang/Object;") ∈ AW := AW_m3 190 rfl rfl
theorem aw_724 : (Cond.native ({ cls := "java/lang/Object", name := "clone", desc := "()Ljava/lang/Object;" } : MethodName)) ∈ AW := AW_m3 191 rfl rfl
theorem aw_725 : (Cond.instanceMethod ({ cls := "java/lang/Object", name := "clone", desc := "()Ljava/lang/Object;" } : MethodName)) ∈ AW := AW_m3 192 rfl rfl
theorem aw_726 : (Cond.selects "[B" ({ cls := "[B", name := "clone", desc := "()Ljava/lang/Object;" } : MethodName) ({ cls := "java/lang/Object", name := "clone", desc := "()Ljava/lang/Object;" } : MethodName)) ∈ AW := AW_m3 193 rfl rfl
theorem at_727 : (Cond.castable "[B" "java/lang/Cloneable") ∈ lw_tbl := List.mem_append_right _ (List.mem_append_right _ (List.mem_append_right _ (List.mem_append_left _ (List.mem_of_getElem? (l := tables_1_3) (i := 194) rfl))))
theorem aw_728 : (Cond.classLink "java/util/Arrays" (311 : Nat) "[B") ∈ AW := AW_m3 195 rfl rfl
theorem aw_729 : (Cond.methodLink "java/util/Arrays" (304 : Nat) ({ cls := "java/lang/Math", name := "min", desc := "(II)I" } : MethodName)) ∈ AW := AW_m3 196 rfl rfl
theorem aw_730 : (Cond.methodLink "java/util/Arrays" (150 : Nat) ({ cls := "java/lang/System", name := "arraycopy", desc := "(Ljava/lang/Object;ILjava/lang/Object;II)V" } : MethodName)) ∈ AW := AW_m3 197 rfl rfl
theorem aw_731 : (Cond.static ({ cls := "java/lang/System", name := "arraycopy", desc := "(Ljava/lang/Object;ILjava/lang/Object;II)V" } : MethodName)) ∈ AW := AW_m3 198 rfl rfl
theorem aw_732 : (Cond.native ({ cls := "java/lang/System", name := "arraycopy", desc := "(Ljava/lang/Object;ILjava/lang/Object;II)V" } : MethodName)) ∈ AW := AW_m3 199 rfl rfl
theorem aw_733 : (Cond.methodLink "java/lang/AbstractStringBuilder" (83 : Nat) ({ cls := "java/lang/AbstractStringBuilder", name := "isLatin1", desc := "()Z" } : MethodName)) ∈ AW := AW_m3 200 rfl rfl
theorem aw_734 : (Cond.instanceMethod ({ cls := "java/lang/AbstractStringBuilder", name := "isLatin1", desc := "()Z" } : MethodName)) ∈ AW := AW_m3 201 rfl rfl
theorem aw_735 : (Cond.sameMethod "java/lang/AbstractStringBuilder" "java/lang/AbstractStringBuilder" "isLatin1" "()Z") ∈ AW := AW_m3 202 rfl rfl
theorem aw_736 : (Cond.selects "java/lang/StringBuilder" ({ cls := "java/lang/AbstractStringBuilder", name := "isLatin1", desc := "()Z" } : MethodName) ({ cls := "java/lang/AbstractStringBuilder", name := "isLatin1", desc := "()Z" } : MethodName)) ∈ AW := AW_m3 203 rfl rfl
theorem aw_737 : (Cond.code ({ cls := "java/lang/AbstractStringBuilder", name := "isLatin1", desc := "()Z" } : MethodName) prog_16_method_68_code (1 : Nat) (Option.some FieldType.boolean)) ∈ AW := AW_m3 204 rfl rfl
theorem aw_738 : (Cond.methodLink "java/lang/AbstractStringBuilder" (191 : Nat) ({ cls := "java/lang/StringLatin1", name := "canEncode", desc := "(C)Z" } : MethodName)) ∈ AW := AW_m3 205 rfl rfl
theorem aw_739 : (Cond.static ({ cls := "java/lang/StringLatin1", name := "canEncode", desc := "(C)Z" } : MethodName)) ∈ AW := AW_m3 206 rfl rfl
theorem aw_740 : (Cond.code ({ cls := "java/lang/StringLatin1", name := "canEncode", desc := "(C)Z" } : MethodName) prog_23_method_3_code (1 : Nat) (Option.some FieldType.boolean)) ∈ AW := AW_m3 207 rfl rfl
theorem aw_741 : (Cond.methodLink "java/lang/AbstractStringBuilder" (195 : Nat) ({ cls := "java/lang/AbstractStringBuilder", name := "inflate", desc := "()V" } : MethodName)) ∈ AW := AW_m3 208 rfl rfl
theorem at_742 : (Cond.privateMethod ({ cls := "java/lang/AbstractStringBuilder", name := "inflate", desc := "()V" } : MethodName)) ∈ lw_tbl := List.mem_append_right _ (List.mem_append_right _ (List.mem_append_right _ (List.mem_append_left _ (List.mem_of_getElem? (l := tables_1_3) (i := 209) rfl))))
theorem aw_743 : (Cond.instanceMethod ({ cls := "java/lang/AbstractStringBuilder", name := "inflate", desc := "()V" } : MethodName)) ∈ AW := AW_m3 210 rfl rfl
theorem aw_744 : (Cond.code ({ cls := "java/lang/AbstractStringBuilder", name := "inflate", desc := "()V" } : MethodName) prog_16_method_11_code (2 : Nat) (Option.none : Option FieldType)) ∈ AW := AW_m3 211 rfl rfl
theorem aw_745 : (Cond.methodLink "java/lang/AbstractStringBuilder" (125 : Nat) ({ cls := "java/lang/StringLatin1", name := "inflate", desc := "([BI[BII)V" } : MethodName)) ∈ AW := AW_m3 212 rfl rfl
theorem aw_746 : (Cond.static ({ cls := "java/lang/StringLatin1", name := "inflate", desc := "([BI[BII)V" } : MethodName)) ∈ AW := AW_m3 213 rfl rfl
theorem aw_747 : (Cond.code ({ cls := "java/lang/StringLatin1", name := "inflate", desc := "([BI[BII)V" } : MethodName) prog_23_method_50_code (5 : Nat) (Option.none : Option FieldType)) ∈ AW := AW_m3 214 rfl rfl
theorem aw_748 : (Cond.methodLink "java/lang/StringLatin1" (240 : Nat) ({ cls := "java/lang/StringUTF16", name := "inflate", desc := "([BI[BII)V" } : MethodName)) ∈ AW := AW_m3 215 rfl rfl
theorem aw_749 : (Cond.static ({ cls := "java/lang/StringUTF16", name := "inflate", desc := "([BI[BII)V" } : MethodName)) ∈ AW := AW_m3 216 rfl rfl
theorem aw_750 : (Cond.code ({ cls := "java/lang/StringUTF16", name := "inflate", desc := "([BI[BII)V" } : MethodName) prog_24_method_86_code (6 : Nat) (Option.none : Option FieldType)) ∈ AW := AW_m3 217 rfl rfl
theorem aw_751 : (Cond.methodLink "java/lang/StringUTF16" (173 : Nat) ({ cls := "java/lang/StringUTF16", name := "checkBoundsOffCount", desc := "(II[B)V" } : MethodName)) ∈ AW := AW_m3 218 rfl rfl
theorem aw_752 : (Cond.static ({ cls := "java/lang/StringUTF16", name := "checkBoundsOffCount", desc := "(II[B)V" } : MethodName)) ∈ AW := AW_m3 219 rfl rfl
theorem aw_753 : (Cond.code ({ cls := "java/lang/StringUTF16", name := "checkBoundsOffCount", desc := "(II[B)V" } : MethodName) prog_24_method_94_code (3 : Nat) (Option.none : Option FieldType)) ∈ AW := AW_m3 220 rfl rfl
theorem aw_754 : (Cond.methodLink "java/lang/StringUTF16" (48 : Nat) ({ cls := "java/lang/StringUTF16", name := "length", desc := "([B)I" } : MethodName)) ∈ AW := AW_m3 221 rfl rfl
theorem aw_755 : (Cond.static ({ cls := "java/lang/StringUTF16", name := "length", desc := "([B)I" } : MethodName)) ∈ AW := AW_m3 222 rfl rfl
theorem aw_756 : (Cond.code ({ cls := "java/lang/StringUTF16", name := "length", desc := "([B)I" } : MethodName) prog_24_method_6_code (1 : Nat) (Option.some FieldType.int)) ∈ AW := AW_m3 223 rfl rfl
theorem aw_757 : (Cond.methodLink "java/lang/StringUTF16" (419 : Nat) ({ cls := "java/lang/String", name := "checkBoundsOffCount", desc := "(III)I" } : MethodName)) ∈ AW := AW_m3 224 rfl rfl
theorem aw_758 : (Cond.static ({ cls := "java/lang/String", name := "checkBoundsOffCount", desc := "(III)I" } : MethodName)) ∈ AW := AW_m3 225 rfl rfl
theorem aw_759 : (Cond.code ({ cls := "java/lang/String", name := "checkBoundsOffCount", desc := "(III)I" } : MethodName) prog_21_method_157_code (3 : Nat) (Option.some FieldType.int)) ∈ AW := AW_m3 226 rfl rfl
theorem aw_760 : (Cond.fieldLink "java/lang/String" (1053 : Nat) "jdk/internal/util/Preconditions" "SIOOBE_FORMATTER" "Ljava/util/function/BiFunction;") ∈ AW := AW_m3 227 rfl rfl
theorem at_761 : (Cond.laysStatic "jdk/internal/util/Preconditions" "SIOOBE_FORMATTER" "Ljava/util/function/BiFunction;") ∈ lw_tbl := List.mem_append_right _ (List.mem_append_right _ (List.mem_append_right _ (List.mem_append_left _ (List.mem_of_getElem? (l := tables_1_3) (i := 228) rfl))))
theorem aw_762 : (Cond.methodLink "java/lang/String" (1065 : Nat) ({ cls := "jdk/internal/util/Preconditions", name := "checkFromIndexSize", desc := "(IIILjava/util/function/BiFunction;)I" } : MethodName)) ∈ AW := AW_m3 229 rfl rfl
theorem aw_763 : (Cond.static ({ cls := "jdk/internal/util/Preconditions", name := "checkFromIndexSize", desc := "(IIILjava/util/function/BiFunction;)I" } : MethodName)) ∈ AW := AW_m3 230 rfl rfl
theorem aw_764 : (Cond.code ({ cls := "jdk/internal/util/Preconditions", name := "checkFromIndexSize", desc := "(IIILjava/util/function/BiFunction;)I" } : MethodName) prog_28_method_13_code (4 : Nat) (Option.some FieldType.int)) ∈ AW := AW_m3 231 rfl rfl
theorem aw_765 : (Cond.methodLink "java/lang/StringUTF16" (111 : Nat) ({ cls := "java/lang/StringUTF16", name := "putChar", desc := "([BII)V" } : MethodName)) ∈ AW := AW_m3 232 rfl rfl
theorem aw_766 : (Cond.static ({ cls := "java/lang/StringUTF16", name := "putChar", desc := "([BII)V" } : MethodName)) ∈ AW := AW_m3 233 rfl rfl
theorem aw_767 : (Cond.code ({ cls := "java/lang/StringUTF16", name := "putChar", desc := "([BII)V" } : MethodName) prog_24_method_4_code (3 : Nat) (Option.none : Option FieldType)) ∈ AW := AW_m3 234 rfl rfl
theorem aw_768 : (Cond.fieldLink "java/lang/StringUTF16" (44 : Nat) "java/lang/StringUTF16" "$assertionsDisabled" "Z") ∈ AW := AW_m3 235 rfl rfl
theorem at_769 : (Cond.laysStatic "java/lang/StringUTF16" "$assertionsDisabled" "Z") ∈ lw_tbl := List.mem_append_right _ (List.mem_append_right _ (List.mem_append_right _ (List.mem_append_left _ (List.mem_of_getElem? (l := tables_1_3) (i := 236) rfl))))
theorem aw_770 : (Cond.fieldLink "java/lang/StringUTF16" (59 : Nat) "java/lang/StringUTF16" "HI_BYTE_SHIFT" "I") ∈ AW := AW_m3 237 rfl rfl
theorem at_771 : (Cond.laysStatic "java/lang/StringUTF16" "HI_BYTE_SHIFT" "I") ∈ lw_tbl := List.mem_append_right _ (List.mem_append_right _ (List.mem_append_right _ (List.mem_append_left _ (List.mem_of_getElem? (l := tables_1_3) (i := 238) rfl))))
theorem aw_772 : (Cond.fieldLink "java/lang/StringUTF16" (63 : Nat) "java/lang/StringUTF16" "LO_BYTE_SHIFT" "I") ∈ AW := AW_m3 239 rfl rfl
theorem at_773 : (Cond.laysStatic "java/lang/StringUTF16" "LO_BYTE_SHIFT" "I") ∈ lw_tbl := List.mem_append_right _ (List.mem_append_right _ (List.mem_append_right _ (List.mem_append_right _ (List.mem_append_left _ (List.mem_of_getElem? (l := tables_1_4) (i := 0) rfl)))))
theorem aw_774 : (Cond.methodLink "java/lang/AbstractStringBuilder" (197 : Nat) ({ cls := "java/lang/StringUTF16", name := "putCharSB", desc := "([BII)V" } : MethodName)) ∈ AW := AW_m4 1 rfl rfl
theorem aw_775 : (Cond.static ({ cls := "java/lang/StringUTF16", name := "putCharSB", desc := "([BII)V" } : MethodName)) ∈ AW := AW_m4 2 rfl rfl
theorem aw_776 : (Cond.code ({ cls := "java/lang/StringUTF16", name := "putCharSB", desc := "([BII)V" } : MethodName) prog_24_method_71_code (3 : Nat) (Option.none : Option FieldType)) ∈ AW := AW_m4 3 rfl rfl
theorem aw_777 : (Cond.methodLink "java/lang/StringUTF16" (67 : Nat) ({ cls := "java/lang/StringUTF16", name := "checkIndex", desc := "(I[B)V" } : MethodName)) ∈ AW := AW_m4 4 rfl rfl
theorem aw_778 : (Cond.static ({ cls := "java/lang/StringUTF16", name := "checkIndex", desc := "(I[B)V" } : MethodName)) ∈ AW := AW_m4 5 rfl rfl
theorem aw_779 : (Cond.code ({ cls := "java/lang/StringUTF16", name := "checkIndex", desc := "(I[B)V" } : MethodName) prog_24_method_91_code (2 : Nat) (Option.none : Option FieldType)) ∈ AW := AW_m4 6 rfl rfl
theorem aw_780 : (Cond.methodLink "java/lang/StringUTF16" (414 : Nat) ({ cls := "java/lang/String", name := "checkIndex", desc := "(II)V" } : MethodName)) ∈ AW := AW_m4 7 rfl rfl
theorem aw_781 : (Cond.static ({ cls := "java/lang/String", name := "checkIndex", desc := "(II)V" } : MethodName)) ∈ AW := AW_m4 8 rfl rfl
theorem aw_782 : (Cond.code ({ cls := "java/lang/String", name := "checkIndex", desc := "(II)V" } : MethodName) prog_21_method_155_code (2 : Nat) (Option.none : Option FieldType)) ∈ AW := AW_m4 9 rfl rfl
theorem aw_783 : (Cond.methodLink "java/lang/String" (1059 : Nat) ({ cls := "jdk/internal/util/Preconditions", name := "checkIndex", desc := "(IILjava/util/function/BiFunction;)I" } : MethodName)) ∈ AW := AW_m4 10 rfl rfl
theorem aw_784 : (Cond.static ({ cls := "jdk/internal/util/Preconditions", name := "checkIndex", desc := "(IILjava/util/function/BiFunction;)I" } : MethodName)) ∈ AW := AW_m4 11 rfl rfl
theorem aw_785 : (Cond.code ({ cls := "jdk/internal/util/Preconditions", name := "checkIndex", desc := "(IILjava/util/function/BiFunction;)I" } : MethodName) prog_28_method_11_code (3 : Nat) (Option.some FieldType.int)) ∈ AW := AW_m4 12 rfl rfl
theorem aw_786 : (Cond.methodLink "KilnKeeperLaw" (105 : Nat) ({ cls := "KilnKeeper", name := "run", desc := "()I" } : MethodName)) ∈ AW := AW_m4 13 rfl rfl
theorem aw_787 : (Cond.instanceMethod ({ cls := "KilnKeeper", name := "run", desc := "()I" } : MethodName)) ∈ AW := AW_m4 14 rfl rfl
theorem aw_788 : (Cond.selects "KilnKeeper" ({ cls := "KilnKeeper", name := "run", desc := "()I" } : MethodName) ({ cls := "KilnKeeper", name := "run", desc := "()I" } : MethodName)) ∈ AW := AW_m4 15 rfl rfl
theorem aw_789 : (Cond.code ({ cls := "KilnKeeper", name := "run", desc := "()I" } : MethodName) prog_1_method_24_code (3 : Nat) (Option.some FieldType.int)) ∈ AW := AW_m4 16 rfl rfl
theorem aw_790 : (Cond.methodLink "KilnKeeper" (177 : Nat) ({ cls := "KilnKeeper$Reader", name := "read", desc := "()I" } : MethodName)) ∈ AW := AW_m4 17 rfl rfl
theorem aw_791 : (Cond.instanceMethod ({ cls := "KilnKeeper$Reader", name := "read", desc := "()I" } : MethodName)) ∈ AW := AW_m4 18 rfl rfl
theorem aw_792 : (Cond.selects "KilnKeeper$Reader" ({ cls := "KilnKeeper$Reader", name := "read", desc := "()I" } : MethodName) ({ cls := "KilnKeeper$Reader", name := "read", desc := "()I" } : MethodName)) ∈ AW := AW_m4 19 rfl rfl
theorem aw_793 : (Cond.code ({ cls := "KilnKeeper$Reader", name := "read", desc := "()I" } : MethodName) prog_10_method_6_code (4 : Nat) (Option.some FieldType.int)) ∈ AW := AW_m4 20 rfl rfl
theorem aw_794 : (Cond.methodLink "KilnKeeper$Reader" (41 : Nat) ({ cls := "KilnKeeper$Reader", name := "orderAt", desc := "(I)LKilnKeeper$Order;" } : MethodName)) ∈ AW := AW_m4 21 rfl rfl
theorem aw_795 : (Cond.instanceMethod ({ cls := "KilnKeeper$Reader", name := "orderAt", desc := "(I)LKilnKeeper$Order;" } : MethodName)) ∈ AW := AW_m4 22 rfl rfl
theorem aw_796 : (Cond.selects "KilnKeeper$Reader" ({ cls := "KilnKeeper$Reader", name := "orderAt", desc := "(I)LKilnKeeper$Order;" } : MethodName) ({ cls := "KilnKeeper$Reader", name := "orderAt", desc := "(I)LKilnKeeper$Order;" } : MethodName)) ∈ AW := AW_m4 23 rfl rfl
theorem aw_797 : (Cond.code ({ cls := "KilnKeeper$Reader", name := "orderAt", desc := "(I)LKilnKeeper$Order;" } : MethodName) prog_10_method_5_code (2 : Nat) (Option.some (FieldType.object "KilnKeeper$Order"))) ∈ AW := AW_m4 24 rfl rfl
theorem aw_798 : (Cond.methodLink "KilnKeeper$Reader" (45 : Nat) ({ cls := "KilnKeeper$Reader", name := "readOrder", desc := "(ILKilnKeeper$Order;)I" } : MethodName)) ∈ AW := AW_m4 25 rfl rfl
theorem at_799 : (Cond.privateMethod ({ cls := "KilnKeeper$Reader", name := "readOrder", desc := "(ILKilnKeeper$Order;)I" } : MethodName)) ∈ lw_tbl := List.mem_append_right _ (List.mem_append_right _ (List.mem_append_right _ (List.mem_append_right _ (List.mem_append_left _ (List.mem_of_getElem? (l := tables_1_4) (i := 26) rfl)))))
theorem aw_800 : (Cond.instanceMethod ({ cls := "KilnKeeper$Reader", name := "readOrder", desc := "(ILKilnKeeper$Order;)I" } : MethodName)) ∈ AW := AW_m4 27 rfl rfl
theorem aw_801 : (Cond.code ({ cls := "KilnKeeper$Reader", name := "readOrder", desc := "(ILKilnKeeper$Order;)I" } : MethodName) prog_10_method_7_code (9 : Nat) (Option.some FieldType.int)) ∈ AW := AW_m4 28 rfl rfl
theorem at_802 : (Cond.fieldLinkNest "KilnKeeper$Reader" (57 : Nat) "KilnKeeper" "WORDS" "[LKilnKeeper$Word;" "KilnKeeper") ∈ lw_tbl := List.mem_append_right _ (List.mem_append_right _ (List.mem_append_right _ (List.mem_append_right _ (List.mem_append_left _ (List.mem_of_getElem? (l := tables_1_4) (i := 29) rfl)))))
theorem at_803 : (Cond.laysStatic "KilnKeeper" "WORDS" "[LKilnKeeper$Word;") ∈ lw_tbl := List.mem_append_right _ (List.mem_append_right _ (List.mem_append_right _ (List.mem_append_right _ (List.mem_append_left _ (List.mem_of_getElem? (l := tables_1_4) (i := 30) rfl)))))
theorem aw_804 : (Cond.methodLink "KilnKeeper$Reader" (61 : Nat) ({ cls := "KilnKeeper$Reader", name := "readForm", desc := "(LKilnKeeper$Word;ILKilnKeeper$Order;)I" } : MethodName)) ∈ AW := AW_m4 31 rfl rfl
theorem at_805 : (Cond.privateMethod ({ cls := "KilnKeeper$Reader", name := "readForm", desc := "(LKilnKeeper$Word;ILKilnKeeper$Order;)I" } : MethodName)) ∈ lw_tbl := List.mem_append_right _ (List.mem_append_right _ (List.mem_append_right _ (List.mem_append_right _ (List.mem_append_left _ (List.mem_of_getElem? (l := tables_1_4) (i := 32) rfl)))))
theorem aw_806 : (Cond.instanceMethod ({ cls := "KilnKeeper$Reader", name := "readForm", desc := "(LKilnKeeper$Word;ILKilnKeeper$Order;)I" } : MethodName)) ∈ AW := AW_m4 33 rfl rfl
theorem aw_807 : (Cond.code ({ cls := "KilnKeeper$Reader", name := "readForm", desc := "(LKilnKeeper$Word;ILKilnKeeper$Order;)I" } : MethodName) prog_10_method_8_code (9 : Nat) (Option.some FieldType.int)) ∈ AW := AW_m4 34 rfl rfl
theorem aw_808 : (Cond.methodLink "KilnKeeper$Reader" (71 : Nat) ({ cls := "KilnKeeper$Reader", name := "faultAt", desc := "(I)I" } : MethodName)) ∈ AW := AW_m4 35 rfl rfl
theorem aw_809 : (Cond.static ({ cls := "KilnKeeper$Reader", name := "faultAt", desc := "(I)I" } : MethodName)) ∈ AW := AW_m4 36 rfl rfl
theorem aw_810 : (Cond.code ({ cls := "KilnKeeper$Reader", name := "faultAt", desc := "(I)I" } : MethodName) prog_10_method_13_code (1 : Nat) (Option.some FieldType.int)) ∈ AW := AW_m4 37 rfl rfl
theorem aw_811 : (Cond.methodLink "KilnKeeper$Reader" (84 : Nat) ({ cls := "java/lang/String", name := "length", desc := "()I" } : MethodName)) ∈ AW := AW_m4 38 rfl rfl
theorem aw_812 : (Cond.instanceMethod ({ cls := "java/lang/String", name := "length", desc := "()I" } : MethodName)) ∈ AW := AW_m4 39 rfl rfl
theorem aw_813 : (Cond.selects "java/lang/String" ({ cls := "java/lang/String", name := "length", desc := "()I" } : MethodName) ({ cls := "java/lang/String", name := "length", desc := "()I" } : MethodName)) ∈ AW := AW_m4 40 rfl rfl
theorem aw_814 : (Cond.code ({ cls := "java/lang/String", name := "length", desc := "()I" } : MethodName) prog_21_method_54_code (1 : Nat) (Option.some FieldType.int)) ∈ AW := AW_m4 41 rfl rfl
theorem aw_815 : (Cond.methodLink "java/lang/String" (335 : Nat) ({ cls := "java/lang/String", name := "coder", desc := "()B" } : MethodName)) ∈ AW := AW_m4 42 rfl rfl
theorem aw_816 : (Cond.instanceMethod ({ cls := "java/lang/String", name := "coder", desc := "()B" } : MethodName)) ∈ AW := AW_m4 43 rfl rfl
theorem aw_817 : (Cond.selects "java/lang/String" ({ cls := "java/lang/String", name := "coder", desc := "()B" } : MethodName) ({ cls := "java/lang/String", name := "coder", desc := "()B" } : MethodName)) ∈ AW := AW_m4 44 rfl rfl
theorem aw_818 : (Cond.code ({ cls := "java/lang/String", name := "coder", desc := "()B" } : MethodName) prog_21_method_152_code (1 : Nat) (Option.some FieldType.byte)) ∈ AW := AW_m4 45 rfl rfl
theorem aw_819 : (Cond.fieldLink "java/lang/String" (38 : Nat) "java/lang/String" "COMPACT_STRINGS" "Z") ∈ AW := AW_m4 46 rfl rfl
theorem aw_820 : (Cond.methodLink "KilnKeeper$Reader" (87 : Nat) ({ cls := "java/lang/String", name := "charAt", desc := "(I)C" } : MethodName)) ∈ AW := AW_m4 47 rfl rfl
theorem aw_821 : (Cond.instanceMethod ({ cls := "java/lang/String", name := "charAt", desc := "(I)C" } : MethodName)) ∈ AW := AW_m4 48 rfl rfl
theorem aw_822 : (Cond.selects "java/lang/String" ({ cls := "java/lang/String", name := "charAt", desc := "(I)C" } : MethodName) ({ cls := "java/lang/String", name := "charAt", desc := "(I)C" } : MethodName)) ∈ AW := AW_m4 49 rfl rfl
theorem aw_823 : (Cond.code ({ cls := "java/lang/String", name := "charAt", desc := "(I)C" } : MethodName) prog_21_method_56_code (2 : Nat) (Option.some FieldType.char)) ∈ AW := AW_m4 50 rfl rfl
theorem aw_824 : (Cond.methodLink "java/lang/String" (492 : Nat) ({ cls := "java/lang/String", name := "isLatin1", desc := "()Z" } : MethodName)) ∈ AW := AW_m4 51 rfl rfl
theorem aw_825 : (Cond.instanceMethod ({ cls := "java/lang/String", name := "isLatin1", desc := "()Z" } : MethodName)) ∈ AW := AW_m4 52 rfl rfl
theorem aw_826 : (Cond.selects "java/lang/String" ({ cls := "java/lang/String", name := "isLatin1", desc := "()Z" } : MethodName) ({ cls := "java/lang/String", name := "isLatin1", desc := "()Z" } : MethodName)) ∈ AW := AW_m4 53 rfl rfl
theorem aw_827 : (Cond.code ({ cls := "java/lang/String", name := "isLatin1", desc := "()Z" } : MethodName) prog_21_method_154_code (1 : Nat) (Option.some FieldType.boolean)) ∈ AW := AW_m4 54 rfl rfl
theorem aw_828 : (Cond.methodLink "java/lang/String" (495 : Nat) ({ cls := "java/lang/StringLatin1", name := "charAt", desc := "([BI)C" } : MethodName)) ∈ AW := AW_m4 55 rfl rfl
theorem aw_829 : (Cond.static ({ cls := "java/lang/StringLatin1", name := "charAt", desc := "([BI)C" } : MethodName)) ∈ AW := AW_m4 56 rfl rfl
theorem aw_830 : (Cond.code ({ cls := "java/lang/StringLatin1", name := "charAt", desc := "([BI)C" } : MethodName) prog_23_method_2_code (2 : Nat) (Option.some FieldType.char)) ∈ AW := AW_m4 57 rfl rfl
theorem aw_831 : (Cond.methodLink "java/lang/StringLatin1" (9 : Nat) ({ cls := "java/lang/String", name := "checkIndex", desc := "(II)V" } : MethodName)) ∈ AW := AW_m4 58 rfl rfl
theorem aw_832 : (Cond.methodLink "java/lang/String" (498 : Nat) ({ cls := "java/lang/StringUTF16", name := "charAt", desc := "([BI)C" } : MethodName)) ∈ AW := AW_m4 59 rfl rfl
theorem aw_833 : (Cond.static ({ cls := "java/lang/StringUTF16", name := "charAt", desc := "([BI)C" } : MethodName)) ∈ AW := AW_m4 60 rfl rfl
theorem aw_834 : (Cond.code ({ cls := "java/lang/StringUTF16", name := "charAt", desc := "([BI)C" } : MethodName) prog_24_method_83_code (2 : Nat) (Option.some FieldType.char)) ∈ AW := AW_m4 61 rfl rfl
theorem aw_835 : (Cond.methodLink "java/lang/StringUTF16" (71 : Nat) ({ cls := "java/lang/StringUTF16", name := "getChar", desc := "([BI)C" } : MethodName)) ∈ AW := AW_m4 62 rfl rfl
theorem aw_836 : (Cond.static ({ cls := "java/lang/StringUTF16", name := "getChar", desc := "([BI)C" } : MethodName)) ∈ AW := AW_m4 63 rfl rfl
theorem aw_837 : (Cond.code ({ cls := "java/lang/StringUTF16", name := "getChar", desc := "([BI)C" } : MethodName) prog_24_method_5_code (2 : Nat) (Option.some FieldType.char)) ∈ AW := AW_m4 64 rfl rfl
theorem aw_838 : (Cond.methodLink "KilnKeeper$Reader" (91 : Nat) ({ cls := "KilnKeeper$Reader", name := "endOfDigits", desc := "(II)I" } : MethodName)) ∈ AW := AW_m4 65 rfl rfl
theorem at_839 : (Cond.privateMethod ({ cls := "KilnKeeper$Reader", name := "endOfDigits", desc := "(II)I" } : MethodName)) ∈ lw_tbl := List.mem_append_right _ (List.mem_append_right _ (List.mem_append_right _ (List.mem_append_right _ (List.mem_append_left _ (List.mem_of_getElem? (l := tables_1_4) (i := 66) rfl)))))
theorem aw_840 : (Cond.instanceMethod ({ cls := "KilnKeeper$Reader", name := "endOfDigits", desc := "(II)I" } : MethodName)) ∈ AW := AW_m4 67 rfl rfl
theorem aw_841 : (Cond.code ({ cls := "KilnKeeper$Reader", name := "endOfDigits", desc := "(II)I" } : MethodName) prog_10_method_9_code (4 : Nat) (Option.some FieldType.int)) ∈ AW := AW_m4 68 rfl rfl
theorem aw_842 : (Cond.methodLink "KilnKeeper$Reader" (105 : Nat) ({ cls := "KilnKeeper$Reader", name := "digitAt", desc := "(I)I" } : MethodName)) ∈ AW := AW_m4 69 rfl rfl
theorem at_843 : (Cond.privateMethod ({ cls := "KilnKeeper$Reader", name := "digitAt", desc := "(I)I" } : MethodName)) ∈ lw_tbl := List.mem_append_right _ (List.mem_append_right _ (List.mem_append_right _ (List.mem_append_right _ (List.mem_append_left _ (List.mem_of_getElem? (l := tables_1_4) (i := 70) rfl)))))
theorem aw_844 : (Cond.instanceMethod ({ cls := "KilnKeeper$Reader", name := "digitAt", desc := "(I)I" } : MethodName)) ∈ AW := AW_m4 71 rfl rfl
theorem aw_845 : (Cond.code ({ cls := "KilnKeeper$Reader", name := "digitAt", desc := "(I)I" } : MethodName) prog_10_method_11_code (3 : Nat) (Option.some FieldType.int)) ∈ AW := AW_m4 72 rfl rfl
theorem aw_846 : (Cond.methodLink "KilnKeeper$Reader" (108 : Nat) ({ cls := "java/lang/StringBuilder", name := "charAt", desc := "(I)C" } : MethodName)) ∈ AW := AW_m4 73 rfl rfl
theorem aw_847 : (Cond.instanceMethod ({ cls := "java/lang/StringBuilder", name := "charAt", desc := "(I)C" } : MethodName)) ∈ AW := AW_m4 74 rfl rfl
theorem aw_848 : (Cond.selects "java/lang/StringBuilder" ({ cls := "java/lang/StringBuilder", name := "charAt", desc := "(I)C" } : MethodName) ({ cls := "java/lang/StringBuilder", name := "charAt", desc := "(I)C" } : MethodName)) ∈ AW := AW_m4 75 rfl rfl
theorem aw_849 : (Cond.code ({ cls := "java/lang/StringBuilder", name := "charAt", desc := "(I)C" } : MethodName) prog_22_method_88_code (2 : Nat) (Option.some FieldType.char)) ∈ AW := AW_m4 76 rfl rfl
theorem aw_850 : (Cond.methodLink "java/lang/StringBuilder" (329 : Nat) ({ cls := "java/lang/AbstractStringBuilder", name := "charAt", desc := "(I)C" } : MethodName)) ∈ AW := AW_m4 77 rfl rfl
theorem aw_851 : (Cond.instanceMethod ({ cls := "java/lang/AbstractStringBuilder", name := "charAt", desc := "(I)C" } : MethodName)) ∈ AW := AW_m4 78 rfl rfl
theorem aw_852 : (Cond.code ({ cls := "java/lang/AbstractStringBuilder", name := "charAt", desc := "(I)C" } : MethodName) prog_16_method_14_code (5 : Nat) (Option.some FieldType.char)) ∈ AW := AW_m4 79 rfl rfl
theorem aw_853 : (Cond.methodLink "java/lang/AbstractStringBuilder" (138 : Nat) ({ cls := "java/lang/Math", name := "min", desc := "(II)I" } : MethodName)) ∈ AW := AW_m4 80 rfl rfl
theorem aw_854 : (Cond.methodLink "java/lang/AbstractStringBuilder" (144 : Nat) ({ cls := "java/lang/String", name := "checkIndex", desc := "(II)V" } : MethodName)) ∈ AW := AW_m4 81 rfl rfl
theorem aw_855 : (Cond.methodLink "java/lang/AbstractStringBuilder" (148 : Nat) ({ cls := "java/lang/StringUTF16", name := "getChar", desc := "([BI)C" } : MethodName)) ∈ AW := AW_m4 82 rfl rfl
theorem aw_856 : (Cond.methodLink "KilnKeeper$Reader" (98 : Nat) ({ cls := "KilnKeeper$Reader", name := "numberFrom", desc := "(II)I" } : MethodName)) ∈ AW := AW_m4 83 rfl rfl
theorem at_857 : (Cond.privateMethod ({ cls := "KilnKeeper$Reader", name := "numberFrom", desc := "(II)I" } : MethodName)) ∈ lw_tbl := List.mem_append_right _ (List.mem_append_right _ (List.mem_append_right _ (List.mem_append_right _ (List.mem_append_left _ (List.mem_of_getElem? (l := tables_1_4) (i := 84) rfl)))))
theorem aw_858 : (Cond.instanceMethod ({ cls := "KilnKeeper$Reader", name := "numberFrom", desc := "(II)I" } : MethodName)) ∈ AW := AW_m4 85 rfl rfl
theorem aw_859 : (Cond.code ({ cls := "KilnKeeper$Reader", name := "numberFrom", desc := "(II)I" } : MethodName) prog_10_method_10_code (5 : Nat) (Option.some FieldType.int)) ∈ AW := AW_m4 86 rfl rfl
theorem at_860 : (Cond.methodLinkNest "KilnKeeper$Reader" (101 : Nat) ({ cls := "KilnKeeper", name := "setNumberAt", desc := "([III)V" } : MethodName) "KilnKeeper") ∈ lw_tbl := List.mem_append_right _ (List.mem_append_right _ (List.mem_append_right _ (List.mem_append_right _ (List.mem_append_left _ (List.mem_of_getElem? (l := tables_1_4) (i := 87) rfl)))))
theorem aw_861 : (Cond.methodLink "KilnKeeper$Reader" (53 : Nat) ({ cls := "KilnKeeper$Reader", name := "isSignAt", desc := "(IC)Z" } : MethodName)) ∈ AW := AW_m4 88 rfl rfl
theorem at_862 : (Cond.privateMethod ({ cls := "KilnKeeper$Reader", name := "isSignAt", desc := "(IC)Z" } : MethodName)) ∈ lw_tbl := List.mem_append_right _ (List.mem_append_right _ (List.mem_append_right _ (List.mem_append_right _ (List.mem_append_left _ (List.mem_of_getElem? (l := tables_1_4) (i := 89) rfl)))))
theorem aw_863 : (Cond.instanceMethod ({ cls := "KilnKeeper$Reader", name := "isSignAt", desc := "(IC)Z" } : MethodName)) ∈ AW := AW_m4 90 rfl rfl
theorem aw_864 : (Cond.code ({ cls := "KilnKeeper$Reader", name := "isSignAt", desc := "(IC)Z" } : MethodName) prog_10_method_12_code (3 : Nat) (Option.some FieldType.boolean)) ∈ AW := AW_m4 91 rfl rfl
theorem aw_865 : (Cond.methodLink "KilnKeeper$Reader" (49 : Nat) ({ cls := "KilnKeeper$Reader", name := "placeOfFault", desc := "(I)I" } : MethodName)) ∈ AW := AW_m4 92 rfl rfl
theorem aw_866 : (Cond.static ({ cls := "KilnKeeper$Reader", name := "placeOfFault", desc := "(I)I" } : MethodName)) ∈ AW := AW_m4 93 rfl rfl
theorem aw_867 : (Cond.code ({ cls := "KilnKeeper$Reader", name := "placeOfFault", desc := "(I)I" } : MethodName) prog_10_method_14_code (1 : Nat) (Option.some FieldType.int)) ∈ AW := AW_m4 94 rfl rfl
theorem aw_868 : (Cond.methodLink "KilnKeeper$Reader" (65 : Nat) ({ cls := "java/lang/Math", name := "max", desc := "(II)I" } : MethodName)) ∈ AW := AW_m4 95 rfl rfl
theorem aw_869 : (Cond.methodLink "KilnKeeper" (180 : Nat) ({ cls := "KilnKeeper$Reader", name := "clearText", desc := "()V" } : MethodName)) ∈ AW := AW_m4 96 rfl rfl
theorem aw_870 : (Cond.instanceMethod ({ cls := "KilnKeeper$Reader", name := "clearText", desc := "()V" } : MethodName)) ∈ AW := AW_m4 97 rfl rfl
theorem aw_871 : (Cond.selects "KilnKeeper$Reader" ({ cls := "KilnKeeper$Reader", name := "clearText", desc := "()V" } : MethodName) ({ cls := "KilnKeeper$Reader", name := "clearText", desc := "()V" } : MethodName)) ∈ AW := AW_m4 98 rfl rfl
theorem aw_872 : (Cond.code ({ cls := "KilnKeeper$Reader", name := "clearText", desc := "()V" } : MethodName) prog_10_method_3_code (1 : Nat) (Option.none : Option FieldType)) ∈ AW := AW_m4 99 rfl rfl
theorem aw_873 : (Cond.methodLink "KilnKeeper$Reader" (29 : Nat) ({ cls := "java/lang/StringBuilder", name := "setLength", desc := "(I)V" } : MethodName)) ∈ AW := AW_m4 100 rfl rfl
theorem aw_874 : (Cond.instanceMethod ({ cls := "java/lang/StringBuilder", name := "setLength", desc := "(I)V" } : MethodName)) ∈ AW := AW_m4 101 rfl rfl
theorem aw_875 : (Cond.selects "java/lang/StringBuilder" ({ cls := "java/lang/StringBuilder", name := "setLength", desc := "(I)V" } : MethodName) ({ cls := "java/lang/StringBuilder", name := "setLength", desc := "(I)V" } : MethodName)) ∈ AW := AW_m4 102 rfl rfl
theorem aw_876 : (Cond.code ({ cls := "java/lang/StringBuilder", name := "setLength", desc := "(I)V" } : MethodName) prog_22_method_89_code (2 : Nat) (Option.none : Option FieldType)) ∈ AW := AW_m4 103 rfl rfl
theorem aw_877 : (Cond.methodLink "java/lang/StringBuilder" (333 : Nat) ({ cls := "java/lang/AbstractStringBuilder", name := "setLength", desc := "(I)V" } : MethodName)) ∈ AW := AW_m4 104 rfl rfl
theorem aw_878 : (Cond.instanceMethod ({ cls := "java/lang/AbstractStringBuilder", name := "setLength", desc := "(I)V" } : MethodName)) ∈ AW := AW_m4 105 rfl rfl
theorem aw_879 : (Cond.code ({ cls := "java/lang/AbstractStringBuilder", name := "setLength", desc := "(I)V" } : MethodName) prog_16_method_13_code (2 : Nat) (Option.none : Option FieldType)) ∈ AW := AW_m4 106 rfl rfl
theorem aw_880 : (Cond.methodLink "java/lang/AbstractStringBuilder" (133 : Nat) ({ cls := "java/lang/StringLatin1", name := "fillNull", desc := "([BII)V" } : MethodName)) ∈ AW := AW_m4 107 rfl rfl
theorem aw_881 : (Cond.static ({ cls := "java/lang/StringLatin1", name := "fillNull", desc := "([BII)V" } : MethodName)) ∈ AW := AW_m4 108 rfl rfl
theorem aw_882 : (Cond.code ({ cls := "java/lang/StringLatin1", name := "fillNull", desc := "([BII)V" } : MethodName) prog_23_method_48_code (3 : Nat) (Option.none : Option FieldType)) ∈ AW := AW_m4 109 rfl rfl
theorem aw_883 : (Cond.methodLink "java/lang/StringLatin1" (236 : Nat) ({ cls := "java/util/Arrays", name := "fill", desc := "([BIIB)V" } : MethodName)) ∈ AW := AW_m4 110 rfl rfl
theorem aw_884 : (Cond.static ({ cls := "java/util/Arrays", name := "fill", desc := "([BIIB)V" } : MethodName)) ∈ AW := AW_m4 111 rfl rfl
theorem aw_885 : (Cond.code ({ cls := "java/util/Arrays", name := "fill", desc := "([BIIB)V" } : MethodName) prog_26_method_110_code (5 : Nat) (Option.none : Option FieldType)) ∈ AW := AW_m4 112 rfl rfl
theorem aw_886 : (Cond.methodLink "java/util/Arrays" (13 : Nat) ({ cls := "java/util/Arrays", name := "rangeCheck", desc := "(III)V" } : MethodName)) ∈ AW := AW_m4 113 rfl rfl
theorem aw_887 : (Cond.static ({ cls := "java/util/Arrays", name := "rangeCheck", desc := "(III)V" } : MethodName)) ∈ AW := AW_m4 114 rfl rfl
theorem aw_888 : (Cond.code ({ cls := "java/util/Arrays", name := "rangeCheck", desc := "(III)V" } : MethodName) prog_26_method_30_code (3 : Nat) (Option.none : Option FieldType)) ∈ AW := AW_m4 115 rfl rfl
theorem aw_889 : (Cond.methodLink "java/lang/AbstractStringBuilder" (137 : Nat) ({ cls := "java/lang/StringUTF16", name := "fillNull", desc := "([BII)V" } : MethodName)) ∈ AW := AW_m4 116 rfl rfl
theorem aw_890 : (Cond.static ({ cls := "java/lang/StringUTF16", name := "fillNull", desc := "([BII)V" } : MethodName)) ∈ AW := AW_m4 117 rfl rfl
theorem aw_891 : (Cond.code ({ cls := "java/lang/StringUTF16", name := "fillNull", desc := "([BII)V" } : MethodName) prog_24_method_70_code (3 : Nat) (Option.none : Option FieldType)) ∈ AW := AW_m4 118 rfl rfl
theorem aw_892 : (Cond.methodLink "java/lang/StringUTF16" (380 : Nat) ({ cls := "java/util/Arrays", name := "fill", desc := "([BIIB)V" } : MethodName)) ∈ AW := AW_m4 119 rfl rfl
theorem aw_893 : (Cond.methodLink "KilnKeeper" (183 : Nat) ({ cls := "KilnKeeper$Reader", name := "orderAt", desc := "(I)LKilnKeeper$Order;" } : MethodName)) ∈ AW := AW_m4 120 rfl rfl
theorem aw_894 : (Cond.methodLink "KilnKeeper" (187 : Nat) ({ cls := "KilnKeeper", name := "carryOut", desc := "(LKilnKeeper$Order;)I" } : MethodName)) ∈ AW := AW_m4 121 rfl rfl
theorem at_895 : (Cond.privateMethod ({ cls := "KilnKeeper", name := "carryOut", desc := "(LKilnKeeper$Order;)I" } : MethodName)) ∈ lw_tbl := List.mem_append_right _ (List.mem_append_right _ (List.mem_append_right _ (List.mem_append_right _ (List.mem_append_left _ (List.mem_of_getElem? (l := tables_1_4) (i := 122) rfl)))))
theorem aw_896 : (Cond.instanceMethod ({ cls := "KilnKeeper", name := "carryOut", desc := "(LKilnKeeper$Order;)I" } : MethodName)) ∈ AW := AW_m4 123 rfl rfl
theorem aw_897 : (Cond.code ({ cls := "KilnKeeper", name := "carryOut", desc := "(LKilnKeeper$Order;)I" } : MethodName) prog_1_method_39_code (5 : Nat) (Option.some FieldType.int)) ∈ AW := AW_m4 124 rfl rfl
theorem aw_898 : (Cond.fieldLink "KilnKeeper" (263 : Nat) "KilnKeeper$1" "$SwitchMap$KilnKeeper$Word" "[I") ∈ AW := AW_m4 125 rfl rfl
theorem at_899 : (Cond.laysStatic "KilnKeeper$1" "$SwitchMap$KilnKeeper$Word" "[I") ∈ lw_tbl := List.mem_append_right _ (List.mem_append_right _ (List.mem_append_right _ (List.mem_append_right _ (List.mem_append_left _ (List.mem_of_getElem? (l := tables_1_4) (i := 126) rfl)))))
theorem aw_900 : (Cond.methodLink "KilnKeeper" (268 : Nat) ({ cls := "KilnKeeper$Word", name := "ordinal", desc := "()I" } : MethodName)) ∈ AW := AW_m4 127 rfl rfl
theorem aw_901 : (Cond.sameMethod "KilnKeeper$Word" "java/lang/Enum" "ordinal" "()I") ∈ AW := AW_m4 128 rfl rfl
theorem at_902 : (Cond.declares ({ cls := "java/lang/Enum", name := "ordinal", desc := "()I" } : MethodName)) ∈ lw_tbl := List.mem_append_right _ (List.mem_append_right _ (List.mem_append_right _ (List.mem_append_right _ (List.mem_append_left _ (List.mem_of_getElem? (l := tables_1_4) (i := 129) rfl)))))
theorem aw_903 : (Cond.selects "KilnKeeper$Word" ({ cls := "KilnKeeper$Word", name := "ordinal", desc := "()I" } : MethodName) ({ cls := "java/lang/Enum", name := "ordinal", desc := "()I" } : MethodName)) ∈ AW := AW_m4 130 rfl rfl
theorem aw_904 : (Cond.instanceMethod ({ cls := "java/lang/Enum", name := "ordinal", desc := "()I" } : MethodName)) ∈ AW := AW_m4 131 rfl rfl
theorem aw_905 : (Cond.code ({ cls := "java/lang/Enum", name := "ordinal", desc := "()I" } : MethodName) prog_18_method_2_code (1 : Nat) (Option.some FieldType.int)) ∈ AW := AW_m4 132 rfl rfl
theorem aw_906 : (Cond.methodLink "KilnKeeper" (191 : Nat) ({ cls := "KilnKeeper$Refusal", name := "because", desc := "(II)I" } : MethodName)) ∈ AW := AW_m4 133 rfl rfl
theorem aw_907 : (Cond.methodLink "KilnKeeperLaw" (109 : Nat) ({ cls := "KilnKeeper", name := "tell", desc := "()I" } : MethodName)) ∈ AW := AW_m4 134 rfl rfl
theorem aw_908 : (Cond.instanceMethod ({ cls := "KilnKeeper", name := "tell", desc := "()I" } : MethodName)) ∈ AW := AW_m4 135 rfl rfl
theorem aw_909 : (Cond.selects "KilnKeeper" ({ cls := "KilnKeeper", name := "tell", desc := "()I" } : MethodName) ({ cls := "KilnKeeper", name := "tell", desc := "()I" } : MethodName)) ∈ AW := AW_m4 136 rfl rfl
theorem aw_910 : (Cond.code ({ cls := "KilnKeeper", name := "tell", desc := "()I" } : MethodName) prog_1_method_25_code (1 : Nat) (Option.some FieldType.int)) ∈ AW := AW_m4 137 rfl rfl
theorem aw_911 : (Cond.methodLink "KilnKeeper" (194 : Nat) ({ cls := "java/lang/StringBuilder", name := "setLength", desc := "(I)V" } : MethodName)) ∈ AW := AW_m4 138 rfl rfl
theorem aw_912 : (Cond.methodLink "KilnKeeper" (198 : Nat) ({ cls := "KilnKeeper$Kiln", name := "write", desc := "(Ljava/lang/StringBuilder;)V" } : MethodName)) ∈ AW := AW_m4 139 rfl rfl
theorem aw_913 : (Cond.instanceMethod ({ cls := "KilnKeeper$Kiln", name := "write", desc := "(Ljava/lang/StringBuilder;)V" } : MethodName)) ∈ AW := AW_m4 140 rfl rfl
theorem aw_914 : (Cond.selects "KilnKeeper$Kiln" ({ cls := "KilnKeeper$Kiln", name := "write", desc := "(Ljava/lang/StringBuilder;)V" } : MethodName) ({ cls := "KilnKeeper$Kiln", name := "write", desc := "(Ljava/lang/StringBuilder;)V" } : MethodName)) ∈ AW := AW_m4 141 rfl rfl
theorem aw_915 : (Cond.code ({ cls := "KilnKeeper$Kiln", name := "write", desc := "(Ljava/lang/StringBuilder;)V" } : MethodName) prog_5_method_8_code (2 : Nat) (Option.none : Option FieldType)) ∈ AW := AW_m4 142 rfl rfl
theorem aw_916 : (Cond.methodLink "KilnKeeper$Kiln" (121 : Nat) ({ cls := "java/lang/StringBuilder", name := "append", desc := "(I)Ljava/lang/StringBuilder;" } : MethodName)) ∈ AW := AW_m4 143 rfl rfl
theorem aw_917 : (Cond.instanceMethod ({ cls := "java/lang/StringBuilder", name := "append", desc := "(I)Ljava/lang/StringBuilder;" } : MethodName)) ∈ AW := AW_m4 144 rfl rfl
theorem aw_918 : (Cond.selects "java/lang/StringBuilder" ({ cls := "java/lang/StringBuilder", name := "append", desc := "(I)Ljava/lang/StringBuilder;" } : MethodName) ({ cls := "java/lang/StringBuilder", name := "append", desc := "(I)Ljava/lang/StringBuilder;" } : MethodName)) ∈ AW := AW_m4 145 rfl rfl
theorem aw_919 : (Cond.code ({ cls := "java/lang/StringBuilder", name := "append", desc := "(I)Ljava/lang/StringBuilder;" } : MethodName) prog_22_method_15_code (2 : Nat) (Option.some (FieldType.object "java/lang/StringBuilder"))) ∈ AW := AW_m4 146 rfl rfl
theorem aw_920 : (Cond.methodLink "java/lang/StringBuilder" (53 : Nat) ({ cls := "java/lang/AbstractStringBuilder", name := "append", desc := "(I)Ljava/lang/AbstractStringBuilder;" } : MethodName)) ∈ AW := AW_m4 147 rfl rfl
theorem aw_921 : (Cond.instanceMethod ({ cls := "java/lang/AbstractStringBuilder", name := "append", desc := "(I)Ljava/lang/AbstractStringBuilder;" } : MethodName)) ∈ AW := AW_m4 148 rfl rfl
theorem aw_922 : (Cond.code ({ cls := "java/lang/AbstractStringBuilder", name := "append", desc := "(I)Ljava/lang/AbstractStringBuilder;" } : MethodName) prog_16_method_32_code (4 : Nat) (Option.some (FieldType.object "java/lang/AbstractStringBuilder"))) ∈ AW := AW_m4 149 rfl rfl
theorem aw_923 : (Cond.methodLink "java/lang/AbstractStringBuilder" (245 : Nat) ({ cls := "java/lang/Integer", name := "stringSize", desc := "(I)I" } : MethodName)) ∈ AW := AW_m4 150 rfl rfl
theorem aw_924 : (Cond.static ({ cls := "java/lang/Integer", name := "stringSize", desc := "(I)I" } : MethodName)) ∈ AW := AW_m4 151 rfl rfl
theorem aw_925 : (Cond.code ({ cls := "java/lang/Integer", name := "stringSize", desc := "(I)I" } : MethodName) prog_19_method_13_code (4 : Nat) (Option.some FieldType.int)) ∈ AW := AW_m4 152 rfl rfl
theorem aw_926 : (Cond.methodLink "java/lang/AbstractStringBuilder" (248 : Nat) ({ cls := "java/lang/Integer", name := "getChars", desc := "(II[B)I" } : MethodName)) ∈ AW := AW_m4 153 rfl rfl
theorem aw_927 : (Cond.static ({ cls := "java/lang/Integer", name := "getChars", desc := "(II[B)I" } : MethodName)) ∈ AW := AW_m4 154 rfl rfl
theorem aw_928 : (Cond.code ({ cls := "java/lang/Integer", name := "getChars", desc := "(II[B)I" } : MethodName) prog_19_method_12_code (7 : Nat) (Option.some FieldType.int)) ∈ AW := AW_m4 155 rfl rfl
theorem aw_929 : (Cond.fieldLink "java/lang/Integer" (83 : Nat) "java/lang/Integer" "DigitOnes" "[B") ∈ AW := AW_m4 156 rfl rfl
theorem at_930 : (Cond.laysStatic "java/lang/Integer" "DigitOnes" "[B") ∈ lw_tbl := List.mem_append_right _ (List.mem_append_right _ (List.mem_append_right _ (List.mem_append_right _ (List.mem_append_left _ (List.mem_of_getElem? (l := tables_1_4) (i := 157) rfl)))))
theorem aw_931 : (Cond.fieldLink "java/lang/Integer" (87 : Nat) "java/lang/Integer" "DigitTens" "[B") ∈ AW := AW_m4 158 rfl rfl
theorem at_932 : (Cond.laysStatic "java/lang/Integer" "DigitTens" "[B") ∈ lw_tbl := List.mem_append_right _ (List.mem_append_right _ (List.mem_append_right _ (List.mem_append_right _ (List.mem_append_left _ (List.mem_of_getElem? (l := tables_1_4) (i := 159) rfl)))))
theorem aw_933 : (Cond.methodLink "java/lang/AbstractStringBuilder" (251 : Nat) ({ cls := "java/lang/StringUTF16", name := "getChars", desc := "(III[B)I" } : MethodName)) ∈ AW := AW_m4 160 rfl rfl
theorem aw_934 : (Cond.static ({ cls := "java/lang/StringUTF16", name := "getChars", desc := "(III[B)I" } : MethodName)) ∈ AW := AW_m4 161 rfl rfl
theorem aw_935 : (Cond.code ({ cls := "java/lang/StringUTF16", name := "getChars", desc := "(III[B)I" } : MethodName) prog_24_method_77_code (5 : Nat) (Option.some FieldType.int)) ∈ AW := AW_m4 162 rfl rfl
theorem aw_936 : (Cond.methodLink "java/lang/StringUTF16" (96 : Nat) ({ cls := "java/lang/StringUTF16", name := "checkBoundsBeginEnd", desc := "(II[B)V" } : MethodName)) ∈ AW := AW_m4 163 rfl rfl
theorem aw_937 : (Cond.static ({ cls := "java/lang/StringUTF16", name := "checkBoundsBeginEnd", desc := "(II[B)V" } : MethodName)) ∈ AW := AW_m4 164 rfl rfl
theorem aw_938 : (Cond.code ({ cls := "java/lang/StringUTF16", name := "checkBoundsBeginEnd", desc := "(II[B)V" } : MethodName) prog_24_method_93_code (3 : Nat) (Option.none : Option FieldType)) ∈ AW := AW_m4 165 rfl rfl
theorem aw_939 : (Cond.methodLink "java/lang/StringUTF16" (241 : Nat) ({ cls := "java/lang/String", name := "checkBoundsBeginEnd", desc := "(III)V" } : MethodName)) ∈ AW := AW_m4 166 rfl rfl
theorem aw_940 : (Cond.static ({ cls := "java/lang/String", name := "checkBoundsBeginEnd", desc := "(III)V" } : MethodName)) ∈ AW := AW_m4 167 rfl rfl
theorem aw_941 : (Cond.code ({ cls := "java/lang/String", name := "checkBoundsBeginEnd", desc := "(III)V" } : MethodName) prog_21_method_158_code (3 : Nat) (Option.none : Option FieldType)) ∈ AW := AW_m4 168 rfl rfl
theorem aw_942 : (Cond.methodLink "java/lang/String" (1062 : Nat) ({ cls := "jdk/internal/util/Preconditions", name := "checkFromToIndex", desc := "(IIILjava/util/function/BiFunction;)I" } : MethodName)) ∈ AW := AW_m4 169 rfl rfl
theorem aw_943 : (Cond.static ({ cls := "jdk/internal/util/Preconditions", name := "checkFromToIndex", desc := "(IIILjava/util/function/BiFunction;)I" } : MethodName)) ∈ AW := AW_m4 170 rfl rfl
theorem aw_944 : (Cond.code ({ cls := "jdk/internal/util/Preconditions", name := "checkFromToIndex", desc := "(IIILjava/util/function/BiFunction;)I" } : MethodName) prog_28_method_12_code (4 : Nat) (Option.some FieldType.int)) ∈ AW := AW_m4 171 rfl rfl
theorem aw_945 : (Cond.methodLink "java/lang/StringUTF16" (393 : Nat) ({ cls := "java/lang/StringUTF16", name := "getChars", desc := "(II[B)I" } : MethodName)) ∈ AW := AW_m4 172 rfl rfl
theorem aw_946 : (Cond.static ({ cls := "java/lang/StringUTF16", name := "getChars", desc := "(II[B)I" } : MethodName)) ∈ AW := AW_m4 173 rfl rfl
theorem aw_947 : (Cond.code ({ cls := "java/lang/StringUTF16", name := "getChars", desc := "(II[B)I" } : MethodName) prog_24_method_89_code (7 : Nat) (Option.some FieldType.int)) ∈ AW := AW_m4 174 rfl rfl
theorem aw_948 : (Cond.fieldLink "java/lang/StringUTF16" (403 : Nat) "java/lang/Integer" "DigitOnes" "[B") ∈ AW := AW_m4 175 rfl rfl
theorem aw_949 : (Cond.fieldLink "java/lang/StringUTF16" (407 : Nat) "java/lang/Integer" "DigitTens" "[B") ∈ AW := AW_m4 176 rfl rfl
theorem aw_950 : (Cond.methodLink "KilnKeeper$Kiln" (127 : Nat) ({ cls := "java/lang/StringBuilder", name := "append", desc := "(C)Ljava/lang/StringBuilder;" } : MethodName)) ∈ AW := AW_m4 177 rfl rfl
theorem aw_951 : (Cond.methodLink "KilnKeeper$Kiln" (133 : Nat) ({ cls := "KilnKeeper$LagRow", name := "write", desc := "(Ljava/lang/StringBuilder;)V" } : MethodName)) ∈ AW := AW_m4 178 rfl rfl
theorem aw_952 : (Cond.instanceMethod ({ cls := "KilnKeeper$LagRow", name := "write", desc := "(Ljava/lang/StringBuilder;)V" } : MethodName)) ∈ AW := AW_m4 179 rfl rfl
theorem aw_953 : (Cond.selects "KilnKeeper$LagRow" ({ cls := "KilnKeeper$LagRow", name := "write", desc := "(Ljava/lang/StringBuilder;)V" } : MethodName) ({ cls := "KilnKeeper$LagRow", name := "write", desc := "(Ljava/lang/StringBuilder;)V" } : MethodName)) ∈ AW := AW_m4 180 rfl rfl
theorem aw_954 : (Cond.code ({ cls := "KilnKeeper$LagRow", name := "write", desc := "(Ljava/lang/StringBuilder;)V" } : MethodName) prog_6_method_5_code (3 : Nat) (Option.none : Option FieldType)) ∈ AW := AW_m4 181 rfl rfl
theorem aw_955 : (Cond.methodLink "KilnKeeper$LagRow" (35 : Nat) ({ cls := "java/lang/StringBuilder", name := "append", desc := "(C)Ljava/lang/StringBuilder;" } : MethodName)) ∈ AW := AW_m4 182 rfl rfl
theorem aw_956 : (Cond.methodLink "KilnKeeper$LagRow" (41 : Nat) ({ cls := "java/lang/StringBuilder", name := "append", desc := "(I)Ljava/lang/StringBuilder;" } : MethodName)) ∈ AW := AW_m4 183 rfl rfl
theorem aw_957 : (Cond.methodLink "KilnKeeper" (202 : Nat) ({ cls := "java/lang/StringBuilder", name := "length", desc := "()I" } : MethodName)) ∈ AW := AW_m4 184 rfl rfl
theorem aw_958 : (Cond.methodLink "KilnKeeperLaw" (113 : Nat) ({ cls := "KilnKeeper", name := "tellPot", desc := "(I)I" } : MethodName)) ∈ AW := AW_m4 185 rfl rfl
theorem aw_959 : (Cond.instanceMethod ({ cls := "KilnKeeper", name := "tellPot", desc := "(I)I" } : MethodName)) ∈ AW := AW_m4 186 rfl rfl
theorem aw_960 : (Cond.selects "KilnKeeper" ({ cls := "KilnKeeper", name := "tellPot", desc := "(I)I" } : MethodName) ({ cls := "KilnKeeper", name := "tellPot", desc := "(I)I" } : MethodName)) ∈ AW := AW_m4 187 rfl rfl
theorem aw_961 : (Cond.code ({ cls := "KilnKeeper", name := "tellPot", desc := "(I)I" } : MethodName) prog_1_method_26_code (3 : Nat) (Option.some FieldType.int)) ∈ AW := AW_m4 188 rfl rfl
theorem aw_962 : (Cond.methodLink "KilnKeeper" (205 : Nat) ({ cls := "java/lang/StringBuilder", name := "append", desc := "(I)Ljava/lang/StringBuilder;" } : MethodName)) ∈ AW := AW_m4 189 rfl rfl
theorem aw_963 : (Cond.methodLink "KilnKeeper" (209 : Nat) ({ cls := "KilnKeeper$Pot", name := "write", desc := "(Ljava/lang/StringBuilder;)V" } : MethodName)) ∈ AW := AW_m4 190 rfl rfl
theorem aw_964 : (Cond.instanceMethod ({ cls := "KilnKeeper$Pot", name := "write", desc := "(Ljava/lang/StringBuilder;)V" } : MethodName)) ∈ AW := AW_m4 191 rfl rfl
theorem aw_965 : (Cond.selects "KilnKeeper$Pot" ({ cls := "KilnKeeper$Pot", name := "write", desc := "(Ljava/lang/StringBuilder;)V" } : MethodName) ({ cls := "KilnKeeper$Pot", name := "write", desc := "(Ljava/lang/StringBuilder;)V" } : MethodName)) ∈ AW := AW_m4 192 rfl rfl
theorem aw_966 : (Cond.code ({ cls := "KilnKeeper$Pot", name := "write", desc := "(Ljava/lang/StringBuilder;)V" } : MethodName) prog_8_method_7_code (2 : Nat) (Option.none : Option FieldType)) ∈ AW := AW_m4 193 rfl rfl
theorem aw_967 : (Cond.methodLink "KilnKeeper$Pot" (40 : Nat) ({ cls := "java/lang/StringBuilder", name := "append", desc := "(C)Ljava/lang/StringBuilder;" } : MethodName)) ∈ AW := AW_m4 194 rfl rfl
theorem aw_968 : (Cond.methodLink "KilnKeeper$Pot" (46 : Nat) ({ cls := "java/lang/StringBuilder", name := "append", desc := "(I)Ljava/lang/StringBuilder;" } : MethodName)) ∈ AW := AW_m4 195 rfl rfl
theorem aw_969 : (Cond.methodLink "KilnKeeper$Pot" (49 : Nat) ({ cls := "KilnKeeper$Pot", name := "stateLetter", desc := "()C" } : MethodName)) ∈ AW := AW_m4 196 rfl rfl
theorem at_970 : (Cond.privateMethod ({ cls := "KilnKeeper$Pot", name := "stateLetter", desc := "()C" } : MethodName)) ∈ lw_tbl := List.mem_append_right _ (List.mem_append_right _ (List.mem_append_right _ (List.mem_append_right _ (List.mem_append_left _ (List.mem_of_getElem? (l := tables_1_4) (i := 197) rfl)))))
theorem aw_971 : (Cond.instanceMethod ({ cls := "KilnKeeper$Pot", name := "stateLetter", desc := "()C" } : MethodName)) ∈ AW := AW_m4 198 rfl rfl
theorem aw_972 : (Cond.code ({ cls := "KilnKeeper$Pot", name := "stateLetter", desc := "()C" } : MethodName) prog_8_method_8_code (1 : Nat) (Option.some FieldType.char)) ∈ AW := AW_m4 199 rfl rfl
theorem aw_973 : (Cond.methodLink "KilnKeeperLaw" (117 : Nat) ({ cls := "KilnKeeper", name := "character", desc := "(I)I" } : MethodName)) ∈ AW := AW_m4 200 rfl rfl
theorem aw_974 : (Cond.instanceMethod ({ cls := "KilnKeeper", name := "character", desc := "(I)I" } : MethodName)) ∈ AW := AW_m4 201 rfl rfl
theorem aw_975 : (Cond.selects "KilnKeeper" ({ cls := "KilnKeeper", name := "character", desc := "(I)I" } : MethodName) ({ cls := "KilnKeeper", name := "character", desc := "(I)I" } : MethodName)) ∈ AW := AW_m4 202 rfl rfl
theorem aw_976 : (Cond.code ({ cls := "KilnKeeper", name := "character", desc := "(I)I" } : MethodName) prog_1_method_27_code (2 : Nat) (Option.some FieldType.int)) ∈ AW := AW_m4 203 rfl rfl
theorem aw_977 : (Cond.methodLink "KilnKeeper" (210 : Nat) ({ cls := "java/lang/StringBuilder", name := "charAt", desc := "(I)C" } : MethodName)) ∈ AW := AW_m4 204 rfl rfl
theorem aw_978 : (Cond.methodLink "KilnKeeperLaw" (121 : Nat) ({ cls := "KilnKeeper", name := "reason", desc := "(Z)I" } : MethodName)) ∈ AW := AW_m4 205 rfl rfl
theorem aw_979 : (Cond.instanceMethod ({ cls := "KilnKeeper", name := "reason", desc := "(Z)I" } : MethodName)) ∈ AW := AW_m4 206 rfl rfl
theorem aw_980 : (Cond.selects "KilnKeeper" ({ cls := "KilnKeeper", name := "reason", desc := "(Z)I" } : MethodName) ({ cls := "KilnKeeper", name := "reason", desc := "(Z)I" } : MethodName)) ∈ AW := AW_m4 207 rfl rfl
theorem aw_981 : (Cond.code ({ cls := "KilnKeeper", name := "reason", desc := "(Z)I" } : MethodName) prog_1_method_28_code (2 : Nat) (Option.some FieldType.int)) ∈ AW := AW_m4 208 rfl rfl
theorem aw_982 : (Cond.methodLink "KilnKeeperLaw" (126 : Nat) ({ cls := "KilnKeeper", name := "account", desc := "(I)I" } : MethodName)) ∈ AW := AW_m4 209 rfl rfl
theorem aw_983 : (Cond.instanceMethod ({ cls := "KilnKeeper", name := "account", desc := "(I)I" } : MethodName)) ∈ AW := AW_m4 210 rfl rfl
theorem aw_984 : (Cond.selects "KilnKeeper" ({ cls := "KilnKeeper", name := "account", desc := "(I)I" } : MethodName) ({ cls := "KilnKeeper", name := "account", desc := "(I)I" } : MethodName)) ∈ AW := AW_m4 211 rfl rfl
theorem aw_985 : (Cond.code ({ cls := "KilnKeeper", name := "account", desc := "(I)I" } : MethodName) prog_1_method_29_code (2 : Nat) (Option.some FieldType.int)) ∈ AW := AW_m4 212 rfl rfl
theorem aw_986 : (Cond.methodLink "KilnKeeper" (220 : Nat) ({ cls := "KilnKeeper$Reader", name := "textLength", desc := "()I" } : MethodName)) ∈ AW := AW_m4 213 rfl rfl
theorem aw_987 : (Cond.instanceMethod ({ cls := "KilnKeeper$Reader", name := "textLength", desc := "()I" } : MethodName)) ∈ AW := AW_m4 214 rfl rfl
theorem aw_988 : (Cond.selects "KilnKeeper$Reader" ({ cls := "KilnKeeper$Reader", name := "textLength", desc := "()I" } : MethodName) ({ cls := "KilnKeeper$Reader", name := "textLength", desc := "()I" } : MethodName)) ∈ AW := AW_m4 215 rfl rfl
theorem aw_989 : (Cond.code ({ cls := "KilnKeeper$Reader", name := "textLength", desc := "()I" } : MethodName) prog_10_method_2_code (1 : Nat) (Option.some FieldType.int)) ∈ AW := AW_m4 216 rfl rfl
theorem aw_990 : (Cond.methodLink "KilnKeeper" (226 : Nat) ({ cls := "KilnKeeper$Kiln", name := "accountOf", desc := "(I)I" } : MethodName)) ∈ AW := AW_m4 217 rfl rfl
theorem aw_991 : (Cond.instanceMethod ({ cls := "KilnKeeper$Kiln", name := "accountOf", desc := "(I)I" } : MethodName)) ∈ AW := AW_m4 218 rfl rfl
theorem aw_992 : (Cond.selects "KilnKeeper$Kiln" ({ cls := "KilnKeeper$Kiln", name := "accountOf", desc := "(I)I" } : MethodName) ({ cls := "KilnKeeper$Kiln", name := "accountOf", desc := "(I)I" } : MethodName)) ∈ AW := AW_m4 219 rfl rfl
theorem aw_993 : (Cond.code ({ cls := "KilnKeeper$Kiln", name := "accountOf", desc := "(I)I" } : MethodName) prog_5_method_9_code (2 : Nat) (Option.some FieldType.int)) ∈ AW := AW_m4 220 rfl rfl
theorem aw_994 : (Cond.methodLink "KilnKeeper$Kiln" (152 : Nat) ({ cls := "KilnKeeper$Rack", name := "countOf", desc := "(I)I" } : MethodName)) ∈ AW := AW_m4 221 rfl rfl
theorem aw_995 : (Cond.instanceMethod ({ cls := "KilnKeeper$Rack", name := "countOf", desc := "(I)I" } : MethodName)) ∈ AW := AW_m4 222 rfl rfl
theorem aw_996 : (Cond.selects "KilnKeeper$Rack" ({ cls := "KilnKeeper$Rack", name := "countOf", desc := "(I)I" } : MethodName) ({ cls := "KilnKeeper$Rack", name := "countOf", desc := "(I)I" } : MethodName)) ∈ AW := AW_m4 223 rfl rfl
theorem aw_997 : (Cond.code ({ cls := "KilnKeeper$Rack", name := "countOf", desc := "(I)I" } : MethodName) prog_9_method_10_code (5 : Nat) (Option.some FieldType.int)) ∈ AW := AW_m4 224 rfl rfl
theorem aw_998 : (Cond.methodLink "KilnKeeper$Kiln" (155 : Nat) ({ cls := "KilnKeeper$Rack", name := "countWithin", desc := "()I" } : MethodName)) ∈ AW := AW_m4 225 rfl rfl
theorem aw_999 : (Cond.methodLink "KilnKeeperLaw" (130 : Nat) ({ cls := "KilnKeeper", name := "isBalanced", desc := "()I" } : MethodName)) ∈ AW := AW_m4 226 rfl rfl
theorem aw_1000 : (Cond.instanceMethod ({ cls := "KilnKeeper", name := "isBalanced", desc := "()I" } : MethodName)) ∈ AW := AW_m4 227 rfl rfl
theorem aw_1001 : (Cond.selects "KilnKeeper" ({ cls := "KilnKeeper", name := "isBalanced", desc := "()I" } : MethodName) ({ cls := "KilnKeeper", name := "isBalanced", desc := "()I" } : MethodName)) ∈ AW := AW_m4 228 rfl rfl
theorem aw_1002 : (Cond.code ({ cls := "KilnKeeper", name := "isBalanced", desc := "()I" } : MethodName) prog_1_method_30_code (1 : Nat) (Option.some FieldType.int)) ∈ AW := AW_m4 229 rfl rfl
theorem aw_1003 : (Cond.methodLink "KilnKeeper" (229 : Nat) ({ cls := "KilnKeeper$Book", name := "isInBalance", desc := "()Z" } : MethodName)) ∈ AW := AW_m4 230 rfl rfl
theorem aw_1004 : (Cond.instanceMethod ({ cls := "KilnKeeper$Book", name := "isInBalance", desc := "()Z" } : MethodName)) ∈ AW := AW_m4 231 rfl rfl
theorem aw_1005 : (Cond.selects "KilnKeeper$Book" ({ cls := "KilnKeeper$Book", name := "isInBalance", desc := "()Z" } : MethodName) ({ cls := "KilnKeeper$Book", name := "isInBalance", desc := "()Z" } : MethodName)) ∈ AW := AW_m4 232 rfl rfl
theorem aw_1006 : (Cond.code ({ cls := "KilnKeeper$Book", name := "isInBalance", desc := "()Z" } : MethodName) prog_3_method_8_code (3 : Nat) (Option.some FieldType.boolean)) ∈ AW := AW_m4 233 rfl rfl
theorem aw_1007 : (Cond.methodLink "KilnKeeper$Book" (57 : Nat) ({ cls := "KilnKeeper$Book", name := "burntByAmounts", desc := "()I" } : MethodName)) ∈ AW := AW_m4 234 rfl rfl
theorem aw_1008 : (Cond.methodLink "KilnKeeper" (233 : Nat) ({ cls := "KilnKeeper$Rack", name := "isNoneSoakedTooLong", desc := "()Z" } : MethodName)) ∈ AW := AW_m4 235 rfl rfl
theorem aw_1009 : (Cond.instanceMethod ({ cls := "KilnKeeper$Rack", name := "isNoneSoakedTooLong", desc := "()Z" } : MethodName)) ∈ AW := AW_m4 236 rfl rfl
theorem aw_1010 : (Cond.selects "KilnKeeper$Rack" ({ cls := "KilnKeeper$Rack", name := "isNoneSoakedTooLong", desc := "()Z" } : MethodName) ({ cls := "KilnKeeper$Rack", name := "isNoneSoakedTooLong", desc := "()Z" } : MethodName)) ∈ AW := AW_m4 237 rfl rfl
theorem aw_1011 : (Cond.code ({ cls := "KilnKeeper$Rack", name := "isNoneSoakedTooLong", desc := "()Z" } : MethodName) prog_9_method_13_code (3 : Nat) (Option.some FieldType.boolean)) ∈ AW := AW_m4 238 rfl rfl
theorem aw_1012 : (Cond.methodLink "KilnKeeperLaw" (134 : Nat) ({ cls := "KilnKeeper", name := "meanBurnt", desc := "()D" } : MethodName)) ∈ AW := AW_m4 239 rfl rfl
theorem aw_1013 : (Cond.instanceMethod ({ cls := "KilnKeeper", name := "meanBurnt", desc := "()D" } : MethodName)) ∈ AW := AW_m5 0 rfl rfl
theorem aw_1014 : (Cond.selects "KilnKeeper" ({ cls := "KilnKeeper", name := "meanBurnt", desc := "()D" } : MethodName) ({ cls := "KilnKeeper", name := "meanBurnt", desc := "()D" } : MethodName)) ∈ AW := AW_m5 1 rfl rfl
theorem aw_1015 : (Cond.code ({ cls := "KilnKeeper", name := "meanBurnt", desc := "()D" } : MethodName) prog_1_method_31_code (2 : Nat) (Option.some FieldType.double)) ∈ AW := AW_m5 2 rfl rfl
theorem aw_1016 : (Cond.methodLink "KilnKeeperLaw" (139 : Nat) ({ cls := "KilnKeeper", name := "firedShare", desc := "()F" } : MethodName)) ∈ AW := AW_m5 3 rfl rfl
theorem aw_1017 : (Cond.instanceMethod ({ cls := "KilnKeeper", name := "firedShare", desc := "()F" } : MethodName)) ∈ AW := AW_m5 4 rfl rfl
theorem aw_1018 : (Cond.selects "KilnKeeper" ({ cls := "KilnKeeper", name := "firedShare", desc := "()F" } : MethodName) ({ cls := "KilnKeeper", name := "firedShare", desc := "()F" } : MethodName)) ∈ AW := AW_m5 5 rfl rfl
theorem aw_1019 : (Cond.code ({ cls := "KilnKeeper", name := "firedShare", desc := "()F" } : MethodName) prog_1_method_32_code (2 : Nat) (Option.some FieldType.float)) ∈ AW := AW_m5 6 rfl rfl
theorem aw_1020 : (Cond.methodLink "KilnKeeper" (240 : Nat) ({ cls := "KilnKeeper$Rack", name := "countOf", desc := "(I)I" } : MethodName)) ∈ AW := AW_m5 7 rfl rfl
theorem aw_1021 : (Cond.methodLink "KilnKeeperLaw" (144 : Nat) ({ cls := "KilnKeeper", name := "undo", desc := "()I" } : MethodName)) ∈ AW := AW_m5 8 rfl rfl
theorem aw_1022 : (Cond.instanceMethod ({ cls := "KilnKeeper", name := "undo", desc := "()I" } : MethodName)) ∈ AW := AW_m5 9 rfl rfl
theorem aw_1023 : (Cond.selects "KilnKeeper" ({ cls := "KilnKeeper", name := "undo", desc := "()I" } : MethodName) ({ cls := "KilnKeeper", name := "undo", desc := "()I" } : MethodName)) ∈ AW := AW_m5 10 rfl rfl
theorem aw_1024 : (Cond.code ({ cls := "KilnKeeper", name := "undo", desc := "()I" } : MethodName) prog_1_method_33_code (1 : Nat) (Option.some FieldType.int)) ∈ AW := AW_m5 11 rfl rfl
theorem aw_1025 : (Cond.methodLink "KilnKeeper" (243 : Nat) ({ cls := "KilnKeeper$Changes", name := "takeBack", desc := "(LKilnKeeper$Kiln;)I" } : MethodName)) ∈ AW := AW_m5 12 rfl rfl
theorem aw_1026 : (Cond.instanceMethod ({ cls := "KilnKeeper$Changes", name := "takeBack", desc := "(LKilnKeeper$Kiln;)I" } : MethodName)) ∈ AW := AW_m5 13 rfl rfl
theorem aw_1027 : (Cond.selects "KilnKeeper$Changes" ({ cls := "KilnKeeper$Changes", name := "takeBack", desc := "(LKilnKeeper$Kiln;)I" } : MethodName) ({ cls := "KilnKeeper$Changes", name := "takeBack", desc := "(LKilnKeeper$Kiln;)I" } : MethodName)) ∈ AW := AW_m5 14 rfl rfl
theorem aw_1028 : (Cond.code ({ cls := "KilnKeeper$Changes", name := "takeBack", desc := "(LKilnKeeper$Kiln;)I" } : MethodName) prog_4_method_3_code (3 : Nat) (Option.some FieldType.int)) ∈ AW := AW_m5 15 rfl rfl
theorem aw_1029 : (Cond.methodLink "KilnKeeperLaw" (148 : Nat) ({ cls := "KilnKeeper", name := "save", desc := "()I" } : MethodName)) ∈ AW := AW_m5 16 rfl rfl
theorem aw_1030 : (Cond.instanceMethod ({ cls := "KilnKeeper", name := "save", desc := "()I" } : MethodName)) ∈ AW := AW_m5 17 rfl rfl
theorem aw_1031 : (Cond.selects "KilnKeeper" ({ cls := "KilnKeeper", name := "save", desc := "()I" } : MethodName) ({ cls := "KilnKeeper", name := "save", desc := "()I" } : MethodName)) ∈ AW := AW_m5 18 rfl rfl
theorem aw_1032 : (Cond.code ({ cls := "KilnKeeper", name := "save", desc := "()I" } : MethodName) prog_1_method_34_code (1 : Nat) (Option.some FieldType.int)) ∈ AW := AW_m5 19 rfl rfl
theorem aw_1033 : (Cond.methodLink "KilnKeeperLaw" (152 : Nat) ({ cls := "KilnKeeper", name := "restore", desc := "()I" } : MethodName)) ∈ AW := AW_m5 20 rfl rfl
theorem aw_1034 : (Cond.instanceMethod ({ cls := "KilnKeeper", name := "restore", desc := "()I" } : MethodName)) ∈ AW := AW_m5 21 rfl rfl
theorem aw_1035 : (Cond.selects "KilnKeeper" ({ cls := "KilnKeeper", name := "restore", desc := "()I" } : MethodName) ({ cls := "KilnKeeper", name := "restore", desc := "()I" } : MethodName)) ∈ AW := AW_m5 22 rfl rfl
theorem aw_1036 : (Cond.code ({ cls := "KilnKeeper", name := "restore", desc := "()I" } : MethodName) prog_1_method_35_code (1 : Nat) (Option.some FieldType.int)) ∈ AW := AW_m5 23 rfl rfl
theorem aw_1037 : (Cond.classLink "KilnKeeperLaw" (10 : Nat) "KilnKeeperModel") ∈ AW := AW_m5 24 rfl rfl
theorem aw_1038 : (Cond.instantiable "KilnKeeperModel" (20 : Nat)) ∈ AW := AW_m5 25 rfl rfl
theorem aw_1039 : (Cond.methodLink "KilnKeeperLaw" (12 : Nat) ({ cls := "KilnKeeperModel", name := "<init>", desc := "()V" } : MethodName)) ∈ AW := AW_m5 26 rfl rfl
theorem aw_1040 : (Cond.instanceMethod ({ cls := "KilnKeeperModel", name := "<init>", desc := "()V" } : MethodName)) ∈ AW := AW_m5 27 rfl rfl
theorem aw_1041 : (Cond.code ({ cls := "KilnKeeperModel", name := "<init>", desc := "()V" } : MethodName) prog_15_method_1_code (1 : Nat) (Option.none : Option FieldType)) ∈ AW := AW_m5 28 rfl rfl
theorem aw_1042 : (Cond.methodLink "KilnKeeperModel" (1 : Nat) ({ cls := "java/lang/Object", name := "<init>", desc := "()V" } : MethodName)) ∈ AW := AW_m5 29 rfl rfl
theorem aw_1043 : (Cond.fieldLink "KilnKeeperModel" (7 : Nat) "KilnKeeperModel" "s" "[I") ∈ AW := AW_m5 30 rfl rfl
theorem aw_1044 : (Cond.fieldLink "KilnKeeperModel" (13 : Nat) "KilnKeeperModel" "frame" "[I") ∈ AW := AW_m5 31 rfl rfl
theorem aw_1045 : (Cond.fieldLink "KilnKeeperModel" (16 : Nat) "KilnKeeperModel" "saved" "[I") ∈ AW := AW_m5 32 rfl rfl
theorem aw_1046 : (Cond.fieldLink "KilnKeeperModel" (19 : Nat) "KilnKeeperModel" "thought" "[I") ∈ AW := AW_m5 33 rfl rfl
theorem aw_1047 : (Cond.fieldLink "KilnKeeperModel" (22 : Nat) "KilnKeeperModel" "history" "[I") ∈ AW := AW_m5 34 rfl rfl
theorem aw_1048 : (Cond.fieldLink "KilnKeeperModel" (34 : Nat) "KilnKeeperModel" "kept" "I") ∈ AW := AW_m5 35 rfl rfl
theorem aw_1049 : (Cond.fieldLink "KilnKeeperModel" (231 : Nat) "KilnKeeperModel" "hasSaved" "Z") ∈ AW := AW_m5 36 rfl rfl
theorem aw_1050 : (Cond.fieldLink "KilnKeeperModel" (25 : Nat) "KilnKeeperModel" "text" "[I") ∈ AW := AW_m5 37 rfl rfl
theorem aw_1051 : (Cond.fieldLink "KilnKeeperModel" (28 : Nat) "KilnKeeperModel" "told" "[I") ∈ AW := AW_m5 38 rfl rfl
theorem aw_1052 : (Cond.fieldLink "KilnKeeperModel" (31 : Nat) "KilnKeeperModel" "line" "[I") ∈ AW := AW_m5 39 rfl rfl
theorem aw_1053 : (Cond.fieldLink "KilnKeeperModel" (146 : Nat) "KilnKeeperModel" "length" "I") ∈ AW := AW_m5 40 rfl rfl
theorem aw_1054 : (Cond.fieldLink "KilnKeeperModel" (213 : Nat) "KilnKeeperModel" "lineLength" "I") ∈ AW := AW_m5 41 rfl rfl
theorem aw_1055 : (Cond.fieldLink "KilnKeeperModel" (48 : Nat) "KilnKeeperModel" "why" "I") ∈ AW := AW_m5 42 rfl rfl
theorem aw_1056 : (Cond.fieldLink "KilnKeeperModel" (51 : Nat) "KilnKeeperModel" "detail" "I") ∈ AW := AW_m5 43 rfl rfl
theorem aw_1057 : (Cond.fieldLink "KilnKeeperModel" (38 : Nat) "KilnKeeperModel" "about" "I") ∈ AW := AW_m5 44 rfl rfl
theorem aw_1058 : (Cond.fieldLink "KilnKeeperModel" (41 : Nat) "KilnKeeperModel" "answer" "I") ∈ AW := AW_m5 45 rfl rfl
theorem aw_1059 : (Cond.fieldLink "KilnKeeperModel" (149 : Nat) "KilnKeeperModel" "spot" "I") ∈ AW := AW_m5 46 rfl rfl
theorem aw_1060 : (Cond.fieldLink "KilnKeeperModel" (152 : Nat) "KilnKeeperModel" "end" "I") ∈ AW := AW_m5 47 rfl rfl
theorem aw_1061 : (Cond.fieldLink "KilnKeeperModel" (176 : Nat) "KilnKeeperModel" "orders" "I") ∈ AW := AW_m5 48 rfl rfl
theorem aw_1062 : (Cond.fieldLink "KilnKeeperModel" (159 : Nat) "KilnKeeperModel" "isWrong" "Z") ∈ AW := AW_m5 49 rfl rfl
theorem aw_1063 : (Cond.laysFinal "KilnKeeperModel" "KilnKeeperModel" "s" "[I") ∈ AW := AW_m5 50 rfl rfl
theorem aw_1064 : (Cond.soleField "KilnKeeperModel" "s") ∈ AW := AW_m5 51 rfl rfl
theorem aw_1065 : (Cond.laysFinal "KilnKeeperModel" "KilnKeeperModel" "frame" "[I") ∈ AW := AW_m5 52 rfl rfl
theorem aw_1066 : (Cond.soleField "KilnKeeperModel" "frame") ∈ AW := AW_m5 53 rfl rfl
theorem aw_1067 : (Cond.laysFinal "KilnKeeperModel" "KilnKeeperModel" "saved" "[I") ∈ AW := AW_m5 54 rfl rfl
theorem aw_1068 : (Cond.soleField "KilnKeeperModel" "saved") ∈ AW := AW_m5 55 rfl rfl
theorem aw_1069 : (Cond.laysFinal "KilnKeeperModel" "KilnKeeperModel" "thought" "[I") ∈ AW := AW_m5 56 rfl rfl
theorem aw_1070 : (Cond.soleField "KilnKeeperModel" "thought") ∈ AW := AW_m5 57 rfl rfl
theorem aw_1071 : (Cond.laysFinal "KilnKeeperModel" "KilnKeeperModel" "history" "[I") ∈ AW := AW_m5 58 rfl rfl
theorem aw_1072 : (Cond.soleField "KilnKeeperModel" "history") ∈ AW := AW_m5 59 rfl rfl
theorem aw_1073 : (Cond.lays "KilnKeeperModel" "KilnKeeperModel" "kept" "I") ∈ AW := AW_m5 60 rfl rfl
theorem aw_1074 : (Cond.soleField "KilnKeeperModel" "kept") ∈ AW := AW_m5 61 rfl rfl
theorem aw_1075 : (Cond.lays "KilnKeeperModel" "KilnKeeperModel" "hasSaved" "Z") ∈ AW := AW_m5 62 rfl rfl
theorem aw_1076 : (Cond.soleField "KilnKeeperModel" "hasSaved") ∈ AW := AW_m5 63 rfl rfl
theorem aw_1077 : (Cond.laysFinal "KilnKeeperModel" "KilnKeeperModel" "text" "[I") ∈ AW := AW_m5 64 rfl rfl
theorem aw_1078 : (Cond.soleField "KilnKeeperModel" "text") ∈ AW := AW_m5 65 rfl rfl
theorem aw_1079 : (Cond.laysFinal "KilnKeeperModel" "KilnKeeperModel" "told" "[I") ∈ AW := AW_m5 66 rfl rfl
theorem aw_1080 : (Cond.soleField "KilnKeeperModel" "told") ∈ AW := AW_m5 67 rfl rfl
theorem aw_1081 : (Cond.laysFinal "KilnKeeperModel" "KilnKeeperModel" "line" "[I") ∈ AW := AW_m5 68 rfl rfl
theorem aw_1082 : (Cond.soleField "KilnKeeperModel" "line") ∈ AW := AW_m5 69 rfl rfl
theorem aw_1083 : (Cond.lays "KilnKeeperModel" "KilnKeeperModel" "length" "I") ∈ AW := AW_m5 70 rfl rfl
theorem aw_1084 : (Cond.soleField "KilnKeeperModel" "length") ∈ AW := AW_m5 71 rfl rfl
theorem aw_1085 : (Cond.lays "KilnKeeperModel" "KilnKeeperModel" "lineLength" "I") ∈ AW := AW_m5 72 rfl rfl
theorem aw_1086 : (Cond.soleField "KilnKeeperModel" "lineLength") ∈ AW := AW_m5 73 rfl rfl
theorem aw_1087 : (Cond.lays "KilnKeeperModel" "KilnKeeperModel" "why" "I") ∈ AW := AW_m5 74 rfl rfl
theorem aw_1088 : (Cond.soleField "KilnKeeperModel" "why") ∈ AW := AW_m5 75 rfl rfl
theorem aw_1089 : (Cond.lays "KilnKeeperModel" "KilnKeeperModel" "detail" "I") ∈ AW := AW_m5 76 rfl rfl
theorem aw_1090 : (Cond.soleField "KilnKeeperModel" "detail") ∈ AW := AW_m5 77 rfl rfl
theorem aw_1091 : (Cond.lays "KilnKeeperModel" "KilnKeeperModel" "about" "I") ∈ AW := AW_m5 78 rfl rfl
theorem aw_1092 : (Cond.soleField "KilnKeeperModel" "about") ∈ AW := AW_m5 79 rfl rfl
theorem aw_1093 : (Cond.lays "KilnKeeperModel" "KilnKeeperModel" "answer" "I") ∈ AW := AW_m5 80 rfl rfl
theorem aw_1094 : (Cond.soleField "KilnKeeperModel" "answer") ∈ AW := AW_m5 81 rfl rfl
theorem aw_1095 : (Cond.lays "KilnKeeperModel" "KilnKeeperModel" "spot" "I") ∈ AW := AW_m5 82 rfl rfl
theorem aw_1096 : (Cond.soleField "KilnKeeperModel" "spot") ∈ AW := AW_m5 83 rfl rfl
theorem aw_1097 : (Cond.lays "KilnKeeperModel" "KilnKeeperModel" "end" "I") ∈ AW := AW_m5 84 rfl rfl
theorem aw_1098 : (Cond.soleField "KilnKeeperModel" "end") ∈ AW := AW_m5 85 rfl rfl
theorem aw_1099 : (Cond.lays "KilnKeeperModel" "KilnKeeperModel" "orders" "I") ∈ AW := AW_m5 86 rfl rfl
theorem aw_1100 : (Cond.soleField "KilnKeeperModel" "orders") ∈ AW := AW_m5 87 rfl rfl
theorem aw_1101 : (Cond.lays "KilnKeeperModel" "KilnKeeperModel" "isWrong" "Z") ∈ AW := AW_m5 88 rfl rfl
theorem aw_1102 : (Cond.soleField "KilnKeeperModel" "isWrong") ∈ AW := AW_m5 89 rfl rfl
theorem aw_1103 : (Cond.superclass "KilnKeeperModel" "java/lang/Object") ∈ AW := AW_m5 90 rfl rfl
theorem aw_1104 : (Cond.methodLink "KilnKeeperLaw" (17 : Nat) ({ cls := "KilnKeeperModel", name := "aim", desc := "(I)I" } : MethodName)) ∈ AW := AW_m5 91 rfl rfl
theorem aw_1105 : (Cond.instanceMethod ({ cls := "KilnKeeperModel", name := "aim", desc := "(I)I" } : MethodName)) ∈ AW := AW_m5 92 rfl rfl
theorem aw_1106 : (Cond.selects "KilnKeeperModel" ({ cls := "KilnKeeperModel", name := "aim", desc := "(I)I" } : MethodName) ({ cls := "KilnKeeperModel", name := "aim", desc := "(I)I" } : MethodName)) ∈ AW := AW_m5 93 rfl rfl
theorem aw_1107 : (Cond.code ({ cls := "KilnKeeperModel", name := "aim", desc := "(I)I" } : MethodName) prog_15_method_29_code (2 : Nat) (Option.some FieldType.int)) ∈ AW := AW_m5 94 rfl rfl
theorem aw_1108 : (Cond.methodLink "KilnKeeperModel" (99 : Nat) ({ cls := "KilnKeeperModel", name := "remembers", desc := "()V" } : MethodName)) ∈ AW := AW_m5 95 rfl rfl
theorem at_1109 : (Cond.privateMethod ({ cls := "KilnKeeperModel", name := "remembers", desc := "()V" } : MethodName)) ∈ lw_tbl := List.mem_append_right _ (List.mem_append_right _ (List.mem_append_right _ (List.mem_append_right _ (List.mem_append_right _ (List.mem_append_left _ (List.mem_of_getElem? (l := tables_1_5) (i := 96) rfl))))))
theorem aw_1110 : (Cond.instanceMethod ({ cls := "KilnKeeperModel", name := "remembers", desc := "()V" } : MethodName)) ∈ AW := AW_m5 97 rfl rfl
theorem aw_1111 : (Cond.code ({ cls := "KilnKeeperModel", name := "remembers", desc := "()V" } : MethodName) prog_15_method_4_code (2 : Nat) (Option.none : Option FieldType)) ∈ AW := AW_m5 98 rfl rfl
theorem aw_1112 : (Cond.methodLink "KilnKeeperModel" (102 : Nat) ({ cls := "KilnKeeperModel", name := "aims", desc := "(I)I" } : MethodName)) ∈ AW := AW_m5 99 rfl rfl
theorem at_1113 : (Cond.privateMethod ({ cls := "KilnKeeperModel", name := "aims", desc := "(I)I" } : MethodName)) ∈ lw_tbl := List.mem_append_right _ (List.mem_append_right _ (List.mem_append_right _ (List.mem_append_right _ (List.mem_append_right _ (List.mem_append_left _ (List.mem_of_getElem? (l := tables_1_5) (i := 100) rfl))))))
theorem aw_1114 : (Cond.instanceMethod ({ cls := "KilnKeeperModel", name := "aims", desc := "(I)I" } : MethodName)) ∈ AW := AW_m5 101 rfl rfl
theorem aw_1115 : (Cond.code ({ cls := "KilnKeeperModel", name := "aims", desc := "(I)I" } : MethodName) prog_15_method_19_code (3 : Nat) (Option.some FieldType.int)) ∈ AW := AW_m5 102 rfl rfl
theorem aw_1116 : (Cond.methodLink "KilnKeeperModel" (54 : Nat) ({ cls := "KilnKeeperModel", name := "in", desc := "(III)Z" } : MethodName)) ∈ AW := AW_m5 103 rfl rfl
theorem aw_1117 : (Cond.static ({ cls := "KilnKeeperModel", name := "in", desc := "(III)Z" } : MethodName)) ∈ AW := AW_m5 104 rfl rfl
theorem aw_1118 : (Cond.code ({ cls := "KilnKeeperModel", name := "in", desc := "(III)Z" } : MethodName) prog_15_method_2_code (3 : Nat) (Option.some FieldType.boolean)) ∈ AW := AW_m5 105 rfl rfl
theorem aw_1119 : (Cond.methodLink "KilnKeeperModel" (85 : Nat) ({ cls := "KilnKeeperModel", name := "refused", desc := "(II)I" } : MethodName)) ∈ AW := AW_m5 106 rfl rfl
theorem at_1120 : (Cond.privateMethod ({ cls := "KilnKeeperModel", name := "refused", desc := "(II)I" } : MethodName)) ∈ lw_tbl := List.mem_append_right _ (List.mem_append_right _ (List.mem_append_right _ (List.mem_append_right _ (List.mem_append_right _ (List.mem_append_left _ (List.mem_of_getElem? (l := tables_1_5) (i := 107) rfl))))))
theorem aw_1121 : (Cond.instanceMethod ({ cls := "KilnKeeperModel", name := "refused", desc := "(II)I" } : MethodName)) ∈ AW := AW_m5 108 rfl rfl
theorem aw_1122 : (Cond.code ({ cls := "KilnKeeperModel", name := "refused", desc := "(II)I" } : MethodName) prog_15_method_6_code (3 : Nat) (Option.some FieldType.int)) ∈ AW := AW_m5 109 rfl rfl
theorem aw_1123 : (Cond.methodLink "KilnKeeperModel" (89 : Nat) ({ cls := "KilnKeeperModel", name := "done", desc := "(I)I" } : MethodName)) ∈ AW := AW_m5 110 rfl rfl
theorem at_1124 : (Cond.privateMethod ({ cls := "KilnKeeperModel", name := "done", desc := "(I)I" } : MethodName)) ∈ lw_tbl := List.mem_append_right _ (List.mem_append_right _ (List.mem_append_right _ (List.mem_append_right _ (List.mem_append_right _ (List.mem_append_left _ (List.mem_of_getElem? (l := tables_1_5) (i := 111) rfl))))))
theorem aw_1125 : (Cond.instanceMethod ({ cls := "KilnKeeperModel", name := "done", desc := "(I)I" } : MethodName)) ∈ AW := AW_m5 112 rfl rfl
theorem aw_1126 : (Cond.code ({ cls := "KilnKeeperModel", name := "done", desc := "(I)I" } : MethodName) prog_15_method_7_code (2 : Nat) (Option.some FieldType.int)) ∈ AW := AW_m5 113 rfl rfl
theorem aw_1127 : (Cond.methodLink "KilnKeeperModel" (105 : Nat) ({ cls := "KilnKeeperModel", name := "ends", desc := "(I)I" } : MethodName)) ∈ AW := AW_m5 114 rfl rfl
theorem at_1128 : (Cond.privateMethod ({ cls := "KilnKeeperModel", name := "ends", desc := "(I)I" } : MethodName)) ∈ lw_tbl := List.mem_append_right _ (List.mem_append_right _ (List.mem_append_right _ (List.mem_append_right _ (List.mem_append_right _ (List.mem_append_left _ (List.mem_of_getElem? (l := tables_1_5) (i := 115) rfl))))))
theorem aw_1129 : (Cond.instanceMethod ({ cls := "KilnKeeperModel", name := "ends", desc := "(I)I" } : MethodName)) ∈ AW := AW_m5 116 rfl rfl
theorem aw_1130 : (Cond.code ({ cls := "KilnKeeperModel", name := "ends", desc := "(I)I" } : MethodName) prog_15_method_8_code (2 : Nat) (Option.some FieldType.int)) ∈ AW := AW_m5 117 rfl rfl
theorem aw_1131 : (Cond.methodLink "KilnKeeperModel" (44 : Nat) ({ cls := "KilnKeeperModel", name := "changed", desc := "(I)I" } : MethodName)) ∈ AW := AW_m5 118 rfl rfl
theorem at_1132 : (Cond.privateMethod ({ cls := "KilnKeeperModel", name := "changed", desc := "(I)I" } : MethodName)) ∈ lw_tbl := List.mem_append_right _ (List.mem_append_right _ (List.mem_append_right _ (List.mem_append_right _ (List.mem_append_right _ (List.mem_append_left _ (List.mem_of_getElem? (l := tables_1_5) (i := 119) rfl))))))
theorem aw_1133 : (Cond.instanceMethod ({ cls := "KilnKeeperModel", name := "changed", desc := "(I)I" } : MethodName)) ∈ AW := AW_m5 120 rfl rfl
theorem aw_1134 : (Cond.code ({ cls := "KilnKeeperModel", name := "changed", desc := "(I)I" } : MethodName) prog_15_method_5_code (3 : Nat) (Option.some FieldType.int)) ∈ AW := AW_m5 121 rfl rfl
theorem aw_1135 : (Cond.methodLink "KilnKeeperLaw" (22 : Nat) ({ cls := "KilnKeeperModel", name := "gains", desc := "(III)I" } : MethodName)) ∈ AW := AW_m5 122 rfl rfl
theorem aw_1136 : (Cond.instanceMethod ({ cls := "KilnKeeperModel", name := "gains", desc := "(III)I" } : MethodName)) ∈ AW := AW_m5 123 rfl rfl
theorem aw_1137 : (Cond.selects "KilnKeeperModel" ({ cls := "KilnKeeperModel", name := "gains", desc := "(III)I" } : MethodName) ({ cls := "KilnKeeperModel", name := "gains", desc := "(III)I" } : MethodName)) ∈ AW := AW_m5 124 rfl rfl
theorem aw_1138 : (Cond.code ({ cls := "KilnKeeperModel", name := "gains", desc := "(III)I" } : MethodName) prog_15_method_30_code (4 : Nat) (Option.some FieldType.int)) ∈ AW := AW_m5 125 rfl rfl
theorem aw_1139 : (Cond.methodLink "KilnKeeperModel" (108 : Nat) ({ cls := "KilnKeeperModel", name := "gainsOf", desc := "(III)I" } : MethodName)) ∈ AW := AW_m5 126 rfl rfl
theorem at_1140 : (Cond.privateMethod ({ cls := "KilnKeeperModel", name := "gainsOf", desc := "(III)I" } : MethodName)) ∈ lw_tbl := List.mem_append_right _ (List.mem_append_right _ (List.mem_append_right _ (List.mem_append_right _ (List.mem_append_right _ (List.mem_append_left _ (List.mem_of_getElem? (l := tables_1_5) (i := 127) rfl))))))
theorem aw_1141 : (Cond.instanceMethod ({ cls := "KilnKeeperModel", name := "gainsOf", desc := "(III)I" } : MethodName)) ∈ AW := AW_m5 128 rfl rfl
theorem aw_1142 : (Cond.code ({ cls := "KilnKeeperModel", name := "gainsOf", desc := "(III)I" } : MethodName) prog_15_method_20_code (5 : Nat) (Option.some FieldType.int)) ∈ AW := AW_m5 129 rfl rfl
theorem aw_1143 : (Cond.methodLink "KilnKeeperLaw" (26 : Nat) ({ cls := "KilnKeeperModel", name := "cap", desc := "(I)I" } : MethodName)) ∈ AW := AW_m5 130 rfl rfl
theorem aw_1144 : (Cond.instanceMethod ({ cls := "KilnKeeperModel", name := "cap", desc := "(I)I" } : MethodName)) ∈ AW := AW_m5 131 rfl rfl
theorem aw_1145 : (Cond.selects "KilnKeeperModel" ({ cls := "KilnKeeperModel", name := "cap", desc := "(I)I" } : MethodName) ({ cls := "KilnKeeperModel", name := "cap", desc := "(I)I" } : MethodName)) ∈ AW := AW_m5 132 rfl rfl
theorem aw_1146 : (Cond.code ({ cls := "KilnKeeperModel", name := "cap", desc := "(I)I" } : MethodName) prog_15_method_31_code (2 : Nat) (Option.some FieldType.int)) ∈ AW := AW_m5 133 rfl rfl
theorem aw_1147 : (Cond.methodLink "KilnKeeperModel" (111 : Nat) ({ cls := "KilnKeeperModel", name := "caps", desc := "(I)I" } : MethodName)) ∈ AW := AW_m5 134 rfl rfl
theorem at_1148 : (Cond.privateMethod ({ cls := "KilnKeeperModel", name := "caps", desc := "(I)I" } : MethodName)) ∈ lw_tbl := List.mem_append_right _ (List.mem_append_right _ (List.mem_append_right _ (List.mem_append_right _ (List.mem_append_right _ (List.mem_append_left _ (List.mem_of_getElem? (l := tables_1_5) (i := 135) rfl))))))
theorem aw_1149 : (Cond.instanceMethod ({ cls := "KilnKeeperModel", name := "caps", desc := "(I)I" } : MethodName)) ∈ AW := AW_m5 136 rfl rfl
theorem aw_1150 : (Cond.code ({ cls := "KilnKeeperModel", name := "caps", desc := "(I)I" } : MethodName) prog_15_method_21_code (3 : Nat) (Option.some FieldType.int)) ∈ AW := AW_m5 137 rfl rfl
theorem aw_1151 : (Cond.methodLink "KilnKeeperModel" (62 : Nat) ({ cls := "KilnKeeperModel", name := "between", desc := "(III)I" } : MethodName)) ∈ AW := AW_m5 138 rfl rfl
theorem aw_1152 : (Cond.static ({ cls := "KilnKeeperModel", name := "between", desc := "(III)I" } : MethodName)) ∈ AW := AW_m5 139 rfl rfl
theorem aw_1153 : (Cond.code ({ cls := "KilnKeeperModel", name := "between", desc := "(III)I" } : MethodName) prog_15_method_3_code (3 : Nat) (Option.some FieldType.int)) ∈ AW := AW_m5 140 rfl rfl
theorem aw_1154 : (Cond.methodLink "KilnKeeperLaw" (30 : Nat) ({ cls := "KilnKeeperModel", name := "lag", desc := "(I)I" } : MethodName)) ∈ AW := AW_m5 141 rfl rfl
theorem aw_1155 : (Cond.instanceMethod ({ cls := "KilnKeeperModel", name := "lag", desc := "(I)I" } : MethodName)) ∈ AW := AW_m5 142 rfl rfl
theorem aw_1156 : (Cond.selects "KilnKeeperModel" ({ cls := "KilnKeeperModel", name := "lag", desc := "(I)I" } : MethodName) ({ cls := "KilnKeeperModel", name := "lag", desc := "(I)I" } : MethodName)) ∈ AW := AW_m5 143 rfl rfl
theorem aw_1157 : (Cond.code ({ cls := "KilnKeeperModel", name := "lag", desc := "(I)I" } : MethodName) prog_15_method_32_code (2 : Nat) (Option.some FieldType.int)) ∈ AW := AW_m5 144 rfl rfl
theorem aw_1158 : (Cond.methodLink "KilnKeeperModel" (114 : Nat) ({ cls := "KilnKeeperModel", name := "lags", desc := "(I)I" } : MethodName)) ∈ AW := AW_m5 145 rfl rfl
theorem at_1159 : (Cond.privateMethod ({ cls := "KilnKeeperModel", name := "lags", desc := "(I)I" } : MethodName)) ∈ lw_tbl := List.mem_append_right _ (List.mem_append_right _ (List.mem_append_right _ (List.mem_append_right _ (List.mem_append_right _ (List.mem_append_left _ (List.mem_of_getElem? (l := tables_1_5) (i := 146) rfl))))))
theorem aw_1160 : (Cond.instanceMethod ({ cls := "KilnKeeperModel", name := "lags", desc := "(I)I" } : MethodName)) ∈ AW := AW_m5 147 rfl rfl
theorem aw_1161 : (Cond.code ({ cls := "KilnKeeperModel", name := "lags", desc := "(I)I" } : MethodName) prog_15_method_22_code (4 : Nat) (Option.some FieldType.int)) ∈ AW := AW_m5 148 rfl rfl
theorem aw_1162 : (Cond.methodLink "KilnKeeperModel" (72 : Nat) ({ cls := "KilnKeeperModel", name := "lagged", desc := "(I)I" } : MethodName)) ∈ AW := AW_m5 149 rfl rfl
theorem at_1163 : (Cond.privateMethod ({ cls := "KilnKeeperModel", name := "lagged", desc := "(I)I" } : MethodName)) ∈ lw_tbl := List.mem_append_right _ (List.mem_append_right _ (List.mem_append_right _ (List.mem_append_right _ (List.mem_append_right _ (List.mem_append_left _ (List.mem_of_getElem? (l := tables_1_5) (i := 150) rfl))))))
theorem aw_1164 : (Cond.instanceMethod ({ cls := "KilnKeeperModel", name := "lagged", desc := "(I)I" } : MethodName)) ∈ AW := AW_m5 151 rfl rfl
theorem aw_1165 : (Cond.code ({ cls := "KilnKeeperModel", name := "lagged", desc := "(I)I" } : MethodName) prog_15_method_13_code (4 : Nat) (Option.some FieldType.int)) ∈ AW := AW_m5 152 rfl rfl
theorem aw_1166 : (Cond.methodLink "KilnKeeperLaw" (34 : Nat) ({ cls := "KilnKeeperModel", name := "fuel", desc := "(I)I" } : MethodName)) ∈ AW := AW_m5 153 rfl rfl
theorem aw_1167 : (Cond.instanceMethod ({ cls := "KilnKeeperModel", name := "fuel", desc := "(I)I" } : MethodName)) ∈ AW := AW_m5 154 rfl rfl
theorem aw_1168 : (Cond.selects "KilnKeeperModel" ({ cls := "KilnKeeperModel", name := "fuel", desc := "(I)I" } : MethodName) ({ cls := "KilnKeeperModel", name := "fuel", desc := "(I)I" } : MethodName)) ∈ AW := AW_m5 155 rfl rfl
theorem aw_1169 : (Cond.code ({ cls := "KilnKeeperModel", name := "fuel", desc := "(I)I" } : MethodName) prog_15_method_33_code (2 : Nat) (Option.some FieldType.int)) ∈ AW := AW_m5 156 rfl rfl
theorem aw_1170 : (Cond.methodLink "KilnKeeperModel" (117 : Nat) ({ cls := "KilnKeeperModel", name := "fuels", desc := "(I)I" } : MethodName)) ∈ AW := AW_m5 157 rfl rfl
theorem at_1171 : (Cond.privateMethod ({ cls := "KilnKeeperModel", name := "fuels", desc := "(I)I" } : MethodName)) ∈ lw_tbl := List.mem_append_right _ (List.mem_append_right _ (List.mem_append_right _ (List.mem_append_right _ (List.mem_append_right _ (List.mem_append_left _ (List.mem_of_getElem? (l := tables_1_5) (i := 158) rfl))))))
theorem aw_1172 : (Cond.instanceMethod ({ cls := "KilnKeeperModel", name := "fuels", desc := "(I)I" } : MethodName)) ∈ AW := AW_m5 159 rfl rfl
theorem aw_1173 : (Cond.code ({ cls := "KilnKeeperModel", name := "fuels", desc := "(I)I" } : MethodName) prog_15_method_23_code (2 : Nat) (Option.some FieldType.int)) ∈ AW := AW_m5 160 rfl rfl
theorem aw_1174 : (Cond.methodLink "KilnKeeperLaw" (38 : Nat) ({ cls := "KilnKeeperModel", name := "go", desc := "(I)I" } : MethodName)) ∈ AW := AW_m5 161 rfl rfl
theorem aw_1175 : (Cond.instanceMethod ({ cls := "KilnKeeperModel", name := "go", desc := "(I)I" } : MethodName)) ∈ AW := AW_m5 162 rfl rfl
theorem aw_1176 : (Cond.selects "KilnKeeperModel" ({ cls := "KilnKeeperModel", name := "go", desc := "(I)I" } : MethodName) ({ cls := "KilnKeeperModel", name := "go", desc := "(I)I" } : MethodName)) ∈ AW := AW_m5 163 rfl rfl
theorem aw_1177 : (Cond.code ({ cls := "KilnKeeperModel", name := "go", desc := "(I)I" } : MethodName) prog_15_method_34_code (2 : Nat) (Option.some FieldType.int)) ∈ AW := AW_m5 164 rfl rfl
theorem aw_1178 : (Cond.methodLink "KilnKeeperModel" (120 : Nat) ({ cls := "KilnKeeperModel", name := "goesOn", desc := "(I)I" } : MethodName)) ∈ AW := AW_m5 165 rfl rfl
theorem at_1179 : (Cond.privateMethod ({ cls := "KilnKeeperModel", name := "goesOn", desc := "(I)I" } : MethodName)) ∈ lw_tbl := List.mem_append_right _ (List.mem_append_right _ (List.mem_append_right _ (List.mem_append_right _ (List.mem_append_right _ (List.mem_append_left _ (List.mem_of_getElem? (l := tables_1_5) (i := 166) rfl))))))
theorem aw_1180 : (Cond.instanceMethod ({ cls := "KilnKeeperModel", name := "goesOn", desc := "(I)I" } : MethodName)) ∈ AW := AW_m5 167 rfl rfl
theorem aw_1181 : (Cond.code ({ cls := "KilnKeeperModel", name := "goesOn", desc := "(I)I" } : MethodName) prog_15_method_24_code (3 : Nat) (Option.some FieldType.int)) ∈ AW := AW_m5 168 rfl rfl
theorem aw_1182 : (Cond.methodLink "KilnKeeperModel" (82 : Nat) ({ cls := "KilnKeeperModel", name := "goesBy", desc := "()V" } : MethodName)) ∈ AW := AW_m5 169 rfl rfl
theorem at_1183 : (Cond.privateMethod ({ cls := "KilnKeeperModel", name := "goesBy", desc := "()V" } : MethodName)) ∈ lw_tbl := List.mem_append_right _ (List.mem_append_right _ (List.mem_append_right _ (List.mem_append_right _ (List.mem_append_right _ (List.mem_append_left _ (List.mem_of_getElem? (l := tables_1_5) (i := 170) rfl))))))
theorem aw_1184 : (Cond.instanceMethod ({ cls := "KilnKeeperModel", name := "goesBy", desc := "()V" } : MethodName)) ∈ AW := AW_m5 171 rfl rfl
theorem aw_1185 : (Cond.code ({ cls := "KilnKeeperModel", name := "goesBy", desc := "()V" } : MethodName) prog_15_method_16_code (7 : Nat) (Option.none : Option FieldType)) ∈ AW := AW_m5 172 rfl rfl
theorem aw_1186 : (Cond.methodLink "KilnKeeperModel" (58 : Nat) ({ cls := "KilnKeeperModel", name := "error", desc := "()I" } : MethodName)) ∈ AW := AW_m5 173 rfl rfl
theorem at_1187 : (Cond.privateMethod ({ cls := "KilnKeeperModel", name := "error", desc := "()I" } : MethodName)) ∈ lw_tbl := List.mem_append_right _ (List.mem_append_right _ (List.mem_append_right _ (List.mem_append_right _ (List.mem_append_right _ (List.mem_append_left _ (List.mem_of_getElem? (l := tables_1_5) (i := 174) rfl))))))
theorem aw_1188 : (Cond.instanceMethod ({ cls := "KilnKeeperModel", name := "error", desc := "()I" } : MethodName)) ∈ AW := AW_m5 175 rfl rfl
theorem aw_1189 : (Cond.code ({ cls := "KilnKeeperModel", name := "error", desc := "()I" } : MethodName) prog_15_method_10_code (1 : Nat) (Option.some FieldType.int)) ∈ AW := AW_m5 176 rfl rfl
theorem aw_1190 : (Cond.methodLink "KilnKeeperModel" (69 : Nat) ({ cls := "KilnKeeperModel", name := "wantedNow", desc := "()I" } : MethodName)) ∈ AW := AW_m5 177 rfl rfl
theorem at_1191 : (Cond.privateMethod ({ cls := "KilnKeeperModel", name := "wantedNow", desc := "()I" } : MethodName)) ∈ lw_tbl := List.mem_append_right _ (List.mem_append_right _ (List.mem_append_right _ (List.mem_append_right _ (List.mem_append_right _ (List.mem_append_left _ (List.mem_of_getElem? (l := tables_1_5) (i := 178) rfl))))))
theorem aw_1192 : (Cond.instanceMethod ({ cls := "KilnKeeperModel", name := "wantedNow", desc := "()I" } : MethodName)) ∈ AW := AW_m5 179 rfl rfl
theorem aw_1193 : (Cond.code ({ cls := "KilnKeeperModel", name := "wantedNow", desc := "()I" } : MethodName) prog_15_method_12_code (1 : Nat) (Option.some FieldType.int)) ∈ AW := AW_m5 180 rfl rfl
theorem aw_1194 : (Cond.methodLink "KilnKeeperModel" (66 : Nat) ({ cls := "KilnKeeperModel", name := "sumThen", desc := "()I" } : MethodName)) ∈ AW := AW_m5 181 rfl rfl
theorem at_1195 : (Cond.privateMethod ({ cls := "KilnKeeperModel", name := "sumThen", desc := "()I" } : MethodName)) ∈ lw_tbl := List.mem_append_right _ (List.mem_append_right _ (List.mem_append_right _ (List.mem_append_right _ (List.mem_append_right _ (List.mem_append_left _ (List.mem_of_getElem? (l := tables_1_5) (i := 182) rfl))))))
theorem aw_1196 : (Cond.instanceMethod ({ cls := "KilnKeeperModel", name := "sumThen", desc := "()I" } : MethodName)) ∈ AW := AW_m5 183 rfl rfl
theorem aw_1197 : (Cond.code ({ cls := "KilnKeeperModel", name := "sumThen", desc := "()I" } : MethodName) prog_15_method_11_code (1 : Nat) (Option.some FieldType.int)) ∈ AW := AW_m5 184 rfl rfl
theorem aw_1198 : (Cond.methodLink "KilnKeeperModel" (75 : Nat) ({ cls := "KilnKeeperModel", name := "notesMinute", desc := "(II)V" } : MethodName)) ∈ AW := AW_m5 185 rfl rfl
theorem at_1199 : (Cond.privateMethod ({ cls := "KilnKeeperModel", name := "notesMinute", desc := "(II)V" } : MethodName)) ∈ lw_tbl := List.mem_append_right _ (List.mem_append_right _ (List.mem_append_right _ (List.mem_append_right _ (List.mem_append_right _ (List.mem_append_left _ (List.mem_of_getElem? (l := tables_1_5) (i := 186) rfl))))))
theorem aw_1200 : (Cond.instanceMethod ({ cls := "KilnKeeperModel", name := "notesMinute", desc := "(II)V" } : MethodName)) ∈ AW := AW_m5 187 rfl rfl
theorem aw_1201 : (Cond.code ({ cls := "KilnKeeperModel", name := "notesMinute", desc := "(II)V" } : MethodName) prog_15_method_14_code (4 : Nat) (Option.none : Option FieldType)) ∈ AW := AW_m5 188 rfl rfl
theorem aw_1202 : (Cond.methodLink "KilnKeeperModel" (79 : Nat) ({ cls := "KilnKeeperModel", name := "heats", desc := "(II)V" } : MethodName)) ∈ AW := AW_m5 189 rfl rfl
theorem at_1203 : (Cond.privateMethod ({ cls := "KilnKeeperModel", name := "heats", desc := "(II)V" } : MethodName)) ∈ lw_tbl := List.mem_append_right _ (List.mem_append_right _ (List.mem_append_right _ (List.mem_append_right _ (List.mem_append_right _ (List.mem_append_left _ (List.mem_of_getElem? (l := tables_1_5) (i := 190) rfl))))))
theorem aw_1204 : (Cond.instanceMethod ({ cls := "KilnKeeperModel", name := "heats", desc := "(II)V" } : MethodName)) ∈ AW := AW_m5 191 rfl rfl
theorem aw_1205 : (Cond.code ({ cls := "KilnKeeperModel", name := "heats", desc := "(II)V" } : MethodName) prog_15_method_15_code (3 : Nat) (Option.none : Option FieldType)) ∈ AW := AW_m5 192 rfl rfl
theorem aw_1206 : (Cond.methodLink "KilnKeeperLaw" (42 : Nat) ({ cls := "KilnKeeperModel", name := "pot", desc := "(III)I" } : MethodName)) ∈ AW := AW_m5 193 rfl rfl
theorem aw_1207 : (Cond.instanceMethod ({ cls := "KilnKeeperModel", name := "pot", desc := "(III)I" } : MethodName)) ∈ AW := AW_m5 194 rfl rfl
theorem aw_1208 : (Cond.selects "KilnKeeperModel" ({ cls := "KilnKeeperModel", name := "pot", desc := "(III)I" } : MethodName) ({ cls := "KilnKeeperModel", name := "pot", desc := "(III)I" } : MethodName)) ∈ AW := AW_m5 195 rfl rfl
theorem aw_1209 : (Cond.code ({ cls := "KilnKeeperModel", name := "pot", desc := "(III)I" } : MethodName) prog_15_method_35_code (4 : Nat) (Option.some FieldType.int)) ∈ AW := AW_m5 196 rfl rfl
theorem aw_1210 : (Cond.methodLink "KilnKeeperModel" (123 : Nat) ({ cls := "KilnKeeperModel", name := "comes", desc := "(III)I" } : MethodName)) ∈ AW := AW_m5 197 rfl rfl
theorem at_1211 : (Cond.privateMethod ({ cls := "KilnKeeperModel", name := "comes", desc := "(III)I" } : MethodName)) ∈ lw_tbl := List.mem_append_right _ (List.mem_append_right _ (List.mem_append_right _ (List.mem_append_right _ (List.mem_append_right _ (List.mem_append_left _ (List.mem_of_getElem? (l := tables_1_5) (i := 198) rfl))))))
theorem aw_1212 : (Cond.instanceMethod ({ cls := "KilnKeeperModel", name := "comes", desc := "(III)I" } : MethodName)) ∈ AW := AW_m5 199 rfl rfl
theorem aw_1213 : (Cond.code ({ cls := "KilnKeeperModel", name := "comes", desc := "(III)I" } : MethodName) prog_15_method_25_code (5 : Nat) (Option.some FieldType.int)) ∈ AW := AW_m5 200 rfl rfl
theorem aw_1214 : (Cond.methodLink "KilnKeeperLaw" (46 : Nat) ({ cls := "KilnKeeperModel", name := "put", desc := "(I)I" } : MethodName)) ∈ AW := AW_m5 201 rfl rfl
theorem aw_1215 : (Cond.instanceMethod ({ cls := "KilnKeeperModel", name := "put", desc := "(I)I" } : MethodName)) ∈ AW := AW_m5 202 rfl rfl
theorem aw_1216 : (Cond.selects "KilnKeeperModel" ({ cls := "KilnKeeperModel", name := "put", desc := "(I)I" } : MethodName) ({ cls := "KilnKeeperModel", name := "put", desc := "(I)I" } : MethodName)) ∈ AW := AW_m5 203 rfl rfl
theorem aw_1217 : (Cond.code ({ cls := "KilnKeeperModel", name := "put", desc := "(I)I" } : MethodName) prog_15_method_36_code (2 : Nat) (Option.some FieldType.int)) ∈ AW := AW_m5 204 rfl rfl
theorem aw_1218 : (Cond.methodLink "KilnKeeperModel" (126 : Nat) ({ cls := "KilnKeeperModel", name := "puts", desc := "(I)I" } : MethodName)) ∈ AW := AW_m5 205 rfl rfl
theorem at_1219 : (Cond.privateMethod ({ cls := "KilnKeeperModel", name := "puts", desc := "(I)I" } : MethodName)) ∈ lw_tbl := List.mem_append_right _ (List.mem_append_right _ (List.mem_append_right _ (List.mem_append_right _ (List.mem_append_right _ (List.mem_append_left _ (List.mem_of_getElem? (l := tables_1_5) (i := 206) rfl))))))
theorem aw_1220 : (Cond.instanceMethod ({ cls := "KilnKeeperModel", name := "puts", desc := "(I)I" } : MethodName)) ∈ AW := AW_m5 207 rfl rfl
theorem aw_1221 : (Cond.code ({ cls := "KilnKeeperModel", name := "puts", desc := "(I)I" } : MethodName) prog_15_method_27_code (2 : Nat) (Option.some FieldType.int)) ∈ AW := AW_m5 208 rfl rfl
theorem aw_1222 : (Cond.methodLink "KilnKeeperModel" (92 : Nat) ({ cls := "KilnKeeperModel", name := "isPot", desc := "(I)Z" } : MethodName)) ∈ AW := AW_m5 209 rfl rfl
theorem at_1223 : (Cond.privateMethod ({ cls := "KilnKeeperModel", name := "isPot", desc := "(I)Z" } : MethodName)) ∈ lw_tbl := List.mem_append_right _ (List.mem_append_right _ (List.mem_append_right _ (List.mem_append_right _ (List.mem_append_right _ (List.mem_append_left _ (List.mem_of_getElem? (l := tables_1_5) (i := 210) rfl))))))
theorem aw_1224 : (Cond.instanceMethod ({ cls := "KilnKeeperModel", name := "isPot", desc := "(I)Z" } : MethodName)) ∈ AW := AW_m5 211 rfl rfl
theorem aw_1225 : (Cond.code ({ cls := "KilnKeeperModel", name := "isPot", desc := "(I)Z" } : MethodName) prog_15_method_9_code (2 : Nat) (Option.some FieldType.boolean)) ∈ AW := AW_m5 212 rfl rfl
theorem aw_1226 : (Cond.methodLink "KilnKeeperModel" (96 : Nat) ({ cls := "KilnKeeperModel", name := "within", desc := "()I" } : MethodName)) ∈ AW := AW_m5 213 rfl rfl
theorem at_1227 : (Cond.privateMethod ({ cls := "KilnKeeperModel", name := "within", desc := "()I" } : MethodName)) ∈ lw_tbl := List.mem_append_right _ (List.mem_append_right _ (List.mem_append_right _ (List.mem_append_right _ (List.mem_append_right _ (List.mem_append_left _ (List.mem_of_getElem? (l := tables_1_5) (i := 214) rfl))))))
theorem aw_1228 : (Cond.instanceMethod ({ cls := "KilnKeeperModel", name := "within", desc := "()I" } : MethodName)) ∈ AW := AW_m5 215 rfl rfl
theorem aw_1229 : (Cond.code ({ cls := "KilnKeeperModel", name := "within", desc := "()I" } : MethodName) prog_15_method_26_code (3 : Nat) (Option.some FieldType.int)) ∈ AW := AW_m5 216 rfl rfl
theorem aw_1230 : (Cond.methodLink "KilnKeeperLaw" (50 : Nat) ({ cls := "KilnKeeperModel", name := "take", desc := "(I)I" } : MethodName)) ∈ AW := AW_m5 217 rfl rfl
theorem aw_1231 : (Cond.instanceMethod ({ cls := "KilnKeeperModel", name := "take", desc := "(I)I" } : MethodName)) ∈ AW := AW_m5 218 rfl rfl
theorem aw_1232 : (Cond.selects "KilnKeeperModel" ({ cls := "KilnKeeperModel", name := "take", desc := "(I)I" } : MethodName) ({ cls := "KilnKeeperModel", name := "take", desc := "(I)I" } : MethodName)) ∈ AW := AW_m5 219 rfl rfl
theorem aw_1233 : (Cond.code ({ cls := "KilnKeeperModel", name := "take", desc := "(I)I" } : MethodName) prog_15_method_37_code (2 : Nat) (Option.some FieldType.int)) ∈ AW := AW_m5 220 rfl rfl
theorem aw_1234 : (Cond.methodLink "KilnKeeperModel" (129 : Nat) ({ cls := "KilnKeeperModel", name := "takes", desc := "(I)I" } : MethodName)) ∈ AW := AW_m5 221 rfl rfl
theorem at_1235 : (Cond.privateMethod ({ cls := "KilnKeeperModel", name := "takes", desc := "(I)I" } : MethodName)) ∈ lw_tbl := List.mem_append_right _ (List.mem_append_right _ (List.mem_append_right _ (List.mem_append_right _ (List.mem_append_right _ (List.mem_append_left _ (List.mem_of_getElem? (l := tables_1_5) (i := 222) rfl))))))
theorem aw_1236 : (Cond.instanceMethod ({ cls := "KilnKeeperModel", name := "takes", desc := "(I)I" } : MethodName)) ∈ AW := AW_m5 223 rfl rfl
theorem aw_1237 : (Cond.code ({ cls := "KilnKeeperModel", name := "takes", desc := "(I)I" } : MethodName) prog_15_method_28_code (2 : Nat) (Option.some FieldType.int)) ∈ AW := AW_m5 224 rfl rfl
theorem aw_1238 : (Cond.methodLink "KilnKeeperLaw" (55 : Nat) ({ cls := "KilnKeeperModel", name := "potOf", desc := "(II)I" } : MethodName)) ∈ AW := AW_m5 225 rfl rfl
theorem aw_1239 : (Cond.instanceMethod ({ cls := "KilnKeeperModel", name := "potOf", desc := "(II)I" } : MethodName)) ∈ AW := AW_m5 226 rfl rfl
theorem aw_1240 : (Cond.selects "KilnKeeperModel" ({ cls := "KilnKeeperModel", name := "potOf", desc := "(II)I" } : MethodName) ({ cls := "KilnKeeperModel", name := "potOf", desc := "(II)I" } : MethodName)) ∈ AW := AW_m5 227 rfl rfl
theorem aw_1241 : (Cond.code ({ cls := "KilnKeeperModel", name := "potOf", desc := "(II)I" } : MethodName) prog_15_method_38_code (3 : Nat) (Option.some FieldType.int)) ∈ AW := AW_m5 228 rfl rfl
theorem aw_1242 : (Cond.methodLink "KilnKeeperLaw" (59 : Nat) ({ cls := "KilnKeeperModel", name := "firedIn", desc := "(I)I" } : MethodName)) ∈ AW := AW_m5 229 rfl rfl
theorem aw_1243 : (Cond.instanceMethod ({ cls := "KilnKeeperModel", name := "firedIn", desc := "(I)I" } : MethodName)) ∈ AW := AW_m5 230 rfl rfl
theorem aw_1244 : (Cond.selects "KilnKeeperModel" ({ cls := "KilnKeeperModel", name := "firedIn", desc := "(I)I" } : MethodName) ({ cls := "KilnKeeperModel", name := "firedIn", desc := "(I)I" } : MethodName)) ∈ AW := AW_m5 231 rfl rfl
theorem aw_1245 : (Cond.code ({ cls := "KilnKeeperModel", name := "firedIn", desc := "(I)I" } : MethodName) prog_15_method_39_code (4 : Nat) (Option.some FieldType.int)) ∈ AW := AW_m5 232 rfl rfl
theorem aw_1246 : (Cond.methodLink "KilnKeeperModel" (132 : Nat) ({ cls := "KilnKeeperModel", name := "thinks", desc := "(I)V" } : MethodName)) ∈ AW := AW_m5 233 rfl rfl
theorem at_1247 : (Cond.privateMethod ({ cls := "KilnKeeperModel", name := "thinks", desc := "(I)V" } : MethodName)) ∈ lw_tbl := List.mem_append_right _ (List.mem_append_right _ (List.mem_append_right _ (List.mem_append_right _ (List.mem_append_right _ (List.mem_append_left _ (List.mem_of_getElem? (l := tables_1_5) (i := 234) rfl))))))
theorem aw_1248 : (Cond.instanceMethod ({ cls := "KilnKeeperModel", name := "thinks", desc := "(I)V" } : MethodName)) ∈ AW := AW_m5 235 rfl rfl
theorem aw_1249 : (Cond.code ({ cls := "KilnKeeperModel", name := "thinks", desc := "(I)V" } : MethodName) prog_15_method_17_code (3 : Nat) (Option.none : Option FieldType)) ∈ AW := AW_m5 236 rfl rfl
theorem aw_1250 : (Cond.methodLink "KilnKeeperModel" (136 : Nat) ({ cls := "KilnKeeperModel", name := "forgets", desc := "()V" } : MethodName)) ∈ AW := AW_m5 237 rfl rfl
theorem at_1251 : (Cond.privateMethod ({ cls := "KilnKeeperModel", name := "forgets", desc := "()V" } : MethodName)) ∈ lw_tbl := List.mem_append_right _ (List.mem_append_right _ (List.mem_append_right _ (List.mem_append_right _ (List.mem_append_right _ (List.mem_append_left _ (List.mem_of_getElem? (l := tables_1_5) (i := 238) rfl))))))
theorem aw_1252 : (Cond.instanceMethod ({ cls := "KilnKeeperModel", name := "forgets", desc := "()V" } : MethodName)) ∈ AW := AW_m5 239 rfl rfl
theorem aw_1253 : (Cond.code ({ cls := "KilnKeeperModel", name := "forgets", desc := "()V" } : MethodName) prog_15_method_18_code (2 : Nat) (Option.none : Option FieldType)) ∈ AW := AW_m6 0 rfl rfl
theorem aw_1254 : (Cond.methodLink "KilnKeeperLaw" (63 : Nat) ({ cls := "KilnKeeperModel", name := "wouldCrack", desc := "(I)I" } : MethodName)) ∈ AW := AW_m6 1 rfl rfl
theorem aw_1255 : (Cond.instanceMethod ({ cls := "KilnKeeperModel", name := "wouldCrack", desc := "(I)I" } : MethodName)) ∈ AW := AW_m6 2 rfl rfl
theorem aw_1256 : (Cond.selects "KilnKeeperModel" ({ cls := "KilnKeeperModel", name := "wouldCrack", desc := "(I)I" } : MethodName) ({ cls := "KilnKeeperModel", name := "wouldCrack", desc := "(I)I" } : MethodName)) ∈ AW := AW_m6 3 rfl rfl
theorem aw_1257 : (Cond.code ({ cls := "KilnKeeperModel", name := "wouldCrack", desc := "(I)I" } : MethodName) prog_15_method_40_code (4 : Nat) (Option.some FieldType.int)) ∈ AW := AW_m6 4 rfl rfl
theorem aw_1258 : (Cond.methodLink "KilnKeeperLaw" (67 : Nat) ({ cls := "KilnKeeperModel", name := "ranked", desc := "(I)I" } : MethodName)) ∈ AW := AW_m6 5 rfl rfl
theorem aw_1259 : (Cond.instanceMethod ({ cls := "KilnKeeperModel", name := "ranked", desc := "(I)I" } : MethodName)) ∈ AW := AW_m6 6 rfl rfl
theorem aw_1260 : (Cond.selects "KilnKeeperModel" ({ cls := "KilnKeeperModel", name := "ranked", desc := "(I)I" } : MethodName) ({ cls := "KilnKeeperModel", name := "ranked", desc := "(I)I" } : MethodName)) ∈ AW := AW_m6 7 rfl rfl
theorem aw_1261 : (Cond.code ({ cls := "KilnKeeperModel", name := "ranked", desc := "(I)I" } : MethodName) prog_15_method_43_code (5 : Nat) (Option.some FieldType.int)) ∈ AW := AW_m6 8 rfl rfl
theorem aw_1262 : (Cond.methodLink "KilnKeeperModel" (142 : Nat) ({ cls := "KilnKeeperModel", name := "isAhead", desc := "(II)Z" } : MethodName)) ∈ AW := AW_m6 9 rfl rfl
theorem at_1263 : (Cond.privateMethod ({ cls := "KilnKeeperModel", name := "isAhead", desc := "(II)Z" } : MethodName)) ∈ lw_tbl := List.mem_append_right _ (List.mem_append_right _ (List.mem_append_right _ (List.mem_append_right _ (List.mem_append_right _ (List.mem_append_right _ (List.mem_of_getElem? (l := tables_1_6) (i := 10) rfl))))))
theorem aw_1264 : (Cond.instanceMethod ({ cls := "KilnKeeperModel", name := "isAhead", desc := "(II)Z" } : MethodName)) ∈ AW := AW_m6 11 rfl rfl
theorem aw_1265 : (Cond.code ({ cls := "KilnKeeperModel", name := "isAhead", desc := "(II)Z" } : MethodName) prog_15_method_42_code (3 : Nat) (Option.some FieldType.boolean)) ∈ AW := AW_m6 12 rfl rfl
theorem aw_1266 : (Cond.methodLink "KilnKeeperModel" (139 : Nat) ({ cls := "KilnKeeperModel", name := "left", desc := "(I)I" } : MethodName)) ∈ AW := AW_m6 13 rfl rfl
theorem at_1267 : (Cond.privateMethod ({ cls := "KilnKeeperModel", name := "left", desc := "(I)I" } : MethodName)) ∈ lw_tbl := List.mem_append_right _ (List.mem_append_right _ (List.mem_append_right _ (List.mem_append_right _ (List.mem_append_right _ (List.mem_append_right _ (List.mem_of_getElem? (l := tables_1_6) (i := 14) rfl))))))
theorem aw_1268 : (Cond.instanceMethod ({ cls := "KilnKeeperModel", name := "left", desc := "(I)I" } : MethodName)) ∈ AW := AW_m6 15 rfl rfl
theorem aw_1269 : (Cond.code ({ cls := "KilnKeeperModel", name := "left", desc := "(I)I" } : MethodName) prog_15_method_41_code (2 : Nat) (Option.some FieldType.int)) ∈ AW := AW_m6 16 rfl rfl
theorem aw_1270 : (Cond.methodLink "KilnKeeperLaw" (71 : Nat) ({ cls := "KilnKeeperModel", name := "degreesIn", desc := "(I)I" } : MethodName)) ∈ AW := AW_m6 17 rfl rfl
theorem aw_1271 : (Cond.instanceMethod ({ cls := "KilnKeeperModel", name := "degreesIn", desc := "(I)I" } : MethodName)) ∈ AW := AW_m6 18 rfl rfl
theorem aw_1272 : (Cond.selects "KilnKeeperModel" ({ cls := "KilnKeeperModel", name := "degreesIn", desc := "(I)I" } : MethodName) ({ cls := "KilnKeeperModel", name := "degreesIn", desc := "(I)I" } : MethodName)) ∈ AW := AW_m6 19 rfl rfl
theorem aw_1273 : (Cond.code ({ cls := "KilnKeeperModel", name := "degreesIn", desc := "(I)I" } : MethodName) prog_15_method_44_code (3 : Nat) (Option.some FieldType.int)) ∈ AW := AW_m6 20 rfl rfl
theorem aw_1274 : (Cond.methodLink "KilnKeeperLaw" (76 : Nat) ({ cls := "KilnKeeperModel", name := "wanted", desc := "()I" } : MethodName)) ∈ AW := AW_m6 21 rfl rfl
theorem aw_1275 : (Cond.instanceMethod ({ cls := "KilnKeeperModel", name := "wanted", desc := "()I" } : MethodName)) ∈ AW := AW_m6 22 rfl rfl
theorem aw_1276 : (Cond.selects "KilnKeeperModel" ({ cls := "KilnKeeperModel", name := "wanted", desc := "()I" } : MethodName) ({ cls := "KilnKeeperModel", name := "wanted", desc := "()I" } : MethodName)) ∈ AW := AW_m6 23 rfl rfl
theorem aw_1277 : (Cond.code ({ cls := "KilnKeeperModel", name := "wanted", desc := "()I" } : MethodName) prog_15_method_45_code (1 : Nat) (Option.some FieldType.int)) ∈ AW := AW_m6 24 rfl rfl
theorem aw_1278 : (Cond.methodLink "KilnKeeperLaw" (80 : Nat) ({ cls := "KilnKeeperModel", name := "settlesIn", desc := "()I" } : MethodName)) ∈ AW := AW_m6 25 rfl rfl
theorem aw_1279 : (Cond.instanceMethod ({ cls := "KilnKeeperModel", name := "settlesIn", desc := "()I" } : MethodName)) ∈ AW := AW_m6 26 rfl rfl
theorem aw_1280 : (Cond.selects "KilnKeeperModel" ({ cls := "KilnKeeperModel", name := "settlesIn", desc := "()I" } : MethodName) ({ cls := "KilnKeeperModel", name := "settlesIn", desc := "()I" } : MethodName)) ∈ AW := AW_m6 27 rfl rfl
theorem aw_1281 : (Cond.code ({ cls := "KilnKeeperModel", name := "settlesIn", desc := "()I" } : MethodName) prog_15_method_46_code (3 : Nat) (Option.some FieldType.int)) ∈ AW := AW_m6 28 rfl rfl
theorem aw_1282 : (Cond.methodLink "KilnKeeperLaw" (84 : Nat) ({ cls := "KilnKeeperModel", name := "wouldOvershoot", desc := "(I)I" } : MethodName)) ∈ AW := AW_m6 29 rfl rfl
theorem aw_1283 : (Cond.instanceMethod ({ cls := "KilnKeeperModel", name := "wouldOvershoot", desc := "(I)I" } : MethodName)) ∈ AW := AW_m6 30 rfl rfl
theorem aw_1284 : (Cond.selects "KilnKeeperModel" ({ cls := "KilnKeeperModel", name := "wouldOvershoot", desc := "(I)I" } : MethodName) ({ cls := "KilnKeeperModel", name := "wouldOvershoot", desc := "(I)I" } : MethodName)) ∈ AW := AW_m6 31 rfl rfl
theorem aw_1285 : (Cond.code ({ cls := "KilnKeeperModel", name := "wouldOvershoot", desc := "(I)I" } : MethodName) prog_15_method_47_code (3 : Nat) (Option.some FieldType.int)) ∈ AW := AW_m6 32 rfl rfl
theorem aw_1286 : (Cond.methodLink "KilnKeeperLaw" (88 : Nat) ({ cls := "KilnKeeperModel", name := "logged", desc := "(II)I" } : MethodName)) ∈ AW := AW_m6 33 rfl rfl
theorem aw_1287 : (Cond.instanceMethod ({ cls := "KilnKeeperModel", name := "logged", desc := "(II)I" } : MethodName)) ∈ AW := AW_m6 34 rfl rfl
theorem aw_1288 : (Cond.selects "KilnKeeperModel" ({ cls := "KilnKeeperModel", name := "logged", desc := "(II)I" } : MethodName) ({ cls := "KilnKeeperModel", name := "logged", desc := "(II)I" } : MethodName)) ∈ AW := AW_m6 35 rfl rfl
theorem aw_1289 : (Cond.code ({ cls := "KilnKeeperModel", name := "logged", desc := "(II)I" } : MethodName) prog_15_method_48_code (3 : Nat) (Option.some FieldType.int)) ∈ AW := AW_m6 36 rfl rfl
theorem aw_1290 : (Cond.methodLink "KilnKeeperLaw" (92 : Nat) ({ cls := "KilnKeeperModel", name := "burnt", desc := "()I" } : MethodName)) ∈ AW := AW_m6 37 rfl rfl
theorem aw_1291 : (Cond.instanceMethod ({ cls := "KilnKeeperModel", name := "burnt", desc := "()I" } : MethodName)) ∈ AW := AW_m6 38 rfl rfl
theorem aw_1292 : (Cond.selects "KilnKeeperModel" ({ cls := "KilnKeeperModel", name := "burnt", desc := "()I" } : MethodName) ({ cls := "KilnKeeperModel", name := "burnt", desc := "()I" } : MethodName)) ∈ AW := AW_m6 39 rfl rfl
theorem aw_1293 : (Cond.code ({ cls := "KilnKeeperModel", name := "burnt", desc := "()I" } : MethodName) prog_15_method_49_code (1 : Nat) (Option.some FieldType.int)) ∈ AW := AW_m6 40 rfl rfl
theorem aw_1294 : (Cond.methodLink "KilnKeeperLaw" (96 : Nat) ({ cls := "KilnKeeperModel", name := "burntAgain", desc := "()I" } : MethodName)) ∈ AW := AW_m6 41 rfl rfl
theorem aw_1295 : (Cond.instanceMethod ({ cls := "KilnKeeperModel", name := "burntAgain", desc := "()I" } : MethodName)) ∈ AW := AW_m6 42 rfl rfl
theorem aw_1296 : (Cond.selects "KilnKeeperModel" ({ cls := "KilnKeeperModel", name := "burntAgain", desc := "()I" } : MethodName) ({ cls := "KilnKeeperModel", name := "burntAgain", desc := "()I" } : MethodName)) ∈ AW := AW_m6 43 rfl rfl
theorem aw_1297 : (Cond.code ({ cls := "KilnKeeperModel", name := "burntAgain", desc := "()I" } : MethodName) prog_15_method_50_code (3 : Nat) (Option.some FieldType.int)) ∈ AW := AW_m6 44 rfl rfl
theorem aw_1298 : (Cond.methodLink "KilnKeeperLaw" (100 : Nat) ({ cls := "KilnKeeperModel", name := "minutesWith", desc := "(I)I" } : MethodName)) ∈ AW := AW_m6 45 rfl rfl
theorem aw_1299 : (Cond.instanceMethod ({ cls := "KilnKeeperModel", name := "minutesWith", desc := "(I)I" } : MethodName)) ∈ AW := AW_m6 46 rfl rfl
theorem aw_1300 : (Cond.selects "KilnKeeperModel" ({ cls := "KilnKeeperModel", name := "minutesWith", desc := "(I)I" } : MethodName) ({ cls := "KilnKeeperModel", name := "minutesWith", desc := "(I)I" } : MethodName)) ∈ AW := AW_m6 47 rfl rfl
theorem aw_1301 : (Cond.code ({ cls := "KilnKeeperModel", name := "minutesWith", desc := "(I)I" } : MethodName) prog_15_method_51_code (2 : Nat) (Option.some FieldType.int)) ∈ AW := AW_m6 48 rfl rfl
theorem aw_1302 : (Cond.methodLink "KilnKeeperLaw" (104 : Nat) ({ cls := "KilnKeeperModel", name := "append", desc := "(I)I" } : MethodName)) ∈ AW := AW_m6 49 rfl rfl
theorem aw_1303 : (Cond.instanceMethod ({ cls := "KilnKeeperModel", name := "append", desc := "(I)I" } : MethodName)) ∈ AW := AW_m6 50 rfl rfl
theorem aw_1304 : (Cond.selects "KilnKeeperModel" ({ cls := "KilnKeeperModel", name := "append", desc := "(I)I" } : MethodName) ({ cls := "KilnKeeperModel", name := "append", desc := "(I)I" } : MethodName)) ∈ AW := AW_m6 51 rfl rfl
theorem aw_1305 : (Cond.code ({ cls := "KilnKeeperModel", name := "append", desc := "(I)I" } : MethodName) prog_15_method_52_code (2 : Nat) (Option.some FieldType.int)) ∈ AW := AW_m6 52 rfl rfl
theorem aw_1306 : (Cond.methodLink "KilnKeeperLaw" (108 : Nat) ({ cls := "KilnKeeperModel", name := "run", desc := "()I" } : MethodName)) ∈ AW := AW_m6 53 rfl rfl
theorem aw_1307 : (Cond.instanceMethod ({ cls := "KilnKeeperModel", name := "run", desc := "()I" } : MethodName)) ∈ AW := AW_m6 54 rfl rfl
theorem aw_1308 : (Cond.selects "KilnKeeperModel" ({ cls := "KilnKeeperModel", name := "run", desc := "()I" } : MethodName) ({ cls := "KilnKeeperModel", name := "run", desc := "()I" } : MethodName)) ∈ AW := AW_m6 55 rfl rfl
theorem aw_1309 : (Cond.code ({ cls := "KilnKeeperModel", name := "run", desc := "()I" } : MethodName) prog_15_method_60_code (3 : Nat) (Option.some FieldType.int)) ∈ AW := AW_m6 56 rfl rfl
theorem aw_1310 : (Cond.methodLink "KilnKeeperModel" (207 : Nat) ({ cls := "KilnKeeperModel", name := "readsOne", desc := "()V" } : MethodName)) ∈ AW := AW_m6 57 rfl rfl
theorem at_1311 : (Cond.privateMethod ({ cls := "KilnKeeperModel", name := "readsOne", desc := "()V" } : MethodName)) ∈ lw_tbl := List.mem_append_right _ (List.mem_append_right _ (List.mem_append_right _ (List.mem_append_right _ (List.mem_append_right _ (List.mem_append_right _ (List.mem_of_getElem? (l := tables_1_6) (i := 58) rfl))))))
theorem aw_1312 : (Cond.instanceMethod ({ cls := "KilnKeeperModel", name := "readsOne", desc := "()V" } : MethodName)) ∈ AW := AW_m6 59 rfl rfl
theorem aw_1313 : (Cond.code ({ cls := "KilnKeeperModel", name := "readsOne", desc := "()V" } : MethodName) prog_15_method_58_code (2 : Nat) (Option.none : Option FieldType)) ∈ AW := AW_m6 60 rfl rfl
theorem aw_1314 : (Cond.methodLink "KilnKeeperModel" (182 : Nat) ({ cls := "KilnKeeperModel", name := "sort", desc := "()I" } : MethodName)) ∈ AW := AW_m6 61 rfl rfl
theorem at_1315 : (Cond.privateMethod ({ cls := "KilnKeeperModel", name := "sort", desc := "()I" } : MethodName)) ∈ lw_tbl := List.mem_append_right _ (List.mem_append_right _ (List.mem_append_right _ (List.mem_append_right _ (List.mem_append_right _ (List.mem_append_right _ (List.mem_of_getElem? (l := tables_1_6) (i := 62) rfl))))))
theorem aw_1316 : (Cond.instanceMethod ({ cls := "KilnKeeperModel", name := "sort", desc := "()I" } : MethodName)) ∈ AW := AW_m6 63 rfl rfl
theorem aw_1317 : (Cond.code ({ cls := "KilnKeeperModel", name := "sort", desc := "()I" } : MethodName) prog_15_method_57_code (2 : Nat) (Option.some FieldType.int)) ∈ AW := AW_m6 64 rfl rfl
theorem aw_1318 : (Cond.methodLink "KilnKeeperModel" (163 : Nat) ({ cls := "KilnKeeperModel", name := "here", desc := "(I)I" } : MethodName)) ∈ AW := AW_m6 65 rfl rfl
theorem at_1319 : (Cond.privateMethod ({ cls := "KilnKeeperModel", name := "here", desc := "(I)I" } : MethodName)) ∈ lw_tbl := List.mem_append_right _ (List.mem_append_right _ (List.mem_append_right _ (List.mem_append_right _ (List.mem_append_right _ (List.mem_append_right _ (List.mem_of_getElem? (l := tables_1_6) (i := 66) rfl))))))
theorem aw_1320 : (Cond.instanceMethod ({ cls := "KilnKeeperModel", name := "here", desc := "(I)I" } : MethodName)) ∈ AW := AW_m6 67 rfl rfl
theorem aw_1321 : (Cond.code ({ cls := "KilnKeeperModel", name := "here", desc := "(I)I" } : MethodName) prog_15_method_53_code (2 : Nat) (Option.some FieldType.int)) ∈ AW := AW_m6 68 rfl rfl
theorem at_1322 : (Cond.stringRef "KilnKeeperModel" (185 : Nat) "aim") ∈ lw_tbl := List.mem_append_right _ (List.mem_append_right _ (List.mem_append_right _ (List.mem_append_right _ (List.mem_append_right _ (List.mem_append_right _ (List.mem_of_getElem? (l := tables_1_6) (i := 69) rfl))))))
theorem aw_1323 : (Cond.methodLink "KilnKeeperModel" (187 : Nat) ({ cls := "KilnKeeperModel", name := "reads", desc := "(Ljava/lang/String;I)V" } : MethodName)) ∈ AW := AW_m6 70 rfl rfl
theorem at_1324 : (Cond.privateMethod ({ cls := "KilnKeeperModel", name := "reads", desc := "(Ljava/lang/String;I)V" } : MethodName)) ∈ lw_tbl := List.mem_append_right _ (List.mem_append_right _ (List.mem_append_right _ (List.mem_append_right _ (List.mem_append_right _ (List.mem_append_right _ (List.mem_of_getElem? (l := tables_1_6) (i := 71) rfl))))))
theorem aw_1325 : (Cond.instanceMethod ({ cls := "KilnKeeperModel", name := "reads", desc := "(Ljava/lang/String;I)V" } : MethodName)) ∈ AW := AW_m6 72 rfl rfl
theorem aw_1326 : (Cond.code ({ cls := "KilnKeeperModel", name := "reads", desc := "(Ljava/lang/String;I)V" } : MethodName) prog_15_method_56_code (3 : Nat) (Option.none : Option FieldType)) ∈ AW := AW_m6 73 rfl rfl
theorem aw_1327 : (Cond.methodLink "KilnKeeperModel" (172 : Nat) ({ cls := "KilnKeeperModel", name := "word", desc := "(Ljava/lang/String;)V" } : MethodName)) ∈ AW := AW_m6 74 rfl rfl
theorem at_1328 : (Cond.privateMethod ({ cls := "KilnKeeperModel", name := "word", desc := "(Ljava/lang/String;)V" } : MethodName)) ∈ lw_tbl := List.mem_append_right _ (List.mem_append_right _ (List.mem_append_right _ (List.mem_append_right _ (List.mem_append_right _ (List.mem_append_right _ (List.mem_of_getElem? (l := tables_1_6) (i := 75) rfl))))))
theorem aw_1329 : (Cond.instanceMethod ({ cls := "KilnKeeperModel", name := "word", desc := "(Ljava/lang/String;)V" } : MethodName)) ∈ AW := AW_m6 76 rfl rfl
theorem aw_1330 : (Cond.code ({ cls := "KilnKeeperModel", name := "word", desc := "(Ljava/lang/String;)V" } : MethodName) prog_15_method_54_code (3 : Nat) (Option.none : Option FieldType)) ∈ AW := AW_m6 77 rfl rfl
theorem aw_1331 : (Cond.methodLink "KilnKeeperModel" (155 : Nat) ({ cls := "java/lang/String", name := "length", desc := "()I" } : MethodName)) ∈ AW := AW_m6 78 rfl rfl
theorem aw_1332 : (Cond.methodLink "KilnKeeperModel" (166 : Nat) ({ cls := "java/lang/String", name := "charAt", desc := "(I)C" } : MethodName)) ∈ AW := AW_m6 79 rfl rfl
theorem aw_1333 : (Cond.methodLink "KilnKeeperModel" (179 : Nat) ({ cls := "KilnKeeperModel", name := "number", desc := "(II)V" } : MethodName)) ∈ AW := AW_m6 80 rfl rfl
theorem at_1334 : (Cond.privateMethod ({ cls := "KilnKeeperModel", name := "number", desc := "(II)V" } : MethodName)) ∈ lw_tbl := List.mem_append_right _ (List.mem_append_right _ (List.mem_append_right _ (List.mem_append_right _ (List.mem_append_right _ (List.mem_append_right _ (List.mem_of_getElem? (l := tables_1_6) (i := 81) rfl))))))
theorem aw_1335 : (Cond.instanceMethod ({ cls := "KilnKeeperModel", name := "number", desc := "(II)V" } : MethodName)) ∈ AW := AW_m6 82 rfl rfl
theorem aw_1336 : (Cond.code ({ cls := "KilnKeeperModel", name := "number", desc := "(II)V" } : MethodName) prog_15_method_55_code (5 : Nat) (Option.none : Option FieldType)) ∈ AW := AW_m6 83 rfl rfl
theorem at_1337 : (Cond.stringRef "KilnKeeperModel" (170 : Nat) " ") ∈ lw_tbl := List.mem_append_right _ (List.mem_append_right _ (List.mem_append_right _ (List.mem_append_right _ (List.mem_append_right _ (List.mem_append_right _ (List.mem_of_getElem? (l := tables_1_6) (i := 84) rfl))))))
theorem at_1338 : (Cond.stringRef "KilnKeeperModel" (191 : Nat) "gain") ∈ lw_tbl := List.mem_append_right _ (List.mem_append_right _ (List.mem_append_right _ (List.mem_append_right _ (List.mem_append_right _ (List.mem_append_right _ (List.mem_of_getElem? (l := tables_1_6) (i := 85) rfl))))))
theorem at_1339 : (Cond.stringRef "KilnKeeperModel" (193 : Nat) "cap") ∈ lw_tbl := List.mem_append_right _ (List.mem_append_right _ (List.mem_append_right _ (List.mem_append_right _ (List.mem_append_right _ (List.mem_append_right _ (List.mem_of_getElem? (l := tables_1_6) (i := 86) rfl))))))
theorem at_1340 : (Cond.stringRef "KilnKeeperModel" (195 : Nat) "lag") ∈ lw_tbl := List.mem_append_right _ (List.mem_append_right _ (List.mem_append_right _ (List.mem_append_right _ (List.mem_append_right _ (List.mem_append_right _ (List.mem_of_getElem? (l := tables_1_6) (i := 87) rfl))))))
theorem at_1341 : (Cond.stringRef "KilnKeeperModel" (197 : Nat) "pot") ∈ lw_tbl := List.mem_append_right _ (List.mem_append_right _ (List.mem_append_right _ (List.mem_append_right _ (List.mem_append_right _ (List.mem_append_right _ (List.mem_of_getElem? (l := tables_1_6) (i := 88) rfl))))))
theorem at_1342 : (Cond.stringRef "KilnKeeperModel" (199 : Nat) "put") ∈ lw_tbl := List.mem_append_right _ (List.mem_append_right _ (List.mem_append_right _ (List.mem_append_right _ (List.mem_append_right _ (List.mem_append_right _ (List.mem_of_getElem? (l := tables_1_6) (i := 89) rfl))))))
theorem at_1343 : (Cond.stringRef "KilnKeeperModel" (201 : Nat) "take") ∈ lw_tbl := List.mem_append_right _ (List.mem_append_right _ (List.mem_append_right _ (List.mem_append_right _ (List.mem_append_right _ (List.mem_append_right _ (List.mem_of_getElem? (l := tables_1_6) (i := 90) rfl))))))
theorem at_1344 : (Cond.stringRef "KilnKeeperModel" (203 : Nat) "fuel") ∈ lw_tbl := List.mem_append_right _ (List.mem_append_right _ (List.mem_append_right _ (List.mem_append_right _ (List.mem_append_right _ (List.mem_append_right _ (List.mem_of_getElem? (l := tables_1_6) (i := 91) rfl))))))
theorem at_1345 : (Cond.stringRef "KilnKeeperModel" (205 : Nat) "go") ∈ lw_tbl := List.mem_append_right _ (List.mem_append_right _ (List.mem_append_right _ (List.mem_append_right _ (List.mem_append_right _ (List.mem_append_right _ (List.mem_of_getElem? (l := tables_1_6) (i := 92) rfl))))))
theorem aw_1346 : (Cond.methodLink "KilnKeeperModel" (210 : Nat) ({ cls := "KilnKeeperModel", name := "does", desc := "(I)I" } : MethodName)) ∈ AW := AW_m6 93 rfl rfl
theorem at_1347 : (Cond.privateMethod ({ cls := "KilnKeeperModel", name := "does", desc := "(I)I" } : MethodName)) ∈ lw_tbl := List.mem_append_right _ (List.mem_append_right _ (List.mem_append_right _ (List.mem_append_right _ (List.mem_append_right _ (List.mem_append_right _ (List.mem_of_getElem? (l := tables_1_6) (i := 94) rfl))))))
theorem aw_1348 : (Cond.instanceMethod ({ cls := "KilnKeeperModel", name := "does", desc := "(I)I" } : MethodName)) ∈ AW := AW_m6 95 rfl rfl
theorem aw_1349 : (Cond.code ({ cls := "KilnKeeperModel", name := "does", desc := "(I)I" } : MethodName) prog_15_method_59_code (5 : Nat) (Option.some FieldType.int)) ∈ AW := AW_m6 96 rfl rfl
theorem aw_1350 : (Cond.methodLink "KilnKeeperLaw" (112 : Nat) ({ cls := "KilnKeeperModel", name := "tell", desc := "()I" } : MethodName)) ∈ AW := AW_m6 97 rfl rfl
theorem aw_1351 : (Cond.instanceMethod ({ cls := "KilnKeeperModel", name := "tell", desc := "()I" } : MethodName)) ∈ AW := AW_m6 98 rfl rfl
theorem aw_1352 : (Cond.selects "KilnKeeperModel" ({ cls := "KilnKeeperModel", name := "tell", desc := "()I" } : MethodName) ({ cls := "KilnKeeperModel", name := "tell", desc := "()I" } : MethodName)) ∈ AW := AW_m6 99 rfl rfl
theorem aw_1353 : (Cond.code ({ cls := "KilnKeeperModel", name := "tell", desc := "()I" } : MethodName) prog_15_method_64_code (2 : Nat) (Option.some FieldType.int)) ∈ AW := AW_m6 100 rfl rfl
theorem aw_1354 : (Cond.methodLink "KilnKeeperModel" (219 : Nat) ({ cls := "KilnKeeperModel", name := "writesNumber", desc := "(I)V" } : MethodName)) ∈ AW := AW_m6 101 rfl rfl
theorem at_1355 : (Cond.privateMethod ({ cls := "KilnKeeperModel", name := "writesNumber", desc := "(I)V" } : MethodName)) ∈ lw_tbl := List.mem_append_right _ (List.mem_append_right _ (List.mem_append_right _ (List.mem_append_right _ (List.mem_append_right _ (List.mem_append_right _ (List.mem_of_getElem? (l := tables_1_6) (i := 102) rfl))))))
theorem aw_1356 : (Cond.instanceMethod ({ cls := "KilnKeeperModel", name := "writesNumber", desc := "(I)V" } : MethodName)) ∈ AW := AW_m6 103 rfl rfl
theorem aw_1357 : (Cond.code ({ cls := "KilnKeeperModel", name := "writesNumber", desc := "(I)V" } : MethodName) prog_15_method_62_code (4 : Nat) (Option.none : Option FieldType)) ∈ AW := AW_m6 104 rfl rfl
theorem aw_1358 : (Cond.methodLink "KilnKeeperModel" (216 : Nat) ({ cls := "KilnKeeperModel", name := "writes", desc := "(I)V" } : MethodName)) ∈ AW := AW_m6 105 rfl rfl
theorem at_1359 : (Cond.privateMethod ({ cls := "KilnKeeperModel", name := "writes", desc := "(I)V" } : MethodName)) ∈ lw_tbl := List.mem_append_right _ (List.mem_append_right _ (List.mem_append_right _ (List.mem_append_right _ (List.mem_append_right _ (List.mem_append_right _ (List.mem_of_getElem? (l := tables_1_6) (i := 106) rfl))))))
theorem aw_1360 : (Cond.instanceMethod ({ cls := "KilnKeeperModel", name := "writes", desc := "(I)V" } : MethodName)) ∈ AW := AW_m6 107 rfl rfl
theorem aw_1361 : (Cond.code ({ cls := "KilnKeeperModel", name := "writes", desc := "(I)V" } : MethodName) prog_15_method_61_code (2 : Nat) (Option.none : Option FieldType)) ∈ AW := AW_m6 108 rfl rfl
theorem aw_1362 : (Cond.methodLink "KilnKeeperModel" (222 : Nat) ({ cls := "KilnKeeperModel", name := "writesPart", desc := "(II)V" } : MethodName)) ∈ AW := AW_m6 109 rfl rfl
theorem at_1363 : (Cond.privateMethod ({ cls := "KilnKeeperModel", name := "writesPart", desc := "(II)V" } : MethodName)) ∈ lw_tbl := List.mem_append_right _ (List.mem_append_right _ (List.mem_append_right _ (List.mem_append_right _ (List.mem_append_right _ (List.mem_append_right _ (List.mem_of_getElem? (l := tables_1_6) (i := 110) rfl))))))
theorem aw_1364 : (Cond.instanceMethod ({ cls := "KilnKeeperModel", name := "writesPart", desc := "(II)V" } : MethodName)) ∈ AW := AW_m6 111 rfl rfl
theorem aw_1365 : (Cond.code ({ cls := "KilnKeeperModel", name := "writesPart", desc := "(II)V" } : MethodName) prog_15_method_63_code (3 : Nat) (Option.none : Option FieldType)) ∈ AW := AW_m6 112 rfl rfl
theorem aw_1366 : (Cond.methodLink "KilnKeeperLaw" (116 : Nat) ({ cls := "KilnKeeperModel", name := "tellPot", desc := "(I)I" } : MethodName)) ∈ AW := AW_m6 113 rfl rfl
theorem aw_1367 : (Cond.instanceMethod ({ cls := "KilnKeeperModel", name := "tellPot", desc := "(I)I" } : MethodName)) ∈ AW := AW_m6 114 rfl rfl
theorem aw_1368 : (Cond.selects "KilnKeeperModel" ({ cls := "KilnKeeperModel", name := "tellPot", desc := "(I)I" } : MethodName) ({ cls := "KilnKeeperModel", name := "tellPot", desc := "(I)I" } : MethodName)) ∈ AW := AW_m6 115 rfl rfl
theorem aw_1369 : (Cond.code ({ cls := "KilnKeeperModel", name := "tellPot", desc := "(I)I" } : MethodName) prog_15_method_65_code (3 : Nat) (Option.some FieldType.int)) ∈ AW := AW_m6 116 rfl rfl
theorem aw_1370 : (Cond.methodLink "KilnKeeperLaw" (120 : Nat) ({ cls := "KilnKeeperModel", name := "character", desc := "(I)I" } : MethodName)) ∈ AW := AW_m6 117 rfl rfl
theorem aw_1371 : (Cond.instanceMethod ({ cls := "KilnKeeperModel", name := "character", desc := "(I)I" } : MethodName)) ∈ AW := AW_m6 118 rfl rfl
theorem aw_1372 : (Cond.selects "KilnKeeperModel" ({ cls := "KilnKeeperModel", name := "character", desc := "(I)I" } : MethodName) ({ cls := "KilnKeeperModel", name := "character", desc := "(I)I" } : MethodName)) ∈ AW := AW_m6 119 rfl rfl
theorem aw_1373 : (Cond.code ({ cls := "KilnKeeperModel", name := "character", desc := "(I)I" } : MethodName) prog_15_method_66_code (2 : Nat) (Option.some FieldType.int)) ∈ AW := AW_m6 120 rfl rfl
theorem aw_1374 : (Cond.methodLink "KilnKeeperLaw" (125 : Nat) ({ cls := "KilnKeeperModel", name := "reason", desc := "(Z)I" } : MethodName)) ∈ AW := AW_m6 121 rfl rfl
theorem aw_1375 : (Cond.instanceMethod ({ cls := "KilnKeeperModel", name := "reason", desc := "(Z)I" } : MethodName)) ∈ AW := AW_m6 122 rfl rfl
theorem aw_1376 : (Cond.selects "KilnKeeperModel" ({ cls := "KilnKeeperModel", name := "reason", desc := "(Z)I" } : MethodName) ({ cls := "KilnKeeperModel", name := "reason", desc := "(Z)I" } : MethodName)) ∈ AW := AW_m6 123 rfl rfl
theorem aw_1377 : (Cond.code ({ cls := "KilnKeeperModel", name := "reason", desc := "(Z)I" } : MethodName) prog_15_method_67_code (2 : Nat) (Option.some FieldType.int)) ∈ AW := AW_m6 124 rfl rfl
theorem aw_1378 : (Cond.methodLink "KilnKeeperLaw" (129 : Nat) ({ cls := "KilnKeeperModel", name := "account", desc := "(I)I" } : MethodName)) ∈ AW := AW_m6 125 rfl rfl
theorem aw_1379 : (Cond.instanceMethod ({ cls := "KilnKeeperModel", name := "account", desc := "(I)I" } : MethodName)) ∈ AW := AW_m6 126 rfl rfl
theorem aw_1380 : (Cond.selects "KilnKeeperModel" ({ cls := "KilnKeeperModel", name := "account", desc := "(I)I" } : MethodName) ({ cls := "KilnKeeperModel", name := "account", desc := "(I)I" } : MethodName)) ∈ AW := AW_m6 127 rfl rfl
theorem aw_1381 : (Cond.code ({ cls := "KilnKeeperModel", name := "account", desc := "(I)I" } : MethodName) prog_15_method_69_code (2 : Nat) (Option.some FieldType.int)) ∈ AW := AW_m6 128 rfl rfl
theorem aw_1382 : (Cond.methodLink "KilnKeeperModel" (225 : Nat) ({ cls := "KilnKeeperModel", name := "manyThat", desc := "(I)I" } : MethodName)) ∈ AW := AW_m6 129 rfl rfl
theorem at_1383 : (Cond.privateMethod ({ cls := "KilnKeeperModel", name := "manyThat", desc := "(I)I" } : MethodName)) ∈ lw_tbl := List.mem_append_right _ (List.mem_append_right _ (List.mem_append_right _ (List.mem_append_right _ (List.mem_append_right _ (List.mem_append_right _ (List.mem_of_getElem? (l := tables_1_6) (i := 130) rfl))))))
theorem aw_1384 : (Cond.instanceMethod ({ cls := "KilnKeeperModel", name := "manyThat", desc := "(I)I" } : MethodName)) ∈ AW := AW_m6 131 rfl rfl
theorem aw_1385 : (Cond.code ({ cls := "KilnKeeperModel", name := "manyThat", desc := "(I)I" } : MethodName) prog_15_method_68_code (4 : Nat) (Option.some FieldType.int)) ∈ AW := AW_m6 132 rfl rfl
theorem aw_1386 : (Cond.methodLink "KilnKeeperLaw" (133 : Nat) ({ cls := "KilnKeeperModel", name := "isBalanced", desc := "()I" } : MethodName)) ∈ AW := AW_m6 133 rfl rfl
theorem aw_1387 : (Cond.instanceMethod ({ cls := "KilnKeeperModel", name := "isBalanced", desc := "()I" } : MethodName)) ∈ AW := AW_m6 134 rfl rfl
theorem aw_1388 : (Cond.selects "KilnKeeperModel" ({ cls := "KilnKeeperModel", name := "isBalanced", desc := "()I" } : MethodName) ({ cls := "KilnKeeperModel", name := "isBalanced", desc := "()I" } : MethodName)) ∈ AW := AW_m6 135 rfl rfl
theorem aw_1389 : (Cond.code ({ cls := "KilnKeeperModel", name := "isBalanced", desc := "()I" } : MethodName) prog_15_method_70_code (4 : Nat) (Option.some FieldType.int)) ∈ AW := AW_m6 136 rfl rfl
theorem aw_1390 : (Cond.methodLink "KilnKeeperModel" (228 : Nat) ({ cls := "KilnKeeperModel", name := "burntAgain", desc := "()I" } : MethodName)) ∈ AW := AW_m6 137 rfl rfl
theorem aw_1391 : (Cond.methodLink "KilnKeeperLaw" (138 : Nat) ({ cls := "KilnKeeperModel", name := "meanBurnt", desc := "()D" } : MethodName)) ∈ AW := AW_m6 138 rfl rfl
theorem aw_1392 : (Cond.instanceMethod ({ cls := "KilnKeeperModel", name := "meanBurnt", desc := "()D" } : MethodName)) ∈ AW := AW_m6 139 rfl rfl
theorem aw_1393 : (Cond.selects "KilnKeeperModel" ({ cls := "KilnKeeperModel", name := "meanBurnt", desc := "()D" } : MethodName) ({ cls := "KilnKeeperModel", name := "meanBurnt", desc := "()D" } : MethodName)) ∈ AW := AW_m6 140 rfl rfl
theorem aw_1394 : (Cond.code ({ cls := "KilnKeeperModel", name := "meanBurnt", desc := "()D" } : MethodName) prog_15_method_71_code (1 : Nat) (Option.some FieldType.double)) ∈ AW := AW_m6 141 rfl rfl
theorem aw_1395 : (Cond.methodLink "KilnKeeperLaw" (143 : Nat) ({ cls := "KilnKeeperModel", name := "firedShare", desc := "()F" } : MethodName)) ∈ AW := AW_m6 142 rfl rfl
theorem aw_1396 : (Cond.instanceMethod ({ cls := "KilnKeeperModel", name := "firedShare", desc := "()F" } : MethodName)) ∈ AW := AW_m6 143 rfl rfl
theorem aw_1397 : (Cond.selects "KilnKeeperModel" ({ cls := "KilnKeeperModel", name := "firedShare", desc := "()F" } : MethodName) ({ cls := "KilnKeeperModel", name := "firedShare", desc := "()F" } : MethodName)) ∈ AW := AW_m6 144 rfl rfl
theorem aw_1398 : (Cond.code ({ cls := "KilnKeeperModel", name := "firedShare", desc := "()F" } : MethodName) prog_15_method_72_code (1 : Nat) (Option.some FieldType.float)) ∈ AW := AW_m6 145 rfl rfl
theorem aw_1399 : (Cond.methodLink "KilnKeeperLaw" (147 : Nat) ({ cls := "KilnKeeperModel", name := "undo", desc := "()I" } : MethodName)) ∈ AW := AW_m6 146 rfl rfl
theorem aw_1400 : (Cond.instanceMethod ({ cls := "KilnKeeperModel", name := "undo", desc := "()I" } : MethodName)) ∈ AW := AW_m6 147 rfl rfl
theorem aw_1401 : (Cond.selects "KilnKeeperModel" ({ cls := "KilnKeeperModel", name := "undo", desc := "()I" } : MethodName) ({ cls := "KilnKeeperModel", name := "undo", desc := "()I" } : MethodName)) ∈ AW := AW_m6 148 rfl rfl
theorem aw_1402 : (Cond.code ({ cls := "KilnKeeperModel", name := "undo", desc := "()I" } : MethodName) prog_15_method_73_code (2 : Nat) (Option.some FieldType.int)) ∈ AW := AW_m6 149 rfl rfl
theorem aw_1403 : (Cond.methodLink "KilnKeeperLaw" (151 : Nat) ({ cls := "KilnKeeperModel", name := "save", desc := "()I" } : MethodName)) ∈ AW := AW_m6 150 rfl rfl
theorem aw_1404 : (Cond.instanceMethod ({ cls := "KilnKeeperModel", name := "save", desc := "()I" } : MethodName)) ∈ AW := AW_m6 151 rfl rfl
theorem aw_1405 : (Cond.selects "KilnKeeperModel" ({ cls := "KilnKeeperModel", name := "save", desc := "()I" } : MethodName) ({ cls := "KilnKeeperModel", name := "save", desc := "()I" } : MethodName)) ∈ AW := AW_m6 152 rfl rfl
theorem aw_1406 : (Cond.code ({ cls := "KilnKeeperModel", name := "save", desc := "()I" } : MethodName) prog_15_method_74_code (2 : Nat) (Option.some FieldType.int)) ∈ AW := AW_m6 153 rfl rfl
theorem aw_1407 : (Cond.methodLink "KilnKeeperLaw" (155 : Nat) ({ cls := "KilnKeeperModel", name := "restore", desc := "()I" } : MethodName)) ∈ AW := AW_m6 154 rfl rfl
theorem aw_1408 : (Cond.instanceMethod ({ cls := "KilnKeeperModel", name := "restore", desc := "()I" } : MethodName)) ∈ AW := AW_m6 155 rfl rfl
theorem aw_1409 : (Cond.selects "KilnKeeperModel" ({ cls := "KilnKeeperModel", name := "restore", desc := "()I" } : MethodName) ({ cls := "KilnKeeperModel", name := "restore", desc := "()I" } : MethodName)) ∈ AW := AW_m6 156 rfl rfl
theorem aw_1410 : (Cond.code ({ cls := "KilnKeeperModel", name := "restore", desc := "()I" } : MethodName) prog_15_method_75_code (2 : Nat) (Option.some FieldType.int)) ∈ AW := AW_m6 157 rfl rfl
theorem aw_1411 : (Cond.sameMethod "java/lang/AbstractStringBuilder" "java/lang/AbstractStringBuilder" "length" "()I") ∈ AW := AW_m6 158 rfl rfl
theorem aw_1412 : (Cond.sameMethod "java/lang/AbstractStringBuilder" "java/lang/AbstractStringBuilder" "append" "(C)Ljava/lang/AbstractStringBuilder;") ∈ AW := AW_m6 159 rfl rfl
theorem aw_1413 : (Cond.sameMethod "java/lang/AbstractStringBuilder" "java/lang/AbstractStringBuilder" "ensureCapacityInternal" "(I)V") ∈ AW := AW_m6 160 rfl rfl
theorem aw_1414 : (Cond.sameMethod "java/lang/AbstractStringBuilder" "java/lang/AbstractStringBuilder" "newCapacity" "(I)I") ∈ AW := AW_m6 161 rfl rfl
theorem aw_1415 : (Cond.sameMethod "java/lang/AbstractStringBuilder" "java/lang/AbstractStringBuilder" "inflate" "()V") ∈ AW := AW_m6 162 rfl rfl
theorem aw_1416 : (Cond.sameMethod "java/lang/AbstractStringBuilder" "java/lang/AbstractStringBuilder" "charAt" "(I)C") ∈ AW := AW_m6 163 rfl rfl
theorem aw_1417 : (Cond.sameMethod "java/lang/AbstractStringBuilder" "java/lang/AbstractStringBuilder" "setLength" "(I)V") ∈ AW := AW_m6 164 rfl rfl
theorem aw_1418 : (Cond.sameMethod "java/lang/AbstractStringBuilder" "java/lang/AbstractStringBuilder" "append" "(I)Ljava/lang/AbstractStringBuilder;") ∈ AW := AW_m6 165 rfl rfl
theorem aw_1419 : (Cond.fieldLink "KilnKeeper$Reader" (78 : Nat) "KilnKeeper$Word" "form" "Ljava/lang/String;") ∈ AW := AW_m6 166 rfl rfl
theorem aw_1420 : (Cond.fieldLink "java/lang/String" (9 : Nat) "java/lang/String" "value" "[B") ∈ AW := AW_m6 167 rfl rfl
theorem aw_1421 : (Cond.fieldLink "java/lang/String" (15 : Nat) "java/lang/String" "coder" "B") ∈ AW := AW_m6 168 rfl rfl
theorem aw_1422 : (Cond.fieldLink "java/lang/Enum" (7 : Nat) "java/lang/Enum" "ordinal" "I") ∈ AW := AW_m6 169 rfl rfl
theorem at_1423 : (Cond.stringRef "KilnKeeper$Word" (82 : Nat) "go 3") ∈ lw_tbl := List.mem_append_right _ (List.mem_append_right _ (List.mem_append_right _ (List.mem_append_right _ (List.mem_append_right _ (List.mem_append_right _ (List.mem_of_getElem? (l := tables_1_6) (i := 170) rfl))))))
theorem at_1424 : (Cond.laysStatic "KilnKeeper$Word" "AIM" "LKilnKeeper$Word;") ∈ lw_tbl := List.mem_append_right _ (List.mem_append_right _ (List.mem_append_right _ (List.mem_append_right _ (List.mem_append_right _ (List.mem_append_right _ (List.mem_of_getElem? (l := tables_1_6) (i := 171) rfl))))))
theorem at_1425 : (Cond.laysStatic "KilnKeeper$Word" "GAIN" "LKilnKeeper$Word;") ∈ lw_tbl := List.mem_append_right _ (List.mem_append_right _ (List.mem_append_right _ (List.mem_append_right _ (List.mem_append_right _ (List.mem_append_right _ (List.mem_of_getElem? (l := tables_1_6) (i := 172) rfl))))))
theorem at_1426 : (Cond.laysStatic "KilnKeeper$Word" "CAP" "LKilnKeeper$Word;") ∈ lw_tbl := List.mem_append_right _ (List.mem_append_right _ (List.mem_append_right _ (List.mem_append_right _ (List.mem_append_right _ (List.mem_append_right _ (List.mem_of_getElem? (l := tables_1_6) (i := 173) rfl))))))
theorem at_1427 : (Cond.laysStatic "KilnKeeper$Word" "LAG" "LKilnKeeper$Word;") ∈ lw_tbl := List.mem_append_right _ (List.mem_append_right _ (List.mem_append_right _ (List.mem_append_right _ (List.mem_append_right _ (List.mem_append_right _ (List.mem_of_getElem? (l := tables_1_6) (i := 174) rfl))))))
theorem at_1428 : (Cond.laysStatic "KilnKeeper$Word" "POT" "LKilnKeeper$Word;") ∈ lw_tbl := List.mem_append_right _ (List.mem_append_right _ (List.mem_append_right _ (List.mem_append_right _ (List.mem_append_right _ (List.mem_append_right _ (List.mem_of_getElem? (l := tables_1_6) (i := 175) rfl))))))
theorem at_1429 : (Cond.laysStatic "KilnKeeper$Word" "PUT" "LKilnKeeper$Word;") ∈ lw_tbl := List.mem_append_right _ (List.mem_append_right _ (List.mem_append_right _ (List.mem_append_right _ (List.mem_append_right _ (List.mem_append_right _ (List.mem_of_getElem? (l := tables_1_6) (i := 176) rfl))))))
theorem at_1430 : (Cond.laysStatic "KilnKeeper$Word" "TAKE" "LKilnKeeper$Word;") ∈ lw_tbl := List.mem_append_right _ (List.mem_append_right _ (List.mem_append_right _ (List.mem_append_right _ (List.mem_append_right _ (List.mem_append_right _ (List.mem_of_getElem? (l := tables_1_6) (i := 177) rfl))))))
theorem at_1431 : (Cond.laysStatic "KilnKeeper$Word" "FUEL" "LKilnKeeper$Word;") ∈ lw_tbl := List.mem_append_right _ (List.mem_append_right _ (List.mem_append_right _ (List.mem_append_right _ (List.mem_append_right _ (List.mem_append_right _ (List.mem_of_getElem? (l := tables_1_6) (i := 178) rfl))))))
theorem at_1432 : (Cond.stringRef "KilnKeeper$Word" (55 : Nat) "aim 4") ∈ lw_tbl := List.mem_append_right _ (List.mem_append_right _ (List.mem_append_right _ (List.mem_append_right _ (List.mem_append_right _ (List.mem_append_right _ (List.mem_of_getElem? (l := tables_1_6) (i := 179) rfl))))))
theorem at_1433 : (Cond.stringRef "KilnKeeper$Word" (61 : Nat) "gain 2 2 2") ∈ lw_tbl := List.mem_append_right _ (List.mem_append_right _ (List.mem_append_right _ (List.mem_append_right _ (List.mem_append_right _ (List.mem_append_right _ (List.mem_of_getElem? (l := tables_1_6) (i := 180) rfl))))))
theorem at_1434 : (Cond.stringRef "KilnKeeper$Word" (64 : Nat) "cap 4") ∈ lw_tbl := List.mem_append_right _ (List.mem_append_right _ (List.mem_append_right _ (List.mem_append_right _ (List.mem_append_right _ (List.mem_append_right _ (List.mem_of_getElem? (l := tables_1_6) (i := 181) rfl))))))
theorem at_1435 : (Cond.stringRef "KilnKeeper$Word" (67 : Nat) "lag 1") ∈ lw_tbl := List.mem_append_right _ (List.mem_append_right _ (List.mem_append_right _ (List.mem_append_right _ (List.mem_append_right _ (List.mem_append_right _ (List.mem_of_getElem? (l := tables_1_6) (i := 182) rfl))))))
theorem at_1436 : (Cond.stringRef "KilnKeeper$Word" (70 : Nat) "pot 2 4 2") ∈ lw_tbl := List.mem_append_right _ (List.mem_append_right _ (List.mem_append_right _ (List.mem_append_right _ (List.mem_append_right _ (List.mem_append_right _ (List.mem_of_getElem? (l := tables_1_6) (i := 183) rfl))))))
theorem at_1437 : (Cond.stringRef "KilnKeeper$Word" (73 : Nat) "put 1") ∈ lw_tbl := List.mem_append_right _ (List.mem_append_right _ (List.mem_append_right _ (List.mem_append_right _ (List.mem_append_right _ (List.mem_append_right _ (List.mem_of_getElem? (l := tables_1_6) (i := 184) rfl))))))
theorem at_1438 : (Cond.stringRef "KilnKeeper$Word" (76 : Nat) "take 1") ∈ lw_tbl := List.mem_append_right _ (List.mem_append_right _ (List.mem_append_right _ (List.mem_append_right _ (List.mem_append_right _ (List.mem_append_right _ (List.mem_of_getElem? (l := tables_1_6) (i := 185) rfl))))))
theorem at_1439 : (Cond.stringRef "KilnKeeper$Word" (79 : Nat) "fuel 4") ∈ lw_tbl := List.mem_append_right _ (List.mem_append_right _ (List.mem_append_right _ (List.mem_append_right _ (List.mem_append_right _ (List.mem_append_right _ (List.mem_of_getElem? (l := tables_1_6) (i := 186) rfl))))))
end
section
theorem tt_0 : decode cX13_goesBy 0 = .ok (.aload_n 0, 1) := rfl
theorem ttX13_goesBy_0 : decode cX13_goesBy 0 = .ok (.aload_n 0, 1) := rfl
theorem ttX13_goesBy_1 : decode cX13_goesBy 1 = .ok (.invokevirtual 58, 3) := rfl
theorem ttX13_goesBy_4 : decode cX13_goesBy 4 = .ok (.istore_n 1, 1) := rfl
theorem ttX13_goesBy_5 : decode cX13_goesBy 5 = .ok (.aload_n 0, 1) := rfl
theorem ttX13_goesBy_6 : decode cX13_goesBy 6 = .ok (.getfield 7, 3) := rfl
theorem ttX13_goesBy_9 : decode cX13_goesBy 9 = .ok (.iconst 0, 1) := rfl
theorem ttX13_goesBy_10 : decode cX13_goesBy 10 = .ok (.iaload, 1) := rfl
theorem ttX13_goesBy_11 : decode cX13_goesBy 11 = .ok (.istore_n 2, 1) := rfl
theorem ttX13_goesBy_12 : decode cX13_goesBy 12 = .ok (.aload_n 0, 1) := rfl
theorem ttX13_goesBy_13 : decode cX13_goesBy 13 = .ok (.invokevirtual 69, 3) := rfl
theorem ttX13_goesBy_16 : decode cX13_goesBy 16 = .ok (.istore_n 3, 1) := rfl
theorem ttX13_goesBy_17 : decode cX13_goesBy 17 = .ok (.aload_n 0, 1) := rfl
theorem ttX13_goesBy_18 : decode cX13_goesBy 18 = .ok (.getfield 7, 3) := rfl
theorem ttX13_goesBy_21 : decode cX13_goesBy 21 = .ok (.iconst 5, 1) := rfl
theorem ttX13_goesBy_22 : decode cX13_goesBy 22 = .ok (.aload_n 0, 1) := rfl
theorem ttX13_goesBy_23 : decode cX13_goesBy 23 = .ok (.invokevirtual 66, 3) := rfl
theorem ttX13_goesBy_26 : decode cX13_goesBy 26 = .ok (.iastore, 1) := rfl
theorem ttX13_goesBy_27 : decode cX13_goesBy 27 = .ok (.aload_n 0, 1) := rfl
theorem ttX13_goesBy_28 : decode cX13_goesBy 28 = .ok (.getfield 7, 3) := rfl
theorem ttX13_goesBy_31 : decode cX13_goesBy 31 = .ok (.bipush 7, 2) := rfl
theorem ttX13_goesBy_33 : decode cX13_goesBy 33 = .ok (.iload_n 1, 1) := rfl
theorem ttX13_goesBy_34 : decode cX13_goesBy 34 = .ok (.iastore, 1) := rfl
theorem ttX13_goesBy_35 : decode cX13_goesBy 35 = .ok (.aload_n 0, 1) := rfl
theorem ttX13_goesBy_36 : decode cX13_goesBy 36 = .ok (.getfield 7, 3) := rfl
theorem ttX13_goesBy_39 : decode cX13_goesBy 39 = .ok (.bipush 9, 2) := rfl
theorem ttX13_goesBy_41 : decode cX13_goesBy 41 = .ok (.aload_n 0, 1) := rfl
theorem ttX13_goesBy_42 : decode cX13_goesBy 42 = .ok (.iload_n 3, 1) := rfl
theorem ttX13_goesBy_43 : decode cX13_goesBy 43 = .ok (.invokevirtual 72, 3) := rfl
theorem ttX13_goesBy_46 : decode cX13_goesBy 46 = .ok (.aload_n 0, 1) := rfl
theorem ttX13_goesBy_47 : decode cX13_goesBy 47 = .ok (.getfield 7, 3) := rfl
theorem ttX13_goesBy_50 : decode cX13_goesBy 50 = .ok (.bipush 9, 2) := rfl
theorem ttX13_goesBy_52 : decode cX13_goesBy 52 = .ok (.iaload, 1) := rfl
theorem ttX13_goesBy_53 : decode cX13_goesBy 53 = .ok (.bipush 20, 2) := rfl
theorem ttX13_goesBy_55 : decode cX13_goesBy 55 = .ok (.isub, 1) := rfl
theorem ttX13_goesBy_56 : decode cX13_goesBy 56 = .ok (.aload_n 0, 1) := rfl
theorem ttX13_goesBy_57 : decode cX13_goesBy 57 = .ok (.getfield 7, 3) := rfl
theorem ttX13_goesBy_60 : decode cX13_goesBy 60 = .ok (.bipush 9, 2) := rfl
theorem ttX13_goesBy_62 : decode cX13_goesBy 62 = .ok (.iaload, 1) := rfl
theorem ttX13_goesBy_63 : decode cX13_goesBy 63 = .ok (.bipush 20, 2) := rfl
theorem ttX13_goesBy_65 : decode cX13_goesBy 65 = .ok (.iadd, 1) := rfl
theorem ttX13_goesBy_66 : decode cX13_goesBy 66 = .ok (.invokestatic 62, 3) := rfl
theorem ttX13_goesBy_69 : decode cX13_goesBy 69 = .ok (.iastore, 1) := rfl
theorem ttX13_goesBy_70 : decode cX13_goesBy 70 = .ok (.aload_n 0, 1) := rfl
theorem ttX13_goesBy_71 : decode cX13_goesBy 71 = .ok (.getfield 7, 3) := rfl
theorem ttX13_goesBy_74 : decode cX13_goesBy 74 = .ok (.bipush 9, 2) := rfl
theorem ttX13_goesBy_76 : decode cX13_goesBy 76 = .ok (.iaload, 1) := rfl
theorem ttX13_goesBy_77 : decode cX13_goesBy 77 = .ok (.aload_n 0, 1) := rfl
theorem ttX13_goesBy_78 : decode cX13_goesBy 78 = .ok (.getfield 7, 3) := rfl
theorem ttX13_goesBy_81 : decode cX13_goesBy 81 = .ok (.bipush 10, 2) := rfl
theorem ttX13_goesBy_83 : decode cX13_goesBy 83 = .ok (.iaload, 1) := rfl
theorem ttX13_goesBy_84 : decode cX13_goesBy 84 = .ok (.if_icmp .ge 13, 3) := rfl
theorem ttX13_goesBy_87 : decode cX13_goesBy 87 = .ok (.aload_n 0, 1) := rfl
theorem ttX13_goesBy_88 : decode cX13_goesBy 88 = .ok (.getfield 7, 3) := rfl
theorem ttX13_goesBy_91 : decode cX13_goesBy 91 = .ok (.bipush 9, 2) := rfl
theorem ttX13_goesBy_93 : decode cX13_goesBy 93 = .ok (.iaload, 1) := rfl
theorem ttX13_goesBy_94 : decode cX13_goesBy 94 = .ok (.goto 10, 3) := rfl
theorem ttX13_goesBy_97 : decode cX13_goesBy 97 = .ok (.aload_n 0, 1) := rfl
theorem ttX13_goesBy_98 : decode cX13_goesBy 98 = .ok (.getfield 7, 3) := rfl
theorem ttX13_goesBy_101 : decode cX13_goesBy 101 = .ok (.bipush 10, 2) := rfl
theorem ttX13_goesBy_103 : decode cX13_goesBy 103 = .ok (.iaload, 1) := rfl
theorem ttX13_goesBy_104 : decode cX13_goesBy 104 = .ok (.istore 4, 2) := rfl
theorem ttX13_goesBy_106 : decode cX13_goesBy 106 = .ok (.aload_n 0, 1) := rfl
theorem ttX13_goesBy_107 : decode cX13_goesBy 107 = .ok (.getfield 7, 3) := rfl
theorem ttX13_goesBy_110 : decode cX13_goesBy 110 = .ok (.bipush 10, 2) := rfl
theorem ttX13_goesBy_112 : decode cX13_goesBy 112 = .ok (.dup2, 1) := rfl
theorem ttX13_goesBy_113 : decode cX13_goesBy 113 = .ok (.iaload, 1) := rfl
theorem ttX13_goesBy_114 : decode cX13_goesBy 114 = .ok (.iload 4, 2) := rfl
theorem ttX13_goesBy_116 : decode cX13_goesBy 116 = .ok (.isub, 1) := rfl
theorem ttX13_goesBy_117 : decode cX13_goesBy 117 = .ok (.iastore, 1) := rfl
theorem ttX13_goesBy_118 : decode cX13_goesBy 118 = .ok (.aload_n 0, 1) := rfl
theorem ttX13_goesBy_119 : decode cX13_goesBy 119 = .ok (.getfield 7, 3) := rfl
theorem ttX13_goesBy_122 : decode cX13_goesBy 122 = .ok (.bipush 16, 2) := rfl
theorem ttX13_goesBy_124 : decode cX13_goesBy 124 = .ok (.dup2, 1) := rfl
theorem ttX13_goesBy_125 : decode cX13_goesBy 125 = .ok (.iaload, 1) := rfl
theorem ttX13_goesBy_126 : decode cX13_goesBy 126 = .ok (.iload 4, 2) := rfl
theorem ttX13_goesBy_128 : decode cX13_goesBy 128 = .ok (.iadd, 1) := rfl
theorem ttX13_goesBy_129 : decode cX13_goesBy 129 = .ok (.iastore, 1) := rfl
theorem ttX13_goesBy_130 : decode cX13_goesBy 130 = .ok (.aload_n 0, 1) := rfl
theorem ttX13_goesBy_131 : decode cX13_goesBy 131 = .ok (.getfield 7, 3) := rfl
theorem ttX13_goesBy_134 : decode cX13_goesBy 134 = .ok (.bipush 22, 2) := rfl
theorem ttX13_goesBy_136 : decode cX13_goesBy 136 = .ok (.iload 4, 2) := rfl
theorem ttX13_goesBy_138 : decode cX13_goesBy 138 = .ok (.iadd, 1) := rfl
theorem ttX13_goesBy_139 : decode cX13_goesBy 139 = .ok (.dup2, 1) := rfl
theorem ttX13_goesBy_140 : decode cX13_goesBy 140 = .ok (.iaload, 1) := rfl
theorem ttX13_goesBy_141 : decode cX13_goesBy 141 = .ok (.iconst 1, 1) := rfl
theorem ttX13_goesBy_142 : decode cX13_goesBy 142 = .ok (.iadd, 1) := rfl
theorem ttX13_goesBy_143 : decode cX13_goesBy 143 = .ok (.iastore, 1) := rfl
theorem ttX13_goesBy_144 : decode cX13_goesBy 144 = .ok (.aload_n 0, 1) := rfl
theorem ttX13_goesBy_145 : decode cX13_goesBy 145 = .ok (.getfield 7, 3) := rfl
theorem ttX13_goesBy_148 : decode cX13_goesBy 148 = .ok (.iconst 0, 1) := rfl
theorem ttX13_goesBy_149 : decode cX13_goesBy 149 = .ok (.iload_n 2, 1) := rfl
theorem ttX13_goesBy_150 : decode cX13_goesBy 150 = .ok (.iload 4, 2) := rfl
theorem ttX13_goesBy_152 : decode cX13_goesBy 152 = .ok (.iconst 2, 1) := rfl
theorem ttX13_goesBy_153 : decode cX13_goesBy 153 = .ok (.idiv, 1) := rfl
theorem ttX13_goesBy_154 : decode cX13_goesBy 154 = .ok (.iadd, 1) := rfl
theorem ttX13_goesBy_155 : decode cX13_goesBy 155 = .ok (.iload_n 2, 1) := rfl
theorem ttX13_goesBy_156 : decode cX13_goesBy 156 = .ok (.bipush 20, 2) := rfl
theorem ttX13_goesBy_158 : decode cX13_goesBy 158 = .ok (.isub, 1) := rfl
theorem ttX13_goesBy_159 : decode cX13_goesBy 159 = .ok (.bipush 25, 2) := rfl
theorem ttX13_goesBy_161 : decode cX13_goesBy 161 = .ok (.idiv, 1) := rfl
theorem ttX13_goesBy_162 : decode cX13_goesBy 162 = .ok (.isub, 1) := rfl
theorem ttX13_goesBy_163 : decode cX13_goesBy 163 = .ok (.iastore, 1) := rfl
theorem ttX13_goesBy_164 : decode cX13_goesBy 164 = .ok (.aload_n 0, 1) := rfl
theorem ttX13_goesBy_165 : decode cX13_goesBy 165 = .ok (.getfield 7, 3) := rfl
theorem ttX13_goesBy_168 : decode cX13_goesBy 168 = .ok (.bipush 12, 2) := rfl
theorem ttX13_goesBy_170 : decode cX13_goesBy 170 = .ok (.dup2, 1) := rfl
theorem ttX13_goesBy_171 : decode cX13_goesBy 171 = .ok (.iaload, 1) := rfl
theorem ttX13_goesBy_172 : decode cX13_goesBy 172 = .ok (.iconst 1, 1) := rfl
theorem ttX13_goesBy_173 : decode cX13_goesBy 173 = .ok (.iadd, 1) := rfl
theorem ttX13_goesBy_174 : decode cX13_goesBy 174 = .ok (.iastore, 1) := rfl
theorem ttX13_goesBy_175 : decode cX13_goesBy 175 = .ok (.aload_n 0, 1) := rfl
theorem ttX13_goesBy_176 : decode cX13_goesBy 176 = .ok (.getfield 7, 3) := rfl
theorem ttX13_goesBy_179 : decode cX13_goesBy 179 = .ok (.bipush 13, 2) := rfl
theorem ttX13_goesBy_181 : decode cX13_goesBy 181 = .ok (.aload_n 0, 1) := rfl
theorem ttX13_goesBy_182 : decode cX13_goesBy 182 = .ok (.invokevirtual 58, 3) := rfl
theorem ttX13_goesBy_185 : decode cX13_goesBy 185 = .ok (.ineg, 1) := rfl
theorem ttX13_goesBy_186 : decode cX13_goesBy 186 = .ok (.aload_n 0, 1) := rfl
theorem ttX13_goesBy_187 : decode cX13_goesBy 187 = .ok (.getfield 7, 3) := rfl
theorem ttX13_goesBy_190 : decode cX13_goesBy 190 = .ok (.bipush 13, 2) := rfl
theorem ttX13_goesBy_192 : decode cX13_goesBy 192 = .ok (.iaload, 1) := rfl
theorem ttX13_goesBy_193 : decode cX13_goesBy 193 = .ok (.if_icmp .le 11, 3) := rfl
theorem ttX13_goesBy_196 : decode cX13_goesBy 196 = .ok (.aload_n 0, 1) := rfl
theorem ttX13_goesBy_197 : decode cX13_goesBy 197 = .ok (.invokevirtual 58, 3) := rfl
theorem ttX13_goesBy_200 : decode cX13_goesBy 200 = .ok (.ineg, 1) := rfl
theorem ttX13_goesBy_201 : decode cX13_goesBy 201 = .ok (.goto 10, 3) := rfl
theorem ttX13_goesBy_204 : decode cX13_goesBy 204 = .ok (.aload_n 0, 1) := rfl
theorem ttX13_goesBy_205 : decode cX13_goesBy 205 = .ok (.getfield 7, 3) := rfl
theorem ttX13_goesBy_208 : decode cX13_goesBy 208 = .ok (.bipush 13, 2) := rfl
theorem ttX13_goesBy_210 : decode cX13_goesBy 210 = .ok (.iaload, 1) := rfl
theorem ttX13_goesBy_211 : decode cX13_goesBy 211 = .ok (.iastore, 1) := rfl
theorem ttX13_goesBy_212 : decode cX13_goesBy 212 = .ok (.aload_n 0, 1) := rfl
theorem ttX13_goesBy_213 : decode cX13_goesBy 213 = .ok (.iload_n 1, 1) := rfl
theorem ttX13_goesBy_214 : decode cX13_goesBy 214 = .ok (.iload 4, 2) := rfl
theorem ttX13_goesBy_216 : decode cX13_goesBy 216 = .ok (.invokevirtual 75, 3) := rfl
theorem ttX13_goesBy_219 : decode cX13_goesBy 219 = .ok (.aload_n 0, 1) := rfl
theorem ttX13_goesBy_220 : decode cX13_goesBy 220 = .ok (.getfield 7, 3) := rfl
theorem ttX13_goesBy_223 : decode cX13_goesBy 223 = .ok (.iconst 0, 1) := rfl
theorem ttX13_goesBy_224 : decode cX13_goesBy 224 = .ok (.iaload, 1) := rfl
theorem ttX13_goesBy_225 : decode cX13_goesBy 225 = .ok (.iload_n 2, 1) := rfl
theorem ttX13_goesBy_226 : decode cX13_goesBy 226 = .ok (.if_icmp .ge 14, 3) := rfl
theorem ttX13_goesBy_229 : decode cX13_goesBy 229 = .ok (.iload_n 2, 1) := rfl
theorem ttX13_goesBy_230 : decode cX13_goesBy 230 = .ok (.aload_n 0, 1) := rfl
theorem ttX13_goesBy_231 : decode cX13_goesBy 231 = .ok (.getfield 7, 3) := rfl
theorem ttX13_goesBy_234 : decode cX13_goesBy 234 = .ok (.iconst 0, 1) := rfl
theorem ttX13_goesBy_235 : decode cX13_goesBy 235 = .ok (.iaload, 1) := rfl
theorem ttX13_goesBy_236 : decode cX13_goesBy 236 = .ok (.isub, 1) := rfl
theorem ttX13_goesBy_237 : decode cX13_goesBy 237 = .ok (.goto 11, 3) := rfl
theorem ttX13_goesBy_240 : decode cX13_goesBy 240 = .ok (.aload_n 0, 1) := rfl
theorem ttX13_goesBy_241 : decode cX13_goesBy 241 = .ok (.getfield 7, 3) := rfl
theorem ttX13_goesBy_244 : decode cX13_goesBy 244 = .ok (.iconst 0, 1) := rfl
theorem ttX13_goesBy_245 : decode cX13_goesBy 245 = .ok (.iaload, 1) := rfl
theorem ttX13_goesBy_246 : decode cX13_goesBy 246 = .ok (.iload_n 2, 1) := rfl
theorem ttX13_goesBy_247 : decode cX13_goesBy 247 = .ok (.isub, 1) := rfl
theorem ttX13_goesBy_248 : decode cX13_goesBy 248 = .ok (.istore 5, 2) := rfl
theorem ttX13_goesBy_250 : decode cX13_goesBy 250 = .ok (.iconst 0, 1) := rfl
theorem ttX13_goesBy_251 : decode cX13_goesBy 251 = .ok (.istore 6, 2) := rfl
theorem ttX13_goesBy_253 : decode cX13_goesBy 253 = .ok (.iload 6, 2) := rfl
theorem ttX13_goesBy_255 : decode cX13_goesBy 255 = .ok (.aload_n 0, 1) := rfl
theorem ttX13_goesBy_256 : decode cX13_goesBy 256 = .ok (.getfield 7, 3) := rfl
theorem ttX13_goesBy_259 : decode cX13_goesBy 259 = .ok (.bipush 15, 2) := rfl
theorem ttX13_goesBy_261 : decode cX13_goesBy 261 = .ok (.iaload, 1) := rfl
theorem ttX13_goesBy_262 : decode cX13_goesBy 262 = .ok (.if_icmp .ge 32, 3) := rfl
theorem ttX13_goesBy_265 : decode cX13_goesBy 265 = .ok (.aload_n 0, 1) := rfl
theorem ttX13_goesBy_266 : decode cX13_goesBy 266 = .ok (.getfield 7, 3) := rfl
theorem ttX13_goesBy_269 : decode cX13_goesBy 269 = .ok (.sipush 195, 3) := rfl
theorem ttX13_goesBy_272 : decode cX13_goesBy 272 = .ok (.iload 6, 2) := rfl
theorem ttX13_goesBy_274 : decode cX13_goesBy 274 = .ok (.iadd, 1) := rfl
theorem ttX13_goesBy_275 : decode cX13_goesBy 275 = .ok (.iaload, 1) := rfl
theorem ttX13_goesBy_276 : decode cX13_goesBy 276 = .ok (.iconst 1, 1) := rfl
theorem ttX13_goesBy_277 : decode cX13_goesBy 277 = .ok (.if_icmp .ne 11, 3) := rfl
theorem ttX13_goesBy_280 : decode cX13_goesBy 280 = .ok (.aload_n 0, 1) := rfl
theorem ttX13_goesBy_281 : decode cX13_goesBy 281 = .ok (.iload 6, 2) := rfl
theorem ttX13_goesBy_283 : decode cX13_goesBy 283 = .ok (.iload 5, 2) := rfl
theorem ttX13_goesBy_285 : decode cX13_goesBy 285 = .ok (.invokevirtual 79, 3) := rfl
theorem ttX13_goesBy_288 : decode cX13_goesBy 288 = .ok (.iinc 6 1, 3) := rfl
theorem ttX13_goesBy_291 : decode cX13_goesBy 291 = .ok (.goto (-38), 3) := rfl
theorem ttX13_goesBy_294 : decode cX13_goesBy 294 = .ok (.return_, 1) := rfl
end
