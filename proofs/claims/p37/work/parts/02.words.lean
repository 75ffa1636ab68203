/-! The words of the tables that a method may be handed: all that bear moving; each by its place. -/
def AW : List Cond := lw_tbl.filter goodWord
theorem AW_good : ∀ w ∈ AW, goodWord w = true := fun w h => (List.mem_filter.mp h).2
theorem AW_tbl : ∀ w ∈ AW, w ∈ lw_tbl := fun w h => (List.mem_filter.mp h).1
theorem AW_mem (i : Nat) {w : Cond} (h : lw_tbl[i]? = some w) (hg : goodWord w = true) : w ∈ AW := List.mem_filter.mpr ⟨List.mem_of_getElem? h, hg⟩
theorem AW_m1 (i : Nat) {w : Cond} (h : tables_1_1[i]? = some w) (hg : goodWord w = true) : w ∈ AW := List.mem_filter.mpr ⟨List.mem_append_right _ (List.mem_append_left _ (List.mem_of_getElem? h)), hg⟩
theorem AW_in {w : Cond} (h : w ∈ AW) : GoodIn AW (w :: AW) := fun x hx => (List.mem_cons.mp hx).elim (fun e => ⟨by rw [e]; exact h, good_of_word (AW_good x (by rw [e]; exact h))⟩) (fun g => ⟨g, good_of_word (AW_good x g)⟩)
theorem AW_m0 (i : Nat) {w : Cond} (h : (k2_sels lw_privs)[i]? = some w) (hg : goodWord w = true) : w ∈ AW := List.mem_filter.mpr ⟨List.mem_append_left _ (List.mem_of_getElem? h), hg⟩
theorem AW_m2 (i : Nat) {w : Cond} (h : tables_1_2[i]? = some w) (hg : goodWord w = true) : w ∈ AW := List.mem_filter.mpr ⟨List.mem_append_right _ (List.mem_append_right _ (List.mem_append_left _ (List.mem_of_getElem? h))), hg⟩
theorem AW_m3 (i : Nat) {w : Cond} (h : tables_1_3[i]? = some w) (hg : goodWord w = true) : w ∈ AW := List.mem_filter.mpr ⟨List.mem_append_right _ (List.mem_append_right _ (List.mem_append_right _ (List.mem_append_left _ (List.mem_of_getElem? h)))), hg⟩
theorem AW_m4 (i : Nat) {w : Cond} (h : tables_1_4[i]? = some w) (hg : goodWord w = true) : w ∈ AW := List.mem_filter.mpr ⟨List.mem_append_right _ (List.mem_append_right _ (List.mem_append_right _ (List.mem_append_right _ (List.mem_append_left _ (List.mem_of_getElem? h))))), hg⟩
theorem AW_m5 (i : Nat) {w : Cond} (h : tables_1_5[i]? = some w) (hg : goodWord w = true) : w ∈ AW := List.mem_filter.mpr ⟨List.mem_append_right _ (List.mem_append_right _ (List.mem_append_right _ (List.mem_append_right _ (List.mem_append_right _ (List.mem_of_getElem? h))))), hg⟩
theorem aw_0 : (Cond.selects "KilnKeeper" ({ cls := "KilnKeeper", name := "beginChange", desc := "()V" } : MethodName) ({ cls := "KilnKeeper", name := "beginChange", desc := "()V" } : MethodName)) ∈ AW := AW_m0 0 rfl rfl
theorem aw_1 : (Cond.selects "KilnKeeper" ({ cls := "KilnKeeper", name := "endChange", desc := "(I)I" } : MethodName) ({ cls := "KilnKeeper", name := "endChange", desc := "(I)I" } : MethodName)) ∈ AW := AW_m0 1 rfl rfl
theorem aw_2 : (Cond.selects "KilnKeeper$Changes" ({ cls := "KilnKeeper$Changes", name := "kilnAt", desc := "(I)LKilnKeeper$Kiln;" } : MethodName) ({ cls := "KilnKeeper$Changes", name := "kilnAt", desc := "(I)LKilnKeeper$Kiln;" } : MethodName)) ∈ AW := AW_m0 2 rfl rfl
theorem aw_3 : (Cond.selects "KilnKeeper$LagRow" ({ cls := "KilnKeeper$LagRow", name := "shiftBy", desc := "(I)V" } : MethodName) ({ cls := "KilnKeeper$LagRow", name := "shiftBy", desc := "(I)V" } : MethodName)) ∈ AW := AW_m0 3 rfl rfl
theorem aw_4 : (Cond.selects "KilnKeeper$Reader" ({ cls := "KilnKeeper$Reader", name := "readOrder", desc := "(ILKilnKeeper$Order;)I" } : MethodName) ({ cls := "KilnKeeper$Reader", name := "readOrder", desc := "(ILKilnKeeper$Order;)I" } : MethodName)) ∈ AW := AW_m0 4 rfl rfl
theorem aw_5 : (Cond.selects "KilnKeeper$Reader" ({ cls := "KilnKeeper$Reader", name := "readForm", desc := "(LKilnKeeper$Word;ILKilnKeeper$Order;)I" } : MethodName) ({ cls := "KilnKeeper$Reader", name := "readForm", desc := "(LKilnKeeper$Word;ILKilnKeeper$Order;)I" } : MethodName)) ∈ AW := AW_m0 5 rfl rfl
theorem aw_6 : (Cond.selects "KilnKeeper$Reader" ({ cls := "KilnKeeper$Reader", name := "endOfDigits", desc := "(II)I" } : MethodName) ({ cls := "KilnKeeper$Reader", name := "endOfDigits", desc := "(II)I" } : MethodName)) ∈ AW := AW_m0 6 rfl rfl
theorem aw_7 : (Cond.selects "KilnKeeper$Reader" ({ cls := "KilnKeeper$Reader", name := "digitAt", desc := "(I)I" } : MethodName) ({ cls := "KilnKeeper$Reader", name := "digitAt", desc := "(I)I" } : MethodName)) ∈ AW := AW_m0 7 rfl rfl
theorem aw_8 : (Cond.selects "KilnKeeper$Reader" ({ cls := "KilnKeeper$Reader", name := "numberFrom", desc := "(II)I" } : MethodName) ({ cls := "KilnKeeper$Reader", name := "numberFrom", desc := "(II)I" } : MethodName)) ∈ AW := AW_m0 8 rfl rfl
theorem aw_9 : (Cond.selects "KilnKeeper$Reader" ({ cls := "KilnKeeper$Reader", name := "isSignAt", desc := "(IC)Z" } : MethodName) ({ cls := "KilnKeeper$Reader", name := "isSignAt", desc := "(IC)Z" } : MethodName)) ∈ AW := AW_m0 9 rfl rfl
theorem aw_10 : (Cond.selects "KilnKeeper" ({ cls := "KilnKeeper", name := "carryOut", desc := "(LKilnKeeper$Order;)I" } : MethodName) ({ cls := "KilnKeeper", name := "carryOut", desc := "(LKilnKeeper$Order;)I" } : MethodName)) ∈ AW := AW_m0 10 rfl rfl
theorem aw_11 : (Cond.selects "KilnKeeper$Regulator" ({ cls := "KilnKeeper$Regulator", name := "sumWith", desc := "(I)I" } : MethodName) ({ cls := "KilnKeeper$Regulator", name := "sumWith", desc := "(I)I" } : MethodName)) ∈ AW := AW_m0 11 rfl rfl
theorem aw_12 : (Cond.selects "KilnKeeper" ({ cls := "KilnKeeper", name := "tryMinutes", desc := "(I)LKilnKeeper$Kiln;" } : MethodName) ({ cls := "KilnKeeper", name := "tryMinutes", desc := "(I)LKilnKeeper$Kiln;" } : MethodName)) ∈ AW := AW_m0 12 rfl rfl
theorem aw_13 : (Cond.selects "KilnKeeper$Rack" ({ cls := "KilnKeeper$Rack", name := "countAheadOf", desc := "(I)I" } : MethodName) ({ cls := "KilnKeeper$Rack", name := "countAheadOf", desc := "(I)I" } : MethodName)) ∈ AW := AW_m0 13 rfl rfl
theorem aw_14 : (Cond.initialized "KilnKeeperLaw") ∈ AW := AW_m1 0 rfl rfl
theorem aw_15 : (Cond.initialized "KilnKeeper") ∈ AW := AW_m1 1 rfl rfl
theorem aw_16 : (Cond.initialized "KilnKeeper$Kiln") ∈ AW := AW_m1 2 rfl rfl
theorem aw_17 : (Cond.initialized "KilnKeeper$Regulator") ∈ AW := AW_m1 3 rfl rfl
theorem aw_18 : (Cond.initialized "KilnKeeper$LagRow") ∈ AW := AW_m1 4 rfl rfl
theorem aw_19 : (Cond.initialized "KilnKeeper$Book") ∈ AW := AW_m1 5 rfl rfl
theorem aw_20 : (Cond.initialized "KilnKeeper$Rack") ∈ AW := AW_m1 6 rfl rfl
theorem aw_21 : (Cond.initialized "KilnKeeper$Pot") ∈ AW := AW_m1 7 rfl rfl
theorem aw_22 : (Cond.initialized "KilnKeeper$Changes") ∈ AW := AW_m1 8 rfl rfl
theorem aw_23 : (Cond.initialized "KilnKeeper$Refusal") ∈ AW := AW_m1 9 rfl rfl
theorem aw_24 : (Cond.initialized "KilnKeeper$Reader") ∈ AW := AW_m1 10 rfl rfl
theorem aw_25 : (Cond.initialized "java/lang/AbstractStringBuilder") ∈ AW := AW_m1 11 rfl rfl
theorem aw_26 : (Cond.initialized "java/lang/StringBuilder") ∈ AW := AW_m1 12 rfl rfl
theorem aw_27 : (Cond.initialized "java/lang/String") ∈ AW := AW_m1 13 rfl rfl
theorem aw_28 : (Cond.initialized "java/lang/StringUTF16") ∈ AW := AW_m1 14 rfl rfl
theorem aw_29 : (Cond.initialized "KilnKeeper$Order") ∈ AW := AW_m1 15 rfl rfl
theorem aw_30 : (Cond.initialized "java/lang/Enum") ∈ AW := AW_m1 16 rfl rfl
theorem aw_31 : (Cond.initialized "KilnKeeper$Word") ∈ AW := AW_m1 17 rfl rfl
theorem aw_32 : (Cond.initialized "java/lang/Math") ∈ AW := AW_m1 18 rfl rfl
theorem aw_33 : (Cond.initialized "jdk/internal/util/ArraysSupport") ∈ AW := AW_m1 19 rfl rfl
theorem aw_34 : (Cond.initialized "java/util/Arrays") ∈ AW := AW_m1 20 rfl rfl
theorem aw_35 : (Cond.initialized "java/lang/System") ∈ AW := AW_m1 21 rfl rfl
theorem aw_36 : (Cond.initialized "java/lang/StringLatin1") ∈ AW := AW_m1 22 rfl rfl
theorem aw_37 : (Cond.initialized "java/lang/Integer") ∈ AW := AW_m1 23 rfl rfl
theorem aw_38 : (Cond.initialized "jdk/internal/util/Preconditions") ∈ AW := AW_m1 24 rfl rfl
theorem aw_39 : (Cond.initialized "KilnKeeper$1") ∈ AW := AW_m1 25 rfl rfl
theorem aw_40 : (Cond.classLink "KilnKeeperLaw" (25 : Nat) "KilnKeeper") ∈ AW := AW_m1 26 rfl rfl
theorem aw_41 : (Cond.instantiable "KilnKeeper" (9 : Nat)) ∈ AW := AW_m1 27 rfl rfl
theorem aw_42 : (Cond.methodLink "KilnKeeperLaw" (40 : Nat) ({ cls := "KilnKeeper", name := "<init>", desc := "()V" } : MethodName)) ∈ AW := AW_m1 28 rfl rfl
theorem aw_43 : (Cond.instanceMethod ({ cls := "KilnKeeper", name := "<init>", desc := "()V" } : MethodName)) ∈ AW := AW_m1 29 rfl rfl
theorem aw_44 : (Cond.code ({ cls := "KilnKeeper", name := "<init>", desc := "()V" } : MethodName) prog_1_method_1_code (1 : Nat) (Option.none : Option FieldType)) ∈ AW := AW_m1 30 rfl rfl
theorem aw_45 : (Cond.methodLink "KilnKeeper" (1 : Nat) ({ cls := "java/lang/Object", name := "<init>", desc := "()V" } : MethodName)) ∈ AW := AW_m1 31 rfl rfl
theorem aw_46 : (Cond.instanceMethod ({ cls := "java/lang/Object", name := "<init>", desc := "()V" } : MethodName)) ∈ AW := AW_m1 32 rfl rfl
theorem aw_47 : (Cond.code ({ cls := "java/lang/Object", name := "<init>", desc := "()V" } : MethodName) object_method_1_code (1 : Nat) (Option.none : Option FieldType)) ∈ AW := AW_m1 33 rfl rfl
theorem aw_48 : (Cond.classLink "KilnKeeper" (7 : Nat) "KilnKeeper$Kiln") ∈ AW := AW_m1 34 rfl rfl
theorem aw_49 : (Cond.instantiable "KilnKeeper$Kiln" (8 : Nat)) ∈ AW := AW_m1 35 rfl rfl
theorem at_50 : (Cond.methodLinkNest "KilnKeeper" (9 : Nat) ({ cls := "KilnKeeper$Kiln", name := "<init>", desc := "()V" } : MethodName) "KilnKeeper") ∈ lw_tbl := List.mem_append_right _ (List.mem_append_left _ (List.mem_of_getElem? (l := tables_1_1) (i := 36) rfl))
theorem aw_51 : (Cond.instanceMethod ({ cls := "KilnKeeper$Kiln", name := "<init>", desc := "()V" } : MethodName)) ∈ AW := AW_m1 37 rfl rfl
theorem aw_52 : (Cond.code ({ cls := "KilnKeeper$Kiln", name := "<init>", desc := "()V" } : MethodName) prog_5_method_1_code (1 : Nat) (Option.none : Option FieldType)) ∈ AW := AW_m1 38 rfl rfl
theorem aw_53 : (Cond.methodLink "KilnKeeper$Kiln" (3 : Nat) ({ cls := "java/lang/Object", name := "<init>", desc := "()V" } : MethodName)) ∈ AW := AW_m1 39 rfl rfl
theorem aw_54 : (Cond.classLink "KilnKeeper$Kiln" (24 : Nat) "KilnKeeper$Regulator") ∈ AW := AW_m1 40 rfl rfl
theorem aw_55 : (Cond.instantiable "KilnKeeper$Regulator" (6 : Nat)) ∈ AW := AW_m1 41 rfl rfl
theorem at_56 : (Cond.methodLinkNest "KilnKeeper$Kiln" (26 : Nat) ({ cls := "KilnKeeper$Regulator", name := "<init>", desc := "()V" } : MethodName) "KilnKeeper") ∈ lw_tbl := List.mem_append_right _ (List.mem_append_left _ (List.mem_of_getElem? (l := tables_1_1) (i := 42) rfl))
theorem aw_57 : (Cond.instanceMethod ({ cls := "KilnKeeper$Regulator", name := "<init>", desc := "()V" } : MethodName)) ∈ AW := AW_m1 43 rfl rfl
theorem aw_58 : (Cond.code ({ cls := "KilnKeeper$Regulator", name := "<init>", desc := "()V" } : MethodName) prog_12_method_1_code (1 : Nat) (Option.none : Option FieldType)) ∈ AW := AW_m1 44 rfl rfl
theorem aw_59 : (Cond.methodLink "KilnKeeper$Regulator" (3 : Nat) ({ cls := "java/lang/Object", name := "<init>", desc := "()V" } : MethodName)) ∈ AW := AW_m1 45 rfl rfl
theorem aw_60 : (Cond.fieldLink "KilnKeeper$Regulator" (9 : Nat) "KilnKeeper$Regulator" "errorGain" "I") ∈ AW := AW_m1 46 rfl rfl
theorem aw_61 : (Cond.fieldLink "KilnKeeper$Regulator" (15 : Nat) "KilnKeeper$Regulator" "sumGain" "I") ∈ AW := AW_m1 47 rfl rfl
theorem aw_62 : (Cond.fieldLink "KilnKeeper$Regulator" (18 : Nat) "KilnKeeper$Regulator" "changeGain" "I") ∈ AW := AW_m1 48 rfl rfl
theorem aw_63 : (Cond.fieldLink "KilnKeeper$Regulator" (21 : Nat) "KilnKeeper$Regulator" "cap" "I") ∈ AW := AW_m1 49 rfl rfl
theorem aw_64 : (Cond.fieldLink "KilnKeeper$Regulator" (24 : Nat) "KilnKeeper$Regulator" "sum" "I") ∈ AW := AW_m1 50 rfl rfl
theorem aw_65 : (Cond.fieldLink "KilnKeeper$Kiln" (140 : Nat) "KilnKeeper$Regulator" "sum" "I") ∈ AW := AW_m1 51 rfl rfl
theorem aw_66 : (Cond.fieldLink "KilnKeeper$Regulator" (27 : Nat) "KilnKeeper$Regulator" "latestError" "I") ∈ AW := AW_m1 52 rfl rfl
theorem aw_67 : (Cond.fieldLink "KilnKeeper$Kiln" (143 : Nat) "KilnKeeper$Regulator" "latestError" "I") ∈ AW := AW_m1 53 rfl rfl
theorem aw_68 : (Cond.lays "KilnKeeper$Regulator" "KilnKeeper$Regulator" "errorGain" "I") ∈ AW := AW_m1 54 rfl rfl
theorem aw_69 : (Cond.soleField "KilnKeeper$Regulator" "errorGain") ∈ AW := AW_m1 55 rfl rfl
theorem aw_70 : (Cond.lays "KilnKeeper$Regulator" "KilnKeeper$Regulator" "sumGain" "I") ∈ AW := AW_m1 56 rfl rfl
theorem aw_71 : (Cond.soleField "KilnKeeper$Regulator" "sumGain") ∈ AW := AW_m1 57 rfl rfl
theorem aw_72 : (Cond.lays "KilnKeeper$Regulator" "KilnKeeper$Regulator" "changeGain" "I") ∈ AW := AW_m1 58 rfl rfl
theorem aw_73 : (Cond.soleField "KilnKeeper$Regulator" "changeGain") ∈ AW := AW_m1 59 rfl rfl
theorem aw_74 : (Cond.lays "KilnKeeper$Regulator" "KilnKeeper$Regulator" "cap" "I") ∈ AW := AW_m1 60 rfl rfl
theorem aw_75 : (Cond.soleField "KilnKeeper$Regulator" "cap") ∈ AW := AW_m1 61 rfl rfl
theorem aw_76 : (Cond.lays "KilnKeeper$Regulator" "KilnKeeper$Regulator" "sum" "I") ∈ AW := AW_m1 62 rfl rfl
theorem aw_77 : (Cond.soleField "KilnKeeper$Regulator" "sum") ∈ AW := AW_m1 63 rfl rfl
theorem aw_78 : (Cond.lays "KilnKeeper$Regulator" "KilnKeeper$Regulator" "latestError" "I") ∈ AW := AW_m1 64 rfl rfl
theorem aw_79 : (Cond.soleField "KilnKeeper$Regulator" "latestError") ∈ AW := AW_m1 65 rfl rfl
theorem aw_80 : (Cond.superclass "KilnKeeper$Regulator" "java/lang/Object") ∈ AW := AW_m1 66 rfl rfl
theorem aw_81 : (Cond.classLink "KilnKeeper$Kiln" (31 : Nat) "KilnKeeper$LagRow") ∈ AW := AW_m1 67 rfl rfl
theorem aw_82 : (Cond.instantiable "KilnKeeper$LagRow" (2 : Nat)) ∈ AW := AW_m1 68 rfl rfl
theorem at_83 : (Cond.methodLinkNest "KilnKeeper$Kiln" (33 : Nat) ({ cls := "KilnKeeper$LagRow", name := "<init>", desc := "()V" } : MethodName) "KilnKeeper") ∈ lw_tbl := List.mem_append_right _ (List.mem_append_left _ (List.mem_of_getElem? (l := tables_1_1) (i := 69) rfl))
theorem aw_84 : (Cond.instanceMethod ({ cls := "KilnKeeper$LagRow", name := "<init>", desc := "()V" } : MethodName)) ∈ AW := AW_m1 70 rfl rfl
theorem aw_85 : (Cond.code ({ cls := "KilnKeeper$LagRow", name := "<init>", desc := "()V" } : MethodName) prog_6_method_1_code (1 : Nat) (Option.none : Option FieldType)) ∈ AW := AW_m1 71 rfl rfl
theorem aw_86 : (Cond.methodLink "KilnKeeper$LagRow" (3 : Nat) ({ cls := "java/lang/Object", name := "<init>", desc := "()V" } : MethodName)) ∈ AW := AW_m1 72 rfl rfl
theorem aw_87 : (Cond.fieldLink "KilnKeeper$LagRow" (9 : Nat) "KilnKeeper$LagRow" "length" "I") ∈ AW := AW_m1 73 rfl rfl
theorem aw_88 : (Cond.fieldLink "KilnKeeper$Kiln" (75 : Nat) "KilnKeeper$LagRow" "length" "I") ∈ AW := AW_m1 74 rfl rfl
theorem aw_89 : (Cond.fieldLink "KilnKeeper$LagRow" (15 : Nat) "KilnKeeper$LagRow" "dampers" "[I") ∈ AW := AW_m1 75 rfl rfl
theorem aw_90 : (Cond.lays "KilnKeeper$LagRow" "KilnKeeper$LagRow" "length" "I") ∈ AW := AW_m1 76 rfl rfl
theorem aw_91 : (Cond.soleField "KilnKeeper$LagRow" "length") ∈ AW := AW_m1 77 rfl rfl
theorem aw_92 : (Cond.laysFinal "KilnKeeper$LagRow" "KilnKeeper$LagRow" "dampers" "[I") ∈ AW := AW_m1 78 rfl rfl
theorem aw_93 : (Cond.soleField "KilnKeeper$LagRow" "dampers") ∈ AW := AW_m1 79 rfl rfl
theorem aw_94 : (Cond.superclass "KilnKeeper$LagRow" "java/lang/Object") ∈ AW := AW_m1 80 rfl rfl
theorem aw_95 : (Cond.arrayClass FieldType.int) ∈ AW := AW_m1 81 rfl rfl
theorem aw_96 : (Cond.classLink "KilnKeeper$Kiln" (38 : Nat) "KilnKeeper$Book") ∈ AW := AW_m1 82 rfl rfl
theorem aw_97 : (Cond.instantiable "KilnKeeper$Book" (6 : Nat)) ∈ AW := AW_m1 83 rfl rfl
theorem at_98 : (Cond.methodLinkNest "KilnKeeper$Kiln" (40 : Nat) ({ cls := "KilnKeeper$Book", name := "<init>", desc := "()V" } : MethodName) "KilnKeeper") ∈ lw_tbl := List.mem_append_right _ (List.mem_append_left _ (List.mem_of_getElem? (l := tables_1_1) (i := 84) rfl))
theorem aw_99 : (Cond.instanceMethod ({ cls := "KilnKeeper$Book", name := "<init>", desc := "()V" } : MethodName)) ∈ AW := AW_m1 85 rfl rfl
theorem aw_100 : (Cond.code ({ cls := "KilnKeeper$Book", name := "<init>", desc := "()V" } : MethodName) prog_3_method_1_code (1 : Nat) (Option.none : Option FieldType)) ∈ AW := AW_m1 86 rfl rfl
theorem aw_101 : (Cond.methodLink "KilnKeeper$Book" (3 : Nat) ({ cls := "java/lang/Object", name := "<init>", desc := "()V" } : MethodName)) ∈ AW := AW_m1 87 rfl rfl
theorem aw_102 : (Cond.fieldLink "KilnKeeper$Book" (9 : Nat) "KilnKeeper$Book" "minutes" "I") ∈ AW := AW_m1 88 rfl rfl
theorem aw_103 : (Cond.fieldLink "KilnKeeper$Kiln" (137 : Nat) "KilnKeeper$Book" "minutes" "I") ∈ AW := AW_m1 89 rfl rfl
theorem aw_104 : (Cond.fieldLink "KilnKeeper" (236 : Nat) "KilnKeeper$Book" "minutes" "I") ∈ AW := AW_m1 90 rfl rfl
theorem aw_105 : (Cond.fieldLink "KilnKeeper$Book" (15 : Nat) "KilnKeeper$Book" "fuelLeft" "I") ∈ AW := AW_m1 91 rfl rfl
theorem aw_106 : (Cond.fieldLink "KilnKeeper$Kiln" (130 : Nat) "KilnKeeper$Book" "fuelLeft" "I") ∈ AW := AW_m1 92 rfl rfl
theorem aw_107 : (Cond.fieldLink "KilnKeeper$Book" (18 : Nat) "KilnKeeper$Book" "fuelThatCame" "I") ∈ AW := AW_m1 93 rfl rfl
theorem aw_108 : (Cond.fieldLink "KilnKeeper$Kiln" (146 : Nat) "KilnKeeper$Book" "fuelThatCame" "I") ∈ AW := AW_m1 94 rfl rfl
theorem aw_109 : (Cond.fieldLink "KilnKeeper$Book" (21 : Nat) "KilnKeeper$Book" "burntFuel" "I") ∈ AW := AW_m1 95 rfl rfl
theorem aw_110 : (Cond.fieldLink "KilnKeeper" (160 : Nat) "KilnKeeper$Book" "burntFuel" "I") ∈ AW := AW_m1 96 rfl rfl
theorem aw_111 : (Cond.fieldLink "KilnKeeper$Book" (24 : Nat) "KilnKeeper$Book" "amounts" "[I") ∈ AW := AW_m1 97 rfl rfl
theorem aw_112 : (Cond.fieldLink "KilnKeeper" (166 : Nat) "KilnKeeper$Book" "amounts" "[I") ∈ AW := AW_m1 98 rfl rfl
theorem aw_113 : (Cond.fieldLink "KilnKeeper$Book" (28 : Nat) "KilnKeeper$Book" "log" "[I") ∈ AW := AW_m1 99 rfl rfl
theorem aw_114 : (Cond.lays "KilnKeeper$Book" "KilnKeeper$Book" "minutes" "I") ∈ AW := AW_m1 100 rfl rfl
theorem aw_115 : (Cond.soleField "KilnKeeper$Book" "minutes") ∈ AW := AW_m1 101 rfl rfl
theorem aw_116 : (Cond.lays "KilnKeeper$Book" "KilnKeeper$Book" "fuelLeft" "I") ∈ AW := AW_m1 102 rfl rfl
theorem aw_117 : (Cond.soleField "KilnKeeper$Book" "fuelLeft") ∈ AW := AW_m1 103 rfl rfl
theorem aw_118 : (Cond.lays "KilnKeeper$Book" "KilnKeeper$Book" "fuelThatCame" "I") ∈ AW := AW_m1 104 rfl rfl
theorem aw_119 : (Cond.soleField "KilnKeeper$Book" "fuelThatCame") ∈ AW := AW_m1 105 rfl rfl
theorem aw_120 : (Cond.lays "KilnKeeper$Book" "KilnKeeper$Book" "burntFuel" "I") ∈ AW := AW_m1 106 rfl rfl
theorem aw_121 : (Cond.soleField "KilnKeeper$Book" "burntFuel") ∈ AW := AW_m1 107 rfl rfl
theorem aw_122 : (Cond.laysFinal "KilnKeeper$Book" "KilnKeeper$Book" "amounts" "[I") ∈ AW := AW_m1 108 rfl rfl
theorem aw_123 : (Cond.soleField "KilnKeeper$Book" "amounts") ∈ AW := AW_m1 109 rfl rfl
theorem aw_124 : (Cond.laysFinal "KilnKeeper$Book" "KilnKeeper$Book" "log" "[I") ∈ AW := AW_m1 110 rfl rfl
theorem aw_125 : (Cond.soleField "KilnKeeper$Book" "log") ∈ AW := AW_m1 111 rfl rfl
theorem aw_126 : (Cond.superclass "KilnKeeper$Book" "java/lang/Object") ∈ AW := AW_m1 112 rfl rfl
theorem aw_127 : (Cond.classLink "KilnKeeper$Kiln" (45 : Nat) "KilnKeeper$Rack") ∈ AW := AW_m1 113 rfl rfl
theorem aw_128 : (Cond.instantiable "KilnKeeper$Rack" (2 : Nat)) ∈ AW := AW_m1 114 rfl rfl
theorem aw_129 : (Cond.methodLink "KilnKeeper$Kiln" (47 : Nat) ({ cls := "KilnKeeper$Rack", name := "<init>", desc := "()V" } : MethodName)) ∈ AW := AW_m1 115 rfl rfl
theorem aw_130 : (Cond.instanceMethod ({ cls := "KilnKeeper$Rack", name := "<init>", desc := "()V" } : MethodName)) ∈ AW := AW_m1 116 rfl rfl
theorem aw_131 : (Cond.code ({ cls := "KilnKeeper$Rack", name := "<init>", desc := "()V" } : MethodName) prog_9_method_1_code (2 : Nat) (Option.none : Option FieldType)) ∈ AW := AW_m1 117 rfl rfl
theorem aw_132 : (Cond.methodLink "KilnKeeper$Rack" (3 : Nat) ({ cls := "java/lang/Object", name := "<init>", desc := "()V" } : MethodName)) ∈ AW := AW_m1 118 rfl rfl
theorem aw_133 : (Cond.classLink "KilnKeeper$Rack" (15 : Nat) "KilnKeeper$Pot") ∈ AW := AW_m1 119 rfl rfl
theorem at_134 : (Cond.arrayOver (FieldType.object "KilnKeeper$Pot")) ∈ lw_tbl := List.mem_append_right _ (List.mem_append_left _ (List.mem_of_getElem? (l := tables_1_1) (i := 120) rfl))
theorem aw_135 : (Cond.instantiable "KilnKeeper$Pot" (7 : Nat)) ∈ AW := AW_m1 121 rfl rfl
theorem at_136 : (Cond.methodLinkNest "KilnKeeper$Rack" (21 : Nat) ({ cls := "KilnKeeper$Pot", name := "<init>", desc := "()V" } : MethodName) "KilnKeeper") ∈ lw_tbl := List.mem_append_right _ (List.mem_append_left _ (List.mem_of_getElem? (l := tables_1_1) (i := 122) rfl))
theorem aw_137 : (Cond.instanceMethod ({ cls := "KilnKeeper$Pot", name := "<init>", desc := "()V" } : MethodName)) ∈ AW := AW_m1 123 rfl rfl
theorem aw_138 : (Cond.code ({ cls := "KilnKeeper$Pot", name := "<init>", desc := "()V" } : MethodName) prog_8_method_1_code (1 : Nat) (Option.none : Option FieldType)) ∈ AW := AW_m1 124 rfl rfl
theorem aw_139 : (Cond.methodLink "KilnKeeper$Pot" (3 : Nat) ({ cls := "java/lang/Object", name := "<init>", desc := "()V" } : MethodName)) ∈ AW := AW_m1 125 rfl rfl
theorem aw_140 : (Cond.fieldLink "KilnKeeper$Pot" (9 : Nat) "KilnKeeper$Pot" "shock" "I") ∈ AW := AW_m1 126 rfl rfl
theorem aw_141 : (Cond.fieldLink "KilnKeeper$Pot" (15 : Nat) "KilnKeeper$Pot" "needed" "I") ∈ AW := AW_m1 127 rfl rfl
theorem aw_142 : (Cond.fieldLink "KilnKeeper$Pot" (18 : Nat) "KilnKeeper$Pot" "soaking" "I") ∈ AW := AW_m1 128 rfl rfl
theorem aw_143 : (Cond.fieldLink "KilnKeeper$Rack" (70 : Nat) "KilnKeeper$Pot" "soaking" "I") ∈ AW := AW_m1 129 rfl rfl
theorem aw_144 : (Cond.fieldLink "KilnKeeper$Pot" (21 : Nat) "KilnKeeper$Pot" "state" "I") ∈ AW := AW_m1 130 rfl rfl
theorem aw_145 : (Cond.fieldLink "KilnKeeper$Rack" (44 : Nat) "KilnKeeper$Pot" "state" "I") ∈ AW := AW_m1 131 rfl rfl
theorem aw_146 : (Cond.fieldLink "KilnKeeper" (130 : Nat) "KilnKeeper$Pot" "state" "I") ∈ AW := AW_m1 132 rfl rfl
theorem aw_147 : (Cond.fieldLink "KilnKeeper$Pot" (24 : Nat) "KilnKeeper$Pot" "soaked" "I") ∈ AW := AW_m1 133 rfl rfl
theorem aw_148 : (Cond.fieldLink "KilnKeeper$Rack" (67 : Nat) "KilnKeeper$Pot" "soaked" "I") ∈ AW := AW_m1 134 rfl rfl
theorem aw_149 : (Cond.fieldLink "KilnKeeper$Pot" (27 : Nat) "KilnKeeper$Pot" "isWithin" "Z") ∈ AW := AW_m1 135 rfl rfl
theorem aw_150 : (Cond.fieldLink "KilnKeeper$Rack" (51 : Nat) "KilnKeeper$Pot" "isWithin" "Z") ∈ AW := AW_m1 136 rfl rfl
theorem aw_151 : (Cond.fieldLink "KilnKeeper$Pot" (31 : Nat) "KilnKeeper$Pot" "mostJump" "I") ∈ AW := AW_m1 137 rfl rfl
theorem aw_152 : (Cond.lays "KilnKeeper$Pot" "KilnKeeper$Pot" "shock" "I") ∈ AW := AW_m1 138 rfl rfl
theorem aw_153 : (Cond.soleField "KilnKeeper$Pot" "shock") ∈ AW := AW_m1 139 rfl rfl
theorem aw_154 : (Cond.lays "KilnKeeper$Pot" "KilnKeeper$Pot" "needed" "I") ∈ AW := AW_m1 140 rfl rfl
theorem aw_155 : (Cond.soleField "KilnKeeper$Pot" "needed") ∈ AW := AW_m1 141 rfl rfl
theorem aw_156 : (Cond.lays "KilnKeeper$Pot" "KilnKeeper$Pot" "soaking" "I") ∈ AW := AW_m1 142 rfl rfl
theorem aw_157 : (Cond.soleField "KilnKeeper$Pot" "soaking") ∈ AW := AW_m1 143 rfl rfl
theorem aw_158 : (Cond.lays "KilnKeeper$Pot" "KilnKeeper$Pot" "state" "I") ∈ AW := AW_m1 144 rfl rfl
theorem aw_159 : (Cond.soleField "KilnKeeper$Pot" "state") ∈ AW := AW_m1 145 rfl rfl
theorem aw_160 : (Cond.lays "KilnKeeper$Pot" "KilnKeeper$Pot" "soaked" "I") ∈ AW := AW_m1 146 rfl rfl
theorem aw_161 : (Cond.soleField "KilnKeeper$Pot" "soaked") ∈ AW := AW_m1 147 rfl rfl
theorem aw_162 : (Cond.lays "KilnKeeper$Pot" "KilnKeeper$Pot" "isWithin" "Z") ∈ AW := AW_m1 148 rfl rfl
theorem aw_163 : (Cond.soleField "KilnKeeper$Pot" "isWithin") ∈ AW := AW_m1 149 rfl rfl
theorem aw_164 : (Cond.lays "KilnKeeper$Pot" "KilnKeeper$Pot" "mostJump" "I") ∈ AW := AW_m1 150 rfl rfl
theorem aw_165 : (Cond.soleField "KilnKeeper$Pot" "mostJump") ∈ AW := AW_m1 151 rfl rfl
theorem aw_166 : (Cond.superclass "KilnKeeper$Pot" "java/lang/Object") ∈ AW := AW_m1 152 rfl rfl
theorem aw_167 : (Cond.fieldLink "KilnKeeper$Rack" (9 : Nat) "KilnKeeper$Rack" "count" "I") ∈ AW := AW_m1 153 rfl rfl
theorem aw_168 : (Cond.fieldLink "KilnKeeper$Kiln" (149 : Nat) "KilnKeeper$Rack" "count" "I") ∈ AW := AW_m1 154 rfl rfl
theorem aw_169 : (Cond.fieldLink "KilnKeeper" (239 : Nat) "KilnKeeper$Rack" "count" "I") ∈ AW := AW_m1 155 rfl rfl
theorem aw_170 : (Cond.fieldLink "KilnKeeper$Rack" (17 : Nat) "KilnKeeper$Rack" "pots" "[LKilnKeeper$Pot;") ∈ AW := AW_m1 156 rfl rfl
theorem aw_171 : (Cond.lays "KilnKeeper$Rack" "KilnKeeper$Rack" "count" "I") ∈ AW := AW_m1 157 rfl rfl
theorem aw_172 : (Cond.soleField "KilnKeeper$Rack" "count") ∈ AW := AW_m1 158 rfl rfl
theorem aw_173 : (Cond.laysFinal "KilnKeeper$Rack" "KilnKeeper$Rack" "pots" "[LKilnKeeper$Pot;") ∈ AW := AW_m1 159 rfl rfl
theorem aw_174 : (Cond.soleField "KilnKeeper$Rack" "pots") ∈ AW := AW_m1 160 rfl rfl
theorem aw_175 : (Cond.superclass "KilnKeeper$Rack" "java/lang/Object") ∈ AW := AW_m1 161 rfl rfl
theorem aw_176 : (Cond.fieldLink "KilnKeeper$Kiln" (9 : Nat) "KilnKeeper$Kiln" "degrees" "I") ∈ AW := AW_m1 162 rfl rfl
theorem aw_177 : (Cond.fieldLink "KilnKeeper" (106 : Nat) "KilnKeeper$Kiln" "degrees" "I") ∈ AW := AW_m1 163 rfl rfl
theorem aw_178 : (Cond.fieldLink "KilnKeeper$Kiln" (15 : Nat) "KilnKeeper$Kiln" "aimedDegrees" "I") ∈ AW := AW_m1 164 rfl rfl
theorem aw_179 : (Cond.fieldLink "KilnKeeper$Kiln" (18 : Nat) "KilnKeeper$Kiln" "overshoot" "I") ∈ AW := AW_m1 165 rfl rfl
theorem aw_180 : (Cond.fieldLink "KilnKeeper" (153 : Nat) "KilnKeeper$Kiln" "overshoot" "I") ∈ AW := AW_m1 166 rfl rfl
theorem aw_181 : (Cond.fieldLink "KilnKeeper$Kiln" (21 : Nat) "KilnKeeper$Kiln" "damper" "I") ∈ AW := AW_m1 167 rfl rfl
theorem aw_182 : (Cond.fieldLink "KilnKeeper$Kiln" (27 : Nat) "KilnKeeper$Kiln" "regulator" "LKilnKeeper$Regulator;") ∈ AW := AW_m1 168 rfl rfl
theorem aw_183 : (Cond.fieldLink "KilnKeeper" (68 : Nat) "KilnKeeper$Kiln" "regulator" "LKilnKeeper$Regulator;") ∈ AW := AW_m1 169 rfl rfl
theorem aw_184 : (Cond.fieldLink "KilnKeeper$Kiln" (34 : Nat) "KilnKeeper$Kiln" "lagRow" "LKilnKeeper$LagRow;") ∈ AW := AW_m1 170 rfl rfl
theorem aw_185 : (Cond.fieldLink "KilnKeeper$Kiln" (41 : Nat) "KilnKeeper$Kiln" "book" "LKilnKeeper$Book;") ∈ AW := AW_m1 171 rfl rfl
theorem aw_186 : (Cond.fieldLink "KilnKeeper" (84 : Nat) "KilnKeeper$Kiln" "book" "LKilnKeeper$Book;") ∈ AW := AW_m1 172 rfl rfl
theorem aw_187 : (Cond.fieldLink "KilnKeeper$Kiln" (48 : Nat) "KilnKeeper$Kiln" "rack" "LKilnKeeper$Rack;") ∈ AW := AW_m1 173 rfl rfl
theorem aw_188 : (Cond.fieldLink "KilnKeeper" (96 : Nat) "KilnKeeper$Kiln" "rack" "LKilnKeeper$Rack;") ∈ AW := AW_m1 174 rfl rfl
theorem aw_189 : (Cond.lays "KilnKeeper$Kiln" "KilnKeeper$Kiln" "degrees" "I") ∈ AW := AW_m1 175 rfl rfl
theorem aw_190 : (Cond.soleField "KilnKeeper$Kiln" "degrees") ∈ AW := AW_m1 176 rfl rfl
theorem aw_191 : (Cond.lays "KilnKeeper$Kiln" "KilnKeeper$Kiln" "aimedDegrees" "I") ∈ AW := AW_m1 177 rfl rfl
theorem aw_192 : (Cond.soleField "KilnKeeper$Kiln" "aimedDegrees") ∈ AW := AW_m1 178 rfl rfl
theorem aw_193 : (Cond.lays "KilnKeeper$Kiln" "KilnKeeper$Kiln" "overshoot" "I") ∈ AW := AW_m1 179 rfl rfl
theorem aw_194 : (Cond.soleField "KilnKeeper$Kiln" "overshoot") ∈ AW := AW_m1 180 rfl rfl
theorem aw_195 : (Cond.lays "KilnKeeper$Kiln" "KilnKeeper$Kiln" "damper" "I") ∈ AW := AW_m1 181 rfl rfl
theorem aw_196 : (Cond.soleField "KilnKeeper$Kiln" "damper") ∈ AW := AW_m1 182 rfl rfl
theorem aw_197 : (Cond.laysFinal "KilnKeeper$Kiln" "KilnKeeper$Kiln" "regulator" "LKilnKeeper$Regulator;") ∈ AW := AW_m1 183 rfl rfl
theorem aw_198 : (Cond.soleField "KilnKeeper$Kiln" "regulator") ∈ AW := AW_m1 184 rfl rfl
theorem aw_199 : (Cond.laysFinal "KilnKeeper$Kiln" "KilnKeeper$Kiln" "lagRow" "LKilnKeeper$LagRow;") ∈ AW := AW_m1 185 rfl rfl
theorem aw_200 : (Cond.soleField "KilnKeeper$Kiln" "lagRow") ∈ AW := AW_m1 186 rfl rfl
theorem aw_201 : (Cond.laysFinal "KilnKeeper$Kiln" "KilnKeeper$Kiln" "book" "LKilnKeeper$Book;") ∈ AW := AW_m1 187 rfl rfl
theorem aw_202 : (Cond.soleField "KilnKeeper$Kiln" "book") ∈ AW := AW_m1 188 rfl rfl
theorem aw_203 : (Cond.laysFinal "KilnKeeper$Kiln" "KilnKeeper$Kiln" "rack" "LKilnKeeper$Rack;") ∈ AW := AW_m1 189 rfl rfl
theorem aw_204 : (Cond.soleField "KilnKeeper$Kiln" "rack") ∈ AW := AW_m1 190 rfl rfl
theorem aw_205 : (Cond.superclass "KilnKeeper$Kiln" "java/lang/Object") ∈ AW := AW_m1 191 rfl rfl
theorem aw_206 : (Cond.classLink "KilnKeeper" (26 : Nat) "KilnKeeper$Changes") ∈ AW := AW_m1 192 rfl rfl
theorem aw_207 : (Cond.instantiable "KilnKeeper$Changes" (3 : Nat)) ∈ AW := AW_m1 193 rfl rfl
theorem aw_208 : (Cond.methodLink "KilnKeeper" (28 : Nat) ({ cls := "KilnKeeper$Changes", name := "<init>", desc := "()V" } : MethodName)) ∈ AW := AW_m1 194 rfl rfl
theorem aw_209 : (Cond.instanceMethod ({ cls := "KilnKeeper$Changes", name := "<init>", desc := "()V" } : MethodName)) ∈ AW := AW_m1 195 rfl rfl
theorem aw_210 : (Cond.code ({ cls := "KilnKeeper$Changes", name := "<init>", desc := "()V" } : MethodName) prog_4_method_1_code (2 : Nat) (Option.none : Option FieldType)) ∈ AW := AW_m1 196 rfl rfl
theorem aw_211 : (Cond.methodLink "KilnKeeper$Changes" (3 : Nat) ({ cls := "java/lang/Object", name := "<init>", desc := "()V" } : MethodName)) ∈ AW := AW_m1 197 rfl rfl
theorem aw_212 : (Cond.classLink "KilnKeeper$Changes" (18 : Nat) "KilnKeeper$Kiln") ∈ AW := AW_m1 198 rfl rfl
theorem at_213 : (Cond.arrayOver (FieldType.object "KilnKeeper$Kiln")) ∈ lw_tbl := List.mem_append_right _ (List.mem_append_left _ (List.mem_of_getElem? (l := tables_1_1) (i := 199) rfl))
theorem at_214 : (Cond.methodLinkNest "KilnKeeper$Changes" (24 : Nat) ({ cls := "KilnKeeper$Kiln", name := "<init>", desc := "()V" } : MethodName) "KilnKeeper") ∈ lw_tbl := List.mem_append_right _ (List.mem_append_left _ (List.mem_of_getElem? (l := tables_1_1) (i := 200) rfl))
theorem aw_215 : (Cond.fieldLink "KilnKeeper$Changes" (9 : Nat) "KilnKeeper$Changes" "count" "I") ∈ AW := AW_m1 201 rfl rfl
theorem aw_216 : (Cond.fieldLink "KilnKeeper" (223 : Nat) "KilnKeeper$Changes" "count" "I") ∈ AW := AW_m1 202 rfl rfl
theorem aw_217 : (Cond.fieldLink "KilnKeeper$Changes" (15 : Nat) "KilnKeeper$Changes" "start" "I") ∈ AW := AW_m1 203 rfl rfl
theorem aw_218 : (Cond.fieldLink "KilnKeeper$Changes" (20 : Nat) "KilnKeeper$Changes" "kilns" "[LKilnKeeper$Kiln;") ∈ AW := AW_m1 204 rfl rfl
theorem aw_219 : (Cond.lays "KilnKeeper$Changes" "KilnKeeper$Changes" "count" "I") ∈ AW := AW_m1 205 rfl rfl
theorem aw_220 : (Cond.soleField "KilnKeeper$Changes" "count") ∈ AW := AW_m1 206 rfl rfl
theorem aw_221 : (Cond.lays "KilnKeeper$Changes" "KilnKeeper$Changes" "start" "I") ∈ AW := AW_m1 207 rfl rfl
theorem aw_222 : (Cond.soleField "KilnKeeper$Changes" "start") ∈ AW := AW_m1 208 rfl rfl
theorem aw_223 : (Cond.laysFinal "KilnKeeper$Changes" "KilnKeeper$Changes" "kilns" "[LKilnKeeper$Kiln;") ∈ AW := AW_m1 209 rfl rfl
theorem aw_224 : (Cond.soleField "KilnKeeper$Changes" "kilns") ∈ AW := AW_m1 210 rfl rfl
theorem aw_225 : (Cond.superclass "KilnKeeper$Changes" "java/lang/Object") ∈ AW := AW_m1 211 rfl rfl
theorem aw_226 : (Cond.classLink "KilnKeeper" (33 : Nat) "KilnKeeper$Refusal") ∈ AW := AW_m1 212 rfl rfl
theorem aw_227 : (Cond.instantiable "KilnKeeper$Refusal" (2 : Nat)) ∈ AW := AW_m1 213 rfl rfl
theorem at_228 : (Cond.methodLinkNest "KilnKeeper" (35 : Nat) ({ cls := "KilnKeeper$Refusal", name := "<init>", desc := "()V" } : MethodName) "KilnKeeper") ∈ lw_tbl := List.mem_append_right _ (List.mem_append_left _ (List.mem_of_getElem? (l := tables_1_1) (i := 214) rfl))
theorem aw_229 : (Cond.instanceMethod ({ cls := "KilnKeeper$Refusal", name := "<init>", desc := "()V" } : MethodName)) ∈ AW := AW_m1 215 rfl rfl
theorem aw_230 : (Cond.code ({ cls := "KilnKeeper$Refusal", name := "<init>", desc := "()V" } : MethodName) prog_11_method_1_code (1 : Nat) (Option.none : Option FieldType)) ∈ AW := AW_m1 216 rfl rfl
theorem aw_231 : (Cond.methodLink "KilnKeeper$Refusal" (3 : Nat) ({ cls := "java/lang/Object", name := "<init>", desc := "()V" } : MethodName)) ∈ AW := AW_m1 217 rfl rfl
theorem aw_232 : (Cond.fieldLink "KilnKeeper$Refusal" (9 : Nat) "KilnKeeper$Refusal" "cause" "I") ∈ AW := AW_m1 218 rfl rfl
theorem aw_233 : (Cond.fieldLink "KilnKeeper$Refusal" (15 : Nat) "KilnKeeper$Refusal" "detail" "I") ∈ AW := AW_m1 219 rfl rfl
theorem aw_234 : (Cond.lays "KilnKeeper$Refusal" "KilnKeeper$Refusal" "cause" "I") ∈ AW := AW_m1 220 rfl rfl
theorem aw_235 : (Cond.soleField "KilnKeeper$Refusal" "cause") ∈ AW := AW_m1 221 rfl rfl
theorem aw_236 : (Cond.lays "KilnKeeper$Refusal" "KilnKeeper$Refusal" "detail" "I") ∈ AW := AW_m1 222 rfl rfl
theorem aw_237 : (Cond.soleField "KilnKeeper$Refusal" "detail") ∈ AW := AW_m1 223 rfl rfl
theorem aw_238 : (Cond.superclass "KilnKeeper$Refusal" "java/lang/Object") ∈ AW := AW_m1 224 rfl rfl
theorem aw_239 : (Cond.classLink "KilnKeeper" (43 : Nat) "KilnKeeper$Reader") ∈ AW := AW_m1 225 rfl rfl
theorem aw_240 : (Cond.instantiable "KilnKeeper$Reader" (2 : Nat)) ∈ AW := AW_m1 226 rfl rfl
theorem aw_241 : (Cond.methodLink "KilnKeeper" (45 : Nat) ({ cls := "KilnKeeper$Reader", name := "<init>", desc := "()V" } : MethodName)) ∈ AW := AW_m1 227 rfl rfl
theorem aw_242 : (Cond.instanceMethod ({ cls := "KilnKeeper$Reader", name := "<init>", desc := "()V" } : MethodName)) ∈ AW := AW_m1 228 rfl rfl
theorem aw_243 : (Cond.code ({ cls := "KilnKeeper$Reader", name := "<init>", desc := "()V" } : MethodName) prog_10_method_1_code (2 : Nat) (Option.none : Option FieldType)) ∈ AW := AW_m1 229 rfl rfl
theorem aw_244 : (Cond.methodLink "KilnKeeper$Reader" (3 : Nat) ({ cls := "java/lang/Object", name := "<init>", desc := "()V" } : MethodName)) ∈ AW := AW_m1 230 rfl rfl
theorem aw_245 : (Cond.classLink "KilnKeeper$Reader" (9 : Nat) "java/lang/StringBuilder") ∈ AW := AW_m1 231 rfl rfl
theorem aw_246 : (Cond.instantiable "java/lang/StringBuilder" (4 : Nat)) ∈ AW := AW_m1 232 rfl rfl
theorem aw_247 : (Cond.methodLink "KilnKeeper$Reader" (11 : Nat) ({ cls := "java/lang/StringBuilder", name := "<init>", desc := "()V" } : MethodName)) ∈ AW := AW_m1 233 rfl rfl
theorem aw_248 : (Cond.instanceMethod ({ cls := "java/lang/StringBuilder", name := "<init>", desc := "()V" } : MethodName)) ∈ AW := AW_m1 234 rfl rfl
theorem aw_249 : (Cond.code ({ cls := "java/lang/StringBuilder", name := "<init>", desc := "()V" } : MethodName) prog_22_method_1_code (1 : Nat) (Option.none : Option FieldType)) ∈ AW := AW_m1 235 rfl rfl
theorem aw_250 : (Cond.methodLink "java/lang/StringBuilder" (1 : Nat) ({ cls := "java/lang/AbstractStringBuilder", name := "<init>", desc := "(I)V" } : MethodName)) ∈ AW := AW_m1 236 rfl rfl
theorem aw_251 : (Cond.instanceMethod ({ cls := "java/lang/AbstractStringBuilder", name := "<init>", desc := "(I)V" } : MethodName)) ∈ AW := AW_m1 237 rfl rfl
theorem aw_252 : (Cond.code ({ cls := "java/lang/AbstractStringBuilder", name := "<init>", desc := "(I)V" } : MethodName) prog_16_method_2_code (2 : Nat) (Option.none : Option FieldType)) ∈ AW := AW_m1 238 rfl rfl
theorem aw_253 : (Cond.methodLink "java/lang/AbstractStringBuilder" (3 : Nat) ({ cls := "java/lang/Object", name := "<init>", desc := "()V" } : MethodName)) ∈ AW := AW_m1 239 rfl rfl
theorem aw_254 : (Cond.fieldLink "java/lang/AbstractStringBuilder" (18 : Nat) "java/lang/String" "COMPACT_STRINGS" "Z") ∈ AW := AW_m2 0 rfl rfl
theorem at_255 : (Cond.laysStatic "java/lang/String" "COMPACT_STRINGS" "Z") ∈ lw_tbl := List.mem_append_right _ (List.mem_append_right _ (List.mem_append_left _ (List.mem_of_getElem? (l := tables_1_2) (i := 1) rfl)))
theorem aw_256 : (Cond.methodLink "java/lang/AbstractStringBuilder" (26 : Nat) ({ cls := "java/lang/StringUTF16", name := "newBytesFor", desc := "(I)[B" } : MethodName)) ∈ AW := AW_m2 2 rfl rfl
theorem aw_257 : (Cond.static ({ cls := "java/lang/StringUTF16", name := "newBytesFor", desc := "(I)[B" } : MethodName)) ∈ AW := AW_m2 3 rfl rfl
theorem aw_258 : (Cond.code ({ cls := "java/lang/StringUTF16", name := "newBytesFor", desc := "(I)[B" } : MethodName) prog_24_method_2_code (1 : Nat) (Option.some (FieldType.array FieldType.byte))) ∈ AW := AW_m2 4 rfl rfl
theorem aw_259 : (Cond.methodLink "java/lang/StringUTF16" (11 : Nat) ({ cls := "java/lang/StringUTF16", name := "newBytesLength", desc := "(I)I" } : MethodName)) ∈ AW := AW_m2 5 rfl rfl
theorem aw_260 : (Cond.static ({ cls := "java/lang/StringUTF16", name := "newBytesLength", desc := "(I)I" } : MethodName)) ∈ AW := AW_m2 6 rfl rfl
theorem aw_261 : (Cond.code ({ cls := "java/lang/StringUTF16", name := "newBytesLength", desc := "(I)I" } : MethodName) prog_24_method_3_code (1 : Nat) (Option.some FieldType.int)) ∈ AW := AW_m2 7 rfl rfl
theorem aw_262 : (Cond.constant "java/lang/StringUTF16" (20 : Nat) (1073741823 : Int32)) ∈ AW := AW_m2 8 rfl rfl
theorem aw_263 : (Cond.fieldLink "java/lang/AbstractStringBuilder" (15 : Nat) "java/lang/AbstractStringBuilder" "value" "[B") ∈ AW := AW_m2 9 rfl rfl
theorem aw_264 : (Cond.fieldLink "java/lang/AbstractStringBuilder" (22 : Nat) "java/lang/AbstractStringBuilder" "coder" "B") ∈ AW := AW_m2 10 rfl rfl
theorem aw_265 : (Cond.fieldLink "java/lang/AbstractStringBuilder" (73 : Nat) "java/lang/AbstractStringBuilder" "maybeLatin1" "Z") ∈ AW := AW_m2 11 rfl rfl
theorem aw_266 : (Cond.fieldLink "java/lang/String" (1048 : Nat) "java/lang/AbstractStringBuilder" "maybeLatin1" "Z") ∈ AW := AW_m2 12 rfl rfl
theorem aw_267 : (Cond.fieldLink "java/lang/AbstractStringBuilder" (79 : Nat) "java/lang/AbstractStringBuilder" "count" "I") ∈ AW := AW_m2 13 rfl rfl
theorem aw_268 : (Cond.lays "java/lang/StringBuilder" "java/lang/AbstractStringBuilder" "value" "[B") ∈ AW := AW_m2 14 rfl rfl
theorem aw_269 : (Cond.soleField "java/lang/AbstractStringBuilder" "value") ∈ AW := AW_m2 15 rfl rfl
theorem aw_270 : (Cond.lays "java/lang/StringBuilder" "java/lang/AbstractStringBuilder" "coder" "B") ∈ AW := AW_m2 16 rfl rfl
theorem aw_271 : (Cond.soleField "java/lang/AbstractStringBuilder" "coder") ∈ AW := AW_m2 17 rfl rfl
theorem aw_272 : (Cond.lays "java/lang/StringBuilder" "java/lang/AbstractStringBuilder" "maybeLatin1" "Z") ∈ AW := AW_m2 18 rfl rfl
theorem aw_273 : (Cond.soleField "java/lang/AbstractStringBuilder" "maybeLatin1") ∈ AW := AW_m2 19 rfl rfl
theorem aw_274 : (Cond.lays "java/lang/StringBuilder" "java/lang/AbstractStringBuilder" "count" "I") ∈ AW := AW_m2 20 rfl rfl
theorem aw_275 : (Cond.soleField "java/lang/AbstractStringBuilder" "count") ∈ AW := AW_m2 21 rfl rfl
theorem aw_276 : (Cond.superclass "java/lang/StringBuilder" "java/lang/AbstractStringBuilder") ∈ AW := AW_m2 22 rfl rfl
theorem aw_277 : (Cond.arrayClass FieldType.byte) ∈ AW := AW_m2 23 rfl rfl
theorem aw_278 : (Cond.classLink "KilnKeeper$Reader" (18 : Nat) "KilnKeeper$Order") ∈ AW := AW_m2 24 rfl rfl
theorem at_279 : (Cond.arrayOver (FieldType.object "KilnKeeper$Order")) ∈ lw_tbl := List.mem_append_right _ (List.mem_append_right _ (List.mem_append_left _ (List.mem_of_getElem? (l := tables_1_2) (i := 25) rfl)))
theorem aw_280 : (Cond.instantiable "KilnKeeper$Order" (2 : Nat)) ∈ AW := AW_m2 26 rfl rfl
theorem at_281 : (Cond.methodLinkNest "KilnKeeper$Reader" (24 : Nat) ({ cls := "KilnKeeper$Order", name := "<init>", desc := "()V" } : MethodName) "KilnKeeper") ∈ lw_tbl := List.mem_append_right _ (List.mem_append_right _ (List.mem_append_left _ (List.mem_of_getElem? (l := tables_1_2) (i := 27) rfl)))
theorem aw_282 : (Cond.instanceMethod ({ cls := "KilnKeeper$Order", name := "<init>", desc := "()V" } : MethodName)) ∈ AW := AW_m2 28 rfl rfl
theorem aw_283 : (Cond.code ({ cls := "KilnKeeper$Order", name := "<init>", desc := "()V" } : MethodName) prog_7_method_1_code (1 : Nat) (Option.none : Option FieldType)) ∈ AW := AW_m2 29 rfl rfl
theorem aw_284 : (Cond.methodLink "KilnKeeper$Order" (3 : Nat) ({ cls := "java/lang/Object", name := "<init>", desc := "()V" } : MethodName)) ∈ AW := AW_m2 30 rfl rfl
theorem aw_285 : (Cond.fieldLink "KilnKeeper$Order" (9 : Nat) "KilnKeeper$Word" "GO" "LKilnKeeper$Word;") ∈ AW := AW_m2 31 rfl rfl
theorem at_286 : (Cond.laysStatic "KilnKeeper$Word" "GO" "LKilnKeeper$Word;") ∈ lw_tbl := List.mem_append_right _ (List.mem_append_right _ (List.mem_append_left _ (List.mem_of_getElem? (l := tables_1_2) (i := 32) rfl)))
theorem aw_287 : (Cond.fieldLink "KilnKeeper$Order" (15 : Nat) "KilnKeeper$Order" "word" "LKilnKeeper$Word;") ∈ AW := AW_m2 33 rfl rfl
theorem aw_288 : (Cond.fieldLink "KilnKeeper$Reader" (74 : Nat) "KilnKeeper$Order" "word" "LKilnKeeper$Word;") ∈ AW := AW_m2 34 rfl rfl
theorem aw_289 : (Cond.fieldLink "KilnKeeper" (254 : Nat) "KilnKeeper$Order" "word" "LKilnKeeper$Word;") ∈ AW := AW_m2 35 rfl rfl
theorem aw_290 : (Cond.fieldLink "KilnKeeper$Order" (20 : Nat) "KilnKeeper$Order" "numbers" "[I") ∈ AW := AW_m2 36 rfl rfl
theorem aw_291 : (Cond.fieldLink "KilnKeeper$Reader" (94 : Nat) "KilnKeeper$Order" "numbers" "[I") ∈ AW := AW_m2 37 rfl rfl
theorem aw_292 : (Cond.fieldLink "KilnKeeper" (260 : Nat) "KilnKeeper$Order" "numbers" "[I") ∈ AW := AW_m2 38 rfl rfl
theorem aw_293 : (Cond.lays "KilnKeeper$Order" "KilnKeeper$Order" "word" "LKilnKeeper$Word;") ∈ AW := AW_m2 39 rfl rfl
theorem aw_294 : (Cond.soleField "KilnKeeper$Order" "word") ∈ AW := AW_m2 40 rfl rfl
theorem aw_295 : (Cond.laysFinal "KilnKeeper$Order" "KilnKeeper$Order" "numbers" "[I") ∈ AW := AW_m2 41 rfl rfl
theorem aw_296 : (Cond.soleField "KilnKeeper$Order" "numbers") ∈ AW := AW_m2 42 rfl rfl
theorem aw_297 : (Cond.superclass "KilnKeeper$Order" "java/lang/Object") ∈ AW := AW_m2 43 rfl rfl
theorem aw_298 : (Cond.fieldLink "KilnKeeper$Reader" (12 : Nat) "KilnKeeper$Reader" "text" "Ljava/lang/StringBuilder;") ∈ AW := AW_m2 44 rfl rfl
theorem aw_299 : (Cond.fieldLink "KilnKeeper$Reader" (20 : Nat) "KilnKeeper$Reader" "orders" "[LKilnKeeper$Order;") ∈ AW := AW_m2 45 rfl rfl
theorem aw_300 : (Cond.laysFinal "KilnKeeper$Reader" "KilnKeeper$Reader" "text" "Ljava/lang/StringBuilder;") ∈ AW := AW_m2 46 rfl rfl
theorem aw_301 : (Cond.soleField "KilnKeeper$Reader" "text") ∈ AW := AW_m2 47 rfl rfl
theorem aw_302 : (Cond.laysFinal "KilnKeeper$Reader" "KilnKeeper$Reader" "orders" "[LKilnKeeper$Order;") ∈ AW := AW_m2 48 rfl rfl
theorem aw_303 : (Cond.soleField "KilnKeeper$Reader" "orders") ∈ AW := AW_m2 49 rfl rfl
theorem aw_304 : (Cond.superclass "KilnKeeper$Reader" "java/lang/Object") ∈ AW := AW_m2 50 rfl rfl
theorem aw_305 : (Cond.classLink "KilnKeeper" (50 : Nat) "java/lang/StringBuilder") ∈ AW := AW_m2 51 rfl rfl
theorem aw_306 : (Cond.methodLink "KilnKeeper" (52 : Nat) ({ cls := "java/lang/StringBuilder", name := "<init>", desc := "()V" } : MethodName)) ∈ AW := AW_m2 52 rfl rfl
theorem aw_307 : (Cond.fieldLink "KilnKeeper" (10 : Nat) "KilnKeeper" "kiln" "LKilnKeeper$Kiln;") ∈ AW := AW_m2 53 rfl rfl
theorem aw_308 : (Cond.fieldLink "KilnKeeper" (16 : Nat) "KilnKeeper" "spare" "LKilnKeeper$Kiln;") ∈ AW := AW_m2 54 rfl rfl
theorem aw_309 : (Cond.fieldLink "KilnKeeper" (19 : Nat) "KilnKeeper" "snapshot" "LKilnKeeper$Kiln;") ∈ AW := AW_m2 55 rfl rfl
theorem aw_310 : (Cond.fieldLink "KilnKeeper" (22 : Nat) "KilnKeeper" "isSaved" "Z") ∈ AW := AW_m2 56 rfl rfl
theorem aw_311 : (Cond.fieldLink "KilnKeeper" (29 : Nat) "KilnKeeper" "changes" "LKilnKeeper$Changes;") ∈ AW := AW_m2 57 rfl rfl
theorem aw_312 : (Cond.fieldLink "KilnKeeper" (36 : Nat) "KilnKeeper" "refusal" "LKilnKeeper$Refusal;") ∈ AW := AW_m2 58 rfl rfl
theorem aw_313 : (Cond.fieldLink "KilnKeeper" (40 : Nat) "KilnKeeper" "unheard" "LKilnKeeper$Refusal;") ∈ AW := AW_m2 59 rfl rfl
theorem aw_314 : (Cond.fieldLink "KilnKeeper" (46 : Nat) "KilnKeeper" "reader" "LKilnKeeper$Reader;") ∈ AW := AW_m2 60 rfl rfl
theorem aw_315 : (Cond.fieldLink "KilnKeeper" (53 : Nat) "KilnKeeper" "line" "Ljava/lang/StringBuilder;") ∈ AW := AW_m2 61 rfl rfl
theorem aw_316 : (Cond.laysFinal "KilnKeeper" "KilnKeeper" "kiln" "LKilnKeeper$Kiln;") ∈ AW := AW_m2 62 rfl rfl
theorem aw_317 : (Cond.soleField "KilnKeeper" "kiln") ∈ AW := AW_m2 63 rfl rfl
theorem aw_318 : (Cond.laysFinal "KilnKeeper" "KilnKeeper" "spare" "LKilnKeeper$Kiln;") ∈ AW := AW_m2 64 rfl rfl
theorem aw_319 : (Cond.soleField "KilnKeeper" "spare") ∈ AW := AW_m2 65 rfl rfl
theorem aw_320 : (Cond.laysFinal "KilnKeeper" "KilnKeeper" "snapshot" "LKilnKeeper$Kiln;") ∈ AW := AW_m2 66 rfl rfl
theorem aw_321 : (Cond.soleField "KilnKeeper" "snapshot") ∈ AW := AW_m2 67 rfl rfl
theorem aw_322 : (Cond.lays "KilnKeeper" "KilnKeeper" "isSaved" "Z") ∈ AW := AW_m2 68 rfl rfl
theorem aw_323 : (Cond.soleField "KilnKeeper" "isSaved") ∈ AW := AW_m2 69 rfl rfl
theorem aw_324 : (Cond.laysFinal "KilnKeeper" "KilnKeeper" "changes" "LKilnKeeper$Changes;") ∈ AW := AW_m2 70 rfl rfl
theorem aw_325 : (Cond.soleField "KilnKeeper" "changes") ∈ AW := AW_m2 71 rfl rfl
theorem aw_326 : (Cond.laysFinal "KilnKeeper" "KilnKeeper" "refusal" "LKilnKeeper$Refusal;") ∈ AW := AW_m2 72 rfl rfl
theorem aw_327 : (Cond.soleField "KilnKeeper" "refusal") ∈ AW := AW_m2 73 rfl rfl
theorem aw_328 : (Cond.laysFinal "KilnKeeper" "KilnKeeper" "unheard" "LKilnKeeper$Refusal;") ∈ AW := AW_m2 74 rfl rfl
theorem aw_329 : (Cond.soleField "KilnKeeper" "unheard") ∈ AW := AW_m2 75 rfl rfl
theorem aw_330 : (Cond.laysFinal "KilnKeeper" "KilnKeeper" "reader" "LKilnKeeper$Reader;") ∈ AW := AW_m2 76 rfl rfl
theorem aw_331 : (Cond.soleField "KilnKeeper" "reader") ∈ AW := AW_m2 77 rfl rfl
theorem aw_332 : (Cond.laysFinal "KilnKeeper" "KilnKeeper" "line" "Ljava/lang/StringBuilder;") ∈ AW := AW_m2 78 rfl rfl
theorem aw_333 : (Cond.soleField "KilnKeeper" "line") ∈ AW := AW_m2 79 rfl rfl
theorem aw_334 : (Cond.superclass "KilnKeeper" "java/lang/Object") ∈ AW := AW_m2 80 rfl rfl
theorem aw_335 : (Cond.methodLink "KilnKeeperLaw" (45 : Nat) ({ cls := "KilnKeeper", name := "account", desc := "(I)I" } : MethodName)) ∈ AW := AW_m2 81 rfl rfl
theorem aw_336 : (Cond.instanceMethod ({ cls := "KilnKeeper", name := "account", desc := "(I)I" } : MethodName)) ∈ AW := AW_m2 82 rfl rfl
theorem aw_337 : (Cond.selects "KilnKeeper" ({ cls := "KilnKeeper", name := "account", desc := "(I)I" } : MethodName) ({ cls := "KilnKeeper", name := "account", desc := "(I)I" } : MethodName)) ∈ AW := AW_m2 83 rfl rfl
theorem aw_338 : (Cond.code ({ cls := "KilnKeeper", name := "account", desc := "(I)I" } : MethodName) prog_1_method_29_code (2 : Nat) (Option.some FieldType.int)) ∈ AW := AW_m2 84 rfl rfl
theorem aw_339 : (Cond.methodLink "KilnKeeper" (220 : Nat) ({ cls := "KilnKeeper$Reader", name := "textLength", desc := "()I" } : MethodName)) ∈ AW := AW_m2 85 rfl rfl
theorem aw_340 : (Cond.instanceMethod ({ cls := "KilnKeeper$Reader", name := "textLength", desc := "()I" } : MethodName)) ∈ AW := AW_m2 86 rfl rfl
theorem aw_341 : (Cond.selects "KilnKeeper$Reader" ({ cls := "KilnKeeper$Reader", name := "textLength", desc := "()I" } : MethodName) ({ cls := "KilnKeeper$Reader", name := "textLength", desc := "()I" } : MethodName)) ∈ AW := AW_m2 87 rfl rfl
theorem aw_342 : (Cond.code ({ cls := "KilnKeeper$Reader", name := "textLength", desc := "()I" } : MethodName) prog_10_method_2_code (1 : Nat) (Option.some FieldType.int)) ∈ AW := AW_m2 88 rfl rfl
theorem aw_343 : (Cond.methodLink "KilnKeeper$Reader" (25 : Nat) ({ cls := "java/lang/StringBuilder", name := "length", desc := "()I" } : MethodName)) ∈ AW := AW_m2 89 rfl rfl
theorem aw_344 : (Cond.instanceMethod ({ cls := "java/lang/StringBuilder", name := "length", desc := "()I" } : MethodName)) ∈ AW := AW_m2 90 rfl rfl
theorem aw_345 : (Cond.selects "java/lang/StringBuilder" ({ cls := "java/lang/StringBuilder", name := "length", desc := "()I" } : MethodName) ({ cls := "java/lang/StringBuilder", name := "length", desc := "()I" } : MethodName)) ∈ AW := AW_m2 91 rfl rfl
theorem aw_346 : (Cond.code ({ cls := "java/lang/StringBuilder", name := "length", desc := "()I" } : MethodName) prog_22_method_93_code (1 : Nat) (Option.some FieldType.int)) ∈ AW := AW_m2 92 rfl rfl
theorem aw_347 : (Cond.methodLink "java/lang/StringBuilder" (343 : Nat) ({ cls := "java/lang/AbstractStringBuilder", name := "length", desc := "()I" } : MethodName)) ∈ AW := AW_m2 93 rfl rfl
theorem aw_348 : (Cond.instanceMethod ({ cls := "java/lang/AbstractStringBuilder", name := "length", desc := "()I" } : MethodName)) ∈ AW := AW_m2 94 rfl rfl
theorem aw_349 : (Cond.code ({ cls := "java/lang/AbstractStringBuilder", name := "length", desc := "()I" } : MethodName) prog_16_method_6_code (1 : Nat) (Option.some FieldType.int)) ∈ AW := AW_m2 95 rfl rfl
theorem aw_350 : (Cond.methodLink "KilnKeeper" (226 : Nat) ({ cls := "KilnKeeper$Kiln", name := "accountOf", desc := "(I)I" } : MethodName)) ∈ AW := AW_m2 96 rfl rfl
theorem aw_351 : (Cond.instanceMethod ({ cls := "KilnKeeper$Kiln", name := "accountOf", desc := "(I)I" } : MethodName)) ∈ AW := AW_m2 97 rfl rfl
theorem aw_352 : (Cond.selects "KilnKeeper$Kiln" ({ cls := "KilnKeeper$Kiln", name := "accountOf", desc := "(I)I" } : MethodName) ({ cls := "KilnKeeper$Kiln", name := "accountOf", desc := "(I)I" } : MethodName)) ∈ AW := AW_m2 98 rfl rfl
theorem aw_353 : (Cond.code ({ cls := "KilnKeeper$Kiln", name := "accountOf", desc := "(I)I" } : MethodName) prog_5_method_9_code (2 : Nat) (Option.some FieldType.int)) ∈ AW := AW_m2 99 rfl rfl
theorem aw_354 : (Cond.methodLink "KilnKeeper$Kiln" (85 : Nat) ({ cls := "KilnKeeper$Kiln", name := "error", desc := "()I" } : MethodName)) ∈ AW := AW_m2 100 rfl rfl
theorem aw_355 : (Cond.instanceMethod ({ cls := "KilnKeeper$Kiln", name := "error", desc := "()I" } : MethodName)) ∈ AW := AW_m2 101 rfl rfl
theorem aw_356 : (Cond.selects "KilnKeeper$Kiln" ({ cls := "KilnKeeper$Kiln", name := "error", desc := "()I" } : MethodName) ({ cls := "KilnKeeper$Kiln", name := "error", desc := "()I" } : MethodName)) ∈ AW := AW_m2 102 rfl rfl
theorem aw_357 : (Cond.code ({ cls := "KilnKeeper$Kiln", name := "error", desc := "()I" } : MethodName) prog_5_method_3_code (1 : Nat) (Option.some FieldType.int)) ∈ AW := AW_m2 103 rfl rfl
theorem aw_358 : (Cond.methodLink "KilnKeeper$Kiln" (152 : Nat) ({ cls := "KilnKeeper$Rack", name := "countOf", desc := "(I)I" } : MethodName)) ∈ AW := AW_m2 104 rfl rfl
theorem aw_359 : (Cond.instanceMethod ({ cls := "KilnKeeper$Rack", name := "countOf", desc := "(I)I" } : MethodName)) ∈ AW := AW_m2 105 rfl rfl
theorem aw_360 : (Cond.selects "KilnKeeper$Rack" ({ cls := "KilnKeeper$Rack", name := "countOf", desc := "(I)I" } : MethodName) ({ cls := "KilnKeeper$Rack", name := "countOf", desc := "(I)I" } : MethodName)) ∈ AW := AW_m2 106 rfl rfl
theorem aw_361 : (Cond.code ({ cls := "KilnKeeper$Rack", name := "countOf", desc := "(I)I" } : MethodName) prog_9_method_10_code (5 : Nat) (Option.some FieldType.int)) ∈ AW := AW_m2 107 rfl rfl
theorem aw_362 : (Cond.methodLink "KilnKeeper$Rack" (22 : Nat) ({ cls := "KilnKeeper$Rack", name := "find", desc := "(I)LKilnKeeper$Pot;" } : MethodName)) ∈ AW := AW_m2 108 rfl rfl
theorem aw_363 : (Cond.instanceMethod ({ cls := "KilnKeeper$Rack", name := "find", desc := "(I)LKilnKeeper$Pot;" } : MethodName)) ∈ AW := AW_m2 109 rfl rfl
theorem aw_364 : (Cond.selects "KilnKeeper$Rack" ({ cls := "KilnKeeper$Rack", name := "find", desc := "(I)LKilnKeeper$Pot;" } : MethodName) ({ cls := "KilnKeeper$Rack", name := "find", desc := "(I)LKilnKeeper$Pot;" } : MethodName)) ∈ AW := AW_m2 110 rfl rfl
theorem aw_365 : (Cond.code ({ cls := "KilnKeeper$Rack", name := "find", desc := "(I)LKilnKeeper$Pot;" } : MethodName) prog_9_method_3_code (2 : Nat) (Option.some (FieldType.object "KilnKeeper$Pot"))) ∈ AW := AW_m2 111 rfl rfl
theorem aw_366 : (Cond.methodLink "KilnKeeper$Kiln" (155 : Nat) ({ cls := "KilnKeeper$Rack", name := "countWithin", desc := "()I" } : MethodName)) ∈ AW := AW_m2 112 rfl rfl
theorem aw_367 : (Cond.instanceMethod ({ cls := "KilnKeeper$Rack", name := "countWithin", desc := "()I" } : MethodName)) ∈ AW := AW_m2 113 rfl rfl
theorem aw_368 : (Cond.selects "KilnKeeper$Rack" ({ cls := "KilnKeeper$Rack", name := "countWithin", desc := "()I" } : MethodName) ({ cls := "KilnKeeper$Rack", name := "countWithin", desc := "()I" } : MethodName)) ∈ AW := AW_m2 114 rfl rfl
theorem aw_369 : (Cond.code ({ cls := "KilnKeeper$Rack", name := "countWithin", desc := "()I" } : MethodName) prog_9_method_11_code (4 : Nat) (Option.some FieldType.int)) ∈ AW := AW_m2 115 rfl rfl
theorem aw_370 : (Cond.methodLink "KilnKeeperLaw" (48 : Nat) ({ cls := "KilnKeeperLaw", name := "pick", desc := "([III)I" } : MethodName)) ∈ AW := AW_m2 116 rfl rfl
theorem aw_371 : (Cond.static ({ cls := "KilnKeeperLaw", name := "pick", desc := "([III)I" } : MethodName)) ∈ AW := AW_m2 117 rfl rfl
theorem aw_372 : (Cond.code ({ cls := "KilnKeeperLaw", name := "pick", desc := "([III)I" } : MethodName) method_3_code (3 : Nat) (Option.some FieldType.int)) ∈ AW := AW_m2 118 rfl rfl
theorem aw_373 : (Cond.methodLink "KilnKeeperLaw" (8 : Nat) ({ cls := "KilnKeeperLaw", name := "cell", desc := "([II)I" } : MethodName)) ∈ AW := AW_m2 119 rfl rfl
theorem aw_374 : (Cond.static ({ cls := "KilnKeeperLaw", name := "cell", desc := "([II)I" } : MethodName)) ∈ AW := AW_m2 120 rfl rfl
theorem aw_375 : (Cond.code ({ cls := "KilnKeeperLaw", name := "cell", desc := "([II)I" } : MethodName) method_2_code (2 : Nat) (Option.some FieldType.int)) ∈ AW := AW_m2 121 rfl rfl
theorem aw_376 : (Cond.constant "KilnKeeperLaw" (7 : Nat) (40503 : Int32)) ∈ AW := AW_m2 122 rfl rfl
theorem aw_377 : (Cond.methodLink "KilnKeeperLaw" (52 : Nat) ({ cls := "KilnKeeperLaw", name := "does", desc := "([IIILKilnKeeper;)I" } : MethodName)) ∈ AW := AW_m2 123 rfl rfl
theorem aw_378 : (Cond.static ({ cls := "KilnKeeperLaw", name := "does", desc := "([IIILKilnKeeper;)I" } : MethodName)) ∈ AW := AW_m2 124 rfl rfl
theorem aw_379 : (Cond.code ({ cls := "KilnKeeperLaw", name := "does", desc := "([IIILKilnKeeper;)I" } : MethodName) method_8_code (6 : Nat) (Option.some FieldType.int)) ∈ AW := AW_m2 125 rfl rfl
theorem aw_380 : (Cond.methodLink "KilnKeeperLaw" (65 : Nat) ({ cls := "KilnKeeper", name := "aim", desc := "(I)I" } : MethodName)) ∈ AW := AW_m2 126 rfl rfl
theorem aw_381 : (Cond.instanceMethod ({ cls := "KilnKeeper", name := "aim", desc := "(I)I" } : MethodName)) ∈ AW := AW_m2 127 rfl rfl
theorem aw_382 : (Cond.selects "KilnKeeper" ({ cls := "KilnKeeper", name := "aim", desc := "(I)I" } : MethodName) ({ cls := "KilnKeeper", name := "aim", desc := "(I)I" } : MethodName)) ∈ AW := AW_m2 128 rfl rfl
theorem aw_383 : (Cond.code ({ cls := "KilnKeeper", name := "aim", desc := "(I)I" } : MethodName) prog_1_method_2_code (2 : Nat) (Option.some FieldType.int)) ∈ AW := AW_m2 129 rfl rfl
theorem aw_384 : (Cond.methodLink "KilnKeeper" (57 : Nat) ({ cls := "KilnKeeper", name := "beginChange", desc := "()V" } : MethodName)) ∈ AW := AW_m2 130 rfl rfl
theorem at_385 : (Cond.privateMethod ({ cls := "KilnKeeper", name := "beginChange", desc := "()V" } : MethodName)) ∈ lw_tbl := List.mem_append_right _ (List.mem_append_right _ (List.mem_append_left _ (List.mem_of_getElem? (l := tables_1_2) (i := 131) rfl)))
theorem aw_386 : (Cond.instanceMethod ({ cls := "KilnKeeper", name := "beginChange", desc := "()V" } : MethodName)) ∈ AW := AW_m2 132 rfl rfl
theorem aw_387 : (Cond.code ({ cls := "KilnKeeper", name := "beginChange", desc := "()V" } : MethodName) prog_1_method_36_code (1 : Nat) (Option.none : Option FieldType)) ∈ AW := AW_m2 133 rfl rfl
theorem aw_388 : (Cond.methodLink "KilnKeeper" (247 : Nat) ({ cls := "KilnKeeper$Kiln", name := "copyFrom", desc := "(LKilnKeeper$Kiln;)V" } : MethodName)) ∈ AW := AW_m2 134 rfl rfl
theorem aw_389 : (Cond.instanceMethod ({ cls := "KilnKeeper$Kiln", name := "copyFrom", desc := "(LKilnKeeper$Kiln;)V" } : MethodName)) ∈ AW := AW_m2 135 rfl rfl
theorem aw_390 : (Cond.selects "KilnKeeper$Kiln" ({ cls := "KilnKeeper$Kiln", name := "copyFrom", desc := "(LKilnKeeper$Kiln;)V" } : MethodName) ({ cls := "KilnKeeper$Kiln", name := "copyFrom", desc := "(LKilnKeeper$Kiln;)V" } : MethodName)) ∈ AW := AW_m2 136 rfl rfl
theorem aw_391 : (Cond.code ({ cls := "KilnKeeper$Kiln", name := "copyFrom", desc := "(LKilnKeeper$Kiln;)V" } : MethodName) prog_5_method_2_code (2 : Nat) (Option.none : Option FieldType)) ∈ AW := AW_m2 137 rfl rfl
theorem aw_392 : (Cond.methodLink "KilnKeeper$Kiln" (52 : Nat) ({ cls := "KilnKeeper$Regulator", name := "copyFrom", desc := "(LKilnKeeper$Regulator;)V" } : MethodName)) ∈ AW := AW_m2 138 rfl rfl
theorem aw_393 : (Cond.instanceMethod ({ cls := "KilnKeeper$Regulator", name := "copyFrom", desc := "(LKilnKeeper$Regulator;)V" } : MethodName)) ∈ AW := AW_m2 139 rfl rfl
theorem aw_394 : (Cond.selects "KilnKeeper$Regulator" ({ cls := "KilnKeeper$Regulator", name := "copyFrom", desc := "(LKilnKeeper$Regulator;)V" } : MethodName) ({ cls := "KilnKeeper$Regulator", name := "copyFrom", desc := "(LKilnKeeper$Regulator;)V" } : MethodName)) ∈ AW := AW_m2 140 rfl rfl
theorem aw_395 : (Cond.code ({ cls := "KilnKeeper$Regulator", name := "copyFrom", desc := "(LKilnKeeper$Regulator;)V" } : MethodName) prog_12_method_2_code (2 : Nat) (Option.none : Option FieldType)) ∈ AW := AW_m2 141 rfl rfl
theorem aw_396 : (Cond.methodLink "KilnKeeper$Kiln" (56 : Nat) ({ cls := "KilnKeeper$LagRow", name := "copyFrom", desc := "(LKilnKeeper$LagRow;)V" } : MethodName)) ∈ AW := AW_m2 142 rfl rfl
theorem aw_397 : (Cond.instanceMethod ({ cls := "KilnKeeper$LagRow", name := "copyFrom", desc := "(LKilnKeeper$LagRow;)V" } : MethodName)) ∈ AW := AW_m2 143 rfl rfl
theorem aw_398 : (Cond.selects "KilnKeeper$LagRow" ({ cls := "KilnKeeper$LagRow", name := "copyFrom", desc := "(LKilnKeeper$LagRow;)V" } : MethodName) ({ cls := "KilnKeeper$LagRow", name := "copyFrom", desc := "(LKilnKeeper$LagRow;)V" } : MethodName)) ∈ AW := AW_m2 144 rfl rfl
theorem aw_399 : (Cond.code ({ cls := "KilnKeeper$LagRow", name := "copyFrom", desc := "(LKilnKeeper$LagRow;)V" } : MethodName) prog_6_method_2_code (2 : Nat) (Option.none : Option FieldType)) ∈ AW := AW_m2 145 rfl rfl
theorem at_400 : (Cond.methodLinkNest "KilnKeeper$LagRow" (19 : Nat) ({ cls := "KilnKeeper", name := "copyRow", desc := "([I[I)V" } : MethodName) "KilnKeeper") ∈ lw_tbl := List.mem_append_right _ (List.mem_append_right _ (List.mem_append_left _ (List.mem_of_getElem? (l := tables_1_2) (i := 146) rfl)))
theorem aw_401 : (Cond.static ({ cls := "KilnKeeper", name := "copyRow", desc := "([I[I)V" } : MethodName)) ∈ AW := AW_m2 147 rfl rfl
theorem aw_402 : (Cond.code ({ cls := "KilnKeeper", name := "copyRow", desc := "([I[I)V" } : MethodName) prog_1_method_44_code (3 : Nat) (Option.none : Option FieldType)) ∈ AW := AW_m2 148 rfl rfl
theorem aw_403 : (Cond.methodLink "KilnKeeper$Kiln" (59 : Nat) ({ cls := "KilnKeeper$Book", name := "copyFrom", desc := "(LKilnKeeper$Book;)V" } : MethodName)) ∈ AW := AW_m2 149 rfl rfl
theorem aw_404 : (Cond.instanceMethod ({ cls := "KilnKeeper$Book", name := "copyFrom", desc := "(LKilnKeeper$Book;)V" } : MethodName)) ∈ AW := AW_m2 150 rfl rfl
theorem aw_405 : (Cond.selects "KilnKeeper$Book" ({ cls := "KilnKeeper$Book", name := "copyFrom", desc := "(LKilnKeeper$Book;)V" } : MethodName) ({ cls := "KilnKeeper$Book", name := "copyFrom", desc := "(LKilnKeeper$Book;)V" } : MethodName)) ∈ AW := AW_m2 151 rfl rfl
theorem aw_406 : (Cond.code ({ cls := "KilnKeeper$Book", name := "copyFrom", desc := "(LKilnKeeper$Book;)V" } : MethodName) prog_3_method_2_code (2 : Nat) (Option.none : Option FieldType)) ∈ AW := AW_m2 152 rfl rfl
theorem at_407 : (Cond.methodLinkNest "KilnKeeper$Book" (31 : Nat) ({ cls := "KilnKeeper", name := "copyRow", desc := "([I[I)V" } : MethodName) "KilnKeeper") ∈ lw_tbl := List.mem_append_right _ (List.mem_append_right _ (List.mem_append_left _ (List.mem_of_getElem? (l := tables_1_2) (i := 153) rfl)))
theorem aw_408 : (Cond.methodLink "KilnKeeper$Kiln" (62 : Nat) ({ cls := "KilnKeeper$Rack", name := "copyFrom", desc := "(LKilnKeeper$Rack;)V" } : MethodName)) ∈ AW := AW_m2 154 rfl rfl
theorem aw_409 : (Cond.instanceMethod ({ cls := "KilnKeeper$Rack", name := "copyFrom", desc := "(LKilnKeeper$Rack;)V" } : MethodName)) ∈ AW := AW_m2 155 rfl rfl
theorem aw_410 : (Cond.selects "KilnKeeper$Rack" ({ cls := "KilnKeeper$Rack", name := "copyFrom", desc := "(LKilnKeeper$Rack;)V" } : MethodName) ({ cls := "KilnKeeper$Rack", name := "copyFrom", desc := "(LKilnKeeper$Rack;)V" } : MethodName)) ∈ AW := AW_m2 156 rfl rfl
theorem aw_411 : (Cond.code ({ cls := "KilnKeeper$Rack", name := "copyFrom", desc := "(LKilnKeeper$Rack;)V" } : MethodName) prog_9_method_2_code (5 : Nat) (Option.none : Option FieldType)) ∈ AW := AW_m2 157 rfl rfl
theorem aw_412 : (Cond.methodLink "KilnKeeper$Rack" (26 : Nat) ({ cls := "KilnKeeper$Pot", name := "copyFrom", desc := "(LKilnKeeper$Pot;)V" } : MethodName)) ∈ AW := AW_m2 158 rfl rfl
theorem aw_413 : (Cond.instanceMethod ({ cls := "KilnKeeper$Pot", name := "copyFrom", desc := "(LKilnKeeper$Pot;)V" } : MethodName)) ∈ AW := AW_m2 159 rfl rfl
theorem aw_414 : (Cond.selects "KilnKeeper$Pot" ({ cls := "KilnKeeper$Pot", name := "copyFrom", desc := "(LKilnKeeper$Pot;)V" } : MethodName) ({ cls := "KilnKeeper$Pot", name := "copyFrom", desc := "(LKilnKeeper$Pot;)V" } : MethodName)) ∈ AW := AW_m2 160 rfl rfl
theorem aw_415 : (Cond.code ({ cls := "KilnKeeper$Pot", name := "copyFrom", desc := "(LKilnKeeper$Pot;)V" } : MethodName) prog_8_method_2_code (2 : Nat) (Option.none : Option FieldType)) ∈ AW := AW_m2 161 rfl rfl
theorem aw_416 : (Cond.methodLink "KilnKeeper" (60 : Nat) ({ cls := "KilnKeeper$Kiln", name := "aimAt", desc := "(ILKilnKeeper$Refusal;)I" } : MethodName)) ∈ AW := AW_m2 162 rfl rfl
theorem aw_417 : (Cond.instanceMethod ({ cls := "KilnKeeper$Kiln", name := "aimAt", desc := "(ILKilnKeeper$Refusal;)I" } : MethodName)) ∈ AW := AW_m2 163 rfl rfl
theorem aw_418 : (Cond.selects "KilnKeeper$Kiln" ({ cls := "KilnKeeper$Kiln", name := "aimAt", desc := "(ILKilnKeeper$Refusal;)I" } : MethodName) ({ cls := "KilnKeeper$Kiln", name := "aimAt", desc := "(ILKilnKeeper$Refusal;)I" } : MethodName)) ∈ AW := AW_m2 164 rfl rfl
theorem aw_419 : (Cond.code ({ cls := "KilnKeeper$Kiln", name := "aimAt", desc := "(ILKilnKeeper$Refusal;)I" } : MethodName) prog_5_method_4_code (4 : Nat) (Option.some FieldType.int)) ∈ AW := AW_m2 165 rfl rfl
theorem at_420 : (Cond.methodLinkNest "KilnKeeper$Kiln" (65 : Nat) ({ cls := "KilnKeeper", name := "isFrom", desc := "(III)Z" } : MethodName) "KilnKeeper") ∈ lw_tbl := List.mem_append_right _ (List.mem_append_right _ (List.mem_append_left _ (List.mem_of_getElem? (l := tables_1_2) (i := 166) rfl)))
theorem aw_421 : (Cond.static ({ cls := "KilnKeeper", name := "isFrom", desc := "(III)Z" } : MethodName)) ∈ AW := AW_m2 167 rfl rfl
theorem aw_422 : (Cond.code ({ cls := "KilnKeeper", name := "isFrom", desc := "(III)Z" } : MethodName) prog_1_method_40_code (3 : Nat) (Option.some FieldType.boolean)) ∈ AW := AW_m2 168 rfl rfl
theorem aw_423 : (Cond.methodLink "KilnKeeper$Kiln" (69 : Nat) ({ cls := "KilnKeeper$Refusal", name := "because", desc := "(II)I" } : MethodName)) ∈ AW := AW_m2 169 rfl rfl
theorem aw_424 : (Cond.instanceMethod ({ cls := "KilnKeeper$Refusal", name := "because", desc := "(II)I" } : MethodName)) ∈ AW := AW_m2 170 rfl rfl
theorem aw_425 : (Cond.selects "KilnKeeper$Refusal" ({ cls := "KilnKeeper$Refusal", name := "because", desc := "(II)I" } : MethodName) ({ cls := "KilnKeeper$Refusal", name := "because", desc := "(II)I" } : MethodName)) ∈ AW := AW_m2 171 rfl rfl
theorem aw_426 : (Cond.code ({ cls := "KilnKeeper$Refusal", name := "because", desc := "(II)I" } : MethodName) prog_11_method_2_code (3 : Nat) (Option.some FieldType.int)) ∈ AW := AW_m2 172 rfl rfl
theorem aw_427 : (Cond.methodLink "KilnKeeper" (64 : Nat) ({ cls := "KilnKeeper", name := "endChange", desc := "(I)I" } : MethodName)) ∈ AW := AW_m2 173 rfl rfl
theorem at_428 : (Cond.privateMethod ({ cls := "KilnKeeper", name := "endChange", desc := "(I)I" } : MethodName)) ∈ lw_tbl := List.mem_append_right _ (List.mem_append_right _ (List.mem_append_left _ (List.mem_of_getElem? (l := tables_1_2) (i := 174) rfl)))
theorem aw_429 : (Cond.instanceMethod ({ cls := "KilnKeeper", name := "endChange", desc := "(I)I" } : MethodName)) ∈ AW := AW_m2 175 rfl rfl
theorem aw_430 : (Cond.code ({ cls := "KilnKeeper", name := "endChange", desc := "(I)I" } : MethodName) prog_1_method_37_code (2 : Nat) (Option.some FieldType.int)) ∈ AW := AW_m2 176 rfl rfl
theorem aw_431 : (Cond.methodLink "KilnKeeper" (251 : Nat) ({ cls := "KilnKeeper$Changes", name := "keep", desc := "(LKilnKeeper$Kiln;)V" } : MethodName)) ∈ AW := AW_m2 177 rfl rfl
theorem aw_432 : (Cond.instanceMethod ({ cls := "KilnKeeper$Changes", name := "keep", desc := "(LKilnKeeper$Kiln;)V" } : MethodName)) ∈ AW := AW_m2 178 rfl rfl
theorem aw_433 : (Cond.selects "KilnKeeper$Changes" ({ cls := "KilnKeeper$Changes", name := "keep", desc := "(LKilnKeeper$Kiln;)V" } : MethodName) ({ cls := "KilnKeeper$Changes", name := "keep", desc := "(LKilnKeeper$Kiln;)V" } : MethodName)) ∈ AW := AW_m2 179 rfl rfl
theorem aw_434 : (Cond.code ({ cls := "KilnKeeper$Changes", name := "keep", desc := "(LKilnKeeper$Kiln;)V" } : MethodName) prog_4_method_2_code (3 : Nat) (Option.none : Option FieldType)) ∈ AW := AW_m2 180 rfl rfl
theorem aw_435 : (Cond.methodLink "KilnKeeper$Changes" (25 : Nat) ({ cls := "KilnKeeper$Changes", name := "kilnAt", desc := "(I)LKilnKeeper$Kiln;" } : MethodName)) ∈ AW := AW_m2 181 rfl rfl
theorem at_436 : (Cond.privateMethod ({ cls := "KilnKeeper$Changes", name := "kilnAt", desc := "(I)LKilnKeeper$Kiln;" } : MethodName)) ∈ lw_tbl := List.mem_append_right _ (List.mem_append_right _ (List.mem_append_left _ (List.mem_of_getElem? (l := tables_1_2) (i := 182) rfl)))
theorem aw_437 : (Cond.instanceMethod ({ cls := "KilnKeeper$Changes", name := "kilnAt", desc := "(I)LKilnKeeper$Kiln;" } : MethodName)) ∈ AW := AW_m2 183 rfl rfl
theorem aw_438 : (Cond.code ({ cls := "KilnKeeper$Changes", name := "kilnAt", desc := "(I)LKilnKeeper$Kiln;" } : MethodName) prog_4_method_4_code (3 : Nat) (Option.some (FieldType.object "KilnKeeper$Kiln"))) ∈ AW := AW_m2 184 rfl rfl
theorem aw_439 : (Cond.methodLink "KilnKeeper$Changes" (29 : Nat) ({ cls := "KilnKeeper$Kiln", name := "copyFrom", desc := "(LKilnKeeper$Kiln;)V" } : MethodName)) ∈ AW := AW_m2 185 rfl rfl
theorem aw_440 : (Cond.methodLink "KilnKeeperLaw" (68 : Nat) ({ cls := "KilnKeeper", name := "gains", desc := "(III)I" } : MethodName)) ∈ AW := AW_m2 186 rfl rfl
theorem aw_441 : (Cond.instanceMethod ({ cls := "KilnKeeper", name := "gains", desc := "(III)I" } : MethodName)) ∈ AW := AW_m2 187 rfl rfl
theorem aw_442 : (Cond.selects "KilnKeeper" ({ cls := "KilnKeeper", name := "gains", desc := "(III)I" } : MethodName) ({ cls := "KilnKeeper", name := "gains", desc := "(III)I" } : MethodName)) ∈ AW := AW_m2 188 rfl rfl
theorem aw_443 : (Cond.code ({ cls := "KilnKeeper", name := "gains", desc := "(III)I" } : MethodName) prog_1_method_3_code (4 : Nat) (Option.some FieldType.int)) ∈ AW := AW_m2 189 rfl rfl
theorem aw_444 : (Cond.methodLink "KilnKeeper" (72 : Nat) ({ cls := "KilnKeeper$Regulator", name := "tellGains", desc := "(III)I" } : MethodName)) ∈ AW := AW_m2 190 rfl rfl
theorem aw_445 : (Cond.instanceMethod ({ cls := "KilnKeeper$Regulator", name := "tellGains", desc := "(III)I" } : MethodName)) ∈ AW := AW_m2 191 rfl rfl
theorem aw_446 : (Cond.selects "KilnKeeper$Regulator" ({ cls := "KilnKeeper$Regulator", name := "tellGains", desc := "(III)I" } : MethodName) ({ cls := "KilnKeeper$Regulator", name := "tellGains", desc := "(III)I" } : MethodName)) ∈ AW := AW_m2 192 rfl rfl
theorem aw_447 : (Cond.code ({ cls := "KilnKeeper$Regulator", name := "tellGains", desc := "(III)I" } : MethodName) prog_12_method_3_code (5 : Nat) (Option.some FieldType.int)) ∈ AW := AW_m2 193 rfl rfl
theorem at_448 : (Cond.methodLinkNest "KilnKeeper$Regulator" (30 : Nat) ({ cls := "KilnKeeper", name := "isFrom", desc := "(III)Z" } : MethodName) "KilnKeeper") ∈ lw_tbl := List.mem_append_right _ (List.mem_append_right _ (List.mem_append_left _ (List.mem_of_getElem? (l := tables_1_2) (i := 194) rfl)))
theorem aw_449 : (Cond.methodLink "KilnKeeperLaw" (72 : Nat) ({ cls := "KilnKeeper", name := "cap", desc := "(I)I" } : MethodName)) ∈ AW := AW_m2 195 rfl rfl
theorem aw_450 : (Cond.instanceMethod ({ cls := "KilnKeeper", name := "cap", desc := "(I)I" } : MethodName)) ∈ AW := AW_m2 196 rfl rfl
theorem aw_451 : (Cond.selects "KilnKeeper" ({ cls := "KilnKeeper", name := "cap", desc := "(I)I" } : MethodName) ({ cls := "KilnKeeper", name := "cap", desc := "(I)I" } : MethodName)) ∈ AW := AW_m2 197 rfl rfl
theorem aw_452 : (Cond.code ({ cls := "KilnKeeper", name := "cap", desc := "(I)I" } : MethodName) prog_1_method_4_code (2 : Nat) (Option.some FieldType.int)) ∈ AW := AW_m2 198 rfl rfl
theorem aw_453 : (Cond.methodLink "KilnKeeper" (78 : Nat) ({ cls := "KilnKeeper$Regulator", name := "tellCap", desc := "(ILKilnKeeper$Refusal;)I" } : MethodName)) ∈ AW := AW_m2 199 rfl rfl
theorem aw_454 : (Cond.instanceMethod ({ cls := "KilnKeeper$Regulator", name := "tellCap", desc := "(ILKilnKeeper$Refusal;)I" } : MethodName)) ∈ AW := AW_m2 200 rfl rfl
theorem aw_455 : (Cond.selects "KilnKeeper$Regulator" ({ cls := "KilnKeeper$Regulator", name := "tellCap", desc := "(ILKilnKeeper$Refusal;)I" } : MethodName) ({ cls := "KilnKeeper$Regulator", name := "tellCap", desc := "(ILKilnKeeper$Refusal;)I" } : MethodName)) ∈ AW := AW_m2 201 rfl rfl
theorem aw_456 : (Cond.code ({ cls := "KilnKeeper$Regulator", name := "tellCap", desc := "(ILKilnKeeper$Refusal;)I" } : MethodName) prog_12_method_4_code (4 : Nat) (Option.some FieldType.int)) ∈ AW := AW_m2 202 rfl rfl
theorem aw_457 : (Cond.methodLink "KilnKeeper$Regulator" (34 : Nat) ({ cls := "KilnKeeper$Refusal", name := "because", desc := "(II)I" } : MethodName)) ∈ AW := AW_m2 203 rfl rfl
theorem at_458 : (Cond.methodLinkNest "KilnKeeper$Regulator" (40 : Nat) ({ cls := "KilnKeeper", name := "between", desc := "(III)I" } : MethodName) "KilnKeeper") ∈ lw_tbl := List.mem_append_right _ (List.mem_append_right _ (List.mem_append_left _ (List.mem_of_getElem? (l := tables_1_2) (i := 204) rfl)))
theorem aw_459 : (Cond.static ({ cls := "KilnKeeper", name := "between", desc := "(III)I" } : MethodName)) ∈ AW := AW_m2 205 rfl rfl
theorem aw_460 : (Cond.code ({ cls := "KilnKeeper", name := "between", desc := "(III)I" } : MethodName) prog_1_method_41_code (3 : Nat) (Option.some FieldType.int)) ∈ AW := AW_m2 206 rfl rfl
theorem aw_461 : (Cond.methodLink "KilnKeeperLaw" (75 : Nat) ({ cls := "KilnKeeper", name := "lag", desc := "(I)I" } : MethodName)) ∈ AW := AW_m2 207 rfl rfl
theorem aw_462 : (Cond.instanceMethod ({ cls := "KilnKeeper", name := "lag", desc := "(I)I" } : MethodName)) ∈ AW := AW_m2 208 rfl rfl
theorem aw_463 : (Cond.selects "KilnKeeper" ({ cls := "KilnKeeper", name := "lag", desc := "(I)I" } : MethodName) ({ cls := "KilnKeeper", name := "lag", desc := "(I)I" } : MethodName)) ∈ AW := AW_m2 209 rfl rfl
theorem aw_464 : (Cond.code ({ cls := "KilnKeeper", name := "lag", desc := "(I)I" } : MethodName) prog_1_method_5_code (2 : Nat) (Option.some FieldType.int)) ∈ AW := AW_m2 210 rfl rfl
theorem aw_465 : (Cond.methodLink "KilnKeeper" (81 : Nat) ({ cls := "KilnKeeper$Kiln", name := "tellLag", desc := "(ILKilnKeeper$Refusal;)I" } : MethodName)) ∈ AW := AW_m2 211 rfl rfl
theorem aw_466 : (Cond.instanceMethod ({ cls := "KilnKeeper$Kiln", name := "tellLag", desc := "(ILKilnKeeper$Refusal;)I" } : MethodName)) ∈ AW := AW_m2 212 rfl rfl
theorem aw_467 : (Cond.selects "KilnKeeper$Kiln" ({ cls := "KilnKeeper$Kiln", name := "tellLag", desc := "(ILKilnKeeper$Refusal;)I" } : MethodName) ({ cls := "KilnKeeper$Kiln", name := "tellLag", desc := "(ILKilnKeeper$Refusal;)I" } : MethodName)) ∈ AW := AW_m2 213 rfl rfl
theorem aw_468 : (Cond.code ({ cls := "KilnKeeper$Kiln", name := "tellLag", desc := "(ILKilnKeeper$Refusal;)I" } : MethodName) prog_5_method_5_code (4 : Nat) (Option.some FieldType.int)) ∈ AW := AW_m2 214 rfl rfl
theorem aw_469 : (Cond.methodLink "KilnKeeper$Kiln" (78 : Nat) ({ cls := "KilnKeeper$LagRow", name := "resize", desc := "(II)V" } : MethodName)) ∈ AW := AW_m2 215 rfl rfl
theorem aw_470 : (Cond.instanceMethod ({ cls := "KilnKeeper$LagRow", name := "resize", desc := "(II)V" } : MethodName)) ∈ AW := AW_m2 216 rfl rfl
theorem aw_471 : (Cond.selects "KilnKeeper$LagRow" ({ cls := "KilnKeeper$LagRow", name := "resize", desc := "(II)V" } : MethodName) ({ cls := "KilnKeeper$LagRow", name := "resize", desc := "(II)V" } : MethodName)) ∈ AW := AW_m2 217 rfl rfl
theorem aw_472 : (Cond.code ({ cls := "KilnKeeper$LagRow", name := "resize", desc := "(II)V" } : MethodName) prog_6_method_4_code (5 : Nat) (Option.none : Option FieldType)) ∈ AW := AW_m2 218 rfl rfl
theorem aw_473 : (Cond.methodLink "KilnKeeper$LagRow" (27 : Nat) ({ cls := "KilnKeeper$LagRow", name := "shiftBy", desc := "(I)V" } : MethodName)) ∈ AW := AW_m2 219 rfl rfl
theorem at_474 : (Cond.privateMethod ({ cls := "KilnKeeper$LagRow", name := "shiftBy", desc := "(I)V" } : MethodName)) ∈ lw_tbl := List.mem_append_right _ (List.mem_append_right _ (List.mem_append_left _ (List.mem_of_getElem? (l := tables_1_2) (i := 220) rfl)))
theorem aw_475 : (Cond.instanceMethod ({ cls := "KilnKeeper$LagRow", name := "shiftBy", desc := "(I)V" } : MethodName)) ∈ AW := AW_m2 221 rfl rfl
theorem aw_476 : (Cond.code ({ cls := "KilnKeeper$LagRow", name := "shiftBy", desc := "(I)V" } : MethodName) prog_6_method_6_code (3 : Nat) (Option.none : Option FieldType)) ∈ AW := AW_m2 222 rfl rfl
theorem at_477 : (Cond.methodLinkNest "KilnKeeper$LagRow" (23 : Nat) ({ cls := "KilnKeeper", name := "numberAt", desc := "([II)I" } : MethodName) "KilnKeeper") ∈ lw_tbl := List.mem_append_right _ (List.mem_append_right _ (List.mem_append_left _ (List.mem_of_getElem? (l := tables_1_2) (i := 223) rfl)))
theorem aw_478 : (Cond.static ({ cls := "KilnKeeper", name := "numberAt", desc := "([II)I" } : MethodName)) ∈ AW := AW_m2 224 rfl rfl
theorem aw_479 : (Cond.code ({ cls := "KilnKeeper", name := "numberAt", desc := "([II)I" } : MethodName) prog_1_method_42_code (2 : Nat) (Option.some FieldType.int)) ∈ AW := AW_m2 225 rfl rfl
theorem at_480 : (Cond.methodLinkNest "KilnKeeper$LagRow" (31 : Nat) ({ cls := "KilnKeeper", name := "setNumberAt", desc := "([III)V" } : MethodName) "KilnKeeper") ∈ lw_tbl := List.mem_append_right _ (List.mem_append_right _ (List.mem_append_left _ (List.mem_of_getElem? (l := tables_1_2) (i := 226) rfl)))
theorem aw_481 : (Cond.static ({ cls := "KilnKeeper", name := "setNumberAt", desc := "([III)V" } : MethodName)) ∈ AW := AW_m2 227 rfl rfl
theorem aw_482 : (Cond.code ({ cls := "KilnKeeper", name := "setNumberAt", desc := "([III)V" } : MethodName) prog_1_method_43_code (3 : Nat) (Option.none : Option FieldType)) ∈ AW := AW_m2 228 rfl rfl
theorem aw_483 : (Cond.methodLink "KilnKeeperLaw" (78 : Nat) ({ cls := "KilnKeeper", name := "fuel", desc := "(I)I" } : MethodName)) ∈ AW := AW_m2 229 rfl rfl
theorem aw_484 : (Cond.instanceMethod ({ cls := "KilnKeeper", name := "fuel", desc := "(I)I" } : MethodName)) ∈ AW := AW_m2 230 rfl rfl
theorem aw_485 : (Cond.selects "KilnKeeper" ({ cls := "KilnKeeper", name := "fuel", desc := "(I)I" } : MethodName) ({ cls := "KilnKeeper", name := "fuel", desc := "(I)I" } : MethodName)) ∈ AW := AW_m2 231 rfl rfl
theorem aw_486 : (Cond.code ({ cls := "KilnKeeper", name := "fuel", desc := "(I)I" } : MethodName) prog_1_method_6_code (2 : Nat) (Option.some FieldType.int)) ∈ AW := AW_m2 232 rfl rfl
theorem aw_487 : (Cond.methodLink "KilnKeeper" (88 : Nat) ({ cls := "KilnKeeper$Book", name := "addFuel", desc := "(I)I" } : MethodName)) ∈ AW := AW_m2 233 rfl rfl
theorem aw_488 : (Cond.instanceMethod ({ cls := "KilnKeeper$Book", name := "addFuel", desc := "(I)I" } : MethodName)) ∈ AW := AW_m2 234 rfl rfl
theorem aw_489 : (Cond.selects "KilnKeeper$Book" ({ cls := "KilnKeeper$Book", name := "addFuel", desc := "(I)I" } : MethodName) ({ cls := "KilnKeeper$Book", name := "addFuel", desc := "(I)I" } : MethodName)) ∈ AW := AW_m2 235 rfl rfl
theorem aw_490 : (Cond.code ({ cls := "KilnKeeper$Book", name := "addFuel", desc := "(I)I" } : MethodName) prog_3_method_3_code (2 : Nat) (Option.some FieldType.int)) ∈ AW := AW_m2 236 rfl rfl
theorem at_491 : (Cond.methodLinkNest "KilnKeeper$Book" (35 : Nat) ({ cls := "KilnKeeper", name := "isFrom", desc := "(III)Z" } : MethodName) "KilnKeeper") ∈ lw_tbl := List.mem_append_right _ (List.mem_append_right _ (List.mem_append_left _ (List.mem_of_getElem? (l := tables_1_2) (i := 237) rfl)))
theorem aw_492 : (Cond.methodLink "KilnKeeperLaw" (81 : Nat) ({ cls := "KilnKeeper", name := "pot", desc := "(III)I" } : MethodName)) ∈ AW := AW_m2 238 rfl rfl
theorem aw_493 : (Cond.instanceMethod ({ cls := "KilnKeeper", name := "pot", desc := "(III)I" } : MethodName)) ∈ AW := AW_m2 239 rfl rfl
theorem aw_494 : (Cond.selects "KilnKeeper" ({ cls := "KilnKeeper", name := "pot", desc := "(III)I" } : MethodName) ({ cls := "KilnKeeper", name := "pot", desc := "(III)I" } : MethodName)) ∈ AW := AW_m3 0 rfl rfl
theorem aw_495 : (Cond.code ({ cls := "KilnKeeper", name := "pot", desc := "(III)I" } : MethodName) prog_1_method_8_code (4 : Nat) (Option.some FieldType.int)) ∈ AW := AW_m3 1 rfl rfl
theorem aw_496 : (Cond.methodLink "KilnKeeper" (100 : Nat) ({ cls := "KilnKeeper$Rack", name := "addPot", desc := "(IIILKilnKeeper$Refusal;)I" } : MethodName)) ∈ AW := AW_m3 2 rfl rfl
theorem aw_497 : (Cond.instanceMethod ({ cls := "KilnKeeper$Rack", name := "addPot", desc := "(IIILKilnKeeper$Refusal;)I" } : MethodName)) ∈ AW := AW_m3 3 rfl rfl
theorem aw_498 : (Cond.selects "KilnKeeper$Rack" ({ cls := "KilnKeeper$Rack", name := "addPot", desc := "(IIILKilnKeeper$Refusal;)I" } : MethodName) ({ cls := "KilnKeeper$Rack", name := "addPot", desc := "(IIILKilnKeeper$Refusal;)I" } : MethodName)) ∈ AW := AW_m3 4 rfl rfl
theorem aw_499 : (Cond.code ({ cls := "KilnKeeper$Rack", name := "addPot", desc := "(IIILKilnKeeper$Refusal;)I" } : MethodName) prog_9_method_4_code (7 : Nat) (Option.some FieldType.int)) ∈ AW := AW_m3 5 rfl rfl
theorem at_500 : (Cond.methodLinkNest "KilnKeeper$Rack" (30 : Nat) ({ cls := "KilnKeeper", name := "isFrom", desc := "(III)Z" } : MethodName) "KilnKeeper") ∈ lw_tbl := List.mem_append_right _ (List.mem_append_right _ (List.mem_append_right _ (List.mem_append_left _ (List.mem_of_getElem? (l := tables_1_3) (i := 6) rfl))))
theorem aw_501 : (Cond.methodLink "KilnKeeper$Rack" (34 : Nat) ({ cls := "KilnKeeper$Refusal", name := "because", desc := "(II)I" } : MethodName)) ∈ AW := AW_m3 7 rfl rfl
theorem aw_502 : (Cond.methodLink "KilnKeeper$Rack" (40 : Nat) ({ cls := "KilnKeeper$Pot", name := "begin", desc := "(III)V" } : MethodName)) ∈ AW := AW_m3 8 rfl rfl
theorem aw_503 : (Cond.instanceMethod ({ cls := "KilnKeeper$Pot", name := "begin", desc := "(III)V" } : MethodName)) ∈ AW := AW_m3 9 rfl rfl
theorem aw_504 : (Cond.selects "KilnKeeper$Pot" ({ cls := "KilnKeeper$Pot", name := "begin", desc := "(III)V" } : MethodName) ({ cls := "KilnKeeper$Pot", name := "begin", desc := "(III)V" } : MethodName)) ∈ AW := AW_m3 10 rfl rfl
theorem aw_505 : (Cond.code ({ cls := "KilnKeeper$Pot", name := "begin", desc := "(III)V" } : MethodName) prog_8_method_3_code (4 : Nat) (Option.none : Option FieldType)) ∈ AW := AW_m3 11 rfl rfl
theorem aw_506 : (Cond.methodLink "KilnKeeperLaw" (84 : Nat) ({ cls := "KilnKeeper", name := "put", desc := "(I)I" } : MethodName)) ∈ AW := AW_m3 12 rfl rfl
theorem aw_507 : (Cond.instanceMethod ({ cls := "KilnKeeper", name := "put", desc := "(I)I" } : MethodName)) ∈ AW := AW_m3 13 rfl rfl
theorem aw_508 : (Cond.selects "KilnKeeper" ({ cls := "KilnKeeper", name := "put", desc := "(I)I" } : MethodName) ({ cls := "KilnKeeper", name := "put", desc := "(I)I" } : MethodName)) ∈ AW := AW_m3 14 rfl rfl
theorem aw_509 : (Cond.code ({ cls := "KilnKeeper", name := "put", desc := "(I)I" } : MethodName) prog_1_method_9_code (2 : Nat) (Option.some FieldType.int)) ∈ AW := AW_m3 15 rfl rfl
theorem aw_510 : (Cond.methodLink "KilnKeeper" (110 : Nat) ({ cls := "KilnKeeper$Rack", name := "bringIn", desc := "(IILKilnKeeper$Refusal;)I" } : MethodName)) ∈ AW := AW_m3 16 rfl rfl
theorem aw_511 : (Cond.instanceMethod ({ cls := "KilnKeeper$Rack", name := "bringIn", desc := "(IILKilnKeeper$Refusal;)I" } : MethodName)) ∈ AW := AW_m3 17 rfl rfl
theorem aw_512 : (Cond.selects "KilnKeeper$Rack" ({ cls := "KilnKeeper$Rack", name := "bringIn", desc := "(IILKilnKeeper$Refusal;)I" } : MethodName) ({ cls := "KilnKeeper$Rack", name := "bringIn", desc := "(IILKilnKeeper$Refusal;)I" } : MethodName)) ∈ AW := AW_m3 18 rfl rfl
theorem aw_513 : (Cond.code ({ cls := "KilnKeeper$Rack", name := "bringIn", desc := "(IILKilnKeeper$Refusal;)I" } : MethodName) prog_9_method_5_code (6 : Nat) (Option.some FieldType.int)) ∈ AW := AW_m3 19 rfl rfl
theorem aw_514 : (Cond.methodLink "KilnKeeper$Rack" (47 : Nat) ({ cls := "KilnKeeper$Rack", name := "countWithin", desc := "()I" } : MethodName)) ∈ AW := AW_m3 20 rfl rfl
theorem aw_515 : (Cond.methodLink "KilnKeeperLaw" (87 : Nat) ({ cls := "KilnKeeper", name := "take", desc := "(I)I" } : MethodName)) ∈ AW := AW_m3 21 rfl rfl
theorem aw_516 : (Cond.instanceMethod ({ cls := "KilnKeeper", name := "take", desc := "(I)I" } : MethodName)) ∈ AW := AW_m3 22 rfl rfl
theorem aw_517 : (Cond.selects "KilnKeeper" ({ cls := "KilnKeeper", name := "take", desc := "(I)I" } : MethodName) ({ cls := "KilnKeeper", name := "take", desc := "(I)I" } : MethodName)) ∈ AW := AW_m3 23 rfl rfl
theorem aw_518 : (Cond.code ({ cls := "KilnKeeper", name := "take", desc := "(I)I" } : MethodName) prog_1_method_10_code (2 : Nat) (Option.some FieldType.int)) ∈ AW := AW_m3 24 rfl rfl
theorem aw_519 : (Cond.methodLink "KilnKeeper" (114 : Nat) ({ cls := "KilnKeeper$Rack", name := "bringOut", desc := "(IILKilnKeeper$Refusal;)I" } : MethodName)) ∈ AW := AW_m3 25 rfl rfl
theorem aw_520 : (Cond.instanceMethod ({ cls := "KilnKeeper$Rack", name := "bringOut", desc := "(IILKilnKeeper$Refusal;)I" } : MethodName)) ∈ AW := AW_m3 26 rfl rfl
theorem aw_521 : (Cond.selects "KilnKeeper$Rack" ({ cls := "KilnKeeper$Rack", name := "bringOut", desc := "(IILKilnKeeper$Refusal;)I" } : MethodName) ({ cls := "KilnKeeper$Rack", name := "bringOut", desc := "(IILKilnKeeper$Refusal;)I" } : MethodName)) ∈ AW := AW_m3 27 rfl rfl
theorem aw_522 : (Cond.code ({ cls := "KilnKeeper$Rack", name := "bringOut", desc := "(IILKilnKeeper$Refusal;)I" } : MethodName) prog_9_method_6_code (5 : Nat) (Option.some FieldType.int)) ∈ AW := AW_m3 28 rfl rfl
theorem aw_523 : (Cond.classLink "KilnKeeperLaw" (90 : Nat) "java/lang/StringBuilder") ∈ AW := AW_m3 29 rfl rfl
theorem aw_524 : (Cond.methodLink "KilnKeeperLaw" (92 : Nat) ({ cls := "java/lang/StringBuilder", name := "<init>", desc := "()V" } : MethodName)) ∈ AW := AW_m3 30 rfl rfl
theorem at_525 : (Cond.stringRef "KilnKeeperLaw" (93 : Nat) "fuel ") ∈ lw_tbl := List.mem_append_right _ (List.mem_append_right _ (List.mem_append_right _ (List.mem_append_left _ (List.mem_of_getElem? (l := tables_1_3) (i := 31) rfl))))
theorem aw_526 : (Cond.methodLink "KilnKeeperLaw" (95 : Nat) ({ cls := "java/lang/StringBuilder", name := "append", desc := "(Ljava/lang/String;)Ljava/lang/StringBuilder;" } : MethodName)) ∈ AW := AW_m3 32 rfl rfl
theorem aw_527 : (Cond.instanceMethod ({ cls := "java/lang/StringBuilder", name := "append", desc := "(Ljava/lang/String;)Ljava/lang/StringBuilder;" } : MethodName)) ∈ AW := AW_m3 33 rfl rfl
theorem aw_528 : (Cond.selects "java/lang/StringBuilder" ({ cls := "java/lang/StringBuilder", name := "append", desc := "(Ljava/lang/String;)Ljava/lang/StringBuilder;" } : MethodName) ({ cls := "java/lang/StringBuilder", name := "append", desc := "(Ljava/lang/String;)Ljava/lang/StringBuilder;" } : MethodName)) ∈ AW := AW_m3 34 rfl rfl
theorem aw_529 : (Cond.code ({ cls := "java/lang/StringBuilder", name := "append", desc := "(Ljava/lang/String;)Ljava/lang/StringBuilder;" } : MethodName) prog_22_method_7_code (2 : Nat) (Option.some (FieldType.object "java/lang/StringBuilder"))) ∈ AW := AW_m3 35 rfl rfl
theorem aw_530 : (Cond.methodLink "java/lang/StringBuilder" (29 : Nat) ({ cls := "java/lang/AbstractStringBuilder", name := "append", desc := "(Ljava/lang/String;)Ljava/lang/AbstractStringBuilder;" } : MethodName)) ∈ AW := AW_m3 36 rfl rfl
theorem aw_531 : (Cond.instanceMethod ({ cls := "java/lang/AbstractStringBuilder", name := "append", desc := "(Ljava/lang/String;)Ljava/lang/AbstractStringBuilder;" } : MethodName)) ∈ AW := AW_m3 37 rfl rfl
theorem aw_532 : (Cond.code ({ cls := "java/lang/AbstractStringBuilder", name := "append", desc := "(Ljava/lang/String;)Ljava/lang/AbstractStringBuilder;" } : MethodName) prog_16_method_22_code (3 : Nat) (Option.some (FieldType.object "java/lang/AbstractStringBuilder"))) ∈ AW := AW_m3 38 rfl rfl
theorem aw_533 : (Cond.methodLink "java/lang/AbstractStringBuilder" (204 : Nat) ({ cls := "java/lang/AbstractStringBuilder", name := "appendNull", desc := "()Ljava/lang/AbstractStringBuilder;" } : MethodName)) ∈ AW := AW_m3 39 rfl rfl
theorem at_534 : (Cond.privateMethod ({ cls := "java/lang/AbstractStringBuilder", name := "appendNull", desc := "()Ljava/lang/AbstractStringBuilder;" } : MethodName)) ∈ lw_tbl := List.mem_append_right _ (List.mem_append_right _ (List.mem_append_right _ (List.mem_append_left _ (List.mem_of_getElem? (l := tables_1_3) (i := 40) rfl))))
theorem aw_535 : (Cond.instanceMethod ({ cls := "java/lang/AbstractStringBuilder", name := "appendNull", desc := "()Ljava/lang/AbstractStringBuilder;" } : MethodName)) ∈ AW := AW_m3 41 rfl rfl
theorem aw_536 : (Cond.code ({ cls := "java/lang/AbstractStringBuilder", name := "appendNull", desc := "()Ljava/lang/AbstractStringBuilder;" } : MethodName) prog_16_method_26_code (3 : Nat) (Option.some (FieldType.object "java/lang/AbstractStringBuilder"))) ∈ AW := AW_m3 42 rfl rfl
theorem aw_537 : (Cond.methodLink "java/lang/AbstractStringBuilder" (100 : Nat) ({ cls := "java/lang/AbstractStringBuilder", name := "ensureCapacityInternal", desc := "(I)V" } : MethodName)) ∈ AW := AW_m3 43 rfl rfl
theorem at_538 : (Cond.privateMethod ({ cls := "java/lang/AbstractStringBuilder", name := "ensureCapacityInternal", desc := "(I)V" } : MethodName)) ∈ lw_tbl := List.mem_append_right _ (List.mem_append_right _ (List.mem_append_right _ (List.mem_append_left _ (List.mem_of_getElem? (l := tables_1_3) (i := 44) rfl))))
theorem aw_539 : (Cond.instanceMethod ({ cls := "java/lang/AbstractStringBuilder", name := "ensureCapacityInternal", desc := "(I)V" } : MethodName)) ∈ AW := AW_m3 45 rfl rfl
theorem aw_540 : (Cond.code ({ cls := "java/lang/AbstractStringBuilder", name := "ensureCapacityInternal", desc := "(I)V" } : MethodName) prog_16_method_9_code (3 : Nat) (Option.none : Option FieldType)) ∈ AW := AW_m3 46 rfl rfl
theorem aw_541 : (Cond.methodLink "java/lang/AbstractStringBuilder" (104 : Nat) ({ cls := "java/lang/AbstractStringBuilder", name := "newCapacity", desc := "(I)I" } : MethodName)) ∈ AW := AW_m3 47 rfl rfl
theorem at_542 : (Cond.privateMethod ({ cls := "java/lang/AbstractStringBuilder", name := "newCapacity", desc := "(I)I" } : MethodName)) ∈ lw_tbl := List.mem_append_right _ (List.mem_append_right _ (List.mem_append_right _ (List.mem_append_left _ (List.mem_of_getElem? (l := tables_1_3) (i := 48) rfl))))
theorem aw_543 : (Cond.instanceMethod ({ cls := "java/lang/AbstractStringBuilder", name := "newCapacity", desc := "(I)I" } : MethodName)) ∈ AW := AW_m3 49 rfl rfl
theorem aw_544 : (Cond.code ({ cls := "java/lang/AbstractStringBuilder", name := "newCapacity", desc := "(I)I" } : MethodName) prog_16_method_10_code (6 : Nat) (Option.some FieldType.int)) ∈ AW := AW_m3 50 rfl rfl
theorem aw_545 : (Cond.methodLink "java/lang/AbstractStringBuilder" (114 : Nat) ({ cls := "jdk/internal/util/ArraysSupport", name := "newLength", desc := "(III)I" } : MethodName)) ∈ AW := AW_m3 51 rfl rfl
theorem aw_546 : (Cond.static ({ cls := "jdk/internal/util/ArraysSupport", name := "newLength", desc := "(III)I" } : MethodName)) ∈ AW := AW_m3 52 rfl rfl
theorem aw_547 : (Cond.code ({ cls := "jdk/internal/util/ArraysSupport", name := "newLength", desc := "(III)I" } : MethodName) prog_27_method_27_code (4 : Nat) (Option.some FieldType.int)) ∈ AW := AW_m3 53 rfl rfl
theorem aw_548 : (Cond.methodLink "jdk/internal/util/ArraysSupport" (194 : Nat) ({ cls := "java/lang/Math", name := "max", desc := "(II)I" } : MethodName)) ∈ AW := AW_m3 54 rfl rfl
theorem aw_549 : (Cond.static ({ cls := "java/lang/Math", name := "max", desc := "(II)I" } : MethodName)) ∈ AW := AW_m3 55 rfl rfl
theorem aw_550 : (Cond.code ({ cls := "java/lang/Math", name := "max", desc := "(II)I" } : MethodName) prog_20_method_65_code (2 : Nat) (Option.some FieldType.int)) ∈ AW := AW_m3 56 rfl rfl
theorem aw_551 : (Cond.constant "jdk/internal/util/ArraysSupport" (200 : Nat) (2147483639 : Int32)) ∈ AW := AW_m3 57 rfl rfl
theorem aw_552 : (Cond.methodLink "jdk/internal/util/ArraysSupport" (201 : Nat) ({ cls := "jdk/internal/util/ArraysSupport", name := "hugeLength", desc := "(II)I" } : MethodName)) ∈ AW := AW_m3 58 rfl rfl
theorem aw_553 : (Cond.static ({ cls := "jdk/internal/util/ArraysSupport", name := "hugeLength", desc := "(II)I" } : MethodName)) ∈ AW := AW_m3 59 rfl rfl
theorem aw_554 : (Cond.code ({ cls := "jdk/internal/util/ArraysSupport", name := "hugeLength", desc := "(II)I" } : MethodName) prog_27_method_28_code (3 : Nat) (Option.some FieldType.int)) ∈ AW := AW_m3 60 rfl rfl
theorem aw_555 : (Cond.constant "java/lang/AbstractStringBuilder" (39 : Nat) (2147483647 : Int32)) ∈ AW := AW_m3 61 rfl rfl
theorem aw_556 : (Cond.methodLink "java/lang/AbstractStringBuilder" (108 : Nat) ({ cls := "java/util/Arrays", name := "copyOf", desc := "([BI)[B" } : MethodName)) ∈ AW := AW_m3 62 rfl rfl
theorem aw_557 : (Cond.static ({ cls := "java/util/Arrays", name := "copyOf", desc := "([BI)[B" } : MethodName)) ∈ AW := AW_m3 63 rfl rfl
theorem aw_558 : (Cond.code ({ cls := "java/util/Arrays", name := "copyOf", desc := "([BI)[B" } : MethodName) prog_26_method_121_code (3 : Nat) (Option.some (FieldType.array FieldType.byte))) ∈ AW := AW_m3 64 rfl rfl
theorem aw_559 : (Cond.methodLink "java/util/Arrays" (310 : Nat) ({ cls := "[B", name := "clone", desc := "()Ljava/lang/Object;" } : MethodName)) ∈ AW := AW_m3 65 rfl rfl
theorem aw_560 : (Cond.sameMethod "[B" "java/lang/Object" "clone" "()Ljava/lang/Object;") ∈ AW := AW_m3 66 rfl rfl
theorem aw_561 : (Cond.native ({ cls := "java/lang/Object", name := "clone", desc := "()Ljava/lang/Object;" } : MethodName)) ∈ AW := AW_m3 67 rfl rfl
theorem aw_562 : (Cond.instanceMethod ({ cls := "java/lang/Object", name := "clone", desc := "()Ljava/lang/Object;" } : MethodName)) ∈ AW := AW_m3 68 rfl rfl
theorem aw_563 : (Cond.selects "[B" ({ cls := "[B", name := "clone", desc := "()Ljava/lang/Object;" } : MethodName) ({ cls := "java/lang/Object", name := "clone", desc := "()Ljava/lang/Object;" } : MethodName)) ∈ AW := AW_m3 69 rfl rfl
theorem at_564 : (Cond.castable "[B" "java/lang/Cloneable") ∈ lw_tbl := List.mem_append_right _ (List.mem_append_right _ (List.mem_append_right _ (List.mem_append_left _ (List.mem_of_getElem? (l := tables_1_3) (i := 70) rfl))))
theorem aw_565 : (Cond.classLink "java/util/Arrays" (311 : Nat) "[B") ∈ AW := AW_m3 71 rfl rfl
theorem aw_566 : (Cond.methodLink "java/util/Arrays" (304 : Nat) ({ cls := "java/lang/Math", name := "min", desc := "(II)I" } : MethodName)) ∈ AW := AW_m3 72 rfl rfl
theorem aw_567 : (Cond.static ({ cls := "java/lang/Math", name := "min", desc := "(II)I" } : MethodName)) ∈ AW := AW_m3 73 rfl rfl
theorem aw_568 : (Cond.code ({ cls := "java/lang/Math", name := "min", desc := "(II)I" } : MethodName) prog_20_method_69_code (2 : Nat) (Option.some FieldType.int)) ∈ AW := AW_m3 74 rfl rfl
theorem aw_569 : (Cond.methodLink "java/util/Arrays" (150 : Nat) ({ cls := "java/lang/System", name := "arraycopy", desc := "(Ljava/lang/Object;ILjava/lang/Object;II)V" } : MethodName)) ∈ AW := AW_m3 75 rfl rfl
theorem aw_570 : (Cond.static ({ cls := "java/lang/System", name := "arraycopy", desc := "(Ljava/lang/Object;ILjava/lang/Object;II)V" } : MethodName)) ∈ AW := AW_m3 76 rfl rfl
theorem aw_571 : (Cond.native ({ cls := "java/lang/System", name := "arraycopy", desc := "(Ljava/lang/Object;ILjava/lang/Object;II)V" } : MethodName)) ∈ AW := AW_m3 77 rfl rfl
theorem aw_572 : (Cond.methodLink "java/lang/AbstractStringBuilder" (83 : Nat) ({ cls := "java/lang/AbstractStringBuilder", name := "isLatin1", desc := "()Z" } : MethodName)) ∈ AW := AW_m3 78 rfl rfl
theorem aw_573 : (Cond.instanceMethod ({ cls := "java/lang/AbstractStringBuilder", name := "isLatin1", desc := "()Z" } : MethodName)) ∈ AW := AW_m3 79 rfl rfl
theorem aw_574 : (Cond.sameMethod "java/lang/AbstractStringBuilder" "java/lang/AbstractStringBuilder" "isLatin1" "()Z") ∈ AW := AW_m3 80 rfl rfl
theorem aw_575 : (Cond.selects "java/lang/StringBuilder" ({ cls := "java/lang/AbstractStringBuilder", name := "isLatin1", desc := "()Z" } : MethodName) ({ cls := "java/lang/AbstractStringBuilder", name := "isLatin1", desc := "()Z" } : MethodName)) ∈ AW := AW_m3 81 rfl rfl
theorem aw_576 : (Cond.code ({ cls := "java/lang/AbstractStringBuilder", name := "isLatin1", desc := "()Z" } : MethodName) prog_16_method_68_code (1 : Nat) (Option.some FieldType.boolean)) ∈ AW := AW_m3 82 rfl rfl
theorem aw_577 : (Cond.methodLink "java/lang/AbstractStringBuilder" (226 : Nat) ({ cls := "java/lang/StringUTF16", name := "putCharsAt", desc := "([BICCCC)I" } : MethodName)) ∈ AW := AW_m3 83 rfl rfl
theorem aw_578 : (Cond.static ({ cls := "java/lang/StringUTF16", name := "putCharsAt", desc := "([BICCCC)I" } : MethodName)) ∈ AW := AW_m3 84 rfl rfl
theorem aw_579 : (Cond.code ({ cls := "java/lang/StringUTF16", name := "putCharsAt", desc := "([BICCCC)I" } : MethodName) prog_24_method_81_code (7 : Nat) (Option.some FieldType.int)) ∈ AW := AW_m3 85 rfl rfl
theorem aw_580 : (Cond.methodLink "java/lang/StringUTF16" (96 : Nat) ({ cls := "java/lang/StringUTF16", name := "checkBoundsBeginEnd", desc := "(II[B)V" } : MethodName)) ∈ AW := AW_m3 86 rfl rfl
theorem aw_581 : (Cond.static ({ cls := "java/lang/StringUTF16", name := "checkBoundsBeginEnd", desc := "(II[B)V" } : MethodName)) ∈ AW := AW_m3 87 rfl rfl
theorem aw_582 : (Cond.code ({ cls := "java/lang/StringUTF16", name := "checkBoundsBeginEnd", desc := "(II[B)V" } : MethodName) prog_24_method_93_code (3 : Nat) (Option.none : Option FieldType)) ∈ AW := AW_m3 88 rfl rfl
theorem aw_583 : (Cond.methodLink "java/lang/StringUTF16" (48 : Nat) ({ cls := "java/lang/StringUTF16", name := "length", desc := "([B)I" } : MethodName)) ∈ AW := AW_m3 89 rfl rfl
theorem aw_584 : (Cond.static ({ cls := "java/lang/StringUTF16", name := "length", desc := "([B)I" } : MethodName)) ∈ AW := AW_m3 90 rfl rfl
theorem aw_585 : (Cond.code ({ cls := "java/lang/StringUTF16", name := "length", desc := "([B)I" } : MethodName) prog_24_method_6_code (1 : Nat) (Option.some FieldType.int)) ∈ AW := AW_m3 91 rfl rfl
theorem aw_586 : (Cond.methodLink "java/lang/StringUTF16" (241 : Nat) ({ cls := "java/lang/String", name := "checkBoundsBeginEnd", desc := "(III)V" } : MethodName)) ∈ AW := AW_m3 92 rfl rfl
theorem aw_587 : (Cond.static ({ cls := "java/lang/String", name := "checkBoundsBeginEnd", desc := "(III)V" } : MethodName)) ∈ AW := AW_m3 93 rfl rfl
theorem aw_588 : (Cond.code ({ cls := "java/lang/String", name := "checkBoundsBeginEnd", desc := "(III)V" } : MethodName) prog_21_method_158_code (3 : Nat) (Option.none : Option FieldType)) ∈ AW := AW_m3 94 rfl rfl
theorem aw_589 : (Cond.fieldLink "java/lang/String" (1053 : Nat) "jdk/internal/util/Preconditions" "SIOOBE_FORMATTER" "Ljava/util/function/BiFunction;") ∈ AW := AW_m3 95 rfl rfl
theorem at_590 : (Cond.laysStatic "jdk/internal/util/Preconditions" "SIOOBE_FORMATTER" "Ljava/util/function/BiFunction;") ∈ lw_tbl := List.mem_append_right _ (List.mem_append_right _ (List.mem_append_right _ (List.mem_append_left _ (List.mem_of_getElem? (l := tables_1_3) (i := 96) rfl))))
theorem aw_591 : (Cond.methodLink "java/lang/String" (1062 : Nat) ({ cls := "jdk/internal/util/Preconditions", name := "checkFromToIndex", desc := "(IIILjava/util/function/BiFunction;)I" } : MethodName)) ∈ AW := AW_m3 97 rfl rfl
theorem aw_592 : (Cond.static ({ cls := "jdk/internal/util/Preconditions", name := "checkFromToIndex", desc := "(IIILjava/util/function/BiFunction;)I" } : MethodName)) ∈ AW := AW_m3 98 rfl rfl
theorem aw_593 : (Cond.code ({ cls := "jdk/internal/util/Preconditions", name := "checkFromToIndex", desc := "(IIILjava/util/function/BiFunction;)I" } : MethodName) prog_28_method_12_code (4 : Nat) (Option.some FieldType.int)) ∈ AW := AW_m3 99 rfl rfl
theorem aw_594 : (Cond.methodLink "java/lang/StringUTF16" (111 : Nat) ({ cls := "java/lang/StringUTF16", name := "putChar", desc := "([BII)V" } : MethodName)) ∈ AW := AW_m3 100 rfl rfl
theorem aw_595 : (Cond.static ({ cls := "java/lang/StringUTF16", name := "putChar", desc := "([BII)V" } : MethodName)) ∈ AW := AW_m3 101 rfl rfl
theorem aw_596 : (Cond.code ({ cls := "java/lang/StringUTF16", name := "putChar", desc := "([BII)V" } : MethodName) prog_24_method_4_code (3 : Nat) (Option.none : Option FieldType)) ∈ AW := AW_m3 102 rfl rfl
theorem aw_597 : (Cond.fieldLink "java/lang/StringUTF16" (44 : Nat) "java/lang/StringUTF16" "$assertionsDisabled" "Z") ∈ AW := AW_m3 103 rfl rfl
theorem at_598 : (Cond.laysStatic "java/lang/StringUTF16" "$assertionsDisabled" "Z") ∈ lw_tbl := List.mem_append_right _ (List.mem_append_right _ (List.mem_append_right _ (List.mem_append_left _ (List.mem_of_getElem? (l := tables_1_3) (i := 104) rfl))))
theorem aw_599 : (Cond.fieldLink "java/lang/StringUTF16" (59 : Nat) "java/lang/StringUTF16" "HI_BYTE_SHIFT" "I") ∈ AW := AW_m3 105 rfl rfl
theorem at_600 : (Cond.laysStatic "java/lang/StringUTF16" "HI_BYTE_SHIFT" "I") ∈ lw_tbl := List.mem_append_right _ (List.mem_append_right _ (List.mem_append_right _ (List.mem_append_left _ (List.mem_of_getElem? (l := tables_1_3) (i := 106) rfl))))
theorem aw_601 : (Cond.fieldLink "java/lang/StringUTF16" (63 : Nat) "java/lang/StringUTF16" "LO_BYTE_SHIFT" "I") ∈ AW := AW_m3 107 rfl rfl
theorem at_602 : (Cond.laysStatic "java/lang/StringUTF16" "LO_BYTE_SHIFT" "I") ∈ lw_tbl := List.mem_append_right _ (List.mem_append_right _ (List.mem_append_right _ (List.mem_append_left _ (List.mem_of_getElem? (l := tables_1_3) (i := 108) rfl))))
theorem aw_603 : (Cond.methodLink "java/lang/AbstractStringBuilder" (32 : Nat) ({ cls := "java/lang/String", name := "length", desc := "()I" } : MethodName)) ∈ AW := AW_m3 109 rfl rfl
theorem aw_604 : (Cond.instanceMethod ({ cls := "java/lang/String", name := "length", desc := "()I" } : MethodName)) ∈ AW := AW_m3 110 rfl rfl
theorem aw_605 : (Cond.selects "java/lang/String" ({ cls := "java/lang/String", name := "length", desc := "()I" } : MethodName) ({ cls := "java/lang/String", name := "length", desc := "()I" } : MethodName)) ∈ AW := AW_m3 111 rfl rfl
theorem aw_606 : (Cond.code ({ cls := "java/lang/String", name := "length", desc := "()I" } : MethodName) prog_21_method_54_code (1 : Nat) (Option.some FieldType.int)) ∈ AW := AW_m3 112 rfl rfl
theorem aw_607 : (Cond.methodLink "java/lang/String" (335 : Nat) ({ cls := "java/lang/String", name := "coder", desc := "()B" } : MethodName)) ∈ AW := AW_m3 113 rfl rfl
theorem aw_608 : (Cond.instanceMethod ({ cls := "java/lang/String", name := "coder", desc := "()B" } : MethodName)) ∈ AW := AW_m3 114 rfl rfl
theorem aw_609 : (Cond.selects "java/lang/String" ({ cls := "java/lang/String", name := "coder", desc := "()B" } : MethodName) ({ cls := "java/lang/String", name := "coder", desc := "()B" } : MethodName)) ∈ AW := AW_m3 115 rfl rfl
theorem aw_610 : (Cond.code ({ cls := "java/lang/String", name := "coder", desc := "()B" } : MethodName) prog_21_method_152_code (1 : Nat) (Option.some FieldType.byte)) ∈ AW := AW_m3 116 rfl rfl
theorem aw_611 : (Cond.fieldLink "java/lang/String" (38 : Nat) "java/lang/String" "COMPACT_STRINGS" "Z") ∈ AW := AW_m3 117 rfl rfl
theorem aw_612 : (Cond.methodLink "java/lang/AbstractStringBuilder" (208 : Nat) ({ cls := "java/lang/AbstractStringBuilder", name := "putStringAt", desc := "(ILjava/lang/String;)V" } : MethodName)) ∈ AW := AW_m3 118 rfl rfl
theorem at_613 : (Cond.privateMethod ({ cls := "java/lang/AbstractStringBuilder", name := "putStringAt", desc := "(ILjava/lang/String;)V" } : MethodName)) ∈ lw_tbl := List.mem_append_right _ (List.mem_append_right _ (List.mem_append_right _ (List.mem_append_left _ (List.mem_of_getElem? (l := tables_1_3) (i := 119) rfl))))
theorem aw_614 : (Cond.instanceMethod ({ cls := "java/lang/AbstractStringBuilder", name := "putStringAt", desc := "(ILjava/lang/String;)V" } : MethodName)) ∈ AW := AW_m3 120 rfl rfl
theorem aw_615 : (Cond.code ({ cls := "java/lang/AbstractStringBuilder", name := "putStringAt", desc := "(ILjava/lang/String;)V" } : MethodName) prog_16_method_73_code (3 : Nat) (Option.none : Option FieldType)) ∈ AW := AW_m3 121 rfl rfl
theorem aw_616 : (Cond.methodLink "java/lang/AbstractStringBuilder" (397 : Nat) ({ cls := "java/lang/AbstractStringBuilder", name := "inflateIfNeededFor", desc := "(Ljava/lang/String;)V" } : MethodName)) ∈ AW := AW_m3 122 rfl rfl
theorem at_617 : (Cond.privateMethod ({ cls := "java/lang/AbstractStringBuilder", name := "inflateIfNeededFor", desc := "(Ljava/lang/String;)V" } : MethodName)) ∈ lw_tbl := List.mem_append_right _ (List.mem_append_right _ (List.mem_append_right _ (List.mem_append_left _ (List.mem_of_getElem? (l := tables_1_3) (i := 123) rfl))))
theorem aw_618 : (Cond.instanceMethod ({ cls := "java/lang/AbstractStringBuilder", name := "inflateIfNeededFor", desc := "(Ljava/lang/String;)V" } : MethodName)) ∈ AW := AW_m3 124 rfl rfl
theorem aw_619 : (Cond.code ({ cls := "java/lang/AbstractStringBuilder", name := "inflateIfNeededFor", desc := "(Ljava/lang/String;)V" } : MethodName) prog_16_method_71_code (2 : Nat) (Option.none : Option FieldType)) ∈ AW := AW_m3 125 rfl rfl
theorem aw_620 : (Cond.methodLink "java/lang/AbstractStringBuilder" (40 : Nat) ({ cls := "java/lang/String", name := "coder", desc := "()B" } : MethodName)) ∈ AW := AW_m3 126 rfl rfl
theorem aw_621 : (Cond.methodLink "java/lang/AbstractStringBuilder" (195 : Nat) ({ cls := "java/lang/AbstractStringBuilder", name := "inflate", desc := "()V" } : MethodName)) ∈ AW := AW_m3 127 rfl rfl
theorem at_622 : (Cond.privateMethod ({ cls := "java/lang/AbstractStringBuilder", name := "inflate", desc := "()V" } : MethodName)) ∈ lw_tbl := List.mem_append_right _ (List.mem_append_right _ (List.mem_append_right _ (List.mem_append_left _ (List.mem_of_getElem? (l := tables_1_3) (i := 128) rfl))))
theorem aw_623 : (Cond.instanceMethod ({ cls := "java/lang/AbstractStringBuilder", name := "inflate", desc := "()V" } : MethodName)) ∈ AW := AW_m3 129 rfl rfl
theorem aw_624 : (Cond.code ({ cls := "java/lang/AbstractStringBuilder", name := "inflate", desc := "()V" } : MethodName) prog_16_method_11_code (2 : Nat) (Option.none : Option FieldType)) ∈ AW := AW_m3 130 rfl rfl
theorem aw_625 : (Cond.methodLink "java/lang/AbstractStringBuilder" (125 : Nat) ({ cls := "java/lang/StringLatin1", name := "inflate", desc := "([BI[BII)V" } : MethodName)) ∈ AW := AW_m3 131 rfl rfl
theorem aw_626 : (Cond.static ({ cls := "java/lang/StringLatin1", name := "inflate", desc := "([BI[BII)V" } : MethodName)) ∈ AW := AW_m3 132 rfl rfl
theorem aw_627 : (Cond.code ({ cls := "java/lang/StringLatin1", name := "inflate", desc := "([BI[BII)V" } : MethodName) prog_23_method_50_code (5 : Nat) (Option.none : Option FieldType)) ∈ AW := AW_m3 133 rfl rfl
theorem aw_628 : (Cond.methodLink "java/lang/StringLatin1" (240 : Nat) ({ cls := "java/lang/StringUTF16", name := "inflate", desc := "([BI[BII)V" } : MethodName)) ∈ AW := AW_m3 134 rfl rfl
theorem aw_629 : (Cond.static ({ cls := "java/lang/StringUTF16", name := "inflate", desc := "([BI[BII)V" } : MethodName)) ∈ AW := AW_m3 135 rfl rfl
theorem aw_630 : (Cond.code ({ cls := "java/lang/StringUTF16", name := "inflate", desc := "([BI[BII)V" } : MethodName) prog_24_method_86_code (6 : Nat) (Option.none : Option FieldType)) ∈ AW := AW_m3 136 rfl rfl
theorem aw_631 : (Cond.methodLink "java/lang/StringUTF16" (173 : Nat) ({ cls := "java/lang/StringUTF16", name := "checkBoundsOffCount", desc := "(II[B)V" } : MethodName)) ∈ AW := AW_m3 137 rfl rfl
theorem aw_632 : (Cond.static ({ cls := "java/lang/StringUTF16", name := "checkBoundsOffCount", desc := "(II[B)V" } : MethodName)) ∈ AW := AW_m3 138 rfl rfl
theorem aw_633 : (Cond.code ({ cls := "java/lang/StringUTF16", name := "checkBoundsOffCount", desc := "(II[B)V" } : MethodName) prog_24_method_94_code (3 : Nat) (Option.none : Option FieldType)) ∈ AW := AW_m3 139 rfl rfl
theorem aw_634 : (Cond.methodLink "java/lang/StringUTF16" (419 : Nat) ({ cls := "java/lang/String", name := "checkBoundsOffCount", desc := "(III)I" } : MethodName)) ∈ AW := AW_m3 140 rfl rfl
theorem aw_635 : (Cond.static ({ cls := "java/lang/String", name := "checkBoundsOffCount", desc := "(III)I" } : MethodName)) ∈ AW := AW_m3 141 rfl rfl
theorem aw_636 : (Cond.code ({ cls := "java/lang/String", name := "checkBoundsOffCount", desc := "(III)I" } : MethodName) prog_21_method_157_code (3 : Nat) (Option.some FieldType.int)) ∈ AW := AW_m3 142 rfl rfl
theorem aw_637 : (Cond.methodLink "java/lang/String" (1065 : Nat) ({ cls := "jdk/internal/util/Preconditions", name := "checkFromIndexSize", desc := "(IIILjava/util/function/BiFunction;)I" } : MethodName)) ∈ AW := AW_m3 143 rfl rfl
theorem aw_638 : (Cond.static ({ cls := "jdk/internal/util/Preconditions", name := "checkFromIndexSize", desc := "(IIILjava/util/function/BiFunction;)I" } : MethodName)) ∈ AW := AW_m3 144 rfl rfl
theorem aw_639 : (Cond.code ({ cls := "jdk/internal/util/Preconditions", name := "checkFromIndexSize", desc := "(IIILjava/util/function/BiFunction;)I" } : MethodName) prog_28_method_13_code (4 : Nat) (Option.some FieldType.int)) ∈ AW := AW_m3 145 rfl rfl
theorem aw_640 : (Cond.methodLink "java/lang/AbstractStringBuilder" (399 : Nat) ({ cls := "java/lang/String", name := "getBytes", desc := "([BIB)V" } : MethodName)) ∈ AW := AW_m3 146 rfl rfl
theorem aw_641 : (Cond.instanceMethod ({ cls := "java/lang/String", name := "getBytes", desc := "([BIB)V" } : MethodName)) ∈ AW := AW_m3 147 rfl rfl
theorem aw_642 : (Cond.selects "java/lang/String" ({ cls := "java/lang/String", name := "getBytes", desc := "([BIB)V" } : MethodName) ({ cls := "java/lang/String", name := "getBytes", desc := "([BIB)V" } : MethodName)) ∈ AW := AW_m3 148 rfl rfl
theorem aw_643 : (Cond.code ({ cls := "java/lang/String", name := "getBytes", desc := "([BIB)V" } : MethodName) prog_21_method_147_code (4 : Nat) (Option.none : Option FieldType)) ∈ AW := AW_m3 149 rfl rfl
theorem aw_644 : (Cond.methodLink "java/lang/String" (212 : Nat) ({ cls := "java/lang/System", name := "arraycopy", desc := "(Ljava/lang/Object;ILjava/lang/Object;II)V" } : MethodName)) ∈ AW := AW_m3 150 rfl rfl
theorem aw_645 : (Cond.methodLink "java/lang/String" (106 : Nat) ({ cls := "java/lang/StringLatin1", name := "inflate", desc := "([BI[BII)V" } : MethodName)) ∈ AW := AW_m3 151 rfl rfl
theorem aw_646 : (Cond.methodLink "KilnKeeperLaw" (98 : Nat) ({ cls := "java/lang/StringBuilder", name := "append", desc := "(I)Ljava/lang/StringBuilder;" } : MethodName)) ∈ AW := AW_m3 152 rfl rfl
theorem aw_647 : (Cond.instanceMethod ({ cls := "java/lang/StringBuilder", name := "append", desc := "(I)Ljava/lang/StringBuilder;" } : MethodName)) ∈ AW := AW_m3 153 rfl rfl
theorem aw_648 : (Cond.selects "java/lang/StringBuilder" ({ cls := "java/lang/StringBuilder", name := "append", desc := "(I)Ljava/lang/StringBuilder;" } : MethodName) ({ cls := "java/lang/StringBuilder", name := "append", desc := "(I)Ljava/lang/StringBuilder;" } : MethodName)) ∈ AW := AW_m3 154 rfl rfl
theorem aw_649 : (Cond.code ({ cls := "java/lang/StringBuilder", name := "append", desc := "(I)Ljava/lang/StringBuilder;" } : MethodName) prog_22_method_15_code (2 : Nat) (Option.some (FieldType.object "java/lang/StringBuilder"))) ∈ AW := AW_m3 155 rfl rfl
theorem aw_650 : (Cond.methodLink "java/lang/StringBuilder" (53 : Nat) ({ cls := "java/lang/AbstractStringBuilder", name := "append", desc := "(I)Ljava/lang/AbstractStringBuilder;" } : MethodName)) ∈ AW := AW_m3 156 rfl rfl
theorem aw_651 : (Cond.instanceMethod ({ cls := "java/lang/AbstractStringBuilder", name := "append", desc := "(I)Ljava/lang/AbstractStringBuilder;" } : MethodName)) ∈ AW := AW_m3 157 rfl rfl
theorem aw_652 : (Cond.code ({ cls := "java/lang/AbstractStringBuilder", name := "append", desc := "(I)Ljava/lang/AbstractStringBuilder;" } : MethodName) prog_16_method_32_code (4 : Nat) (Option.some (FieldType.object "java/lang/AbstractStringBuilder"))) ∈ AW := AW_m3 158 rfl rfl
theorem aw_653 : (Cond.methodLink "java/lang/AbstractStringBuilder" (245 : Nat) ({ cls := "java/lang/Integer", name := "stringSize", desc := "(I)I" } : MethodName)) ∈ AW := AW_m3 159 rfl rfl
theorem aw_654 : (Cond.static ({ cls := "java/lang/Integer", name := "stringSize", desc := "(I)I" } : MethodName)) ∈ AW := AW_m3 160 rfl rfl
theorem aw_655 : (Cond.code ({ cls := "java/lang/Integer", name := "stringSize", desc := "(I)I" } : MethodName) prog_19_method_13_code (4 : Nat) (Option.some FieldType.int)) ∈ AW := AW_m3 161 rfl rfl
theorem aw_656 : (Cond.methodLink "java/lang/AbstractStringBuilder" (248 : Nat) ({ cls := "java/lang/Integer", name := "getChars", desc := "(II[B)I" } : MethodName)) ∈ AW := AW_m3 162 rfl rfl
theorem aw_657 : (Cond.static ({ cls := "java/lang/Integer", name := "getChars", desc := "(II[B)I" } : MethodName)) ∈ AW := AW_m3 163 rfl rfl
theorem aw_658 : (Cond.code ({ cls := "java/lang/Integer", name := "getChars", desc := "(II[B)I" } : MethodName) prog_19_method_12_code (7 : Nat) (Option.some FieldType.int)) ∈ AW := AW_m3 164 rfl rfl
theorem aw_659 : (Cond.fieldLink "java/lang/Integer" (83 : Nat) "java/lang/Integer" "DigitOnes" "[B") ∈ AW := AW_m3 165 rfl rfl
theorem at_660 : (Cond.laysStatic "java/lang/Integer" "DigitOnes" "[B") ∈ lw_tbl := List.mem_append_right _ (List.mem_append_right _ (List.mem_append_right _ (List.mem_append_left _ (List.mem_of_getElem? (l := tables_1_3) (i := 166) rfl))))
theorem aw_661 : (Cond.fieldLink "java/lang/Integer" (87 : Nat) "java/lang/Integer" "DigitTens" "[B") ∈ AW := AW_m3 167 rfl rfl
theorem at_662 : (Cond.laysStatic "java/lang/Integer" "DigitTens" "[B") ∈ lw_tbl := List.mem_append_right _ (List.mem_append_right _ (List.mem_append_right _ (List.mem_append_left _ (List.mem_of_getElem? (l := tables_1_3) (i := 168) rfl))))
theorem aw_663 : (Cond.methodLink "java/lang/AbstractStringBuilder" (251 : Nat) ({ cls := "java/lang/StringUTF16", name := "getChars", desc := "(III[B)I" } : MethodName)) ∈ AW := AW_m3 169 rfl rfl
theorem aw_664 : (Cond.static ({ cls := "java/lang/StringUTF16", name := "getChars", desc := "(III[B)I" } : MethodName)) ∈ AW := AW_m3 170 rfl rfl
theorem aw_665 : (Cond.code ({ cls := "java/lang/StringUTF16", name := "getChars", desc := "(III[B)I" } : MethodName) prog_24_method_77_code (5 : Nat) (Option.some FieldType.int)) ∈ AW := AW_m3 171 rfl rfl
theorem aw_666 : (Cond.methodLink "java/lang/StringUTF16" (393 : Nat) ({ cls := "java/lang/StringUTF16", name := "getChars", desc := "(II[B)I" } : MethodName)) ∈ AW := AW_m3 172 rfl rfl
theorem aw_667 : (Cond.static ({ cls := "java/lang/StringUTF16", name := "getChars", desc := "(II[B)I" } : MethodName)) ∈ AW := AW_m3 173 rfl rfl
theorem aw_668 : (Cond.code ({ cls := "java/lang/StringUTF16", name := "getChars", desc := "(II[B)I" } : MethodName) prog_24_method_89_code (7 : Nat) (Option.some FieldType.int)) ∈ AW := AW_m3 174 rfl rfl
theorem aw_669 : (Cond.fieldLink "java/lang/StringUTF16" (403 : Nat) "java/lang/Integer" "DigitOnes" "[B") ∈ AW := AW_m3 175 rfl rfl
theorem aw_670 : (Cond.fieldLink "java/lang/StringUTF16" (407 : Nat) "java/lang/Integer" "DigitTens" "[B") ∈ AW := AW_m3 176 rfl rfl
theorem at_671 : (Cond.stringRef "KilnKeeperLaw" (101 : Nat) ";pot ") ∈ lw_tbl := List.mem_append_right _ (List.mem_append_right _ (List.mem_append_right _ (List.mem_append_left _ (List.mem_of_getElem? (l := tables_1_3) (i := 177) rfl))))
theorem at_672 : (Cond.stringRef "KilnKeeperLaw" (103 : Nat) " ") ∈ lw_tbl := List.mem_append_right _ (List.mem_append_right _ (List.mem_append_right _ (List.mem_append_left _ (List.mem_of_getElem? (l := tables_1_3) (i := 178) rfl))))
theorem at_673 : (Cond.stringRef "KilnKeeperLaw" (105 : Nat) ";put ") ∈ lw_tbl := List.mem_append_right _ (List.mem_append_right _ (List.mem_append_right _ (List.mem_append_left _ (List.mem_of_getElem? (l := tables_1_3) (i := 179) rfl))))
theorem aw_674 : (Cond.methodLink "KilnKeeperLaw" (107 : Nat) ({ cls := "java/lang/StringBuilder", name := "toString", desc := "()Ljava/lang/String;" } : MethodName)) ∈ AW := AW_m3 180 rfl rfl
theorem aw_675 : (Cond.instanceMethod ({ cls := "java/lang/StringBuilder", name := "toString", desc := "()Ljava/lang/String;" } : MethodName)) ∈ AW := AW_m3 181 rfl rfl
theorem aw_676 : (Cond.selects "java/lang/StringBuilder" ({ cls := "java/lang/StringBuilder", name := "toString", desc := "()Ljava/lang/String;" } : MethodName) ({ cls := "java/lang/StringBuilder", name := "toString", desc := "()Ljava/lang/String;" } : MethodName)) ∈ AW := AW_m3 182 rfl rfl
theorem aw_677 : (Cond.code ({ cls := "java/lang/StringBuilder", name := "toString", desc := "()Ljava/lang/String;" } : MethodName) prog_22_method_42_code (1 : Nat) (Option.some (FieldType.object "java/lang/String"))) ∈ AW := AW_m3 183 rfl rfl
theorem aw_678 : (Cond.classLink "java/lang/StringBuilder" (18 : Nat) "java/lang/String") ∈ AW := AW_m3 184 rfl rfl
theorem aw_679 : (Cond.instantiable "java/lang/String" (4 : Nat)) ∈ AW := AW_m3 185 rfl rfl
theorem aw_680 : (Cond.methodLink "java/lang/StringBuilder" (137 : Nat) ({ cls := "java/lang/String", name := "<init>", desc := "(Ljava/lang/StringBuilder;)V" } : MethodName)) ∈ AW := AW_m3 186 rfl rfl
theorem aw_681 : (Cond.instanceMethod ({ cls := "java/lang/String", name := "<init>", desc := "(Ljava/lang/StringBuilder;)V" } : MethodName)) ∈ AW := AW_m3 187 rfl rfl
theorem aw_682 : (Cond.code ({ cls := "java/lang/String", name := "<init>", desc := "(Ljava/lang/StringBuilder;)V" } : MethodName) prog_21_method_53_code (2 : Nat) (Option.none : Option FieldType)) ∈ AW := AW_m3 188 rfl rfl
theorem aw_683 : (Cond.methodLink "java/lang/String" (489 : Nat) ({ cls := "java/lang/String", name := "<init>", desc := "(Ljava/lang/AbstractStringBuilder;Ljava/lang/Void;)V" } : MethodName)) ∈ AW := AW_m3 189 rfl rfl
theorem aw_684 : (Cond.instanceMethod ({ cls := "java/lang/String", name := "<init>", desc := "(Ljava/lang/AbstractStringBuilder;Ljava/lang/Void;)V" } : MethodName)) ∈ AW := AW_m3 190 rfl rfl
theorem aw_685 : (Cond.code ({ cls := "java/lang/String", name := "<init>", desc := "(Ljava/lang/AbstractStringBuilder;Ljava/lang/Void;)V" } : MethodName) prog_21_method_150_code (5 : Nat) (Option.none : Option FieldType)) ∈ AW := AW_m3 191 rfl rfl
theorem aw_686 : (Cond.methodLink "java/lang/String" (1 : Nat) ({ cls := "java/lang/Object", name := "<init>", desc := "()V" } : MethodName)) ∈ AW := AW_m3 192 rfl rfl
theorem aw_687 : (Cond.methodLink "java/lang/String" (552 : Nat) ({ cls := "java/lang/AbstractStringBuilder", name := "getValue", desc := "()[B" } : MethodName)) ∈ AW := AW_m3 193 rfl rfl
theorem aw_688 : (Cond.instanceMethod ({ cls := "java/lang/AbstractStringBuilder", name := "getValue", desc := "()[B" } : MethodName)) ∈ AW := AW_m3 194 rfl rfl
theorem aw_689 : (Cond.sameMethod "java/lang/AbstractStringBuilder" "java/lang/AbstractStringBuilder" "getValue" "()[B") ∈ AW := AW_m3 195 rfl rfl
theorem aw_690 : (Cond.selects "java/lang/StringBuilder" ({ cls := "java/lang/AbstractStringBuilder", name := "getValue", desc := "()[B" } : MethodName) ({ cls := "java/lang/AbstractStringBuilder", name := "getValue", desc := "()[B" } : MethodName)) ∈ AW := AW_m3 196 rfl rfl
theorem aw_691 : (Cond.code ({ cls := "java/lang/AbstractStringBuilder", name := "getValue", desc := "()[B" } : MethodName) prog_16_method_64_code (1 : Nat) (Option.some (FieldType.array FieldType.byte))) ∈ AW := AW_m3 197 rfl rfl
theorem aw_692 : (Cond.methodLink "java/lang/String" (549 : Nat) ({ cls := "java/lang/AbstractStringBuilder", name := "length", desc := "()I" } : MethodName)) ∈ AW := AW_m3 198 rfl rfl
theorem aw_693 : (Cond.methodLink "java/lang/String" (1047 : Nat) ({ cls := "java/lang/AbstractStringBuilder", name := "isLatin1", desc := "()Z" } : MethodName)) ∈ AW := AW_m3 199 rfl rfl
theorem aw_694 : (Cond.methodLink "java/lang/String" (54 : Nat) ({ cls := "java/util/Arrays", name := "copyOfRange", desc := "([BII)[B" } : MethodName)) ∈ AW := AW_m3 200 rfl rfl
theorem aw_695 : (Cond.static ({ cls := "java/util/Arrays", name := "copyOfRange", desc := "([BII)[B" } : MethodName)) ∈ AW := AW_m3 201 rfl rfl
theorem aw_696 : (Cond.code ({ cls := "java/util/Arrays", name := "copyOfRange", desc := "([BII)[B" } : MethodName) prog_26_method_132_code (3 : Nat) (Option.some (FieldType.array FieldType.byte))) ∈ AW := AW_m3 202 rfl rfl
theorem aw_697 : (Cond.methodLink "java/util/Arrays" (339 : Nat) ({ cls := "java/util/Arrays", name := "copyOfRangeByte", desc := "([BII)[B" } : MethodName)) ∈ AW := AW_m3 203 rfl rfl
theorem aw_698 : (Cond.static ({ cls := "java/util/Arrays", name := "copyOfRangeByte", desc := "([BII)[B" } : MethodName)) ∈ AW := AW_m3 204 rfl rfl
theorem aw_699 : (Cond.code ({ cls := "java/util/Arrays", name := "copyOfRangeByte", desc := "([BII)[B" } : MethodName) prog_26_method_133_code (5 : Nat) (Option.some (FieldType.array FieldType.byte))) ∈ AW := AW_m3 205 rfl rfl
theorem aw_700 : (Cond.methodLink "java/util/Arrays" (343 : Nat) ({ cls := "java/util/Arrays", name := "checkLength", desc := "(II)V" } : MethodName)) ∈ AW := AW_m3 206 rfl rfl
theorem aw_701 : (Cond.static ({ cls := "java/util/Arrays", name := "checkLength", desc := "(II)V" } : MethodName)) ∈ AW := AW_m3 207 rfl rfl
theorem aw_702 : (Cond.code ({ cls := "java/util/Arrays", name := "checkLength", desc := "(II)V" } : MethodName) prog_26_method_131_code (2 : Nat) (Option.none : Option FieldType)) ∈ AW := AW_m3 208 rfl rfl
theorem aw_703 : (Cond.methodLink "java/lang/String" (1051 : Nat) ({ cls := "java/lang/StringUTF16", name := "compress", desc := "([BII)[B" } : MethodName)) ∈ AW := AW_m3 209 rfl rfl
theorem aw_704 : (Cond.static ({ cls := "java/lang/StringUTF16", name := "compress", desc := "([BII)[B" } : MethodName)) ∈ AW := AW_m3 210 rfl rfl
theorem aw_705 : (Cond.code ({ cls := "java/lang/StringUTF16", name := "compress", desc := "([BII)[B" } : MethodName) prog_24_method_17_code (6 : Nat) (Option.some (FieldType.array FieldType.byte))) ∈ AW := AW_m3 211 rfl rfl
theorem aw_706 : (Cond.methodLink "java/lang/StringUTF16" (123 : Nat) ({ cls := "java/lang/StringUTF16", name := "compress", desc := "([BI[BII)I" } : MethodName)) ∈ AW := AW_m3 212 rfl rfl
theorem aw_707 : (Cond.static ({ cls := "java/lang/StringUTF16", name := "compress", desc := "([BI[BII)I" } : MethodName)) ∈ AW := AW_m3 213 rfl rfl
theorem aw_708 : (Cond.code ({ cls := "java/lang/StringUTF16", name := "compress", desc := "([BI[BII)I" } : MethodName) prog_24_method_22_code (7 : Nat) (Option.some FieldType.int)) ∈ AW := AW_m3 214 rfl rfl
theorem aw_709 : (Cond.methodLink "java/lang/StringUTF16" (71 : Nat) ({ cls := "java/lang/StringUTF16", name := "getChar", desc := "([BI)C" } : MethodName)) ∈ AW := AW_m3 215 rfl rfl
theorem aw_710 : (Cond.static ({ cls := "java/lang/StringUTF16", name := "getChar", desc := "([BI)C" } : MethodName)) ∈ AW := AW_m3 216 rfl rfl
theorem aw_711 : (Cond.code ({ cls := "java/lang/StringUTF16", name := "getChar", desc := "([BI)C" } : MethodName) prog_24_method_5_code (2 : Nat) (Option.some FieldType.char)) ∈ AW := AW_m3 217 rfl rfl
theorem aw_712 : (Cond.methodLink "java/lang/StringUTF16" (126 : Nat) ({ cls := "java/util/Arrays", name := "copyOfRange", desc := "([BII)[B" } : MethodName)) ∈ AW := AW_m3 218 rfl rfl
theorem aw_713 : (Cond.methodLink "java/lang/String" (47 : Nat) ({ cls := "java/lang/StringUTF16", name := "coderFromArrayLen", desc := "([BI)B" } : MethodName)) ∈ AW := AW_m3 219 rfl rfl
theorem aw_714 : (Cond.static ({ cls := "java/lang/StringUTF16", name := "coderFromArrayLen", desc := "([BI)B" } : MethodName)) ∈ AW := AW_m3 220 rfl rfl
theorem aw_715 : (Cond.code ({ cls := "java/lang/StringUTF16", name := "coderFromArrayLen", desc := "([BI)B" } : MethodName) prog_24_method_15_code (2 : Nat) (Option.some FieldType.byte)) ∈ AW := AW_m3 221 rfl rfl
theorem aw_716 : (Cond.fieldLink "java/lang/String" (9 : Nat) "java/lang/String" "value" "[B") ∈ AW := AW_m3 222 rfl rfl
theorem aw_717 : (Cond.fieldLink "java/lang/String" (15 : Nat) "java/lang/String" "coder" "B") ∈ AW := AW_m3 223 rfl rfl
theorem aw_718 : (Cond.laysFinal "java/lang/String" "java/lang/String" "value" "[B") ∈ AW := AW_m3 224 rfl rfl
theorem aw_719 : (Cond.soleField "java/lang/String" "value") ∈ AW := AW_m3 225 rfl rfl
theorem aw_720 : (Cond.laysFinal "java/lang/String" "java/lang/String" "coder" "B") ∈ AW := AW_m3 226 rfl rfl
theorem aw_721 : (Cond.soleField "java/lang/String" "coder") ∈ AW := AW_m3 227 rfl rfl
theorem aw_722 : (Cond.lays "java/lang/String" "java/lang/String" "hash" "I") ∈ AW := AW_m3 228 rfl rfl
theorem aw_723 : (Cond.soleField "java/lang/String" "hash") ∈ AW := AW_m3 229 rfl rfl
theorem aw_724 : (Cond.lays "java/lang/String" "java/lang/String" "hashIsZero" "Z") ∈ AW := AW_m3 230 rfl rfl
theorem aw_725 : (Cond.soleField "java/lang/String" "hashIsZero") ∈ AW := AW_m3 231 rfl rfl
theorem aw_726 : (Cond.superclass "java/lang/String" "java/lang/Object") ∈ AW := AW_m3 232 rfl rfl
theorem at_727 : (Cond.stringRef "KilnKeeperLaw" (111 : Nat) ";lag ") ∈ lw_tbl := List.mem_append_right _ (List.mem_append_right _ (List.mem_append_right _ (List.mem_append_left _ (List.mem_of_getElem? (l := tables_1_3) (i := 233) rfl))))
theorem at_728 : (Cond.stringRef "KilnKeeperLaw" (113 : Nat) ";") ∈ lw_tbl := List.mem_append_right _ (List.mem_append_right _ (List.mem_append_right _ (List.mem_append_left _ (List.mem_of_getElem? (l := tables_1_3) (i := 234) rfl))))
theorem aw_729 : (Cond.methodLink "KilnKeeperLaw" (115 : Nat) ({ cls := "KilnKeeperLaw", name := "runs", desc := "(LKilnKeeper;Ljava/lang/String;)I" } : MethodName)) ∈ AW := AW_m3 235 rfl rfl
theorem aw_730 : (Cond.static ({ cls := "KilnKeeperLaw", name := "runs", desc := "(LKilnKeeper;Ljava/lang/String;)I" } : MethodName)) ∈ AW := AW_m3 236 rfl rfl
theorem aw_731 : (Cond.code ({ cls := "KilnKeeperLaw", name := "runs", desc := "(LKilnKeeper;Ljava/lang/String;)I" } : MethodName) method_4_code (4 : Nat) (Option.some FieldType.int)) ∈ AW := AW_m3 237 rfl rfl
theorem aw_732 : (Cond.methodLink "KilnKeeperLaw" (14 : Nat) ({ cls := "java/lang/String", name := "length", desc := "()I" } : MethodName)) ∈ AW := AW_m3 238 rfl rfl
theorem aw_733 : (Cond.methodLink "KilnKeeperLaw" (20 : Nat) ({ cls := "java/lang/String", name := "charAt", desc := "(I)C" } : MethodName)) ∈ AW := AW_m3 239 rfl rfl
theorem aw_734 : (Cond.instanceMethod ({ cls := "java/lang/String", name := "charAt", desc := "(I)C" } : MethodName)) ∈ AW := AW_m4 0 rfl rfl
theorem aw_735 : (Cond.selects "java/lang/String" ({ cls := "java/lang/String", name := "charAt", desc := "(I)C" } : MethodName) ({ cls := "java/lang/String", name := "charAt", desc := "(I)C" } : MethodName)) ∈ AW := AW_m4 1 rfl rfl
theorem aw_736 : (Cond.code ({ cls := "java/lang/String", name := "charAt", desc := "(I)C" } : MethodName) prog_21_method_56_code (2 : Nat) (Option.some FieldType.char)) ∈ AW := AW_m4 2 rfl rfl
theorem aw_737 : (Cond.methodLink "java/lang/String" (492 : Nat) ({ cls := "java/lang/String", name := "isLatin1", desc := "()Z" } : MethodName)) ∈ AW := AW_m4 3 rfl rfl
theorem aw_738 : (Cond.instanceMethod ({ cls := "java/lang/String", name := "isLatin1", desc := "()Z" } : MethodName)) ∈ AW := AW_m4 4 rfl rfl
theorem aw_739 : (Cond.selects "java/lang/String" ({ cls := "java/lang/String", name := "isLatin1", desc := "()Z" } : MethodName) ({ cls := "java/lang/String", name := "isLatin1", desc := "()Z" } : MethodName)) ∈ AW := AW_m4 5 rfl rfl
theorem aw_740 : (Cond.code ({ cls := "java/lang/String", name := "isLatin1", desc := "()Z" } : MethodName) prog_21_method_154_code (1 : Nat) (Option.some FieldType.boolean)) ∈ AW := AW_m4 6 rfl rfl
theorem aw_741 : (Cond.methodLink "java/lang/String" (495 : Nat) ({ cls := "java/lang/StringLatin1", name := "charAt", desc := "([BI)C" } : MethodName)) ∈ AW := AW_m4 7 rfl rfl
theorem aw_742 : (Cond.static ({ cls := "java/lang/StringLatin1", name := "charAt", desc := "([BI)C" } : MethodName)) ∈ AW := AW_m4 8 rfl rfl
theorem aw_743 : (Cond.code ({ cls := "java/lang/StringLatin1", name := "charAt", desc := "([BI)C" } : MethodName) prog_23_method_2_code (2 : Nat) (Option.some FieldType.char)) ∈ AW := AW_m4 9 rfl rfl
theorem aw_744 : (Cond.methodLink "java/lang/StringLatin1" (9 : Nat) ({ cls := "java/lang/String", name := "checkIndex", desc := "(II)V" } : MethodName)) ∈ AW := AW_m4 10 rfl rfl
theorem aw_745 : (Cond.static ({ cls := "java/lang/String", name := "checkIndex", desc := "(II)V" } : MethodName)) ∈ AW := AW_m4 11 rfl rfl
theorem aw_746 : (Cond.code ({ cls := "java/lang/String", name := "checkIndex", desc := "(II)V" } : MethodName) prog_21_method_155_code (2 : Nat) (Option.none : Option FieldType)) ∈ AW := AW_m4 12 rfl rfl
theorem aw_747 : (Cond.methodLink "java/lang/String" (1059 : Nat) ({ cls := "jdk/internal/util/Preconditions", name := "checkIndex", desc := "(IILjava/util/function/BiFunction;)I" } : MethodName)) ∈ AW := AW_m4 13 rfl rfl
theorem aw_748 : (Cond.static ({ cls := "jdk/internal/util/Preconditions", name := "checkIndex", desc := "(IILjava/util/function/BiFunction;)I" } : MethodName)) ∈ AW := AW_m4 14 rfl rfl
theorem aw_749 : (Cond.code ({ cls := "jdk/internal/util/Preconditions", name := "checkIndex", desc := "(IILjava/util/function/BiFunction;)I" } : MethodName) prog_28_method_11_code (3 : Nat) (Option.some FieldType.int)) ∈ AW := AW_m4 15 rfl rfl
theorem aw_750 : (Cond.methodLink "java/lang/String" (498 : Nat) ({ cls := "java/lang/StringUTF16", name := "charAt", desc := "([BI)C" } : MethodName)) ∈ AW := AW_m4 16 rfl rfl
theorem aw_751 : (Cond.static ({ cls := "java/lang/StringUTF16", name := "charAt", desc := "([BI)C" } : MethodName)) ∈ AW := AW_m4 17 rfl rfl
theorem aw_752 : (Cond.code ({ cls := "java/lang/StringUTF16", name := "charAt", desc := "([BI)C" } : MethodName) prog_24_method_83_code (2 : Nat) (Option.some FieldType.char)) ∈ AW := AW_m4 18 rfl rfl
theorem aw_753 : (Cond.methodLink "java/lang/StringUTF16" (67 : Nat) ({ cls := "java/lang/StringUTF16", name := "checkIndex", desc := "(I[B)V" } : MethodName)) ∈ AW := AW_m4 19 rfl rfl
theorem aw_754 : (Cond.static ({ cls := "java/lang/StringUTF16", name := "checkIndex", desc := "(I[B)V" } : MethodName)) ∈ AW := AW_m4 20 rfl rfl
theorem aw_755 : (Cond.code ({ cls := "java/lang/StringUTF16", name := "checkIndex", desc := "(I[B)V" } : MethodName) prog_24_method_91_code (2 : Nat) (Option.none : Option FieldType)) ∈ AW := AW_m4 21 rfl rfl
theorem aw_756 : (Cond.methodLink "java/lang/StringUTF16" (414 : Nat) ({ cls := "java/lang/String", name := "checkIndex", desc := "(II)V" } : MethodName)) ∈ AW := AW_m4 22 rfl rfl
theorem aw_757 : (Cond.methodLink "KilnKeeperLaw" (24 : Nat) ({ cls := "KilnKeeper", name := "append", desc := "(I)I" } : MethodName)) ∈ AW := AW_m4 23 rfl rfl
theorem aw_758 : (Cond.instanceMethod ({ cls := "KilnKeeper", name := "append", desc := "(I)I" } : MethodName)) ∈ AW := AW_m4 24 rfl rfl
theorem aw_759 : (Cond.selects "KilnKeeper" ({ cls := "KilnKeeper", name := "append", desc := "(I)I" } : MethodName) ({ cls := "KilnKeeper", name := "append", desc := "(I)I" } : MethodName)) ∈ AW := AW_m4 25 rfl rfl
theorem aw_760 : (Cond.code ({ cls := "KilnKeeper", name := "append", desc := "(I)I" } : MethodName) prog_1_method_23_code (2 : Nat) (Option.some FieldType.int)) ∈ AW := AW_m4 26 rfl rfl
theorem aw_761 : (Cond.methodLink "KilnKeeper" (174 : Nat) ({ cls := "KilnKeeper$Reader", name := "addCode", desc := "(I)I" } : MethodName)) ∈ AW := AW_m4 27 rfl rfl
theorem aw_762 : (Cond.instanceMethod ({ cls := "KilnKeeper$Reader", name := "addCode", desc := "(I)I" } : MethodName)) ∈ AW := AW_m4 28 rfl rfl
theorem aw_763 : (Cond.selects "KilnKeeper$Reader" ({ cls := "KilnKeeper$Reader", name := "addCode", desc := "(I)I" } : MethodName) ({ cls := "KilnKeeper$Reader", name := "addCode", desc := "(I)I" } : MethodName)) ∈ AW := AW_m4 29 rfl rfl
theorem aw_764 : (Cond.code ({ cls := "KilnKeeper$Reader", name := "addCode", desc := "(I)I" } : MethodName) prog_10_method_4_code (2 : Nat) (Option.some FieldType.int)) ∈ AW := AW_m4 30 rfl rfl
theorem at_765 : (Cond.methodLinkNest "KilnKeeper$Reader" (33 : Nat) ({ cls := "KilnKeeper", name := "isFrom", desc := "(III)Z" } : MethodName) "KilnKeeper") ∈ lw_tbl := List.mem_append_right _ (List.mem_append_right _ (List.mem_append_right _ (List.mem_append_right _ (List.mem_append_left _ (List.mem_of_getElem? (l := tables_1_4) (i := 31) rfl)))))
theorem aw_766 : (Cond.methodLink "KilnKeeper$Reader" (37 : Nat) ({ cls := "java/lang/StringBuilder", name := "append", desc := "(C)Ljava/lang/StringBuilder;" } : MethodName)) ∈ AW := AW_m4 32 rfl rfl
theorem aw_767 : (Cond.instanceMethod ({ cls := "java/lang/StringBuilder", name := "append", desc := "(C)Ljava/lang/StringBuilder;" } : MethodName)) ∈ AW := AW_m4 33 rfl rfl
theorem aw_768 : (Cond.selects "java/lang/StringBuilder" ({ cls := "java/lang/StringBuilder", name := "append", desc := "(C)Ljava/lang/StringBuilder;" } : MethodName) ({ cls := "java/lang/StringBuilder", name := "append", desc := "(C)Ljava/lang/StringBuilder;" } : MethodName)) ∈ AW := AW_m4 34 rfl rfl
theorem aw_769 : (Cond.code ({ cls := "java/lang/StringBuilder", name := "append", desc := "(C)Ljava/lang/StringBuilder;" } : MethodName) prog_22_method_14_code (2 : Nat) (Option.some (FieldType.object "java/lang/StringBuilder"))) ∈ AW := AW_m4 35 rfl rfl
theorem aw_770 : (Cond.methodLink "java/lang/StringBuilder" (50 : Nat) ({ cls := "java/lang/AbstractStringBuilder", name := "append", desc := "(C)Ljava/lang/AbstractStringBuilder;" } : MethodName)) ∈ AW := AW_m4 36 rfl rfl
theorem aw_771 : (Cond.instanceMethod ({ cls := "java/lang/AbstractStringBuilder", name := "append", desc := "(C)Ljava/lang/AbstractStringBuilder;" } : MethodName)) ∈ AW := AW_m4 37 rfl rfl
theorem aw_772 : (Cond.code ({ cls := "java/lang/AbstractStringBuilder", name := "append", desc := "(C)Ljava/lang/AbstractStringBuilder;" } : MethodName) prog_16_method_31_code (2 : Nat) (Option.some (FieldType.object "java/lang/AbstractStringBuilder"))) ∈ AW := AW_m4 38 rfl rfl
theorem aw_773 : (Cond.methodLink "java/lang/AbstractStringBuilder" (191 : Nat) ({ cls := "java/lang/StringLatin1", name := "canEncode", desc := "(C)Z" } : MethodName)) ∈ AW := AW_m4 39 rfl rfl
theorem aw_774 : (Cond.static ({ cls := "java/lang/StringLatin1", name := "canEncode", desc := "(C)Z" } : MethodName)) ∈ AW := AW_m4 40 rfl rfl
theorem aw_775 : (Cond.code ({ cls := "java/lang/StringLatin1", name := "canEncode", desc := "(C)Z" } : MethodName) prog_23_method_3_code (1 : Nat) (Option.some FieldType.boolean)) ∈ AW := AW_m4 41 rfl rfl
theorem aw_776 : (Cond.methodLink "java/lang/AbstractStringBuilder" (197 : Nat) ({ cls := "java/lang/StringUTF16", name := "putCharSB", desc := "([BII)V" } : MethodName)) ∈ AW := AW_m4 42 rfl rfl
theorem aw_777 : (Cond.static ({ cls := "java/lang/StringUTF16", name := "putCharSB", desc := "([BII)V" } : MethodName)) ∈ AW := AW_m4 43 rfl rfl
theorem aw_778 : (Cond.code ({ cls := "java/lang/StringUTF16", name := "putCharSB", desc := "([BII)V" } : MethodName) prog_24_method_71_code (3 : Nat) (Option.none : Option FieldType)) ∈ AW := AW_m4 44 rfl rfl
theorem aw_779 : (Cond.methodLink "KilnKeeperLaw" (30 : Nat) ({ cls := "KilnKeeper", name := "run", desc := "()I" } : MethodName)) ∈ AW := AW_m4 45 rfl rfl
theorem aw_780 : (Cond.instanceMethod ({ cls := "KilnKeeper", name := "run", desc := "()I" } : MethodName)) ∈ AW := AW_m4 46 rfl rfl
theorem aw_781 : (Cond.selects "KilnKeeper" ({ cls := "KilnKeeper", name := "run", desc := "()I" } : MethodName) ({ cls := "KilnKeeper", name := "run", desc := "()I" } : MethodName)) ∈ AW := AW_m4 47 rfl rfl
theorem aw_782 : (Cond.code ({ cls := "KilnKeeper", name := "run", desc := "()I" } : MethodName) prog_1_method_24_code (3 : Nat) (Option.some FieldType.int)) ∈ AW := AW_m4 48 rfl rfl
theorem aw_783 : (Cond.methodLink "KilnKeeper" (177 : Nat) ({ cls := "KilnKeeper$Reader", name := "read", desc := "()I" } : MethodName)) ∈ AW := AW_m4 49 rfl rfl
theorem aw_784 : (Cond.instanceMethod ({ cls := "KilnKeeper$Reader", name := "read", desc := "()I" } : MethodName)) ∈ AW := AW_m4 50 rfl rfl
theorem aw_785 : (Cond.selects "KilnKeeper$Reader" ({ cls := "KilnKeeper$Reader", name := "read", desc := "()I" } : MethodName) ({ cls := "KilnKeeper$Reader", name := "read", desc := "()I" } : MethodName)) ∈ AW := AW_m4 51 rfl rfl
theorem aw_786 : (Cond.code ({ cls := "KilnKeeper$Reader", name := "read", desc := "()I" } : MethodName) prog_10_method_6_code (4 : Nat) (Option.some FieldType.int)) ∈ AW := AW_m4 52 rfl rfl
theorem aw_787 : (Cond.methodLink "KilnKeeper$Reader" (41 : Nat) ({ cls := "KilnKeeper$Reader", name := "orderAt", desc := "(I)LKilnKeeper$Order;" } : MethodName)) ∈ AW := AW_m4 53 rfl rfl
theorem aw_788 : (Cond.instanceMethod ({ cls := "KilnKeeper$Reader", name := "orderAt", desc := "(I)LKilnKeeper$Order;" } : MethodName)) ∈ AW := AW_m4 54 rfl rfl
theorem aw_789 : (Cond.selects "KilnKeeper$Reader" ({ cls := "KilnKeeper$Reader", name := "orderAt", desc := "(I)LKilnKeeper$Order;" } : MethodName) ({ cls := "KilnKeeper$Reader", name := "orderAt", desc := "(I)LKilnKeeper$Order;" } : MethodName)) ∈ AW := AW_m4 55 rfl rfl
theorem aw_790 : (Cond.code ({ cls := "KilnKeeper$Reader", name := "orderAt", desc := "(I)LKilnKeeper$Order;" } : MethodName) prog_10_method_5_code (2 : Nat) (Option.some (FieldType.object "KilnKeeper$Order"))) ∈ AW := AW_m4 56 rfl rfl
theorem aw_791 : (Cond.methodLink "KilnKeeper$Reader" (45 : Nat) ({ cls := "KilnKeeper$Reader", name := "readOrder", desc := "(ILKilnKeeper$Order;)I" } : MethodName)) ∈ AW := AW_m4 57 rfl rfl
theorem at_792 : (Cond.privateMethod ({ cls := "KilnKeeper$Reader", name := "readOrder", desc := "(ILKilnKeeper$Order;)I" } : MethodName)) ∈ lw_tbl := List.mem_append_right _ (List.mem_append_right _ (List.mem_append_right _ (List.mem_append_right _ (List.mem_append_left _ (List.mem_of_getElem? (l := tables_1_4) (i := 58) rfl)))))
theorem aw_793 : (Cond.instanceMethod ({ cls := "KilnKeeper$Reader", name := "readOrder", desc := "(ILKilnKeeper$Order;)I" } : MethodName)) ∈ AW := AW_m4 59 rfl rfl
theorem aw_794 : (Cond.code ({ cls := "KilnKeeper$Reader", name := "readOrder", desc := "(ILKilnKeeper$Order;)I" } : MethodName) prog_10_method_7_code (9 : Nat) (Option.some FieldType.int)) ∈ AW := AW_m4 60 rfl rfl
theorem at_795 : (Cond.fieldLinkNest "KilnKeeper$Reader" (57 : Nat) "KilnKeeper" "WORDS" "[LKilnKeeper$Word;" "KilnKeeper") ∈ lw_tbl := List.mem_append_right _ (List.mem_append_right _ (List.mem_append_right _ (List.mem_append_right _ (List.mem_append_left _ (List.mem_of_getElem? (l := tables_1_4) (i := 61) rfl)))))
theorem at_796 : (Cond.laysStatic "KilnKeeper" "WORDS" "[LKilnKeeper$Word;") ∈ lw_tbl := List.mem_append_right _ (List.mem_append_right _ (List.mem_append_right _ (List.mem_append_right _ (List.mem_append_left _ (List.mem_of_getElem? (l := tables_1_4) (i := 62) rfl)))))
theorem aw_797 : (Cond.methodLink "KilnKeeper$Reader" (61 : Nat) ({ cls := "KilnKeeper$Reader", name := "readForm", desc := "(LKilnKeeper$Word;ILKilnKeeper$Order;)I" } : MethodName)) ∈ AW := AW_m4 63 rfl rfl
theorem at_798 : (Cond.privateMethod ({ cls := "KilnKeeper$Reader", name := "readForm", desc := "(LKilnKeeper$Word;ILKilnKeeper$Order;)I" } : MethodName)) ∈ lw_tbl := List.mem_append_right _ (List.mem_append_right _ (List.mem_append_right _ (List.mem_append_right _ (List.mem_append_left _ (List.mem_of_getElem? (l := tables_1_4) (i := 64) rfl)))))
theorem aw_799 : (Cond.instanceMethod ({ cls := "KilnKeeper$Reader", name := "readForm", desc := "(LKilnKeeper$Word;ILKilnKeeper$Order;)I" } : MethodName)) ∈ AW := AW_m4 65 rfl rfl
theorem aw_800 : (Cond.code ({ cls := "KilnKeeper$Reader", name := "readForm", desc := "(LKilnKeeper$Word;ILKilnKeeper$Order;)I" } : MethodName) prog_10_method_8_code (9 : Nat) (Option.some FieldType.int)) ∈ AW := AW_m4 66 rfl rfl
theorem aw_801 : (Cond.methodLink "KilnKeeper$Reader" (71 : Nat) ({ cls := "KilnKeeper$Reader", name := "faultAt", desc := "(I)I" } : MethodName)) ∈ AW := AW_m4 67 rfl rfl
theorem aw_802 : (Cond.static ({ cls := "KilnKeeper$Reader", name := "faultAt", desc := "(I)I" } : MethodName)) ∈ AW := AW_m4 68 rfl rfl
theorem aw_803 : (Cond.code ({ cls := "KilnKeeper$Reader", name := "faultAt", desc := "(I)I" } : MethodName) prog_10_method_13_code (1 : Nat) (Option.some FieldType.int)) ∈ AW := AW_m4 69 rfl rfl
theorem aw_804 : (Cond.methodLink "KilnKeeper$Reader" (84 : Nat) ({ cls := "java/lang/String", name := "length", desc := "()I" } : MethodName)) ∈ AW := AW_m4 70 rfl rfl
theorem aw_805 : (Cond.methodLink "KilnKeeper$Reader" (87 : Nat) ({ cls := "java/lang/String", name := "charAt", desc := "(I)C" } : MethodName)) ∈ AW := AW_m4 71 rfl rfl
theorem aw_806 : (Cond.methodLink "KilnKeeper$Reader" (91 : Nat) ({ cls := "KilnKeeper$Reader", name := "endOfDigits", desc := "(II)I" } : MethodName)) ∈ AW := AW_m4 72 rfl rfl
theorem at_807 : (Cond.privateMethod ({ cls := "KilnKeeper$Reader", name := "endOfDigits", desc := "(II)I" } : MethodName)) ∈ lw_tbl := List.mem_append_right _ (List.mem_append_right _ (List.mem_append_right _ (List.mem_append_right _ (List.mem_append_left _ (List.mem_of_getElem? (l := tables_1_4) (i := 73) rfl)))))
theorem aw_808 : (Cond.instanceMethod ({ cls := "KilnKeeper$Reader", name := "endOfDigits", desc := "(II)I" } : MethodName)) ∈ AW := AW_m4 74 rfl rfl
theorem aw_809 : (Cond.code ({ cls := "KilnKeeper$Reader", name := "endOfDigits", desc := "(II)I" } : MethodName) prog_10_method_9_code (4 : Nat) (Option.some FieldType.int)) ∈ AW := AW_m4 75 rfl rfl
theorem aw_810 : (Cond.methodLink "KilnKeeper$Reader" (105 : Nat) ({ cls := "KilnKeeper$Reader", name := "digitAt", desc := "(I)I" } : MethodName)) ∈ AW := AW_m4 76 rfl rfl
theorem at_811 : (Cond.privateMethod ({ cls := "KilnKeeper$Reader", name := "digitAt", desc := "(I)I" } : MethodName)) ∈ lw_tbl := List.mem_append_right _ (List.mem_append_right _ (List.mem_append_right _ (List.mem_append_right _ (List.mem_append_left _ (List.mem_of_getElem? (l := tables_1_4) (i := 77) rfl)))))
theorem aw_812 : (Cond.instanceMethod ({ cls := "KilnKeeper$Reader", name := "digitAt", desc := "(I)I" } : MethodName)) ∈ AW := AW_m4 78 rfl rfl
theorem aw_813 : (Cond.code ({ cls := "KilnKeeper$Reader", name := "digitAt", desc := "(I)I" } : MethodName) prog_10_method_11_code (3 : Nat) (Option.some FieldType.int)) ∈ AW := AW_m4 79 rfl rfl
theorem aw_814 : (Cond.methodLink "KilnKeeper$Reader" (108 : Nat) ({ cls := "java/lang/StringBuilder", name := "charAt", desc := "(I)C" } : MethodName)) ∈ AW := AW_m4 80 rfl rfl
theorem aw_815 : (Cond.instanceMethod ({ cls := "java/lang/StringBuilder", name := "charAt", desc := "(I)C" } : MethodName)) ∈ AW := AW_m4 81 rfl rfl
theorem aw_816 : (Cond.selects "java/lang/StringBuilder" ({ cls := "java/lang/StringBuilder", name := "charAt", desc := "(I)C" } : MethodName) ({ cls := "java/lang/StringBuilder", name := "charAt", desc := "(I)C" } : MethodName)) ∈ AW := AW_m4 82 rfl rfl
theorem aw_817 : (Cond.code ({ cls := "java/lang/StringBuilder", name := "charAt", desc := "(I)C" } : MethodName) prog_22_method_88_code (2 : Nat) (Option.some FieldType.char)) ∈ AW := AW_m4 83 rfl rfl
theorem aw_818 : (Cond.methodLink "java/lang/StringBuilder" (329 : Nat) ({ cls := "java/lang/AbstractStringBuilder", name := "charAt", desc := "(I)C" } : MethodName)) ∈ AW := AW_m4 84 rfl rfl
theorem aw_819 : (Cond.instanceMethod ({ cls := "java/lang/AbstractStringBuilder", name := "charAt", desc := "(I)C" } : MethodName)) ∈ AW := AW_m4 85 rfl rfl
theorem aw_820 : (Cond.code ({ cls := "java/lang/AbstractStringBuilder", name := "charAt", desc := "(I)C" } : MethodName) prog_16_method_14_code (5 : Nat) (Option.some FieldType.char)) ∈ AW := AW_m4 86 rfl rfl
theorem aw_821 : (Cond.methodLink "java/lang/AbstractStringBuilder" (138 : Nat) ({ cls := "java/lang/Math", name := "min", desc := "(II)I" } : MethodName)) ∈ AW := AW_m4 87 rfl rfl
theorem aw_822 : (Cond.methodLink "java/lang/AbstractStringBuilder" (144 : Nat) ({ cls := "java/lang/String", name := "checkIndex", desc := "(II)V" } : MethodName)) ∈ AW := AW_m4 88 rfl rfl
theorem aw_823 : (Cond.methodLink "java/lang/AbstractStringBuilder" (148 : Nat) ({ cls := "java/lang/StringUTF16", name := "getChar", desc := "([BI)C" } : MethodName)) ∈ AW := AW_m4 89 rfl rfl
theorem aw_824 : (Cond.methodLink "KilnKeeper$Reader" (98 : Nat) ({ cls := "KilnKeeper$Reader", name := "numberFrom", desc := "(II)I" } : MethodName)) ∈ AW := AW_m4 90 rfl rfl
theorem at_825 : (Cond.privateMethod ({ cls := "KilnKeeper$Reader", name := "numberFrom", desc := "(II)I" } : MethodName)) ∈ lw_tbl := List.mem_append_right _ (List.mem_append_right _ (List.mem_append_right _ (List.mem_append_right _ (List.mem_append_left _ (List.mem_of_getElem? (l := tables_1_4) (i := 91) rfl)))))
theorem aw_826 : (Cond.instanceMethod ({ cls := "KilnKeeper$Reader", name := "numberFrom", desc := "(II)I" } : MethodName)) ∈ AW := AW_m4 92 rfl rfl
theorem aw_827 : (Cond.code ({ cls := "KilnKeeper$Reader", name := "numberFrom", desc := "(II)I" } : MethodName) prog_10_method_10_code (5 : Nat) (Option.some FieldType.int)) ∈ AW := AW_m4 93 rfl rfl
theorem at_828 : (Cond.methodLinkNest "KilnKeeper$Reader" (101 : Nat) ({ cls := "KilnKeeper", name := "setNumberAt", desc := "([III)V" } : MethodName) "KilnKeeper") ∈ lw_tbl := List.mem_append_right _ (List.mem_append_right _ (List.mem_append_right _ (List.mem_append_right _ (List.mem_append_left _ (List.mem_of_getElem? (l := tables_1_4) (i := 94) rfl)))))
theorem aw_829 : (Cond.methodLink "KilnKeeper$Reader" (53 : Nat) ({ cls := "KilnKeeper$Reader", name := "isSignAt", desc := "(IC)Z" } : MethodName)) ∈ AW := AW_m4 95 rfl rfl
theorem at_830 : (Cond.privateMethod ({ cls := "KilnKeeper$Reader", name := "isSignAt", desc := "(IC)Z" } : MethodName)) ∈ lw_tbl := List.mem_append_right _ (List.mem_append_right _ (List.mem_append_right _ (List.mem_append_right _ (List.mem_append_left _ (List.mem_of_getElem? (l := tables_1_4) (i := 96) rfl)))))
theorem aw_831 : (Cond.instanceMethod ({ cls := "KilnKeeper$Reader", name := "isSignAt", desc := "(IC)Z" } : MethodName)) ∈ AW := AW_m4 97 rfl rfl
theorem aw_832 : (Cond.code ({ cls := "KilnKeeper$Reader", name := "isSignAt", desc := "(IC)Z" } : MethodName) prog_10_method_12_code (3 : Nat) (Option.some FieldType.boolean)) ∈ AW := AW_m4 98 rfl rfl
theorem aw_833 : (Cond.methodLink "KilnKeeper$Reader" (49 : Nat) ({ cls := "KilnKeeper$Reader", name := "placeOfFault", desc := "(I)I" } : MethodName)) ∈ AW := AW_m4 99 rfl rfl
theorem aw_834 : (Cond.static ({ cls := "KilnKeeper$Reader", name := "placeOfFault", desc := "(I)I" } : MethodName)) ∈ AW := AW_m4 100 rfl rfl
theorem aw_835 : (Cond.code ({ cls := "KilnKeeper$Reader", name := "placeOfFault", desc := "(I)I" } : MethodName) prog_10_method_14_code (1 : Nat) (Option.some FieldType.int)) ∈ AW := AW_m4 101 rfl rfl
theorem aw_836 : (Cond.methodLink "KilnKeeper$Reader" (65 : Nat) ({ cls := "java/lang/Math", name := "max", desc := "(II)I" } : MethodName)) ∈ AW := AW_m4 102 rfl rfl
theorem aw_837 : (Cond.methodLink "KilnKeeper" (180 : Nat) ({ cls := "KilnKeeper$Reader", name := "clearText", desc := "()V" } : MethodName)) ∈ AW := AW_m4 103 rfl rfl
theorem aw_838 : (Cond.instanceMethod ({ cls := "KilnKeeper$Reader", name := "clearText", desc := "()V" } : MethodName)) ∈ AW := AW_m4 104 rfl rfl
theorem aw_839 : (Cond.selects "KilnKeeper$Reader" ({ cls := "KilnKeeper$Reader", name := "clearText", desc := "()V" } : MethodName) ({ cls := "KilnKeeper$Reader", name := "clearText", desc := "()V" } : MethodName)) ∈ AW := AW_m4 105 rfl rfl
theorem aw_840 : (Cond.code ({ cls := "KilnKeeper$Reader", name := "clearText", desc := "()V" } : MethodName) prog_10_method_3_code (1 : Nat) (Option.none : Option FieldType)) ∈ AW := AW_m4 106 rfl rfl
theorem aw_841 : (Cond.methodLink "KilnKeeper$Reader" (29 : Nat) ({ cls := "java/lang/StringBuilder", name := "setLength", desc := "(I)V" } : MethodName)) ∈ AW := AW_m4 107 rfl rfl
theorem aw_842 : (Cond.instanceMethod ({ cls := "java/lang/StringBuilder", name := "setLength", desc := "(I)V" } : MethodName)) ∈ AW := AW_m4 108 rfl rfl
theorem aw_843 : (Cond.selects "java/lang/StringBuilder" ({ cls := "java/lang/StringBuilder", name := "setLength", desc := "(I)V" } : MethodName) ({ cls := "java/lang/StringBuilder", name := "setLength", desc := "(I)V" } : MethodName)) ∈ AW := AW_m4 109 rfl rfl
theorem aw_844 : (Cond.code ({ cls := "java/lang/StringBuilder", name := "setLength", desc := "(I)V" } : MethodName) prog_22_method_89_code (2 : Nat) (Option.none : Option FieldType)) ∈ AW := AW_m4 110 rfl rfl
theorem aw_845 : (Cond.methodLink "java/lang/StringBuilder" (333 : Nat) ({ cls := "java/lang/AbstractStringBuilder", name := "setLength", desc := "(I)V" } : MethodName)) ∈ AW := AW_m4 111 rfl rfl
theorem aw_846 : (Cond.instanceMethod ({ cls := "java/lang/AbstractStringBuilder", name := "setLength", desc := "(I)V" } : MethodName)) ∈ AW := AW_m4 112 rfl rfl
theorem aw_847 : (Cond.code ({ cls := "java/lang/AbstractStringBuilder", name := "setLength", desc := "(I)V" } : MethodName) prog_16_method_13_code (2 : Nat) (Option.none : Option FieldType)) ∈ AW := AW_m4 113 rfl rfl
theorem aw_848 : (Cond.methodLink "java/lang/AbstractStringBuilder" (133 : Nat) ({ cls := "java/lang/StringLatin1", name := "fillNull", desc := "([BII)V" } : MethodName)) ∈ AW := AW_m4 114 rfl rfl
theorem aw_849 : (Cond.static ({ cls := "java/lang/StringLatin1", name := "fillNull", desc := "([BII)V" } : MethodName)) ∈ AW := AW_m4 115 rfl rfl
theorem aw_850 : (Cond.code ({ cls := "java/lang/StringLatin1", name := "fillNull", desc := "([BII)V" } : MethodName) prog_23_method_48_code (3 : Nat) (Option.none : Option FieldType)) ∈ AW := AW_m4 116 rfl rfl
theorem aw_851 : (Cond.methodLink "java/lang/StringLatin1" (236 : Nat) ({ cls := "java/util/Arrays", name := "fill", desc := "([BIIB)V" } : MethodName)) ∈ AW := AW_m4 117 rfl rfl
theorem aw_852 : (Cond.static ({ cls := "java/util/Arrays", name := "fill", desc := "([BIIB)V" } : MethodName)) ∈ AW := AW_m4 118 rfl rfl
theorem aw_853 : (Cond.code ({ cls := "java/util/Arrays", name := "fill", desc := "([BIIB)V" } : MethodName) prog_26_method_110_code (5 : Nat) (Option.none : Option FieldType)) ∈ AW := AW_m4 119 rfl rfl
theorem aw_854 : (Cond.methodLink "java/util/Arrays" (13 : Nat) ({ cls := "java/util/Arrays", name := "rangeCheck", desc := "(III)V" } : MethodName)) ∈ AW := AW_m4 120 rfl rfl
theorem aw_855 : (Cond.static ({ cls := "java/util/Arrays", name := "rangeCheck", desc := "(III)V" } : MethodName)) ∈ AW := AW_m4 121 rfl rfl
theorem aw_856 : (Cond.code ({ cls := "java/util/Arrays", name := "rangeCheck", desc := "(III)V" } : MethodName) prog_26_method_30_code (3 : Nat) (Option.none : Option FieldType)) ∈ AW := AW_m4 122 rfl rfl
theorem aw_857 : (Cond.methodLink "java/lang/AbstractStringBuilder" (137 : Nat) ({ cls := "java/lang/StringUTF16", name := "fillNull", desc := "([BII)V" } : MethodName)) ∈ AW := AW_m4 123 rfl rfl
theorem aw_858 : (Cond.static ({ cls := "java/lang/StringUTF16", name := "fillNull", desc := "([BII)V" } : MethodName)) ∈ AW := AW_m4 124 rfl rfl
theorem aw_859 : (Cond.code ({ cls := "java/lang/StringUTF16", name := "fillNull", desc := "([BII)V" } : MethodName) prog_24_method_70_code (3 : Nat) (Option.none : Option FieldType)) ∈ AW := AW_m4 125 rfl rfl
theorem aw_860 : (Cond.methodLink "java/lang/StringUTF16" (380 : Nat) ({ cls := "java/util/Arrays", name := "fill", desc := "([BIIB)V" } : MethodName)) ∈ AW := AW_m4 126 rfl rfl
theorem aw_861 : (Cond.methodLink "KilnKeeper" (183 : Nat) ({ cls := "KilnKeeper$Reader", name := "orderAt", desc := "(I)LKilnKeeper$Order;" } : MethodName)) ∈ AW := AW_m4 127 rfl rfl
theorem aw_862 : (Cond.methodLink "KilnKeeper" (187 : Nat) ({ cls := "KilnKeeper", name := "carryOut", desc := "(LKilnKeeper$Order;)I" } : MethodName)) ∈ AW := AW_m4 128 rfl rfl
theorem at_863 : (Cond.privateMethod ({ cls := "KilnKeeper", name := "carryOut", desc := "(LKilnKeeper$Order;)I" } : MethodName)) ∈ lw_tbl := List.mem_append_right _ (List.mem_append_right _ (List.mem_append_right _ (List.mem_append_right _ (List.mem_append_left _ (List.mem_of_getElem? (l := tables_1_4) (i := 129) rfl)))))
theorem aw_864 : (Cond.instanceMethod ({ cls := "KilnKeeper", name := "carryOut", desc := "(LKilnKeeper$Order;)I" } : MethodName)) ∈ AW := AW_m4 130 rfl rfl
theorem aw_865 : (Cond.code ({ cls := "KilnKeeper", name := "carryOut", desc := "(LKilnKeeper$Order;)I" } : MethodName) prog_1_method_39_code (5 : Nat) (Option.some FieldType.int)) ∈ AW := AW_m4 131 rfl rfl
theorem aw_866 : (Cond.methodLink "KilnKeeper" (170 : Nat) ({ cls := "KilnKeeper", name := "numberAt", desc := "([II)I" } : MethodName)) ∈ AW := AW_m4 132 rfl rfl
theorem aw_867 : (Cond.fieldLink "KilnKeeper" (263 : Nat) "KilnKeeper$1" "$SwitchMap$KilnKeeper$Word" "[I") ∈ AW := AW_m4 133 rfl rfl
theorem at_868 : (Cond.laysStatic "KilnKeeper$1" "$SwitchMap$KilnKeeper$Word" "[I") ∈ lw_tbl := List.mem_append_right _ (List.mem_append_right _ (List.mem_append_right _ (List.mem_append_right _ (List.mem_append_left _ (List.mem_of_getElem? (l := tables_1_4) (i := 134) rfl)))))
theorem aw_869 : (Cond.methodLink "KilnKeeper" (268 : Nat) ({ cls := "KilnKeeper$Word", name := "ordinal", desc := "()I" } : MethodName)) ∈ AW := AW_m4 135 rfl rfl
theorem aw_870 : (Cond.sameMethod "KilnKeeper$Word" "java/lang/Enum" "ordinal" "()I") ∈ AW := AW_m4 136 rfl rfl
theorem at_871 : (Cond.declares ({ cls := "java/lang/Enum", name := "ordinal", desc := "()I" } : MethodName)) ∈ lw_tbl := List.mem_append_right _ (List.mem_append_right _ (List.mem_append_right _ (List.mem_append_right _ (List.mem_append_left _ (List.mem_of_getElem? (l := tables_1_4) (i := 137) rfl)))))
theorem aw_872 : (Cond.selects "KilnKeeper$Word" ({ cls := "KilnKeeper$Word", name := "ordinal", desc := "()I" } : MethodName) ({ cls := "java/lang/Enum", name := "ordinal", desc := "()I" } : MethodName)) ∈ AW := AW_m4 138 rfl rfl
theorem aw_873 : (Cond.instanceMethod ({ cls := "java/lang/Enum", name := "ordinal", desc := "()I" } : MethodName)) ∈ AW := AW_m4 139 rfl rfl
theorem aw_874 : (Cond.code ({ cls := "java/lang/Enum", name := "ordinal", desc := "()I" } : MethodName) prog_18_method_2_code (1 : Nat) (Option.some FieldType.int)) ∈ AW := AW_m4 140 rfl rfl
theorem aw_875 : (Cond.methodLink "KilnKeeper" (93 : Nat) ({ cls := "KilnKeeper$Kiln", name := "letGo", desc := "(I)I" } : MethodName)) ∈ AW := AW_m4 141 rfl rfl
theorem aw_876 : (Cond.instanceMethod ({ cls := "KilnKeeper$Kiln", name := "letGo", desc := "(I)I" } : MethodName)) ∈ AW := AW_m4 142 rfl rfl
theorem aw_877 : (Cond.selects "KilnKeeper$Kiln" ({ cls := "KilnKeeper$Kiln", name := "letGo", desc := "(I)I" } : MethodName) ({ cls := "KilnKeeper$Kiln", name := "letGo", desc := "(I)I" } : MethodName)) ∈ AW := AW_m4 143 rfl rfl
theorem aw_878 : (Cond.code ({ cls := "KilnKeeper$Kiln", name := "letGo", desc := "(I)I" } : MethodName) prog_5_method_6_code (3 : Nat) (Option.some FieldType.int)) ∈ AW := AW_m4 144 rfl rfl
theorem aw_879 : (Cond.methodLink "KilnKeeper$Kiln" (82 : Nat) ({ cls := "KilnKeeper$Kiln", name := "passMinute", desc := "()V" } : MethodName)) ∈ AW := AW_m4 145 rfl rfl
theorem aw_880 : (Cond.instanceMethod ({ cls := "KilnKeeper$Kiln", name := "passMinute", desc := "()V" } : MethodName)) ∈ AW := AW_m4 146 rfl rfl
theorem aw_881 : (Cond.selects "KilnKeeper$Kiln" ({ cls := "KilnKeeper$Kiln", name := "passMinute", desc := "()V" } : MethodName) ({ cls := "KilnKeeper$Kiln", name := "passMinute", desc := "()V" } : MethodName)) ∈ AW := AW_m4 147 rfl rfl
theorem aw_882 : (Cond.code ({ cls := "KilnKeeper$Kiln", name := "passMinute", desc := "()V" } : MethodName) prog_5_method_7_code (5 : Nat) (Option.none : Option FieldType)) ∈ AW := AW_m4 148 rfl rfl
theorem aw_883 : (Cond.methodLink "KilnKeeper$Kiln" (89 : Nat) ({ cls := "KilnKeeper$Regulator", name := "wantedDamper", desc := "(I)I" } : MethodName)) ∈ AW := AW_m4 149 rfl rfl
theorem aw_884 : (Cond.instanceMethod ({ cls := "KilnKeeper$Regulator", name := "wantedDamper", desc := "(I)I" } : MethodName)) ∈ AW := AW_m4 150 rfl rfl
theorem aw_885 : (Cond.selects "KilnKeeper$Regulator" ({ cls := "KilnKeeper$Regulator", name := "wantedDamper", desc := "(I)I" } : MethodName) ({ cls := "KilnKeeper$Regulator", name := "wantedDamper", desc := "(I)I" } : MethodName)) ∈ AW := AW_m4 151 rfl rfl
theorem aw_886 : (Cond.code ({ cls := "KilnKeeper$Regulator", name := "wantedDamper", desc := "(I)I" } : MethodName) prog_12_method_5_code (3 : Nat) (Option.some FieldType.int)) ∈ AW := AW_m4 152 rfl rfl
theorem aw_887 : (Cond.methodLink "KilnKeeper$Regulator" (44 : Nat) ({ cls := "KilnKeeper$Regulator", name := "sumWith", desc := "(I)I" } : MethodName)) ∈ AW := AW_m4 153 rfl rfl
theorem at_888 : (Cond.privateMethod ({ cls := "KilnKeeper$Regulator", name := "sumWith", desc := "(I)I" } : MethodName)) ∈ lw_tbl := List.mem_append_right _ (List.mem_append_right _ (List.mem_append_right _ (List.mem_append_right _ (List.mem_append_left _ (List.mem_of_getElem? (l := tables_1_4) (i := 154) rfl)))))
theorem aw_889 : (Cond.instanceMethod ({ cls := "KilnKeeper$Regulator", name := "sumWith", desc := "(I)I" } : MethodName)) ∈ AW := AW_m4 155 rfl rfl
theorem aw_890 : (Cond.code ({ cls := "KilnKeeper$Regulator", name := "sumWith", desc := "(I)I" } : MethodName) prog_12_method_7_code (2 : Nat) (Option.some FieldType.int)) ∈ AW := AW_m4 156 rfl rfl
theorem aw_891 : (Cond.methodLink "KilnKeeper$Regulator" (48 : Nat) ({ cls := "java/lang/Math", name := "floorDiv", desc := "(II)I" } : MethodName)) ∈ AW := AW_m4 157 rfl rfl
theorem aw_892 : (Cond.static ({ cls := "java/lang/Math", name := "floorDiv", desc := "(II)I" } : MethodName)) ∈ AW := AW_m4 158 rfl rfl
theorem aw_893 : (Cond.code ({ cls := "java/lang/Math", name := "floorDiv", desc := "(II)I" } : MethodName) prog_20_method_47_code (3 : Nat) (Option.some FieldType.int)) ∈ AW := AW_m4 159 rfl rfl
theorem aw_894 : (Cond.methodLink "KilnKeeper$Kiln" (93 : Nat) ({ cls := "KilnKeeper$LagRow", name := "passThrough", desc := "(I)I" } : MethodName)) ∈ AW := AW_m4 160 rfl rfl
theorem aw_895 : (Cond.instanceMethod ({ cls := "KilnKeeper$LagRow", name := "passThrough", desc := "(I)I" } : MethodName)) ∈ AW := AW_m4 161 rfl rfl
theorem aw_896 : (Cond.selects "KilnKeeper$LagRow" ({ cls := "KilnKeeper$LagRow", name := "passThrough", desc := "(I)I" } : MethodName) ({ cls := "KilnKeeper$LagRow", name := "passThrough", desc := "(I)I" } : MethodName)) ∈ AW := AW_m4 162 rfl rfl
theorem aw_897 : (Cond.code ({ cls := "KilnKeeper$LagRow", name := "passThrough", desc := "(I)I" } : MethodName) prog_6_method_3_code (3 : Nat) (Option.some FieldType.int)) ∈ AW := AW_m4 163 rfl rfl
theorem aw_898 : (Cond.methodLink "KilnKeeper$Kiln" (96 : Nat) ({ cls := "KilnKeeper$Regulator", name := "noteError", desc := "(I)V" } : MethodName)) ∈ AW := AW_m4 164 rfl rfl
theorem aw_899 : (Cond.instanceMethod ({ cls := "KilnKeeper$Regulator", name := "noteError", desc := "(I)V" } : MethodName)) ∈ AW := AW_m4 165 rfl rfl
theorem aw_900 : (Cond.selects "KilnKeeper$Regulator" ({ cls := "KilnKeeper$Regulator", name := "noteError", desc := "(I)V" } : MethodName) ({ cls := "KilnKeeper$Regulator", name := "noteError", desc := "(I)V" } : MethodName)) ∈ AW := AW_m4 166 rfl rfl
theorem aw_901 : (Cond.code ({ cls := "KilnKeeper$Regulator", name := "noteError", desc := "(I)V" } : MethodName) prog_12_method_6_code (2 : Nat) (Option.none : Option FieldType)) ∈ AW := AW_m4 167 rfl rfl
theorem at_902 : (Cond.methodLinkNest "KilnKeeper$Kiln" (100 : Nat) ({ cls := "KilnKeeper", name := "between", desc := "(III)I" } : MethodName) "KilnKeeper") ∈ lw_tbl := List.mem_append_right _ (List.mem_append_right _ (List.mem_append_right _ (List.mem_append_right _ (List.mem_append_left _ (List.mem_of_getElem? (l := tables_1_4) (i := 168) rfl)))))
theorem aw_903 : (Cond.methodLink "KilnKeeper$Kiln" (104 : Nat) ({ cls := "KilnKeeper$Book", name := "burn", desc := "(I)I" } : MethodName)) ∈ AW := AW_m4 169 rfl rfl
theorem aw_904 : (Cond.instanceMethod ({ cls := "KilnKeeper$Book", name := "burn", desc := "(I)I" } : MethodName)) ∈ AW := AW_m4 170 rfl rfl
theorem aw_905 : (Cond.selects "KilnKeeper$Book" ({ cls := "KilnKeeper$Book", name := "burn", desc := "(I)I" } : MethodName) ({ cls := "KilnKeeper$Book", name := "burn", desc := "(I)I" } : MethodName)) ∈ AW := AW_m4 171 rfl rfl
theorem aw_906 : (Cond.code ({ cls := "KilnKeeper$Book", name := "burn", desc := "(I)I" } : MethodName) prog_3_method_4_code (3 : Nat) (Option.some FieldType.int)) ∈ AW := AW_m4 172 rfl rfl
theorem aw_907 : (Cond.methodLink "KilnKeeper$Book" (39 : Nat) ({ cls := "java/lang/Math", name := "min", desc := "(II)I" } : MethodName)) ∈ AW := AW_m4 173 rfl rfl
theorem at_908 : (Cond.methodLinkNest "KilnKeeper$Book" (45 : Nat) ({ cls := "KilnKeeper", name := "numberAt", desc := "([II)I" } : MethodName) "KilnKeeper") ∈ lw_tbl := List.mem_append_right _ (List.mem_append_right _ (List.mem_append_right _ (List.mem_append_right _ (List.mem_append_left _ (List.mem_of_getElem? (l := tables_1_4) (i := 174) rfl)))))
theorem at_909 : (Cond.methodLinkNest "KilnKeeper$Book" (49 : Nat) ({ cls := "KilnKeeper", name := "setNumberAt", desc := "([III)V" } : MethodName) "KilnKeeper") ∈ lw_tbl := List.mem_append_right _ (List.mem_append_right _ (List.mem_append_right _ (List.mem_append_right _ (List.mem_append_left _ (List.mem_of_getElem? (l := tables_1_4) (i := 175) rfl)))))
theorem aw_910 : (Cond.methodLink "KilnKeeper$Kiln" (107 : Nat) ({ cls := "java/lang/Math", name := "max", desc := "(II)I" } : MethodName)) ∈ AW := AW_m4 176 rfl rfl
theorem aw_911 : (Cond.methodLink "KilnKeeper$Kiln" (112 : Nat) ({ cls := "KilnKeeper$Book", name := "logMinute", desc := "(IIII)V" } : MethodName)) ∈ AW := AW_m4 177 rfl rfl
theorem aw_912 : (Cond.instanceMethod ({ cls := "KilnKeeper$Book", name := "logMinute", desc := "(IIII)V" } : MethodName)) ∈ AW := AW_m4 178 rfl rfl
theorem aw_913 : (Cond.selects "KilnKeeper$Book" ({ cls := "KilnKeeper$Book", name := "logMinute", desc := "(IIII)V" } : MethodName) ({ cls := "KilnKeeper$Book", name := "logMinute", desc := "(IIII)V" } : MethodName)) ∈ AW := AW_m4 179 rfl rfl
theorem aw_914 : (Cond.code ({ cls := "KilnKeeper$Book", name := "logMinute", desc := "(IIII)V" } : MethodName) prog_3_method_5_code (6 : Nat) (Option.none : Option FieldType)) ∈ AW := AW_m4 180 rfl rfl
theorem aw_915 : (Cond.methodLink "KilnKeeper$Book" (53 : Nat) ({ cls := "KilnKeeper$Book", name := "logStart", desc := "(I)I" } : MethodName)) ∈ AW := AW_m4 181 rfl rfl
theorem aw_916 : (Cond.static ({ cls := "KilnKeeper$Book", name := "logStart", desc := "(I)I" } : MethodName)) ∈ AW := AW_m4 182 rfl rfl
theorem aw_917 : (Cond.code ({ cls := "KilnKeeper$Book", name := "logStart", desc := "(I)I" } : MethodName) prog_3_method_9_code (1 : Nat) (Option.some FieldType.int)) ∈ AW := AW_m4 183 rfl rfl
theorem aw_918 : (Cond.methodLink "KilnKeeper$Kiln" (116 : Nat) ({ cls := "java/lang/Math", name := "abs", desc := "(I)I" } : MethodName)) ∈ AW := AW_m4 184 rfl rfl
theorem aw_919 : (Cond.static ({ cls := "java/lang/Math", name := "abs", desc := "(I)I" } : MethodName)) ∈ AW := AW_m4 185 rfl rfl
theorem aw_920 : (Cond.code ({ cls := "java/lang/Math", name := "abs", desc := "(I)I" } : MethodName) prog_20_method_59_code (1 : Nat) (Option.some FieldType.int)) ∈ AW := AW_m4 186 rfl rfl
theorem aw_921 : (Cond.methodLink "KilnKeeper$Kiln" (119 : Nat) ({ cls := "KilnKeeper$Rack", name := "passMinute", desc := "(II)V" } : MethodName)) ∈ AW := AW_m4 187 rfl rfl
theorem aw_922 : (Cond.instanceMethod ({ cls := "KilnKeeper$Rack", name := "passMinute", desc := "(II)V" } : MethodName)) ∈ AW := AW_m4 188 rfl rfl
theorem aw_923 : (Cond.selects "KilnKeeper$Rack" ({ cls := "KilnKeeper$Rack", name := "passMinute", desc := "(II)V" } : MethodName) ({ cls := "KilnKeeper$Rack", name := "passMinute", desc := "(II)V" } : MethodName)) ∈ AW := AW_m4 189 rfl rfl
theorem aw_924 : (Cond.code ({ cls := "KilnKeeper$Rack", name := "passMinute", desc := "(II)V" } : MethodName) prog_9_method_7_code (5 : Nat) (Option.none : Option FieldType)) ∈ AW := AW_m4 190 rfl rfl
theorem aw_925 : (Cond.methodLink "KilnKeeper$Rack" (55 : Nat) ({ cls := "KilnKeeper$Pot", name := "passMinute", desc := "(II)V" } : MethodName)) ∈ AW := AW_m4 191 rfl rfl
theorem aw_926 : (Cond.instanceMethod ({ cls := "KilnKeeper$Pot", name := "passMinute", desc := "(II)V" } : MethodName)) ∈ AW := AW_m4 192 rfl rfl
theorem aw_927 : (Cond.selects "KilnKeeper$Pot" ({ cls := "KilnKeeper$Pot", name := "passMinute", desc := "(II)V" } : MethodName) ({ cls := "KilnKeeper$Pot", name := "passMinute", desc := "(II)V" } : MethodName)) ∈ AW := AW_m4 193 rfl rfl
theorem aw_928 : (Cond.code ({ cls := "KilnKeeper$Pot", name := "passMinute", desc := "(II)V" } : MethodName) prog_8_method_4_code (3 : Nat) (Option.none : Option FieldType)) ∈ AW := AW_m4 194 rfl rfl
theorem aw_929 : (Cond.methodLink "KilnKeeper$Pot" (34 : Nat) ({ cls := "java/lang/Math", name := "max", desc := "(II)I" } : MethodName)) ∈ AW := AW_m4 195 rfl rfl
theorem aw_930 : (Cond.methodLink "KilnKeeper" (191 : Nat) ({ cls := "KilnKeeper$Refusal", name := "because", desc := "(II)I" } : MethodName)) ∈ AW := AW_m4 196 rfl rfl
theorem aw_931 : (Cond.methodLink "KilnKeeperLaw" (119 : Nat) ({ cls := "KilnKeeperLaw", name := "goes", desc := "(LKilnKeeper;I)I" } : MethodName)) ∈ AW := AW_m4 197 rfl rfl
theorem aw_932 : (Cond.static ({ cls := "KilnKeeperLaw", name := "goes", desc := "(LKilnKeeper;I)I" } : MethodName)) ∈ AW := AW_m4 198 rfl rfl
theorem aw_933 : (Cond.code ({ cls := "KilnKeeperLaw", name := "goes", desc := "(LKilnKeeper;I)I" } : MethodName) method_9_code (14 : Nat) (Option.some FieldType.int)) ∈ AW := AW_m4 199 rfl rfl
theorem aw_934 : (Cond.methodLink "KilnKeeperLaw" (123 : Nat) ({ cls := "KilnKeeper", name := "degreesIn", desc := "(I)I" } : MethodName)) ∈ AW := AW_m4 200 rfl rfl
theorem aw_935 : (Cond.instanceMethod ({ cls := "KilnKeeper", name := "degreesIn", desc := "(I)I" } : MethodName)) ∈ AW := AW_m4 201 rfl rfl
theorem aw_936 : (Cond.selects "KilnKeeper" ({ cls := "KilnKeeper", name := "degreesIn", desc := "(I)I" } : MethodName) ({ cls := "KilnKeeper", name := "degreesIn", desc := "(I)I" } : MethodName)) ∈ AW := AW_m4 202 rfl rfl
theorem aw_937 : (Cond.code ({ cls := "KilnKeeper", name := "degreesIn", desc := "(I)I" } : MethodName) prog_1_method_15_code (2 : Nat) (Option.some FieldType.int)) ∈ AW := AW_m4 203 rfl rfl
theorem aw_938 : (Cond.methodLink "KilnKeeper" (136 : Nat) ({ cls := "KilnKeeper", name := "isFrom", desc := "(III)Z" } : MethodName)) ∈ AW := AW_m4 204 rfl rfl
theorem aw_939 : (Cond.methodLink "KilnKeeper" (126 : Nat) ({ cls := "KilnKeeper", name := "tryMinutes", desc := "(I)LKilnKeeper$Kiln;" } : MethodName)) ∈ AW := AW_m4 205 rfl rfl
theorem at_940 : (Cond.privateMethod ({ cls := "KilnKeeper", name := "tryMinutes", desc := "(I)LKilnKeeper$Kiln;" } : MethodName)) ∈ lw_tbl := List.mem_append_right _ (List.mem_append_right _ (List.mem_append_right _ (List.mem_append_right _ (List.mem_append_left _ (List.mem_of_getElem? (l := tables_1_4) (i := 206) rfl)))))
theorem aw_941 : (Cond.instanceMethod ({ cls := "KilnKeeper", name := "tryMinutes", desc := "(I)LKilnKeeper$Kiln;" } : MethodName)) ∈ AW := AW_m4 207 rfl rfl
theorem aw_942 : (Cond.code ({ cls := "KilnKeeper", name := "tryMinutes", desc := "(I)LKilnKeeper$Kiln;" } : MethodName) prog_1_method_38_code (3 : Nat) (Option.some (FieldType.object "KilnKeeper$Kiln"))) ∈ AW := AW_m4 208 rfl rfl
theorem aw_943 : (Cond.methodLink "KilnKeeper" (133 : Nat) ({ cls := "KilnKeeper$Kiln", name := "passMinute", desc := "()V" } : MethodName)) ∈ AW := AW_m4 209 rfl rfl
theorem aw_944 : (Cond.methodLink "KilnKeeperLaw" (126 : Nat) ({ cls := "KilnKeeper", name := "wouldOvershoot", desc := "(I)I" } : MethodName)) ∈ AW := AW_m4 210 rfl rfl
theorem aw_945 : (Cond.instanceMethod ({ cls := "KilnKeeper", name := "wouldOvershoot", desc := "(I)I" } : MethodName)) ∈ AW := AW_m4 211 rfl rfl
theorem aw_946 : (Cond.selects "KilnKeeper" ({ cls := "KilnKeeper", name := "wouldOvershoot", desc := "(I)I" } : MethodName) ({ cls := "KilnKeeper", name := "wouldOvershoot", desc := "(I)I" } : MethodName)) ∈ AW := AW_m4 212 rfl rfl
theorem aw_947 : (Cond.code ({ cls := "KilnKeeper", name := "wouldOvershoot", desc := "(I)I" } : MethodName) prog_1_method_18_code (2 : Nat) (Option.some FieldType.int)) ∈ AW := AW_m4 213 rfl rfl
theorem aw_948 : (Cond.methodLink "KilnKeeperLaw" (129 : Nat) ({ cls := "KilnKeeper", name := "wouldCrack", desc := "(I)I" } : MethodName)) ∈ AW := AW_m4 214 rfl rfl
theorem aw_949 : (Cond.instanceMethod ({ cls := "KilnKeeper", name := "wouldCrack", desc := "(I)I" } : MethodName)) ∈ AW := AW_m4 215 rfl rfl
theorem aw_950 : (Cond.selects "KilnKeeper" ({ cls := "KilnKeeper", name := "wouldCrack", desc := "(I)I" } : MethodName) ({ cls := "KilnKeeper", name := "wouldCrack", desc := "(I)I" } : MethodName)) ∈ AW := AW_m4 216 rfl rfl
theorem aw_951 : (Cond.code ({ cls := "KilnKeeper", name := "wouldCrack", desc := "(I)I" } : MethodName) prog_1_method_13_code (2 : Nat) (Option.some FieldType.int)) ∈ AW := AW_m4 217 rfl rfl
theorem aw_952 : (Cond.methodLink "KilnKeeper" (140 : Nat) ({ cls := "KilnKeeper$Rack", name := "crackedSet", desc := "()I" } : MethodName)) ∈ AW := AW_m4 218 rfl rfl
theorem aw_953 : (Cond.instanceMethod ({ cls := "KilnKeeper$Rack", name := "crackedSet", desc := "()I" } : MethodName)) ∈ AW := AW_m4 219 rfl rfl
theorem aw_954 : (Cond.selects "KilnKeeper$Rack" ({ cls := "KilnKeeper$Rack", name := "crackedSet", desc := "()I" } : MethodName) ({ cls := "KilnKeeper$Rack", name := "crackedSet", desc := "()I" } : MethodName)) ∈ AW := AW_m4 220 rfl rfl
theorem aw_955 : (Cond.code ({ cls := "KilnKeeper$Rack", name := "crackedSet", desc := "()I" } : MethodName) prog_9_method_12_code (4 : Nat) (Option.some FieldType.int)) ∈ AW := AW_m4 221 rfl rfl
theorem aw_956 : (Cond.methodLink "KilnKeeperLaw" (132 : Nat) ({ cls := "KilnKeeper", name := "wanted", desc := "()I" } : MethodName)) ∈ AW := AW_m4 222 rfl rfl
theorem aw_957 : (Cond.instanceMethod ({ cls := "KilnKeeper", name := "wanted", desc := "()I" } : MethodName)) ∈ AW := AW_m4 223 rfl rfl
theorem aw_958 : (Cond.selects "KilnKeeper" ({ cls := "KilnKeeper", name := "wanted", desc := "()I" } : MethodName) ({ cls := "KilnKeeper", name := "wanted", desc := "()I" } : MethodName)) ∈ AW := AW_m4 224 rfl rfl
theorem aw_959 : (Cond.code ({ cls := "KilnKeeper", name := "wanted", desc := "()I" } : MethodName) prog_1_method_16_code (1 : Nat) (Option.some FieldType.int)) ∈ AW := AW_m4 225 rfl rfl
theorem aw_960 : (Cond.methodLink "KilnKeeper" (147 : Nat) ({ cls := "KilnKeeper$Kiln", name := "error", desc := "()I" } : MethodName)) ∈ AW := AW_m4 226 rfl rfl
theorem aw_961 : (Cond.methodLink "KilnKeeper" (150 : Nat) ({ cls := "KilnKeeper$Regulator", name := "wantedDamper", desc := "(I)I" } : MethodName)) ∈ AW := AW_m4 227 rfl rfl
theorem aw_962 : (Cond.methodLink "KilnKeeperLaw" (135 : Nat) ({ cls := "KilnKeeper", name := "tell", desc := "()I" } : MethodName)) ∈ AW := AW_m4 228 rfl rfl
theorem aw_963 : (Cond.instanceMethod ({ cls := "KilnKeeper", name := "tell", desc := "()I" } : MethodName)) ∈ AW := AW_m4 229 rfl rfl
theorem aw_964 : (Cond.selects "KilnKeeper" ({ cls := "KilnKeeper", name := "tell", desc := "()I" } : MethodName) ({ cls := "KilnKeeper", name := "tell", desc := "()I" } : MethodName)) ∈ AW := AW_m4 230 rfl rfl
theorem aw_965 : (Cond.code ({ cls := "KilnKeeper", name := "tell", desc := "()I" } : MethodName) prog_1_method_25_code (1 : Nat) (Option.some FieldType.int)) ∈ AW := AW_m4 231 rfl rfl
theorem aw_966 : (Cond.methodLink "KilnKeeper" (194 : Nat) ({ cls := "java/lang/StringBuilder", name := "setLength", desc := "(I)V" } : MethodName)) ∈ AW := AW_m4 232 rfl rfl
theorem aw_967 : (Cond.methodLink "KilnKeeper" (198 : Nat) ({ cls := "KilnKeeper$Kiln", name := "write", desc := "(Ljava/lang/StringBuilder;)V" } : MethodName)) ∈ AW := AW_m4 233 rfl rfl
theorem aw_968 : (Cond.instanceMethod ({ cls := "KilnKeeper$Kiln", name := "write", desc := "(Ljava/lang/StringBuilder;)V" } : MethodName)) ∈ AW := AW_m4 234 rfl rfl
theorem aw_969 : (Cond.selects "KilnKeeper$Kiln" ({ cls := "KilnKeeper$Kiln", name := "write", desc := "(Ljava/lang/StringBuilder;)V" } : MethodName) ({ cls := "KilnKeeper$Kiln", name := "write", desc := "(Ljava/lang/StringBuilder;)V" } : MethodName)) ∈ AW := AW_m4 235 rfl rfl
theorem aw_970 : (Cond.code ({ cls := "KilnKeeper$Kiln", name := "write", desc := "(Ljava/lang/StringBuilder;)V" } : MethodName) prog_5_method_8_code (2 : Nat) (Option.none : Option FieldType)) ∈ AW := AW_m4 236 rfl rfl
theorem aw_971 : (Cond.methodLink "KilnKeeper$Kiln" (121 : Nat) ({ cls := "java/lang/StringBuilder", name := "append", desc := "(I)Ljava/lang/StringBuilder;" } : MethodName)) ∈ AW := AW_m4 237 rfl rfl
theorem aw_972 : (Cond.methodLink "KilnKeeper$Kiln" (127 : Nat) ({ cls := "java/lang/StringBuilder", name := "append", desc := "(C)Ljava/lang/StringBuilder;" } : MethodName)) ∈ AW := AW_m4 238 rfl rfl
theorem aw_973 : (Cond.methodLink "KilnKeeper$Kiln" (133 : Nat) ({ cls := "KilnKeeper$LagRow", name := "write", desc := "(Ljava/lang/StringBuilder;)V" } : MethodName)) ∈ AW := AW_m4 239 rfl rfl
theorem aw_974 : (Cond.instanceMethod ({ cls := "KilnKeeper$LagRow", name := "write", desc := "(Ljava/lang/StringBuilder;)V" } : MethodName)) ∈ AW := AW_m5 0 rfl rfl
theorem aw_975 : (Cond.selects "KilnKeeper$LagRow" ({ cls := "KilnKeeper$LagRow", name := "write", desc := "(Ljava/lang/StringBuilder;)V" } : MethodName) ({ cls := "KilnKeeper$LagRow", name := "write", desc := "(Ljava/lang/StringBuilder;)V" } : MethodName)) ∈ AW := AW_m5 1 rfl rfl
theorem aw_976 : (Cond.code ({ cls := "KilnKeeper$LagRow", name := "write", desc := "(Ljava/lang/StringBuilder;)V" } : MethodName) prog_6_method_5_code (3 : Nat) (Option.none : Option FieldType)) ∈ AW := AW_m5 2 rfl rfl
theorem aw_977 : (Cond.methodLink "KilnKeeper$LagRow" (35 : Nat) ({ cls := "java/lang/StringBuilder", name := "append", desc := "(C)Ljava/lang/StringBuilder;" } : MethodName)) ∈ AW := AW_m5 3 rfl rfl
theorem aw_978 : (Cond.methodLink "KilnKeeper$LagRow" (41 : Nat) ({ cls := "java/lang/StringBuilder", name := "append", desc := "(I)Ljava/lang/StringBuilder;" } : MethodName)) ∈ AW := AW_m5 4 rfl rfl
theorem aw_979 : (Cond.methodLink "KilnKeeper" (202 : Nat) ({ cls := "java/lang/StringBuilder", name := "length", desc := "()I" } : MethodName)) ∈ AW := AW_m5 5 rfl rfl
theorem aw_980 : (Cond.methodLink "KilnKeeperLaw" (37 : Nat) ({ cls := "KilnKeeper", name := "character", desc := "(I)I" } : MethodName)) ∈ AW := AW_m5 6 rfl rfl
theorem aw_981 : (Cond.instanceMethod ({ cls := "KilnKeeper", name := "character", desc := "(I)I" } : MethodName)) ∈ AW := AW_m5 7 rfl rfl
theorem aw_982 : (Cond.selects "KilnKeeper" ({ cls := "KilnKeeper", name := "character", desc := "(I)I" } : MethodName) ({ cls := "KilnKeeper", name := "character", desc := "(I)I" } : MethodName)) ∈ AW := AW_m5 8 rfl rfl
theorem aw_983 : (Cond.code ({ cls := "KilnKeeper", name := "character", desc := "(I)I" } : MethodName) prog_1_method_27_code (2 : Nat) (Option.some FieldType.int)) ∈ AW := AW_m5 9 rfl rfl
theorem aw_984 : (Cond.methodLink "KilnKeeper" (210 : Nat) ({ cls := "java/lang/StringBuilder", name := "charAt", desc := "(I)C" } : MethodName)) ∈ AW := AW_m5 10 rfl rfl
theorem aw_985 : (Cond.methodLink "KilnKeeperLaw" (138 : Nat) ({ cls := "KilnKeeper", name := "firedIn", desc := "(I)I" } : MethodName)) ∈ AW := AW_m5 11 rfl rfl
theorem aw_986 : (Cond.instanceMethod ({ cls := "KilnKeeper", name := "firedIn", desc := "(I)I" } : MethodName)) ∈ AW := AW_m5 12 rfl rfl
theorem aw_987 : (Cond.selects "KilnKeeper" ({ cls := "KilnKeeper", name := "firedIn", desc := "(I)I" } : MethodName) ({ cls := "KilnKeeper", name := "firedIn", desc := "(I)I" } : MethodName)) ∈ AW := AW_m5 13 rfl rfl
theorem aw_988 : (Cond.code ({ cls := "KilnKeeper", name := "firedIn", desc := "(I)I" } : MethodName) prog_1_method_12_code (4 : Nat) (Option.some FieldType.int)) ∈ AW := AW_m5 14 rfl rfl
theorem aw_989 : (Cond.methodLink "KilnKeeper" (117 : Nat) ({ cls := "KilnKeeper$Rack", name := "find", desc := "(I)LKilnKeeper$Pot;" } : MethodName)) ∈ AW := AW_m5 15 rfl rfl
theorem aw_990 : (Cond.methodLink "KilnKeeperLaw" (141 : Nat) ({ cls := "KilnKeeper", name := "go", desc := "(I)I" } : MethodName)) ∈ AW := AW_m5 16 rfl rfl
theorem aw_991 : (Cond.instanceMethod ({ cls := "KilnKeeper", name := "go", desc := "(I)I" } : MethodName)) ∈ AW := AW_m5 17 rfl rfl
theorem aw_992 : (Cond.selects "KilnKeeper" ({ cls := "KilnKeeper", name := "go", desc := "(I)I" } : MethodName) ({ cls := "KilnKeeper", name := "go", desc := "(I)I" } : MethodName)) ∈ AW := AW_m5 18 rfl rfl
theorem aw_993 : (Cond.code ({ cls := "KilnKeeper", name := "go", desc := "(I)I" } : MethodName) prog_1_method_7_code (2 : Nat) (Option.some FieldType.int)) ∈ AW := AW_m5 19 rfl rfl
theorem aw_994 : (Cond.methodLink "KilnKeeperLaw" (144 : Nat) ({ cls := "java/lang/Integer", name := "bitCount", desc := "(I)I" } : MethodName)) ∈ AW := AW_m5 20 rfl rfl
theorem aw_995 : (Cond.static ({ cls := "java/lang/Integer", name := "bitCount", desc := "(I)I" } : MethodName)) ∈ AW := AW_m5 21 rfl rfl
theorem aw_996 : (Cond.code ({ cls := "java/lang/Integer", name := "bitCount", desc := "(I)I" } : MethodName) prog_19_method_49_code (1 : Nat) (Option.some FieldType.int)) ∈ AW := AW_m5 22 rfl rfl
theorem aw_997 : (Cond.constant "java/lang/Integer" (265 : Nat) (1431655765 : Int32)) ∈ AW := AW_m5 23 rfl rfl
theorem aw_998 : (Cond.constant "java/lang/Integer" (266 : Nat) (858993459 : Int32)) ∈ AW := AW_m5 24 rfl rfl
theorem aw_999 : (Cond.constant "java/lang/Integer" (267 : Nat) (252645135 : Int32)) ∈ AW := AW_m5 25 rfl rfl
theorem aw_1000 : (Cond.methodLink "KilnKeeperLaw" (149 : Nat) ({ cls := "java/lang/Math", name := "min", desc := "(II)I" } : MethodName)) ∈ AW := AW_m5 26 rfl rfl
theorem aw_1001 : (Cond.methodLink "KilnKeeperLaw" (155 : Nat) ({ cls := "java/lang/Math", name := "max", desc := "(II)I" } : MethodName)) ∈ AW := AW_m5 27 rfl rfl
theorem aw_1002 : (Cond.methodLink "KilnKeeperLaw" (158 : Nat) ({ cls := "KilnKeeper", name := "potOf", desc := "(II)I" } : MethodName)) ∈ AW := AW_m5 28 rfl rfl
theorem aw_1003 : (Cond.instanceMethod ({ cls := "KilnKeeper", name := "potOf", desc := "(II)I" } : MethodName)) ∈ AW := AW_m5 29 rfl rfl
theorem aw_1004 : (Cond.selects "KilnKeeper" ({ cls := "KilnKeeper", name := "potOf", desc := "(II)I" } : MethodName) ({ cls := "KilnKeeper", name := "potOf", desc := "(II)I" } : MethodName)) ∈ AW := AW_m5 30 rfl rfl
theorem aw_1005 : (Cond.code ({ cls := "KilnKeeper", name := "potOf", desc := "(II)I" } : MethodName) prog_1_method_11_code (4 : Nat) (Option.some FieldType.int)) ∈ AW := AW_m5 31 rfl rfl
theorem aw_1006 : (Cond.methodLink "KilnKeeper" (121 : Nat) ({ cls := "KilnKeeper$Pot", name := "number", desc := "(I)I" } : MethodName)) ∈ AW := AW_m5 32 rfl rfl
theorem aw_1007 : (Cond.instanceMethod ({ cls := "KilnKeeper$Pot", name := "number", desc := "(I)I" } : MethodName)) ∈ AW := AW_m5 33 rfl rfl
theorem aw_1008 : (Cond.selects "KilnKeeper$Pot" ({ cls := "KilnKeeper$Pot", name := "number", desc := "(I)I" } : MethodName) ({ cls := "KilnKeeper$Pot", name := "number", desc := "(I)I" } : MethodName)) ∈ AW := AW_m5 34 rfl rfl
theorem aw_1009 : (Cond.code ({ cls := "KilnKeeper$Pot", name := "number", desc := "(I)I" } : MethodName) prog_8_method_6_code (2 : Nat) (Option.some FieldType.int)) ∈ AW := AW_m5 35 rfl rfl
theorem aw_1010 : (Cond.constant "KilnKeeperLaw" (56 : Nat) (-1010002 : Int32)) ∈ AW := AW_m5 36 rfl rfl
theorem aw_1011 : (Cond.methodLink "KilnKeeperLaw" (41 : Nat) ({ cls := "KilnKeeperLaw", name := "sum", desc := "(LKilnKeeper;)J" } : MethodName)) ∈ AW := AW_m5 37 rfl rfl
theorem aw_1012 : (Cond.static ({ cls := "KilnKeeperLaw", name := "sum", desc := "(LKilnKeeper;)J" } : MethodName)) ∈ AW := AW_m5 38 rfl rfl
theorem aw_1013 : (Cond.code ({ cls := "KilnKeeperLaw", name := "sum", desc := "(LKilnKeeper;)J" } : MethodName) method_10_code (5 : Nat) (Option.some FieldType.long)) ∈ AW := AW_m5 39 rfl rfl
theorem at_1014 : (Cond.constantLong "KilnKeeperLaw" (161 : Nat) (31 : Int64)) ∈ lw_tbl := List.mem_append_right _ (List.mem_append_right _ (List.mem_append_right _ (List.mem_append_right _ (List.mem_append_right _ (List.mem_of_getElem? (l := tables_1_5) (i := 40) rfl)))))
theorem aw_1015 : (Cond.methodLink "KilnKeeperLaw" (163 : Nat) ({ cls := "KilnKeeper", name := "logged", desc := "(II)I" } : MethodName)) ∈ AW := AW_m5 41 rfl rfl
theorem aw_1016 : (Cond.instanceMethod ({ cls := "KilnKeeper", name := "logged", desc := "(II)I" } : MethodName)) ∈ AW := AW_m5 42 rfl rfl
theorem aw_1017 : (Cond.selects "KilnKeeper" ({ cls := "KilnKeeper", name := "logged", desc := "(II)I" } : MethodName) ({ cls := "KilnKeeper", name := "logged", desc := "(II)I" } : MethodName)) ∈ AW := AW_m5 43 rfl rfl
theorem aw_1018 : (Cond.code ({ cls := "KilnKeeper", name := "logged", desc := "(II)I" } : MethodName) prog_1_method_19_code (3 : Nat) (Option.some FieldType.int)) ∈ AW := AW_m5 44 rfl rfl
theorem aw_1019 : (Cond.methodLink "KilnKeeper" (156 : Nat) ({ cls := "KilnKeeper$Book", name := "loggedNumber", desc := "(II)I" } : MethodName)) ∈ AW := AW_m5 45 rfl rfl
theorem aw_1020 : (Cond.instanceMethod ({ cls := "KilnKeeper$Book", name := "loggedNumber", desc := "(II)I" } : MethodName)) ∈ AW := AW_m5 46 rfl rfl
theorem aw_1021 : (Cond.selects "KilnKeeper$Book" ({ cls := "KilnKeeper$Book", name := "loggedNumber", desc := "(II)I" } : MethodName) ({ cls := "KilnKeeper$Book", name := "loggedNumber", desc := "(II)I" } : MethodName)) ∈ AW := AW_m5 47 rfl rfl
theorem aw_1022 : (Cond.code ({ cls := "KilnKeeper$Book", name := "loggedNumber", desc := "(II)I" } : MethodName) prog_3_method_6_code (3 : Nat) (Option.some FieldType.int)) ∈ AW := AW_m5 48 rfl rfl
theorem at_1023 : (Cond.constantLong "KilnKeeperLaw" (166 : Nat) (7 : Int64)) ∈ lw_tbl := List.mem_append_right _ (List.mem_append_right _ (List.mem_append_right _ (List.mem_append_right _ (List.mem_append_right _ (List.mem_of_getElem? (l := tables_1_5) (i := 49) rfl)))))
theorem aw_1024 : (Cond.methodLink "KilnKeeperLaw" (168 : Nat) ({ cls := "KilnKeeper", name := "burnt", desc := "()I" } : MethodName)) ∈ AW := AW_m5 50 rfl rfl
theorem aw_1025 : (Cond.instanceMethod ({ cls := "KilnKeeper", name := "burnt", desc := "()I" } : MethodName)) ∈ AW := AW_m5 51 rfl rfl
theorem aw_1026 : (Cond.selects "KilnKeeper" ({ cls := "KilnKeeper", name := "burnt", desc := "()I" } : MethodName) ({ cls := "KilnKeeper", name := "burnt", desc := "()I" } : MethodName)) ∈ AW := AW_m5 52 rfl rfl
theorem aw_1027 : (Cond.code ({ cls := "KilnKeeper", name := "burnt", desc := "()I" } : MethodName) prog_1_method_20_code (1 : Nat) (Option.some FieldType.int)) ∈ AW := AW_m5 53 rfl rfl
theorem aw_1028 : (Cond.methodLink "KilnKeeperLaw" (57 : Nat) ({ cls := "KilnKeeperLaw", name := "isWhole", desc := "(LKilnKeeper;)Z" } : MethodName)) ∈ AW := AW_m5 54 rfl rfl
theorem aw_1029 : (Cond.static ({ cls := "KilnKeeperLaw", name := "isWhole", desc := "(LKilnKeeper;)Z" } : MethodName)) ∈ AW := AW_m5 55 rfl rfl
theorem aw_1030 : (Cond.code ({ cls := "KilnKeeperLaw", name := "isWhole", desc := "(LKilnKeeper;)Z" } : MethodName) method_11_code (13 : Nat) (Option.some FieldType.boolean)) ∈ AW := AW_m5 56 rfl rfl
theorem aw_1031 : (Cond.methodLink "KilnKeeperLaw" (171 : Nat) ({ cls := "KilnKeeper", name := "minutesWith", desc := "(I)I" } : MethodName)) ∈ AW := AW_m5 57 rfl rfl
theorem aw_1032 : (Cond.instanceMethod ({ cls := "KilnKeeper", name := "minutesWith", desc := "(I)I" } : MethodName)) ∈ AW := AW_m5 58 rfl rfl
theorem aw_1033 : (Cond.selects "KilnKeeper" ({ cls := "KilnKeeper", name := "minutesWith", desc := "(I)I" } : MethodName) ({ cls := "KilnKeeper", name := "minutesWith", desc := "(I)I" } : MethodName)) ∈ AW := AW_m5 59 rfl rfl
theorem aw_1034 : (Cond.code ({ cls := "KilnKeeper", name := "minutesWith", desc := "(I)I" } : MethodName) prog_1_method_22_code (2 : Nat) (Option.some FieldType.int)) ∈ AW := AW_m5 60 rfl rfl
theorem aw_1035 : (Cond.methodLink "KilnKeeperLaw" (174 : Nat) ({ cls := "KilnKeeper", name := "ranked", desc := "(I)I" } : MethodName)) ∈ AW := AW_m5 61 rfl rfl
theorem aw_1036 : (Cond.instanceMethod ({ cls := "KilnKeeper", name := "ranked", desc := "(I)I" } : MethodName)) ∈ AW := AW_m5 62 rfl rfl
theorem aw_1037 : (Cond.selects "KilnKeeper" ({ cls := "KilnKeeper", name := "ranked", desc := "(I)I" } : MethodName) ({ cls := "KilnKeeper", name := "ranked", desc := "(I)I" } : MethodName)) ∈ AW := AW_m5 63 rfl rfl
theorem aw_1038 : (Cond.code ({ cls := "KilnKeeper", name := "ranked", desc := "(I)I" } : MethodName) prog_1_method_14_code (2 : Nat) (Option.some FieldType.int)) ∈ AW := AW_m5 64 rfl rfl
theorem aw_1039 : (Cond.methodLink "KilnKeeper" (144 : Nat) ({ cls := "KilnKeeper$Rack", name := "potAtPlace", desc := "(I)I" } : MethodName)) ∈ AW := AW_m5 65 rfl rfl
theorem aw_1040 : (Cond.instanceMethod ({ cls := "KilnKeeper$Rack", name := "potAtPlace", desc := "(I)I" } : MethodName)) ∈ AW := AW_m5 66 rfl rfl
theorem aw_1041 : (Cond.selects "KilnKeeper$Rack" ({ cls := "KilnKeeper$Rack", name := "potAtPlace", desc := "(I)I" } : MethodName) ({ cls := "KilnKeeper$Rack", name := "potAtPlace", desc := "(I)I" } : MethodName)) ∈ AW := AW_m5 67 rfl rfl
theorem aw_1042 : (Cond.code ({ cls := "KilnKeeper$Rack", name := "potAtPlace", desc := "(I)I" } : MethodName) prog_9_method_8_code (3 : Nat) (Option.some FieldType.int)) ∈ AW := AW_m5 68 rfl rfl
theorem aw_1043 : (Cond.methodLink "KilnKeeper$Rack" (59 : Nat) ({ cls := "KilnKeeper$Rack", name := "countAheadOf", desc := "(I)I" } : MethodName)) ∈ AW := AW_m5 69 rfl rfl
theorem at_1044 : (Cond.privateMethod ({ cls := "KilnKeeper$Rack", name := "countAheadOf", desc := "(I)I" } : MethodName)) ∈ lw_tbl := List.mem_append_right _ (List.mem_append_right _ (List.mem_append_right _ (List.mem_append_right _ (List.mem_append_right _ (List.mem_of_getElem? (l := tables_1_5) (i := 70) rfl)))))
theorem aw_1045 : (Cond.instanceMethod ({ cls := "KilnKeeper$Rack", name := "countAheadOf", desc := "(I)I" } : MethodName)) ∈ AW := AW_m5 71 rfl rfl
theorem aw_1046 : (Cond.code ({ cls := "KilnKeeper$Rack", name := "countAheadOf", desc := "(I)I" } : MethodName) prog_9_method_9_code (6 : Nat) (Option.some FieldType.int)) ∈ AW := AW_m5 72 rfl rfl
theorem aw_1047 : (Cond.methodLink "KilnKeeper$Rack" (63 : Nat) ({ cls := "KilnKeeper$Pot", name := "isAheadOf", desc := "(LKilnKeeper$Pot;)Z" } : MethodName)) ∈ AW := AW_m5 73 rfl rfl
theorem aw_1048 : (Cond.instanceMethod ({ cls := "KilnKeeper$Pot", name := "isAheadOf", desc := "(LKilnKeeper$Pot;)Z" } : MethodName)) ∈ AW := AW_m5 74 rfl rfl
theorem aw_1049 : (Cond.selects "KilnKeeper$Pot" ({ cls := "KilnKeeper$Pot", name := "isAheadOf", desc := "(LKilnKeeper$Pot;)Z" } : MethodName) ({ cls := "KilnKeeper$Pot", name := "isAheadOf", desc := "(LKilnKeeper$Pot;)Z" } : MethodName)) ∈ AW := AW_m5 75 rfl rfl
theorem aw_1050 : (Cond.code ({ cls := "KilnKeeper$Pot", name := "isAheadOf", desc := "(LKilnKeeper$Pot;)Z" } : MethodName) prog_8_method_5_code (4 : Nat) (Option.some FieldType.boolean)) ∈ AW := AW_m5 76 rfl rfl
theorem aw_1051 : (Cond.methodLink "KilnKeeperLaw" (177 : Nat) ({ cls := "KilnKeeper", name := "burntAgain", desc := "()I" } : MethodName)) ∈ AW := AW_m5 77 rfl rfl
theorem aw_1052 : (Cond.instanceMethod ({ cls := "KilnKeeper", name := "burntAgain", desc := "()I" } : MethodName)) ∈ AW := AW_m5 78 rfl rfl
theorem aw_1053 : (Cond.selects "KilnKeeper" ({ cls := "KilnKeeper", name := "burntAgain", desc := "()I" } : MethodName) ({ cls := "KilnKeeper", name := "burntAgain", desc := "()I" } : MethodName)) ∈ AW := AW_m5 79 rfl rfl
theorem aw_1054 : (Cond.code ({ cls := "KilnKeeper", name := "burntAgain", desc := "()I" } : MethodName) prog_1_method_21_code (1 : Nat) (Option.some FieldType.int)) ∈ AW := AW_m5 80 rfl rfl
theorem aw_1055 : (Cond.methodLink "KilnKeeper" (163 : Nat) ({ cls := "KilnKeeper$Book", name := "burntByAmounts", desc := "()I" } : MethodName)) ∈ AW := AW_m5 81 rfl rfl
theorem aw_1056 : (Cond.instanceMethod ({ cls := "KilnKeeper$Book", name := "burntByAmounts", desc := "()I" } : MethodName)) ∈ AW := AW_m5 82 rfl rfl
theorem aw_1057 : (Cond.selects "KilnKeeper$Book" ({ cls := "KilnKeeper$Book", name := "burntByAmounts", desc := "()I" } : MethodName) ({ cls := "KilnKeeper$Book", name := "burntByAmounts", desc := "()I" } : MethodName)) ∈ AW := AW_m5 83 rfl rfl
theorem aw_1058 : (Cond.code ({ cls := "KilnKeeper$Book", name := "burntByAmounts", desc := "()I" } : MethodName) prog_3_method_7_code (3 : Nat) (Option.some FieldType.int)) ∈ AW := AW_m5 84 rfl rfl
theorem aw_1059 : (Cond.methodLink "KilnKeeperLaw" (180 : Nat) ({ cls := "KilnKeeper", name := "settlesIn", desc := "()I" } : MethodName)) ∈ AW := AW_m5 85 rfl rfl
theorem aw_1060 : (Cond.instanceMethod ({ cls := "KilnKeeper", name := "settlesIn", desc := "()I" } : MethodName)) ∈ AW := AW_m5 86 rfl rfl
theorem aw_1061 : (Cond.selects "KilnKeeper" ({ cls := "KilnKeeper", name := "settlesIn", desc := "()I" } : MethodName) ({ cls := "KilnKeeper", name := "settlesIn", desc := "()I" } : MethodName)) ∈ AW := AW_m5 87 rfl rfl
theorem aw_1062 : (Cond.code ({ cls := "KilnKeeper", name := "settlesIn", desc := "()I" } : MethodName) prog_1_method_17_code (3 : Nat) (Option.some FieldType.int)) ∈ AW := AW_m5 88 rfl rfl
theorem aw_1063 : (Cond.methodLink "KilnKeeperLaw" (183 : Nat) ({ cls := "KilnKeeper", name := "meanBurnt", desc := "()D" } : MethodName)) ∈ AW := AW_m5 89 rfl rfl
theorem aw_1064 : (Cond.instanceMethod ({ cls := "KilnKeeper", name := "meanBurnt", desc := "()D" } : MethodName)) ∈ AW := AW_m5 90 rfl rfl
theorem aw_1065 : (Cond.selects "KilnKeeper" ({ cls := "KilnKeeper", name := "meanBurnt", desc := "()D" } : MethodName) ({ cls := "KilnKeeper", name := "meanBurnt", desc := "()D" } : MethodName)) ∈ AW := AW_m5 91 rfl rfl
theorem aw_1066 : (Cond.code ({ cls := "KilnKeeper", name := "meanBurnt", desc := "()D" } : MethodName) prog_1_method_31_code (2 : Nat) (Option.some FieldType.double)) ∈ AW := AW_m5 92 rfl rfl
theorem aw_1067 : (Cond.methodLink "KilnKeeperLaw" (187 : Nat) ({ cls := "KilnKeeper", name := "firedShare", desc := "()F" } : MethodName)) ∈ AW := AW_m5 93 rfl rfl
theorem aw_1068 : (Cond.instanceMethod ({ cls := "KilnKeeper", name := "firedShare", desc := "()F" } : MethodName)) ∈ AW := AW_m5 94 rfl rfl
theorem aw_1069 : (Cond.selects "KilnKeeper" ({ cls := "KilnKeeper", name := "firedShare", desc := "()F" } : MethodName) ({ cls := "KilnKeeper", name := "firedShare", desc := "()F" } : MethodName)) ∈ AW := AW_m5 95 rfl rfl
theorem aw_1070 : (Cond.code ({ cls := "KilnKeeper", name := "firedShare", desc := "()F" } : MethodName) prog_1_method_32_code (2 : Nat) (Option.some FieldType.float)) ∈ AW := AW_m5 96 rfl rfl
theorem aw_1071 : (Cond.methodLink "KilnKeeper" (240 : Nat) ({ cls := "KilnKeeper$Rack", name := "countOf", desc := "(I)I" } : MethodName)) ∈ AW := AW_m5 97 rfl rfl
theorem aw_1072 : (Cond.methodLink "KilnKeeperLaw" (191 : Nat) ({ cls := "KilnKeeper", name := "isBalanced", desc := "()I" } : MethodName)) ∈ AW := AW_m5 98 rfl rfl
theorem aw_1073 : (Cond.instanceMethod ({ cls := "KilnKeeper", name := "isBalanced", desc := "()I" } : MethodName)) ∈ AW := AW_m5 99 rfl rfl
theorem aw_1074 : (Cond.selects "KilnKeeper" ({ cls := "KilnKeeper", name := "isBalanced", desc := "()I" } : MethodName) ({ cls := "KilnKeeper", name := "isBalanced", desc := "()I" } : MethodName)) ∈ AW := AW_m5 100 rfl rfl
theorem aw_1075 : (Cond.code ({ cls := "KilnKeeper", name := "isBalanced", desc := "()I" } : MethodName) prog_1_method_30_code (1 : Nat) (Option.some FieldType.int)) ∈ AW := AW_m5 101 rfl rfl
theorem aw_1076 : (Cond.methodLink "KilnKeeper" (229 : Nat) ({ cls := "KilnKeeper$Book", name := "isInBalance", desc := "()Z" } : MethodName)) ∈ AW := AW_m5 102 rfl rfl
theorem aw_1077 : (Cond.instanceMethod ({ cls := "KilnKeeper$Book", name := "isInBalance", desc := "()Z" } : MethodName)) ∈ AW := AW_m5 103 rfl rfl
theorem aw_1078 : (Cond.selects "KilnKeeper$Book" ({ cls := "KilnKeeper$Book", name := "isInBalance", desc := "()Z" } : MethodName) ({ cls := "KilnKeeper$Book", name := "isInBalance", desc := "()Z" } : MethodName)) ∈ AW := AW_m5 104 rfl rfl
theorem aw_1079 : (Cond.code ({ cls := "KilnKeeper$Book", name := "isInBalance", desc := "()Z" } : MethodName) prog_3_method_8_code (3 : Nat) (Option.some FieldType.boolean)) ∈ AW := AW_m5 105 rfl rfl
theorem aw_1080 : (Cond.methodLink "KilnKeeper$Book" (57 : Nat) ({ cls := "KilnKeeper$Book", name := "burntByAmounts", desc := "()I" } : MethodName)) ∈ AW := AW_m5 106 rfl rfl
theorem aw_1081 : (Cond.methodLink "KilnKeeper" (233 : Nat) ({ cls := "KilnKeeper$Rack", name := "isNoneSoakedTooLong", desc := "()Z" } : MethodName)) ∈ AW := AW_m5 107 rfl rfl
theorem aw_1082 : (Cond.instanceMethod ({ cls := "KilnKeeper$Rack", name := "isNoneSoakedTooLong", desc := "()Z" } : MethodName)) ∈ AW := AW_m5 108 rfl rfl
theorem aw_1083 : (Cond.selects "KilnKeeper$Rack" ({ cls := "KilnKeeper$Rack", name := "isNoneSoakedTooLong", desc := "()Z" } : MethodName) ({ cls := "KilnKeeper$Rack", name := "isNoneSoakedTooLong", desc := "()Z" } : MethodName)) ∈ AW := AW_m5 109 rfl rfl
theorem aw_1084 : (Cond.code ({ cls := "KilnKeeper$Rack", name := "isNoneSoakedTooLong", desc := "()Z" } : MethodName) prog_9_method_13_code (3 : Nat) (Option.some FieldType.boolean)) ∈ AW := AW_m5 110 rfl rfl
theorem aw_1085 : (Cond.methodLink "KilnKeeperLaw" (61 : Nat) ({ cls := "KilnKeeperLaw", name := "isKept", desc := "(LKilnKeeper;[JI)Z" } : MethodName)) ∈ AW := AW_m5 111 rfl rfl
theorem aw_1086 : (Cond.static ({ cls := "KilnKeeperLaw", name := "isKept", desc := "(LKilnKeeper;[JI)Z" } : MethodName)) ∈ AW := AW_m5 112 rfl rfl
theorem aw_1087 : (Cond.code ({ cls := "KilnKeeperLaw", name := "isKept", desc := "(LKilnKeeper;[JI)Z" } : MethodName) method_12_code (6 : Nat) (Option.some FieldType.boolean)) ∈ AW := AW_m5 113 rfl rfl
theorem aw_1088 : (Cond.methodLink "KilnKeeperLaw" (194 : Nat) ({ cls := "KilnKeeper", name := "save", desc := "()I" } : MethodName)) ∈ AW := AW_m5 114 rfl rfl
theorem aw_1089 : (Cond.instanceMethod ({ cls := "KilnKeeper", name := "save", desc := "()I" } : MethodName)) ∈ AW := AW_m5 115 rfl rfl
theorem aw_1090 : (Cond.selects "KilnKeeper" ({ cls := "KilnKeeper", name := "save", desc := "()I" } : MethodName) ({ cls := "KilnKeeper", name := "save", desc := "()I" } : MethodName)) ∈ AW := AW_m5 116 rfl rfl
theorem aw_1091 : (Cond.code ({ cls := "KilnKeeper", name := "save", desc := "()I" } : MethodName) prog_1_method_34_code (1 : Nat) (Option.some FieldType.int)) ∈ AW := AW_m5 117 rfl rfl
theorem aw_1092 : (Cond.methodLink "KilnKeeperLaw" (197 : Nat) ({ cls := "KilnKeeper", name := "undo", desc := "()I" } : MethodName)) ∈ AW := AW_m5 118 rfl rfl
theorem aw_1093 : (Cond.instanceMethod ({ cls := "KilnKeeper", name := "undo", desc := "()I" } : MethodName)) ∈ AW := AW_m5 119 rfl rfl
theorem aw_1094 : (Cond.selects "KilnKeeper" ({ cls := "KilnKeeper", name := "undo", desc := "()I" } : MethodName) ({ cls := "KilnKeeper", name := "undo", desc := "()I" } : MethodName)) ∈ AW := AW_m5 120 rfl rfl
theorem aw_1095 : (Cond.code ({ cls := "KilnKeeper", name := "undo", desc := "()I" } : MethodName) prog_1_method_33_code (1 : Nat) (Option.some FieldType.int)) ∈ AW := AW_m5 121 rfl rfl
theorem aw_1096 : (Cond.methodLink "KilnKeeper" (243 : Nat) ({ cls := "KilnKeeper$Changes", name := "takeBack", desc := "(LKilnKeeper$Kiln;)I" } : MethodName)) ∈ AW := AW_m5 122 rfl rfl
theorem aw_1097 : (Cond.instanceMethod ({ cls := "KilnKeeper$Changes", name := "takeBack", desc := "(LKilnKeeper$Kiln;)I" } : MethodName)) ∈ AW := AW_m5 123 rfl rfl
theorem aw_1098 : (Cond.selects "KilnKeeper$Changes" ({ cls := "KilnKeeper$Changes", name := "takeBack", desc := "(LKilnKeeper$Kiln;)I" } : MethodName) ({ cls := "KilnKeeper$Changes", name := "takeBack", desc := "(LKilnKeeper$Kiln;)I" } : MethodName)) ∈ AW := AW_m5 124 rfl rfl
theorem aw_1099 : (Cond.code ({ cls := "KilnKeeper$Changes", name := "takeBack", desc := "(LKilnKeeper$Kiln;)I" } : MethodName) prog_4_method_3_code (3 : Nat) (Option.some FieldType.int)) ∈ AW := AW_m5 125 rfl rfl
theorem aw_1100 : (Cond.methodLink "KilnKeeperLaw" (200 : Nat) ({ cls := "KilnKeeper", name := "restore", desc := "()I" } : MethodName)) ∈ AW := AW_m5 126 rfl rfl
theorem aw_1101 : (Cond.instanceMethod ({ cls := "KilnKeeper", name := "restore", desc := "()I" } : MethodName)) ∈ AW := AW_m5 127 rfl rfl
theorem aw_1102 : (Cond.selects "KilnKeeper" ({ cls := "KilnKeeper", name := "restore", desc := "()I" } : MethodName) ({ cls := "KilnKeeper", name := "restore", desc := "()I" } : MethodName)) ∈ AW := AW_m5 128 rfl rfl
theorem aw_1103 : (Cond.code ({ cls := "KilnKeeper", name := "restore", desc := "()I" } : MethodName) prog_1_method_35_code (1 : Nat) (Option.some FieldType.int)) ∈ AW := AW_m5 129 rfl rfl
theorem aw_1104 : (Cond.arrayClass FieldType.long) ∈ AW := AW_m5 130 rfl rfl
theorem aw_1105 : (Cond.sameMethod "java/lang/AbstractStringBuilder" "java/lang/AbstractStringBuilder" "length" "()I") ∈ AW := AW_m5 131 rfl rfl
theorem aw_1106 : (Cond.sameMethod "java/lang/AbstractStringBuilder" "java/lang/AbstractStringBuilder" "append" "(Ljava/lang/String;)Ljava/lang/AbstractStringBuilder;") ∈ AW := AW_m5 132 rfl rfl
theorem aw_1107 : (Cond.sameMethod "java/lang/AbstractStringBuilder" "java/lang/AbstractStringBuilder" "appendNull" "()Ljava/lang/AbstractStringBuilder;") ∈ AW := AW_m5 133 rfl rfl
theorem aw_1108 : (Cond.sameMethod "java/lang/AbstractStringBuilder" "java/lang/AbstractStringBuilder" "ensureCapacityInternal" "(I)V") ∈ AW := AW_m5 134 rfl rfl
theorem aw_1109 : (Cond.sameMethod "java/lang/AbstractStringBuilder" "java/lang/AbstractStringBuilder" "newCapacity" "(I)I") ∈ AW := AW_m5 135 rfl rfl
theorem aw_1110 : (Cond.sameMethod "java/lang/AbstractStringBuilder" "java/lang/AbstractStringBuilder" "putStringAt" "(ILjava/lang/String;)V") ∈ AW := AW_m5 136 rfl rfl
theorem aw_1111 : (Cond.sameMethod "java/lang/AbstractStringBuilder" "java/lang/AbstractStringBuilder" "inflateIfNeededFor" "(Ljava/lang/String;)V") ∈ AW := AW_m5 137 rfl rfl
theorem aw_1112 : (Cond.sameMethod "java/lang/AbstractStringBuilder" "java/lang/AbstractStringBuilder" "inflate" "()V") ∈ AW := AW_m5 138 rfl rfl
theorem aw_1113 : (Cond.sameMethod "java/lang/AbstractStringBuilder" "java/lang/AbstractStringBuilder" "append" "(I)Ljava/lang/AbstractStringBuilder;") ∈ AW := AW_m5 139 rfl rfl
theorem aw_1114 : (Cond.selects "java/lang/StringBuilder" ({ cls := "java/lang/AbstractStringBuilder", name := "length", desc := "()I" } : MethodName) ({ cls := "java/lang/StringBuilder", name := "length", desc := "()I" } : MethodName)) ∈ AW := AW_m5 140 rfl rfl
theorem aw_1115 : (Cond.sameMethod "java/lang/AbstractStringBuilder" "java/lang/AbstractStringBuilder" "append" "(C)Ljava/lang/AbstractStringBuilder;") ∈ AW := AW_m5 141 rfl rfl
theorem aw_1116 : (Cond.sameMethod "java/lang/AbstractStringBuilder" "java/lang/AbstractStringBuilder" "charAt" "(I)C") ∈ AW := AW_m5 142 rfl rfl
theorem aw_1117 : (Cond.sameMethod "java/lang/AbstractStringBuilder" "java/lang/AbstractStringBuilder" "setLength" "(I)V") ∈ AW := AW_m5 143 rfl rfl
theorem aw_1118 : (Cond.fieldLink "KilnKeeper$Reader" (78 : Nat) "KilnKeeper$Word" "form" "Ljava/lang/String;") ∈ AW := AW_m5 144 rfl rfl
theorem aw_1119 : (Cond.fieldLink "java/lang/Enum" (7 : Nat) "java/lang/Enum" "ordinal" "I") ∈ AW := AW_m5 145 rfl rfl
theorem at_1120 : (Cond.stringRef "KilnKeeper$Word" (82 : Nat) "go 3") ∈ lw_tbl := List.mem_append_right _ (List.mem_append_right _ (List.mem_append_right _ (List.mem_append_right _ (List.mem_append_right _ (List.mem_of_getElem? (l := tables_1_5) (i := 146) rfl)))))
theorem at_1121 : (Cond.laysStatic "KilnKeeper$Word" "AIM" "LKilnKeeper$Word;") ∈ lw_tbl := List.mem_append_right _ (List.mem_append_right _ (List.mem_append_right _ (List.mem_append_right _ (List.mem_append_right _ (List.mem_of_getElem? (l := tables_1_5) (i := 147) rfl)))))
theorem at_1122 : (Cond.laysStatic "KilnKeeper$Word" "GAIN" "LKilnKeeper$Word;") ∈ lw_tbl := List.mem_append_right _ (List.mem_append_right _ (List.mem_append_right _ (List.mem_append_right _ (List.mem_append_right _ (List.mem_of_getElem? (l := tables_1_5) (i := 148) rfl)))))
theorem at_1123 : (Cond.laysStatic "KilnKeeper$Word" "CAP" "LKilnKeeper$Word;") ∈ lw_tbl := List.mem_append_right _ (List.mem_append_right _ (List.mem_append_right _ (List.mem_append_right _ (List.mem_append_right _ (List.mem_of_getElem? (l := tables_1_5) (i := 149) rfl)))))
theorem at_1124 : (Cond.laysStatic "KilnKeeper$Word" "LAG" "LKilnKeeper$Word;") ∈ lw_tbl := List.mem_append_right _ (List.mem_append_right _ (List.mem_append_right _ (List.mem_append_right _ (List.mem_append_right _ (List.mem_of_getElem? (l := tables_1_5) (i := 150) rfl)))))
theorem at_1125 : (Cond.laysStatic "KilnKeeper$Word" "POT" "LKilnKeeper$Word;") ∈ lw_tbl := List.mem_append_right _ (List.mem_append_right _ (List.mem_append_right _ (List.mem_append_right _ (List.mem_append_right _ (List.mem_of_getElem? (l := tables_1_5) (i := 151) rfl)))))
theorem at_1126 : (Cond.laysStatic "KilnKeeper$Word" "PUT" "LKilnKeeper$Word;") ∈ lw_tbl := List.mem_append_right _ (List.mem_append_right _ (List.mem_append_right _ (List.mem_append_right _ (List.mem_append_right _ (List.mem_of_getElem? (l := tables_1_5) (i := 152) rfl)))))
theorem at_1127 : (Cond.laysStatic "KilnKeeper$Word" "TAKE" "LKilnKeeper$Word;") ∈ lw_tbl := List.mem_append_right _ (List.mem_append_right _ (List.mem_append_right _ (List.mem_append_right _ (List.mem_append_right _ (List.mem_of_getElem? (l := tables_1_5) (i := 153) rfl)))))
theorem at_1128 : (Cond.laysStatic "KilnKeeper$Word" "FUEL" "LKilnKeeper$Word;") ∈ lw_tbl := List.mem_append_right _ (List.mem_append_right _ (List.mem_append_right _ (List.mem_append_right _ (List.mem_append_right _ (List.mem_of_getElem? (l := tables_1_5) (i := 154) rfl)))))
theorem at_1129 : (Cond.stringRef "KilnKeeper$Word" (55 : Nat) "aim 4") ∈ lw_tbl := List.mem_append_right _ (List.mem_append_right _ (List.mem_append_right _ (List.mem_append_right _ (List.mem_append_right _ (List.mem_of_getElem? (l := tables_1_5) (i := 155) rfl)))))
theorem at_1130 : (Cond.stringRef "KilnKeeper$Word" (61 : Nat) "gain 2 2 2") ∈ lw_tbl := List.mem_append_right _ (List.mem_append_right _ (List.mem_append_right _ (List.mem_append_right _ (List.mem_append_right _ (List.mem_of_getElem? (l := tables_1_5) (i := 156) rfl)))))
theorem at_1131 : (Cond.stringRef "KilnKeeper$Word" (64 : Nat) "cap 4") ∈ lw_tbl := List.mem_append_right _ (List.mem_append_right _ (List.mem_append_right _ (List.mem_append_right _ (List.mem_append_right _ (List.mem_of_getElem? (l := tables_1_5) (i := 157) rfl)))))
theorem at_1132 : (Cond.stringRef "KilnKeeper$Word" (67 : Nat) "lag 1") ∈ lw_tbl := List.mem_append_right _ (List.mem_append_right _ (List.mem_append_right _ (List.mem_append_right _ (List.mem_append_right _ (List.mem_of_getElem? (l := tables_1_5) (i := 158) rfl)))))
theorem at_1133 : (Cond.stringRef "KilnKeeper$Word" (70 : Nat) "pot 2 4 2") ∈ lw_tbl := List.mem_append_right _ (List.mem_append_right _ (List.mem_append_right _ (List.mem_append_right _ (List.mem_append_right _ (List.mem_of_getElem? (l := tables_1_5) (i := 159) rfl)))))
theorem at_1134 : (Cond.stringRef "KilnKeeper$Word" (73 : Nat) "put 1") ∈ lw_tbl := List.mem_append_right _ (List.mem_append_right _ (List.mem_append_right _ (List.mem_append_right _ (List.mem_append_right _ (List.mem_of_getElem? (l := tables_1_5) (i := 160) rfl)))))
theorem at_1135 : (Cond.stringRef "KilnKeeper$Word" (76 : Nat) "take 1") ∈ lw_tbl := List.mem_append_right _ (List.mem_append_right _ (List.mem_append_right _ (List.mem_append_right _ (List.mem_append_right _ (List.mem_of_getElem? (l := tables_1_5) (i := 161) rfl)))))
theorem at_1136 : (Cond.stringRef "KilnKeeper$Word" (79 : Nat) "fuel 4") ∈ lw_tbl := List.mem_append_right _ (List.mem_append_right _ (List.mem_append_right _ (List.mem_append_right _ (List.mem_append_right _ (List.mem_of_getElem? (l := tables_1_5) (i := 162) rfl)))))
