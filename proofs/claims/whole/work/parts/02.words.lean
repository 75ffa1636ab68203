/-! The words of the tables that a method may be handed: all that bear moving; each by its place. -/
def AW : List Cond := lw_tbl.filter goodWord
theorem AW_good : ∀ w ∈ AW, goodWord w = true := fun w h => (List.mem_filter.mp h).2
theorem AW_tbl : ∀ w ∈ AW, w ∈ lw_tbl := fun w h => (List.mem_filter.mp h).1
theorem AW_mem (i : Nat) {w : Cond} (h : lw_tbl[i]? = some w) (hg : goodWord w = true) : w ∈ AW := List.mem_filter.mpr ⟨List.mem_of_getElem? h, hg⟩
theorem AW_m1 (i : Nat) {w : Cond} (h : tables_1_1[i]? = some w) (hg : goodWord w = true) : w ∈ AW := List.mem_filter.mpr ⟨List.mem_append_right _ (List.mem_append_left _ (List.mem_of_getElem? h)), hg⟩
theorem AW_in {w : Cond} (h : w ∈ AW) : GoodIn AW (w :: AW) := fun x hx => (List.mem_cons.mp hx).elim (fun e => ⟨by rw [e]; exact h, good_of_word (AW_good x (by rw [e]; exact h))⟩) (fun g => ⟨g, good_of_word (AW_good x g)⟩)
theorem AW_m0 (i : Nat) {w : Cond} (h : (k2_sels lw_privs)[i]? = some w) (hg : goodWord w = true) : w ∈ AW := List.mem_filter.mpr ⟨List.mem_append_left _ (List.mem_of_getElem? h), hg⟩
theorem AW_m2 (i : Nat) {w : Cond} (h : tables_1_2[i]? = some w) (hg : goodWord w = true) : w ∈ AW := List.mem_filter.mpr ⟨List.mem_append_right _ (List.mem_append_right _ (List.mem_append_left _ (List.mem_of_getElem? h))), hg⟩
theorem AW_m3 (i : Nat) {w : Cond} (h : tables_1_3[i]? = some w) (hg : goodWord w = true) : w ∈ AW := List.mem_filter.mpr ⟨List.mem_append_right _ (List.mem_append_right _ (List.mem_append_right _ (List.mem_append_left _ (List.mem_of_getElem? h)))), hg⟩
theorem AW_m4 (i : Nat) {w : Cond} (h : tables_1_4[i]? = some w) (hg : goodWord w = true) : w ∈ AW := List.mem_filter.mpr ⟨List.mem_append_right _ (List.mem_append_right _ (List.mem_append_right _ (List.mem_append_right _ (List.mem_append_left _ (List.mem_of_getElem? h))))), hg⟩
theorem AW_m5 (i : Nat) {w : Cond} (h : tables_1_5[i]? = some w) (hg : goodWord w = true) : w ∈ AW := List.mem_filter.mpr ⟨List.mem_append_right _ (List.mem_append_right _ (List.mem_append_right _ (List.mem_append_right _ (List.mem_append_right _ (List.mem_append_left _ (List.mem_of_getElem? h)))))), hg⟩
theorem AW_m6 (i : Nat) {w : Cond} (h : tables_1_6[i]? = some w) (hg : goodWord w = true) : w ∈ AW := List.mem_filter.mpr ⟨List.mem_append_right _ (List.mem_append_right _ (List.mem_append_right _ (List.mem_append_right _ (List.mem_append_right _ (List.mem_append_right _ (List.mem_of_getElem? h)))))), hg⟩
theorem aw_0 : (Cond.selects "KilnKeeper" ({ cls := "KilnKeeper", name := "beginChange", desc := "()V" } : MethodName) ({ cls := "KilnKeeper", name := "beginChange", desc := "()V" } : MethodName)) ∈ AW := AW_m0 0 rfl rfl
theorem aw_1 : (Cond.selects "KilnKeeper" ({ cls := "KilnKeeper", name := "endChange", desc := "(I)I" } : MethodName) ({ cls := "KilnKeeper", name := "endChange", desc := "(I)I" } : MethodName)) ∈ AW := AW_m0 1 rfl rfl
theorem aw_2 : (Cond.selects "KilnKeeper$Changes" ({ cls := "KilnKeeper$Changes", name := "kilnAt", desc := "(I)LKilnKeeper$Kiln;" } : MethodName) ({ cls := "KilnKeeper$Changes", name := "kilnAt", desc := "(I)LKilnKeeper$Kiln;" } : MethodName)) ∈ AW := AW_m0 2 rfl rfl
theorem aw_3 : (Cond.selects "KilnKeeper$LagRow" ({ cls := "KilnKeeper$LagRow", name := "shiftBy", desc := "(I)V" } : MethodName) ({ cls := "KilnKeeper$LagRow", name := "shiftBy", desc := "(I)V" } : MethodName)) ∈ AW := AW_m0 3 rfl rfl
theorem aw_4 : (Cond.selects "KilnKeeper$Regulator" ({ cls := "KilnKeeper$Regulator", name := "sumWith", desc := "(I)I" } : MethodName) ({ cls := "KilnKeeper$Regulator", name := "sumWith", desc := "(I)I" } : MethodName)) ∈ AW := AW_m0 4 rfl rfl
theorem aw_5 : (Cond.selects "KilnKeeper" ({ cls := "KilnKeeper", name := "tryMinutes", desc := "(I)LKilnKeeper$Kiln;" } : MethodName) ({ cls := "KilnKeeper", name := "tryMinutes", desc := "(I)LKilnKeeper$Kiln;" } : MethodName)) ∈ AW := AW_m0 5 rfl rfl
theorem aw_6 : (Cond.selects "KilnKeeper$Rack" ({ cls := "KilnKeeper$Rack", name := "countAheadOf", desc := "(I)I" } : MethodName) ({ cls := "KilnKeeper$Rack", name := "countAheadOf", desc := "(I)I" } : MethodName)) ∈ AW := AW_m0 6 rfl rfl
theorem aw_7 : (Cond.selects "KilnKeeper$Reader" ({ cls := "KilnKeeper$Reader", name := "readOrder", desc := "(ILKilnKeeper$Order;)I" } : MethodName) ({ cls := "KilnKeeper$Reader", name := "readOrder", desc := "(ILKilnKeeper$Order;)I" } : MethodName)) ∈ AW := AW_m0 7 rfl rfl
theorem aw_8 : (Cond.selects "KilnKeeper$Reader" ({ cls := "KilnKeeper$Reader", name := "readForm", desc := "(LKilnKeeper$Word;ILKilnKeeper$Order;)I" } : MethodName) ({ cls := "KilnKeeper$Reader", name := "readForm", desc := "(LKilnKeeper$Word;ILKilnKeeper$Order;)I" } : MethodName)) ∈ AW := AW_m0 8 rfl rfl
theorem aw_9 : (Cond.selects "KilnKeeper$Reader" ({ cls := "KilnKeeper$Reader", name := "endOfDigits", desc := "(II)I" } : MethodName) ({ cls := "KilnKeeper$Reader", name := "endOfDigits", desc := "(II)I" } : MethodName)) ∈ AW := AW_m0 9 rfl rfl
theorem aw_10 : (Cond.selects "KilnKeeper$Reader" ({ cls := "KilnKeeper$Reader", name := "digitAt", desc := "(I)I" } : MethodName) ({ cls := "KilnKeeper$Reader", name := "digitAt", desc := "(I)I" } : MethodName)) ∈ AW := AW_m0 10 rfl rfl
theorem aw_11 : (Cond.selects "KilnKeeper$Reader" ({ cls := "KilnKeeper$Reader", name := "numberFrom", desc := "(II)I" } : MethodName) ({ cls := "KilnKeeper$Reader", name := "numberFrom", desc := "(II)I" } : MethodName)) ∈ AW := AW_m0 11 rfl rfl
theorem aw_12 : (Cond.selects "KilnKeeper$Reader" ({ cls := "KilnKeeper$Reader", name := "isSignAt", desc := "(IC)Z" } : MethodName) ({ cls := "KilnKeeper$Reader", name := "isSignAt", desc := "(IC)Z" } : MethodName)) ∈ AW := AW_m0 12 rfl rfl
theorem aw_13 : (Cond.selects "KilnKeeper" ({ cls := "KilnKeeper", name := "carryOut", desc := "(LKilnKeeper$Order;)I" } : MethodName) ({ cls := "KilnKeeper", name := "carryOut", desc := "(LKilnKeeper$Order;)I" } : MethodName)) ∈ AW := AW_m0 13 rfl rfl
theorem aw_14 : (Cond.selects "KilnKeeper$Pot" ({ cls := "KilnKeeper$Pot", name := "stateLetter", desc := "()C" } : MethodName) ({ cls := "KilnKeeper$Pot", name := "stateLetter", desc := "()C" } : MethodName)) ∈ AW := AW_m0 14 rfl rfl
theorem aw_15 : (Cond.selects "KilnKeeperModel" ({ cls := "KilnKeeperModel", name := "remembers", desc := "()V" } : MethodName) ({ cls := "KilnKeeperModel", name := "remembers", desc := "()V" } : MethodName)) ∈ AW := AW_m0 15 rfl rfl
theorem aw_16 : (Cond.selects "KilnKeeperModel" ({ cls := "KilnKeeperModel", name := "aims", desc := "(I)I" } : MethodName) ({ cls := "KilnKeeperModel", name := "aims", desc := "(I)I" } : MethodName)) ∈ AW := AW_m0 16 rfl rfl
theorem aw_17 : (Cond.selects "KilnKeeperModel" ({ cls := "KilnKeeperModel", name := "refused", desc := "(II)I" } : MethodName) ({ cls := "KilnKeeperModel", name := "refused", desc := "(II)I" } : MethodName)) ∈ AW := AW_m0 17 rfl rfl
theorem aw_18 : (Cond.selects "KilnKeeperModel" ({ cls := "KilnKeeperModel", name := "done", desc := "(I)I" } : MethodName) ({ cls := "KilnKeeperModel", name := "done", desc := "(I)I" } : MethodName)) ∈ AW := AW_m0 18 rfl rfl
theorem aw_19 : (Cond.selects "KilnKeeperModel" ({ cls := "KilnKeeperModel", name := "ends", desc := "(I)I" } : MethodName) ({ cls := "KilnKeeperModel", name := "ends", desc := "(I)I" } : MethodName)) ∈ AW := AW_m0 19 rfl rfl
theorem aw_20 : (Cond.selects "KilnKeeperModel" ({ cls := "KilnKeeperModel", name := "changed", desc := "(I)I" } : MethodName) ({ cls := "KilnKeeperModel", name := "changed", desc := "(I)I" } : MethodName)) ∈ AW := AW_m0 20 rfl rfl
theorem aw_21 : (Cond.selects "KilnKeeperModel" ({ cls := "KilnKeeperModel", name := "gainsOf", desc := "(III)I" } : MethodName) ({ cls := "KilnKeeperModel", name := "gainsOf", desc := "(III)I" } : MethodName)) ∈ AW := AW_m0 21 rfl rfl
theorem aw_22 : (Cond.selects "KilnKeeperModel" ({ cls := "KilnKeeperModel", name := "caps", desc := "(I)I" } : MethodName) ({ cls := "KilnKeeperModel", name := "caps", desc := "(I)I" } : MethodName)) ∈ AW := AW_m0 22 rfl rfl
theorem aw_23 : (Cond.selects "KilnKeeperModel" ({ cls := "KilnKeeperModel", name := "lags", desc := "(I)I" } : MethodName) ({ cls := "KilnKeeperModel", name := "lags", desc := "(I)I" } : MethodName)) ∈ AW := AW_m0 23 rfl rfl
theorem aw_24 : (Cond.selects "KilnKeeperModel" ({ cls := "KilnKeeperModel", name := "lagged", desc := "(I)I" } : MethodName) ({ cls := "KilnKeeperModel", name := "lagged", desc := "(I)I" } : MethodName)) ∈ AW := AW_m0 24 rfl rfl
theorem aw_25 : (Cond.selects "KilnKeeperModel" ({ cls := "KilnKeeperModel", name := "fuels", desc := "(I)I" } : MethodName) ({ cls := "KilnKeeperModel", name := "fuels", desc := "(I)I" } : MethodName)) ∈ AW := AW_m0 25 rfl rfl
theorem aw_26 : (Cond.selects "KilnKeeperModel" ({ cls := "KilnKeeperModel", name := "goesOn", desc := "(I)I" } : MethodName) ({ cls := "KilnKeeperModel", name := "goesOn", desc := "(I)I" } : MethodName)) ∈ AW := AW_m0 26 rfl rfl
theorem aw_27 : (Cond.selects "KilnKeeperModel" ({ cls := "KilnKeeperModel", name := "goesBy", desc := "()V" } : MethodName) ({ cls := "KilnKeeperModel", name := "goesBy", desc := "()V" } : MethodName)) ∈ AW := AW_m0 27 rfl rfl
theorem aw_28 : (Cond.selects "KilnKeeperModel" ({ cls := "KilnKeeperModel", name := "error", desc := "()I" } : MethodName) ({ cls := "KilnKeeperModel", name := "error", desc := "()I" } : MethodName)) ∈ AW := AW_m0 28 rfl rfl
theorem aw_29 : (Cond.selects "KilnKeeperModel" ({ cls := "KilnKeeperModel", name := "wantedNow", desc := "()I" } : MethodName) ({ cls := "KilnKeeperModel", name := "wantedNow", desc := "()I" } : MethodName)) ∈ AW := AW_m0 29 rfl rfl
theorem aw_30 : (Cond.selects "KilnKeeperModel" ({ cls := "KilnKeeperModel", name := "sumThen", desc := "()I" } : MethodName) ({ cls := "KilnKeeperModel", name := "sumThen", desc := "()I" } : MethodName)) ∈ AW := AW_m0 30 rfl rfl
theorem aw_31 : (Cond.selects "KilnKeeperModel" ({ cls := "KilnKeeperModel", name := "notesMinute", desc := "(II)V" } : MethodName) ({ cls := "KilnKeeperModel", name := "notesMinute", desc := "(II)V" } : MethodName)) ∈ AW := AW_m0 31 rfl rfl
theorem aw_32 : (Cond.selects "KilnKeeperModel" ({ cls := "KilnKeeperModel", name := "heats", desc := "(II)V" } : MethodName) ({ cls := "KilnKeeperModel", name := "heats", desc := "(II)V" } : MethodName)) ∈ AW := AW_m0 32 rfl rfl
theorem aw_33 : (Cond.selects "KilnKeeperModel" ({ cls := "KilnKeeperModel", name := "comes", desc := "(III)I" } : MethodName) ({ cls := "KilnKeeperModel", name := "comes", desc := "(III)I" } : MethodName)) ∈ AW := AW_m0 33 rfl rfl
theorem aw_34 : (Cond.selects "KilnKeeperModel" ({ cls := "KilnKeeperModel", name := "puts", desc := "(I)I" } : MethodName) ({ cls := "KilnKeeperModel", name := "puts", desc := "(I)I" } : MethodName)) ∈ AW := AW_m0 34 rfl rfl
theorem aw_35 : (Cond.selects "KilnKeeperModel" ({ cls := "KilnKeeperModel", name := "isPot", desc := "(I)Z" } : MethodName) ({ cls := "KilnKeeperModel", name := "isPot", desc := "(I)Z" } : MethodName)) ∈ AW := AW_m0 35 rfl rfl
theorem aw_36 : (Cond.selects "KilnKeeperModel" ({ cls := "KilnKeeperModel", name := "within", desc := "()I" } : MethodName) ({ cls := "KilnKeeperModel", name := "within", desc := "()I" } : MethodName)) ∈ AW := AW_m0 36 rfl rfl
theorem aw_37 : (Cond.selects "KilnKeeperModel" ({ cls := "KilnKeeperModel", name := "takes", desc := "(I)I" } : MethodName) ({ cls := "KilnKeeperModel", name := "takes", desc := "(I)I" } : MethodName)) ∈ AW := AW_m0 37 rfl rfl
theorem aw_38 : (Cond.selects "KilnKeeperModel" ({ cls := "KilnKeeperModel", name := "thinks", desc := "(I)V" } : MethodName) ({ cls := "KilnKeeperModel", name := "thinks", desc := "(I)V" } : MethodName)) ∈ AW := AW_m0 38 rfl rfl
theorem aw_39 : (Cond.selects "KilnKeeperModel" ({ cls := "KilnKeeperModel", name := "forgets", desc := "()V" } : MethodName) ({ cls := "KilnKeeperModel", name := "forgets", desc := "()V" } : MethodName)) ∈ AW := AW_m0 39 rfl rfl
theorem aw_40 : (Cond.selects "KilnKeeperModel" ({ cls := "KilnKeeperModel", name := "isAhead", desc := "(II)Z" } : MethodName) ({ cls := "KilnKeeperModel", name := "isAhead", desc := "(II)Z" } : MethodName)) ∈ AW := AW_m0 40 rfl rfl
theorem aw_41 : (Cond.selects "KilnKeeperModel" ({ cls := "KilnKeeperModel", name := "left", desc := "(I)I" } : MethodName) ({ cls := "KilnKeeperModel", name := "left", desc := "(I)I" } : MethodName)) ∈ AW := AW_m0 41 rfl rfl
theorem aw_42 : (Cond.selects "KilnKeeperModel" ({ cls := "KilnKeeperModel", name := "readsOne", desc := "()V" } : MethodName) ({ cls := "KilnKeeperModel", name := "readsOne", desc := "()V" } : MethodName)) ∈ AW := AW_m0 42 rfl rfl
theorem aw_43 : (Cond.selects "KilnKeeperModel" ({ cls := "KilnKeeperModel", name := "sort", desc := "()I" } : MethodName) ({ cls := "KilnKeeperModel", name := "sort", desc := "()I" } : MethodName)) ∈ AW := AW_m0 43 rfl rfl
theorem aw_44 : (Cond.selects "KilnKeeperModel" ({ cls := "KilnKeeperModel", name := "here", desc := "(I)I" } : MethodName) ({ cls := "KilnKeeperModel", name := "here", desc := "(I)I" } : MethodName)) ∈ AW := AW_m0 44 rfl rfl
theorem aw_45 : (Cond.selects "KilnKeeperModel" ({ cls := "KilnKeeperModel", name := "reads", desc := "(Ljava/lang/String;I)V" } : MethodName) ({ cls := "KilnKeeperModel", name := "reads", desc := "(Ljava/lang/String;I)V" } : MethodName)) ∈ AW := AW_m0 45 rfl rfl
theorem aw_46 : (Cond.selects "KilnKeeperModel" ({ cls := "KilnKeeperModel", name := "word", desc := "(Ljava/lang/String;)V" } : MethodName) ({ cls := "KilnKeeperModel", name := "word", desc := "(Ljava/lang/String;)V" } : MethodName)) ∈ AW := AW_m0 46 rfl rfl
theorem aw_47 : (Cond.selects "KilnKeeperModel" ({ cls := "KilnKeeperModel", name := "number", desc := "(II)V" } : MethodName) ({ cls := "KilnKeeperModel", name := "number", desc := "(II)V" } : MethodName)) ∈ AW := AW_m0 47 rfl rfl
theorem aw_48 : (Cond.selects "KilnKeeperModel" ({ cls := "KilnKeeperModel", name := "does", desc := "(I)I" } : MethodName) ({ cls := "KilnKeeperModel", name := "does", desc := "(I)I" } : MethodName)) ∈ AW := AW_m0 48 rfl rfl
theorem aw_49 : (Cond.selects "KilnKeeperModel" ({ cls := "KilnKeeperModel", name := "writesNumber", desc := "(I)V" } : MethodName) ({ cls := "KilnKeeperModel", name := "writesNumber", desc := "(I)V" } : MethodName)) ∈ AW := AW_m0 49 rfl rfl
theorem aw_50 : (Cond.selects "KilnKeeperModel" ({ cls := "KilnKeeperModel", name := "writes", desc := "(I)V" } : MethodName) ({ cls := "KilnKeeperModel", name := "writes", desc := "(I)V" } : MethodName)) ∈ AW := AW_m0 50 rfl rfl
theorem aw_51 : (Cond.selects "KilnKeeperModel" ({ cls := "KilnKeeperModel", name := "writesPart", desc := "(II)V" } : MethodName) ({ cls := "KilnKeeperModel", name := "writesPart", desc := "(II)V" } : MethodName)) ∈ AW := AW_m0 51 rfl rfl
theorem aw_52 : (Cond.selects "KilnKeeperModel" ({ cls := "KilnKeeperModel", name := "manyThat", desc := "(I)I" } : MethodName) ({ cls := "KilnKeeperModel", name := "manyThat", desc := "(I)I" } : MethodName)) ∈ AW := AW_m0 52 rfl rfl
theorem aw_53 : (Cond.initialized "KilnKeeperLaw") ∈ AW := AW_m1 0 rfl rfl
theorem aw_54 : (Cond.initialized "KilnKeeper") ∈ AW := AW_m1 1 rfl rfl
theorem aw_55 : (Cond.initialized "KilnKeeper$Kiln") ∈ AW := AW_m1 2 rfl rfl
theorem aw_56 : (Cond.initialized "KilnKeeper$Regulator") ∈ AW := AW_m1 3 rfl rfl
theorem aw_57 : (Cond.initialized "KilnKeeper$LagRow") ∈ AW := AW_m1 4 rfl rfl
theorem aw_58 : (Cond.initialized "KilnKeeper$Book") ∈ AW := AW_m1 5 rfl rfl
theorem aw_59 : (Cond.initialized "KilnKeeper$Rack") ∈ AW := AW_m1 6 rfl rfl
theorem aw_60 : (Cond.initialized "KilnKeeper$Pot") ∈ AW := AW_m1 7 rfl rfl
theorem aw_61 : (Cond.initialized "KilnKeeper$Changes") ∈ AW := AW_m1 8 rfl rfl
theorem aw_62 : (Cond.initialized "KilnKeeper$Refusal") ∈ AW := AW_m1 9 rfl rfl
theorem aw_63 : (Cond.initialized "KilnKeeper$Reader") ∈ AW := AW_m1 10 rfl rfl
theorem aw_64 : (Cond.initialized "java/lang/AbstractStringBuilder") ∈ AW := AW_m1 11 rfl rfl
theorem aw_65 : (Cond.initialized "java/lang/StringBuilder") ∈ AW := AW_m1 12 rfl rfl
theorem aw_66 : (Cond.initialized "java/lang/String") ∈ AW := AW_m1 13 rfl rfl
theorem aw_67 : (Cond.initialized "java/lang/StringUTF16") ∈ AW := AW_m1 14 rfl rfl
theorem aw_68 : (Cond.initialized "KilnKeeper$Order") ∈ AW := AW_m1 15 rfl rfl
theorem aw_69 : (Cond.initialized "java/lang/Enum") ∈ AW := AW_m1 16 rfl rfl
theorem aw_70 : (Cond.initialized "KilnKeeper$Word") ∈ AW := AW_m1 17 rfl rfl
theorem aw_71 : (Cond.initialized "KilnKeeperModel") ∈ AW := AW_m1 18 rfl rfl
theorem aw_72 : (Cond.initialized "java/lang/Math") ∈ AW := AW_m1 19 rfl rfl
theorem aw_73 : (Cond.initialized "jdk/internal/util/ArraysSupport") ∈ AW := AW_m1 20 rfl rfl
theorem aw_74 : (Cond.initialized "java/util/Arrays") ∈ AW := AW_m1 21 rfl rfl
theorem aw_75 : (Cond.initialized "java/lang/System") ∈ AW := AW_m1 22 rfl rfl
theorem aw_76 : (Cond.initialized "java/lang/StringLatin1") ∈ AW := AW_m1 23 rfl rfl
theorem aw_77 : (Cond.initialized "jdk/internal/util/Preconditions") ∈ AW := AW_m1 24 rfl rfl
theorem aw_78 : (Cond.initialized "KilnKeeper$1") ∈ AW := AW_m1 25 rfl rfl
theorem aw_79 : (Cond.initialized "java/lang/Integer") ∈ AW := AW_m1 26 rfl rfl
theorem aw_80 : (Cond.classLink "KilnKeeperLaw" (7 : Nat) "KilnKeeper") ∈ AW := AW_m1 27 rfl rfl
theorem aw_81 : (Cond.instantiable "KilnKeeper" (9 : Nat)) ∈ AW := AW_m1 28 rfl rfl
theorem aw_82 : (Cond.methodLink "KilnKeeperLaw" (9 : Nat) ({ cls := "KilnKeeper", name := "<init>", desc := "()V" } : MethodName)) ∈ AW := AW_m1 29 rfl rfl
theorem aw_83 : (Cond.instanceMethod ({ cls := "KilnKeeper", name := "<init>", desc := "()V" } : MethodName)) ∈ AW := AW_m1 30 rfl rfl
theorem aw_84 : (Cond.code ({ cls := "KilnKeeper", name := "<init>", desc := "()V" } : MethodName) prog_1_method_1_code (1 : Nat) (Option.none : Option FieldType)) ∈ AW := AW_m1 31 rfl rfl
theorem aw_85 : (Cond.methodLink "KilnKeeper" (1 : Nat) ({ cls := "java/lang/Object", name := "<init>", desc := "()V" } : MethodName)) ∈ AW := AW_m1 32 rfl rfl
theorem aw_86 : (Cond.instanceMethod ({ cls := "java/lang/Object", name := "<init>", desc := "()V" } : MethodName)) ∈ AW := AW_m1 33 rfl rfl
theorem aw_87 : (Cond.code ({ cls := "java/lang/Object", name := "<init>", desc := "()V" } : MethodName) object_method_1_code (1 : Nat) (Option.none : Option FieldType)) ∈ AW := AW_m1 34 rfl rfl
theorem aw_88 : (Cond.classLink "KilnKeeper" (7 : Nat) "KilnKeeper$Kiln") ∈ AW := AW_m1 35 rfl rfl
theorem aw_89 : (Cond.instantiable "KilnKeeper$Kiln" (8 : Nat)) ∈ AW := AW_m1 36 rfl rfl
theorem at_90 : (Cond.methodLinkNest "KilnKeeper" (9 : Nat) ({ cls := "KilnKeeper$Kiln", name := "<init>", desc := "()V" } : MethodName) "KilnKeeper") ∈ lw_tbl := List.mem_append_right _ (List.mem_append_left _ (List.mem_of_getElem? (l := tables_1_1) (i := 37) rfl))
theorem aw_91 : (Cond.instanceMethod ({ cls := "KilnKeeper$Kiln", name := "<init>", desc := "()V" } : MethodName)) ∈ AW := AW_m1 38 rfl rfl
theorem aw_92 : (Cond.code ({ cls := "KilnKeeper$Kiln", name := "<init>", desc := "()V" } : MethodName) prog_5_method_1_code (1 : Nat) (Option.none : Option FieldType)) ∈ AW := AW_m1 39 rfl rfl
theorem aw_93 : (Cond.methodLink "KilnKeeper$Kiln" (3 : Nat) ({ cls := "java/lang/Object", name := "<init>", desc := "()V" } : MethodName)) ∈ AW := AW_m1 40 rfl rfl
theorem aw_94 : (Cond.classLink "KilnKeeper$Kiln" (24 : Nat) "KilnKeeper$Regulator") ∈ AW := AW_m1 41 rfl rfl
theorem aw_95 : (Cond.instantiable "KilnKeeper$Regulator" (6 : Nat)) ∈ AW := AW_m1 42 rfl rfl
theorem at_96 : (Cond.methodLinkNest "KilnKeeper$Kiln" (26 : Nat) ({ cls := "KilnKeeper$Regulator", name := "<init>", desc := "()V" } : MethodName) "KilnKeeper") ∈ lw_tbl := List.mem_append_right _ (List.mem_append_left _ (List.mem_of_getElem? (l := tables_1_1) (i := 43) rfl))
theorem aw_97 : (Cond.instanceMethod ({ cls := "KilnKeeper$Regulator", name := "<init>", desc := "()V" } : MethodName)) ∈ AW := AW_m1 44 rfl rfl
theorem aw_98 : (Cond.code ({ cls := "KilnKeeper$Regulator", name := "<init>", desc := "()V" } : MethodName) prog_12_method_1_code (1 : Nat) (Option.none : Option FieldType)) ∈ AW := AW_m1 45 rfl rfl
theorem aw_99 : (Cond.methodLink "KilnKeeper$Regulator" (3 : Nat) ({ cls := "java/lang/Object", name := "<init>", desc := "()V" } : MethodName)) ∈ AW := AW_m1 46 rfl rfl
theorem aw_100 : (Cond.fieldLink "KilnKeeper$Regulator" (9 : Nat) "KilnKeeper$Regulator" "errorGain" "I") ∈ AW := AW_m1 47 rfl rfl
theorem aw_101 : (Cond.fieldLink "KilnKeeper$Regulator" (15 : Nat) "KilnKeeper$Regulator" "sumGain" "I") ∈ AW := AW_m1 48 rfl rfl
theorem aw_102 : (Cond.fieldLink "KilnKeeper$Regulator" (18 : Nat) "KilnKeeper$Regulator" "changeGain" "I") ∈ AW := AW_m1 49 rfl rfl
theorem aw_103 : (Cond.fieldLink "KilnKeeper$Regulator" (21 : Nat) "KilnKeeper$Regulator" "cap" "I") ∈ AW := AW_m1 50 rfl rfl
theorem aw_104 : (Cond.fieldLink "KilnKeeper$Regulator" (24 : Nat) "KilnKeeper$Regulator" "sum" "I") ∈ AW := AW_m1 51 rfl rfl
theorem aw_105 : (Cond.fieldLink "KilnKeeper$Kiln" (140 : Nat) "KilnKeeper$Regulator" "sum" "I") ∈ AW := AW_m1 52 rfl rfl
theorem aw_106 : (Cond.fieldLink "KilnKeeper$Regulator" (27 : Nat) "KilnKeeper$Regulator" "latestError" "I") ∈ AW := AW_m1 53 rfl rfl
theorem aw_107 : (Cond.fieldLink "KilnKeeper$Kiln" (143 : Nat) "KilnKeeper$Regulator" "latestError" "I") ∈ AW := AW_m1 54 rfl rfl
theorem aw_108 : (Cond.lays "KilnKeeper$Regulator" "KilnKeeper$Regulator" "errorGain" "I") ∈ AW := AW_m1 55 rfl rfl
theorem aw_109 : (Cond.soleField "KilnKeeper$Regulator" "errorGain") ∈ AW := AW_m1 56 rfl rfl
theorem aw_110 : (Cond.lays "KilnKeeper$Regulator" "KilnKeeper$Regulator" "sumGain" "I") ∈ AW := AW_m1 57 rfl rfl
theorem aw_111 : (Cond.soleField "KilnKeeper$Regulator" "sumGain") ∈ AW := AW_m1 58 rfl rfl
theorem aw_112 : (Cond.lays "KilnKeeper$Regulator" "KilnKeeper$Regulator" "changeGain" "I") ∈ AW := AW_m1 59 rfl rfl
theorem aw_113 : (Cond.soleField "KilnKeeper$Regulator" "changeGain") ∈ AW := AW_m1 60 rfl rfl
theorem aw_114 : (Cond.lays "KilnKeeper$Regulator" "KilnKeeper$Regulator" "cap" "I") ∈ AW := AW_m1 61 rfl rfl
theorem aw_115 : (Cond.soleField "KilnKeeper$Regulator" "cap") ∈ AW := AW_m1 62 rfl rfl
theorem aw_116 : (Cond.lays "KilnKeeper$Regulator" "KilnKeeper$Regulator" "sum" "I") ∈ AW := AW_m1 63 rfl rfl
theorem aw_117 : (Cond.soleField "KilnKeeper$Regulator" "sum") ∈ AW := AW_m1 64 rfl rfl
theorem aw_118 : (Cond.lays "KilnKeeper$Regulator" "KilnKeeper$Regulator" "latestError" "I") ∈ AW := AW_m1 65 rfl rfl
theorem aw_119 : (Cond.soleField "KilnKeeper$Regulator" "latestError") ∈ AW := AW_m1 66 rfl rfl
theorem aw_120 : (Cond.superclass "KilnKeeper$Regulator" "java/lang/Object") ∈ AW := AW_m1 67 rfl rfl
theorem aw_121 : (Cond.classLink "KilnKeeper$Kiln" (31 : Nat) "KilnKeeper$LagRow") ∈ AW := AW_m1 68 rfl rfl
theorem aw_122 : (Cond.instantiable "KilnKeeper$LagRow" (2 : Nat)) ∈ AW := AW_m1 69 rfl rfl
theorem at_123 : (Cond.methodLinkNest "KilnKeeper$Kiln" (33 : Nat) ({ cls := "KilnKeeper$LagRow", name := "<init>", desc := "()V" } : MethodName) "KilnKeeper") ∈ lw_tbl := List.mem_append_right _ (List.mem_append_left _ (List.mem_of_getElem? (l := tables_1_1) (i := 70) rfl))
theorem aw_124 : (Cond.instanceMethod ({ cls := "KilnKeeper$LagRow", name := "<init>", desc := "()V" } : MethodName)) ∈ AW := AW_m1 71 rfl rfl
theorem aw_125 : (Cond.code ({ cls := "KilnKeeper$LagRow", name := "<init>", desc := "()V" } : MethodName) prog_6_method_1_code (1 : Nat) (Option.none : Option FieldType)) ∈ AW := AW_m1 72 rfl rfl
theorem aw_126 : (Cond.methodLink "KilnKeeper$LagRow" (3 : Nat) ({ cls := "java/lang/Object", name := "<init>", desc := "()V" } : MethodName)) ∈ AW := AW_m1 73 rfl rfl
theorem aw_127 : (Cond.fieldLink "KilnKeeper$LagRow" (9 : Nat) "KilnKeeper$LagRow" "length" "I") ∈ AW := AW_m1 74 rfl rfl
theorem aw_128 : (Cond.fieldLink "KilnKeeper$Kiln" (75 : Nat) "KilnKeeper$LagRow" "length" "I") ∈ AW := AW_m1 75 rfl rfl
theorem aw_129 : (Cond.fieldLink "KilnKeeper$LagRow" (15 : Nat) "KilnKeeper$LagRow" "dampers" "[I") ∈ AW := AW_m1 76 rfl rfl
theorem aw_130 : (Cond.lays "KilnKeeper$LagRow" "KilnKeeper$LagRow" "length" "I") ∈ AW := AW_m1 77 rfl rfl
theorem aw_131 : (Cond.soleField "KilnKeeper$LagRow" "length") ∈ AW := AW_m1 78 rfl rfl
theorem aw_132 : (Cond.laysFinal "KilnKeeper$LagRow" "KilnKeeper$LagRow" "dampers" "[I") ∈ AW := AW_m1 79 rfl rfl
theorem aw_133 : (Cond.soleField "KilnKeeper$LagRow" "dampers") ∈ AW := AW_m1 80 rfl rfl
theorem aw_134 : (Cond.superclass "KilnKeeper$LagRow" "java/lang/Object") ∈ AW := AW_m1 81 rfl rfl
theorem aw_135 : (Cond.arrayClass FieldType.int) ∈ AW := AW_m1 82 rfl rfl
theorem aw_136 : (Cond.classLink "KilnKeeper$Kiln" (38 : Nat) "KilnKeeper$Book") ∈ AW := AW_m1 83 rfl rfl
theorem aw_137 : (Cond.instantiable "KilnKeeper$Book" (6 : Nat)) ∈ AW := AW_m1 84 rfl rfl
theorem at_138 : (Cond.methodLinkNest "KilnKeeper$Kiln" (40 : Nat) ({ cls := "KilnKeeper$Book", name := "<init>", desc := "()V" } : MethodName) "KilnKeeper") ∈ lw_tbl := List.mem_append_right _ (List.mem_append_left _ (List.mem_of_getElem? (l := tables_1_1) (i := 85) rfl))
theorem aw_139 : (Cond.instanceMethod ({ cls := "KilnKeeper$Book", name := "<init>", desc := "()V" } : MethodName)) ∈ AW := AW_m1 86 rfl rfl
theorem aw_140 : (Cond.code ({ cls := "KilnKeeper$Book", name := "<init>", desc := "()V" } : MethodName) prog_3_method_1_code (1 : Nat) (Option.none : Option FieldType)) ∈ AW := AW_m1 87 rfl rfl
theorem aw_141 : (Cond.methodLink "KilnKeeper$Book" (3 : Nat) ({ cls := "java/lang/Object", name := "<init>", desc := "()V" } : MethodName)) ∈ AW := AW_m1 88 rfl rfl
theorem aw_142 : (Cond.fieldLink "KilnKeeper$Book" (9 : Nat) "KilnKeeper$Book" "minutes" "I") ∈ AW := AW_m1 89 rfl rfl
theorem aw_143 : (Cond.fieldLink "KilnKeeper$Kiln" (137 : Nat) "KilnKeeper$Book" "minutes" "I") ∈ AW := AW_m1 90 rfl rfl
theorem aw_144 : (Cond.fieldLink "KilnKeeper" (236 : Nat) "KilnKeeper$Book" "minutes" "I") ∈ AW := AW_m1 91 rfl rfl
theorem aw_145 : (Cond.fieldLink "KilnKeeper$Book" (15 : Nat) "KilnKeeper$Book" "fuelLeft" "I") ∈ AW := AW_m1 92 rfl rfl
theorem aw_146 : (Cond.fieldLink "KilnKeeper$Kiln" (130 : Nat) "KilnKeeper$Book" "fuelLeft" "I") ∈ AW := AW_m1 93 rfl rfl
theorem aw_147 : (Cond.fieldLink "KilnKeeper$Book" (18 : Nat) "KilnKeeper$Book" "fuelThatCame" "I") ∈ AW := AW_m1 94 rfl rfl
theorem aw_148 : (Cond.fieldLink "KilnKeeper$Kiln" (146 : Nat) "KilnKeeper$Book" "fuelThatCame" "I") ∈ AW := AW_m1 95 rfl rfl
theorem aw_149 : (Cond.fieldLink "KilnKeeper$Book" (21 : Nat) "KilnKeeper$Book" "burntFuel" "I") ∈ AW := AW_m1 96 rfl rfl
theorem aw_150 : (Cond.fieldLink "KilnKeeper" (160 : Nat) "KilnKeeper$Book" "burntFuel" "I") ∈ AW := AW_m1 97 rfl rfl
theorem aw_151 : (Cond.fieldLink "KilnKeeper$Book" (24 : Nat) "KilnKeeper$Book" "amounts" "[I") ∈ AW := AW_m1 98 rfl rfl
theorem aw_152 : (Cond.fieldLink "KilnKeeper" (166 : Nat) "KilnKeeper$Book" "amounts" "[I") ∈ AW := AW_m1 99 rfl rfl
theorem aw_153 : (Cond.fieldLink "KilnKeeper$Book" (28 : Nat) "KilnKeeper$Book" "log" "[I") ∈ AW := AW_m1 100 rfl rfl
theorem aw_154 : (Cond.lays "KilnKeeper$Book" "KilnKeeper$Book" "minutes" "I") ∈ AW := AW_m1 101 rfl rfl
theorem aw_155 : (Cond.soleField "KilnKeeper$Book" "minutes") ∈ AW := AW_m1 102 rfl rfl
theorem aw_156 : (Cond.lays "KilnKeeper$Book" "KilnKeeper$Book" "fuelLeft" "I") ∈ AW := AW_m1 103 rfl rfl
theorem aw_157 : (Cond.soleField "KilnKeeper$Book" "fuelLeft") ∈ AW := AW_m1 104 rfl rfl
theorem aw_158 : (Cond.lays "KilnKeeper$Book" "KilnKeeper$Book" "fuelThatCame" "I") ∈ AW := AW_m1 105 rfl rfl
theorem aw_159 : (Cond.soleField "KilnKeeper$Book" "fuelThatCame") ∈ AW := AW_m1 106 rfl rfl
theorem aw_160 : (Cond.lays "KilnKeeper$Book" "KilnKeeper$Book" "burntFuel" "I") ∈ AW := AW_m1 107 rfl rfl
theorem aw_161 : (Cond.soleField "KilnKeeper$Book" "burntFuel") ∈ AW := AW_m1 108 rfl rfl
theorem aw_162 : (Cond.laysFinal "KilnKeeper$Book" "KilnKeeper$Book" "amounts" "[I") ∈ AW := AW_m1 109 rfl rfl
theorem aw_163 : (Cond.soleField "KilnKeeper$Book" "amounts") ∈ AW := AW_m1 110 rfl rfl
theorem aw_164 : (Cond.laysFinal "KilnKeeper$Book" "KilnKeeper$Book" "log" "[I") ∈ AW := AW_m1 111 rfl rfl
theorem aw_165 : (Cond.soleField "KilnKeeper$Book" "log") ∈ AW := AW_m1 112 rfl rfl
theorem aw_166 : (Cond.superclass "KilnKeeper$Book" "java/lang/Object") ∈ AW := AW_m1 113 rfl rfl
theorem aw_167 : (Cond.classLink "KilnKeeper$Kiln" (45 : Nat) "KilnKeeper$Rack") ∈ AW := AW_m1 114 rfl rfl
theorem aw_168 : (Cond.instantiable "KilnKeeper$Rack" (2 : Nat)) ∈ AW := AW_m1 115 rfl rfl
theorem aw_169 : (Cond.methodLink "KilnKeeper$Kiln" (47 : Nat) ({ cls := "KilnKeeper$Rack", name := "<init>", desc := "()V" } : MethodName)) ∈ AW := AW_m1 116 rfl rfl
theorem aw_170 : (Cond.instanceMethod ({ cls := "KilnKeeper$Rack", name := "<init>", desc := "()V" } : MethodName)) ∈ AW := AW_m1 117 rfl rfl
theorem aw_171 : (Cond.code ({ cls := "KilnKeeper$Rack", name := "<init>", desc := "()V" } : MethodName) prog_9_method_1_code (2 : Nat) (Option.none : Option FieldType)) ∈ AW := AW_m1 118 rfl rfl
theorem aw_172 : (Cond.methodLink "KilnKeeper$Rack" (3 : Nat) ({ cls := "java/lang/Object", name := "<init>", desc := "()V" } : MethodName)) ∈ AW := AW_m1 119 rfl rfl
theorem aw_173 : (Cond.classLink "KilnKeeper$Rack" (15 : Nat) "KilnKeeper$Pot") ∈ AW := AW_m1 120 rfl rfl
theorem at_174 : (Cond.arrayOver (FieldType.object "KilnKeeper$Pot")) ∈ lw_tbl := List.mem_append_right _ (List.mem_append_left _ (List.mem_of_getElem? (l := tables_1_1) (i := 121) rfl))
theorem aw_175 : (Cond.instantiable "KilnKeeper$Pot" (7 : Nat)) ∈ AW := AW_m1 122 rfl rfl
theorem at_176 : (Cond.methodLinkNest "KilnKeeper$Rack" (21 : Nat) ({ cls := "KilnKeeper$Pot", name := "<init>", desc := "()V" } : MethodName) "KilnKeeper") ∈ lw_tbl := List.mem_append_right _ (List.mem_append_left _ (List.mem_of_getElem? (l := tables_1_1) (i := 123) rfl))
theorem aw_177 : (Cond.instanceMethod ({ cls := "KilnKeeper$Pot", name := "<init>", desc := "()V" } : MethodName)) ∈ AW := AW_m1 124 rfl rfl
theorem aw_178 : (Cond.code ({ cls := "KilnKeeper$Pot", name := "<init>", desc := "()V" } : MethodName) prog_8_method_1_code (1 : Nat) (Option.none : Option FieldType)) ∈ AW := AW_m1 125 rfl rfl
theorem aw_179 : (Cond.methodLink "KilnKeeper$Pot" (3 : Nat) ({ cls := "java/lang/Object", name := "<init>", desc := "()V" } : MethodName)) ∈ AW := AW_m1 126 rfl rfl
theorem aw_180 : (Cond.fieldLink "KilnKeeper$Pot" (9 : Nat) "KilnKeeper$Pot" "shock" "I") ∈ AW := AW_m1 127 rfl rfl
theorem aw_181 : (Cond.fieldLink "KilnKeeper$Pot" (15 : Nat) "KilnKeeper$Pot" "needed" "I") ∈ AW := AW_m1 128 rfl rfl
theorem aw_182 : (Cond.fieldLink "KilnKeeper$Pot" (18 : Nat) "KilnKeeper$Pot" "soaking" "I") ∈ AW := AW_m1 129 rfl rfl
theorem aw_183 : (Cond.fieldLink "KilnKeeper$Rack" (70 : Nat) "KilnKeeper$Pot" "soaking" "I") ∈ AW := AW_m1 130 rfl rfl
theorem aw_184 : (Cond.fieldLink "KilnKeeper$Pot" (21 : Nat) "KilnKeeper$Pot" "state" "I") ∈ AW := AW_m1 131 rfl rfl
theorem aw_185 : (Cond.fieldLink "KilnKeeper$Rack" (44 : Nat) "KilnKeeper$Pot" "state" "I") ∈ AW := AW_m1 132 rfl rfl
theorem aw_186 : (Cond.fieldLink "KilnKeeper" (130 : Nat) "KilnKeeper$Pot" "state" "I") ∈ AW := AW_m1 133 rfl rfl
theorem aw_187 : (Cond.fieldLink "KilnKeeper$Pot" (24 : Nat) "KilnKeeper$Pot" "soaked" "I") ∈ AW := AW_m1 134 rfl rfl
theorem aw_188 : (Cond.fieldLink "KilnKeeper$Rack" (67 : Nat) "KilnKeeper$Pot" "soaked" "I") ∈ AW := AW_m1 135 rfl rfl
theorem aw_189 : (Cond.fieldLink "KilnKeeper$Pot" (27 : Nat) "KilnKeeper$Pot" "isWithin" "Z") ∈ AW := AW_m1 136 rfl rfl
theorem aw_190 : (Cond.fieldLink "KilnKeeper$Rack" (51 : Nat) "KilnKeeper$Pot" "isWithin" "Z") ∈ AW := AW_m1 137 rfl rfl
theorem aw_191 : (Cond.fieldLink "KilnKeeper$Pot" (31 : Nat) "KilnKeeper$Pot" "mostJump" "I") ∈ AW := AW_m1 138 rfl rfl
theorem aw_192 : (Cond.lays "KilnKeeper$Pot" "KilnKeeper$Pot" "shock" "I") ∈ AW := AW_m1 139 rfl rfl
theorem aw_193 : (Cond.soleField "KilnKeeper$Pot" "shock") ∈ AW := AW_m1 140 rfl rfl
theorem aw_194 : (Cond.lays "KilnKeeper$Pot" "KilnKeeper$Pot" "needed" "I") ∈ AW := AW_m1 141 rfl rfl
theorem aw_195 : (Cond.soleField "KilnKeeper$Pot" "needed") ∈ AW := AW_m1 142 rfl rfl
theorem aw_196 : (Cond.lays "KilnKeeper$Pot" "KilnKeeper$Pot" "soaking" "I") ∈ AW := AW_m1 143 rfl rfl
theorem aw_197 : (Cond.soleField "KilnKeeper$Pot" "soaking") ∈ AW := AW_m1 144 rfl rfl
theorem aw_198 : (Cond.lays "KilnKeeper$Pot" "KilnKeeper$Pot" "state" "I") ∈ AW := AW_m1 145 rfl rfl
theorem aw_199 : (Cond.soleField "KilnKeeper$Pot" "state") ∈ AW := AW_m1 146 rfl rfl
theorem aw_200 : (Cond.lays "KilnKeeper$Pot" "KilnKeeper$Pot" "soaked" "I") ∈ AW := AW_m1 147 rfl rfl
theorem aw_201 : (Cond.soleField "KilnKeeper$Pot" "soaked") ∈ AW := AW_m1 148 rfl rfl
theorem aw_202 : (Cond.lays "KilnKeeper$Pot" "KilnKeeper$Pot" "isWithin" "Z") ∈ AW := AW_m1 149 rfl rfl
theorem aw_203 : (Cond.soleField "KilnKeeper$Pot" "isWithin") ∈ AW := AW_m1 150 rfl rfl
theorem aw_204 : (Cond.lays "KilnKeeper$Pot" "KilnKeeper$Pot" "mostJump" "I") ∈ AW := AW_m1 151 rfl rfl
theorem aw_205 : (Cond.soleField "KilnKeeper$Pot" "mostJump") ∈ AW := AW_m1 152 rfl rfl
theorem aw_206 : (Cond.superclass "KilnKeeper$Pot" "java/lang/Object") ∈ AW := AW_m1 153 rfl rfl
theorem aw_207 : (Cond.fieldLink "KilnKeeper$Rack" (9 : Nat) "KilnKeeper$Rack" "count" "I") ∈ AW := AW_m1 154 rfl rfl
theorem aw_208 : (Cond.fieldLink "KilnKeeper$Kiln" (149 : Nat) "KilnKeeper$Rack" "count" "I") ∈ AW := AW_m1 155 rfl rfl
theorem aw_209 : (Cond.fieldLink "KilnKeeper" (239 : Nat) "KilnKeeper$Rack" "count" "I") ∈ AW := AW_m1 156 rfl rfl
theorem aw_210 : (Cond.fieldLink "KilnKeeper$Rack" (17 : Nat) "KilnKeeper$Rack" "pots" "[LKilnKeeper$Pot;") ∈ AW := AW_m1 157 rfl rfl
theorem aw_211 : (Cond.lays "KilnKeeper$Rack" "KilnKeeper$Rack" "count" "I") ∈ AW := AW_m1 158 rfl rfl
theorem aw_212 : (Cond.soleField "KilnKeeper$Rack" "count") ∈ AW := AW_m1 159 rfl rfl
theorem aw_213 : (Cond.laysFinal "KilnKeeper$Rack" "KilnKeeper$Rack" "pots" "[LKilnKeeper$Pot;") ∈ AW := AW_m1 160 rfl rfl
theorem aw_214 : (Cond.soleField "KilnKeeper$Rack" "pots") ∈ AW := AW_m1 161 rfl rfl
theorem aw_215 : (Cond.superclass "KilnKeeper$Rack" "java/lang/Object") ∈ AW := AW_m1 162 rfl rfl
theorem aw_216 : (Cond.fieldLink "KilnKeeper$Kiln" (9 : Nat) "KilnKeeper$Kiln" "degrees" "I") ∈ AW := AW_m1 163 rfl rfl
theorem aw_217 : (Cond.fieldLink "KilnKeeper" (106 : Nat) "KilnKeeper$Kiln" "degrees" "I") ∈ AW := AW_m1 164 rfl rfl
theorem aw_218 : (Cond.fieldLink "KilnKeeper$Kiln" (15 : Nat) "KilnKeeper$Kiln" "aimedDegrees" "I") ∈ AW := AW_m1 165 rfl rfl
theorem aw_219 : (Cond.fieldLink "KilnKeeper$Kiln" (18 : Nat) "KilnKeeper$Kiln" "overshoot" "I") ∈ AW := AW_m1 166 rfl rfl
theorem aw_220 : (Cond.fieldLink "KilnKeeper" (153 : Nat) "KilnKeeper$Kiln" "overshoot" "I") ∈ AW := AW_m1 167 rfl rfl
theorem aw_221 : (Cond.fieldLink "KilnKeeper$Kiln" (21 : Nat) "KilnKeeper$Kiln" "damper" "I") ∈ AW := AW_m1 168 rfl rfl
theorem aw_222 : (Cond.fieldLink "KilnKeeper$Kiln" (27 : Nat) "KilnKeeper$Kiln" "regulator" "LKilnKeeper$Regulator;") ∈ AW := AW_m1 169 rfl rfl
theorem aw_223 : (Cond.fieldLink "KilnKeeper" (68 : Nat) "KilnKeeper$Kiln" "regulator" "LKilnKeeper$Regulator;") ∈ AW := AW_m1 170 rfl rfl
theorem aw_224 : (Cond.fieldLink "KilnKeeper$Kiln" (34 : Nat) "KilnKeeper$Kiln" "lagRow" "LKilnKeeper$LagRow;") ∈ AW := AW_m1 171 rfl rfl
theorem aw_225 : (Cond.fieldLink "KilnKeeper$Kiln" (41 : Nat) "KilnKeeper$Kiln" "book" "LKilnKeeper$Book;") ∈ AW := AW_m1 172 rfl rfl
theorem aw_226 : (Cond.fieldLink "KilnKeeper" (84 : Nat) "KilnKeeper$Kiln" "book" "LKilnKeeper$Book;") ∈ AW := AW_m1 173 rfl rfl
theorem aw_227 : (Cond.fieldLink "KilnKeeper$Kiln" (48 : Nat) "KilnKeeper$Kiln" "rack" "LKilnKeeper$Rack;") ∈ AW := AW_m1 174 rfl rfl
theorem aw_228 : (Cond.fieldLink "KilnKeeper" (96 : Nat) "KilnKeeper$Kiln" "rack" "LKilnKeeper$Rack;") ∈ AW := AW_m1 175 rfl rfl
theorem aw_229 : (Cond.lays "KilnKeeper$Kiln" "KilnKeeper$Kiln" "degrees" "I") ∈ AW := AW_m1 176 rfl rfl
theorem aw_230 : (Cond.soleField "KilnKeeper$Kiln" "degrees") ∈ AW := AW_m1 177 rfl rfl
theorem aw_231 : (Cond.lays "KilnKeeper$Kiln" "KilnKeeper$Kiln" "aimedDegrees" "I") ∈ AW := AW_m1 178 rfl rfl
theorem aw_232 : (Cond.soleField "KilnKeeper$Kiln" "aimedDegrees") ∈ AW := AW_m1 179 rfl rfl
theorem aw_233 : (Cond.lays "KilnKeeper$Kiln" "KilnKeeper$Kiln" "overshoot" "I") ∈ AW := AW_m1 180 rfl rfl
theorem aw_234 : (Cond.soleField "KilnKeeper$Kiln" "overshoot") ∈ AW := AW_m1 181 rfl rfl
theorem aw_235 : (Cond.lays "KilnKeeper$Kiln" "KilnKeeper$Kiln" "damper" "I") ∈ AW := AW_m1 182 rfl rfl
theorem aw_236 : (Cond.soleField "KilnKeeper$Kiln" "damper") ∈ AW := AW_m1 183 rfl rfl
theorem aw_237 : (Cond.laysFinal "KilnKeeper$Kiln" "KilnKeeper$Kiln" "regulator" "LKilnKeeper$Regulator;") ∈ AW := AW_m1 184 rfl rfl
theorem aw_238 : (Cond.soleField "KilnKeeper$Kiln" "regulator") ∈ AW := AW_m1 185 rfl rfl
theorem aw_239 : (Cond.laysFinal "KilnKeeper$Kiln" "KilnKeeper$Kiln" "lagRow" "LKilnKeeper$LagRow;") ∈ AW := AW_m1 186 rfl rfl
theorem aw_240 : (Cond.soleField "KilnKeeper$Kiln" "lagRow") ∈ AW := AW_m1 187 rfl rfl
theorem aw_241 : (Cond.laysFinal "KilnKeeper$Kiln" "KilnKeeper$Kiln" "book" "LKilnKeeper$Book;") ∈ AW := AW_m1 188 rfl rfl
theorem aw_242 : (Cond.soleField "KilnKeeper$Kiln" "book") ∈ AW := AW_m1 189 rfl rfl
theorem aw_243 : (Cond.laysFinal "KilnKeeper$Kiln" "KilnKeeper$Kiln" "rack" "LKilnKeeper$Rack;") ∈ AW := AW_m1 190 rfl rfl
theorem aw_244 : (Cond.soleField "KilnKeeper$Kiln" "rack") ∈ AW := AW_m1 191 rfl rfl
theorem aw_245 : (Cond.superclass "KilnKeeper$Kiln" "java/lang/Object") ∈ AW := AW_m1 192 rfl rfl
theorem aw_246 : (Cond.classLink "KilnKeeper" (26 : Nat) "KilnKeeper$Changes") ∈ AW := AW_m1 193 rfl rfl
theorem aw_247 : (Cond.instantiable "KilnKeeper$Changes" (3 : Nat)) ∈ AW := AW_m1 194 rfl rfl
theorem aw_248 : (Cond.methodLink "KilnKeeper" (28 : Nat) ({ cls := "KilnKeeper$Changes", name := "<init>", desc := "()V" } : MethodName)) ∈ AW := AW_m1 195 rfl rfl
theorem aw_249 : (Cond.instanceMethod ({ cls := "KilnKeeper$Changes", name := "<init>", desc := "()V" } : MethodName)) ∈ AW := AW_m1 196 rfl rfl
theorem aw_250 : (Cond.code ({ cls := "KilnKeeper$Changes", name := "<init>", desc := "()V" } : MethodName) prog_4_method_1_code (2 : Nat) (Option.none : Option FieldType)) ∈ AW := AW_m1 197 rfl rfl
theorem aw_251 : (Cond.methodLink "KilnKeeper$Changes" (3 : Nat) ({ cls := "java/lang/Object", name := "<init>", desc := "()V" } : MethodName)) ∈ AW := AW_m1 198 rfl rfl
theorem aw_252 : (Cond.classLink "KilnKeeper$Changes" (18 : Nat) "KilnKeeper$Kiln") ∈ AW := AW_m1 199 rfl rfl
theorem at_253 : (Cond.arrayOver (FieldType.object "KilnKeeper$Kiln")) ∈ lw_tbl := List.mem_append_right _ (List.mem_append_left _ (List.mem_of_getElem? (l := tables_1_1) (i := 200) rfl))
theorem at_254 : (Cond.methodLinkNest "KilnKeeper$Changes" (24 : Nat) ({ cls := "KilnKeeper$Kiln", name := "<init>", desc := "()V" } : MethodName) "KilnKeeper") ∈ lw_tbl := List.mem_append_right _ (List.mem_append_left _ (List.mem_of_getElem? (l := tables_1_1) (i := 201) rfl))
theorem aw_255 : (Cond.fieldLink "KilnKeeper$Changes" (9 : Nat) "KilnKeeper$Changes" "count" "I") ∈ AW := AW_m1 202 rfl rfl
theorem aw_256 : (Cond.fieldLink "KilnKeeper" (223 : Nat) "KilnKeeper$Changes" "count" "I") ∈ AW := AW_m1 203 rfl rfl
theorem aw_257 : (Cond.fieldLink "KilnKeeper$Changes" (15 : Nat) "KilnKeeper$Changes" "start" "I") ∈ AW := AW_m1 204 rfl rfl
theorem aw_258 : (Cond.fieldLink "KilnKeeper$Changes" (20 : Nat) "KilnKeeper$Changes" "kilns" "[LKilnKeeper$Kiln;") ∈ AW := AW_m1 205 rfl rfl
theorem aw_259 : (Cond.lays "KilnKeeper$Changes" "KilnKeeper$Changes" "count" "I") ∈ AW := AW_m1 206 rfl rfl
theorem aw_260 : (Cond.soleField "KilnKeeper$Changes" "count") ∈ AW := AW_m1 207 rfl rfl
theorem aw_261 : (Cond.lays "KilnKeeper$Changes" "KilnKeeper$Changes" "start" "I") ∈ AW := AW_m1 208 rfl rfl
theorem aw_262 : (Cond.soleField "KilnKeeper$Changes" "start") ∈ AW := AW_m1 209 rfl rfl
theorem aw_263 : (Cond.laysFinal "KilnKeeper$Changes" "KilnKeeper$Changes" "kilns" "[LKilnKeeper$Kiln;") ∈ AW := AW_m1 210 rfl rfl
theorem aw_264 : (Cond.soleField "KilnKeeper$Changes" "kilns") ∈ AW := AW_m1 211 rfl rfl
theorem aw_265 : (Cond.superclass "KilnKeeper$Changes" "java/lang/Object") ∈ AW := AW_m1 212 rfl rfl
theorem aw_266 : (Cond.classLink "KilnKeeper" (33 : Nat) "KilnKeeper$Refusal") ∈ AW := AW_m1 213 rfl rfl
theorem aw_267 : (Cond.instantiable "KilnKeeper$Refusal" (2 : Nat)) ∈ AW := AW_m1 214 rfl rfl
theorem at_268 : (Cond.methodLinkNest "KilnKeeper" (35 : Nat) ({ cls := "KilnKeeper$Refusal", name := "<init>", desc := "()V" } : MethodName) "KilnKeeper") ∈ lw_tbl := List.mem_append_right _ (List.mem_append_left _ (List.mem_of_getElem? (l := tables_1_1) (i := 215) rfl))
theorem aw_269 : (Cond.instanceMethod ({ cls := "KilnKeeper$Refusal", name := "<init>", desc := "()V" } : MethodName)) ∈ AW := AW_m1 216 rfl rfl
theorem aw_270 : (Cond.code ({ cls := "KilnKeeper$Refusal", name := "<init>", desc := "()V" } : MethodName) prog_11_method_1_code (1 : Nat) (Option.none : Option FieldType)) ∈ AW := AW_m1 217 rfl rfl
theorem aw_271 : (Cond.methodLink "KilnKeeper$Refusal" (3 : Nat) ({ cls := "java/lang/Object", name := "<init>", desc := "()V" } : MethodName)) ∈ AW := AW_m1 218 rfl rfl
theorem aw_272 : (Cond.fieldLink "KilnKeeper$Refusal" (9 : Nat) "KilnKeeper$Refusal" "cause" "I") ∈ AW := AW_m1 219 rfl rfl
theorem aw_273 : (Cond.fieldLink "KilnKeeper" (214 : Nat) "KilnKeeper$Refusal" "cause" "I") ∈ AW := AW_m1 220 rfl rfl
theorem aw_274 : (Cond.fieldLink "KilnKeeper$Refusal" (15 : Nat) "KilnKeeper$Refusal" "detail" "I") ∈ AW := AW_m1 221 rfl rfl
theorem aw_275 : (Cond.fieldLink "KilnKeeper" (217 : Nat) "KilnKeeper$Refusal" "detail" "I") ∈ AW := AW_m1 222 rfl rfl
theorem aw_276 : (Cond.lays "KilnKeeper$Refusal" "KilnKeeper$Refusal" "cause" "I") ∈ AW := AW_m1 223 rfl rfl
theorem aw_277 : (Cond.soleField "KilnKeeper$Refusal" "cause") ∈ AW := AW_m1 224 rfl rfl
theorem aw_278 : (Cond.lays "KilnKeeper$Refusal" "KilnKeeper$Refusal" "detail" "I") ∈ AW := AW_m1 225 rfl rfl
theorem aw_279 : (Cond.soleField "KilnKeeper$Refusal" "detail") ∈ AW := AW_m1 226 rfl rfl
theorem aw_280 : (Cond.superclass "KilnKeeper$Refusal" "java/lang/Object") ∈ AW := AW_m1 227 rfl rfl
theorem aw_281 : (Cond.classLink "KilnKeeper" (43 : Nat) "KilnKeeper$Reader") ∈ AW := AW_m1 228 rfl rfl
theorem aw_282 : (Cond.instantiable "KilnKeeper$Reader" (2 : Nat)) ∈ AW := AW_m1 229 rfl rfl
theorem aw_283 : (Cond.methodLink "KilnKeeper" (45 : Nat) ({ cls := "KilnKeeper$Reader", name := "<init>", desc := "()V" } : MethodName)) ∈ AW := AW_m1 230 rfl rfl
theorem aw_284 : (Cond.instanceMethod ({ cls := "KilnKeeper$Reader", name := "<init>", desc := "()V" } : MethodName)) ∈ AW := AW_m1 231 rfl rfl
theorem aw_285 : (Cond.code ({ cls := "KilnKeeper$Reader", name := "<init>", desc := "()V" } : MethodName) prog_10_method_1_code (2 : Nat) (Option.none : Option FieldType)) ∈ AW := AW_m1 232 rfl rfl
theorem aw_286 : (Cond.methodLink "KilnKeeper$Reader" (3 : Nat) ({ cls := "java/lang/Object", name := "<init>", desc := "()V" } : MethodName)) ∈ AW := AW_m1 233 rfl rfl
theorem aw_287 : (Cond.classLink "KilnKeeper$Reader" (9 : Nat) "java/lang/StringBuilder") ∈ AW := AW_m1 234 rfl rfl
theorem aw_288 : (Cond.instantiable "java/lang/StringBuilder" (4 : Nat)) ∈ AW := AW_m1 235 rfl rfl
theorem aw_289 : (Cond.methodLink "KilnKeeper$Reader" (11 : Nat) ({ cls := "java/lang/StringBuilder", name := "<init>", desc := "()V" } : MethodName)) ∈ AW := AW_m1 236 rfl rfl
theorem aw_290 : (Cond.instanceMethod ({ cls := "java/lang/StringBuilder", name := "<init>", desc := "()V" } : MethodName)) ∈ AW := AW_m1 237 rfl rfl
theorem aw_291 : (Cond.code ({ cls := "java/lang/StringBuilder", name := "<init>", desc := "()V" } : MethodName) prog_22_method_1_code (1 : Nat) (Option.none : Option FieldType)) ∈ AW := AW_m1 238 rfl rfl
theorem aw_292 : (Cond.methodLink "java/lang/StringBuilder" (1 : Nat) ({ cls := "java/lang/AbstractStringBuilder", name := "<init>", desc := "(I)V" } : MethodName)) ∈ AW := AW_m1 239 rfl rfl
theorem aw_293 : (Cond.instanceMethod ({ cls := "java/lang/AbstractStringBuilder", name := "<init>", desc := "(I)V" } : MethodName)) ∈ AW := AW_m2 0 rfl rfl
theorem aw_294 : (Cond.code ({ cls := "java/lang/AbstractStringBuilder", name := "<init>", desc := "(I)V" } : MethodName) prog_16_method_2_code (2 : Nat) (Option.none : Option FieldType)) ∈ AW := AW_m2 1 rfl rfl
theorem aw_295 : (Cond.methodLink "java/lang/AbstractStringBuilder" (3 : Nat) ({ cls := "java/lang/Object", name := "<init>", desc := "()V" } : MethodName)) ∈ AW := AW_m2 2 rfl rfl
theorem aw_296 : (Cond.fieldLink "java/lang/AbstractStringBuilder" (18 : Nat) "java/lang/String" "COMPACT_STRINGS" "Z") ∈ AW := AW_m2 3 rfl rfl
theorem at_297 : (Cond.laysStatic "java/lang/String" "COMPACT_STRINGS" "Z") ∈ lw_tbl := List.mem_append_right _ (List.mem_append_right _ (List.mem_append_left _ (List.mem_of_getElem? (l := tables_1_2) (i := 4) rfl)))
theorem aw_298 : (Cond.methodLink "java/lang/AbstractStringBuilder" (26 : Nat) ({ cls := "java/lang/StringUTF16", name := "newBytesFor", desc := "(I)[B" } : MethodName)) ∈ AW := AW_m2 5 rfl rfl
theorem aw_299 : (Cond.static ({ cls := "java/lang/StringUTF16", name := "newBytesFor", desc := "(I)[B" } : MethodName)) ∈ AW := AW_m2 6 rfl rfl
theorem aw_300 : (Cond.code ({ cls := "java/lang/StringUTF16", name := "newBytesFor", desc := "(I)[B" } : MethodName) prog_24_method_2_code (1 : Nat) (Option.some (FieldType.array FieldType.byte))) ∈ AW := AW_m2 7 rfl rfl
theorem aw_301 : (Cond.methodLink "java/lang/StringUTF16" (11 : Nat) ({ cls := "java/lang/StringUTF16", name := "newBytesLength", desc := "(I)I" } : MethodName)) ∈ AW := AW_m2 8 rfl rfl
theorem aw_302 : (Cond.static ({ cls := "java/lang/StringUTF16", name := "newBytesLength", desc := "(I)I" } : MethodName)) ∈ AW := AW_m2 9 rfl rfl
theorem aw_303 : (Cond.code ({ cls := "java/lang/StringUTF16", name := "newBytesLength", desc := "(I)I" } : MethodName) prog_24_method_3_code (1 : Nat) (Option.some FieldType.int)) ∈ AW := AW_m2 10 rfl rfl
theorem aw_304 : (Cond.constant "java/lang/StringUTF16" (20 : Nat) (1073741823 : Int32)) ∈ AW := AW_m2 11 rfl rfl
theorem aw_305 : (Cond.fieldLink "java/lang/AbstractStringBuilder" (15 : Nat) "java/lang/AbstractStringBuilder" "value" "[B") ∈ AW := AW_m2 12 rfl rfl
theorem aw_306 : (Cond.fieldLink "java/lang/AbstractStringBuilder" (22 : Nat) "java/lang/AbstractStringBuilder" "coder" "B") ∈ AW := AW_m2 13 rfl rfl
theorem aw_307 : (Cond.fieldLink "java/lang/AbstractStringBuilder" (73 : Nat) "java/lang/AbstractStringBuilder" "maybeLatin1" "Z") ∈ AW := AW_m2 14 rfl rfl
theorem aw_308 : (Cond.fieldLink "java/lang/AbstractStringBuilder" (79 : Nat) "java/lang/AbstractStringBuilder" "count" "I") ∈ AW := AW_m2 15 rfl rfl
theorem aw_309 : (Cond.lays "java/lang/StringBuilder" "java/lang/AbstractStringBuilder" "value" "[B") ∈ AW := AW_m2 16 rfl rfl
theorem aw_310 : (Cond.soleField "java/lang/AbstractStringBuilder" "value") ∈ AW := AW_m2 17 rfl rfl
theorem aw_311 : (Cond.lays "java/lang/StringBuilder" "java/lang/AbstractStringBuilder" "coder" "B") ∈ AW := AW_m2 18 rfl rfl
theorem aw_312 : (Cond.soleField "java/lang/AbstractStringBuilder" "coder") ∈ AW := AW_m2 19 rfl rfl
theorem aw_313 : (Cond.lays "java/lang/StringBuilder" "java/lang/AbstractStringBuilder" "maybeLatin1" "Z") ∈ AW := AW_m2 20 rfl rfl
theorem aw_314 : (Cond.soleField "java/lang/AbstractStringBuilder" "maybeLatin1") ∈ AW := AW_m2 21 rfl rfl
theorem aw_315 : (Cond.lays "java/lang/StringBuilder" "java/lang/AbstractStringBuilder" "count" "I") ∈ AW := AW_m2 22 rfl rfl
theorem aw_316 : (Cond.soleField "java/lang/AbstractStringBuilder" "count") ∈ AW := AW_m2 23 rfl rfl
theorem aw_317 : (Cond.superclass "java/lang/StringBuilder" "java/lang/AbstractStringBuilder") ∈ AW := AW_m2 24 rfl rfl
theorem aw_318 : (Cond.arrayClass FieldType.byte) ∈ AW := AW_m2 25 rfl rfl
theorem aw_319 : (Cond.classLink "KilnKeeper$Reader" (18 : Nat) "KilnKeeper$Order") ∈ AW := AW_m2 26 rfl rfl
theorem at_320 : (Cond.arrayOver (FieldType.object "KilnKeeper$Order")) ∈ lw_tbl := List.mem_append_right _ (List.mem_append_right _ (List.mem_append_left _ (List.mem_of_getElem? (l := tables_1_2) (i := 27) rfl)))
theorem aw_321 : (Cond.instantiable "KilnKeeper$Order" (2 : Nat)) ∈ AW := AW_m2 28 rfl rfl
theorem at_322 : (Cond.methodLinkNest "KilnKeeper$Reader" (24 : Nat) ({ cls := "KilnKeeper$Order", name := "<init>", desc := "()V" } : MethodName) "KilnKeeper") ∈ lw_tbl := List.mem_append_right _ (List.mem_append_right _ (List.mem_append_left _ (List.mem_of_getElem? (l := tables_1_2) (i := 29) rfl)))
theorem aw_323 : (Cond.instanceMethod ({ cls := "KilnKeeper$Order", name := "<init>", desc := "()V" } : MethodName)) ∈ AW := AW_m2 30 rfl rfl
theorem aw_324 : (Cond.code ({ cls := "KilnKeeper$Order", name := "<init>", desc := "()V" } : MethodName) prog_7_method_1_code (1 : Nat) (Option.none : Option FieldType)) ∈ AW := AW_m2 31 rfl rfl
theorem aw_325 : (Cond.methodLink "KilnKeeper$Order" (3 : Nat) ({ cls := "java/lang/Object", name := "<init>", desc := "()V" } : MethodName)) ∈ AW := AW_m2 32 rfl rfl
theorem aw_326 : (Cond.fieldLink "KilnKeeper$Order" (9 : Nat) "KilnKeeper$Word" "GO" "LKilnKeeper$Word;") ∈ AW := AW_m2 33 rfl rfl
theorem at_327 : (Cond.laysStatic "KilnKeeper$Word" "GO" "LKilnKeeper$Word;") ∈ lw_tbl := List.mem_append_right _ (List.mem_append_right _ (List.mem_append_left _ (List.mem_of_getElem? (l := tables_1_2) (i := 34) rfl)))
theorem aw_328 : (Cond.fieldLink "KilnKeeper$Order" (15 : Nat) "KilnKeeper$Order" "word" "LKilnKeeper$Word;") ∈ AW := AW_m2 35 rfl rfl
theorem aw_329 : (Cond.fieldLink "KilnKeeper$Reader" (74 : Nat) "KilnKeeper$Order" "word" "LKilnKeeper$Word;") ∈ AW := AW_m2 36 rfl rfl
theorem aw_330 : (Cond.fieldLink "KilnKeeper" (254 : Nat) "KilnKeeper$Order" "word" "LKilnKeeper$Word;") ∈ AW := AW_m2 37 rfl rfl
theorem aw_331 : (Cond.fieldLink "KilnKeeper$Order" (20 : Nat) "KilnKeeper$Order" "numbers" "[I") ∈ AW := AW_m2 38 rfl rfl
theorem aw_332 : (Cond.fieldLink "KilnKeeper$Reader" (94 : Nat) "KilnKeeper$Order" "numbers" "[I") ∈ AW := AW_m2 39 rfl rfl
theorem aw_333 : (Cond.fieldLink "KilnKeeper" (260 : Nat) "KilnKeeper$Order" "numbers" "[I") ∈ AW := AW_m2 40 rfl rfl
theorem aw_334 : (Cond.lays "KilnKeeper$Order" "KilnKeeper$Order" "word" "LKilnKeeper$Word;") ∈ AW := AW_m2 41 rfl rfl
theorem aw_335 : (Cond.soleField "KilnKeeper$Order" "word") ∈ AW := AW_m2 42 rfl rfl
theorem aw_336 : (Cond.laysFinal "KilnKeeper$Order" "KilnKeeper$Order" "numbers" "[I") ∈ AW := AW_m2 43 rfl rfl
theorem aw_337 : (Cond.soleField "KilnKeeper$Order" "numbers") ∈ AW := AW_m2 44 rfl rfl
theorem aw_338 : (Cond.superclass "KilnKeeper$Order" "java/lang/Object") ∈ AW := AW_m2 45 rfl rfl
theorem aw_339 : (Cond.fieldLink "KilnKeeper$Reader" (12 : Nat) "KilnKeeper$Reader" "text" "Ljava/lang/StringBuilder;") ∈ AW := AW_m2 46 rfl rfl
theorem aw_340 : (Cond.fieldLink "KilnKeeper$Reader" (20 : Nat) "KilnKeeper$Reader" "orders" "[LKilnKeeper$Order;") ∈ AW := AW_m2 47 rfl rfl
theorem aw_341 : (Cond.laysFinal "KilnKeeper$Reader" "KilnKeeper$Reader" "text" "Ljava/lang/StringBuilder;") ∈ AW := AW_m2 48 rfl rfl
theorem aw_342 : (Cond.soleField "KilnKeeper$Reader" "text") ∈ AW := AW_m2 49 rfl rfl
theorem aw_343 : (Cond.laysFinal "KilnKeeper$Reader" "KilnKeeper$Reader" "orders" "[LKilnKeeper$Order;") ∈ AW := AW_m2 50 rfl rfl
theorem aw_344 : (Cond.soleField "KilnKeeper$Reader" "orders") ∈ AW := AW_m2 51 rfl rfl
theorem aw_345 : (Cond.superclass "KilnKeeper$Reader" "java/lang/Object") ∈ AW := AW_m2 52 rfl rfl
theorem aw_346 : (Cond.classLink "KilnKeeper" (50 : Nat) "java/lang/StringBuilder") ∈ AW := AW_m2 53 rfl rfl
theorem aw_347 : (Cond.methodLink "KilnKeeper" (52 : Nat) ({ cls := "java/lang/StringBuilder", name := "<init>", desc := "()V" } : MethodName)) ∈ AW := AW_m2 54 rfl rfl
theorem aw_348 : (Cond.fieldLink "KilnKeeper" (10 : Nat) "KilnKeeper" "kiln" "LKilnKeeper$Kiln;") ∈ AW := AW_m2 55 rfl rfl
theorem aw_349 : (Cond.fieldLink "KilnKeeper" (16 : Nat) "KilnKeeper" "spare" "LKilnKeeper$Kiln;") ∈ AW := AW_m2 56 rfl rfl
theorem aw_350 : (Cond.fieldLink "KilnKeeper" (19 : Nat) "KilnKeeper" "snapshot" "LKilnKeeper$Kiln;") ∈ AW := AW_m2 57 rfl rfl
theorem aw_351 : (Cond.fieldLink "KilnKeeper" (22 : Nat) "KilnKeeper" "isSaved" "Z") ∈ AW := AW_m2 58 rfl rfl
theorem aw_352 : (Cond.fieldLink "KilnKeeper" (29 : Nat) "KilnKeeper" "changes" "LKilnKeeper$Changes;") ∈ AW := AW_m2 59 rfl rfl
theorem aw_353 : (Cond.fieldLink "KilnKeeper" (36 : Nat) "KilnKeeper" "refusal" "LKilnKeeper$Refusal;") ∈ AW := AW_m2 60 rfl rfl
theorem aw_354 : (Cond.fieldLink "KilnKeeper" (40 : Nat) "KilnKeeper" "unheard" "LKilnKeeper$Refusal;") ∈ AW := AW_m2 61 rfl rfl
theorem aw_355 : (Cond.fieldLink "KilnKeeper" (46 : Nat) "KilnKeeper" "reader" "LKilnKeeper$Reader;") ∈ AW := AW_m2 62 rfl rfl
theorem aw_356 : (Cond.fieldLink "KilnKeeper" (53 : Nat) "KilnKeeper" "line" "Ljava/lang/StringBuilder;") ∈ AW := AW_m2 63 rfl rfl
theorem aw_357 : (Cond.laysFinal "KilnKeeper" "KilnKeeper" "kiln" "LKilnKeeper$Kiln;") ∈ AW := AW_m2 64 rfl rfl
theorem aw_358 : (Cond.soleField "KilnKeeper" "kiln") ∈ AW := AW_m2 65 rfl rfl
theorem aw_359 : (Cond.laysFinal "KilnKeeper" "KilnKeeper" "spare" "LKilnKeeper$Kiln;") ∈ AW := AW_m2 66 rfl rfl
theorem aw_360 : (Cond.soleField "KilnKeeper" "spare") ∈ AW := AW_m2 67 rfl rfl
theorem aw_361 : (Cond.laysFinal "KilnKeeper" "KilnKeeper" "snapshot" "LKilnKeeper$Kiln;") ∈ AW := AW_m2 68 rfl rfl
theorem aw_362 : (Cond.soleField "KilnKeeper" "snapshot") ∈ AW := AW_m2 69 rfl rfl
theorem aw_363 : (Cond.lays "KilnKeeper" "KilnKeeper" "isSaved" "Z") ∈ AW := AW_m2 70 rfl rfl
theorem aw_364 : (Cond.soleField "KilnKeeper" "isSaved") ∈ AW := AW_m2 71 rfl rfl
theorem aw_365 : (Cond.laysFinal "KilnKeeper" "KilnKeeper" "changes" "LKilnKeeper$Changes;") ∈ AW := AW_m2 72 rfl rfl
theorem aw_366 : (Cond.soleField "KilnKeeper" "changes") ∈ AW := AW_m2 73 rfl rfl
theorem aw_367 : (Cond.laysFinal "KilnKeeper" "KilnKeeper" "refusal" "LKilnKeeper$Refusal;") ∈ AW := AW_m2 74 rfl rfl
theorem aw_368 : (Cond.soleField "KilnKeeper" "refusal") ∈ AW := AW_m2 75 rfl rfl
theorem aw_369 : (Cond.laysFinal "KilnKeeper" "KilnKeeper" "unheard" "LKilnKeeper$Refusal;") ∈ AW := AW_m2 76 rfl rfl
theorem aw_370 : (Cond.soleField "KilnKeeper" "unheard") ∈ AW := AW_m2 77 rfl rfl
theorem aw_371 : (Cond.laysFinal "KilnKeeper" "KilnKeeper" "reader" "LKilnKeeper$Reader;") ∈ AW := AW_m2 78 rfl rfl
theorem aw_372 : (Cond.soleField "KilnKeeper" "reader") ∈ AW := AW_m2 79 rfl rfl
theorem aw_373 : (Cond.laysFinal "KilnKeeper" "KilnKeeper" "line" "Ljava/lang/StringBuilder;") ∈ AW := AW_m2 80 rfl rfl
theorem aw_374 : (Cond.soleField "KilnKeeper" "line") ∈ AW := AW_m2 81 rfl rfl
theorem aw_375 : (Cond.superclass "KilnKeeper" "java/lang/Object") ∈ AW := AW_m2 82 rfl rfl
theorem aw_376 : (Cond.methodLink "KilnKeeperLaw" (13 : Nat) ({ cls := "KilnKeeper", name := "aim", desc := "(I)I" } : MethodName)) ∈ AW := AW_m2 83 rfl rfl
theorem aw_377 : (Cond.instanceMethod ({ cls := "KilnKeeper", name := "aim", desc := "(I)I" } : MethodName)) ∈ AW := AW_m2 84 rfl rfl
theorem aw_378 : (Cond.selects "KilnKeeper" ({ cls := "KilnKeeper", name := "aim", desc := "(I)I" } : MethodName) ({ cls := "KilnKeeper", name := "aim", desc := "(I)I" } : MethodName)) ∈ AW := AW_m2 85 rfl rfl
theorem aw_379 : (Cond.code ({ cls := "KilnKeeper", name := "aim", desc := "(I)I" } : MethodName) prog_1_method_2_code (2 : Nat) (Option.some FieldType.int)) ∈ AW := AW_m2 86 rfl rfl
theorem aw_380 : (Cond.methodLink "KilnKeeper" (57 : Nat) ({ cls := "KilnKeeper", name := "beginChange", desc := "()V" } : MethodName)) ∈ AW := AW_m2 87 rfl rfl
theorem at_381 : (Cond.privateMethod ({ cls := "KilnKeeper", name := "beginChange", desc := "()V" } : MethodName)) ∈ lw_tbl := List.mem_append_right _ (List.mem_append_right _ (List.mem_append_left _ (List.mem_of_getElem? (l := tables_1_2) (i := 88) rfl)))
theorem aw_382 : (Cond.instanceMethod ({ cls := "KilnKeeper", name := "beginChange", desc := "()V" } : MethodName)) ∈ AW := AW_m2 89 rfl rfl
theorem aw_383 : (Cond.code ({ cls := "KilnKeeper", name := "beginChange", desc := "()V" } : MethodName) prog_1_method_36_code (1 : Nat) (Option.none : Option FieldType)) ∈ AW := AW_m2 90 rfl rfl
theorem aw_384 : (Cond.methodLink "KilnKeeper" (247 : Nat) ({ cls := "KilnKeeper$Kiln", name := "copyFrom", desc := "(LKilnKeeper$Kiln;)V" } : MethodName)) ∈ AW := AW_m2 91 rfl rfl
theorem aw_385 : (Cond.instanceMethod ({ cls := "KilnKeeper$Kiln", name := "copyFrom", desc := "(LKilnKeeper$Kiln;)V" } : MethodName)) ∈ AW := AW_m2 92 rfl rfl
theorem aw_386 : (Cond.selects "KilnKeeper$Kiln" ({ cls := "KilnKeeper$Kiln", name := "copyFrom", desc := "(LKilnKeeper$Kiln;)V" } : MethodName) ({ cls := "KilnKeeper$Kiln", name := "copyFrom", desc := "(LKilnKeeper$Kiln;)V" } : MethodName)) ∈ AW := AW_m2 93 rfl rfl
theorem aw_387 : (Cond.code ({ cls := "KilnKeeper$Kiln", name := "copyFrom", desc := "(LKilnKeeper$Kiln;)V" } : MethodName) prog_5_method_2_code (2 : Nat) (Option.none : Option FieldType)) ∈ AW := AW_m2 94 rfl rfl
theorem aw_388 : (Cond.methodLink "KilnKeeper$Kiln" (52 : Nat) ({ cls := "KilnKeeper$Regulator", name := "copyFrom", desc := "(LKilnKeeper$Regulator;)V" } : MethodName)) ∈ AW := AW_m2 95 rfl rfl
theorem aw_389 : (Cond.instanceMethod ({ cls := "KilnKeeper$Regulator", name := "copyFrom", desc := "(LKilnKeeper$Regulator;)V" } : MethodName)) ∈ AW := AW_m2 96 rfl rfl
theorem aw_390 : (Cond.selects "KilnKeeper$Regulator" ({ cls := "KilnKeeper$Regulator", name := "copyFrom", desc := "(LKilnKeeper$Regulator;)V" } : MethodName) ({ cls := "KilnKeeper$Regulator", name := "copyFrom", desc := "(LKilnKeeper$Regulator;)V" } : MethodName)) ∈ AW := AW_m2 97 rfl rfl
theorem aw_391 : (Cond.code ({ cls := "KilnKeeper$Regulator", name := "copyFrom", desc := "(LKilnKeeper$Regulator;)V" } : MethodName) prog_12_method_2_code (2 : Nat) (Option.none : Option FieldType)) ∈ AW := AW_m2 98 rfl rfl
theorem aw_392 : (Cond.methodLink "KilnKeeper$Kiln" (56 : Nat) ({ cls := "KilnKeeper$LagRow", name := "copyFrom", desc := "(LKilnKeeper$LagRow;)V" } : MethodName)) ∈ AW := AW_m2 99 rfl rfl
theorem aw_393 : (Cond.instanceMethod ({ cls := "KilnKeeper$LagRow", name := "copyFrom", desc := "(LKilnKeeper$LagRow;)V" } : MethodName)) ∈ AW := AW_m2 100 rfl rfl
theorem aw_394 : (Cond.selects "KilnKeeper$LagRow" ({ cls := "KilnKeeper$LagRow", name := "copyFrom", desc := "(LKilnKeeper$LagRow;)V" } : MethodName) ({ cls := "KilnKeeper$LagRow", name := "copyFrom", desc := "(LKilnKeeper$LagRow;)V" } : MethodName)) ∈ AW := AW_m2 101 rfl rfl
theorem aw_395 : (Cond.code ({ cls := "KilnKeeper$LagRow", name := "copyFrom", desc := "(LKilnKeeper$LagRow;)V" } : MethodName) prog_6_method_2_code (2 : Nat) (Option.none : Option FieldType)) ∈ AW := AW_m2 102 rfl rfl
theorem at_396 : (Cond.methodLinkNest "KilnKeeper$LagRow" (19 : Nat) ({ cls := "KilnKeeper", name := "copyRow", desc := "([I[I)V" } : MethodName) "KilnKeeper") ∈ lw_tbl := List.mem_append_right _ (List.mem_append_right _ (List.mem_append_left _ (List.mem_of_getElem? (l := tables_1_2) (i := 103) rfl)))
theorem aw_397 : (Cond.static ({ cls := "KilnKeeper", name := "copyRow", desc := "([I[I)V" } : MethodName)) ∈ AW := AW_m2 104 rfl rfl
theorem aw_398 : (Cond.code ({ cls := "KilnKeeper", name := "copyRow", desc := "([I[I)V" } : MethodName) prog_1_method_44_code (3 : Nat) (Option.none : Option FieldType)) ∈ AW := AW_m2 105 rfl rfl
theorem aw_399 : (Cond.methodLink "KilnKeeper$Kiln" (59 : Nat) ({ cls := "KilnKeeper$Book", name := "copyFrom", desc := "(LKilnKeeper$Book;)V" } : MethodName)) ∈ AW := AW_m2 106 rfl rfl
theorem aw_400 : (Cond.instanceMethod ({ cls := "KilnKeeper$Book", name := "copyFrom", desc := "(LKilnKeeper$Book;)V" } : MethodName)) ∈ AW := AW_m2 107 rfl rfl
theorem aw_401 : (Cond.selects "KilnKeeper$Book" ({ cls := "KilnKeeper$Book", name := "copyFrom", desc := "(LKilnKeeper$Book;)V" } : MethodName) ({ cls := "KilnKeeper$Book", name := "copyFrom", desc := "(LKilnKeeper$Book;)V" } : MethodName)) ∈ AW := AW_m2 108 rfl rfl
theorem aw_402 : (Cond.code ({ cls := "KilnKeeper$Book", name := "copyFrom", desc := "(LKilnKeeper$Book;)V" } : MethodName) prog_3_method_2_code (2 : Nat) (Option.none : Option FieldType)) ∈ AW := AW_m2 109 rfl rfl
theorem at_403 : (Cond.methodLinkNest "KilnKeeper$Book" (31 : Nat) ({ cls := "KilnKeeper", name := "copyRow", desc := "([I[I)V" } : MethodName) "KilnKeeper") ∈ lw_tbl := List.mem_append_right _ (List.mem_append_right _ (List.mem_append_left _ (List.mem_of_getElem? (l := tables_1_2) (i := 110) rfl)))
theorem aw_404 : (Cond.methodLink "KilnKeeper$Kiln" (62 : Nat) ({ cls := "KilnKeeper$Rack", name := "copyFrom", desc := "(LKilnKeeper$Rack;)V" } : MethodName)) ∈ AW := AW_m2 111 rfl rfl
theorem aw_405 : (Cond.instanceMethod ({ cls := "KilnKeeper$Rack", name := "copyFrom", desc := "(LKilnKeeper$Rack;)V" } : MethodName)) ∈ AW := AW_m2 112 rfl rfl
theorem aw_406 : (Cond.selects "KilnKeeper$Rack" ({ cls := "KilnKeeper$Rack", name := "copyFrom", desc := "(LKilnKeeper$Rack;)V" } : MethodName) ({ cls := "KilnKeeper$Rack", name := "copyFrom", desc := "(LKilnKeeper$Rack;)V" } : MethodName)) ∈ AW := AW_m2 113 rfl rfl
theorem aw_407 : (Cond.code ({ cls := "KilnKeeper$Rack", name := "copyFrom", desc := "(LKilnKeeper$Rack;)V" } : MethodName) prog_9_method_2_code (5 : Nat) (Option.none : Option FieldType)) ∈ AW := AW_m2 114 rfl rfl
theorem aw_408 : (Cond.methodLink "KilnKeeper$Rack" (22 : Nat) ({ cls := "KilnKeeper$Rack", name := "find", desc := "(I)LKilnKeeper$Pot;" } : MethodName)) ∈ AW := AW_m2 115 rfl rfl
theorem aw_409 : (Cond.instanceMethod ({ cls := "KilnKeeper$Rack", name := "find", desc := "(I)LKilnKeeper$Pot;" } : MethodName)) ∈ AW := AW_m2 116 rfl rfl
theorem aw_410 : (Cond.selects "KilnKeeper$Rack" ({ cls := "KilnKeeper$Rack", name := "find", desc := "(I)LKilnKeeper$Pot;" } : MethodName) ({ cls := "KilnKeeper$Rack", name := "find", desc := "(I)LKilnKeeper$Pot;" } : MethodName)) ∈ AW := AW_m2 117 rfl rfl
theorem aw_411 : (Cond.code ({ cls := "KilnKeeper$Rack", name := "find", desc := "(I)LKilnKeeper$Pot;" } : MethodName) prog_9_method_3_code (2 : Nat) (Option.some (FieldType.object "KilnKeeper$Pot"))) ∈ AW := AW_m2 118 rfl rfl
theorem aw_412 : (Cond.methodLink "KilnKeeper$Rack" (26 : Nat) ({ cls := "KilnKeeper$Pot", name := "copyFrom", desc := "(LKilnKeeper$Pot;)V" } : MethodName)) ∈ AW := AW_m2 119 rfl rfl
theorem aw_413 : (Cond.instanceMethod ({ cls := "KilnKeeper$Pot", name := "copyFrom", desc := "(LKilnKeeper$Pot;)V" } : MethodName)) ∈ AW := AW_m2 120 rfl rfl
theorem aw_414 : (Cond.selects "KilnKeeper$Pot" ({ cls := "KilnKeeper$Pot", name := "copyFrom", desc := "(LKilnKeeper$Pot;)V" } : MethodName) ({ cls := "KilnKeeper$Pot", name := "copyFrom", desc := "(LKilnKeeper$Pot;)V" } : MethodName)) ∈ AW := AW_m2 121 rfl rfl
theorem aw_415 : (Cond.code ({ cls := "KilnKeeper$Pot", name := "copyFrom", desc := "(LKilnKeeper$Pot;)V" } : MethodName) prog_8_method_2_code (2 : Nat) (Option.none : Option FieldType)) ∈ AW := AW_m2 122 rfl rfl
theorem aw_416 : (Cond.methodLink "KilnKeeper" (60 : Nat) ({ cls := "KilnKeeper$Kiln", name := "aimAt", desc := "(ILKilnKeeper$Refusal;)I" } : MethodName)) ∈ AW := AW_m2 123 rfl rfl
theorem aw_417 : (Cond.instanceMethod ({ cls := "KilnKeeper$Kiln", name := "aimAt", desc := "(ILKilnKeeper$Refusal;)I" } : MethodName)) ∈ AW := AW_m2 124 rfl rfl
theorem aw_418 : (Cond.selects "KilnKeeper$Kiln" ({ cls := "KilnKeeper$Kiln", name := "aimAt", desc := "(ILKilnKeeper$Refusal;)I" } : MethodName) ({ cls := "KilnKeeper$Kiln", name := "aimAt", desc := "(ILKilnKeeper$Refusal;)I" } : MethodName)) ∈ AW := AW_m2 125 rfl rfl
theorem aw_419 : (Cond.code ({ cls := "KilnKeeper$Kiln", name := "aimAt", desc := "(ILKilnKeeper$Refusal;)I" } : MethodName) prog_5_method_4_code (4 : Nat) (Option.some FieldType.int)) ∈ AW := AW_m2 126 rfl rfl
theorem at_420 : (Cond.methodLinkNest "KilnKeeper$Kiln" (65 : Nat) ({ cls := "KilnKeeper", name := "isFrom", desc := "(III)Z" } : MethodName) "KilnKeeper") ∈ lw_tbl := List.mem_append_right _ (List.mem_append_right _ (List.mem_append_left _ (List.mem_of_getElem? (l := tables_1_2) (i := 127) rfl)))
theorem aw_421 : (Cond.static ({ cls := "KilnKeeper", name := "isFrom", desc := "(III)Z" } : MethodName)) ∈ AW := AW_m2 128 rfl rfl
theorem aw_422 : (Cond.code ({ cls := "KilnKeeper", name := "isFrom", desc := "(III)Z" } : MethodName) prog_1_method_40_code (3 : Nat) (Option.some FieldType.boolean)) ∈ AW := AW_m2 129 rfl rfl
theorem aw_423 : (Cond.methodLink "KilnKeeper$Kiln" (69 : Nat) ({ cls := "KilnKeeper$Refusal", name := "because", desc := "(II)I" } : MethodName)) ∈ AW := AW_m2 130 rfl rfl
theorem aw_424 : (Cond.instanceMethod ({ cls := "KilnKeeper$Refusal", name := "because", desc := "(II)I" } : MethodName)) ∈ AW := AW_m2 131 rfl rfl
theorem aw_425 : (Cond.selects "KilnKeeper$Refusal" ({ cls := "KilnKeeper$Refusal", name := "because", desc := "(II)I" } : MethodName) ({ cls := "KilnKeeper$Refusal", name := "because", desc := "(II)I" } : MethodName)) ∈ AW := AW_m2 132 rfl rfl
theorem aw_426 : (Cond.code ({ cls := "KilnKeeper$Refusal", name := "because", desc := "(II)I" } : MethodName) prog_11_method_2_code (3 : Nat) (Option.some FieldType.int)) ∈ AW := AW_m2 133 rfl rfl
theorem aw_427 : (Cond.methodLink "KilnKeeper" (64 : Nat) ({ cls := "KilnKeeper", name := "endChange", desc := "(I)I" } : MethodName)) ∈ AW := AW_m2 134 rfl rfl
theorem at_428 : (Cond.privateMethod ({ cls := "KilnKeeper", name := "endChange", desc := "(I)I" } : MethodName)) ∈ lw_tbl := List.mem_append_right _ (List.mem_append_right _ (List.mem_append_left _ (List.mem_of_getElem? (l := tables_1_2) (i := 135) rfl)))
theorem aw_429 : (Cond.instanceMethod ({ cls := "KilnKeeper", name := "endChange", desc := "(I)I" } : MethodName)) ∈ AW := AW_m2 136 rfl rfl
theorem aw_430 : (Cond.code ({ cls := "KilnKeeper", name := "endChange", desc := "(I)I" } : MethodName) prog_1_method_37_code (2 : Nat) (Option.some FieldType.int)) ∈ AW := AW_m2 137 rfl rfl
theorem aw_431 : (Cond.methodLink "KilnKeeper" (251 : Nat) ({ cls := "KilnKeeper$Changes", name := "keep", desc := "(LKilnKeeper$Kiln;)V" } : MethodName)) ∈ AW := AW_m2 138 rfl rfl
theorem aw_432 : (Cond.instanceMethod ({ cls := "KilnKeeper$Changes", name := "keep", desc := "(LKilnKeeper$Kiln;)V" } : MethodName)) ∈ AW := AW_m2 139 rfl rfl
theorem aw_433 : (Cond.selects "KilnKeeper$Changes" ({ cls := "KilnKeeper$Changes", name := "keep", desc := "(LKilnKeeper$Kiln;)V" } : MethodName) ({ cls := "KilnKeeper$Changes", name := "keep", desc := "(LKilnKeeper$Kiln;)V" } : MethodName)) ∈ AW := AW_m2 140 rfl rfl
theorem aw_434 : (Cond.code ({ cls := "KilnKeeper$Changes", name := "keep", desc := "(LKilnKeeper$Kiln;)V" } : MethodName) prog_4_method_2_code (3 : Nat) (Option.none : Option FieldType)) ∈ AW := AW_m2 141 rfl rfl
theorem aw_435 : (Cond.methodLink "KilnKeeper$Changes" (25 : Nat) ({ cls := "KilnKeeper$Changes", name := "kilnAt", desc := "(I)LKilnKeeper$Kiln;" } : MethodName)) ∈ AW := AW_m2 142 rfl rfl
theorem at_436 : (Cond.privateMethod ({ cls := "KilnKeeper$Changes", name := "kilnAt", desc := "(I)LKilnKeeper$Kiln;" } : MethodName)) ∈ lw_tbl := List.mem_append_right _ (List.mem_append_right _ (List.mem_append_left _ (List.mem_of_getElem? (l := tables_1_2) (i := 143) rfl)))
theorem aw_437 : (Cond.instanceMethod ({ cls := "KilnKeeper$Changes", name := "kilnAt", desc := "(I)LKilnKeeper$Kiln;" } : MethodName)) ∈ AW := AW_m2 144 rfl rfl
theorem aw_438 : (Cond.code ({ cls := "KilnKeeper$Changes", name := "kilnAt", desc := "(I)LKilnKeeper$Kiln;" } : MethodName) prog_4_method_4_code (3 : Nat) (Option.some (FieldType.object "KilnKeeper$Kiln"))) ∈ AW := AW_m2 145 rfl rfl
theorem aw_439 : (Cond.methodLink "KilnKeeper$Changes" (29 : Nat) ({ cls := "KilnKeeper$Kiln", name := "copyFrom", desc := "(LKilnKeeper$Kiln;)V" } : MethodName)) ∈ AW := AW_m2 146 rfl rfl
theorem aw_440 : (Cond.methodLink "KilnKeeperLaw" (18 : Nat) ({ cls := "KilnKeeper", name := "gains", desc := "(III)I" } : MethodName)) ∈ AW := AW_m2 147 rfl rfl
theorem aw_441 : (Cond.instanceMethod ({ cls := "KilnKeeper", name := "gains", desc := "(III)I" } : MethodName)) ∈ AW := AW_m2 148 rfl rfl
theorem aw_442 : (Cond.selects "KilnKeeper" ({ cls := "KilnKeeper", name := "gains", desc := "(III)I" } : MethodName) ({ cls := "KilnKeeper", name := "gains", desc := "(III)I" } : MethodName)) ∈ AW := AW_m2 149 rfl rfl
theorem aw_443 : (Cond.code ({ cls := "KilnKeeper", name := "gains", desc := "(III)I" } : MethodName) prog_1_method_3_code (4 : Nat) (Option.some FieldType.int)) ∈ AW := AW_m2 150 rfl rfl
theorem aw_444 : (Cond.methodLink "KilnKeeper" (72 : Nat) ({ cls := "KilnKeeper$Regulator", name := "tellGains", desc := "(III)I" } : MethodName)) ∈ AW := AW_m2 151 rfl rfl
theorem aw_445 : (Cond.instanceMethod ({ cls := "KilnKeeper$Regulator", name := "tellGains", desc := "(III)I" } : MethodName)) ∈ AW := AW_m2 152 rfl rfl
theorem aw_446 : (Cond.selects "KilnKeeper$Regulator" ({ cls := "KilnKeeper$Regulator", name := "tellGains", desc := "(III)I" } : MethodName) ({ cls := "KilnKeeper$Regulator", name := "tellGains", desc := "(III)I" } : MethodName)) ∈ AW := AW_m2 153 rfl rfl
theorem aw_447 : (Cond.code ({ cls := "KilnKeeper$Regulator", name := "tellGains", desc := "(III)I" } : MethodName) prog_12_method_3_code (5 : Nat) (Option.some FieldType.int)) ∈ AW := AW_m2 154 rfl rfl
theorem at_448 : (Cond.methodLinkNest "KilnKeeper$Regulator" (30 : Nat) ({ cls := "KilnKeeper", name := "isFrom", desc := "(III)Z" } : MethodName) "KilnKeeper") ∈ lw_tbl := List.mem_append_right _ (List.mem_append_right _ (List.mem_append_left _ (List.mem_of_getElem? (l := tables_1_2) (i := 155) rfl)))
theorem aw_449 : (Cond.methodLink "KilnKeeperLaw" (23 : Nat) ({ cls := "KilnKeeper", name := "cap", desc := "(I)I" } : MethodName)) ∈ AW := AW_m2 156 rfl rfl
theorem aw_450 : (Cond.instanceMethod ({ cls := "KilnKeeper", name := "cap", desc := "(I)I" } : MethodName)) ∈ AW := AW_m2 157 rfl rfl
theorem aw_451 : (Cond.selects "KilnKeeper" ({ cls := "KilnKeeper", name := "cap", desc := "(I)I" } : MethodName) ({ cls := "KilnKeeper", name := "cap", desc := "(I)I" } : MethodName)) ∈ AW := AW_m2 158 rfl rfl
theorem aw_452 : (Cond.code ({ cls := "KilnKeeper", name := "cap", desc := "(I)I" } : MethodName) prog_1_method_4_code (2 : Nat) (Option.some FieldType.int)) ∈ AW := AW_m2 159 rfl rfl
theorem aw_453 : (Cond.methodLink "KilnKeeper" (78 : Nat) ({ cls := "KilnKeeper$Regulator", name := "tellCap", desc := "(ILKilnKeeper$Refusal;)I" } : MethodName)) ∈ AW := AW_m2 160 rfl rfl
theorem aw_454 : (Cond.instanceMethod ({ cls := "KilnKeeper$Regulator", name := "tellCap", desc := "(ILKilnKeeper$Refusal;)I" } : MethodName)) ∈ AW := AW_m2 161 rfl rfl
theorem aw_455 : (Cond.selects "KilnKeeper$Regulator" ({ cls := "KilnKeeper$Regulator", name := "tellCap", desc := "(ILKilnKeeper$Refusal;)I" } : MethodName) ({ cls := "KilnKeeper$Regulator", name := "tellCap", desc := "(ILKilnKeeper$Refusal;)I" } : MethodName)) ∈ AW := AW_m2 162 rfl rfl
theorem aw_456 : (Cond.code ({ cls := "KilnKeeper$Regulator", name := "tellCap", desc := "(ILKilnKeeper$Refusal;)I" } : MethodName) prog_12_method_4_code (4 : Nat) (Option.some FieldType.int)) ∈ AW := AW_m2 163 rfl rfl
theorem aw_457 : (Cond.methodLink "KilnKeeper$Regulator" (34 : Nat) ({ cls := "KilnKeeper$Refusal", name := "because", desc := "(II)I" } : MethodName)) ∈ AW := AW_m2 164 rfl rfl
theorem at_458 : (Cond.methodLinkNest "KilnKeeper$Regulator" (40 : Nat) ({ cls := "KilnKeeper", name := "between", desc := "(III)I" } : MethodName) "KilnKeeper") ∈ lw_tbl := List.mem_append_right _ (List.mem_append_right _ (List.mem_append_left _ (List.mem_of_getElem? (l := tables_1_2) (i := 165) rfl)))
theorem aw_459 : (Cond.static ({ cls := "KilnKeeper", name := "between", desc := "(III)I" } : MethodName)) ∈ AW := AW_m2 166 rfl rfl
theorem aw_460 : (Cond.code ({ cls := "KilnKeeper", name := "between", desc := "(III)I" } : MethodName) prog_1_method_41_code (3 : Nat) (Option.some FieldType.int)) ∈ AW := AW_m2 167 rfl rfl
theorem aw_461 : (Cond.methodLink "KilnKeeperLaw" (27 : Nat) ({ cls := "KilnKeeper", name := "lag", desc := "(I)I" } : MethodName)) ∈ AW := AW_m2 168 rfl rfl
theorem aw_462 : (Cond.instanceMethod ({ cls := "KilnKeeper", name := "lag", desc := "(I)I" } : MethodName)) ∈ AW := AW_m2 169 rfl rfl
theorem aw_463 : (Cond.selects "KilnKeeper" ({ cls := "KilnKeeper", name := "lag", desc := "(I)I" } : MethodName) ({ cls := "KilnKeeper", name := "lag", desc := "(I)I" } : MethodName)) ∈ AW := AW_m2 170 rfl rfl
theorem aw_464 : (Cond.code ({ cls := "KilnKeeper", name := "lag", desc := "(I)I" } : MethodName) prog_1_method_5_code (2 : Nat) (Option.some FieldType.int)) ∈ AW := AW_m2 171 rfl rfl
theorem aw_465 : (Cond.methodLink "KilnKeeper" (81 : Nat) ({ cls := "KilnKeeper$Kiln", name := "tellLag", desc := "(ILKilnKeeper$Refusal;)I" } : MethodName)) ∈ AW := AW_m2 172 rfl rfl
theorem aw_466 : (Cond.instanceMethod ({ cls := "KilnKeeper$Kiln", name := "tellLag", desc := "(ILKilnKeeper$Refusal;)I" } : MethodName)) ∈ AW := AW_m2 173 rfl rfl
theorem aw_467 : (Cond.selects "KilnKeeper$Kiln" ({ cls := "KilnKeeper$Kiln", name := "tellLag", desc := "(ILKilnKeeper$Refusal;)I" } : MethodName) ({ cls := "KilnKeeper$Kiln", name := "tellLag", desc := "(ILKilnKeeper$Refusal;)I" } : MethodName)) ∈ AW := AW_m2 174 rfl rfl
theorem aw_468 : (Cond.code ({ cls := "KilnKeeper$Kiln", name := "tellLag", desc := "(ILKilnKeeper$Refusal;)I" } : MethodName) prog_5_method_5_code (4 : Nat) (Option.some FieldType.int)) ∈ AW := AW_m2 175 rfl rfl
theorem aw_469 : (Cond.methodLink "KilnKeeper$Kiln" (78 : Nat) ({ cls := "KilnKeeper$LagRow", name := "resize", desc := "(II)V" } : MethodName)) ∈ AW := AW_m2 176 rfl rfl
theorem aw_470 : (Cond.instanceMethod ({ cls := "KilnKeeper$LagRow", name := "resize", desc := "(II)V" } : MethodName)) ∈ AW := AW_m2 177 rfl rfl
theorem aw_471 : (Cond.selects "KilnKeeper$LagRow" ({ cls := "KilnKeeper$LagRow", name := "resize", desc := "(II)V" } : MethodName) ({ cls := "KilnKeeper$LagRow", name := "resize", desc := "(II)V" } : MethodName)) ∈ AW := AW_m2 178 rfl rfl
theorem aw_472 : (Cond.code ({ cls := "KilnKeeper$LagRow", name := "resize", desc := "(II)V" } : MethodName) prog_6_method_4_code (5 : Nat) (Option.none : Option FieldType)) ∈ AW := AW_m2 179 rfl rfl
theorem aw_473 : (Cond.methodLink "KilnKeeper$LagRow" (27 : Nat) ({ cls := "KilnKeeper$LagRow", name := "shiftBy", desc := "(I)V" } : MethodName)) ∈ AW := AW_m2 180 rfl rfl
theorem at_474 : (Cond.privateMethod ({ cls := "KilnKeeper$LagRow", name := "shiftBy", desc := "(I)V" } : MethodName)) ∈ lw_tbl := List.mem_append_right _ (List.mem_append_right _ (List.mem_append_left _ (List.mem_of_getElem? (l := tables_1_2) (i := 181) rfl)))
theorem aw_475 : (Cond.instanceMethod ({ cls := "KilnKeeper$LagRow", name := "shiftBy", desc := "(I)V" } : MethodName)) ∈ AW := AW_m2 182 rfl rfl
theorem aw_476 : (Cond.code ({ cls := "KilnKeeper$LagRow", name := "shiftBy", desc := "(I)V" } : MethodName) prog_6_method_6_code (3 : Nat) (Option.none : Option FieldType)) ∈ AW := AW_m2 183 rfl rfl
theorem at_477 : (Cond.methodLinkNest "KilnKeeper$LagRow" (23 : Nat) ({ cls := "KilnKeeper", name := "numberAt", desc := "([II)I" } : MethodName) "KilnKeeper") ∈ lw_tbl := List.mem_append_right _ (List.mem_append_right _ (List.mem_append_left _ (List.mem_of_getElem? (l := tables_1_2) (i := 184) rfl)))
theorem aw_478 : (Cond.static ({ cls := "KilnKeeper", name := "numberAt", desc := "([II)I" } : MethodName)) ∈ AW := AW_m2 185 rfl rfl
theorem aw_479 : (Cond.code ({ cls := "KilnKeeper", name := "numberAt", desc := "([II)I" } : MethodName) prog_1_method_42_code (2 : Nat) (Option.some FieldType.int)) ∈ AW := AW_m2 186 rfl rfl
theorem at_480 : (Cond.methodLinkNest "KilnKeeper$LagRow" (31 : Nat) ({ cls := "KilnKeeper", name := "setNumberAt", desc := "([III)V" } : MethodName) "KilnKeeper") ∈ lw_tbl := List.mem_append_right _ (List.mem_append_right _ (List.mem_append_left _ (List.mem_of_getElem? (l := tables_1_2) (i := 187) rfl)))
theorem aw_481 : (Cond.static ({ cls := "KilnKeeper", name := "setNumberAt", desc := "([III)V" } : MethodName)) ∈ AW := AW_m2 188 rfl rfl
theorem aw_482 : (Cond.code ({ cls := "KilnKeeper", name := "setNumberAt", desc := "([III)V" } : MethodName) prog_1_method_43_code (3 : Nat) (Option.none : Option FieldType)) ∈ AW := AW_m2 189 rfl rfl
theorem aw_483 : (Cond.methodLink "KilnKeeperLaw" (31 : Nat) ({ cls := "KilnKeeper", name := "fuel", desc := "(I)I" } : MethodName)) ∈ AW := AW_m2 190 rfl rfl
theorem aw_484 : (Cond.instanceMethod ({ cls := "KilnKeeper", name := "fuel", desc := "(I)I" } : MethodName)) ∈ AW := AW_m2 191 rfl rfl
theorem aw_485 : (Cond.selects "KilnKeeper" ({ cls := "KilnKeeper", name := "fuel", desc := "(I)I" } : MethodName) ({ cls := "KilnKeeper", name := "fuel", desc := "(I)I" } : MethodName)) ∈ AW := AW_m2 192 rfl rfl
theorem aw_486 : (Cond.code ({ cls := "KilnKeeper", name := "fuel", desc := "(I)I" } : MethodName) prog_1_method_6_code (2 : Nat) (Option.some FieldType.int)) ∈ AW := AW_m2 193 rfl rfl
theorem aw_487 : (Cond.methodLink "KilnKeeper" (88 : Nat) ({ cls := "KilnKeeper$Book", name := "addFuel", desc := "(I)I" } : MethodName)) ∈ AW := AW_m2 194 rfl rfl
theorem aw_488 : (Cond.instanceMethod ({ cls := "KilnKeeper$Book", name := "addFuel", desc := "(I)I" } : MethodName)) ∈ AW := AW_m2 195 rfl rfl
theorem aw_489 : (Cond.selects "KilnKeeper$Book" ({ cls := "KilnKeeper$Book", name := "addFuel", desc := "(I)I" } : MethodName) ({ cls := "KilnKeeper$Book", name := "addFuel", desc := "(I)I" } : MethodName)) ∈ AW := AW_m2 196 rfl rfl
theorem aw_490 : (Cond.code ({ cls := "KilnKeeper$Book", name := "addFuel", desc := "(I)I" } : MethodName) prog_3_method_3_code (2 : Nat) (Option.some FieldType.int)) ∈ AW := AW_m2 197 rfl rfl
theorem at_491 : (Cond.methodLinkNest "KilnKeeper$Book" (35 : Nat) ({ cls := "KilnKeeper", name := "isFrom", desc := "(III)Z" } : MethodName) "KilnKeeper") ∈ lw_tbl := List.mem_append_right _ (List.mem_append_right _ (List.mem_append_left _ (List.mem_of_getElem? (l := tables_1_2) (i := 198) rfl)))
theorem aw_492 : (Cond.methodLink "KilnKeeperLaw" (35 : Nat) ({ cls := "KilnKeeper", name := "go", desc := "(I)I" } : MethodName)) ∈ AW := AW_m2 199 rfl rfl
theorem aw_493 : (Cond.instanceMethod ({ cls := "KilnKeeper", name := "go", desc := "(I)I" } : MethodName)) ∈ AW := AW_m2 200 rfl rfl
theorem aw_494 : (Cond.selects "KilnKeeper" ({ cls := "KilnKeeper", name := "go", desc := "(I)I" } : MethodName) ({ cls := "KilnKeeper", name := "go", desc := "(I)I" } : MethodName)) ∈ AW := AW_m2 201 rfl rfl
theorem aw_495 : (Cond.code ({ cls := "KilnKeeper", name := "go", desc := "(I)I" } : MethodName) prog_1_method_7_code (2 : Nat) (Option.some FieldType.int)) ∈ AW := AW_m2 202 rfl rfl
theorem aw_496 : (Cond.methodLink "KilnKeeper" (93 : Nat) ({ cls := "KilnKeeper$Kiln", name := "letGo", desc := "(I)I" } : MethodName)) ∈ AW := AW_m2 203 rfl rfl
theorem aw_497 : (Cond.instanceMethod ({ cls := "KilnKeeper$Kiln", name := "letGo", desc := "(I)I" } : MethodName)) ∈ AW := AW_m2 204 rfl rfl
theorem aw_498 : (Cond.selects "KilnKeeper$Kiln" ({ cls := "KilnKeeper$Kiln", name := "letGo", desc := "(I)I" } : MethodName) ({ cls := "KilnKeeper$Kiln", name := "letGo", desc := "(I)I" } : MethodName)) ∈ AW := AW_m2 205 rfl rfl
theorem aw_499 : (Cond.code ({ cls := "KilnKeeper$Kiln", name := "letGo", desc := "(I)I" } : MethodName) prog_5_method_6_code (3 : Nat) (Option.some FieldType.int)) ∈ AW := AW_m2 206 rfl rfl
theorem aw_500 : (Cond.methodLink "KilnKeeper$Kiln" (82 : Nat) ({ cls := "KilnKeeper$Kiln", name := "passMinute", desc := "()V" } : MethodName)) ∈ AW := AW_m2 207 rfl rfl
theorem aw_501 : (Cond.instanceMethod ({ cls := "KilnKeeper$Kiln", name := "passMinute", desc := "()V" } : MethodName)) ∈ AW := AW_m2 208 rfl rfl
theorem aw_502 : (Cond.selects "KilnKeeper$Kiln" ({ cls := "KilnKeeper$Kiln", name := "passMinute", desc := "()V" } : MethodName) ({ cls := "KilnKeeper$Kiln", name := "passMinute", desc := "()V" } : MethodName)) ∈ AW := AW_m2 209 rfl rfl
theorem aw_503 : (Cond.code ({ cls := "KilnKeeper$Kiln", name := "passMinute", desc := "()V" } : MethodName) prog_5_method_7_code (5 : Nat) (Option.none : Option FieldType)) ∈ AW := AW_m2 210 rfl rfl
theorem aw_504 : (Cond.methodLink "KilnKeeper$Kiln" (85 : Nat) ({ cls := "KilnKeeper$Kiln", name := "error", desc := "()I" } : MethodName)) ∈ AW := AW_m2 211 rfl rfl
theorem aw_505 : (Cond.instanceMethod ({ cls := "KilnKeeper$Kiln", name := "error", desc := "()I" } : MethodName)) ∈ AW := AW_m2 212 rfl rfl
theorem aw_506 : (Cond.selects "KilnKeeper$Kiln" ({ cls := "KilnKeeper$Kiln", name := "error", desc := "()I" } : MethodName) ({ cls := "KilnKeeper$Kiln", name := "error", desc := "()I" } : MethodName)) ∈ AW := AW_m2 213 rfl rfl
theorem aw_507 : (Cond.code ({ cls := "KilnKeeper$Kiln", name := "error", desc := "()I" } : MethodName) prog_5_method_3_code (1 : Nat) (Option.some FieldType.int)) ∈ AW := AW_m2 214 rfl rfl
theorem aw_508 : (Cond.methodLink "KilnKeeper$Kiln" (89 : Nat) ({ cls := "KilnKeeper$Regulator", name := "wantedDamper", desc := "(I)I" } : MethodName)) ∈ AW := AW_m2 215 rfl rfl
theorem aw_509 : (Cond.instanceMethod ({ cls := "KilnKeeper$Regulator", name := "wantedDamper", desc := "(I)I" } : MethodName)) ∈ AW := AW_m2 216 rfl rfl
theorem aw_510 : (Cond.selects "KilnKeeper$Regulator" ({ cls := "KilnKeeper$Regulator", name := "wantedDamper", desc := "(I)I" } : MethodName) ({ cls := "KilnKeeper$Regulator", name := "wantedDamper", desc := "(I)I" } : MethodName)) ∈ AW := AW_m2 217 rfl rfl
theorem aw_511 : (Cond.code ({ cls := "KilnKeeper$Regulator", name := "wantedDamper", desc := "(I)I" } : MethodName) prog_12_method_5_code (3 : Nat) (Option.some FieldType.int)) ∈ AW := AW_m2 218 rfl rfl
theorem aw_512 : (Cond.methodLink "KilnKeeper$Regulator" (44 : Nat) ({ cls := "KilnKeeper$Regulator", name := "sumWith", desc := "(I)I" } : MethodName)) ∈ AW := AW_m2 219 rfl rfl
theorem at_513 : (Cond.privateMethod ({ cls := "KilnKeeper$Regulator", name := "sumWith", desc := "(I)I" } : MethodName)) ∈ lw_tbl := List.mem_append_right _ (List.mem_append_right _ (List.mem_append_left _ (List.mem_of_getElem? (l := tables_1_2) (i := 220) rfl)))
theorem aw_514 : (Cond.instanceMethod ({ cls := "KilnKeeper$Regulator", name := "sumWith", desc := "(I)I" } : MethodName)) ∈ AW := AW_m2 221 rfl rfl
theorem aw_515 : (Cond.code ({ cls := "KilnKeeper$Regulator", name := "sumWith", desc := "(I)I" } : MethodName) prog_12_method_7_code (2 : Nat) (Option.some FieldType.int)) ∈ AW := AW_m2 222 rfl rfl
theorem aw_516 : (Cond.methodLink "KilnKeeper$Regulator" (48 : Nat) ({ cls := "java/lang/Math", name := "floorDiv", desc := "(II)I" } : MethodName)) ∈ AW := AW_m2 223 rfl rfl
theorem aw_517 : (Cond.static ({ cls := "java/lang/Math", name := "floorDiv", desc := "(II)I" } : MethodName)) ∈ AW := AW_m2 224 rfl rfl
theorem aw_518 : (Cond.code ({ cls := "java/lang/Math", name := "floorDiv", desc := "(II)I" } : MethodName) prog_20_method_47_code (3 : Nat) (Option.some FieldType.int)) ∈ AW := AW_m2 225 rfl rfl
theorem aw_519 : (Cond.methodLink "KilnKeeper$Kiln" (93 : Nat) ({ cls := "KilnKeeper$LagRow", name := "passThrough", desc := "(I)I" } : MethodName)) ∈ AW := AW_m2 226 rfl rfl
theorem aw_520 : (Cond.instanceMethod ({ cls := "KilnKeeper$LagRow", name := "passThrough", desc := "(I)I" } : MethodName)) ∈ AW := AW_m2 227 rfl rfl
theorem aw_521 : (Cond.selects "KilnKeeper$LagRow" ({ cls := "KilnKeeper$LagRow", name := "passThrough", desc := "(I)I" } : MethodName) ({ cls := "KilnKeeper$LagRow", name := "passThrough", desc := "(I)I" } : MethodName)) ∈ AW := AW_m2 228 rfl rfl
theorem aw_522 : (Cond.code ({ cls := "KilnKeeper$LagRow", name := "passThrough", desc := "(I)I" } : MethodName) prog_6_method_3_code (3 : Nat) (Option.some FieldType.int)) ∈ AW := AW_m2 229 rfl rfl
theorem aw_523 : (Cond.methodLink "KilnKeeper$Kiln" (96 : Nat) ({ cls := "KilnKeeper$Regulator", name := "noteError", desc := "(I)V" } : MethodName)) ∈ AW := AW_m2 230 rfl rfl
theorem aw_524 : (Cond.instanceMethod ({ cls := "KilnKeeper$Regulator", name := "noteError", desc := "(I)V" } : MethodName)) ∈ AW := AW_m2 231 rfl rfl
theorem aw_525 : (Cond.selects "KilnKeeper$Regulator" ({ cls := "KilnKeeper$Regulator", name := "noteError", desc := "(I)V" } : MethodName) ({ cls := "KilnKeeper$Regulator", name := "noteError", desc := "(I)V" } : MethodName)) ∈ AW := AW_m2 232 rfl rfl
theorem aw_526 : (Cond.code ({ cls := "KilnKeeper$Regulator", name := "noteError", desc := "(I)V" } : MethodName) prog_12_method_6_code (2 : Nat) (Option.none : Option FieldType)) ∈ AW := AW_m2 233 rfl rfl
theorem at_527 : (Cond.methodLinkNest "KilnKeeper$Kiln" (100 : Nat) ({ cls := "KilnKeeper", name := "between", desc := "(III)I" } : MethodName) "KilnKeeper") ∈ lw_tbl := List.mem_append_right _ (List.mem_append_right _ (List.mem_append_left _ (List.mem_of_getElem? (l := tables_1_2) (i := 234) rfl)))
theorem aw_528 : (Cond.methodLink "KilnKeeper$Kiln" (104 : Nat) ({ cls := "KilnKeeper$Book", name := "burn", desc := "(I)I" } : MethodName)) ∈ AW := AW_m2 235 rfl rfl
theorem aw_529 : (Cond.instanceMethod ({ cls := "KilnKeeper$Book", name := "burn", desc := "(I)I" } : MethodName)) ∈ AW := AW_m2 236 rfl rfl
theorem aw_530 : (Cond.selects "KilnKeeper$Book" ({ cls := "KilnKeeper$Book", name := "burn", desc := "(I)I" } : MethodName) ({ cls := "KilnKeeper$Book", name := "burn", desc := "(I)I" } : MethodName)) ∈ AW := AW_m2 237 rfl rfl
theorem aw_531 : (Cond.code ({ cls := "KilnKeeper$Book", name := "burn", desc := "(I)I" } : MethodName) prog_3_method_4_code (3 : Nat) (Option.some FieldType.int)) ∈ AW := AW_m2 238 rfl rfl
theorem aw_532 : (Cond.methodLink "KilnKeeper$Book" (39 : Nat) ({ cls := "java/lang/Math", name := "min", desc := "(II)I" } : MethodName)) ∈ AW := AW_m2 239 rfl rfl
theorem aw_533 : (Cond.static ({ cls := "java/lang/Math", name := "min", desc := "(II)I" } : MethodName)) ∈ AW := AW_m3 0 rfl rfl
theorem aw_534 : (Cond.code ({ cls := "java/lang/Math", name := "min", desc := "(II)I" } : MethodName) prog_20_method_69_code (2 : Nat) (Option.some FieldType.int)) ∈ AW := AW_m3 1 rfl rfl
theorem at_535 : (Cond.methodLinkNest "KilnKeeper$Book" (45 : Nat) ({ cls := "KilnKeeper", name := "numberAt", desc := "([II)I" } : MethodName) "KilnKeeper") ∈ lw_tbl := List.mem_append_right _ (List.mem_append_right _ (List.mem_append_right _ (List.mem_append_left _ (List.mem_of_getElem? (l := tables_1_3) (i := 2) rfl))))
theorem at_536 : (Cond.methodLinkNest "KilnKeeper$Book" (49 : Nat) ({ cls := "KilnKeeper", name := "setNumberAt", desc := "([III)V" } : MethodName) "KilnKeeper") ∈ lw_tbl := List.mem_append_right _ (List.mem_append_right _ (List.mem_append_right _ (List.mem_append_left _ (List.mem_of_getElem? (l := tables_1_3) (i := 3) rfl))))
theorem aw_537 : (Cond.methodLink "KilnKeeper$Kiln" (107 : Nat) ({ cls := "java/lang/Math", name := "max", desc := "(II)I" } : MethodName)) ∈ AW := AW_m3 4 rfl rfl
theorem aw_538 : (Cond.static ({ cls := "java/lang/Math", name := "max", desc := "(II)I" } : MethodName)) ∈ AW := AW_m3 5 rfl rfl
theorem aw_539 : (Cond.code ({ cls := "java/lang/Math", name := "max", desc := "(II)I" } : MethodName) prog_20_method_65_code (2 : Nat) (Option.some FieldType.int)) ∈ AW := AW_m3 6 rfl rfl
theorem aw_540 : (Cond.methodLink "KilnKeeper$Kiln" (112 : Nat) ({ cls := "KilnKeeper$Book", name := "logMinute", desc := "(IIII)V" } : MethodName)) ∈ AW := AW_m3 7 rfl rfl
theorem aw_541 : (Cond.instanceMethod ({ cls := "KilnKeeper$Book", name := "logMinute", desc := "(IIII)V" } : MethodName)) ∈ AW := AW_m3 8 rfl rfl
theorem aw_542 : (Cond.selects "KilnKeeper$Book" ({ cls := "KilnKeeper$Book", name := "logMinute", desc := "(IIII)V" } : MethodName) ({ cls := "KilnKeeper$Book", name := "logMinute", desc := "(IIII)V" } : MethodName)) ∈ AW := AW_m3 9 rfl rfl
theorem aw_543 : (Cond.code ({ cls := "KilnKeeper$Book", name := "logMinute", desc := "(IIII)V" } : MethodName) prog_3_method_5_code (6 : Nat) (Option.none : Option FieldType)) ∈ AW := AW_m3 10 rfl rfl
theorem aw_544 : (Cond.methodLink "KilnKeeper$Book" (53 : Nat) ({ cls := "KilnKeeper$Book", name := "logStart", desc := "(I)I" } : MethodName)) ∈ AW := AW_m3 11 rfl rfl
theorem aw_545 : (Cond.static ({ cls := "KilnKeeper$Book", name := "logStart", desc := "(I)I" } : MethodName)) ∈ AW := AW_m3 12 rfl rfl
theorem aw_546 : (Cond.code ({ cls := "KilnKeeper$Book", name := "logStart", desc := "(I)I" } : MethodName) prog_3_method_9_code (1 : Nat) (Option.some FieldType.int)) ∈ AW := AW_m3 13 rfl rfl
theorem aw_547 : (Cond.methodLink "KilnKeeper$Kiln" (116 : Nat) ({ cls := "java/lang/Math", name := "abs", desc := "(I)I" } : MethodName)) ∈ AW := AW_m3 14 rfl rfl
theorem aw_548 : (Cond.static ({ cls := "java/lang/Math", name := "abs", desc := "(I)I" } : MethodName)) ∈ AW := AW_m3 15 rfl rfl
theorem aw_549 : (Cond.code ({ cls := "java/lang/Math", name := "abs", desc := "(I)I" } : MethodName) prog_20_method_59_code (1 : Nat) (Option.some FieldType.int)) ∈ AW := AW_m3 16 rfl rfl
theorem aw_550 : (Cond.methodLink "KilnKeeper$Kiln" (119 : Nat) ({ cls := "KilnKeeper$Rack", name := "passMinute", desc := "(II)V" } : MethodName)) ∈ AW := AW_m3 17 rfl rfl
theorem aw_551 : (Cond.instanceMethod ({ cls := "KilnKeeper$Rack", name := "passMinute", desc := "(II)V" } : MethodName)) ∈ AW := AW_m3 18 rfl rfl
theorem aw_552 : (Cond.selects "KilnKeeper$Rack" ({ cls := "KilnKeeper$Rack", name := "passMinute", desc := "(II)V" } : MethodName) ({ cls := "KilnKeeper$Rack", name := "passMinute", desc := "(II)V" } : MethodName)) ∈ AW := AW_m3 19 rfl rfl
theorem aw_553 : (Cond.code ({ cls := "KilnKeeper$Rack", name := "passMinute", desc := "(II)V" } : MethodName) prog_9_method_7_code (5 : Nat) (Option.none : Option FieldType)) ∈ AW := AW_m3 20 rfl rfl
theorem aw_554 : (Cond.methodLink "KilnKeeper$Rack" (55 : Nat) ({ cls := "KilnKeeper$Pot", name := "passMinute", desc := "(II)V" } : MethodName)) ∈ AW := AW_m3 21 rfl rfl
theorem aw_555 : (Cond.instanceMethod ({ cls := "KilnKeeper$Pot", name := "passMinute", desc := "(II)V" } : MethodName)) ∈ AW := AW_m3 22 rfl rfl
theorem aw_556 : (Cond.selects "KilnKeeper$Pot" ({ cls := "KilnKeeper$Pot", name := "passMinute", desc := "(II)V" } : MethodName) ({ cls := "KilnKeeper$Pot", name := "passMinute", desc := "(II)V" } : MethodName)) ∈ AW := AW_m3 23 rfl rfl
theorem aw_557 : (Cond.code ({ cls := "KilnKeeper$Pot", name := "passMinute", desc := "(II)V" } : MethodName) prog_8_method_4_code (3 : Nat) (Option.none : Option FieldType)) ∈ AW := AW_m3 24 rfl rfl
theorem aw_558 : (Cond.methodLink "KilnKeeper$Pot" (34 : Nat) ({ cls := "java/lang/Math", name := "max", desc := "(II)I" } : MethodName)) ∈ AW := AW_m3 25 rfl rfl
theorem aw_559 : (Cond.methodLink "KilnKeeperLaw" (39 : Nat) ({ cls := "KilnKeeper", name := "pot", desc := "(III)I" } : MethodName)) ∈ AW := AW_m3 26 rfl rfl
theorem aw_560 : (Cond.instanceMethod ({ cls := "KilnKeeper", name := "pot", desc := "(III)I" } : MethodName)) ∈ AW := AW_m3 27 rfl rfl
theorem aw_561 : (Cond.selects "KilnKeeper" ({ cls := "KilnKeeper", name := "pot", desc := "(III)I" } : MethodName) ({ cls := "KilnKeeper", name := "pot", desc := "(III)I" } : MethodName)) ∈ AW := AW_m3 28 rfl rfl
theorem aw_562 : (Cond.code ({ cls := "KilnKeeper", name := "pot", desc := "(III)I" } : MethodName) prog_1_method_8_code (4 : Nat) (Option.some FieldType.int)) ∈ AW := AW_m3 29 rfl rfl
theorem aw_563 : (Cond.methodLink "KilnKeeper" (100 : Nat) ({ cls := "KilnKeeper$Rack", name := "addPot", desc := "(IIILKilnKeeper$Refusal;)I" } : MethodName)) ∈ AW := AW_m3 30 rfl rfl
theorem aw_564 : (Cond.instanceMethod ({ cls := "KilnKeeper$Rack", name := "addPot", desc := "(IIILKilnKeeper$Refusal;)I" } : MethodName)) ∈ AW := AW_m3 31 rfl rfl
theorem aw_565 : (Cond.selects "KilnKeeper$Rack" ({ cls := "KilnKeeper$Rack", name := "addPot", desc := "(IIILKilnKeeper$Refusal;)I" } : MethodName) ({ cls := "KilnKeeper$Rack", name := "addPot", desc := "(IIILKilnKeeper$Refusal;)I" } : MethodName)) ∈ AW := AW_m3 32 rfl rfl
theorem aw_566 : (Cond.code ({ cls := "KilnKeeper$Rack", name := "addPot", desc := "(IIILKilnKeeper$Refusal;)I" } : MethodName) prog_9_method_4_code (7 : Nat) (Option.some FieldType.int)) ∈ AW := AW_m3 33 rfl rfl
theorem at_567 : (Cond.methodLinkNest "KilnKeeper$Rack" (30 : Nat) ({ cls := "KilnKeeper", name := "isFrom", desc := "(III)Z" } : MethodName) "KilnKeeper") ∈ lw_tbl := List.mem_append_right _ (List.mem_append_right _ (List.mem_append_right _ (List.mem_append_left _ (List.mem_of_getElem? (l := tables_1_3) (i := 34) rfl))))
theorem aw_568 : (Cond.methodLink "KilnKeeper$Rack" (34 : Nat) ({ cls := "KilnKeeper$Refusal", name := "because", desc := "(II)I" } : MethodName)) ∈ AW := AW_m3 35 rfl rfl
theorem aw_569 : (Cond.methodLink "KilnKeeper$Rack" (40 : Nat) ({ cls := "KilnKeeper$Pot", name := "begin", desc := "(III)V" } : MethodName)) ∈ AW := AW_m3 36 rfl rfl
theorem aw_570 : (Cond.instanceMethod ({ cls := "KilnKeeper$Pot", name := "begin", desc := "(III)V" } : MethodName)) ∈ AW := AW_m3 37 rfl rfl
theorem aw_571 : (Cond.selects "KilnKeeper$Pot" ({ cls := "KilnKeeper$Pot", name := "begin", desc := "(III)V" } : MethodName) ({ cls := "KilnKeeper$Pot", name := "begin", desc := "(III)V" } : MethodName)) ∈ AW := AW_m3 38 rfl rfl
theorem aw_572 : (Cond.code ({ cls := "KilnKeeper$Pot", name := "begin", desc := "(III)V" } : MethodName) prog_8_method_3_code (4 : Nat) (Option.none : Option FieldType)) ∈ AW := AW_m3 39 rfl rfl
theorem aw_573 : (Cond.methodLink "KilnKeeperLaw" (43 : Nat) ({ cls := "KilnKeeper", name := "put", desc := "(I)I" } : MethodName)) ∈ AW := AW_m3 40 rfl rfl
theorem aw_574 : (Cond.instanceMethod ({ cls := "KilnKeeper", name := "put", desc := "(I)I" } : MethodName)) ∈ AW := AW_m3 41 rfl rfl
theorem aw_575 : (Cond.selects "KilnKeeper" ({ cls := "KilnKeeper", name := "put", desc := "(I)I" } : MethodName) ({ cls := "KilnKeeper", name := "put", desc := "(I)I" } : MethodName)) ∈ AW := AW_m3 42 rfl rfl
theorem aw_576 : (Cond.code ({ cls := "KilnKeeper", name := "put", desc := "(I)I" } : MethodName) prog_1_method_9_code (2 : Nat) (Option.some FieldType.int)) ∈ AW := AW_m3 43 rfl rfl
theorem aw_577 : (Cond.methodLink "KilnKeeper" (110 : Nat) ({ cls := "KilnKeeper$Rack", name := "bringIn", desc := "(IILKilnKeeper$Refusal;)I" } : MethodName)) ∈ AW := AW_m3 44 rfl rfl
theorem aw_578 : (Cond.instanceMethod ({ cls := "KilnKeeper$Rack", name := "bringIn", desc := "(IILKilnKeeper$Refusal;)I" } : MethodName)) ∈ AW := AW_m3 45 rfl rfl
theorem aw_579 : (Cond.selects "KilnKeeper$Rack" ({ cls := "KilnKeeper$Rack", name := "bringIn", desc := "(IILKilnKeeper$Refusal;)I" } : MethodName) ({ cls := "KilnKeeper$Rack", name := "bringIn", desc := "(IILKilnKeeper$Refusal;)I" } : MethodName)) ∈ AW := AW_m3 46 rfl rfl
theorem aw_580 : (Cond.code ({ cls := "KilnKeeper$Rack", name := "bringIn", desc := "(IILKilnKeeper$Refusal;)I" } : MethodName) prog_9_method_5_code (6 : Nat) (Option.some FieldType.int)) ∈ AW := AW_m3 47 rfl rfl
theorem aw_581 : (Cond.methodLink "KilnKeeper$Rack" (47 : Nat) ({ cls := "KilnKeeper$Rack", name := "countWithin", desc := "()I" } : MethodName)) ∈ AW := AW_m3 48 rfl rfl
theorem aw_582 : (Cond.instanceMethod ({ cls := "KilnKeeper$Rack", name := "countWithin", desc := "()I" } : MethodName)) ∈ AW := AW_m3 49 rfl rfl
theorem aw_583 : (Cond.selects "KilnKeeper$Rack" ({ cls := "KilnKeeper$Rack", name := "countWithin", desc := "()I" } : MethodName) ({ cls := "KilnKeeper$Rack", name := "countWithin", desc := "()I" } : MethodName)) ∈ AW := AW_m3 50 rfl rfl
theorem aw_584 : (Cond.code ({ cls := "KilnKeeper$Rack", name := "countWithin", desc := "()I" } : MethodName) prog_9_method_11_code (4 : Nat) (Option.some FieldType.int)) ∈ AW := AW_m3 51 rfl rfl
theorem aw_585 : (Cond.methodLink "KilnKeeperLaw" (47 : Nat) ({ cls := "KilnKeeper", name := "take", desc := "(I)I" } : MethodName)) ∈ AW := AW_m3 52 rfl rfl
theorem aw_586 : (Cond.instanceMethod ({ cls := "KilnKeeper", name := "take", desc := "(I)I" } : MethodName)) ∈ AW := AW_m3 53 rfl rfl
theorem aw_587 : (Cond.selects "KilnKeeper" ({ cls := "KilnKeeper", name := "take", desc := "(I)I" } : MethodName) ({ cls := "KilnKeeper", name := "take", desc := "(I)I" } : MethodName)) ∈ AW := AW_m3 54 rfl rfl
theorem aw_588 : (Cond.code ({ cls := "KilnKeeper", name := "take", desc := "(I)I" } : MethodName) prog_1_method_10_code (2 : Nat) (Option.some FieldType.int)) ∈ AW := AW_m3 55 rfl rfl
theorem aw_589 : (Cond.methodLink "KilnKeeper" (114 : Nat) ({ cls := "KilnKeeper$Rack", name := "bringOut", desc := "(IILKilnKeeper$Refusal;)I" } : MethodName)) ∈ AW := AW_m3 56 rfl rfl
theorem aw_590 : (Cond.instanceMethod ({ cls := "KilnKeeper$Rack", name := "bringOut", desc := "(IILKilnKeeper$Refusal;)I" } : MethodName)) ∈ AW := AW_m3 57 rfl rfl
theorem aw_591 : (Cond.selects "KilnKeeper$Rack" ({ cls := "KilnKeeper$Rack", name := "bringOut", desc := "(IILKilnKeeper$Refusal;)I" } : MethodName) ({ cls := "KilnKeeper$Rack", name := "bringOut", desc := "(IILKilnKeeper$Refusal;)I" } : MethodName)) ∈ AW := AW_m3 58 rfl rfl
theorem aw_592 : (Cond.code ({ cls := "KilnKeeper$Rack", name := "bringOut", desc := "(IILKilnKeeper$Refusal;)I" } : MethodName) prog_9_method_6_code (5 : Nat) (Option.some FieldType.int)) ∈ AW := AW_m3 59 rfl rfl
theorem aw_593 : (Cond.methodLink "KilnKeeperLaw" (51 : Nat) ({ cls := "KilnKeeper", name := "potOf", desc := "(II)I" } : MethodName)) ∈ AW := AW_m3 60 rfl rfl
theorem aw_594 : (Cond.instanceMethod ({ cls := "KilnKeeper", name := "potOf", desc := "(II)I" } : MethodName)) ∈ AW := AW_m3 61 rfl rfl
theorem aw_595 : (Cond.selects "KilnKeeper" ({ cls := "KilnKeeper", name := "potOf", desc := "(II)I" } : MethodName) ({ cls := "KilnKeeper", name := "potOf", desc := "(II)I" } : MethodName)) ∈ AW := AW_m3 62 rfl rfl
theorem aw_596 : (Cond.code ({ cls := "KilnKeeper", name := "potOf", desc := "(II)I" } : MethodName) prog_1_method_11_code (4 : Nat) (Option.some FieldType.int)) ∈ AW := AW_m3 63 rfl rfl
theorem aw_597 : (Cond.methodLink "KilnKeeper" (117 : Nat) ({ cls := "KilnKeeper$Rack", name := "find", desc := "(I)LKilnKeeper$Pot;" } : MethodName)) ∈ AW := AW_m3 64 rfl rfl
theorem aw_598 : (Cond.methodLink "KilnKeeper" (121 : Nat) ({ cls := "KilnKeeper$Pot", name := "number", desc := "(I)I" } : MethodName)) ∈ AW := AW_m3 65 rfl rfl
theorem aw_599 : (Cond.instanceMethod ({ cls := "KilnKeeper$Pot", name := "number", desc := "(I)I" } : MethodName)) ∈ AW := AW_m3 66 rfl rfl
theorem aw_600 : (Cond.selects "KilnKeeper$Pot" ({ cls := "KilnKeeper$Pot", name := "number", desc := "(I)I" } : MethodName) ({ cls := "KilnKeeper$Pot", name := "number", desc := "(I)I" } : MethodName)) ∈ AW := AW_m3 67 rfl rfl
theorem aw_601 : (Cond.code ({ cls := "KilnKeeper$Pot", name := "number", desc := "(I)I" } : MethodName) prog_8_method_6_code (2 : Nat) (Option.some FieldType.int)) ∈ AW := AW_m3 68 rfl rfl
theorem aw_602 : (Cond.methodLink "KilnKeeperLaw" (56 : Nat) ({ cls := "KilnKeeper", name := "firedIn", desc := "(I)I" } : MethodName)) ∈ AW := AW_m3 69 rfl rfl
theorem aw_603 : (Cond.instanceMethod ({ cls := "KilnKeeper", name := "firedIn", desc := "(I)I" } : MethodName)) ∈ AW := AW_m3 70 rfl rfl
theorem aw_604 : (Cond.selects "KilnKeeper" ({ cls := "KilnKeeper", name := "firedIn", desc := "(I)I" } : MethodName) ({ cls := "KilnKeeper", name := "firedIn", desc := "(I)I" } : MethodName)) ∈ AW := AW_m3 71 rfl rfl
theorem aw_605 : (Cond.code ({ cls := "KilnKeeper", name := "firedIn", desc := "(I)I" } : MethodName) prog_1_method_12_code (4 : Nat) (Option.some FieldType.int)) ∈ AW := AW_m3 72 rfl rfl
theorem aw_606 : (Cond.methodLink "KilnKeeper" (126 : Nat) ({ cls := "KilnKeeper", name := "tryMinutes", desc := "(I)LKilnKeeper$Kiln;" } : MethodName)) ∈ AW := AW_m3 73 rfl rfl
theorem at_607 : (Cond.privateMethod ({ cls := "KilnKeeper", name := "tryMinutes", desc := "(I)LKilnKeeper$Kiln;" } : MethodName)) ∈ lw_tbl := List.mem_append_right _ (List.mem_append_right _ (List.mem_append_right _ (List.mem_append_left _ (List.mem_of_getElem? (l := tables_1_3) (i := 74) rfl))))
theorem aw_608 : (Cond.instanceMethod ({ cls := "KilnKeeper", name := "tryMinutes", desc := "(I)LKilnKeeper$Kiln;" } : MethodName)) ∈ AW := AW_m3 75 rfl rfl
theorem aw_609 : (Cond.code ({ cls := "KilnKeeper", name := "tryMinutes", desc := "(I)LKilnKeeper$Kiln;" } : MethodName) prog_1_method_38_code (3 : Nat) (Option.some (FieldType.object "KilnKeeper$Kiln"))) ∈ AW := AW_m3 76 rfl rfl
theorem aw_610 : (Cond.methodLink "KilnKeeper" (133 : Nat) ({ cls := "KilnKeeper$Kiln", name := "passMinute", desc := "()V" } : MethodName)) ∈ AW := AW_m3 77 rfl rfl
theorem aw_611 : (Cond.methodLink "KilnKeeperLaw" (60 : Nat) ({ cls := "KilnKeeper", name := "wouldCrack", desc := "(I)I" } : MethodName)) ∈ AW := AW_m3 78 rfl rfl
theorem aw_612 : (Cond.instanceMethod ({ cls := "KilnKeeper", name := "wouldCrack", desc := "(I)I" } : MethodName)) ∈ AW := AW_m3 79 rfl rfl
theorem aw_613 : (Cond.selects "KilnKeeper" ({ cls := "KilnKeeper", name := "wouldCrack", desc := "(I)I" } : MethodName) ({ cls := "KilnKeeper", name := "wouldCrack", desc := "(I)I" } : MethodName)) ∈ AW := AW_m3 80 rfl rfl
theorem aw_614 : (Cond.code ({ cls := "KilnKeeper", name := "wouldCrack", desc := "(I)I" } : MethodName) prog_1_method_13_code (2 : Nat) (Option.some FieldType.int)) ∈ AW := AW_m3 81 rfl rfl
theorem aw_615 : (Cond.methodLink "KilnKeeper" (136 : Nat) ({ cls := "KilnKeeper", name := "isFrom", desc := "(III)Z" } : MethodName)) ∈ AW := AW_m3 82 rfl rfl
theorem aw_616 : (Cond.methodLink "KilnKeeper" (140 : Nat) ({ cls := "KilnKeeper$Rack", name := "crackedSet", desc := "()I" } : MethodName)) ∈ AW := AW_m3 83 rfl rfl
theorem aw_617 : (Cond.instanceMethod ({ cls := "KilnKeeper$Rack", name := "crackedSet", desc := "()I" } : MethodName)) ∈ AW := AW_m3 84 rfl rfl
theorem aw_618 : (Cond.selects "KilnKeeper$Rack" ({ cls := "KilnKeeper$Rack", name := "crackedSet", desc := "()I" } : MethodName) ({ cls := "KilnKeeper$Rack", name := "crackedSet", desc := "()I" } : MethodName)) ∈ AW := AW_m3 85 rfl rfl
theorem aw_619 : (Cond.code ({ cls := "KilnKeeper$Rack", name := "crackedSet", desc := "()I" } : MethodName) prog_9_method_12_code (4 : Nat) (Option.some FieldType.int)) ∈ AW := AW_m3 86 rfl rfl
theorem aw_620 : (Cond.methodLink "KilnKeeperLaw" (64 : Nat) ({ cls := "KilnKeeper", name := "ranked", desc := "(I)I" } : MethodName)) ∈ AW := AW_m3 87 rfl rfl
theorem aw_621 : (Cond.instanceMethod ({ cls := "KilnKeeper", name := "ranked", desc := "(I)I" } : MethodName)) ∈ AW := AW_m3 88 rfl rfl
theorem aw_622 : (Cond.selects "KilnKeeper" ({ cls := "KilnKeeper", name := "ranked", desc := "(I)I" } : MethodName) ({ cls := "KilnKeeper", name := "ranked", desc := "(I)I" } : MethodName)) ∈ AW := AW_m3 89 rfl rfl
theorem aw_623 : (Cond.code ({ cls := "KilnKeeper", name := "ranked", desc := "(I)I" } : MethodName) prog_1_method_14_code (2 : Nat) (Option.some FieldType.int)) ∈ AW := AW_m3 90 rfl rfl
theorem aw_624 : (Cond.methodLink "KilnKeeper" (144 : Nat) ({ cls := "KilnKeeper$Rack", name := "potAtPlace", desc := "(I)I" } : MethodName)) ∈ AW := AW_m3 91 rfl rfl
theorem aw_625 : (Cond.instanceMethod ({ cls := "KilnKeeper$Rack", name := "potAtPlace", desc := "(I)I" } : MethodName)) ∈ AW := AW_m3 92 rfl rfl
theorem aw_626 : (Cond.selects "KilnKeeper$Rack" ({ cls := "KilnKeeper$Rack", name := "potAtPlace", desc := "(I)I" } : MethodName) ({ cls := "KilnKeeper$Rack", name := "potAtPlace", desc := "(I)I" } : MethodName)) ∈ AW := AW_m3 93 rfl rfl
theorem aw_627 : (Cond.code ({ cls := "KilnKeeper$Rack", name := "potAtPlace", desc := "(I)I" } : MethodName) prog_9_method_8_code (3 : Nat) (Option.some FieldType.int)) ∈ AW := AW_m3 94 rfl rfl
theorem aw_628 : (Cond.methodLink "KilnKeeper$Rack" (59 : Nat) ({ cls := "KilnKeeper$Rack", name := "countAheadOf", desc := "(I)I" } : MethodName)) ∈ AW := AW_m3 95 rfl rfl
theorem at_629 : (Cond.privateMethod ({ cls := "KilnKeeper$Rack", name := "countAheadOf", desc := "(I)I" } : MethodName)) ∈ lw_tbl := List.mem_append_right _ (List.mem_append_right _ (List.mem_append_right _ (List.mem_append_left _ (List.mem_of_getElem? (l := tables_1_3) (i := 96) rfl))))
theorem aw_630 : (Cond.instanceMethod ({ cls := "KilnKeeper$Rack", name := "countAheadOf", desc := "(I)I" } : MethodName)) ∈ AW := AW_m3 97 rfl rfl
theorem aw_631 : (Cond.code ({ cls := "KilnKeeper$Rack", name := "countAheadOf", desc := "(I)I" } : MethodName) prog_9_method_9_code (6 : Nat) (Option.some FieldType.int)) ∈ AW := AW_m3 98 rfl rfl
theorem aw_632 : (Cond.methodLink "KilnKeeper$Rack" (63 : Nat) ({ cls := "KilnKeeper$Pot", name := "isAheadOf", desc := "(LKilnKeeper$Pot;)Z" } : MethodName)) ∈ AW := AW_m3 99 rfl rfl
theorem aw_633 : (Cond.instanceMethod ({ cls := "KilnKeeper$Pot", name := "isAheadOf", desc := "(LKilnKeeper$Pot;)Z" } : MethodName)) ∈ AW := AW_m3 100 rfl rfl
theorem aw_634 : (Cond.selects "KilnKeeper$Pot" ({ cls := "KilnKeeper$Pot", name := "isAheadOf", desc := "(LKilnKeeper$Pot;)Z" } : MethodName) ({ cls := "KilnKeeper$Pot", name := "isAheadOf", desc := "(LKilnKeeper$Pot;)Z" } : MethodName)) ∈ AW := AW_m3 101 rfl rfl
theorem aw_635 : (Cond.code ({ cls := "KilnKeeper$Pot", name := "isAheadOf", desc := "(LKilnKeeper$Pot;)Z" } : MethodName) prog_8_method_5_code (4 : Nat) (Option.some FieldType.boolean)) ∈ AW := AW_m3 102 rfl rfl
theorem aw_636 : (Cond.methodLink "KilnKeeperLaw" (68 : Nat) ({ cls := "KilnKeeper", name := "degreesIn", desc := "(I)I" } : MethodName)) ∈ AW := AW_m3 103 rfl rfl
theorem aw_637 : (Cond.instanceMethod ({ cls := "KilnKeeper", name := "degreesIn", desc := "(I)I" } : MethodName)) ∈ AW := AW_m3 104 rfl rfl
theorem aw_638 : (Cond.selects "KilnKeeper" ({ cls := "KilnKeeper", name := "degreesIn", desc := "(I)I" } : MethodName) ({ cls := "KilnKeeper", name := "degreesIn", desc := "(I)I" } : MethodName)) ∈ AW := AW_m3 105 rfl rfl
theorem aw_639 : (Cond.code ({ cls := "KilnKeeper", name := "degreesIn", desc := "(I)I" } : MethodName) prog_1_method_15_code (2 : Nat) (Option.some FieldType.int)) ∈ AW := AW_m3 106 rfl rfl
theorem aw_640 : (Cond.methodLink "KilnKeeperLaw" (72 : Nat) ({ cls := "KilnKeeper", name := "wanted", desc := "()I" } : MethodName)) ∈ AW := AW_m3 107 rfl rfl
theorem aw_641 : (Cond.instanceMethod ({ cls := "KilnKeeper", name := "wanted", desc := "()I" } : MethodName)) ∈ AW := AW_m3 108 rfl rfl
theorem aw_642 : (Cond.selects "KilnKeeper" ({ cls := "KilnKeeper", name := "wanted", desc := "()I" } : MethodName) ({ cls := "KilnKeeper", name := "wanted", desc := "()I" } : MethodName)) ∈ AW := AW_m3 109 rfl rfl
theorem aw_643 : (Cond.code ({ cls := "KilnKeeper", name := "wanted", desc := "()I" } : MethodName) prog_1_method_16_code (1 : Nat) (Option.some FieldType.int)) ∈ AW := AW_m3 110 rfl rfl
theorem aw_644 : (Cond.methodLink "KilnKeeper" (147 : Nat) ({ cls := "KilnKeeper$Kiln", name := "error", desc := "()I" } : MethodName)) ∈ AW := AW_m3 111 rfl rfl
theorem aw_645 : (Cond.methodLink "KilnKeeper" (150 : Nat) ({ cls := "KilnKeeper$Regulator", name := "wantedDamper", desc := "(I)I" } : MethodName)) ∈ AW := AW_m3 112 rfl rfl
theorem aw_646 : (Cond.methodLink "KilnKeeperLaw" (77 : Nat) ({ cls := "KilnKeeper", name := "settlesIn", desc := "()I" } : MethodName)) ∈ AW := AW_m3 113 rfl rfl
theorem aw_647 : (Cond.instanceMethod ({ cls := "KilnKeeper", name := "settlesIn", desc := "()I" } : MethodName)) ∈ AW := AW_m3 114 rfl rfl
theorem aw_648 : (Cond.selects "KilnKeeper" ({ cls := "KilnKeeper", name := "settlesIn", desc := "()I" } : MethodName) ({ cls := "KilnKeeper", name := "settlesIn", desc := "()I" } : MethodName)) ∈ AW := AW_m3 115 rfl rfl
theorem aw_649 : (Cond.code ({ cls := "KilnKeeper", name := "settlesIn", desc := "()I" } : MethodName) prog_1_method_17_code (3 : Nat) (Option.some FieldType.int)) ∈ AW := AW_m3 116 rfl rfl
theorem aw_650 : (Cond.methodLink "KilnKeeperLaw" (81 : Nat) ({ cls := "KilnKeeper", name := "wouldOvershoot", desc := "(I)I" } : MethodName)) ∈ AW := AW_m3 117 rfl rfl
theorem aw_651 : (Cond.instanceMethod ({ cls := "KilnKeeper", name := "wouldOvershoot", desc := "(I)I" } : MethodName)) ∈ AW := AW_m3 118 rfl rfl
theorem aw_652 : (Cond.selects "KilnKeeper" ({ cls := "KilnKeeper", name := "wouldOvershoot", desc := "(I)I" } : MethodName) ({ cls := "KilnKeeper", name := "wouldOvershoot", desc := "(I)I" } : MethodName)) ∈ AW := AW_m3 119 rfl rfl
theorem aw_653 : (Cond.code ({ cls := "KilnKeeper", name := "wouldOvershoot", desc := "(I)I" } : MethodName) prog_1_method_18_code (2 : Nat) (Option.some FieldType.int)) ∈ AW := AW_m3 120 rfl rfl
theorem aw_654 : (Cond.methodLink "KilnKeeperLaw" (85 : Nat) ({ cls := "KilnKeeper", name := "logged", desc := "(II)I" } : MethodName)) ∈ AW := AW_m3 121 rfl rfl
theorem aw_655 : (Cond.instanceMethod ({ cls := "KilnKeeper", name := "logged", desc := "(II)I" } : MethodName)) ∈ AW := AW_m3 122 rfl rfl
theorem aw_656 : (Cond.selects "KilnKeeper" ({ cls := "KilnKeeper", name := "logged", desc := "(II)I" } : MethodName) ({ cls := "KilnKeeper", name := "logged", desc := "(II)I" } : MethodName)) ∈ AW := AW_m3 123 rfl rfl
theorem aw_657 : (Cond.code ({ cls := "KilnKeeper", name := "logged", desc := "(II)I" } : MethodName) prog_1_method_19_code (3 : Nat) (Option.some FieldType.int)) ∈ AW := AW_m3 124 rfl rfl
theorem aw_658 : (Cond.methodLink "KilnKeeper" (156 : Nat) ({ cls := "KilnKeeper$Book", name := "loggedNumber", desc := "(II)I" } : MethodName)) ∈ AW := AW_m3 125 rfl rfl
theorem aw_659 : (Cond.instanceMethod ({ cls := "KilnKeeper$Book", name := "loggedNumber", desc := "(II)I" } : MethodName)) ∈ AW := AW_m3 126 rfl rfl
theorem aw_660 : (Cond.selects "KilnKeeper$Book" ({ cls := "KilnKeeper$Book", name := "loggedNumber", desc := "(II)I" } : MethodName) ({ cls := "KilnKeeper$Book", name := "loggedNumber", desc := "(II)I" } : MethodName)) ∈ AW := AW_m3 127 rfl rfl
theorem aw_661 : (Cond.code ({ cls := "KilnKeeper$Book", name := "loggedNumber", desc := "(II)I" } : MethodName) prog_3_method_6_code (3 : Nat) (Option.some FieldType.int)) ∈ AW := AW_m3 128 rfl rfl
theorem aw_662 : (Cond.methodLink "KilnKeeperLaw" (89 : Nat) ({ cls := "KilnKeeper", name := "burnt", desc := "()I" } : MethodName)) ∈ AW := AW_m3 129 rfl rfl
theorem aw_663 : (Cond.instanceMethod ({ cls := "KilnKeeper", name := "burnt", desc := "()I" } : MethodName)) ∈ AW := AW_m3 130 rfl rfl
theorem aw_664 : (Cond.selects "KilnKeeper" ({ cls := "KilnKeeper", name := "burnt", desc := "()I" } : MethodName) ({ cls := "KilnKeeper", name := "burnt", desc := "()I" } : MethodName)) ∈ AW := AW_m3 131 rfl rfl
theorem aw_665 : (Cond.code ({ cls := "KilnKeeper", name := "burnt", desc := "()I" } : MethodName) prog_1_method_20_code (1 : Nat) (Option.some FieldType.int)) ∈ AW := AW_m3 132 rfl rfl
theorem aw_666 : (Cond.methodLink "KilnKeeperLaw" (93 : Nat) ({ cls := "KilnKeeper", name := "burntAgain", desc := "()I" } : MethodName)) ∈ AW := AW_m3 133 rfl rfl
theorem aw_667 : (Cond.instanceMethod ({ cls := "KilnKeeper", name := "burntAgain", desc := "()I" } : MethodName)) ∈ AW := AW_m3 134 rfl rfl
theorem aw_668 : (Cond.selects "KilnKeeper" ({ cls := "KilnKeeper", name := "burntAgain", desc := "()I" } : MethodName) ({ cls := "KilnKeeper", name := "burntAgain", desc := "()I" } : MethodName)) ∈ AW := AW_m3 135 rfl rfl
theorem aw_669 : (Cond.code ({ cls := "KilnKeeper", name := "burntAgain", desc := "()I" } : MethodName) prog_1_method_21_code (1 : Nat) (Option.some FieldType.int)) ∈ AW := AW_m3 136 rfl rfl
theorem aw_670 : (Cond.methodLink "KilnKeeper" (163 : Nat) ({ cls := "KilnKeeper$Book", name := "burntByAmounts", desc := "()I" } : MethodName)) ∈ AW := AW_m3 137 rfl rfl
theorem aw_671 : (Cond.instanceMethod ({ cls := "KilnKeeper$Book", name := "burntByAmounts", desc := "()I" } : MethodName)) ∈ AW := AW_m3 138 rfl rfl
theorem aw_672 : (Cond.selects "KilnKeeper$Book" ({ cls := "KilnKeeper$Book", name := "burntByAmounts", desc := "()I" } : MethodName) ({ cls := "KilnKeeper$Book", name := "burntByAmounts", desc := "()I" } : MethodName)) ∈ AW := AW_m3 139 rfl rfl
theorem aw_673 : (Cond.code ({ cls := "KilnKeeper$Book", name := "burntByAmounts", desc := "()I" } : MethodName) prog_3_method_7_code (3 : Nat) (Option.some FieldType.int)) ∈ AW := AW_m3 140 rfl rfl
theorem aw_674 : (Cond.methodLink "KilnKeeperLaw" (97 : Nat) ({ cls := "KilnKeeper", name := "minutesWith", desc := "(I)I" } : MethodName)) ∈ AW := AW_m3 141 rfl rfl
theorem aw_675 : (Cond.instanceMethod ({ cls := "KilnKeeper", name := "minutesWith", desc := "(I)I" } : MethodName)) ∈ AW := AW_m3 142 rfl rfl
theorem aw_676 : (Cond.selects "KilnKeeper" ({ cls := "KilnKeeper", name := "minutesWith", desc := "(I)I" } : MethodName) ({ cls := "KilnKeeper", name := "minutesWith", desc := "(I)I" } : MethodName)) ∈ AW := AW_m3 143 rfl rfl
theorem aw_677 : (Cond.code ({ cls := "KilnKeeper", name := "minutesWith", desc := "(I)I" } : MethodName) prog_1_method_22_code (2 : Nat) (Option.some FieldType.int)) ∈ AW := AW_m3 144 rfl rfl
theorem aw_678 : (Cond.methodLink "KilnKeeper" (170 : Nat) ({ cls := "KilnKeeper", name := "numberAt", desc := "([II)I" } : MethodName)) ∈ AW := AW_m3 145 rfl rfl
theorem aw_679 : (Cond.methodLink "KilnKeeperLaw" (101 : Nat) ({ cls := "KilnKeeper", name := "append", desc := "(I)I" } : MethodName)) ∈ AW := AW_m3 146 rfl rfl
theorem aw_680 : (Cond.instanceMethod ({ cls := "KilnKeeper", name := "append", desc := "(I)I" } : MethodName)) ∈ AW := AW_m3 147 rfl rfl
theorem aw_681 : (Cond.selects "KilnKeeper" ({ cls := "KilnKeeper", name := "append", desc := "(I)I" } : MethodName) ({ cls := "KilnKeeper", name := "append", desc := "(I)I" } : MethodName)) ∈ AW := AW_m3 148 rfl rfl
theorem aw_682 : (Cond.code ({ cls := "KilnKeeper", name := "append", desc := "(I)I" } : MethodName) prog_1_method_23_code (2 : Nat) (Option.some FieldType.int)) ∈ AW := AW_m3 149 rfl rfl
theorem aw_683 : (Cond.methodLink "KilnKeeper" (174 : Nat) ({ cls := "KilnKeeper$Reader", name := "addCode", desc := "(I)I" } : MethodName)) ∈ AW := AW_m3 150 rfl rfl
theorem aw_684 : (Cond.instanceMethod ({ cls := "KilnKeeper$Reader", name := "addCode", desc := "(I)I" } : MethodName)) ∈ AW := AW_m3 151 rfl rfl
theorem aw_685 : (Cond.selects "KilnKeeper$Reader" ({ cls := "KilnKeeper$Reader", name := "addCode", desc := "(I)I" } : MethodName) ({ cls := "KilnKeeper$Reader", name := "addCode", desc := "(I)I" } : MethodName)) ∈ AW := AW_m3 152 rfl rfl
theorem aw_686 : (Cond.code ({ cls := "KilnKeeper$Reader", name := "addCode", desc := "(I)I" } : MethodName) prog_10_method_4_code (2 : Nat) (Option.some FieldType.int)) ∈ AW := AW_m3 153 rfl rfl
theorem at_687 : (Cond.methodLinkNest "KilnKeeper$Reader" (33 : Nat) ({ cls := "KilnKeeper", name := "isFrom", desc := "(III)Z" } : MethodName) "KilnKeeper") ∈ lw_tbl := List.mem_append_right _ (List.mem_append_right _ (List.mem_append_right _ (List.mem_append_left _ (List.mem_of_getElem? (l := tables_1_3) (i := 154) rfl))))
theorem aw_688 : (Cond.methodLink "KilnKeeper$Reader" (25 : Nat) ({ cls := "java/lang/StringBuilder", name := "length", desc := "()I" } : MethodName)) ∈ AW := AW_m3 155 rfl rfl
theorem aw_689 : (Cond.instanceMethod ({ cls := "java/lang/StringBuilder", name := "length", desc := "()I" } : MethodName)) ∈ AW := AW_m3 156 rfl rfl
theorem aw_690 : (Cond.selects "java/lang/StringBuilder" ({ cls := "java/lang/StringBuilder", name := "length", desc := "()I" } : MethodName) ({ cls := "java/lang/StringBuilder", name := "length", desc := "()I" } : MethodName)) ∈ AW := AW_m3 157 rfl rfl
theorem aw_691 : (Cond.code ({ cls := "java/lang/StringBuilder", name := "length", desc := "()I" } : MethodName) prog_22_method_93_code (1 : Nat) (Option.some FieldType.int)) ∈ AW := AW_m3 158 rfl rfl
theorem aw_692 : (Cond.methodLink "java/lang/StringBuilder" (343 : Nat) ({ cls := "java/lang/AbstractStringBuilder", name := "length", desc := "()I" } : MethodName)) ∈ AW := AW_m3 159 rfl rfl
theorem aw_693 : (Cond.instanceMethod ({ cls := "java/lang/AbstractStringBuilder", name := "length", desc := "()I" } : MethodName)) ∈ AW := AW_m3 160 rfl rfl
theorem aw_694 : (Cond.code ({ cls := "java/lang/AbstractStringBuilder", name := "length", desc := "()I" } : MethodName) prog_16_method_6_code (1 : Nat) (Option.some FieldType.int)) ∈ AW := AW_m3 161 rfl rfl
theorem aw_695 : (Cond.methodLink "KilnKeeper$Reader" (37 : Nat) ({ cls := "java/lang/StringBuilder", name := "append", desc := "(C)Ljava/lang/StringBuilder;" } : MethodName)) ∈ AW := AW_m3 162 rfl rfl
theorem aw_696 : (Cond.instanceMethod ({ cls := "java/lang/StringBuilder", name := "append", desc := "(C)Ljava/lang/StringBuilder;" } : MethodName)) ∈ AW := AW_m3 163 rfl rfl
theorem aw_697 : (Cond.selects "java/lang/StringBuilder" ({ cls := "java/lang/StringBuilder", name := "append", desc := "(C)Ljava/lang/StringBuilder;" } : MethodName) ({ cls := "java/lang/StringBuilder", name := "append", desc := "(C)Ljava/lang/StringBuilder;" } : MethodName)) ∈ AW := AW_m3 164 rfl rfl
theorem aw_698 : (Cond.code ({ cls := "java/lang/StringBuilder", name := "append", desc := "(C)Ljava/lang/StringBuilder;" } : MethodName) prog_22_method_14_code (2 : Nat) (Option.some (FieldType.object "java/lang/StringBuilder"))) ∈ AW := AW_m3 165 rfl rfl
theorem aw_699 : (Cond.methodLink "java/lang/StringBuilder" (50 : Nat) ({ cls := "java/lang/AbstractStringBuilder", name := "append", desc := "(C)Ljava/lang/AbstractStringBuilder;" } : MethodName)) ∈ AW := AW_m3 166 rfl rfl
theorem aw_700 : (Cond.instanceMethod ({ cls := "java/lang/AbstractStringBuilder", name := "append", desc := "(C)Ljava/lang/AbstractStringBuilder;" } : MethodName)) ∈ AW := AW_m3 167 rfl rfl
theorem aw_701 : (Cond.code ({ cls := "java/lang/AbstractStringBuilder", name := "append", desc := "(C)Ljava/lang/AbstractStringBuilder;" } : MethodName) prog_16_method_31_code (2 : Nat) (Option.some (FieldType.object "java/lang/AbstractStringBuilder"))) ∈ AW := AW_m3 168 rfl rfl
theorem aw_702 : (Cond.methodLink "java/lang/AbstractStringBuilder" (100 : Nat) ({ cls := "java/lang/AbstractStringBuilder", name := "ensureCapacityInternal", desc := "(I)V" } : MethodName)) ∈ AW := AW_m3 169 rfl rfl
theorem at_703 : (Cond.privateMethod ({ cls := "java/lang/AbstractStringBuilder", name := "ensureCapacityInternal", desc := "(I)V" } : MethodName)) ∈ lw_tbl := List.mem_append_right _ (List.mem_append_right _ (List.mem_append_right _ (List.mem_append_left _ (List.mem_of_getElem? (l := tables_1_3) (i := 170) rfl))))
theorem aw_704 : (Cond.instanceMethod ({ cls := "java/lang/AbstractStringBuilder", name := "ensureCapacityInternal", desc := "(I)V" } : MethodName)) ∈ AW := AW_m3 171 rfl rfl
theorem aw_705 : (Cond.code ({ cls := "java/lang/AbstractStringBuilder", name := "ensureCapacityInternal", desc := "(I)V" } : MethodName) prog_16_method_9_code (3 : Nat) (Option.none : Option FieldType)) ∈ AW := AW_m3 172 rfl rfl
theorem aw_706 : (Cond.methodLink "java/lang/AbstractStringBuilder" (104 : Nat) ({ cls := "java/lang/AbstractStringBuilder", name := "newCapacity", desc := "(I)I" } : MethodName)) ∈ AW := AW_m3 173 rfl rfl
theorem at_707 : (Cond.privateMethod ({ cls := "java/lang/AbstractStringBuilder", name := "newCapacity", desc := "(I)I" } : MethodName)) ∈ lw_tbl := List.mem_append_right _ (List.mem_append_right _ (List.mem_append_right _ (List.mem_append_left _ (List.mem_of_getElem? (l := tables_1_3) (i := 174) rfl))))
theorem aw_708 : (Cond.instanceMethod ({ cls := "java/lang/AbstractStringBuilder", name := "newCapacity", desc := "(I)I" } : MethodName)) ∈ AW := AW_m3 175 rfl rfl
theorem aw_709 : (Cond.code ({ cls := "java/lang/AbstractStringBuilder", name := "newCapacity", desc := "(I)I" } : MethodName) prog_16_method_10_code (6 : Nat) (Option.some FieldType.int)) ∈ AW := AW_m3 176 rfl rfl
theorem aw_710 : (Cond.methodLink "java/lang/AbstractStringBuilder" (114 : Nat) ({ cls := "jdk/internal/util/ArraysSupport", name := "newLength", desc := "(III)I" } : MethodName)) ∈ AW := AW_m3 177 rfl rfl
theorem aw_711 : (Cond.static ({ cls := "jdk/internal/util/ArraysSupport", name := "newLength", desc := "(III)I" } : MethodName)) ∈ AW := AW_m3 178 rfl rfl
theorem aw_712 : (Cond.code ({ cls := "jdk/internal/util/ArraysSupport", name := "newLength", desc := "(III)I" } : MethodName) prog_27_method_27_code (4 : Nat) (Option.some FieldType.int)) ∈ AW := AW_m3 179 rfl rfl
theorem aw_713 : (Cond.methodLink "jdk/internal/util/ArraysSupport" (194 : Nat) ({ cls := "java/lang/Math", name := "max", desc := "(II)I" } : MethodName)) ∈ AW := AW_m3 180 rfl rfl
theorem aw_714 : (Cond.constant "jdk/internal/util/ArraysSupport" (200 : Nat) (2147483639 : Int32)) ∈ AW := AW_m3 181 rfl rfl
theorem aw_715 : (Cond.methodLink "jdk/internal/util/ArraysSupport" (201 : Nat) ({ cls := "jdk/internal/util/ArraysSupport", name := "hugeLength", desc := "(II)I" } : MethodName)) ∈ AW := AW_m3 182 rfl rfl
theorem aw_716 : (Cond.static ({ cls := "jdk/internal/util/ArraysSupport", name := "hugeLength", desc := "(II)I" } : MethodName)) ∈ AW := AW_m3 183 rfl rfl
theorem aw_717 : (Cond.code ({ cls := "jdk/internal/util/ArraysSupport", name := "hugeLength", desc := "(II)I" } : MethodName) prog_27_method_28_code (3 : Nat) (Option.some FieldType.int)) ∈ AW := AW_m3 184 rfl rfl
theorem aw_718 : (Cond.constant "java/lang/AbstractStringBuilder" (39 : Nat) (2147483647 : Int32)) ∈ AW := AW_m3 185 rfl rfl
theorem aw_719 : (Cond.methodLink "java/lang/AbstractStringBuilder" (108 : Nat) ({ cls := "java/util/Arrays", name := "copyOf", desc := "([BI)[B" } : MethodName)) ∈ AW := AW_m3 186 rfl rfl
theorem aw_720 : (Cond.static ({ cls := "java/util/Arrays", name := "copyOf", desc := "([BI)[B" } : MethodName)) ∈ AW := AW_m3 187 rfl rfl
theorem aw_721 : (Cond.code ({ cls := "java/util/Arrays", name := "copyOf", desc := "([BI)[B" } : MethodName) prog_26_method_121_code (3 : Nat) (Option.some (FieldType.array FieldType.byte))) ∈ AW := AW_m3 188 rfl rfl
theorem aw_722 : (Cond.methodLink "java/util/Arrays" (310 : Nat) ({ cls := "[B", name := "clone", desc := "()Ljava/lang/Object;" } : MethodName)) ∈ AW := AW_m3 189 rfl rfl
theorem aw_723 : (Cond.sameMethod "[B" "java/lang/Object" "clone" "()Ljava/lang/Object;") ∈ AW := AW_m3 190 rfl rfl
theorem aw_724 : (Cond.native ({ cls := "java/lang/Object", name := "clone", desc := "()Ljava/lang/Object;" } : MethodName)) ∈ AW := AW_m3 191 rfl rfl
theorem aw_725 : (Cond.instanceMethod ({ cls := "java/lang/Object", name := "clone", desc := "()Ljava/lang/Object;" } : MethodName)) ∈ AW := AW_m3 192 rfl rfl
theorem aw_726 : (Cond.selects "[B" ({ cls := "[B", name := "clone", desc := "()Ljava/lang/Object;" } : MethodName) ({ cls := "java/lang/Object", name := "clone", desc := "()Ljava/lang/Object;" } : MethodName)) ∈ AW := AW_m3 193 rfl rfl
theorem at_727 : (Cond.castable "[B" "java/lang/Cloneable") ∈ lw_tbl := List.mem_append_right _ (List.mem_append_right _ (List.mem_append_right _ (List.mem_append_left _ (List.mem_of_getElem? (l := tables_1_3) (i := 194) rfl))))
theorem aw_728 : (Cond.classLink "java/util/Arrays" (311 : Nat) "[B") ∈ AW := AW_m3 195 rfl rfl
theorem aw_729 : (Cond.methodLink "java/util/Arrays" (304 : Nat) ({ cls := "java/lang/Math", name := "min", desc := "(II)I" } : MethodName)) ∈ AW := AW_m3 196 rfl rfl
theorem aw_730 : (Cond.methodLink "java/util/Arrays" (150 : Nat) ({ cls := "java/lang/System", name := "arraycopy", desc := "(Ljava/lang/Object;ILjava/lang/Object;II)V" } : MethodName)) ∈ AW := AW_m3 197 rfl rfl
theorem aw_731 : (Cond.static ({ cls := "java/lang/System", name := "arraycopy", desc := "(Ljava/lang/Object;ILjava/lang/Object;II)V" } : MethodName)) ∈ AW := AW_m3 198 rfl rfl
theorem aw_732 : (Cond.native ({ cls := "java/lang/System", name := "arraycopy", desc := "(Ljava/lang/Object;ILjava/lang/Object;II)V" } : MethodName)) ∈ AW := AW_m3 199 rfl rfl
theorem aw_733 : (Cond.methodLink "java/lang/AbstractStringBuilder" (83 : Nat) ({ cls := "java/lang/AbstractStringBuilder", name := "isLatin1", desc := "()Z" } : MethodName)) ∈ AW := AW_m3 200 rfl rfl
theorem aw_734 : (Cond.instanceMethod ({ cls := "java/lang/AbstractStringBuilder", name := "isLatin1", desc := "()Z" } : MethodName)) ∈ AW := AW_m3 201 rfl rfl
theorem aw_735 : (Cond.sameMethod "java/lang/AbstractStringBuilder" "java/lang/AbstractStringBuilder" "isLatin1" "()Z") ∈ AW := AW_m3 202 rfl rfl
theorem aw_736 : (Cond.selects "java/lang/StringBuilder" ({ cls := "java/lang/AbstractStringBuilder", name := "isLatin1", desc := "()Z" } : MethodName) ({ cls := "java/lang/AbstractStringBuilder", name := "isLatin1", desc := "()Z" } : MethodName)) ∈ AW := AW_m3 203 rfl rfl
theorem aw_737 : (Cond.code ({ cls := "java/lang/AbstractStringBuilder", name := "isLatin1", desc := "()Z" } : MethodName) prog_16_method_68_code (1 : Nat) (Option.some FieldType.boolean)) ∈ AW := AW_m3 204 rfl rfl
theorem aw_738 : (Cond.methodLink "java/lang/AbstractStringBuilder" (191 : Nat) ({ cls := "java/lang/StringLatin1", name := "canEncode", desc := "(C)Z" } : MethodName)) ∈ AW := AW_m3 205 rfl rfl
theorem aw_739 : (Cond.static ({ cls := "java/lang/StringLatin1", name := "canEncode", desc := "(C)Z" } : MethodName)) ∈ AW := AW_m3 206 rfl rfl
theorem aw_740 : (Cond.code ({ cls := "java/lang/StringLatin1", name := "canEncode", desc := "(C)Z" } : MethodName) prog_23_method_3_code (1 : Nat) (Option.some FieldType.boolean)) ∈ AW := AW_m3 207 rfl rfl
theorem aw_741 : (Cond.methodLink "java/lang/AbstractStringBuilder" (195 : Nat) ({ cls := "java/lang/AbstractStringBuilder", name := "inflate", desc := "()V" } : MethodName)) ∈ AW := AW_m3 208 rfl rfl
theorem at_742 : (Cond.privateMethod ({ cls := "java/lang/AbstractStringBuilder", name := "inflate", desc := "()V" } : MethodName)) ∈ lw_tbl := List.mem_append_right _ (List.mem_append_right _ (List.mem_append_right _ (List.mem_append_left _ (List.mem_of_getElem? (l := tables_1_3) (i := 209) rfl))))
theorem aw_743 : (Cond.instanceMethod ({ cls := "java/lang/AbstractStringBuilder", name := "inflate", desc := "()V" } : MethodName)) ∈ AW := AW_m3 210 rfl rfl
theorem aw_744 : (Cond.code ({ cls := "java/lang/AbstractStringBuilder", name := "inflate", desc := "()V" } : MethodName) prog_16_method_11_code (2 : Nat) (Option.none : Option FieldType)) ∈ AW := AW_m3 211 rfl rfl
theorem aw_745 : (Cond.methodLink "java/lang/AbstractStringBuilder" (125 : Nat) ({ cls := "java/lang/StringLatin1", name := "inflate", desc := "([BI[BII)V" } : MethodName)) ∈ AW := AW_m3 212 rfl rfl
theorem aw_746 : (Cond.static ({ cls := "java/lang/StringLatin1", name := "inflate", desc := "([BI[BII)V" } : MethodName)) ∈ AW := AW_m3 213 rfl rfl
theorem aw_747 : (Cond.code ({ cls := "java/lang/StringLatin1", name := "inflate", desc := "([BI[BII)V" } : MethodName) prog_23_method_50_code (5 : Nat) (Option.none : Option FieldType)) ∈ AW := AW_m3 214 rfl rfl
theorem aw_748 : (Cond.methodLink "java/lang/StringLatin1" (240 : Nat) ({ cls := "java/lang/StringUTF16", name := "inflate", desc := "([BI[BII)V" } : MethodName)) ∈ AW := AW_m3 215 rfl rfl
theorem aw_749 : (Cond.static ({ cls := "java/lang/StringUTF16", name := "inflate", desc := "([BI[BII)V" } : MethodName)) ∈ AW := AW_m3 216 rfl rfl
theorem aw_750 : (Cond.code ({ cls := "java/lang/StringUTF16", name := "inflate", desc := "([BI[BII)V" } : MethodName) prog_24_method_86_code (6 : Nat) (Option.none : Option FieldType)) ∈ AW := AW_m3 217 rfl rfl
theorem aw_751 : (Cond.methodLink "java/lang/StringUTF16" (173 : Nat) ({ cls := "java/lang/StringUTF16", name := "checkBoundsOffCount", desc := "(II[B)V" } : MethodName)) ∈ AW := AW_m3 218 rfl rfl
theorem aw_752 : (Cond.static ({ cls := "java/lang/StringUTF16", name := "checkBoundsOffCount", desc := "(II[B)V" } : MethodName)) ∈ AW := AW_m3 219 rfl rfl
theorem aw_753 : (Cond.code ({ cls := "java/lang/StringUTF16", name := "checkBoundsOffCount", desc := "(II[B)V" } : MethodName) prog_24_method_94_code (3 : Nat) (Option.none : Option FieldType)) ∈ AW := AW_m3 220 rfl rfl
theorem aw_754 : (Cond.methodLink "java/lang/StringUTF16" (48 : Nat) ({ cls := "java/lang/StringUTF16", name := "length", desc := "([B)I" } : MethodName)) ∈ AW := AW_m3 221 rfl rfl
theorem aw_755 : (Cond.static ({ cls := "java/lang/StringUTF16", name := "length", desc := "([B)I" } : MethodName)) ∈ AW := AW_m3 222 rfl rfl
theorem aw_756 : (Cond.code ({ cls := "java/lang/StringUTF16", name := "length", desc := "([B)I" } : MethodName) prog_24_method_6_code (1 : Nat) (Option.some FieldType.int)) ∈ AW := AW_m3 223 rfl rfl
theorem aw_757 : (Cond.methodLink "java/lang/StringUTF16" (419 : Nat) ({ cls := "java/lang/String", name := "checkBoundsOffCount", desc := "(III)I" } : MethodName)) ∈ AW := AW_m3 224 rfl rfl
theorem aw_758 : (Cond.static ({ cls := "java/lang/String", name := "checkBoundsOffCount", desc := "(III)I" } : MethodName)) ∈ AW := AW_m3 225 rfl rfl
theorem aw_759 : (Cond.code ({ cls := "java/lang/String", name := "checkBoundsOffCount", desc := "(III)I" } : MethodName) prog_21_method_157_code (3 : Nat) (Option.some FieldType.int)) ∈ AW := AW_m3 226 rfl rfl
theorem aw_760 : (Cond.fieldLink "java/lang/String" (1053 : Nat) "jdk/internal/util/Preconditions" "SIOOBE_FORMATTER" "Ljava/util/function/BiFunction;") ∈ AW := AW_m3 227 rfl rfl
theorem at_761 : (Cond.laysStatic "jdk/internal/util/Preconditions" "SIOOBE_FORMATTER" "Ljava/util/function/BiFunction;") ∈ lw_tbl := List.mem_append_right _ (List.mem_append_right _ (List.mem_append_right _ (List.mem_append_left _ (List.mem_of_getElem? (l := tables_1_3) (i := 228) rfl))))
theorem aw_762 : (Cond.methodLink "java/lang/String" (1065 : Nat) ({ cls := "jdk/internal/util/Preconditions", name := "checkFromIndexSize", desc := "(IIILjava/util/function/BiFunction;)I" } : MethodName)) ∈ AW := AW_m3 229 rfl rfl
theorem aw_763 : (Cond.static ({ cls := "jdk/internal/util/Preconditions", name := "checkFromIndexSize", desc := "(IIILjava/util/function/BiFunction;)I" } : MethodName)) ∈ AW := AW_m3 230 rfl rfl
theorem aw_764 : (Cond.code ({ cls := "jdk/internal/util/Preconditions", name := "checkFromIndexSize", desc := "(IIILjava/util/function/BiFunction;)I" } : MethodName) prog_28_method_13_code (4 : Nat) (Option.some FieldType.int)) ∈ AW := AW_m3 231 rfl rfl
theorem aw_765 : (Cond.methodLink "java/lang/StringUTF16" (111 : Nat) ({ cls := "java/lang/StringUTF16", name := "putChar", desc := "([BII)V" } : MethodName)) ∈ AW := AW_m3 232 rfl rfl
theorem aw_766 : (Cond.static ({ cls := "java/lang/StringUTF16", name := "putChar", desc := "([BII)V" } : MethodName)) ∈ AW := AW_m3 233 rfl rfl
theorem aw_767 : (Cond.code ({ cls := "java/lang/StringUTF16", name := "putChar", desc := "([BII)V" } : MethodName) prog_24_method_4_code (3 : Nat) (Option.none : Option FieldType)) ∈ AW := AW_m3 234 rfl rfl
theorem aw_768 : (Cond.fieldLink "java/lang/StringUTF16" (44 : Nat) "java/lang/StringUTF16" "$assertionsDisabled" "Z") ∈ AW := AW_m3 235 rfl rfl
theorem at_769 : (Cond.laysStatic "java/lang/StringUTF16" "$assertionsDisabled" "Z") ∈ lw_tbl := List.mem_append_right _ (List.mem_append_right _ (List.mem_append_right _ (List.mem_append_left _ (List.mem_of_getElem? (l := tables_1_3) (i := 236) rfl))))
theorem aw_770 : (Cond.fieldLink "java/lang/StringUTF16" (59 : Nat) "java/lang/StringUTF16" "HI_BYTE_SHIFT" "I") ∈ AW := AW_m3 237 rfl rfl
theorem at_771 : (Cond.laysStatic "java/lang/StringUTF16" "HI_BYTE_SHIFT" "I") ∈ lw_tbl := List.mem_append_right _ (List.mem_append_right _ (List.mem_append_right _ (List.mem_append_left _ (List.mem_of_getElem? (l := tables_1_3) (i := 238) rfl))))
theorem aw_772 : (Cond.fieldLink "java/lang/StringUTF16" (63 : Nat) "java/lang/StringUTF16" "LO_BYTE_SHIFT" "I") ∈ AW := AW_m3 239 rfl rfl
theorem at_773 : (Cond.laysStatic "java/lang/StringUTF16" "LO_BYTE_SHIFT" "I") ∈ lw_tbl := List.mem_append_right _ (List.mem_append_right _ (List.mem_append_right _ (List.mem_append_right _ (List.mem_append_left _ (List.mem_of_getElem? (l := tables_1_4) (i := 0) rfl)))))
theorem aw_774 : (Cond.methodLink "java/lang/AbstractStringBuilder" (197 : Nat) ({ cls := "java/lang/StringUTF16", name := "putCharSB", desc := "([BII)V" } : MethodName)) ∈ AW := AW_m4 1 rfl rfl
theorem aw_775 : (Cond.static ({ cls := "java/lang/StringUTF16", name := "putCharSB", desc := "([BII)V" } : MethodName)) ∈ AW := AW_m4 2 rfl rfl
theorem aw_776 : (Cond.code ({ cls := "java/lang/StringUTF16", name := "putCharSB", desc := "([BII)V" } : MethodName) prog_24_method_71_code (3 : Nat) (Option.none : Option FieldType)) ∈ AW := AW_m4 3 rfl rfl
theorem aw_777 : (Cond.methodLink "java/lang/StringUTF16" (67 : Nat) ({ cls := "java/lang/StringUTF16", name := "checkIndex", desc := "(I[B)V" } : MethodName)) ∈ AW := AW_m4 4 rfl rfl
theorem aw_778 : (Cond.static ({ cls := "java/lang/StringUTF16", name := "checkIndex", desc := "(I[B)V" } : MethodName)) ∈ AW := AW_m4 5 rfl rfl
theorem aw_779 : (Cond.code ({ cls := "java/lang/StringUTF16", name := "checkIndex", desc := "(I[B)V" } : MethodName) prog_24_method_91_code (2 : Nat) (Option.none : Option FieldType)) ∈ AW := AW_m4 6 rfl rfl
theorem aw_780 : (Cond.methodLink "java/lang/StringUTF16" (414 : Nat) ({ cls := "java/lang/String", name := "checkIndex", desc := "(II)V" } : MethodName)) ∈ AW := AW_m4 7 rfl rfl
theorem aw_781 : (Cond.static ({ cls := "java/lang/String", name := "checkIndex", desc := "(II)V" } : MethodName)) ∈ AW := AW_m4 8 rfl rfl
theorem aw_782 : (Cond.code ({ cls := "java/lang/String", name := "checkIndex", desc := "(II)V" } : MethodName) prog_21_method_155_code (2 : Nat) (Option.none : Option FieldType)) ∈ AW := AW_m4 9 rfl rfl
theorem aw_783 : (Cond.methodLink "java/lang/String" (1059 : Nat) ({ cls := "jdk/internal/util/Preconditions", name := "checkIndex", desc := "(IILjava/util/function/BiFunction;)I" } : MethodName)) ∈ AW := AW_m4 10 rfl rfl
theorem aw_784 : (Cond.static ({ cls := "jdk/internal/util/Preconditions", name := "checkIndex", desc := "(IILjava/util/function/BiFunction;)I" } : MethodName)) ∈ AW := AW_m4 11 rfl rfl
theorem aw_785 : (Cond.code ({ cls := "jdk/internal/util/Preconditions", name := "checkIndex", desc := "(IILjava/util/function/BiFunction;)I" } : MethodName) prog_28_method_11_code (3 : Nat) (Option.some FieldType.int)) ∈ AW := AW_m4 12 rfl rfl
theorem aw_786 : (Cond.methodLink "KilnKeeperLaw" (105 : Nat) ({ cls := "KilnKeeper", name := "run", desc := "()I" } : MethodName)) ∈ AW := AW_m4 13 rfl rfl
theorem aw_787 : (Cond.instanceMethod ({ cls := "KilnKeeper", name := "run", desc := "()I" } : MethodName)) ∈ AW := AW_m4 14 rfl rfl
theorem aw_788 : (Cond.selects "KilnKeeper" ({ cls := "KilnKeeper", name := "run", desc := "()I" } : MethodName) ({ cls := "KilnKeeper", name := "run", desc := "()I" } : MethodName)) ∈ AW := AW_m4 15 rfl rfl
theorem aw_789 : (Cond.code ({ cls := "KilnKeeper", name := "run", desc := "()I" } : MethodName) prog_1_method_24_code (3 : Nat) (Option.some FieldType.int)) ∈ AW := AW_m4 16 rfl rfl
theorem aw_790 : (Cond.methodLink "KilnKeeper" (177 : Nat) ({ cls := "KilnKeeper$Reader", name := "read", desc := "()I" } : MethodName)) ∈ AW := AW_m4 17 rfl rfl
theorem aw_791 : (Cond.instanceMethod ({ cls := "KilnKeeper$Reader", name := "read", desc := "()I" } : MethodName)) ∈ AW := AW_m4 18 rfl rfl
theorem aw_792 : (Cond.selects "KilnKeeper$Reader" ({ cls := "KilnKeeper$Reader", name := "read", desc := "()I" } : MethodName) ({ cls := "KilnKeeper$Reader", name := "read", desc := "()I" } : MethodName)) ∈ AW := AW_m4 19 rfl rfl
theorem aw_793 : (Cond.code ({ cls := "KilnKeeper$Reader", name := "read", desc := "()I" } : MethodName) prog_10_method_6_code (4 : Nat) (Option.some FieldType.int)) ∈ AW := AW_m4 20 rfl rfl
theorem aw_794 : (Cond.methodLink "KilnKeeper$Reader" (41 : Nat) ({ cls := "KilnKeeper$Reader", name := "orderAt", desc := "(I)LKilnKeeper$Order;" } : MethodName)) ∈ AW := AW_m4 21 rfl rfl
theorem aw_795 : (Cond.instanceMethod ({ cls := "KilnKeeper$Reader", name := "orderAt", desc := "(I)LKilnKeeper$Order;" } : MethodName)) ∈ AW := AW_m4 22 rfl rfl
theorem aw_796 : (Cond.selects "KilnKeeper$Reader" ({ cls := "KilnKeeper$Reader", name := "orderAt", desc := "(I)LKilnKeeper$Order;" } : MethodName) ({ cls := "KilnKeeper$Reader", name := "orderAt", desc := "(I)LKilnKeeper$Order;" } : MethodName)) ∈ AW := AW_m4 23 rfl rfl
theorem aw_797 : (Cond.code ({ cls := "KilnKeeper$Reader", name := "orderAt", desc := "(I)LKilnKeeper$Order;" } : MethodName) prog_10_method_5_code (2 : Nat) (Option.some (FieldType.object "KilnKeeper$Order"))) ∈ AW := AW_m4 24 rfl rfl
theorem aw_798 : (Cond.methodLink "KilnKeeper$Reader" (45 : Nat) ({ cls := "KilnKeeper$Reader", name := "readOrder", desc := "(ILKilnKeeper$Order;)I" } : MethodName)) ∈ AW := AW_m4 25 rfl rfl
theorem at_799 : (Cond.privateMethod ({ cls := "KilnKeeper$Reader", name := "readOrder", desc := "(ILKilnKeeper$Order;)I" } : MethodName)) ∈ lw_tbl := List.mem_append_right _ (List.mem_append_right _ (List.mem_append_right _ (List.mem_append_right _ (List.mem_append_left _ (List.mem_of_getElem? (l := tables_1_4) (i := 26) rfl)))))
theorem aw_800 : (Cond.instanceMethod ({ cls := "KilnKeeper$Reader", name := "readOrder", desc := "(ILKilnKeeper$Order;)I" } : MethodName)) ∈ AW := AW_m4 27 rfl rfl
theorem aw_801 : (Cond.code ({ cls := "KilnKeeper$Reader", name := "readOrder", desc := "(ILKilnKeeper$Order;)I" } : MethodName) prog_10_method_7_code (9 : Nat) (Option.some FieldType.int)) ∈ AW := AW_m4 28 rfl rfl
theorem at_802 : (Cond.fieldLinkNest "KilnKeeper$Reader" (57 : Nat) "KilnKeeper" "WORDS" "[LKilnKeeper$Word;" "KilnKeeper") ∈ lw_tbl := List.mem_append_right _ (List.mem_append_right _ (List.mem_append_right _ (List.mem_append_right _ (List.mem_append_left _ (List.mem_of_getElem? (l := tables_1_4) (i := 29) rfl)))))
theorem at_803 : (Cond.laysStatic "KilnKeeper" "WORDS" "[LKilnKeeper$Word;") ∈ lw_tbl := List.mem_append_right _ (List.mem_append_right _ (List.mem_append_right _ (List.mem_append_right _ (List.mem_append_left _ (List.mem_of_getElem? (l := tables_1_4) (i := 30) rfl)))))
theorem aw_804 : (Cond.methodLink "KilnKeeper$Reader" (61 : Nat) ({ cls := "KilnKeeper$Reader", name := "readForm", desc := "(LKilnKeeper$Word;ILKilnKeeper$Order;)I" } : MethodName)) ∈ AW := AW_m4 31 rfl rfl
theorem at_805 : (Cond.privateMethod ({ cls := "KilnKeeper$Reader", name := "readForm", desc := "(LKilnKeeper$Word;ILKilnKeeper$Order;)I" } : MethodName)) ∈ lw_tbl := List.mem_append_right _ (List.mem_append_right _ (List.mem_append_right _ (List.mem_append_right _ (List.mem_append_left _ (List.mem_of_getElem? (l := tables_1_4) (i := 32) rfl)))))
theorem aw_806 : (Cond.instanceMethod ({ cls := "KilnKeeper$Reader", name := "readForm", desc := "(LKilnKeeper$Word;ILKilnKeeper$Order;)I" } : MethodName)) ∈ AW := AW_m4 33 rfl rfl
theorem aw_807 : (Cond.code ({ cls := "KilnKeeper$Reader", name := "readForm", desc := "(LKilnKeeper$Word;ILKilnKeeper$Order;)I" } : MethodName) prog_10_method_8_code (9 : Nat) (Option.some FieldType.int)) ∈ AW := AW_m4 34 rfl rfl
theorem aw_808 : (Cond.methodLink "KilnKeeper$Reader" (71 : Nat) ({ cls := "KilnKeeper$Reader", name := "faultAt", desc := "(I)I" } : MethodName)) ∈ AW := AW_m4 35 rfl rfl
theorem aw_809 : (Cond.static ({ cls := "KilnKeeper$Reader", name := "faultAt", desc := "(I)I" } : MethodName)) ∈ AW := AW_m4 36 rfl rfl
theorem aw_810 : (Cond.code ({ cls := "KilnKeeper$Reader", name := "faultAt", desc := "(I)I" } : MethodName) prog_10_method_13_code (1 : Nat) (Option.some FieldType.int)) ∈ AW := AW_m4 37 rfl rfl
theorem aw_811 : (Cond.methodLink "KilnKeeper$Reader" (84 : Nat) ({ cls := "java/lang/String", name := "length", desc := "()I" } : MethodName)) ∈ AW := AW_m4 38 rfl rfl
theorem aw_812 : (Cond.instanceMethod ({ cls := "java/lang/String", name := "length", desc := "()I" } : MethodName)) ∈ AW := AW_m4 39 rfl rfl
theorem aw_813 : (Cond.selects "java/lang/String" ({ cls := "java/lang/String", name := "length", desc := "()I" } : MethodName) ({ cls := "java/lang/String", name := "length", desc := "()I" } : MethodName)) ∈ AW := AW_m4 40 rfl rfl
theorem aw_814 : (Cond.code ({ cls := "java/lang/String", name := "length", desc := "()I" } : MethodName) prog_21_method_54_code (1 : Nat) (Option.some FieldType.int)) ∈ AW := AW_m4 41 rfl rfl
theorem aw_815 : (Cond.methodLink "java/lang/String" (335 : Nat) ({ cls := "java/lang/String", name := "coder", desc := "()B" } : MethodName)) ∈ AW := AW_m4 42 rfl rfl
theorem aw_816 : (Cond.instanceMethod ({ cls := "java/lang/String", name := "coder", desc := "()B" } : MethodName)) ∈ AW := AW_m4 43 rfl rfl
theorem aw_817 : (Cond.selects "java/lang/String" ({ cls := "java/lang/String", name := "coder", desc := "()B" } : MethodName) ({ cls := "java/lang/String", name := "coder", desc := "()B" } : MethodName)) ∈ AW := AW_m4 44 rfl rfl
theorem aw_818 : (Cond.code ({ cls := "java/lang/String", name := "coder", desc := "()B" } : MethodName) prog_21_method_152_code (1 : Nat) (Option.some FieldType.byte)) ∈ AW := AW_m4 45 rfl rfl
theorem aw_819 : (Cond.fieldLink "java/lang/String" (38 : Nat) "java/lang/String" "COMPACT_STRINGS" "Z") ∈ AW := AW_m4 46 rfl rfl
theorem aw_820 : (Cond.methodLink "KilnKeeper$Reader" (87 : Nat) ({ cls := "java/lang/String", name := "charAt", desc := "(I)C" } : MethodName)) ∈ AW := AW_m4 47 rfl rfl
theorem aw_821 : (Cond.instanceMethod ({ cls := "java/lang/String", name := "charAt", desc := "(I)C" } : MethodName)) ∈ AW := AW_m4 48 rfl rfl
theorem aw_822 : (Cond.selects "java/lang/String" ({ cls := "java/lang/String", name := "charAt", desc := "(I)C" } : MethodName) ({ cls := "java/lang/String", name := "charAt", desc := "(I)C" } : MethodName)) ∈ AW := AW_m4 49 rfl rfl
theorem aw_823 : (Cond.code ({ cls := "java/lang/String", name := "charAt", desc := "(I)C" } : MethodName) prog_21_method_56_code (2 : Nat) (Option.some FieldType.char)) ∈ AW := AW_m4 50 rfl rfl
theorem aw_824 : (Cond.methodLink "java/lang/String" (492 : Nat) ({ cls := "java/lang/String", name := "isLatin1", desc := "()Z" } : MethodName)) ∈ AW := AW_m4 51 rfl rfl
theorem aw_825 : (Cond.instanceMethod ({ cls := "java/lang/String", name := "isLatin1", desc := "()Z" } : MethodName)) ∈ AW := AW_m4 52 rfl rfl
theorem aw_826 : (Cond.selects "java/lang/String" ({ cls := "java/lang/String", name := "isLatin1", desc := "()Z" } : MethodName) ({ cls := "java/lang/String", name := "isLatin1", desc := "()Z" } : MethodName)) ∈ AW := AW_m4 53 rfl rfl
theorem aw_827 : (Cond.code ({ cls := "java/lang/String", name := "isLatin1", desc := "()Z" } : MethodName) prog_21_method_154_code (1 : Nat) (Option.some FieldType.boolean)) ∈ AW := AW_m4 54 rfl rfl
theorem aw_828 : (Cond.methodLink "java/lang/String" (495 : Nat) ({ cls := "java/lang/StringLatin1", name := "charAt", desc := "([BI)C" } : MethodName)) ∈ AW := AW_m4 55 rfl rfl
theorem aw_829 : (Cond.static ({ cls := "java/lang/StringLatin1", name := "charAt", desc := "([BI)C" } : MethodName)) ∈ AW := AW_m4 56 rfl rfl
theorem aw_830 : (Cond.code ({ cls := "java/lang/StringLatin1", name := "charAt", desc := "([BI)C" } : MethodName) prog_23_method_2_code (2 : Nat) (Option.some FieldType.char)) ∈ AW := AW_m4 57 rfl rfl
theorem aw_831 : (Cond.methodLink "java/lang/StringLatin1" (9 : Nat) ({ cls := "java/lang/String", name := "checkIndex", desc := "(II)V" } : MethodName)) ∈ AW := AW_m4 58 rfl rfl
theorem aw_832 : (Cond.methodLink "java/lang/String" (498 : Nat) ({ cls := "java/lang/StringUTF16", name := "charAt", desc := "([BI)C" } : MethodName)) ∈ AW := AW_m4 59 rfl rfl
theorem aw_833 : (Cond.static ({ cls := "java/lang/StringUTF16", name := "charAt", desc := "([BI)C" } : MethodName)) ∈ AW := AW_m4 60 rfl rfl
theorem aw_834 : (Cond.code ({ cls := "java/lang/StringUTF16", name := "charAt", desc := "([BI)C" } : MethodName) prog_24_method_83_code (2 : Nat) (Option.some FieldType.char)) ∈ AW := AW_m4 61 rfl rfl
theorem aw_835 : (Cond.methodLink "java/lang/StringUTF16" (71 : Nat) ({ cls := "java/lang/StringUTF16", name := "getChar", desc := "([BI)C" } : MethodName)) ∈ AW := AW_m4 62 rfl rfl
theorem aw_836 : (Cond.static ({ cls := "java/lang/StringUTF16", name := "getChar", desc := "([BI)C" } : MethodName)) ∈ AW := AW_m4 63 rfl rfl
theorem aw_837 : (Cond.code ({ cls := "java/lang/StringUTF16", name := "getChar", desc := "([BI)C" } : MethodName) prog_24_method_5_code (2 : Nat) (Option.some FieldType.char)) ∈ AW := AW_m4 64 rfl rfl
theorem aw_838 : (Cond.methodLink "KilnKeeper$Reader" (91 : Nat) ({ cls := "KilnKeeper$Reader", name := "endOfDigits", desc := "(II)I" } : MethodName)) ∈ AW := AW_m4 65 rfl rfl
theorem at_839 : (Cond.privateMethod ({ cls := "KilnKeeper$Reader", name := "endOfDigits", desc := "(II)I" } : MethodName)) ∈ lw_tbl := List.mem_append_right _ (List.mem_append_right _ (List.mem_append_right _ (List.mem_append_right _ (List.mem_append_left _ (List.mem_of_getElem? (l := tables_1_4) (i := 66) rfl)))))
theorem aw_840 : (Cond.instanceMethod ({ cls := "KilnKeeper$Reader", name := "endOfDigits", desc := "(II)I" } : MethodName)) ∈ AW := AW_m4 67 rfl rfl
theorem aw_841 : (Cond.code ({ cls := "KilnKeeper$Reader", name := "endOfDigits", desc := "(II)I" } : MethodName) prog_10_method_9_code (4 : Nat) (Option.some FieldType.int)) ∈ AW := AW_m4 68 rfl rfl
theorem aw_842 : (Cond.methodLink "KilnKeeper$Reader" (105 : Nat) ({ cls := "KilnKeeper$Reader", name := "digitAt", desc := "(I)I" } : MethodName)) ∈ AW := AW_m4 69 rfl rfl
theorem at_843 : (Cond.privateMethod ({ cls := "KilnKeeper$Reader", name := "digitAt", desc := "(I)I" } : MethodName)) ∈ lw_tbl := List.mem_append_right _ (List.mem_append_right _ (List.mem_append_right _ (List.mem_append_right _ (List.mem_append_left _ (List.mem_of_getElem? (l := tables_1_4) (i := 70) rfl)))))
theorem aw_844 : (Cond.instanceMethod ({ cls := "KilnKeeper$Reader", name := "digitAt", desc := "(I)I" } : MethodName)) ∈ AW := AW_m4 71 rfl rfl
theorem aw_845 : (Cond.code ({ cls := "KilnKeeper$Reader", name := "digitAt", desc := "(I)I" } : MethodName) prog_10_method_11_code (3 : Nat) (Option.some FieldType.int)) ∈ AW := AW_m4 72 rfl rfl
theorem aw_846 : (Cond.methodLink "KilnKeeper$Reader" (108 : Nat) ({ cls := "java/lang/StringBuilder", name := "charAt", desc := "(I)C" } : MethodName)) ∈ AW := AW_m4 73 rfl rfl
theorem aw_847 : (Cond.instanceMethod ({ cls := "java/lang/StringBuilder", name := "charAt", desc := "(I)C" } : MethodName)) ∈ AW := AW_m4 74 rfl rfl
theorem aw_848 : (Cond.selects "java/lang/StringBuilder" ({ cls := "java/lang/StringBuilder", name := "charAt", desc := "(I)C" } : MethodName) ({ cls := "java/lang/StringBuilder", name := "charAt", desc := "(I)C" } : MethodName)) ∈ AW := AW_m4 75 rfl rfl
theorem aw_849 : (Cond.code ({ cls := "java/lang/StringBuilder", name := "charAt", desc := "(I)C" } : MethodName) prog_22_method_88_code (2 : Nat) (Option.some FieldType.char)) ∈ AW := AW_m4 76 rfl rfl
theorem aw_850 : (Cond.methodLink "java/lang/StringBuilder" (329 : Nat) ({ cls := "java/lang/AbstractStringBuilder", name := "charAt", desc := "(I)C" } : MethodName)) ∈ AW := AW_m4 77 rfl rfl
theorem aw_851 : (Cond.instanceMethod ({ cls := "java/lang/AbstractStringBuilder", name := "charAt", desc := "(I)C" } : MethodName)) ∈ AW := AW_m4 78 rfl rfl
theorem aw_852 : (Cond.code ({ cls := "java/lang/AbstractStringBuilder", name := "charAt", desc := "(I)C" } : MethodName) prog_16_method_14_code (5 : Nat) (Option.some FieldType.char)) ∈ AW := AW_m4 79 rfl rfl
theorem aw_853 : (Cond.methodLink "java/lang/AbstractStringBuilder" (138 : Nat) ({ cls := "java/lang/Math", name := "min", desc := "(II)I" } : MethodName)) ∈ AW := AW_m4 80 rfl rfl
theorem aw_854 : (Cond.methodLink "java/lang/AbstractStringBuilder" (144 : Nat) ({ cls := "java/lang/String", name := "checkIndex", desc := "(II)V" } : MethodName)) ∈ AW := AW_m4 81 rfl rfl
theorem aw_855 : (Cond.methodLink "java/lang/AbstractStringBuilder" (148 : Nat) ({ cls := "java/lang/StringUTF16", name := "getChar", desc := "([BI)C" } : MethodName)) ∈ AW := AW_m4 82 rfl rfl
theorem aw_856 : (Cond.methodLink "KilnKeeper$Reader" (98 : Nat) ({ cls := "KilnKeeper$Reader", name := "numberFrom", desc := "(II)I" } : MethodName)) ∈ AW := AW_m4 83 rfl rfl
theorem at_857 : (Cond.privateMethod ({ cls := "KilnKeeper$Reader", name := "numberFrom", desc := "(II)I" } : MethodName)) ∈ lw_tbl := List.mem_append_right _ (List.mem_append_right _ (List.mem_append_right _ (List.mem_append_right _ (List.mem_append_left _ (List.mem_of_getElem? (l := tables_1_4) (i := 84) rfl)))))
theorem aw_858 : (Cond.instanceMethod ({ cls := "KilnKeeper$Reader", name := "numberFrom", desc := "(II)I" } : MethodName)) ∈ AW := AW_m4 85 rfl rfl
theorem aw_859 : (Cond.code ({ cls := "KilnKeeper$Reader", name := "numberFrom", desc := "(II)I" } : MethodName) prog_10_method_10_code (5 : Nat) (Option.some FieldType.int)) ∈ AW := AW_m4 86 rfl rfl
theorem at_860 : (Cond.methodLinkNest "KilnKeeper$Reader" (101 : Nat) ({ cls := "KilnKeeper", name := "setNumberAt", desc := "([III)V" } : MethodName) "KilnKeeper") ∈ lw_tbl := List.mem_append_right _ (List.mem_append_right _ (List.mem_append_right _ (List.mem_append_right _ (List.mem_append_left _ (List.mem_of_getElem? (l := tables_1_4) (i := 87) rfl)))))
theorem aw_861 : (Cond.methodLink "KilnKeeper$Reader" (53 : Nat) ({ cls := "KilnKeeper$Reader", name := "isSignAt", desc := "(IC)Z" } : MethodName)) ∈ AW := AW_m4 88 rfl rfl
theorem at_862 : (Cond.privateMethod ({ cls := "KilnKeeper$Reader", name := "isSignAt", desc := "(IC)Z" } : MethodName)) ∈ lw_tbl := List.mem_append_right _ (List.mem_append_right _ (List.mem_append_right _ (List.mem_append_right _ (List.mem_append_left _ (List.mem_of_getElem? (l := tables_1_4) (i := 89) rfl)))))
theorem aw_863 : (Cond.instanceMethod ({ cls := "KilnKeeper$Reader", name := "isSignAt", desc := "(IC)Z" } : MethodName)) ∈ AW := AW_m4 90 rfl rfl
theorem aw_864 : (Cond.code ({ cls := "KilnKeeper$Reader", name := "isSignAt", desc := "(IC)Z" } : MethodName) prog_10_method_12_code (3 : Nat) (Option.some FieldType.boolean)) ∈ AW := AW_m4 91 rfl rfl
theorem aw_865 : (Cond.methodLink "KilnKeeper$Reader" (49 : Nat) ({ cls := "KilnKeeper$Reader", name := "placeOfFault", desc := "(I)I" } : MethodName)) ∈ AW := AW_m4 92 rfl rfl
theorem aw_866 : (Cond.static ({ cls := "KilnKeeper$Reader", name := "placeOfFault", desc := "(I)I" } : MethodName)) ∈ AW := AW_m4 93 rfl rfl
theorem aw_867 : (Cond.code ({ cls := "KilnKeeper$Reader", name := "placeOfFault", desc := "(I)I" } : MethodName) prog_10_method_14_code (1 : Nat) (Option.some FieldType.int)) ∈ AW := AW_m4 94 rfl rfl
theorem aw_868 : (Cond.methodLink "KilnKeeper$Reader" (65 : Nat) ({ cls := "java/lang/Math", name := "max", desc := "(II)I" } : MethodName)) ∈ AW := AW_m4 95 rfl rfl
theorem aw_869 : (Cond.methodLink "KilnKeeper" (180 : Nat) ({ cls := "KilnKeeper$Reader", name := "clearText", desc := "()V" } : MethodName)) ∈ AW := AW_m4 96 rfl rfl
theorem aw_870 : (Cond.instanceMethod ({ cls := "KilnKeeper$Reader", name := "clearText", desc := "()V" } : MethodName)) ∈ AW := AW_m4 97 rfl rfl
theorem aw_871 : (Cond.selects "KilnKeeper$Reader" ({ cls := "KilnKeeper$Reader", name := "clearText", desc := "()V" } : MethodName) ({ cls := "KilnKeeper$Reader", name := "clearText", desc := "()V" } : MethodName)) ∈ AW := AW_m4 98 rfl rfl
theorem aw_872 : (Cond.code ({ cls := "KilnKeeper$Reader", name := "clearText", desc := "()V" } : MethodName) prog_10_method_3_code (1 : Nat) (Option.none : Option FieldType)) ∈ AW := AW_m4 99 rfl rfl
theorem aw_873 : (Cond.methodLink "KilnKeeper$Reader" (29 : Nat) ({ cls := "java/lang/StringBuilder", name := "setLength", desc := "(I)V" } : MethodName)) ∈ AW := AW_m4 100 rfl rfl
theorem aw_874 : (Cond.instanceMethod ({ cls := "java/lang/StringBuilder", name := "setLength", desc := "(I)V" } : MethodName)) ∈ AW := AW_m4 101 rfl rfl
theorem aw_875 : (Cond.selects "java/lang/StringBuilder" ({ cls := "java/lang/StringBuilder", name := "setLength", desc := "(I)V" } : MethodName) ({ cls := "java/lang/StringBuilder", name := "setLength", desc := "(I)V" } : MethodName)) ∈ AW := AW_m4 102 rfl rfl
theorem aw_876 : (Cond.code ({ cls := "java/lang/StringBuilder", name := "setLength", desc := "(I)V" } : MethodName) prog_22_method_89_code (2 : Nat) (Option.none : Option FieldType)) ∈ AW := AW_m4 103 rfl rfl
theorem aw_877 : (Cond.methodLink "java/lang/StringBuilder" (333 : Nat) ({ cls := "java/lang/AbstractStringBuilder", name := "setLength", desc := "(I)V" } : MethodName)) ∈ AW := AW_m4 104 rfl rfl
theorem aw_878 : (Cond.instanceMethod ({ cls := "java/lang/AbstractStringBuilder", name := "setLength", desc := "(I)V" } : MethodName)) ∈ AW := AW_m4 105 rfl rfl
theorem aw_879 : (Cond.code ({ cls := "java/lang/AbstractStringBuilder", name := "setLength", desc := "(I)V" } : MethodName) prog_16_method_13_code (2 : Nat) (Option.none : Option FieldType)) ∈ AW := AW_m4 106 rfl rfl
theorem aw_880 : (Cond.methodLink "java/lang/AbstractStringBuilder" (133 : Nat) ({ cls := "java/lang/StringLatin1", name := "fillNull", desc := "([BII)V" } : MethodName)) ∈ AW := AW_m4 107 rfl rfl
theorem aw_881 : (Cond.static ({ cls := "java/lang/StringLatin1", name := "fillNull", desc := "([BII)V" } : MethodName)) ∈ AW := AW_m4 108 rfl rfl
theorem aw_882 : (Cond.code ({ cls := "java/lang/StringLatin1", name := "fillNull", desc := "([BII)V" } : MethodName) prog_23_method_48_code (3 : Nat) (Option.none : Option FieldType)) ∈ AW := AW_m4 109 rfl rfl
theorem aw_883 : (Cond.methodLink "java/lang/StringLatin1" (236 : Nat) ({ cls := "java/util/Arrays", name := "fill", desc := "([BIIB)V" } : MethodName)) ∈ AW := AW_m4 110 rfl rfl
theorem aw_884 : (Cond.static ({ cls := "java/util/Arrays", name := "fill", desc := "([BIIB)V" } : MethodName)) ∈ AW := AW_m4 111 rfl rfl
theorem aw_885 : (Cond.code ({ cls := "java/util/Arrays", name := "fill", desc := "([BIIB)V" } : MethodName) prog_26_method_110_code (5 : Nat) (Option.none : Option FieldType)) ∈ AW := AW_m4 112 rfl rfl
theorem aw_886 : (Cond.methodLink "java/util/Arrays" (13 : Nat) ({ cls := "java/util/Arrays", name := "rangeCheck", desc := "(III)V" } : MethodName)) ∈ AW := AW_m4 113 rfl rfl
theorem aw_887 : (Cond.static ({ cls := "java/util/Arrays", name := "rangeCheck", desc := "(III)V" } : MethodName)) ∈ AW := AW_m4 114 rfl rfl
theorem aw_888 : (Cond.code ({ cls := "java/util/Arrays", name := "rangeCheck", desc := "(III)V" } : MethodName) prog_26_method_30_code (3 : Nat) (Option.none : Option FieldType)) ∈ AW := AW_m4 115 rfl rfl
theorem aw_889 : (Cond.methodLink "java/lang/AbstractStringBuilder" (137 : Nat) ({ cls := "java/lang/StringUTF16", name := "fillNull", desc := "([BII)V" } : MethodName)) ∈ AW := AW_m4 116 rfl rfl
theorem aw_890 : (Cond.static ({ cls := "java/lang/StringUTF16", name := "fillNull", desc := "([BII)V" } : MethodName)) ∈ AW := AW_m4 117 rfl rfl
theorem aw_891 : (Cond.code ({ cls := "java/lang/StringUTF16", name := "fillNull", desc := "([BII)V" } : MethodName) prog_24_method_70_code (3 : Nat) (Option.none : Option FieldType)) ∈ AW := AW_m4 118 rfl rfl
theorem aw_892 : (Cond.methodLink "java/lang/StringUTF16" (380 : Nat) ({ cls := "java/util/Arrays", name := "fill", desc := "([BIIB)V" } : MethodName)) ∈ AW := AW_m4 119 rfl rfl
theorem aw_893 : (Cond.methodLink "KilnKeeper" (183 : Nat) ({ cls := "KilnKeeper$Reader", name := "orderAt", desc := "(I)LKilnKeeper$Order;" } : MethodName)) ∈ AW := AW_m4 120 rfl rfl
theorem aw_894 : (Cond.methodLink "KilnKeeper" (187 : Nat) ({ cls := "KilnKeeper", name := "carryOut", desc := "(LKilnKeeper$Order;)I" } : MethodName)) ∈ AW := AW_m4 121 rfl rfl
theorem at_895 : (Cond.privateMethod ({ cls := "KilnKeeper", name := "carryOut", desc := "(LKilnKeeper$Order;)I" } : MethodName)) ∈ lw_tbl := List.mem_append_right _ (List.mem_append_right _ (List.mem_append_right _ (List.mem_append_right _ (List.mem_append_left _ (List.mem_of_getElem? (l := tables_1_4) (i := 122) rfl)))))
theorem aw_896 : (Cond.instanceMethod ({ cls := "KilnKeeper", name := "carryOut", desc := "(LKilnKeeper$Order;)I" } : MethodName)) ∈ AW := AW_m4 123 rfl rfl
theorem aw_897 : (Cond.code ({ cls := "KilnKeeper", name := "carryOut", desc := "(LKilnKeeper$Order;)I" } : MethodName) prog_1_method_39_code (5 : Nat) (Option.some FieldType.int)) ∈ AW := AW_m4 124 rfl rfl
theorem aw_898 : (Cond.fieldLink "KilnKeeper" (263 : Nat) "KilnKeeper$1" "$SwitchMap$KilnKeeper$Word" "[I") ∈ AW := AW_m4 125 rfl rfl
theorem at_899 : (Cond.laysStatic "KilnKeeper$1" "$SwitchMap$KilnKeeper$Word" "[I") ∈ lw_tbl := List.mem_append_right _ (List.mem_append_right _ (List.mem_append_right _ (List.mem_append_right _ (List.mem_append_left _ (List.mem_of_getElem? (l := tables_1_4) (i := 126) rfl)))))
theorem aw_900 : (Cond.methodLink "KilnKeeper" (268 : Nat) ({ cls := "KilnKeeper$Word", name := "ordinal", desc := "()I" } : MethodName)) ∈ AW := AW_m4 127 rfl rfl
theorem aw_901 : (Cond.sameMethod "KilnKeeper$Word" "java/lang/Enum" "ordinal" "()I") ∈ AW := AW_m4 128 rfl rfl
theorem at_902 : (Cond.declares ({ cls := "java/lang/Enum", name := "ordinal", desc := "()I" } : MethodName)) ∈ lw_tbl := List.mem_append_right _ (List.mem_append_right _ (List.mem_append_right _ (List.mem_append_right _ (List.mem_append_left _ (List.mem_of_getElem? (l := tables_1_4) (i := 129) rfl)))))
theorem aw_903 : (Cond.selects "KilnKeeper$Word" ({ cls := "KilnKeeper$Word", name := "ordinal", desc := "()I" } : MethodName) ({ cls := "java/lang/Enum", name := "ordinal", desc := "()I" } : MethodName)) ∈ AW := AW_m4 130 rfl rfl
theorem aw_904 : (Cond.instanceMethod ({ cls := "java/lang/Enum", name := "ordinal", desc := "()I" } : MethodName)) ∈ AW := AW_m4 131 rfl rfl
theorem aw_905 : (Cond.code ({ cls := "java/lang/Enum", name := "ordinal", desc := "()I" } : MethodName) prog_18_method_2_code (1 : Nat) (Option.some FieldType.int)) ∈ AW := AW_m4 132 rfl rfl
theorem aw_906 : (Cond.methodLink "KilnKeeper" (191 : Nat) ({ cls := "KilnKeeper$Refusal", name := "because", desc := "(II)I" } : MethodName)) ∈ AW := AW_m4 133 rfl rfl
theorem aw_907 : (Cond.methodLink "KilnKeeperLaw" (109 : Nat) ({ cls := "KilnKeeper", name := "tell", desc := "()I" } : MethodName)) ∈ AW := AW_m4 134 rfl rfl
theorem aw_908 : (Cond.instanceMethod ({ cls := "KilnKeeper", name := "tell", desc := "()I" } : MethodName)) ∈ AW := AW_m4 135 rfl rfl
theorem aw_909 : (Cond.selects "KilnKeeper" ({ cls := "KilnKeeper", name := "tell", desc := "()I" } : MethodName) ({ cls := "KilnKeeper", name := "tell", desc := "()I" } : MethodName)) ∈ AW := AW_m4 136 rfl rfl
theorem aw_910 : (Cond.code ({ cls := "KilnKeeper", name := "tell", desc := "()I" } : MethodName) prog_1_method_25_code (1 : Nat) (Option.some FieldType.int)) ∈ AW := AW_m4 137 rfl rfl
theorem aw_911 : (Cond.methodLink "KilnKeeper" (194 : Nat) ({ cls := "java/lang/StringBuilder", name := "setLength", desc := "(I)V" } : MethodName)) ∈ AW := AW_m4 138 rfl rfl
theorem aw_912 : (Cond.methodLink "KilnKeeper" (198 : Nat) ({ cls := "KilnKeeper$Kiln", name := "write", desc := "(Ljava/lang/StringBuilder;)V" } : MethodName)) ∈ AW := AW_m4 139 rfl rfl
theorem aw_913 : (Cond.instanceMethod ({ cls := "KilnKeeper$Kiln", name := "write", desc := "(Ljava/lang/StringBuilder;)V" } : MethodName)) ∈ AW := AW_m4 140 rfl rfl
theorem aw_914 : (Cond.selects "KilnKeeper$Kiln" ({ cls := "KilnKeeper$Kiln", name := "write", desc := "(Ljava/lang/StringBuilder;)V" } : MethodName) ({ cls := "KilnKeeper$Kiln", name := "write", desc := "(Ljava/lang/StringBuilder;)V" } : MethodName)) ∈ AW := AW_m4 141 rfl rfl
theorem aw_915 : (Cond.code ({ cls := "KilnKeeper$Kiln", name := "write", desc := "(Ljava/lang/StringBuilder;)V" } : MethodName) prog_5_method_8_code (2 : Nat) (Option.none : Option FieldType)) ∈ AW := AW_m4 142 rfl rfl
theorem aw_916 : (Cond.methodLink "KilnKeeper$Kiln" (121 : Nat) ({ cls := "java/lang/StringBuilder", name := "append", desc := "(I)Ljava/lang/StringBuilder;" } : MethodName)) ∈ AW := AW_m4 143 rfl rfl
theorem aw_917 : (Cond.instanceMethod ({ cls := "java/lang/StringBuilder", name := "append", desc := "(I)Ljava/lang/StringBuilder;" } : MethodName)) ∈ AW := AW_m4 144 rfl rfl
theorem aw_918 : (Cond.selects "java/lang/StringBuilder" ({ cls := "java/lang/StringBuilder", name := "append", desc := "(I)Ljava/lang/StringBuilder;" } : MethodName) ({ cls := "java/lang/StringBuilder", name := "append", desc := "(I)Ljava/lang/StringBuilder;" } : MethodName)) ∈ AW := AW_m4 145 rfl rfl
theorem aw_919 : (Cond.code ({ cls := "java/lang/StringBuilder", name := "append", desc := "(I)Ljava/lang/StringBuilder;" } : MethodName) prog_22_method_15_code (2 : Nat) (Option.some (FieldType.object "java/lang/StringBuilder"))) ∈ AW := AW_m4 146 rfl rfl
theorem aw_920 : (Cond.methodLink "java/lang/StringBuilder" (53 : Nat) ({ cls := "java/lang/AbstractStringBuilder", name := "append", desc := "(I)Ljava/lang/AbstractStringBuilder;" } : MethodName)) ∈ AW := AW_m4 147 rfl rfl
theorem aw_921 : (Cond.instanceMethod ({ cls := "java/lang/AbstractStringBuilder", name := "append", desc := "(I)Ljava/lang/AbstractStringBuilder;" } : MethodName)) ∈ AW := AW_m4 148 rfl rfl
theorem aw_922 : (Cond.code ({ cls := "java/lang/AbstractStringBuilder", name := "append", desc := "(I)Ljava/lang/AbstractStringBuilder;" } : MethodName) prog_16_method_32_code (4 : Nat) (Option.some (FieldType.object "java/lang/AbstractStringBuilder"))) ∈ AW := AW_m4 149 rfl rfl
theorem aw_923 : (Cond.methodLink "java/lang/AbstractStringBuilder" (245 : Nat) ({ cls := "java/lang/Integer", name := "stringSize", desc := "(I)I" } : MethodName)) ∈ AW := AW_m4 150 rfl rfl
theorem aw_924 : (Cond.static ({ cls := "java/lang/Integer", name := "stringSize", desc := "(I)I" } : MethodName)) ∈ AW := AW_m4 151 rfl rfl
theorem aw_925 : (Cond.code ({ cls := "java/lang/Integer", name := "stringSize", desc := "(I)I" } : MethodName) prog_19_method_13_code (4 : Nat) (Option.some FieldType.int)) ∈ AW := AW_m4 152 rfl rfl
theorem aw_926 : (Cond.methodLink "java/lang/AbstractStringBuilder" (248 : Nat) ({ cls := "java/lang/Integer", name := "getChars", desc := "(II[B)I" } : MethodName)) ∈ AW := AW_m4 153 rfl rfl
theorem aw_927 : (Cond.static ({ cls := "java/lang/Integer", name := "getChars", desc := "(II[B)I" } : MethodName)) ∈ AW := AW_m4 154 rfl rfl
theorem aw_928 : (Cond.code ({ cls := "java/lang/Integer", name := "getChars", desc := "(II[B)I" } : MethodName) prog_19_method_12_code (7 : Nat) (Option.some FieldType.int)) ∈ AW := AW_m4 155 rfl rfl
theorem aw_929 : (Cond.fieldLink "java/lang/Integer" (83 : Nat) "java/lang/Integer" "DigitOnes" "[B") ∈ AW := AW_m4 156 rfl rfl
theorem at_930 : (Cond.laysStatic "java/lang/Integer" "DigitOnes" "[B") ∈ lw_tbl := List.mem_append_right _ (List.mem_append_right _ (List.mem_append_right _ (List.mem_append_right _ (List.mem_append_left _ (List.mem_of_getElem? (l := tables_1_4) (i := 157) rfl)))))
theorem aw_931 : (Cond.fieldLink "java/lang/Integer" (87 : Nat) "java/lang/Integer" "DigitTens" "[B") ∈ AW := AW_m4 158 rfl rfl
theorem at_932 : (Cond.laysStatic "java/lang/Integer" "DigitTens" "[B") ∈ lw_tbl := List.mem_append_right _ (List.mem_append_right _ (List.mem_append_right _ (List.mem_append_right _ (List.mem_append_left _ (List.mem_of_getElem? (l := tables_1_4) (i := 159) rfl)))))
theorem aw_933 : (Cond.methodLink "java/lang/AbstractStringBuilder" (251 : Nat) ({ cls := "java/lang/StringUTF16", name := "getChars", desc := "(III[B)I" } : MethodName)) ∈ AW := AW_m4 160 rfl rfl
theorem aw_934 : (Cond.static ({ cls := "java/lang/StringUTF16", name := "getChars", desc := "(III[B)I" } : MethodName)) ∈ AW := AW_m4 161 rfl rfl
theorem aw_935 : (Cond.code ({ cls := "java/lang/StringUTF16", name := "getChars", desc := "(III[B)I" } : MethodName) prog_24_method_77_code (5 : Nat) (Option.some FieldType.int)) ∈ AW := AW_m4 162 rfl rfl
theorem aw_936 : (Cond.methodLink "java/lang/StringUTF16" (96 : Nat) ({ cls := "java/lang/StringUTF16", name := "checkBoundsBeginEnd", desc := "(II[B)V" } : MethodName)) ∈ AW := AW_m4 163 rfl rfl
theorem aw_937 : (Cond.static ({ cls := "java/lang/StringUTF16", name := "checkBoundsBeginEnd", desc := "(II[B)V" } : MethodName)) ∈ AW := AW_m4 164 rfl rfl
theorem aw_938 : (Cond.code ({ cls := "java/lang/StringUTF16", name := "checkBoundsBeginEnd", desc := "(II[B)V" } : MethodName) prog_24_method_93_code (3 : Nat) (Option.none : Option FieldType)) ∈ AW := AW_m4 165 rfl rfl
theorem aw_939 : (Cond.methodLink "java/lang/StringUTF16" (241 : Nat) ({ cls := "java/lang/String", name := "checkBoundsBeginEnd", desc := "(III)V" } : MethodName)) ∈ AW := AW_m4 166 rfl rfl
theorem aw_940 : (Cond.static ({ cls := "java/lang/String", name := "checkBoundsBeginEnd", desc := "(III)V" } : MethodName)) ∈ AW := AW_m4 167 rfl rfl
theorem aw_941 : (Cond.code ({ cls := "java/lang/String", name := "checkBoundsBeginEnd", desc := "(III)V" } : MethodName) prog_21_method_158_code (3 : Nat) (Option.none : Option FieldType)) ∈ AW := AW_m4 168 rfl rfl
theorem aw_942 : (Cond.methodLink "java/lang/String" (1062 : Nat) ({ cls := "jdk/internal/util/Preconditions", name := "checkFromToIndex", desc := "(IIILjava/util/function/BiFunction;)I" } : MethodName)) ∈ AW := AW_m4 169 rfl rfl
theorem aw_943 : (Cond.static ({ cls := "jdk/internal/util/Preconditions", name := "checkFromToIndex", desc := "(IIILjava/util/function/BiFunction;)I" } : MethodName)) ∈ AW := AW_m4 170 rfl rfl
theorem aw_944 : (Cond.code ({ cls := "jdk/internal/util/Preconditions", name := "checkFromToIndex", desc := "(IIILjava/util/function/BiFunction;)I" } : MethodName) prog_28_method_12_code (4 : Nat) (Option.some FieldType.int)) ∈ AW := AW_m4 171 rfl rfl
theorem aw_945 : (Cond.methodLink "java/lang/StringUTF16" (393 : Nat) ({ cls := "java/lang/StringUTF16", name := "getChars", desc := "(II[B)I" } : MethodName)) ∈ AW := AW_m4 172 rfl rfl
theorem aw_946 : (Cond.static ({ cls := "java/lang/StringUTF16", name := "getChars", desc := "(II[B)I" } : MethodName)) ∈ AW := AW_m4 173 rfl rfl
theorem aw_947 : (Cond.code ({ cls := "java/lang/StringUTF16", name := "getChars", desc := "(II[B)I" } : MethodName) prog_24_method_89_code (7 : Nat) (Option.some FieldType.int)) ∈ AW := AW_m4 174 rfl rfl
theorem aw_948 : (Cond.fieldLink "java/lang/StringUTF16" (403 : Nat) "java/lang/Integer" "DigitOnes" "[B") ∈ AW := AW_m4 175 rfl rfl
theorem aw_949 : (Cond.fieldLink "java/lang/StringUTF16" (407 : Nat) "java/lang/Integer" "DigitTens" "[B") ∈ AW := AW_m4 176 rfl rfl
theorem aw_950 : (Cond.methodLink "KilnKeeper$Kiln" (127 : Nat) ({ cls := "java/lang/StringBuilder", name := "append", desc := "(C)Ljava/lang/StringBuilder;" } : MethodName)) ∈ AW := AW_m4 177 rfl rfl
theorem aw_951 : (Cond.methodLink "KilnKeeper$Kiln" (133 : Nat) ({ cls := "KilnKeeper$LagRow", name := "write", desc := "(Ljava/lang/StringBuilder;)V" } : MethodName)) ∈ AW := AW_m4 178 rfl rfl
theorem aw_952 : (Cond.instanceMethod ({ cls := "KilnKeeper$LagRow", name := "write", desc := "(Ljava/lang/StringBuilder;)V" } : MethodName)) ∈ AW := AW_m4 179 rfl rfl
theorem aw_953 : (Cond.selects "KilnKeeper$LagRow" ({ cls := "KilnKeeper$LagRow", name := "write", desc := "(Ljava/lang/StringBuilder;)V" } : MethodName) ({ cls := "KilnKeeper$LagRow", name := "write", desc := "(Ljava/lang/StringBuilder;)V" } : MethodName)) ∈ AW := AW_m4 180 rfl rfl
theorem aw_954 : (Cond.code ({ cls := "KilnKeeper$LagRow", name := "write", desc := "(Ljava/lang/StringBuilder;)V" } : MethodName) prog_6_method_5_code (3 : Nat) (Option.none : Option FieldType)) ∈ AW := AW_m4 181 rfl rfl
theorem aw_955 : (Cond.methodLink "KilnKeeper$LagRow" (35 : Nat) ({ cls := "java/lang/StringBuilder", name := "append", desc := "(C)Ljava/lang/StringBuilder;" } : MethodName)) ∈ AW := AW_m4 182 rfl rfl
theorem aw_956 : (Cond.methodLink "KilnKeeper$LagRow" (41 : Nat) ({ cls := "java/lang/StringBuilder", name := "append", desc := "(I)Ljava/lang/StringBuilder;" } : MethodName)) ∈ AW := AW_m4 183 rfl rfl
theorem aw_957 : (Cond.methodLink "KilnKeeper" (202 : Nat) ({ cls := "java/lang/StringBuilder", name := "length", desc := "()I" } : MethodName)) ∈ AW := AW_m4 184 rfl rfl
theorem aw_958 : (Cond.methodLink "KilnKeeperLaw" (113 : Nat) ({ cls := "KilnKeeper", name := "tellPot", desc := "(I)I" } : MethodName)) ∈ AW := AW_m4 185 rfl rfl
theorem aw_959 : (Cond.instanceMethod ({ cls := "KilnKeeper", name := "tellPot", desc := "(I)I" } : MethodName)) ∈ AW := AW_m4 186 rfl rfl
theorem aw_960 : (Cond.selects "KilnKeeper" ({ cls := "KilnKeeper", name := "tellPot", desc := "(I)I" } : MethodName) ({ cls := "KilnKeeper", name := "tellPot", desc := "(I)I" } : MethodName)) ∈ AW := AW_m4 187 rfl rfl
theorem aw_961 : (Cond.code ({ cls := "KilnKeeper", name := "tellPot", desc := "(I)I" } : MethodName) prog_1_method_26_code (3 : Nat) (Option.some FieldType.int)) ∈ AW := AW_m4 188 rfl rfl
theorem aw_962 : (Cond.methodLink "KilnKeeper" (205 : Nat) ({ cls := "java/lang/StringBuilder", name := "append", desc := "(I)Ljava/lang/StringBuilder;" } : MethodName)) ∈ AW := AW_m4 189 rfl rfl
theorem aw_963 : (Cond.methodLink "KilnKeeper" (209 : Nat) ({ cls := "KilnKeeper$Pot", name := "write", desc := "(Ljava/lang/StringBuilder;)V" } : MethodName)) ∈ AW := AW_m4 190 rfl rfl
theorem aw_964 : (Cond.instanceMethod ({ cls := "KilnKeeper$Pot", name := "write", desc := "(Ljava/lang/StringBuilder;)V" } : MethodName)) ∈ AW := AW_m4 191 rfl rfl
theorem aw_965 : (Cond.selects "KilnKeeper$Pot" ({ cls := "KilnKeeper$Pot", name := "write", desc := "(Ljava/lang/StringBuilder;)V" } : MethodName) ({ cls := "KilnKeeper$Pot", name := "write", desc := "(Ljava/lang/StringBuilder;)V" } : MethodName)) ∈ AW := AW_m4 192 rfl rfl
theorem aw_966 : (Cond.code ({ cls := "KilnKeeper$Pot", name := "write", desc := "(Ljava/lang/StringBuilder;)V" } : MethodName) prog_8_method_7_code (2 : Nat) (Option.none : Option FieldType)) ∈ AW := AW_m4 193 rfl rfl
theorem aw_967 : (Cond.methodLink "KilnKeeper$Pot" (40 : Nat) ({ cls := "java/lang/StringBuilder", name := "append", desc := "(C)Ljava/lang/StringBuilder;" } : MethodName)) ∈ AW := AW_m4 194 rfl rfl
theorem aw_968 : (Cond.methodLink "KilnKeeper$Pot" (46 : Nat) ({ cls := "java/lang/StringBuilder", name := "append", desc := "(I)Ljava/lang/StringBuilder;" } : MethodName)) ∈ AW := AW_m4 195 rfl rfl
theorem aw_969 : (Cond.methodLink "KilnKeeper$Pot" (49 : Nat) ({ cls := "KilnKeeper$Pot", name := "stateLetter", desc := "()C" } : MethodName)) ∈ AW := AW_m4 196 rfl rfl
theorem at_970 : (Cond.privateMethod ({ cls := "KilnKeeper$Pot", name := "stateLetter", desc := "()C" } : MethodName)) ∈ lw_tbl := List.mem_append_right _ (List.mem_append_right _ (List.mem_append_right _ (List.mem_append_right _ (List.mem_append_left _ (List.mem_of_getElem? (l := tables_1_4) (i := 197) rfl)))))
theorem aw_971 : (Cond.instanceMethod ({ cls := "KilnKeeper$Pot", name := "stateLetter", desc := "()C" } : MethodName)) ∈ AW := AW_m4 198 rfl rfl
theorem aw_972 : (Cond.code ({ cls := "KilnKeeper$Pot", name := "stateLetter", desc := "()C" } : MethodName) prog_8_method_8_code (1 : Nat) (Option.some FieldType.char)) ∈ AW := AW_m4 199 rfl rfl
theorem aw_973 : (Cond.methodLink "KilnKeeperLaw" (117 : Nat) ({ cls := "KilnKeeper", name := "character", desc := "(I)I" } : MethodName)) ∈ AW := AW_m4 200 rfl rfl
theorem aw_974 : (Cond.instanceMethod ({ cls := "KilnKeeper", name := "character", desc := "(I)I" } : MethodName)) ∈ AW := AW_m4 201 rfl rfl
theorem aw_975 : (Cond.selects "KilnKeeper" ({ cls := "KilnKeeper", name := "character", desc := "(I)I" } : MethodName) ({ cls := "KilnKeeper", name := "character", desc := "(I)I" } : MethodName)) ∈ AW := AW_m4 202 rfl rfl
theorem aw_976 : (Cond.code ({ cls := "KilnKeeper", name := "character", desc := "(I)I" } : MethodName) prog_1_method_27_code (2 : Nat) (Option.some FieldType.int)) ∈ AW := AW_m4 203 rfl rfl
theorem aw_977 : (Cond.methodLink "KilnKeeper" (210 : Nat) ({ cls := "java/lang/StringBuilder", name := "charAt", desc := "(I)C" } : MethodName)) ∈ AW := AW_m4 204 rfl rfl
theorem aw_978 : (Cond.methodLink "KilnKeeperLaw" (121 : Nat) ({ cls := "KilnKeeper", name := "reason", desc := "(Z)I" } : MethodName)) ∈ AW := AW_m4 205 rfl rfl
theorem aw_979 : (Cond.instanceMethod ({ cls := "KilnKeeper", name := "reason", desc := "(Z)I" } : MethodName)) ∈ AW := AW_m4 206 rfl rfl
theorem aw_980 : (Cond.selects "KilnKeeper" ({ cls := "KilnKeeper", name := "reason", desc := "(Z)I" } : MethodName) ({ cls := "KilnKeeper", name := "reason", desc := "(Z)I" } : MethodName)) ∈ AW := AW_m4 207 rfl rfl
theorem aw_981 : (Cond.code ({ cls := "KilnKeeper", name := "reason", desc := "(Z)I" } : MethodName) prog_1_method_28_code (2 : Nat) (Option.some FieldType.int)) ∈ AW := AW_m4 208 rfl rfl
theorem aw_982 : (Cond.methodLink "KilnKeeperLaw" (126 : Nat) ({ cls := "KilnKeeper", name := "account", desc := "(I)I" } : MethodName)) ∈ AW := AW_m4 209 rfl rfl
theorem aw_983 : (Cond.instanceMethod ({ cls := "KilnKeeper", name := "account", desc := "(I)I" } : MethodName)) ∈ AW := AW_m4 210 rfl rfl
theorem aw_984 : (Cond.selects "KilnKeeper" ({ cls := "KilnKeeper", name := "account", desc := "(I)I" } : MethodName) ({ cls := "KilnKeeper", name := "account", desc := "(I)I" } : MethodName)) ∈ AW := AW_m4 211 rfl rfl
theorem aw_985 : (Cond.code ({ cls := "KilnKeeper", name := "account", desc := "(I)I" } : MethodName) prog_1_method_29_code (2 : Nat) (Option.some FieldType.int)) ∈ AW := AW_m4 212 rfl rfl
theorem aw_986 : (Cond.methodLink "KilnKeeper" (220 : Nat) ({ cls := "KilnKeeper$Reader", name := "textLength", desc := "()I" } : MethodName)) ∈ AW := AW_m4 213 rfl rfl
theorem aw_987 : (Cond.instanceMethod ({ cls := "KilnKeeper$Reader", name := "textLength", desc := "()I" } : MethodName)) ∈ AW := AW_m4 214 rfl rfl
theorem aw_988 : (Cond.selects "KilnKeeper$Reader" ({ cls := "KilnKeeper$Reader", name := "textLength", desc := "()I" } : MethodName) ({ cls := "KilnKeeper$Reader", name := "textLength", desc := "()I" } : MethodName)) ∈ AW := AW_m4 215 rfl rfl
theorem aw_989 : (Cond.code ({ cls := "KilnKeeper$Reader", name := "textLength", desc := "()I" } : MethodName) prog_10_method_2_code (1 : Nat) (Option.some FieldType.int)) ∈ AW := AW_m4 216 rfl rfl
theorem aw_990 : (Cond.methodLink "KilnKeeper" (226 : Nat) ({ cls := "KilnKeeper$Kiln", name := "accountOf", desc := "(I)I" } : MethodName)) ∈ AW := AW_m4 217 rfl rfl
theorem aw_991 : (Cond.instanceMethod ({ cls := "KilnKeeper$Kiln", name := "accountOf", desc := "(I)I" } : MethodName)) ∈ AW := AW_m4 218 rfl rfl
theorem aw_992 : (Cond.selects "KilnKeeper$Kiln" ({ cls := "KilnKeeper$Kiln", name := "accountOf", desc := "(I)I" } : MethodName) ({ cls := "KilnKeeper$Kiln", name := "accountOf", desc := "(I)I" } : MethodName)) ∈ AW := AW_m4 219 rfl rfl
theorem aw_993 : (Cond.code ({ cls := "KilnKeeper$Kiln", name := "accountOf", desc := "(I)I" } : MethodName) prog_5_method_9_code (2 : Nat) (Option.some FieldType.int)) ∈ AW := AW_m4 220 rfl rfl
theorem aw_994 : (Cond.methodLink "KilnKeeper$Kiln" (152 : Nat) ({ cls := "KilnKeeper$Rack", name := "countOf", desc := "(I)I" } : MethodName)) ∈ AW := AW_m4 221 rfl rfl
theorem aw_995 : (Cond.instanceMethod ({ cls := "KilnKeeper$Rack", name := "countOf", desc := "(I)I" } : MethodName)) ∈ AW := AW_m4 222 rfl rfl
theorem aw_996 : (Cond.selects "KilnKeeper$Rack" ({ cls := "KilnKeeper$Rack", name := "countOf", desc := "(I)I" } : MethodName) ({ cls := "KilnKeeper$Rack", name := "countOf", desc := "(I)I" } : MethodName)) ∈ AW := AW_m4 223 rfl rfl
theorem aw_997 : (Cond.code ({ cls := "KilnKeeper$Rack", name := "countOf", desc := "(I)I" } : MethodName) prog_9_method_10_code (5 : Nat) (Option.some FieldType.int)) ∈ AW := AW_m4 224 rfl rfl
theorem aw_998 : (Cond.methodLink "KilnKeeper$Kiln" (155 : Nat) ({ cls := "KilnKeeper$Rack", name := "countWithin", desc := "()I" } : MethodName)) ∈ AW := AW_m4 225 rfl rfl
theorem aw_999 : (Cond.methodLink "KilnKeeperLaw" (130 : Nat) ({ cls := "KilnKeeper", name := "isBalanced", desc := "()I" } : MethodName)) ∈ AW := AW_m4 226 rfl rfl
theorem aw_1000 : (Cond.instanceMethod ({ cls := "KilnKeeper", name := "isBalanced", desc := "()I" } : MethodName)) ∈ AW := AW_m4 227 rfl rfl
theorem aw_1001 : (Cond.selects "KilnKeeper" ({ cls := "KilnKeeper", name := "isBalanced", desc := "()I" } : MethodName) ({ cls := "KilnKeeper", name := "isBalanced", desc := "()I" } : MethodName)) ∈ AW := AW_m4 228 rfl rfl
theorem aw_1002 : (Cond.code ({ cls := "KilnKeeper", name := "isBalanced", desc := "()I" } : MethodName) prog_1_method_30_code (1 : Nat) (Option.some FieldType.int)) ∈ AW := AW_m4 229 rfl rfl
theorem aw_1003 : (Cond.methodLink "KilnKeeper" (229 : Nat) ({ cls := "KilnKeeper$Book", name := "isInBalance", desc := "()Z" } : MethodName)) ∈ AW := AW_m4 230 rfl rfl
theorem aw_1004 : (Cond.instanceMethod ({ cls := "KilnKeeper$Book", name := "isInBalance", desc := "()Z" } : MethodName)) ∈ AW := AW_m4 231 rfl rfl
theorem aw_1005 : (Cond.selects "KilnKeeper$Book" ({ cls := "KilnKeeper$Book", name := "isInBalance", desc := "()Z" } : MethodName) ({ cls := "KilnKeeper$Book", name := "isInBalance", desc := "()Z" } : MethodName)) ∈ AW := AW_m4 232 rfl rfl
theorem aw_1006 : (Cond.code ({ cls := "KilnKeeper$Book", name := "isInBalance", desc := "()Z" } : MethodName) prog_3_method_8_code (3 : Nat) (Option.some FieldType.boolean)) ∈ AW := AW_m4 233 rfl rfl
theorem aw_1007 : (Cond.methodLink "KilnKeeper$Book" (57 : Nat) ({ cls := "KilnKeeper$Book", name := "burntByAmounts", desc := "()I" } : MethodName)) ∈ AW := AW_m4 234 rfl rfl
theorem aw_1008 : (Cond.methodLink "KilnKeeper" (233 : Nat) ({ cls := "KilnKeeper$Rack", name := "isNoneSoakedTooLong", desc := "()Z" } : MethodName)) ∈ AW := AW_m4 235 rfl rfl
theorem aw_1009 : (Cond.instanceMethod ({ cls := "KilnKeeper$Rack", name := "isNoneSoakedTooLong", desc := "()Z" } : MethodName)) ∈ AW := AW_m4 236 rfl rfl
theorem aw_1010 : (Cond.selects "KilnKeeper$Rack" ({ cls := "KilnKeeper$Rack", name := "isNoneSoakedTooLong", desc := "()Z" } : MethodName) ({ cls := "KilnKeeper$Rack", name := "isNoneSoakedTooLong", desc := "()Z" } : MethodName)) ∈ AW := AW_m4 237 rfl rfl
theorem aw_1011 : (Cond.code ({ cls := "KilnKeeper$Rack", name := "isNoneSoakedTooLong", desc := "()Z" } : MethodName) prog_9_method_13_code (3 : Nat) (Option.some FieldType.boolean)) ∈ AW := AW_m4 238 rfl rfl
theorem aw_1012 : (Cond.methodLink "KilnKeeperLaw" (134 : Nat) ({ cls := "KilnKeeper", name := "meanBurnt", desc := "()D" } : MethodName)) ∈ AW := AW_m4 239 rfl rfl
theorem aw_1013 : (Cond.instanceMethod ({ cls := "KilnKeeper", name := "meanBurnt", desc := "()D" } : MethodName)) ∈ AW := AW_m5 0 rfl rfl
theorem aw_1014 : (Cond.selects "KilnKeeper" ({ cls := "KilnKeeper", name := "meanBurnt", desc := "()D" } : MethodName) ({ cls := "KilnKeeper", name := "meanBurnt", desc := "()D" } : MethodName)) ∈ AW := AW_m5 1 rfl rfl
theorem aw_1015 : (Cond.code ({ cls := "KilnKeeper", name := "meanBurnt", desc := "()D" } : MethodName) prog_1_method_31_code (2 : Nat) (Option.some FieldType.double)) ∈ AW := AW_m5 2 rfl rfl
theorem aw_1016 : (Cond.methodLink "KilnKeeperLaw" (139 : Nat) ({ cls := "KilnKeeper", name := "firedShare", desc := "()F" } : MethodName)) ∈ AW := AW_m5 3 rfl rfl
theorem aw_1017 : (Cond.instanceMethod ({ cls := "KilnKeeper", name := "firedShare", desc := "()F" } : MethodName)) ∈ AW := AW_m5 4 rfl rfl
theorem aw_1018 : (Cond.selects "KilnKeeper" ({ cls := "KilnKeeper", name := "firedShare", desc := "()F" } : MethodName) ({ cls := "KilnKeeper", name := "firedShare", desc := "()F" } : MethodName)) ∈ AW := AW_m5 5 rfl rfl
theorem aw_1019 : (Cond.code ({ cls := "KilnKeeper", name := "firedShare", desc := "()F" } : MethodName) prog_1_method_32_code (2 : Nat) (Option.some FieldType.float)) ∈ AW := AW_m5 6 rfl rfl
theorem aw_1020 : (Cond.methodLink "KilnKeeper" (240 : Nat) ({ cls := "KilnKeeper$Rack", name := "countOf", desc := "(I)I" } : MethodName)) ∈ AW := AW_m5 7 rfl rfl
theorem aw_1021 : (Cond.methodLink "KilnKeeperLaw" (144 : Nat) ({ cls := "KilnKeeper", name := "undo", desc := "()I" } : MethodName)) ∈ AW := AW_m5 8 rfl rfl
theorem aw_1022 : (Cond.instanceMethod ({ cls := "KilnKeeper", name := "undo", desc := "()I" } : MethodName)) ∈ AW := AW_m5 9 rfl rfl
theorem aw_1023 : (Cond.selects "KilnKeeper" ({ cls := "KilnKeeper", name := "undo", desc := "()I" } : MethodName) ({ cls := "KilnKeeper", name := "undo", desc := "()I" } : MethodName)) ∈ AW := AW_m5 10 rfl rfl
theorem aw_1024 : (Cond.code ({ cls := "KilnKeeper", name := "undo", desc := "()I" } : MethodName) prog_1_method_33_code (1 : Nat) (Option.some FieldType.int)) ∈ AW := AW_m5 11 rfl rfl
theorem aw_1025 : (Cond.methodLink "KilnKeeper" (243 : Nat) ({ cls := "KilnKeeper$Changes", name := "takeBack", desc := "(LKilnKeeper$Kiln;)I" } : MethodName)) ∈ AW := AW_m5 12 rfl rfl
theorem aw_1026 : (Cond.instanceMethod ({ cls := "KilnKeeper$Changes", name := "takeBack", desc := "(LKilnKeeper$Kiln;)I" } : MethodName)) ∈ AW := AW_m5 13 rfl rfl
theorem aw_1027 : (Cond.selects "KilnKeeper$Changes" ({ cls := "KilnKeeper$Changes", name := "takeBack", desc := "(LKilnKeeper$Kiln;)I" } : MethodName) ({ cls := "KilnKeeper$Changes", name := "takeBack", desc := "(LKilnKeeper$Kiln;)I" } : MethodName)) ∈ AW := AW_m5 14 rfl rfl
theorem aw_1028 : (Cond.code ({ cls := "KilnKeeper$Changes", name := "takeBack", desc := "(LKilnKeeper$Kiln;)I" } : MethodName) prog_4_method_3_code (3 : Nat) (Option.some FieldType.int)) ∈ AW := AW_m5 15 rfl rfl
theorem aw_1029 : (Cond.methodLink "KilnKeeperLaw" (148 : Nat) ({ cls := "KilnKeeper", name := "save", desc := "()I" } : MethodName)) ∈ AW := AW_m5 16 rfl rfl
theorem aw_1030 : (Cond.instanceMethod ({ cls := "KilnKeeper", name := "save", desc := "()I" } : MethodName)) ∈ AW := AW_m5 17 rfl rfl
theorem aw_1031 : (Cond.selects "KilnKeeper" ({ cls := "KilnKeeper", name := "save", desc := "()I" } : MethodName) ({ cls := "KilnKeeper", name := "save", desc := "()I" } : MethodName)) ∈ AW := AW_m5 18 rfl rfl
theorem aw_1032 : (Cond.code ({ cls := "KilnKeeper", name := "save", desc := "()I" } : MethodName) prog_1_method_34_code (1 : Nat) (Option.some FieldType.int)) ∈ AW := AW_m5 19 rfl rfl
theorem aw_1033 : (Cond.methodLink "KilnKeeperLaw" (152 : Nat) ({ cls := "KilnKeeper", name := "restore", desc := "()I" } : MethodName)) ∈ AW := AW_m5 20 rfl rfl
theorem aw_1034 : (Cond.instanceMethod ({ cls := "KilnKeeper", name := "restore", desc := "()I" } : MethodName)) ∈ AW := AW_m5 21 rfl rfl
theorem aw_1035 : (Cond.selects "KilnKeeper" ({ cls := "KilnKeeper", name := "restore", desc := "()I" } : MethodName) ({ cls := "KilnKeeper", name := "restore", desc := "()I" } : MethodName)) ∈ AW := AW_m5 22 rfl rfl
theorem aw_1036 : (Cond.code ({ cls := "KilnKeeper", name := "restore", desc := "()I" } : MethodName) prog_1_method_35_code (1 : Nat) (Option.some FieldType.int)) ∈ AW := AW_m5 23 rfl rfl
theorem aw_1037 : (Cond.classLink "KilnKeeperLaw" (10 : Nat) "KilnKeeperModel") ∈ AW := AW_m5 24 rfl rfl
theorem aw_1038 : (Cond.instantiable "KilnKeeperModel" (20 : Nat)) ∈ AW := AW_m5 25 rfl rfl
theorem aw_1039 : (Cond.methodLink "KilnKeeperLaw" (12 : Nat) ({ cls := "KilnKeeperModel", name := "<init>", desc := "()V" } : MethodName)) ∈ AW := AW_m5 26 rfl rfl
theorem aw_1040 : (Cond.instanceMethod ({ cls := "KilnKeeperModel", name := "<init>", desc := "()V" } : MethodName)) ∈ AW := AW_m5 27 rfl rfl
theorem aw_1041 : (Cond.code ({ cls := "KilnKeeperModel", name := "<init>", desc := "()V" } : MethodName) prog_15_method_1_code (1 : Nat) (Option.none : Option FieldType)) ∈ AW := AW_m5 28 rfl rfl
theorem aw_1042 : (Cond.methodLink "KilnKeeperModel" (1 : Nat) ({ cls := "java/lang/Object", name := "<init>", desc := "()V" } : MethodName)) ∈ AW := AW_m5 29 rfl rfl
theorem aw_1043 : (Cond.fieldLink "KilnKeeperModel" (7 : Nat) "KilnKeeperModel" "s" "[I") ∈ AW := AW_m5 30 rfl rfl
theorem aw_1044 : (Cond.fieldLink "KilnKeeperModel" (13 : Nat) "KilnKeeperModel" "frame" "[I") ∈ AW := AW_m5 31 rfl rfl
theorem aw_1045 : (Cond.fieldLink "KilnKeeperModel" (16 : Nat) "KilnKeeperModel" "saved" "[I") ∈ AW := AW_m5 32 rfl rfl
theorem aw_1046 : (Cond.fieldLink "KilnKeeperModel" (19 : Nat) "KilnKeeperModel" "thought" "[I") ∈ AW := AW_m5 33 rfl rfl
theorem aw_1047 : (Cond.fieldLink "KilnKeeperModel" (22 : Nat) "KilnKeeperModel" "history" "[I") ∈ AW := AW_m5 34 rfl rfl
theorem aw_1048 : (Cond.fieldLink "KilnKeeperModel" (34 : Nat) "KilnKeeperModel" "kept" "I") ∈ AW := AW_m5 35 rfl rfl
theorem aw_1049 : (Cond.fieldLink "KilnKeeperModel" (231 : Nat) "KilnKeeperModel" "hasSaved" "Z") ∈ AW := AW_m5 36 rfl rfl
theorem aw_1050 : (Cond.fieldLink "KilnKeeperModel" (25 : Nat) "KilnKeeperModel" "text" "[I") ∈ AW := AW_m5 37 rfl rfl
theorem aw_1051 : (Cond.fieldLink "KilnKeeperModel" (28 : Nat) "KilnKeeperModel" "told" "[I") ∈ AW := AW_m5 38 rfl rfl
theorem aw_1052 : (Cond.fieldLink "KilnKeeperModel" (31 : Nat) "KilnKeeperModel" "line" "[I") ∈ AW := AW_m5 39 rfl rfl
theorem aw_1053 : (Cond.fieldLink "KilnKeeperModel" (146 : Nat) "KilnKeeperModel" "length" "I") ∈ AW := AW_m5 40 rfl rfl
theorem aw_1054 : (Cond.fieldLink "KilnKeeperModel" (213 : Nat) "KilnKeeperModel" "lineLength" "I") ∈ AW := AW_m5 41 rfl rfl
theorem aw_1055 : (Cond.fieldLink "KilnKeeperModel" (48 : Nat) "KilnKeeperModel" "why" "I") ∈ AW := AW_m5 42 rfl rfl
theorem aw_1056 : (Cond.fieldLink "KilnKeeperModel" (51 : Nat) "KilnKeeperModel" "detail" "I") ∈ AW := AW_m5 43 rfl rfl
theorem aw_1057 : (Cond.fieldLink "KilnKeeperModel" (38 : Nat) "KilnKeeperModel" "about" "I") ∈ AW := AW_m5 44 rfl rfl
theorem aw_1058 : (Cond.fieldLink "KilnKeeperModel" (41 : Nat) "KilnKeeperModel" "answer" "I") ∈ AW := AW_m5 45 rfl rfl
theorem aw_1059 : (Cond.fieldLink "KilnKeeperModel" (149 : Nat) "KilnKeeperModel" "spot" "I") ∈ AW := AW_m5 46 rfl rfl
theorem aw_1060 : (Cond.fieldLink "KilnKeeperModel" (152 : Nat) "KilnKeeperModel" "end" "I") ∈ AW := AW_m5 47 rfl rfl
theorem aw_1061 : (Cond.fieldLink "KilnKeeperModel" (176 : Nat) "KilnKeeperModel" "orders" "I") ∈ AW := AW_m5 48 rfl rfl
theorem aw_1062 : (Cond.fieldLink "KilnKeeperModel" (159 : Nat) "KilnKeeperModel" "isWrong" "Z") ∈ AW := AW_m5 49 rfl rfl
theorem aw_1063 : (Cond.laysFinal "KilnKeeperModel" "KilnKeeperModel" "s" "[I") ∈ AW := AW_m5 50 rfl rfl
theorem aw_1064 : (Cond.soleField "KilnKeeperModel" "s") ∈ AW := AW_m5 51 rfl rfl
theorem aw_1065 : (Cond.laysFinal "KilnKeeperModel" "KilnKeeperModel" "frame" "[I") ∈ AW := AW_m5 52 rfl rfl
theorem aw_1066 : (Cond.soleField "KilnKeeperModel" "frame") ∈ AW := AW_m5 53 rfl rfl
theorem aw_1067 : (Cond.laysFinal "KilnKeeperModel" "KilnKeeperModel" "saved" "[I") ∈ AW := AW_m5 54 rfl rfl
theorem aw_1068 : (Cond.soleField "KilnKeeperModel" "saved") ∈ AW := AW_m5 55 rfl rfl
theorem aw_1069 : (Cond.laysFinal "KilnKeeperModel" "KilnKeeperModel" "thought" "[I") ∈ AW := AW_m5 56 rfl rfl
theorem aw_1070 : (Cond.soleField "KilnKeeperModel" "thought") ∈ AW := AW_m5 57 rfl rfl
theorem aw_1071 : (Cond.laysFinal "KilnKeeperModel" "KilnKeeperModel" "history" "[I") ∈ AW := AW_m5 58 rfl rfl
theorem aw_1072 : (Cond.soleField "KilnKeeperModel" "history") ∈ AW := AW_m5 59 rfl rfl
theorem aw_1073 : (Cond.lays "KilnKeeperModel" "KilnKeeperModel" "kept" "I") ∈ AW := AW_m5 60 rfl rfl
theorem aw_1074 : (Cond.soleField "KilnKeeperModel" "kept") ∈ AW := AW_m5 61 rfl rfl
theorem aw_1075 : (Cond.lays "KilnKeeperModel" "KilnKeeperModel" "hasSaved" "Z") ∈ AW := AW_m5 62 rfl rfl
theorem aw_1076 : (Cond.soleField "KilnKeeperModel" "hasSaved") ∈ AW := AW_m5 63 rfl rfl
theorem aw_1077 : (Cond.laysFinal "KilnKeeperModel" "KilnKeeperModel" "text" "[I") ∈ AW := AW_m5 64 rfl rfl
theorem aw_1078 : (Cond.soleField "KilnKeeperModel" "text") ∈ AW := AW_m5 65 rfl rfl
theorem aw_1079 : (Cond.laysFinal "KilnKeeperModel" "KilnKeeperModel" "told" "[I") ∈ AW := AW_m5 66 rfl rfl
theorem aw_1080 : (Cond.soleField "KilnKeeperModel" "told") ∈ AW := AW_m5 67 rfl rfl
theorem aw_1081 : (Cond.laysFinal "KilnKeeperModel" "KilnKeeperModel" "line" "[I") ∈ AW := AW_m5 68 rfl rfl
theorem aw_1082 : (Cond.soleField "KilnKeeperModel" "line") ∈ AW := AW_m5 69 rfl rfl
theorem aw_1083 : (Cond.lays "KilnKeeperModel" "KilnKeeperModel" "length" "I") ∈ AW := AW_m5 70 rfl rfl
theorem aw_1084 : (Cond.soleField "KilnKeeperModel" "length") ∈ AW := AW_m5 71 rfl rfl
theorem aw_1085 : (Cond.lays "KilnKeeperModel" "KilnKeeperModel" "lineLength" "I") ∈ AW := AW_m5 72 rfl rfl
theorem aw_1086 : (Cond.soleField "KilnKeeperModel" "lineLength") ∈ AW := AW_m5 73 rfl rfl
theorem aw_1087 : (Cond.lays "KilnKeeperModel" "KilnKeeperModel" "why" "I") ∈ AW := AW_m5 74 rfl rfl
theorem aw_1088 : (Cond.soleField "KilnKeeperModel" "why") ∈ AW := AW_m5 75 rfl rfl
theorem aw_1089 : (Cond.lays "KilnKeeperModel" "KilnKeeperModel" "detail" "I") ∈ AW := AW_m5 76 rfl rfl
theorem aw_1090 : (Cond.soleField "KilnKeeperModel" "detail") ∈ AW := AW_m5 77 rfl rfl
theorem aw_1091 : (Cond.lays "KilnKeeperModel" "KilnKeeperModel" "about" "I") ∈ AW := AW_m5 78 rfl rfl
theorem aw_1092 : (Cond.soleField "KilnKeeperModel" "about") ∈ AW := AW_m5 79 rfl rfl
theorem aw_1093 : (Cond.lays "KilnKeeperModel" "KilnKeeperModel" "answer" "I") ∈ AW := AW_m5 80 rfl rfl
theorem aw_1094 : (Cond.soleField "KilnKeeperModel" "answer") ∈ AW := AW_m5 81 rfl rfl
theorem aw_1095 : (Cond.lays "KilnKeeperModel" "KilnKeeperModel" "spot" "I") ∈ AW := AW_m5 82 rfl rfl
theorem aw_1096 : (Cond.soleField "KilnKeeperModel" "spot") ∈ AW := AW_m5 83 rfl rfl
theorem aw_1097 : (Cond.lays "KilnKeeperModel" "KilnKeeperModel" "end" "I") ∈ AW := AW_m5 84 rfl rfl
theorem aw_1098 : (Cond.soleField "KilnKeeperModel" "end") ∈ AW := AW_m5 85 rfl rfl
theorem aw_1099 : (Cond.lays "KilnKeeperModel" "KilnKeeperModel" "orders" "I") ∈ AW := AW_m5 86 rfl rfl
theorem aw_1100 : (Cond.soleField "KilnKeeperModel" "orders") ∈ AW := AW_m5 87 rfl rfl
theorem aw_1101 : (Cond.lays "KilnKeeperModel" "KilnKeeperModel" "isWrong" "Z") ∈ AW := AW_m5 88 rfl rfl
theorem aw_1102 : (Cond.soleField "KilnKeeperModel" "isWrong") ∈ AW := AW_m5 89 rfl rfl
theorem aw_1103 : (Cond.superclass "KilnKeeperModel" "java/lang/Object") ∈ AW := AW_m5 90 rfl rfl
theorem aw_1104 : (Cond.methodLink "KilnKeeperLaw" (17 : Nat) ({ cls := "KilnKeeperModel", name := "aim", desc := "(I)I" } : MethodName)) ∈ AW := AW_m5 91 rfl rfl
theorem aw_1105 : (Cond.instanceMethod ({ cls := "KilnKeeperModel", name := "aim", desc := "(I)I" } : MethodName)) ∈ AW := AW_m5 92 rfl rfl
theorem aw_1106 : (Cond.selects "KilnKeeperModel" ({ cls := "KilnKeeperModel", name := "aim", desc := "(I)I" } : MethodName) ({ cls := "KilnKeeperModel", name := "aim", desc := "(I)I" } : MethodName)) ∈ AW := AW_m5 93 rfl rfl
theorem aw_1107 : (Cond.code ({ cls := "KilnKeeperModel", name := "aim", desc := "(I)I" } : MethodName) prog_15_method_29_code (2 : Nat) (Option.some FieldType.int)) ∈ AW := AW_m5 94 rfl rfl
theorem aw_1108 : (Cond.methodLink "KilnKeeperModel" (99 : Nat) ({ cls := "KilnKeeperModel", name := "remembers", desc := "()V" } : MethodName)) ∈ AW := AW_m5 95 rfl rfl
theorem at_1109 : (Cond.privateMethod ({ cls := "KilnKeeperModel", name := "remembers", desc := "()V" } : MethodName)) ∈ lw_tbl := List.mem_append_right _ (List.mem_append_right _ (List.mem_append_right _ (List.mem_append_right _ (List.mem_append_right _ (List.mem_append_left _ (List.mem_of_getElem? (l := tables_1_5) (i := 96) rfl))))))
theorem aw_1110 : (Cond.instanceMethod ({ cls := "KilnKeeperModel", name := "remembers", desc := "()V" } : MethodName)) ∈ AW := AW_m5 97 rfl rfl
theorem aw_1111 : (Cond.code ({ cls := "KilnKeeperModel", name := "remembers", desc := "()V" } : MethodName) prog_15_method_4_code (2 : Nat) (Option.none : Option FieldType)) ∈ AW := AW_m5 98 rfl rfl
theorem aw_1112 : (Cond.methodLink "KilnKeeperModel" (102 : Nat) ({ cls := "KilnKeeperModel", name := "aims", desc := "(I)I" } : MethodName)) ∈ AW := AW_m5 99 rfl rfl
theorem at_1113 : (Cond.privateMethod ({ cls := "KilnKeeperModel", name := "aims", desc := "(I)I" } : MethodName)) ∈ lw_tbl := List.mem_append_right _ (List.mem_append_right _ (List.mem_append_right _ (List.mem_append_right _ (List.mem_append_right _ (List.mem_append_left _ (List.mem_of_getElem? (l := tables_1_5) (i := 100) rfl))))))
theorem aw_1114 : (Cond.instanceMethod ({ cls := "KilnKeeperModel", name := "aims", desc := "(I)I" } : MethodName)) ∈ AW := AW_m5 101 rfl rfl
theorem aw_1115 : (Cond.code ({ cls := "KilnKeeperModel", name := "aims", desc := "(I)I" } : MethodName) prog_15_method_19_code (3 : Nat) (Option.some FieldType.int)) ∈ AW := AW_m5 102 rfl rfl
theorem aw_1116 : (Cond.methodLink "KilnKeeperModel" (54 : Nat) ({ cls := "KilnKeeperModel", name := "in", desc := "(III)Z" } : MethodName)) ∈ AW := AW_m5 103 rfl rfl
theorem aw_1117 : (Cond.static ({ cls := "KilnKeeperModel", name := "in", desc := "(III)Z" } : MethodName)) ∈ AW := AW_m5 104 rfl rfl
theorem aw_1118 : (Cond.code ({ cls := "KilnKeeperModel", name := "in", desc := "(III)Z" } : MethodName) prog_15_method_2_code (3 : Nat) (Option.some FieldType.boolean)) ∈ AW := AW_m5 105 rfl rfl
theorem aw_1119 : (Cond.methodLink "KilnKeeperModel" (85 : Nat) ({ cls := "KilnKeeperModel", name := "refused", desc := "(II)I" } : MethodName)) ∈ AW := AW_m5 106 rfl rfl
theorem at_1120 : (Cond.privateMethod ({ cls := "KilnKeeperModel", name := "refused", desc := "(II)I" } : MethodName)) ∈ lw_tbl := List.mem_append_right _ (List.mem_append_right _ (List.mem_append_right _ (List.mem_append_right _ (List.mem_append_right _ (List.mem_append_left _ (List.mem_of_getElem? (l := tables_1_5) (i := 107) rfl))))))
theorem aw_1121 : (Cond.instanceMethod ({ cls := "KilnKeeperModel", name := "refused", desc := "(II)I" } : MethodName)) ∈ AW := AW_m5 108 rfl rfl
theorem aw_1122 : (Cond.code ({ cls := "KilnKeeperModel", name := "refused", desc := "(II)I" } : MethodName) prog_15_method_6_code (3 : Nat) (Option.some FieldType.int)) ∈ AW := AW_m5 109 rfl rfl
theorem aw_1123 : (Cond.methodLink "KilnKeeperModel" (89 : Nat) ({ cls := "KilnKeeperModel", name := "done", desc := "(I)I" } : MethodName)) ∈ AW := AW_m5 110 rfl rfl
theorem at_1124 : (Cond.privateMethod ({ cls := "KilnKeeperModel", name := "done", desc := "(I)I" } : MethodName)) ∈ lw_tbl := List.mem_append_right _ (List.mem_append_right _ (List.mem_append_right _ (List.mem_append_right _ (List.mem_append_right _ (List.mem_append_left _ (List.mem_of_getElem? (l := tables_1_5) (i := 111) rfl))))))
theorem aw_1125 : (Cond.instanceMethod ({ cls := "KilnKeeperModel", name := "done", desc := "(I)I" } : MethodName)) ∈ AW := AW_m5 112 rfl rfl
theorem aw_1126 : (Cond.code ({ cls := "KilnKeeperModel", name := "done", desc := "(I)I" } : MethodName) prog_15_method_7_code (2 : Nat) (Option.some FieldType.int)) ∈ AW := AW_m5 113 rfl rfl
theorem aw_1127 : (Cond.methodLink "KilnKeeperModel" (105 : Nat) ({ cls := "KilnKeeperModel", name := "ends", desc := "(I)I" } : MethodName)) ∈ AW := AW_m5 114 rfl rfl
theorem at_1128 : (Cond.privateMethod ({ cls := "KilnKeeperModel", name := "ends", desc := "(I)I" } : MethodName)) ∈ lw_tbl := List.mem_append_right _ (List.mem_append_right _ (List.mem_append_right _ (List.mem_append_right _ (List.mem_append_right _ (List.mem_append_left _ (List.mem_of_getElem? (l := tables_1_5) (i := 115) rfl))))))
theorem aw_1129 : (Cond.instanceMethod ({ cls := "KilnKeeperModel", name := "ends", desc := "(I)I" } : MethodName)) ∈ AW := AW_m5 116 rfl rfl
theorem aw_1130 : (Cond.code ({ cls := "KilnKeeperModel", name := "ends", desc := "(I)I" } : MethodName) prog_15_method_8_code (2 : Nat) (Option.some FieldType.int)) ∈ AW := AW_m5 117 rfl rfl
theorem aw_1131 : (Cond.methodLink "KilnKeeperModel" (44 : Nat) ({ cls := "KilnKeeperModel", name := "changed", desc := "(I)I" } : MethodName)) ∈ AW := AW_m5 118 rfl rfl
theorem at_1132 : (Cond.privateMethod ({ cls := "KilnKeeperModel", name := "changed", desc := "(I)I" } : MethodName)) ∈ lw_tbl := List.mem_append_right _ (List.mem_append_right _ (List.mem_append_right _ (List.mem_append_right _ (List.mem_append_right _ (List.mem_append_left _ (List.mem_of_getElem? (l := tables_1_5) (i := 119) rfl))))))
theorem aw_1133 : (Cond.instanceMethod ({ cls := "KilnKeeperModel", name := "changed", desc := "(I)I" } : MethodName)) ∈ AW := AW_m5 120 rfl rfl
theorem aw_1134 : (Cond.code ({ cls := "KilnKeeperModel", name := "changed", desc := "(I)I" } : MethodName) prog_15_method_5_code (3 : Nat) (Option.some FieldType.int)) ∈ AW := AW_m5 121 rfl rfl
theorem aw_1135 : (Cond.methodLink "KilnKeeperLaw" (22 : Nat) ({ cls := "KilnKeeperModel", name := "gains", desc := "(III)I" } : MethodName)) ∈ AW := AW_m5 122 rfl rfl
theorem aw_1136 : (Cond.instanceMethod ({ cls := "KilnKeeperModel", name := "gains", desc := "(III)I" } : MethodName)) ∈ AW := AW_m5 123 rfl rfl
theorem aw_1137 : (Cond.selects "KilnKeeperModel" ({ cls := "KilnKeeperModel", name := "gains", desc := "(III)I" } : MethodName) ({ cls := "KilnKeeperModel", name := "gains", desc := "(III)I" } : MethodName)) ∈ AW := AW_m5 124 rfl rfl
theorem aw_1138 : (Cond.code ({ cls := "KilnKeeperModel", name := "gains", desc := "(III)I" } : MethodName) prog_15_method_30_code (4 : Nat) (Option.some FieldType.int)) ∈ AW := AW_m5 125 rfl rfl
theorem aw_1139 : (Cond.methodLink "KilnKeeperModel" (108 : Nat) ({ cls := "KilnKeeperModel", name := "gainsOf", desc := "(III)I" } : MethodName)) ∈ AW := AW_m5 126 rfl rfl
theorem at_1140 : (Cond.privateMethod ({ cls := "KilnKeeperModel", name := "gainsOf", desc := "(III)I" } : MethodName)) ∈ lw_tbl := List.mem_append_right _ (List.mem_append_right _ (List.mem_append_right _ (List.mem_append_right _ (List.mem_append_right _ (List.mem_append_left _ (List.mem_of_getElem? (l := tables_1_5) (i := 127) rfl))))))
theorem aw_1141 : (Cond.instanceMethod ({ cls := "KilnKeeperModel", name := "gainsOf", desc := "(III)I" } : MethodName)) ∈ AW := AW_m5 128 rfl rfl
theorem aw_1142 : (Cond.code ({ cls := "KilnKeeperModel", name := "gainsOf", desc := "(III)I" } : MethodName) prog_15_method_20_code (5 : Nat) (Option.some FieldType.int)) ∈ AW := AW_m5 129 rfl rfl
theorem aw_1143 : (Cond.methodLink "KilnKeeperLaw" (26 : Nat) ({ cls := "KilnKeeperModel", name := "cap", desc := "(I)I" } : MethodName)) ∈ AW := AW_m5 130 rfl rfl
theorem aw_1144 : (Cond.instanceMethod ({ cls := "KilnKeeperModel", name := "cap", desc := "(I)I" } : MethodName)) ∈ AW := AW_m5 131 rfl rfl
theorem aw_1145 : (Cond.selects "KilnKeeperModel" ({ cls := "KilnKeeperModel", name := "cap", desc := "(I)I" } : MethodName) ({ cls := "KilnKeeperModel", name := "cap", desc := "(I)I" } : MethodName)) ∈ AW := AW_m5 132 rfl rfl
theorem aw_1146 : (Cond.code ({ cls := "KilnKeeperModel", name := "cap", desc := "(I)I" } : MethodName) prog_15_method_31_code (2 : Nat) (Option.some FieldType.int)) ∈ AW := AW_m5 133 rfl rfl
theorem aw_1147 : (Cond.methodLink "KilnKeeperModel" (111 : Nat) ({ cls := "KilnKeeperModel", name := "caps", desc := "(I)I" } : MethodName)) ∈ AW := AW_m5 134 rfl rfl
theorem at_1148 : (Cond.privateMethod ({ cls := "KilnKeeperModel", name := "caps", desc := "(I)I" } : MethodName)) ∈ lw_tbl := List.mem_append_right _ (List.mem_append_right _ (List.mem_append_right _ (List.mem_append_right _ (List.mem_append_right _ (List.mem_append_left _ (List.mem_of_getElem? (l := tables_1_5) (i := 135) rfl))))))
theorem aw_1149 : (Cond.instanceMethod ({ cls := "KilnKeeperModel", name := "caps", desc := "(I)I" } : MethodName)) ∈ AW := AW_m5 136 rfl rfl
theorem aw_1150 : (Cond.code ({ cls := "KilnKeeperModel", name := "caps", desc := "(I)I" } : MethodName) prog_15_method_21_code (3 : Nat) (Option.some FieldType.int)) ∈ AW := AW_m5 137 rfl rfl
theorem aw_1151 : (Cond.methodLink "KilnKeeperModel" (62 : Nat) ({ cls := "KilnKeeperModel", name := "between", desc := "(III)I" } : MethodName)) ∈ AW := AW_m5 138 rfl rfl
theorem aw_1152 : (Cond.static ({ cls := "KilnKeeperModel", name := "between", desc := "(III)I" } : MethodName)) ∈ AW := AW_m5 139 rfl rfl
theorem aw_1153 : (Cond.code ({ cls := "KilnKeeperModel", name := "between", desc := "(III)I" } : MethodName) prog_15_method_3_code (3 : Nat) (Option.some FieldType.int)) ∈ AW := AW_m5 140 rfl rfl
theorem aw_1154 : (Cond.methodLink "KilnKeeperLaw" (30 : Nat) ({ cls := "KilnKeeperModel", name := "lag", desc := "(I)I" } : MethodName)) ∈ AW := AW_m5 141 rfl rfl
theorem aw_1155 : (Cond.instanceMethod ({ cls := "KilnKeeperModel", name := "lag", desc := "(I)I" } : MethodName)) ∈ AW := AW_m5 142 rfl rfl
theorem aw_1156 : (Cond.selects "KilnKeeperModel" ({ cls := "KilnKeeperModel", name := "lag", desc := "(I)I" } : MethodName) ({ cls := "KilnKeeperModel", name := "lag", desc := "(I)I" } : MethodName)) ∈ AW := AW_m5 143 rfl rfl
theorem aw_1157 : (Cond.code ({ cls := "KilnKeeperModel", name := "lag", desc := "(I)I" } : MethodName) prog_15_method_32_code (2 : Nat) (Option.some FieldType.int)) ∈ AW := AW_m5 144 rfl rfl
theorem aw_1158 : (Cond.methodLink "KilnKeeperModel" (114 : Nat) ({ cls := "KilnKeeperModel", name := "lags", desc := "(I)I" } : MethodName)) ∈ AW := AW_m5 145 rfl rfl
theorem at_1159 : (Cond.privateMethod ({ cls := "KilnKeeperModel", name := "lags", desc := "(I)I" } : MethodName)) ∈ lw_tbl := List.mem_append_right _ (List.mem_append_right _ (List.mem_append_right _ (List.mem_append_right _ (List.mem_append_right _ (List.mem_append_left _ (List.mem_of_getElem? (l := tables_1_5) (i := 146) rfl))))))
theorem aw_1160 : (Cond.instanceMethod ({ cls := "KilnKeeperModel", name := "lags", desc := "(I)I" } : MethodName)) ∈ AW := AW_m5 147 rfl rfl
theorem aw_1161 : (Cond.code ({ cls := "KilnKeeperModel", name := "lags", desc := "(I)I" } : MethodName) prog_15_method_22_code (4 : Nat) (Option.some FieldType.int)) ∈ AW := AW_m5 148 rfl rfl
theorem aw_1162 : (Cond.methodLink "KilnKeeperModel" (72 : Nat) ({ cls := "KilnKeeperModel", name := "lagged", desc := "(I)I" } : MethodName)) ∈ AW := AW_m5 149 rfl rfl
theorem at_1163 : (Cond.privateMethod ({ cls := "KilnKeeperModel", name := "lagged", desc := "(I)I" } : MethodName)) ∈ lw_tbl := List.mem_append_right _ (List.mem_append_right _ (List.mem_append_right _ (List.mem_append_right _ (List.mem_append_right _ (List.mem_append_left _ (List.mem_of_getElem? (l := tables_1_5) (i := 150) rfl))))))
theorem aw_1164 : (Cond.instanceMethod ({ cls := "KilnKeeperModel", name := "lagged", desc := "(I)I" } : MethodName)) ∈ AW := AW_m5 151 rfl rfl
theorem aw_1165 : (Cond.code ({ cls := "KilnKeeperModel", name := "lagged", desc := "(I)I" } : MethodName) prog_15_method_13_code (4 : Nat) (Option.some FieldType.int)) ∈ AW := AW_m5 152 rfl rfl
theorem aw_1166 : (Cond.methodLink "KilnKeeperLaw" (34 : Nat) ({ cls := "KilnKeeperModel", name := "fuel", desc := "(I)I" } : MethodName)) ∈ AW := AW_m5 153 rfl rfl
theorem aw_1167 : (Cond.instanceMethod ({ cls := "KilnKeeperModel", name := "fuel", desc := "(I)I" } : MethodName)) ∈ AW := AW_m5 154 rfl rfl
theorem aw_1168 : (Cond.selects "KilnKeeperModel" ({ cls := "KilnKeeperModel", name := "fuel", desc := "(I)I" } : MethodName) ({ cls := "KilnKeeperModel", name := "fuel", desc := "(I)I" } : MethodName)) ∈ AW := AW_m5 155 rfl rfl
theorem aw_1169 : (Cond.code ({ cls := "KilnKeeperModel", name := "fuel", desc := "(I)I" } : MethodName) prog_15_method_33_code (2 : Nat) (Option.some FieldType.int)) ∈ AW := AW_m5 156 rfl rfl
theorem aw_1170 : (Cond.methodLink "KilnKeeperModel" (117 : Nat) ({ cls := "KilnKeeperModel", name := "fuels", desc := "(I)I" } : MethodName)) ∈ AW := AW_m5 157 rfl rfl
theorem at_1171 : (Cond.privateMethod ({ cls := "KilnKeeperModel", name := "fuels", desc := "(I)I" } : MethodName)) ∈ lw_tbl := List.mem_append_right _ (List.mem_append_right _ (List.mem_append_right _ (List.mem_append_right _ (List.mem_append_right _ (List.mem_append_left _ (List.mem_of_getElem? (l := tables_1_5) (i := 158) rfl))))))
theorem aw_1172 : (Cond.instanceMethod ({ cls := "KilnKeeperModel", name := "fuels", desc := "(I)I" } : MethodName)) ∈ AW := AW_m5 159 rfl rfl
theorem aw_1173 : (Cond.code ({ cls := "KilnKeeperModel", name := "fuels", desc := "(I)I" } : MethodName) prog_15_method_23_code (2 : Nat) (Option.some FieldType.int)) ∈ AW := AW_m5 160 rfl rfl
theorem aw_1174 : (Cond.methodLink "KilnKeeperLaw" (38 : Nat) ({ cls := "KilnKeeperModel", name := "go", desc := "(I)I" } : MethodName)) ∈ AW := AW_m5 161 rfl rfl
theorem aw_1175 : (Cond.instanceMethod ({ cls := "KilnKeeperModel", name := "go", desc := "(I)I" } : MethodName)) ∈ AW := AW_m5 162 rfl rfl
theorem aw_1176 : (Cond.selects "KilnKeeperModel" ({ cls := "KilnKeeperModel", name := "go", desc := "(I)I" } : MethodName) ({ cls := "KilnKeeperModel", name := "go", desc := "(I)I" } : MethodName)) ∈ AW := AW_m5 163 rfl rfl
theorem aw_1177 : (Cond.code ({ cls := "KilnKeeperModel", name := "go", desc := "(I)I" } : MethodName) prog_15_method_34_code (2 : Nat) (Option.some FieldType.int)) ∈ AW := AW_m5 164 rfl rfl
theorem aw_1178 : (Cond.methodLink "KilnKeeperModel" (120 : Nat) ({ cls := "KilnKeeperModel", name := "goesOn", desc := "(I)I" } : MethodName)) ∈ AW := AW_m5 165 rfl rfl
theorem at_1179 : (Cond.privateMethod ({ cls := "KilnKeeperModel", name := "goesOn", desc := "(I)I" } : MethodName)) ∈ lw_tbl := List.mem_append_right _ (List.mem_append_right _ (List.mem_append_right _ (List.mem_append_right _ (List.mem_append_right _ (List.mem_append_left _ (List.mem_of_getElem? (l := tables_1_5) (i := 166) rfl))))))
theorem aw_1180 : (Cond.instanceMethod ({ cls := "KilnKeeperModel", name := "goesOn", desc := "(I)I" } : MethodName)) ∈ AW := AW_m5 167 rfl rfl
theorem aw_1181 : (Cond.code ({ cls := "KilnKeeperModel", name := "goesOn", desc := "(I)I" } : MethodName) prog_15_method_24_code (3 : Nat) (Option.some FieldType.int)) ∈ AW := AW_m5 168 rfl rfl
theorem aw_1182 : (Cond.methodLink "KilnKeeperModel" (82 : Nat) ({ cls := "KilnKeeperModel", name := "goesBy", desc := "()V" } : MethodName)) ∈ AW := AW_m5 169 rfl rfl
theorem at_1183 : (Cond.privateMethod ({ cls := "KilnKeeperModel", name := "goesBy", desc := "()V" } : MethodName)) ∈ lw_tbl := List.mem_append_right _ (List.mem_append_right _ (List.mem_append_right _ (List.mem_append_right _ (List.mem_append_right _ (List.mem_append_left _ (List.mem_of_getElem? (l := tables_1_5) (i := 170) rfl))))))
theorem aw_1184 : (Cond.instanceMethod ({ cls := "KilnKeeperModel", name := "goesBy", desc := "()V" } : MethodName)) ∈ AW := AW_m5 171 rfl rfl
theorem aw_1185 : (Cond.code ({ cls := "KilnKeeperModel", name := "goesBy", desc := "()V" } : MethodName) prog_15_method_16_code (7 : Nat) (Option.none : Option FieldType)) ∈ AW := AW_m5 172 rfl rfl
theorem aw_1186 : (Cond.methodLink "KilnKeeperModel" (58 : Nat) ({ cls := "KilnKeeperModel", name := "error", desc := "()I" } : MethodName)) ∈ AW := AW_m5 173 rfl rfl
theorem at_1187 : (Cond.privateMethod ({ cls := "KilnKeeperModel", name := "error", desc := "()I" } : MethodName)) ∈ lw_tbl := List.mem_append_right _ (List.mem_append_right _ (List.mem_append_right _ (List.mem_append_right _ (List.mem_append_right _ (List.mem_append_left _ (List.mem_of_getElem? (l := tables_1_5) (i := 174) rfl))))))
theorem aw_1188 : (Cond.instanceMethod ({ cls := "KilnKeeperModel", name := "error", desc := "()I" } : MethodName)) ∈ AW := AW_m5 175 rfl rfl
theorem aw_1189 : (Cond.code ({ cls := "KilnKeeperModel", name := "error", desc := "()I" } : MethodName) prog_15_method_10_code (1 : Nat) (Option.some FieldType.int)) ∈ AW := AW_m5 176 rfl rfl
theorem aw_1190 : (Cond.methodLink "KilnKeeperModel" (69 : Nat) ({ cls := "KilnKeeperModel", name := "wantedNow", desc := "()I" } : MethodName)) ∈ AW := AW_m5 177 rfl rfl
theorem at_1191 : (Cond.privateMethod ({ cls := "KilnKeeperModel", name := "wantedNow", desc := "()I" } : MethodName)) ∈ lw_tbl := List.mem_append_right _ (List.mem_append_right _ (List.mem_append_right _ (List.mem_append_right _ (List.mem_append_right _ (List.mem_append_left _ (List.mem_of_getElem? (l := tables_1_5) (i := 178) rfl))))))
theorem aw_1192 : (Cond.instanceMethod ({ cls := "KilnKeeperModel", name := "wantedNow", desc := "()I" } : MethodName)) ∈ AW := AW_m5 179 rfl rfl
theorem aw_1193 : (Cond.code ({ cls := "KilnKeeperModel", name := "wantedNow", desc := "()I" } : MethodName) prog_15_method_12_code (1 : Nat) (Option.some FieldType.int)) ∈ AW := AW_m5 180 rfl rfl
theorem aw_1194 : (Cond.methodLink "KilnKeeperModel" (66 : Nat) ({ cls := "KilnKeeperModel", name := "sumThen", desc := "()I" } : MethodName)) ∈ AW := AW_m5 181 rfl rfl
theorem at_1195 : (Cond.privateMethod ({ cls := "KilnKeeperModel", name := "sumThen", desc := "()I" } : MethodName)) ∈ lw_tbl := List.mem_append_right _ (List.mem_append_right _ (List.mem_append_right _ (List.mem_append_right _ (List.mem_append_right _ (List.mem_append_left _ (List.mem_of_getElem? (l := tables_1_5) (i := 182) rfl))))))
theorem aw_1196 : (Cond.instanceMethod ({ cls := "KilnKeeperModel", name := "sumThen", desc := "()I" } : MethodName)) ∈ AW := AW_m5 183 rfl rfl
theorem aw_1197 : (Cond.code ({ cls := "KilnKeeperModel", name := "sumThen", desc := "()I" } : MethodName) prog_15_method_11_code (1 : Nat) (Option.some FieldType.int)) ∈ AW := AW_m5 184 rfl rfl
theorem aw_1198 : (Cond.methodLink "KilnKeeperModel" (75 : Nat) ({ cls := "KilnKeeperModel", name := "notesMinute", desc := "(II)V" } : MethodName)) ∈ AW := AW_m5 185 rfl rfl
theorem at_1199 : (Cond.privateMethod ({ cls := "KilnKeeperModel", name := "notesMinute", desc := "(II)V" } : MethodName)) ∈ lw_tbl := List.mem_append_right _ (List.mem_append_right _ (List.mem_append_right _ (List.mem_append_right _ (List.mem_append_right _ (List.mem_append_left _ (List.mem_of_getElem? (l := tables_1_5) (i := 186) rfl))))))
theorem aw_1200 : (Cond.instanceMethod ({ cls := "KilnKeeperModel", name := "notesMinute", desc := "(II)V" } : MethodName)) ∈ AW := AW_m5 187 rfl rfl
theorem aw_1201 : (Cond.code ({ cls := "KilnKeeperModel", name := "notesMinute", desc := "(II)V" } : MethodName) prog_15_method_14_code (4 : Nat) (Option.none : Option FieldType)) ∈ AW := AW_m5 188 rfl rfl
theorem aw_1202 : (Cond.methodLink "KilnKeeperModel" (79 : Nat) ({ cls := "KilnKeeperModel", name := "heats", desc := "(II)V" } : MethodName)) ∈ AW := AW_m5 189 rfl rfl
theorem at_1203 : (Cond.privateMethod ({ cls := "KilnKeeperModel", name := "heats", desc := "(II)V" } : MethodName)) ∈ lw_tbl := List.mem_append_right _ (List.mem_append_right _ (List.mem_append_right _ (List.mem_append_right _ (List.mem_append_right _ (List.mem_append_left _ (List.mem_of_getElem? (l := tables_1_5) (i := 190) rfl))))))
theorem aw_1204 : (Cond.instanceMethod ({ cls := "KilnKeeperModel", name := "heats", desc := "(II)V" } : MethodName)) ∈ AW := AW_m5 191 rfl rfl
theorem aw_1205 : (Cond.code ({ cls := "KilnKeeperModel", name := "heats", desc := "(II)V" } : MethodName) prog_15_method_15_code (3 : Nat) (Option.none : Option FieldType)) ∈ AW := AW_m5 192 rfl rfl
theorem aw_1206 : (Cond.methodLink "KilnKeeperLaw" (42 : Nat) ({ cls := "KilnKeeperModel", name := "pot", desc := "(III)I" } : MethodName)) ∈ AW := AW_m5 193 rfl rfl
theorem aw_1207 : (Cond.instanceMethod ({ cls := "KilnKeeperModel", name := "pot", desc := "(III)I" } : MethodName)) ∈ AW := AW_m5 194 rfl rfl
theorem aw_1208 : (Cond.selects "KilnKeeperModel" ({ cls := "KilnKeeperModel", name := "pot", desc := "(III)I" } : MethodName) ({ cls := "KilnKeeperModel", name := "pot", desc := "(III)I" } : MethodName)) ∈ AW := AW_m5 195 rfl rfl
theorem aw_1209 : (Cond.code ({ cls := "KilnKeeperModel", name := "pot", desc := "(III)I" } : MethodName) prog_15_method_35_code (4 : Nat) (Option.some FieldType.int)) ∈ AW := AW_m5 196 rfl rfl
theorem aw_1210 : (Cond.methodLink "KilnKeeperModel" (123 : Nat) ({ cls := "KilnKeeperModel", name := "comes", desc := "(III)I" } : MethodName)) ∈ AW := AW_m5 197 rfl rfl
theorem at_1211 : (Cond.privateMethod ({ cls := "KilnKeeperModel", name := "comes", desc := "(III)I" } : MethodName)) ∈ lw_tbl := List.mem_append_right _ (List.mem_append_right _ (List.mem_append_right _ (List.mem_append_right _ (List.mem_append_right _ (List.mem_append_left _ (List.mem_of_getElem? (l := tables_1_5) (i := 198) rfl))))))
theorem aw_1212 : (Cond.instanceMethod ({ cls := "KilnKeeperModel", name := "comes", desc := "(III)I" } : MethodName)) ∈ AW := AW_m5 199 rfl rfl
theorem aw_1213 : (Cond.code ({ cls := "KilnKeeperModel", name := "comes", desc := "(III)I" } : MethodName) prog_15_method_25_code (5 : Nat) (Option.some FieldType.int)) ∈ AW := AW_m5 200 rfl rfl
theorem aw_1214 : (Cond.methodLink "KilnKeeperLaw" (46 : Nat) ({ cls := "KilnKeeperModel", name := "put", desc := "(I)I" } : MethodName)) ∈ AW := AW_m5 201 rfl rfl
theorem aw_1215 : (Cond.instanceMethod ({ cls := "KilnKeeperModel", name := "put", desc := "(I)I" } : MethodName)) ∈ AW := AW_m5 202 rfl rfl
theorem aw_1216 : (Cond.selects "KilnKeeperModel" ({ cls := "KilnKeeperModel", name := "put", desc := "(I)I" } : MethodName) ({ cls := "KilnKeeperModel", name := "put", desc := "(I)I" } : MethodName)) ∈ AW := AW_m5 203 rfl rfl
theorem aw_1217 : (Cond.code ({ cls := "KilnKeeperModel", name := "put", desc := "(I)I" } : MethodName) prog_15_method_36_code (2 : Nat) (Option.some FieldType.int)) ∈ AW := AW_m5 204 rfl rfl
theorem aw_1218 : (Cond.methodLink "KilnKeeperModel" (126 : Nat) ({ cls := "KilnKeeperModel", name := "puts", desc := "(I)I" } : MethodName)) ∈ AW := AW_m5 205 rfl rfl
theorem at_1219 : (Cond.privateMethod ({ cls := "KilnKeeperModel", name := "puts", desc := "(I)I" } : MethodName)) ∈ lw_tbl := List.mem_append_right _ (List.mem_append_right _ (List.mem_append_right _ (List.mem_append_right _ (List.mem_append_right _ (List.mem_append_left _ (List.mem_of_getElem? (l := tables_1_5) (i := 206) rfl))))))
theorem aw_1220 : (Cond.instanceMethod ({ cls := "KilnKeeperModel", name := "puts", desc := "(I)I" } : MethodName)) ∈ AW := AW_m5 207 rfl rfl
theorem aw_1221 : (Cond.code ({ cls := "KilnKeeperModel", name := "puts", desc := "(I)I" } : MethodName) prog_15_method_27_code (2 : Nat) (Option.some FieldType.int)) ∈ AW := AW_m5 208 rfl rfl
theorem aw_1222 : (Cond.methodLink "KilnKeeperModel" (92 : Nat) ({ cls := "KilnKeeperModel", name := "isPot", desc := "(I)Z" } : MethodName)) ∈ AW := AW_m5 209 rfl rfl
theorem at_1223 : (Cond.privateMethod ({ cls := "KilnKeeperModel", name := "isPot", desc := "(I)Z" } : MethodName)) ∈ lw_tbl := List.mem_append_right _ (List.mem_append_right _ (List.mem_append_right _ (List.mem_append_right _ (List.mem_append_right _ (List.mem_append_left _ (List.mem_of_getElem? (l := tables_1_5) (i := 210) rfl))))))
theorem aw_1224 : (Cond.instanceMethod ({ cls := "KilnKeeperModel", name := "isPot", desc := "(I)Z" } : MethodName)) ∈ AW := AW_m5 211 rfl rfl
theorem aw_1225 : (Cond.code ({ cls := "KilnKeeperModel", name := "isPot", desc := "(I)Z" } : MethodName) prog_15_method_9_code (2 : Nat) (Option.some FieldType.boolean)) ∈ AW := AW_m5 212 rfl rfl
theorem aw_1226 : (Cond.methodLink "KilnKeeperModel" (96 : Nat) ({ cls := "KilnKeeperModel", name := "within", desc := "()I" } : MethodName)) ∈ AW := AW_m5 213 rfl rfl
theorem at_1227 : (Cond.privateMethod ({ cls := "KilnKeeperModel", name := "within", desc := "()I" } : MethodName)) ∈ lw_tbl := List.mem_append_right _ (List.mem_append_right _ (List.mem_append_right _ (List.mem_append_right _ (List.mem_append_right _ (List.mem_append_left _ (List.mem_of_getElem? (l := tables_1_5) (i := 214) rfl))))))
theorem aw_1228 : (Cond.instanceMethod ({ cls := "KilnKeeperModel", name := "within", desc := "()I" } : MethodName)) ∈ AW := AW_m5 215 rfl rfl
theorem aw_1229 : (Cond.code ({ cls := "KilnKeeperModel", name := "within", desc := "()I" } : MethodName) prog_15_method_26_code (3 : Nat) (Option.some FieldType.int)) ∈ AW := AW_m5 216 rfl rfl
theorem aw_1230 : (Cond.methodLink "KilnKeeperLaw" (50 : Nat) ({ cls := "KilnKeeperModel", name := "take", desc := "(I)I" } : MethodName)) ∈ AW := AW_m5 217 rfl rfl
theorem aw_1231 : (Cond.instanceMethod ({ cls := "KilnKeeperModel", name := "take", desc := "(I)I" } : MethodName)) ∈ AW := AW_m5 218 rfl rfl
theorem aw_1232 : (Cond.selects "KilnKeeperModel" ({ cls := "KilnKeeperModel", name := "take", desc := "(I)I" } : MethodName) ({ cls := "KilnKeeperModel", name := "take", desc := "(I)I" } : MethodName)) ∈ AW := AW_m5 219 rfl rfl
theorem aw_1233 : (Cond.code ({ cls := "KilnKeeperModel", name := "take", desc := "(I)I" } : MethodName) prog_15_method_37_code (2 : Nat) (Option.some FieldType.int)) ∈ AW := AW_m5 220 rfl rfl
theorem aw_1234 : (Cond.methodLink "KilnKeeperModel" (129 : Nat) ({ cls := "KilnKeeperModel", name := "takes", desc := "(I)I" } : MethodName)) ∈ AW := AW_m5 221 rfl rfl
theorem at_1235 : (Cond.privateMethod ({ cls := "KilnKeeperModel", name := "takes", desc := "(I)I" } : MethodName)) ∈ lw_tbl := List.mem_append_right _ (List.mem_append_right _ (List.mem_append_right _ (List.mem_append_right _ (List.mem_append_right _ (List.mem_append_left _ (List.mem_of_getElem? (l := tables_1_5) (i := 222) rfl))))))
theorem aw_1236 : (Cond.instanceMethod ({ cls := "KilnKeeperModel", name := "takes", desc := "(I)I" } : MethodName)) ∈ AW := AW_m5 223 rfl rfl
theorem aw_1237 : (Cond.code ({ cls := "KilnKeeperModel", name := "takes", desc := "(I)I" } : MethodName) prog_15_method_28_code (2 : Nat) (Option.some FieldType.int)) ∈ AW := AW_m5 224 rfl rfl
theorem aw_1238 : (Cond.methodLink "KilnKeeperLaw" (55 : Nat) ({ cls := "KilnKeeperModel", name := "potOf", desc := "(II)I" } : MethodName)) ∈ AW := AW_m5 225 rfl rfl
theorem aw_1239 : (Cond.instanceMethod ({ cls := "KilnKeeperModel", name := "potOf", desc := "(II)I" } : MethodName)) ∈ AW := AW_m5 226 rfl rfl
theorem aw_1240 : (Cond.selects "KilnKeeperModel" ({ cls := "KilnKeeperModel", name := "potOf", desc := "(II)I" } : MethodName) ({ cls := "KilnKeeperModel", name := "potOf", desc := "(II)I" } : MethodName)) ∈ AW := AW_m5 227 rfl rfl
theorem aw_1241 : (Cond.code ({ cls := "KilnKeeperModel", name := "potOf", desc := "(II)I" } : MethodName) prog_15_method_38_code (3 : Nat) (Option.some FieldType.int)) ∈ AW := AW_m5 228 rfl rfl
theorem aw_1242 : (Cond.methodLink "KilnKeeperLaw" (59 : Nat) ({ cls := "KilnKeeperModel", name := "firedIn", desc := "(I)I" } : MethodName)) ∈ AW := AW_m5 229 rfl rfl
theorem aw_1243 : (Cond.instanceMethod ({ cls := "KilnKeeperModel", name := "firedIn", desc := "(I)I" } : MethodName)) ∈ AW := AW_m5 230 rfl rfl
theorem aw_1244 : (Cond.selects "KilnKeeperModel" ({ cls := "KilnKeeperModel", name := "firedIn", desc := "(I)I" } : MethodName) ({ cls := "KilnKeeperModel", name := "firedIn", desc := "(I)I" } : MethodName)) ∈ AW := AW_m5 231 rfl rfl
theorem aw_1245 : (Cond.code ({ cls := "KilnKeeperModel", name := "firedIn", desc := "(I)I" } : MethodName) prog_15_method_39_code (4 : Nat) (Option.some FieldType.int)) ∈ AW := AW_m5 232 rfl rfl
theorem aw_1246 : (Cond.methodLink "KilnKeeperModel" (132 : Nat) ({ cls := "KilnKeeperModel", name := "thinks", desc := "(I)V" } : MethodName)) ∈ AW := AW_m5 233 rfl rfl
theorem at_1247 : (Cond.privateMethod ({ cls := "KilnKeeperModel", name := "thinks", desc := "(I)V" } : MethodName)) ∈ lw_tbl := List.mem_append_right _ (List.mem_append_right _ (List.mem_append_right _ (List.mem_append_right _ (List.mem_append_right _ (List.mem_append_left _ (List.mem_of_getElem? (l := tables_1_5) (i := 234) rfl))))))
theorem aw_1248 : (Cond.instanceMethod ({ cls := "KilnKeeperModel", name := "thinks", desc := "(I)V" } : MethodName)) ∈ AW := AW_m5 235 rfl rfl
theorem aw_1249 : (Cond.code ({ cls := "KilnKeeperModel", name := "thinks", desc := "(I)V" } : MethodName) prog_15_method_17_code (3 : Nat) (Option.none : Option FieldType)) ∈ AW := AW_m5 236 rfl rfl
theorem aw_1250 : (Cond.methodLink "KilnKeeperModel" (136 : Nat) ({ cls := "KilnKeeperModel", name := "forgets", desc := "()V" } : MethodName)) ∈ AW := AW_m5 237 rfl rfl
theorem at_1251 : (Cond.privateMethod ({ cls := "KilnKeeperModel", name := "forgets", desc := "()V" } : MethodName)) ∈ lw_tbl := List.mem_append_right _ (List.mem_append_right _ (List.mem_append_right _ (List.mem_append_right _ (List.mem_append_right _ (List.mem_append_left _ (List.mem_of_getElem? (l := tables_1_5) (i := 238) rfl))))))
theorem aw_1252 : (Cond.instanceMethod ({ cls := "KilnKeeperModel", name := "forgets", desc := "()V" } : MethodName)) ∈ AW := AW_m5 239 rfl rfl
theorem aw_1253 : (Cond.code ({ cls := "KilnKeeperModel", name := "forgets", desc := "()V" } : MethodName) prog_15_method_18_code (2 : Nat) (Option.none : Option FieldType)) ∈ AW := AW_m6 0 rfl rfl
theorem aw_1254 : (Cond.methodLink "KilnKeeperLaw" (63 : Nat) ({ cls := "KilnKeeperModel", name := "wouldCrack", desc := "(I)I" } : MethodName)) ∈ AW := AW_m6 1 rfl rfl
theorem aw_1255 : (Cond.instanceMethod ({ cls := "KilnKeeperModel", name := "wouldCrack", desc := "(I)I" } : MethodName)) ∈ AW := AW_m6 2 rfl rfl
theorem aw_1256 : (Cond.selects "KilnKeeperModel" ({ cls := "KilnKeeperModel", name := "wouldCrack", desc := "(I)I" } : MethodName) ({ cls := "KilnKeeperModel", name := "wouldCrack", desc := "(I)I" } : MethodName)) ∈ AW := AW_m6 3 rfl rfl
theorem aw_1257 : (Cond.code ({ cls := "KilnKeeperModel", name := "wouldCrack", desc := "(I)I" } : MethodName) prog_15_method_40_code (4 : Nat) (Option.some FieldType.int)) ∈ AW := AW_m6 4 rfl rfl
theorem aw_1258 : (Cond.methodLink "KilnKeeperLaw" (67 : Nat) ({ cls := "KilnKeeperModel", name := "ranked", desc := "(I)I" } : MethodName)) ∈ AW := AW_m6 5 rfl rfl
theorem aw_1259 : (Cond.instanceMethod ({ cls := "KilnKeeperModel", name := "ranked", desc := "(I)I" } : MethodName)) ∈ AW := AW_m6 6 rfl rfl
theorem aw_1260 : (Cond.selects "KilnKeeperModel" ({ cls := "KilnKeeperModel", name := "ranked", desc := "(I)I" } : MethodName) ({ cls := "KilnKeeperModel", name := "ranked", desc := "(I)I" } : MethodName)) ∈ AW := AW_m6 7 rfl rfl
theorem aw_1261 : (Cond.code ({ cls := "KilnKeeperModel", name := "ranked", desc := "(I)I" } : MethodName) prog_15_method_43_code (5 : Nat) (Option.some FieldType.int)) ∈ AW := AW_m6 8 rfl rfl
theorem aw_1262 : (Cond.methodLink "KilnKeeperModel" (142 : Nat) ({ cls := "KilnKeeperModel", name := "isAhead", desc := "(II)Z" } : MethodName)) ∈ AW := AW_m6 9 rfl rfl
theorem at_1263 : (Cond.privateMethod ({ cls := "KilnKeeperModel", name := "isAhead", desc := "(II)Z" } : MethodName)) ∈ lw_tbl := List.mem_append_right _ (List.mem_append_right _ (List.mem_append_right _ (List.mem_append_right _ (List.mem_append_right _ (List.mem_append_right _ (List.mem_of_getElem? (l := tables_1_6) (i := 10) rfl))))))
theorem aw_1264 : (Cond.instanceMethod ({ cls := "KilnKeeperModel", name := "isAhead", desc := "(II)Z" } : MethodName)) ∈ AW := AW_m6 11 rfl rfl
theorem aw_1265 : (Cond.code ({ cls := "KilnKeeperModel", name := "isAhead", desc := "(II)Z" } : MethodName) prog_15_method_42_code (3 : Nat) (Option.some FieldType.boolean)) ∈ AW := AW_m6 12 rfl rfl
theorem aw_1266 : (Cond.methodLink "KilnKeeperModel" (139 : Nat) ({ cls := "KilnKeeperModel", name := "left", desc := "(I)I" } : MethodName)) ∈ AW := AW_m6 13 rfl rfl
theorem at_1267 : (Cond.privateMethod ({ cls := "KilnKeeperModel", name := "left", desc := "(I)I" } : MethodName)) ∈ lw_tbl := List.mem_append_right _ (List.mem_append_right _ (List.mem_append_right _ (List.mem_append_right _ (List.mem_append_right _ (List.mem_append_right _ (List.mem_of_getElem? (l := tables_1_6) (i := 14) rfl))))))
theorem aw_1268 : (Cond.instanceMethod ({ cls := "KilnKeeperModel", name := "left", desc := "(I)I" } : MethodName)) ∈ AW := AW_m6 15 rfl rfl
theorem aw_1269 : (Cond.code ({ cls := "KilnKeeperModel", name := "left", desc := "(I)I" } : MethodName) prog_15_method_41_code (2 : Nat) (Option.some FieldType.int)) ∈ AW := AW_m6 16 rfl rfl
theorem aw_1270 : (Cond.methodLink "KilnKeeperLaw" (71 : Nat) ({ cls := "KilnKeeperModel", name := "degreesIn", desc := "(I)I" } : MethodName)) ∈ AW := AW_m6 17 rfl rfl
theorem aw_1271 : (Cond.instanceMethod ({ cls := "KilnKeeperModel", name := "degreesIn", desc := "(I)I" } : MethodName)) ∈ AW := AW_m6 18 rfl rfl
theorem aw_1272 : (Cond.selects "KilnKeeperModel" ({ cls := "KilnKeeperModel", name := "degreesIn", desc := "(I)I" } : MethodName) ({ cls := "KilnKeeperModel", name := "degreesIn", desc := "(I)I" } : MethodName)) ∈ AW := AW_m6 19 rfl rfl
theorem aw_1273 : (Cond.code ({ cls := "KilnKeeperModel", name := "degreesIn", desc := "(I)I" } : MethodName) prog_15_method_44_code (3 : Nat) (Option.some FieldType.int)) ∈ AW := AW_m6 20 rfl rfl
theorem aw_1274 : (Cond.methodLink "KilnKeeperLaw" (76 : Nat) ({ cls := "KilnKeeperModel", name := "wanted", desc := "()I" } : MethodName)) ∈ AW := AW_m6 21 rfl rfl
theorem aw_1275 : (Cond.instanceMethod ({ cls := "KilnKeeperModel", name := "wanted", desc := "()I" } : MethodName)) ∈ AW := AW_m6 22 rfl rfl
theorem aw_1276 : (Cond.selects "KilnKeeperModel" ({ cls := "KilnKeeperModel", name := "wanted", desc := "()I" } : MethodName) ({ cls := "KilnKeeperModel", name := "wanted", desc := "()I" } : MethodName)) ∈ AW := AW_m6 23 rfl rfl
theorem aw_1277 : (Cond.code ({ cls := "KilnKeeperModel", name := "wanted", desc := "()I" } : MethodName) prog_15_method_45_code (1 : Nat) (Option.some FieldType.int)) ∈ AW := AW_m6 24 rfl rfl
theorem aw_1278 : (Cond.methodLink "KilnKeeperLaw" (80 : Nat) ({ cls := "KilnKeeperModel", name := "settlesIn", desc := "()I" } : MethodName)) ∈ AW := AW_m6 25 rfl rfl
theorem aw_1279 : (Cond.instanceMethod ({ cls := "KilnKeeperModel", name := "settlesIn", desc := "()I" } : MethodName)) ∈ AW := AW_m6 26 rfl rfl
theorem aw_1280 : (Cond.selects "KilnKeeperModel" ({ cls := "KilnKeeperModel", name := "settlesIn", desc := "()I" } : MethodName) ({ cls := "KilnKeeperModel", name := "settlesIn", desc := "()I" } : MethodName)) ∈ AW := AW_m6 27 rfl rfl
theorem aw_1281 : (Cond.code ({ cls := "KilnKeeperModel", name := "settlesIn", desc := "()I" } : MethodName) prog_15_method_46_code (3 : Nat) (Option.some FieldType.int)) ∈ AW := AW_m6 28 rfl rfl
theorem aw_1282 : (Cond.methodLink "KilnKeeperLaw" (84 : Nat) ({ cls := "KilnKeeperModel", name := "wouldOvershoot", desc := "(I)I" } : MethodName)) ∈ AW := AW_m6 29 rfl rfl
theorem aw_1283 : (Cond.instanceMethod ({ cls := "KilnKeeperModel", name := "wouldOvershoot", desc := "(I)I" } : MethodName)) ∈ AW := AW_m6 30 rfl rfl
theorem aw_1284 : (Cond.selects "KilnKeeperModel" ({ cls := "KilnKeeperModel", name := "wouldOvershoot", desc := "(I)I" } : MethodName) ({ cls := "KilnKeeperModel", name := "wouldOvershoot", desc := "(I)I" } : MethodName)) ∈ AW := AW_m6 31 rfl rfl
theorem aw_1285 : (Cond.code ({ cls := "KilnKeeperModel", name := "wouldOvershoot", desc := "(I)I" } : MethodName) prog_15_method_47_code (3 : Nat) (Option.some FieldType.int)) ∈ AW := AW_m6 32 rfl rfl
theorem aw_1286 : (Cond.methodLink "KilnKeeperLaw" (88 : Nat) ({ cls := "KilnKeeperModel", name := "logged", desc := "(II)I" } : MethodName)) ∈ AW := AW_m6 33 rfl rfl
theorem aw_1287 : (Cond.instanceMethod ({ cls := "KilnKeeperModel", name := "logged", desc := "(II)I" } : MethodName)) ∈ AW := AW_m6 34 rfl rfl
theorem aw_1288 : (Cond.selects "KilnKeeperModel" ({ cls := "KilnKeeperModel", name := "logged", desc := "(II)I" } : MethodName) ({ cls := "KilnKeeperModel", name := "logged", desc := "(II)I" } : MethodName)) ∈ AW := AW_m6 35 rfl rfl
theorem aw_1289 : (Cond.code ({ cls := "KilnKeeperModel", name := "logged", desc := "(II)I" } : MethodName) prog_15_method_48_code (3 : Nat) (Option.some FieldType.int)) ∈ AW := AW_m6 36 rfl rfl
theorem aw_1290 : (Cond.methodLink "KilnKeeperLaw" (92 : Nat) ({ cls := "KilnKeeperModel", name := "burnt", desc := "()I" } : MethodName)) ∈ AW := AW_m6 37 rfl rfl
theorem aw_1291 : (Cond.instanceMethod ({ cls := "KilnKeeperModel", name := "burnt", desc := "()I" } : MethodName)) ∈ AW := AW_m6 38 rfl rfl
theorem aw_1292 : (Cond.selects "KilnKeeperModel" ({ cls := "KilnKeeperModel", name := "burnt", desc := "()I" } : MethodName) ({ cls := "KilnKeeperModel", name := "burnt", desc := "()I" } : MethodName)) ∈ AW := AW_m6 39 rfl rfl
theorem aw_1293 : (Cond.code ({ cls := "KilnKeeperModel", name := "burnt", desc := "()I" } : MethodName) prog_15_method_49_code (1 : Nat) (Option.some FieldType.int)) ∈ AW := AW_m6 40 rfl rfl
theorem aw_1294 : (Cond.methodLink "KilnKeeperLaw" (96 : Nat) ({ cls := "KilnKeeperModel", name := "burntAgain", desc := "()I" } : MethodName)) ∈ AW := AW_m6 41 rfl rfl
theorem aw_1295 : (Cond.instanceMethod ({ cls := "KilnKeeperModel", name := "burntAgain", desc := "()I" } : MethodName)) ∈ AW := AW_m6 42 rfl rfl
theorem aw_1296 : (Cond.selects "KilnKeeperModel" ({ cls := "KilnKeeperModel", name := "burntAgain", desc := "()I" } : MethodName) ({ cls := "KilnKeeperModel", name := "burntAgain", desc := "()I" } : MethodName)) ∈ AW := AW_m6 43 rfl rfl
theorem aw_1297 : (Cond.code ({ cls := "KilnKeeperModel", name := "burntAgain", desc := "()I" } : MethodName) prog_15_method_50_code (3 : Nat) (Option.some FieldType.int)) ∈ AW := AW_m6 44 rfl rfl
theorem aw_1298 : (Cond.methodLink "KilnKeeperLaw" (100 : Nat) ({ cls := "KilnKeeperModel", name := "minutesWith", desc := "(I)I" } : MethodName)) ∈ AW := AW_m6 45 rfl rfl
theorem aw_1299 : (Cond.instanceMethod ({ cls := "KilnKeeperModel", name := "minutesWith", desc := "(I)I" } : MethodName)) ∈ AW := AW_m6 46 rfl rfl
theorem aw_1300 : (Cond.selects "KilnKeeperModel" ({ cls := "KilnKeeperModel", name := "minutesWith", desc := "(I)I" } : MethodName) ({ cls := "KilnKeeperModel", name := "minutesWith", desc := "(I)I" } : MethodName)) ∈ AW := AW_m6 47 rfl rfl
theorem aw_1301 : (Cond.code ({ cls := "KilnKeeperModel", name := "minutesWith", desc := "(I)I" } : MethodName) prog_15_method_51_code (2 : Nat) (Option.some FieldType.int)) ∈ AW := AW_m6 48 rfl rfl
theorem aw_1302 : (Cond.methodLink "KilnKeeperLaw" (104 : Nat) ({ cls := "KilnKeeperModel", name := "append", desc := "(I)I" } : MethodName)) ∈ AW := AW_m6 49 rfl rfl
theorem aw_1303 : (Cond.instanceMethod ({ cls := "KilnKeeperModel", name := "append", desc := "(I)I" } : MethodName)) ∈ AW := AW_m6 50 rfl rfl
theorem aw_1304 : (Cond.selects "KilnKeeperModel" ({ cls := "KilnKeeperModel", name := "append", desc := "(I)I" } : MethodName) ({ cls := "KilnKeeperModel", name := "append", desc := "(I)I" } : MethodName)) ∈ AW := AW_m6 51 rfl rfl
theorem aw_1305 : (Cond.code ({ cls := "KilnKeeperModel", name := "append", desc := "(I)I" } : MethodName) prog_15_method_52_code (2 : Nat) (Option.some FieldType.int)) ∈ AW := AW_m6 52 rfl rfl
theorem aw_1306 : (Cond.methodLink "KilnKeeperLaw" (108 : Nat) ({ cls := "KilnKeeperModel", name := "run", desc := "()I" } : MethodName)) ∈ AW := AW_m6 53 rfl rfl
theorem aw_1307 : (Cond.instanceMethod ({ cls := "KilnKeeperModel", name := "run", desc := "()I" } : MethodName)) ∈ AW := AW_m6 54 rfl rfl
theorem aw_1308 : (Cond.selects "KilnKeeperModel" ({ cls := "KilnKeeperModel", name := "run", desc := "()I" } : MethodName) ({ cls := "KilnKeeperModel", name := "run", desc := "()I" } : MethodName)) ∈ AW := AW_m6 55 rfl rfl
theorem aw_1309 : (Cond.code ({ cls := "KilnKeeperModel", name := "run", desc := "()I" } : MethodName) prog_15_method_60_code (3 : Nat) (Option.some FieldType.int)) ∈ AW := AW_m6 56 rfl rfl
theorem aw_1310 : (Cond.methodLink "KilnKeeperModel" (207 : Nat) ({ cls := "KilnKeeperModel", name := "readsOne", desc := "()V" } : MethodName)) ∈ AW := AW_m6 57 rfl rfl
theorem at_1311 : (Cond.privateMethod ({ cls := "KilnKeeperModel", name := "readsOne", desc := "()V" } : MethodName)) ∈ lw_tbl := List.mem_append_right _ (List.mem_append_right _ (List.mem_append_right _ (List.mem_append_right _ (List.mem_append_right _ (List.mem_append_right _ (List.mem_of_getElem? (l := tables_1_6) (i := 58) rfl))))))
theorem aw_1312 : (Cond.instanceMethod ({ cls := "KilnKeeperModel", name := "readsOne", desc := "()V" } : MethodName)) ∈ AW := AW_m6 59 rfl rfl
theorem aw_1313 : (Cond.code ({ cls := "KilnKeeperModel", name := "readsOne", desc := "()V" } : MethodName) prog_15_method_58_code (2 : Nat) (Option.none : Option FieldType)) ∈ AW := AW_m6 60 rfl rfl
theorem aw_1314 : (Cond.methodLink "KilnKeeperModel" (182 : Nat) ({ cls := "KilnKeeperModel", name := "sort", desc := "()I" } : MethodName)) ∈ AW := AW_m6 61 rfl rfl
theorem at_1315 : (Cond.privateMethod ({ cls := "KilnKeeperModel", name := "sort", desc := "()I" } : MethodName)) ∈ lw_tbl := List.mem_append_right _ (List.mem_append_right _ (List.mem_append_right _ (List.mem_append_right _ (List.mem_append_right _ (List.mem_append_right _ (List.mem_of_getElem? (l := tables_1_6) (i := 62) rfl))))))
theorem aw_1316 : (Cond.instanceMethod ({ cls := "KilnKeeperModel", name := "sort", desc := "()I" } : MethodName)) ∈ AW := AW_m6 63 rfl rfl
theorem aw_1317 : (Cond.code ({ cls := "KilnKeeperModel", name := "sort", desc := "()I" } : MethodName) prog_15_method_57_code (2 : Nat) (Option.some FieldType.int)) ∈ AW := AW_m6 64 rfl rfl
theorem aw_1318 : (Cond.methodLink "KilnKeeperModel" (163 : Nat) ({ cls := "KilnKeeperModel", name := "here", desc := "(I)I" } : MethodName)) ∈ AW := AW_m6 65 rfl rfl
theorem at_1319 : (Cond.privateMethod ({ cls := "KilnKeeperModel", name := "here", desc := "(I)I" } : MethodName)) ∈ lw_tbl := List.mem_append_right _ (List.mem_append_right _ (List.mem_append_right _ (List.mem_append_right _ (List.mem_append_right _ (List.mem_append_right _ (List.mem_of_getElem? (l := tables_1_6) (i := 66) rfl))))))
theorem aw_1320 : (Cond.instanceMethod ({ cls := "KilnKeeperModel", name := "here", desc := "(I)I" } : MethodName)) ∈ AW := AW_m6 67 rfl rfl
theorem aw_1321 : (Cond.code ({ cls := "KilnKeeperModel", name := "here", desc := "(I)I" } : MethodName) prog_15_method_53_code (2 : Nat) (Option.some FieldType.int)) ∈ AW := AW_m6 68 rfl rfl
theorem at_1322 : (Cond.stringRef "KilnKeeperModel" (185 : Nat) "aim") ∈ lw_tbl := List.mem_append_right _ (List.mem_append_right _ (List.mem_append_right _ (List.mem_append_right _ (List.mem_append_right _ (List.mem_append_right _ (List.mem_of_getElem? (l := tables_1_6) (i := 69) rfl))))))
theorem aw_1323 : (Cond.methodLink "KilnKeeperModel" (187 : Nat) ({ cls := "KilnKeeperModel", name := "reads", desc := "(Ljava/lang/String;I)V" } : MethodName)) ∈ AW := AW_m6 70 rfl rfl
theorem at_1324 : (Cond.privateMethod ({ cls := "KilnKeeperModel", name := "reads", desc := "(Ljava/lang/String;I)V" } : MethodName)) ∈ lw_tbl := List.mem_append_right _ (List.mem_append_right _ (List.mem_append_right _ (List.mem_append_right _ (List.mem_append_right _ (List.mem_append_right _ (List.mem_of_getElem? (l := tables_1_6) (i := 71) rfl))))))
theorem aw_1325 : (Cond.instanceMethod ({ cls := "KilnKeeperModel", name := "reads", desc := "(Ljava/lang/String;I)V" } : MethodName)) ∈ AW := AW_m6 72 rfl rfl
theorem aw_1326 : (Cond.code ({ cls := "KilnKeeperModel", name := "reads", desc := "(Ljava/lang/String;I)V" } : MethodName) prog_15_method_56_code (3 : Nat) (Option.none : Option FieldType)) ∈ AW := AW_m6 73 rfl rfl
theorem aw_1327 : (Cond.methodLink "KilnKeeperModel" (172 : Nat) ({ cls := "KilnKeeperModel", name := "word", desc := "(Ljava/lang/String;)V" } : MethodName)) ∈ AW := AW_m6 74 rfl rfl
theorem at_1328 : (Cond.privateMethod ({ cls := "KilnKeeperModel", name := "word", desc := "(Ljava/lang/String;)V" } : MethodName)) ∈ lw_tbl := List.mem_append_right _ (List.mem_append_right _ (List.mem_append_right _ (List.mem_append_right _ (List.mem_append_right _ (List.mem_append_right _ (List.mem_of_getElem? (l := tables_1_6) (i := 75) rfl))))))
theorem aw_1329 : (Cond.instanceMethod ({ cls := "KilnKeeperModel", name := "word", desc := "(Ljava/lang/String;)V" } : MethodName)) ∈ AW := AW_m6 76 rfl rfl
theorem aw_1330 : (Cond.code ({ cls := "KilnKeeperModel", name := "word", desc := "(Ljava/lang/String;)V" } : MethodName) prog_15_method_54_code (3 : Nat) (Option.none : Option FieldType)) ∈ AW := AW_m6 77 rfl rfl
theorem aw_1331 : (Cond.methodLink "KilnKeeperModel" (155 : Nat) ({ cls := "java/lang/String", name := "length", desc := "()I" } : MethodName)) ∈ AW := AW_m6 78 rfl rfl
theorem aw_1332 : (Cond.methodLink "KilnKeeperModel" (166 : Nat) ({ cls := "java/lang/String", name := "charAt", desc := "(I)C" } : MethodName)) ∈ AW := AW_m6 79 rfl rfl
theorem aw_1333 : (Cond.methodLink "KilnKeeperModel" (179 : Nat) ({ cls := "KilnKeeperModel", name := "number", desc := "(II)V" } : MethodName)) ∈ AW := AW_m6 80 rfl rfl
theorem at_1334 : (Cond.privateMethod ({ cls := "KilnKeeperModel", name := "number", desc := "(II)V" } : MethodName)) ∈ lw_tbl := List.mem_append_right _ (List.mem_append_right _ (List.mem_append_right _ (List.mem_append_right _ (List.mem_append_right _ (List.mem_append_right _ (List.mem_of_getElem? (l := tables_1_6) (i := 81) rfl))))))
theorem aw_1335 : (Cond.instanceMethod ({ cls := "KilnKeeperModel", name := "number", desc := "(II)V" } : MethodName)) ∈ AW := AW_m6 82 rfl rfl
theorem aw_1336 : (Cond.code ({ cls := "KilnKeeperModel", name := "number", desc := "(II)V" } : MethodName) prog_15_method_55_code (5 : Nat) (Option.none : Option FieldType)) ∈ AW := AW_m6 83 rfl rfl
theorem at_1337 : (Cond.stringRef "KilnKeeperModel" (170 : Nat) " ") ∈ lw_tbl := List.mem_append_right _ (List.mem_append_right _ (List.mem_append_right _ (List.mem_append_right _ (List.mem_append_right _ (List.mem_append_right _ (List.mem_of_getElem? (l := tables_1_6) (i := 84) rfl))))))
theorem at_1338 : (Cond.stringRef "KilnKeeperModel" (191 : Nat) "gain") ∈ lw_tbl := List.mem_append_right _ (List.mem_append_right _ (List.mem_append_right _ (List.mem_append_right _ (List.mem_append_right _ (List.mem_append_right _ (List.mem_of_getElem? (l := tables_1_6) (i := 85) rfl))))))
theorem at_1339 : (Cond.stringRef "KilnKeeperModel" (193 : Nat) "cap") ∈ lw_tbl := List.mem_append_right _ (List.mem_append_right _ (List.mem_append_right _ (List.mem_append_right _ (List.mem_append_right _ (List.mem_append_right _ (List.mem_of_getElem? (l := tables_1_6) (i := 86) rfl))))))
theorem at_1340 : (Cond.stringRef "KilnKeeperModel" (195 : Nat) "lag") ∈ lw_tbl := List.mem_append_right _ (List.mem_append_right _ (List.mem_append_right _ (List.mem_append_right _ (List.mem_append_right _ (List.mem_append_right _ (List.mem_of_getElem? (l := tables_1_6) (i := 87) rfl))))))
theorem at_1341 : (Cond.stringRef "KilnKeeperModel" (197 : Nat) "pot") ∈ lw_tbl := List.mem_append_right _ (List.mem_append_right _ (List.mem_append_right _ (List.mem_append_right _ (List.mem_append_right _ (List.mem_append_right _ (List.mem_of_getElem? (l := tables_1_6) (i := 88) rfl))))))
theorem at_1342 : (Cond.stringRef "KilnKeeperModel" (199 : Nat) "put") ∈ lw_tbl := List.mem_append_right _ (List.mem_append_right _ (List.mem_append_right _ (List.mem_append_right _ (List.mem_append_right _ (List.mem_append_right _ (List.mem_of_getElem? (l := tables_1_6) (i := 89) rfl))))))
theorem at_1343 : (Cond.stringRef "KilnKeeperModel" (201 : Nat) "take") ∈ lw_tbl := List.mem_append_right _ (List.mem_append_right _ (List.mem_append_right _ (List.mem_append_right _ (List.mem_append_right _ (List.mem_append_right _ (List.mem_of_getElem? (l := tables_1_6) (i := 90) rfl))))))
theorem at_1344 : (Cond.stringRef "KilnKeeperModel" (203 : Nat) "fuel") ∈ lw_tbl := List.mem_append_right _ (List.mem_append_right _ (List.mem_append_right _ (List.mem_append_right _ (List.mem_append_right _ (List.mem_append_right _ (List.mem_of_getElem? (l := tables_1_6) (i := 91) rfl))))))
theorem at_1345 : (Cond.stringRef "KilnKeeperModel" (205 : Nat) "go") ∈ lw_tbl := List.mem_append_right _ (List.mem_append_right _ (List.mem_append_right _ (List.mem_append_right _ (List.mem_append_right _ (List.mem_append_right _ (List.mem_of_getElem? (l := tables_1_6) (i := 92) rfl))))))
theorem aw_1346 : (Cond.methodLink "KilnKeeperModel" (210 : Nat) ({ cls := "KilnKeeperModel", name := "does", desc := "(I)I" } : MethodName)) ∈ AW := AW_m6 93 rfl rfl
theorem at_1347 : (Cond.privateMethod ({ cls := "KilnKeeperModel", name := "does", desc := "(I)I" } : MethodName)) ∈ lw_tbl := List.mem_append_right _ (List.mem_append_right _ (List.mem_append_right _ (List.mem_append_right _ (List.mem_append_right _ (List.mem_append_right _ (List.mem_of_getElem? (l := tables_1_6) (i := 94) rfl))))))
theorem aw_1348 : (Cond.instanceMethod ({ cls := "KilnKeeperModel", name := "does", desc := "(I)I" } : MethodName)) ∈ AW := AW_m6 95 rfl rfl
theorem aw_1349 : (Cond.code ({ cls := "KilnKeeperModel", name := "does", desc := "(I)I" } : MethodName) prog_15_method_59_code (5 : Nat) (Option.some FieldType.int)) ∈ AW := AW_m6 96 rfl rfl
theorem aw_1350 : (Cond.methodLink "KilnKeeperLaw" (112 : Nat) ({ cls := "KilnKeeperModel", name := "tell", desc := "()I" } : MethodName)) ∈ AW := AW_m6 97 rfl rfl
theorem aw_1351 : (Cond.instanceMethod ({ cls := "KilnKeeperModel", name := "tell", desc := "()I" } : MethodName)) ∈ AW := AW_m6 98 rfl rfl
theorem aw_1352 : (Cond.selects "KilnKeeperModel" ({ cls := "KilnKeeperModel", name := "tell", desc := "()I" } : MethodName) ({ cls := "KilnKeeperModel", name := "tell", desc := "()I" } : MethodName)) ∈ AW := AW_m6 99 rfl rfl
theorem aw_1353 : (Cond.code ({ cls := "KilnKeeperModel", name := "tell", desc := "()I" } : MethodName) prog_15_method_64_code (2 : Nat) (Option.some FieldType.int)) ∈ AW := AW_m6 100 rfl rfl
theorem aw_1354 : (Cond.methodLink "KilnKeeperModel" (219 : Nat) ({ cls := "KilnKeeperModel", name := "writesNumber", desc := "(I)V" } : MethodName)) ∈ AW := AW_m6 101 rfl rfl
theorem at_1355 : (Cond.privateMethod ({ cls := "KilnKeeperModel", name := "writesNumber", desc := "(I)V" } : MethodName)) ∈ lw_tbl := List.mem_append_right _ (List.mem_append_right _ (List.mem_append_right _ (List.mem_append_right _ (List.mem_append_right _ (List.mem_append_right _ (List.mem_of_getElem? (l := tables_1_6) (i := 102) rfl))))))
theorem aw_1356 : (Cond.instanceMethod ({ cls := "KilnKeeperModel", name := "writesNumber", desc := "(I)V" } : MethodName)) ∈ AW := AW_m6 103 rfl rfl
theorem aw_1357 : (Cond.code ({ cls := "KilnKeeperModel", name := "writesNumber", desc := "(I)V" } : MethodName) prog_15_method_62_code (4 : Nat) (Option.none : Option FieldType)) ∈ AW := AW_m6 104 rfl rfl
theorem aw_1358 : (Cond.methodLink "KilnKeeperModel" (216 : Nat) ({ cls := "KilnKeeperModel", name := "writes", desc := "(I)V" } : MethodName)) ∈ AW := AW_m6 105 rfl rfl
theorem at_1359 : (Cond.privateMethod ({ cls := "KilnKeeperModel", name := "writes", desc := "(I)V" } : MethodName)) ∈ lw_tbl := List.mem_append_right _ (List.mem_append_right _ (List.mem_append_right _ (List.mem_append_right _ (List.mem_append_right _ (List.mem_append_right _ (List.mem_of_getElem? (l := tables_1_6) (i := 106) rfl))))))
theorem aw_1360 : (Cond.instanceMethod ({ cls := "KilnKeeperModel", name := "writes", desc := "(I)V" } : MethodName)) ∈ AW := AW_m6 107 rfl rfl
theorem aw_1361 : (Cond.code ({ cls := "KilnKeeperModel", name := "writes", desc := "(I)V" } : MethodName) prog_15_method_61_code (2 : Nat) (Option.none : Option FieldType)) ∈ AW := AW_m6 108 rfl rfl
theorem aw_1362 : (Cond.methodLink "KilnKeeperModel" (222 : Nat) ({ cls := "KilnKeeperModel", name := "writesPart", desc := "(II)V" } : MethodName)) ∈ AW := AW_m6 109 rfl rfl
theorem at_1363 : (Cond.privateMethod ({ cls := "KilnKeeperModel", name := "writesPart", desc := "(II)V" } : MethodName)) ∈ lw_tbl := List.mem_append_right _ (List.mem_append_right _ (List.mem_append_right _ (List.mem_append_right _ (List.mem_append_right _ (List.mem_append_right _ (List.mem_of_getElem? (l := tables_1_6) (i := 110) rfl))))))
theorem aw_1364 : (Cond.instanceMethod ({ cls := "KilnKeeperModel", name := "writesPart", desc := "(II)V" } : MethodName)) ∈ AW := AW_m6 111 rfl rfl
theorem aw_1365 : (Cond.code ({ cls := "KilnKeeperModel", name := "writesPart", desc := "(II)V" } : MethodName) prog_15_method_63_code (3 : Nat) (Option.none : Option FieldType)) ∈ AW := AW_m6 112 rfl rfl
theorem aw_1366 : (Cond.methodLink "KilnKeeperLaw" (116 : Nat) ({ cls := "KilnKeeperModel", name := "tellPot", desc := "(I)I" } : MethodName)) ∈ AW := AW_m6 113 rfl rfl
theorem aw_1367 : (Cond.instanceMethod ({ cls := "KilnKeeperModel", name := "tellPot", desc := "(I)I" } : MethodName)) ∈ AW := AW_m6 114 rfl rfl
theorem aw_1368 : (Cond.selects "KilnKeeperModel" ({ cls := "KilnKeeperModel", name := "tellPot", desc := "(I)I" } : MethodName) ({ cls := "KilnKeeperModel", name := "tellPot", desc := "(I)I" } : MethodName)) ∈ AW := AW_m6 115 rfl rfl
theorem aw_1369 : (Cond.code ({ cls := "KilnKeeperModel", name := "tellPot", desc := "(I)I" } : MethodName) prog_15_method_65_code (3 : Nat) (Option.some FieldType.int)) ∈ AW := AW_m6 116 rfl rfl
theorem aw_1370 : (Cond.methodLink "KilnKeeperLaw" (120 : Nat) ({ cls := "KilnKeeperModel", name := "character", desc := "(I)I" } : MethodName)) ∈ AW := AW_m6 117 rfl rfl
theorem aw_1371 : (Cond.instanceMethod ({ cls := "KilnKeeperModel", name := "character", desc := "(I)I" } : MethodName)) ∈ AW := AW_m6 118 rfl rfl
theorem aw_1372 : (Cond.selects "KilnKeeperModel" ({ cls := "KilnKeeperModel", name := "character", desc := "(I)I" } : MethodName) ({ cls := "KilnKeeperModel", name := "character", desc := "(I)I" } : MethodName)) ∈ AW := AW_m6 119 rfl rfl
theorem aw_1373 : (Cond.code ({ cls := "KilnKeeperModel", name := "character", desc := "(I)I" } : MethodName) prog_15_method_66_code (2 : Nat) (Option.some FieldType.int)) ∈ AW := AW_m6 120 rfl rfl
theorem aw_1374 : (Cond.methodLink "KilnKeeperLaw" (125 : Nat) ({ cls := "KilnKeeperModel", name := "reason", desc := "(Z)I" } : MethodName)) ∈ AW := AW_m6 121 rfl rfl
theorem aw_1375 : (Cond.instanceMethod ({ cls := "KilnKeeperModel", name := "reason", desc := "(Z)I" } : MethodName)) ∈ AW := AW_m6 122 rfl rfl
theorem aw_1376 : (Cond.selects "KilnKeeperModel" ({ cls := "KilnKeeperModel", name := "reason", desc := "(Z)I" } : MethodName) ({ cls := "KilnKeeperModel", name := "reason", desc := "(Z)I" } : MethodName)) ∈ AW := AW_m6 123 rfl rfl
theorem aw_1377 : (Cond.code ({ cls := "KilnKeeperModel", name := "reason", desc := "(Z)I" } : MethodName) prog_15_method_67_code (2 : Nat) (Option.some FieldType.int)) ∈ AW := AW_m6 124 rfl rfl
theorem aw_1378 : (Cond.methodLink "KilnKeeperLaw" (129 : Nat) ({ cls := "KilnKeeperModel", name := "account", desc := "(I)I" } : MethodName)) ∈ AW := AW_m6 125 rfl rfl
theorem aw_1379 : (Cond.instanceMethod ({ cls := "KilnKeeperModel", name := "account", desc := "(I)I" } : MethodName)) ∈ AW := AW_m6 126 rfl rfl
theorem aw_1380 : (Cond.selects "KilnKeeperModel" ({ cls := "KilnKeeperModel", name := "account", desc := "(I)I" } : MethodName) ({ cls := "KilnKeeperModel", name := "account", desc := "(I)I" } : MethodName)) ∈ AW := AW_m6 127 rfl rfl
theorem aw_1381 : (Cond.code ({ cls := "KilnKeeperModel", name := "account", desc := "(I)I" } : MethodName) prog_15_method_69_code (2 : Nat) (Option.some FieldType.int)) ∈ AW := AW_m6 128 rfl rfl
theorem aw_1382 : (Cond.methodLink "KilnKeeperModel" (225 : Nat) ({ cls := "KilnKeeperModel", name := "manyThat", desc := "(I)I" } : MethodName)) ∈ AW := AW_m6 129 rfl rfl
theorem at_1383 : (Cond.privateMethod ({ cls := "KilnKeeperModel", name := "manyThat", desc := "(I)I" } : MethodName)) ∈ lw_tbl := List.mem_append_right _ (List.mem_append_right _ (List.mem_append_right _ (List.mem_append_right _ (List.mem_append_right _ (List.mem_append_right _ (List.mem_of_getElem? (l := tables_1_6) (i := 130) rfl))))))
theorem aw_1384 : (Cond.instanceMethod ({ cls := "KilnKeeperModel", name := "manyThat", desc := "(I)I" } : MethodName)) ∈ AW := AW_m6 131 rfl rfl
theorem aw_1385 : (Cond.code ({ cls := "KilnKeeperModel", name := "manyThat", desc := "(I)I" } : MethodName) prog_15_method_68_code (4 : Nat) (Option.some FieldType.int)) ∈ AW := AW_m6 132 rfl rfl
theorem aw_1386 : (Cond.methodLink "KilnKeeperLaw" (133 : Nat) ({ cls := "KilnKeeperModel", name := "isBalanced", desc := "()I" } : MethodName)) ∈ AW := AW_m6 133 rfl rfl
theorem aw_1387 : (Cond.instanceMethod ({ cls := "KilnKeeperModel", name := "isBalanced", desc := "()I" } : MethodName)) ∈ AW := AW_m6 134 rfl rfl
theorem aw_1388 : (Cond.selects "KilnKeeperModel" ({ cls := "KilnKeeperModel", name := "isBalanced", desc := "()I" } : MethodName) ({ cls := "KilnKeeperModel", name := "isBalanced", desc := "()I" } : MethodName)) ∈ AW := AW_m6 135 rfl rfl
theorem aw_1389 : (Cond.code ({ cls := "KilnKeeperModel", name := "isBalanced", desc := "()I" } : MethodName) prog_15_method_70_code (4 : Nat) (Option.some FieldType.int)) ∈ AW := AW_m6 136 rfl rfl
theorem aw_1390 : (Cond.methodLink "KilnKeeperModel" (228 : Nat) ({ cls := "KilnKeeperModel", name := "burntAgain", desc := "()I" } : MethodName)) ∈ AW := AW_m6 137 rfl rfl
theorem aw_1391 : (Cond.methodLink "KilnKeeperLaw" (138 : Nat) ({ cls := "KilnKeeperModel", name := "meanBurnt", desc := "()D" } : MethodName)) ∈ AW := AW_m6 138 rfl rfl
theorem aw_1392 : (Cond.instanceMethod ({ cls := "KilnKeeperModel", name := "meanBurnt", desc := "()D" } : MethodName)) ∈ AW := AW_m6 139 rfl rfl
theorem aw_1393 : (Cond.selects "KilnKeeperModel" ({ cls := "KilnKeeperModel", name := "meanBurnt", desc := "()D" } : MethodName) ({ cls := "KilnKeeperModel", name := "meanBurnt", desc := "()D" } : MethodName)) ∈ AW := AW_m6 140 rfl rfl
theorem aw_1394 : (Cond.code ({ cls := "KilnKeeperModel", name := "meanBurnt", desc := "()D" } : MethodName) prog_15_method_71_code (1 : Nat) (Option.some FieldType.double)) ∈ AW := AW_m6 141 rfl rfl
theorem aw_1395 : (Cond.methodLink "KilnKeeperLaw" (143 : Nat) ({ cls := "KilnKeeperModel", name := "firedShare", desc := "()F" } : MethodName)) ∈ AW := AW_m6 142 rfl rfl
theorem aw_1396 : (Cond.instanceMethod ({ cls := "KilnKeeperModel", name := "firedShare", desc := "()F" } : MethodName)) ∈ AW := AW_m6 143 rfl rfl
theorem aw_1397 : (Cond.selects "KilnKeeperModel" ({ cls := "KilnKeeperModel", name := "firedShare", desc := "()F" } : MethodName) ({ cls := "KilnKeeperModel", name := "firedShare", desc := "()F" } : MethodName)) ∈ AW := AW_m6 144 rfl rfl
theorem aw_1398 : (Cond.code ({ cls := "KilnKeeperModel", name := "firedShare", desc := "()F" } : MethodName) prog_15_method_72_code (1 : Nat) (Option.some FieldType.float)) ∈ AW := AW_m6 145 rfl rfl
theorem aw_1399 : (Cond.methodLink "KilnKeeperLaw" (147 : Nat) ({ cls := "KilnKeeperModel", name := "undo", desc := "()I" } : MethodName)) ∈ AW := AW_m6 146 rfl rfl
theorem aw_1400 : (Cond.instanceMethod ({ cls := "KilnKeeperModel", name := "undo", desc := "()I" } : MethodName)) ∈ AW := AW_m6 147 rfl rfl
theorem aw_1401 : (Cond.selects "KilnKeeperModel" ({ cls := "KilnKeeperModel", name := "undo", desc := "()I" } : MethodName) ({ cls := "KilnKeeperModel", name := "undo", desc := "()I" } : MethodName)) ∈ AW := AW_m6 148 rfl rfl
theorem aw_1402 : (Cond.code ({ cls := "KilnKeeperModel", name := "undo", desc := "()I" } : MethodName) prog_15_method_73_code (2 : Nat) (Option.some FieldType.int)) ∈ AW := AW_m6 149 rfl rfl
theorem aw_1403 : (Cond.methodLink "KilnKeeperLaw" (151 : Nat) ({ cls := "KilnKeeperModel", name := "save", desc := "()I" } : MethodName)) ∈ AW := AW_m6 150 rfl rfl
theorem aw_1404 : (Cond.instanceMethod ({ cls := "KilnKeeperModel", name := "save", desc := "()I" } : MethodName)) ∈ AW := AW_m6 151 rfl rfl
theorem aw_1405 : (Cond.selects "KilnKeeperModel" ({ cls := "KilnKeeperModel", name := "save", desc := "()I" } : MethodName) ({ cls := "KilnKeeperModel", name := "save", desc := "()I" } : MethodName)) ∈ AW := AW_m6 152 rfl rfl
theorem aw_1406 : (Cond.code ({ cls := "KilnKeeperModel", name := "save", desc := "()I" } : MethodName) prog_15_method_74_code (2 : Nat) (Option.some FieldType.int)) ∈ AW := AW_m6 153 rfl rfl
theorem aw_1407 : (Cond.methodLink "KilnKeeperLaw" (155 : Nat) ({ cls := "KilnKeeperModel", name := "restore", desc := "()I" } : MethodName)) ∈ AW := AW_m6 154 rfl rfl
theorem aw_1408 : (Cond.instanceMethod ({ cls := "KilnKeeperModel", name := "restore", desc := "()I" } : MethodName)) ∈ AW := AW_m6 155 rfl rfl
theorem aw_1409 : (Cond.selects "KilnKeeperModel" ({ cls := "KilnKeeperModel", name := "restore", desc := "()I" } : MethodName) ({ cls := "KilnKeeperModel", name := "restore", desc := "()I" } : MethodName)) ∈ AW := AW_m6 156 rfl rfl
theorem aw_1410 : (Cond.code ({ cls := "KilnKeeperModel", name := "restore", desc := "()I" } : MethodName) prog_15_method_75_code (2 : Nat) (Option.some FieldType.int)) ∈ AW := AW_m6 157 rfl rfl
theorem aw_1411 : (Cond.sameMethod "java/lang/AbstractStringBuilder" "java/lang/AbstractStringBuilder" "length" "()I") ∈ AW := AW_m6 158 rfl rfl
theorem aw_1412 : (Cond.sameMethod "java/lang/AbstractStringBuilder" "java/lang/AbstractStringBuilder" "append" "(C)Ljava/lang/AbstractStringBuilder;") ∈ AW := AW_m6 159 rfl rfl
theorem aw_1413 : (Cond.sameMethod "java/lang/AbstractStringBuilder" "java/lang/AbstractStringBuilder" "ensureCapacityInternal" "(I)V") ∈ AW := AW_m6 160 rfl rfl
theorem aw_1414 : (Cond.sameMethod "java/lang/AbstractStringBuilder" "java/lang/AbstractStringBuilder" "newCapacity" "(I)I") ∈ AW := AW_m6 161 rfl rfl
theorem aw_1415 : (Cond.sameMethod "java/lang/AbstractStringBuilder" "java/lang/AbstractStringBuilder" "inflate" "()V") ∈ AW := AW_m6 162 rfl rfl
theorem aw_1416 : (Cond.sameMethod "java/lang/AbstractStringBuilder" "java/lang/AbstractStringBuilder" "charAt" "(I)C") ∈ AW := AW_m6 163 rfl rfl
theorem aw_1417 : (Cond.sameMethod "java/lang/AbstractStringBuilder" "java/lang/AbstractStringBuilder" "setLength" "(I)V") ∈ AW := AW_m6 164 rfl rfl
theorem aw_1418 : (Cond.sameMethod "java/lang/AbstractStringBuilder" "java/lang/AbstractStringBuilder" "append" "(I)Ljava/lang/AbstractStringBuilder;") ∈ AW := AW_m6 165 rfl rfl
theorem aw_1419 : (Cond.fieldLink "KilnKeeper$Reader" (78 : Nat) "KilnKeeper$Word" "form" "Ljava/lang/String;") ∈ AW := AW_m6 166 rfl rfl
theorem aw_1420 : (Cond.fieldLink "java/lang/String" (9 : Nat) "java/lang/String" "value" "[B") ∈ AW := AW_m6 167 rfl rfl
theorem aw_1421 : (Cond.fieldLink "java/lang/String" (15 : Nat) "java/lang/String" "coder" "B") ∈ AW := AW_m6 168 rfl rfl
theorem aw_1422 : (Cond.fieldLink "java/lang/Enum" (7 : Nat) "java/lang/Enum" "ordinal" "I") ∈ AW := AW_m6 169 rfl rfl
theorem at_1423 : (Cond.stringRef "KilnKeeper$Word" (82 : Nat) "go 3") ∈ lw_tbl := List.mem_append_right _ (List.mem_append_right _ (List.mem_append_right _ (List.mem_append_right _ (List.mem_append_right _ (List.mem_append_right _ (List.mem_of_getElem? (l := tables_1_6) (i := 170) rfl))))))
theorem at_1424 : (Cond.laysStatic "KilnKeeper$Word" "AIM" "LKilnKeeper$Word;") ∈ lw_tbl := List.mem_append_right _ (List.mem_append_right _ (List.mem_append_right _ (List.mem_append_right _ (List.mem_append_right _ (List.mem_append_right _ (List.mem_of_getElem? (l := tables_1_6) (i := 171) rfl))))))
theorem at_1425 : (Cond.laysStatic "KilnKeeper$Word" "GAIN" "LKilnKeeper$Word;") ∈ lw_tbl := List.mem_append_right _ (List.mem_append_right _ (List.mem_append_right _ (List.mem_append_right _ (List.mem_append_right _ (List.mem_append_right _ (List.mem_of_getElem? (l := tables_1_6) (i := 172) rfl))))))
theorem at_1426 : (Cond.laysStatic "KilnKeeper$Word" "CAP" "LKilnKeeper$Word;") ∈ lw_tbl := List.mem_append_right _ (List.mem_append_right _ (List.mem_append_right _ (List.mem_append_right _ (List.mem_append_right _ (List.mem_append_right _ (List.mem_of_getElem? (l := tables_1_6) (i := 173) rfl))))))
theorem at_1427 : (Cond.laysStatic "KilnKeeper$Word" "LAG" "LKilnKeeper$Word;") ∈ lw_tbl := List.mem_append_right _ (List.mem_append_right _ (List.mem_append_right _ (List.mem_append_right _ (List.mem_append_right _ (List.mem_append_right _ (List.mem_of_getElem? (l := tables_1_6) (i := 174) rfl))))))
theorem at_1428 : (Cond.laysStatic "KilnKeeper$Word" "POT" "LKilnKeeper$Word;") ∈ lw_tbl := List.mem_append_right _ (List.mem_append_right _ (List.mem_append_right _ (List.mem_append_right _ (List.mem_append_right _ (List.mem_append_right _ (List.mem_of_getElem? (l := tables_1_6) (i := 175) rfl))))))
theorem at_1429 : (Cond.laysStatic "KilnKeeper$Word" "PUT" "LKilnKeeper$Word;") ∈ lw_tbl := List.mem_append_right _ (List.mem_append_right _ (List.mem_append_right _ (List.mem_append_right _ (List.mem_append_right _ (List.mem_append_right _ (List.mem_of_getElem? (l := tables_1_6) (i := 176) rfl))))))
theorem at_1430 : (Cond.laysStatic "KilnKeeper$Word" "TAKE" "LKilnKeeper$Word;") ∈ lw_tbl := List.mem_append_right _ (List.mem_append_right _ (List.mem_append_right _ (List.mem_append_right _ (List.mem_append_right _ (List.mem_append_right _ (List.mem_of_getElem? (l := tables_1_6) (i := 177) rfl))))))
theorem at_1431 : (Cond.laysStatic "KilnKeeper$Word" "FUEL" "LKilnKeeper$Word;") ∈ lw_tbl := List.mem_append_right _ (List.mem_append_right _ (List.mem_append_right _ (List.mem_append_right _ (List.mem_append_right _ (List.mem_append_right _ (List.mem_of_getElem? (l := tables_1_6) (i := 178) rfl))))))
theorem at_1432 : (Cond.stringRef "KilnKeeper$Word" (55 : Nat) "aim 4") ∈ lw_tbl := List.mem_append_right _ (List.mem_append_right _ (List.mem_append_right _ (List.mem_append_right _ (List.mem_append_right _ (List.mem_append_right _ (List.mem_of_getElem? (l := tables_1_6) (i := 179) rfl))))))
theorem at_1433 : (Cond.stringRef "KilnKeeper$Word" (61 : Nat) "gain 2 2 2") ∈ lw_tbl := List.mem_append_right _ (List.mem_append_right _ (List.mem_append_right _ (List.mem_append_right _ (List.mem_append_right _ (List.mem_append_right _ (List.mem_of_getElem? (l := tables_1_6) (i := 180) rfl))))))
theorem at_1434 : (Cond.stringRef "KilnKeeper$Word" (64 : Nat) "cap 4") ∈ lw_tbl := List.mem_append_right _ (List.mem_append_right _ (List.mem_append_right _ (List.mem_append_right _ (List.mem_append_right _ (List.mem_append_right _ (List.mem_of_getElem? (l := tables_1_6) (i := 181) rfl))))))
theorem at_1435 : (Cond.stringRef "KilnKeeper$Word" (67 : Nat) "lag 1") ∈ lw_tbl := List.mem_append_right _ (List.mem_append_right _ (List.mem_append_right _ (List.mem_append_right _ (List.mem_append_right _ (List.mem_append_right _ (List.mem_of_getElem? (l := tables_1_6) (i := 182) rfl))))))
theorem at_1436 : (Cond.stringRef "KilnKeeper$Word" (70 : Nat) "pot 2 4 2") ∈ lw_tbl := List.mem_append_right _ (List.mem_append_right _ (List.mem_append_right _ (List.mem_append_right _ (List.mem_append_right _ (List.mem_append_right _ (List.mem_of_getElem? (l := tables_1_6) (i := 183) rfl))))))
theorem at_1437 : (Cond.stringRef "KilnKeeper$Word" (73 : Nat) "put 1") ∈ lw_tbl := List.mem_append_right _ (List.mem_append_right _ (List.mem_append_right _ (List.mem_append_right _ (List.mem_append_right _ (List.mem_append_right _ (List.mem_of_getElem? (l := tables_1_6) (i := 184) rfl))))))
theorem at_1438 : (Cond.stringRef "KilnKeeper$Word" (76 : Nat) "take 1") ∈ lw_tbl := List.mem_append_right _ (List.mem_append_right _ (List.mem_append_right _ (List.mem_append_right _ (List.mem_append_right _ (List.mem_append_right _ (List.mem_of_getElem? (l := tables_1_6) (i := 185) rfl))))))
theorem at_1439 : (Cond.stringRef "KilnKeeper$Word" (79 : Nat) "fuel 4") ∈ lw_tbl := List.mem_append_right _ (List.mem_append_right _ (List.mem_append_right _ (List.mem_append_right _ (List.mem_append_right _ (List.mem_append_right _ (List.mem_of_getElem? (l := tables_1_6) (i := 186) rfl))))))
