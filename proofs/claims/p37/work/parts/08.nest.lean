/-! The links of nest mates. -/
theorem nw_50 : (Cond.methodLinkNest "KilnKeeper" (9 : Nat) ({ cls := "KilnKeeper$Kiln", name := "<init>", desc := "()V" } : MethodName) "KilnKeeper") ∈ NW := List.mem_filter.mpr ⟨at_50, rfl⟩
theorem nw_56 : (Cond.methodLinkNest "KilnKeeper$Kiln" (26 : Nat) ({ cls := "KilnKeeper$Regulator", name := "<init>", desc := "()V" } : MethodName) "KilnKeeper") ∈ NW := List.mem_filter.mpr ⟨at_56, rfl⟩
theorem nw_83 : (Cond.methodLinkNest "KilnKeeper$Kiln" (33 : Nat) ({ cls := "KilnKeeper$LagRow", name := "<init>", desc := "()V" } : MethodName) "KilnKeeper") ∈ NW := List.mem_filter.mpr ⟨at_83, rfl⟩
theorem nw_98 : (Cond.methodLinkNest "KilnKeeper$Kiln" (40 : Nat) ({ cls := "KilnKeeper$Book", name := "<init>", desc := "()V" } : MethodName) "KilnKeeper") ∈ NW := List.mem_filter.mpr ⟨at_98, rfl⟩
theorem nw_136 : (Cond.methodLinkNest "KilnKeeper$Rack" (21 : Nat) ({ cls := "KilnKeeper$Pot", name := "<init>", desc := "()V" } : MethodName) "KilnKeeper") ∈ NW := List.mem_filter.mpr ⟨at_136, rfl⟩
theorem nw_214 : (Cond.methodLinkNest "KilnKeeper$Changes" (24 : Nat) ({ cls := "KilnKeeper$Kiln", name := "<init>", desc := "()V" } : MethodName) "KilnKeeper") ∈ NW := List.mem_filter.mpr ⟨at_214, rfl⟩
theorem nw_228 : (Cond.methodLinkNest "KilnKeeper" (35 : Nat) ({ cls := "KilnKeeper$Refusal", name := "<init>", desc := "()V" } : MethodName) "KilnKeeper") ∈ NW := List.mem_filter.mpr ⟨at_228, rfl⟩
theorem nw_281 : (Cond.methodLinkNest "KilnKeeper$Reader" (24 : Nat) ({ cls := "KilnKeeper$Order", name := "<init>", desc := "()V" } : MethodName) "KilnKeeper") ∈ NW := List.mem_filter.mpr ⟨at_281, rfl⟩
theorem nw_400 : (Cond.methodLinkNest "KilnKeeper$LagRow" (19 : Nat) ({ cls := "KilnKeeper", name := "copyRow", desc := "([I[I)V" } : MethodName) "KilnKeeper") ∈ NW := List.mem_filter.mpr ⟨at_400, rfl⟩
theorem nw_407 : (Cond.methodLinkNest "KilnKeeper$Book" (31 : Nat) ({ cls := "KilnKeeper", name := "copyRow", desc := "([I[I)V" } : MethodName) "KilnKeeper") ∈ NW := List.mem_filter.mpr ⟨at_407, rfl⟩
theorem nw_420 : (Cond.methodLinkNest "KilnKeeper$Kiln" (65 : Nat) ({ cls := "KilnKeeper", name := "isFrom", desc := "(III)Z" } : MethodName) "KilnKeeper") ∈ NW := List.mem_filter.mpr ⟨at_420, rfl⟩
theorem nw_448 : (Cond.methodLinkNest "KilnKeeper$Regulator" (30 : Nat) ({ cls := "KilnKeeper", name := "isFrom", desc := "(III)Z" } : MethodName) "KilnKeeper") ∈ NW := List.mem_filter.mpr ⟨at_448, rfl⟩
theorem nw_458 : (Cond.methodLinkNest "KilnKeeper$Regulator" (40 : Nat) ({ cls := "KilnKeeper", name := "between", desc := "(III)I" } : MethodName) "KilnKeeper") ∈ NW := List.mem_filter.mpr ⟨at_458, rfl⟩
theorem nw_477 : (Cond.methodLinkNest "KilnKeeper$LagRow" (23 : Nat) ({ cls := "KilnKeeper", name := "numberAt", desc := "([II)I" } : MethodName) "KilnKeeper") ∈ NW := List.mem_filter.mpr ⟨at_477, rfl⟩
theorem nw_480 : (Cond.methodLinkNest "KilnKeeper$LagRow" (31 : Nat) ({ cls := "KilnKeeper", name := "setNumberAt", desc := "([III)V" } : MethodName) "KilnKeeper") ∈ NW := List.mem_filter.mpr ⟨at_480, rfl⟩
theorem nw_491 : (Cond.methodLinkNest "KilnKeeper$Book" (35 : Nat) ({ cls := "KilnKeeper", name := "isFrom", desc := "(III)Z" } : MethodName) "KilnKeeper") ∈ NW := List.mem_filter.mpr ⟨at_491, rfl⟩
theorem nw_500 : (Cond.methodLinkNest "KilnKeeper$Rack" (30 : Nat) ({ cls := "KilnKeeper", name := "isFrom", desc := "(III)Z" } : MethodName) "KilnKeeper") ∈ NW := List.mem_filter.mpr ⟨at_500, rfl⟩
theorem nw_765 : (Cond.methodLinkNest "KilnKeeper$Reader" (33 : Nat) ({ cls := "KilnKeeper", name := "isFrom", desc := "(III)Z" } : MethodName) "KilnKeeper") ∈ NW := List.mem_filter.mpr ⟨at_765, rfl⟩
theorem nw_795 : (Cond.fieldLinkNest "KilnKeeper$Reader" (57 : Nat) "KilnKeeper" "WORDS" "[LKilnKeeper$Word;" "KilnKeeper") ∈ NW := List.mem_filter.mpr ⟨at_795, rfl⟩
theorem nw_828 : (Cond.methodLinkNest "KilnKeeper$Reader" (101 : Nat) ({ cls := "KilnKeeper", name := "setNumberAt", desc := "([III)V" } : MethodName) "KilnKeeper") ∈ NW := List.mem_filter.mpr ⟨at_828, rfl⟩
theorem nw_902 : (Cond.methodLinkNest "KilnKeeper$Kiln" (100 : Nat) ({ cls := "KilnKeeper", name := "between", desc := "(III)I" } : MethodName) "KilnKeeper") ∈ NW := List.mem_filter.mpr ⟨at_902, rfl⟩
theorem nw_908 : (Cond.methodLinkNest "KilnKeeper$Book" (45 : Nat) ({ cls := "KilnKeeper", name := "numberAt", desc := "([II)I" } : MethodName) "KilnKeeper") ∈ NW := List.mem_filter.mpr ⟨at_908, rfl⟩
theorem nw_909 : (Cond.methodLinkNest "KilnKeeper$Book" (49 : Nat) ({ cls := "KilnKeeper", name := "setNumberAt", desc := "([III)V" } : MethodName) "KilnKeeper") ∈ NW := List.mem_filter.mpr ⟨at_909, rfl⟩
