/-! THE LAYER: the heap as a map from addresses to cells (Mem); a walk's goal WM speaks of that map alone. -/
abbrev Mem : Type := Nat → Option va_E
def mup (M : Mem) (a : Nat) (e : va_E) : Mem := fun b => if b = a then some e else M b
theorem mup_s {M : Mem} {a : Nat} {e : va_E} : mup M a e a = some e := by simp [mup]
theorem mup_n {M : Mem} {a b : Nat} {e : va_E} (h : b ≠ a) : mup M a e b = M b := by simp [mup, h]
/-- the constants' addresses: D, the array classes, the words of the enum, the Strings, their bytes, the static arrays -/
abbrev GT : Type := va_G × (Nat → ClassId) × (Nat → Nat) × (Nat → Nat) × (Nat → Nat) × (Nat → Nat)
abbrev gc (G : GT) : Nat → ClassId := G.2.1
abbrev tys (G : GT) : List (ClassId × FieldType) := [(gc G 0, .int), (gc G 1, .byte), (gc G 2, .object "KilnKeeper$Pot"), (gc G 3, .object "KilnKeeper$Kiln"), (gc G 4, .object "KilnKeeper$Order"), (gc G 5, .long)]
abbrev gad (G : GT) : Nat → Nat := G.2.2.1
abbrev gK (G : GT) : Nat → Nat := G.2.2.2.1
abbrev gV (G : GT) : Nat → Nat := G.2.2.2.2.1
abbrev gst (G : GT) : Nat → Nat := G.2.2.2.2.2
def isNest : Cond → Bool
  | .methodLinkNest .. => true
  | .fieldLinkNest .. => true
  | _ => false
def NW : List Cond := lw_tbl.filter isNest
/-- what StringBuilder's two private helpers select -/
def yEns : MethodName := { cls := "java/lang/AbstractStringBuilder", name := "ensureCapacityInternal", desc := "(I)V" }
def yNcp : MethodName := { cls := "java/lang/AbstractStringBuilder", name := "newCapacity", desc := "(I)I" }
def yPsa : MethodName := { cls := "java/lang/AbstractStringBuilder", name := "putStringAt", desc := "(ILjava/lang/String;)V" }
def yIin : MethodName := { cls := "java/lang/AbstractStringBuilder", name := "inflateIfNeededFor", desc := "(Ljava/lang/String;)V" }
def XW : List Cond := [Cond.selects "java/lang/StringBuilder" yEns yEns, Cond.selects "java/lang/StringBuilder" yNcp yNcp, Cond.arrayOver (.object "KilnKeeper$Pot"), Cond.arrayOver (.object "KilnKeeper$Kiln"), Cond.arrayOver (.object "KilnKeeper$Order"), Cond.selects "java/lang/StringBuilder" yPsa yPsa, Cond.selects "java/lang/StringBuilder" yIin yIin, Cond.castable "[B" "java/lang/Cloneable"]
def wnames : List String := ["AIM", "GAIN", "CAP", "LAG", "POT", "PUT", "TAKE", "FUEL", "GO"]
abbrev wflds : List (String × String × String × List Int32) := [("java/lang/Enum", "ordinal", "I", [0, 1, 2, 3, 4, 5, 6, 7, 8])]
def sofs : List (String × Nat × String) := [("", 0, "aim"), ("", 0, " "), ("", 0, "gain"), ("", 0, "cap"), ("", 0, "lag"), ("", 0, "pot"), ("", 0, "put"), ("", 0, "take"), ("", 0, "fuel"), ("", 0, "go"), ("KilnKeeper$Word", 55, "aim 4"), ("KilnKeeper$Word", 61, "gain 2 2 2"), ("KilnKeeper$Word", 64, "cap 4"), ("KilnKeeper$Word", 67, "lag 1"), ("KilnKeeper$Word", 70, "pot 2 4 2"), ("KilnKeeper$Word", 73, "put 1"), ("KilnKeeper$Word", 76, "take 1"), ("KilnKeeper$Word", 79, "fuel 4"), ("KilnKeeper$Word", 82, "go 3"), ("KilnKeeperLaw", 93, "fuel "), ("KilnKeeperLaw", 101, ";pot "), ("KilnKeeperLaw", 103, " "), ("KilnKeeperLaw", 105, ";put "), ("KilnKeeperLaw", 111, ";lag "), ("KilnKeeperLaw", 113, ";")]
def sbyt : List (List Int32) := [[97, 105, 109], [32], [103, 97, 105, 110], [99, 97, 112], [108, 97, 103], [112, 111, 116], [112, 117, 116], [116, 97, 107, 101], [102, 117, 101, 108], [103, 111], [97, 105, 109, 32, 52], [103, 97, 105, 110, 32, 50, 32, 50, 32, 50], [99, 97, 112, 32, 52], [108, 97, 103, 32, 49], [112, 111, 116, 32, 50, 32, 52, 32, 50], [112, 117, 116, 32, 49], [116, 97, 107, 101, 32, 49], [102, 117, 101, 108, 32, 52], [103, 111, 32, 51], [102, 117, 101, 108, 32], [59, 112, 111, 116, 32], [32], [59, 112, 117, 116, 32], [59, 108, 97, 103, 32], [59]]
def slen : List Nat := [3, 1, 4, 3, 3, 3, 3, 4, 4, 2, 5, 10, 5, 5, 9, 5, 6, 6, 4, 5, 5, 1, 5, 5, 1]
def swm : List Int32 := [1, 2, 3, 4, 5, 6, 7, 8, 0]
/-- what never changes: statics, enum constants, Strings, links of nest mates -/
def EV (G : GT) (A : Nat → Prop) (U : State) (H : Heap) : Prop :=
  va_Z "java/lang/String" "COMPACT_STRINGS" "Z" (.int 1) A U H ∧
  (va_Z "java/lang/Integer" "DigitOnes" "[B" (.ref (gst G 0)) A U H ∧ va_T .byte (gst G 0) 100 (fun j => .int (nI (48 + j % 10))) A U H) ∧
  (va_Z "java/lang/Integer" "DigitTens" "[B" (.ref (gst G 1)) A U H ∧ va_T .byte (gst G 1) 100 (fun j => .int (nI (48 + j / 10))) A U H) ∧
  (va_Z "KilnKeeper$1" "$SwitchMap$KilnKeeper$Word" "[I" (.ref (gst G 2)) A U H ∧ va_T .int (gst G 2) 9 (fun j => .int (swm.getD j 0)) A U H) ∧
  (va_Z "KilnKeeper" "WORDS" "[LKilnKeeper$Word;" (.ref (gst G 3)) A U H ∧ va_T (.object "KilnKeeper$Word") (gst G 3) 9 (fun j => .ref (gad G j)) A U H) ∧
  va_En "KilnKeeper$Word" "LKilnKeeper$Word;" wnames wflds (gad G) A U H ∧
  va_Ef 9 "KilnKeeper$Word" "form" "Ljava/lang/String;" (fun i => .ref (gK G (10 + i))) (gad G) A U H ∧
  vk_S 15 (slen.drop 10) (sbyt.drop 10) (fun i => gK G (i + 10)) (fun i => gV G (i + 10)) A U H ∧
  (∀ i, 19 ≤ i ∧ i < 25 → vk_R (sofs.getD i ("", 0, "")).1 (sofs.getD i ("", 0, "")).2.1 (sofs.getD i ("", 0, "")).2.2 (gK G i) U) ∧
  va_Zq "jdk/internal/util/Preconditions" "SIOOBE_FORMATTER" "Ljava/util/function/BiFunction;" A U H ∧
  (∀ w ∈ NW, va_Nw w U) ∧ (∀ w ∈ XW, va_Nw w U) ∧ va_T .int (gst G 4) (gst G 5) (fun j => .int (nI (gst G (6 + j)))) A U H
theorem NW_warm {w : Cond} {s U : State} (hw : w ∈ NW) (hW : s.WarmedH U.vm) (h : va_Nw w s) : va_Nw w U := by
  have h1 := (List.mem_filter.mp hw).2
  cases w <;> first | exact va_Nw.warmM hW h | exact va_Nw.warmF hW h | cases h1
theorem XW_warm {w : Cond} {s U : State} (hw : w ∈ XW) (hW : s.WarmedH U.vm) (h : va_Nw w s) : va_Nw w U := by
  have hg : (∃ C, w = Cond.arrayOver (.object C)) ∨ (w.onTables && w.keeps) = true ∨ w = Cond.castable "[B" "java/lang/Cloneable" := by
    rcases List.mem_cons.mp hw with rfl | h2
    · exact Or.inr (Or.inl rfl)
    · rcases List.mem_cons.mp h2 with rfl | h3
      · exact Or.inr (Or.inl rfl)
      · rcases List.mem_cons.mp h3 with rfl | h4
        · exact Or.inl ⟨_, rfl⟩
        · rcases List.mem_cons.mp h4 with rfl | h5
          · exact Or.inl ⟨_, rfl⟩
          · rcases List.mem_cons.mp h5 with rfl | h6
            · exact Or.inl ⟨_, rfl⟩
            · rcases List.mem_cons.mp h6 with rfl | h7
              · exact Or.inr (Or.inl rfl)
              · rcases List.mem_cons.mp h7 with rfl | h8
                · exact Or.inr (Or.inl rfl)
                · rcases List.mem_cons.mp h8 with rfl | h9
                  · exact Or.inr (Or.inr rfl)
                  · cases h9
  rcases hg with ⟨C, rfl⟩ | hg | rfl
  · exact va_AO.moved hW.alike h
  · exact word_at hW (Or.inl hg) h
  · exact va_Nw.warmC hW h
theorem EV.to {G : GT} {A B : Nat → Prop} {u U : State} {H H1 : Heap} (h : EV G A u H) (hW : u.WarmedH U.vm) (hq : ∀ a : Nat, a < H.size → ¬ A a → H1[a]? = H[a]?) (hAB : ∀ q, B q → A q) : EV G B U H1 := by
  obtain ⟨h0, ⟨h1, h1'⟩, ⟨h2, h2'⟩, ⟨h3, h3'⟩, ⟨h4, h4'⟩, h5, h6, h7, h8, h9, h10, h11, h12⟩ := h
  have v := hW.alike
  exact ⟨((va_Z.moved v h0).kept hq).narrow hAB, ⟨((va_Z.moved v h1).kept hq).narrow hAB, ((va_T.moved v h1').kept hq).narrow hAB⟩, ⟨((va_Z.moved v h2).kept hq).narrow hAB, ((va_T.moved v h2').kept hq).narrow hAB⟩, ⟨((va_Z.moved v h3).kept hq).narrow hAB, ((va_T.moved v h3').kept hq).narrow hAB⟩, ⟨((va_Z.moved v h4).kept hq).narrow hAB, ((va_T.moved v h4').kept hq).narrow hAB⟩, ((va_En.moved v h5).kept hq).narrow hAB, ((va_Ef.moved v h6).kept hq).narrow hAB, ((vk_S.moved v h7).kept hq).narrow hAB, fun i hi => vk_R.warm hW (h8 i hi), ((va_Zq.moved v h9).kept hq).narrow hAB, fun w hw => NW_warm hw hW (h10 w hw), fun w hw => XW_warm hw hW (h11 w hw), ((va_T.moved v h12).kept hq).narrow hAB⟩
/-- the heap holds the map -/
def HM (G : GT) (M : Mem) (H : Heap) : Prop := ∀ (a : Nat) (e : va_E), M a = some e → va_at G.1 vwCl (a, e) H
theorem HM.lt {G : GT} {M : Mem} {H : Heap} (h : HM G M H) {a : Nat} (ha : M a ≠ none) : a < H.size := by
  cases hm : M a with
  | none => exact absurd hm ha
  | some e => exact (h a e hm).lt
theorem HM.none {G : GT} {M : Mem} {H : Heap} (h : HM G M H) : M H.size = none := by
  cases hm : M H.size with
  | none => rfl
  | some e => exact absurd (h.lt (a := H.size) (by rw [hm]; simp)) (Nat.lt_irrefl _)
theorem HM.up {G : GT} {M : Mem} {H H1 : Heap} {a : Nat} {e : va_E} (h : HM G M H) (he : va_at G.1 vwCl (a, e) H1) (oq : ∀ q : Nat, q < H.size → q ≠ a → H1[q]? = H[q]?) : HM G (mup M a e) H1 := by
  intro b e' hb
  by_cases hba : b = a
  · subst hba
    rw [mup_s] at hb
    cases hb
    exact he
  · rw [mup_n hba] at hb
    exact (h b e' hb).kept (oq b (h.lt (by rw [hb]; simp)) hba)
/-- which cells a method may change: those that the map knows, and new ones -/
def fr (M : Mem) (sz : Nat) : Nat → Prop := fun q => M q ≠ none ∨ sz ≤ q
/-- the locals, by their places: a value of one word each -/
def hasL (ls : Array Slot) (nL : Nat) (L : List (Option Value)) : Prop := ls.size = nL ∧ lv_wf ls ∧ ∀ (i : Nat) (v : Value), L[i]? = some (some v) → v.category = 1 ∧ ls[i]? = some (.val v)
theorem hasL_at {ls : Array Slot} {nL : Nat} {L : List (Option Value)} (h : hasL ls nL L) {i : Nat} {v : Value} (hi : L[i]? = some (some v)) : ls[i]? = some (.val v) := (h.2.2 i v hi).2
theorem hasL_store {ls : Array Slot} {nL : Nat} {L : List (Option Value)} {i : Nat} {v : Value} (h : hasL ls nL L) (hi : i < nL) (hc : v.category = 1) : ∃ ls', storeLocals ls i v = some ls' ∧ hasL ls' nL (L.set i (some v)) := by
  obtain ⟨ls', e, h0⟩ := lv_store1 (l := []) ⟨h.1, h.2.1, fun q hq => by cases hq⟩ hi hc
  refine ⟨ls', e, h0.1, h0.2.1, fun j w hj => ?_⟩
  by_cases hji : j = i
  · subst hji
    by_cases hl : j < L.length
    · rw [List.getElem?_set_self hl] at hj
      cases hj
      exact ⟨hc, h0.2.2 (j, v) List.mem_cons_self⟩
    · have hn : (L.set j (some v))[j]? = none := by simp; omega
      rw [hn] at hj
      cases hj
  · rw [List.getElem?_set_ne (Ne.symm hji)] at hj
    obtain ⟨c1, c2⟩ := h.2.2 j w hj
    refine ⟨c1, ?_⟩
    obtain ⟨ls2, e2, h2⟩ := lv_store1 (l := [(j, w)]) ⟨h.1, h.2.1, fun q hq => by rw [List.mem_singleton.mp hq]; exact c2⟩ hi hc
    cases e.symm.trans e2
    refine h2.2.2 (j, w) (List.mem_cons_of_mem _ (List.mem_filter.mpr ⟨List.mem_singleton.mpr rfl, ?_⟩))
    simp [hji, c1]
theorem hasL_weak {ls : Array Slot} {nL : Nat} {L L' : List (Option Value)} (h : hasL ls nL L) (hl : ∀ (i : Nat) (v : Value), L'[i]? = some (some v) → L[i]? = some (some v)) : hasL ls nL L' := ⟨h.1, h.2.1, fun i v hi => h.2.2 i v (hl i v hi)⟩
def ones (ag : List Value) : Bool := ag.all (fun v => v.category == 1)
def argL (ag : List Value) (n : Nat) : List (Option Value) := ag.map some ++ List.replicate (n - ag.length) none
theorem lv_args_mem : ∀ (ag : List Value) (k : Nat), ones ag = true → ∀ (i : Nat) (v : Value), ag[i]? = some v → (k + i, v) ∈ lv_args k ag ∧ v.category = 1
  | [], _, _, i, v, h => by simp at h
  | w :: ag, k, ho, i, v, h => by
    simp only [ones, List.all_cons, Bool.and_eq_true, beq_iff_eq] at ho
    cases i with
    | zero =>
      simp at h
      subst h
      exact ⟨by simp [lv_args], ho.1⟩
    | succ i =>
      simp at h
      obtain ⟨h1, h2⟩ := lv_args_mem ag (k + 1) ho.2 i v h
      refine ⟨?_, h2⟩
      rw [lv_args, if_neg (by omega)]
      exact List.mem_cons_of_mem _ (by rw [show k + (i + 1) = k + 1 + i by omega]; exact h1)
theorem hasL_entry {ls : Array Slot} {n : Nat} {ag : List Value} (h : lv_has ls n (lv_args 0 ag)) (ho : ones ag = true) : hasL ls n (argL ag n) := by
  refine ⟨h.1, h.2.1, fun i v hi => ?_⟩
  have h1 : ag[i]? = some v := by
    unfold argL at hi
    by_cases hl : i < ag.length
    · rw [List.getElem?_append_left (by simpa using hl)] at hi
      simpa using hi
    · rw [List.getElem?_append_right (by simpa using Nat.le_of_not_lt hl), List.getElem?_replicate] at hi
      split at hi <;> cases hi
  obtain ⟨g1, g2⟩ := lv_args_mem ag 0 ho i v h1
  refine ⟨g2, ?_⟩
  have := h.2.2 _ g1
  simpa using this
/-- a walk's surroundings in one -/
abbrev XT : Type := Program × Launch × Env × Room × State × MethodId × Array Value × List Frame × Method × Code
abbrev xP (X : XT) : Program := X.1
abbrev xL (X : XT) : Launch := X.2.1
abbrev xE (X : XT) : Env := X.2.2.1
abbrev xR (X : XT) : Room := X.2.2.2.1
abbrev xS (X : XT) : State := X.2.2.2.2.1
abbrev xM (X : XT) : MethodId := X.2.2.2.2.2.1
abbrev xA (X : XT) : Array Value := X.2.2.2.2.2.2.1
abbrev xB (X : XT) : List Frame := X.2.2.2.2.2.2.2.1
abbrev xT (X : XT) : Method := X.2.2.2.2.2.2.2.2.1
abbrev xC (X : XT) : Code := X.2.2.2.2.2.2.2.2.2
abbrev WX (X : XT) (H : Heap) (locs : List Loc) (k n : Nat) (Q : State → Prop) (g : JFrame) : Prop := W (xP X) (xL X) (xE X) (xR X) (xS X) (xM X) (xA X) (xB X) (xT X) (xC X) H locs k n Q g
def WM (X : XT) (G : GT) (A : Nat → Prop) (M : Mem) (k n : Nat) (Q : State → Prop) (pc : Nat) (L : List (Option Value)) (st : List Value) : Prop :=
  ∀ (H : Heap) (locs : List Loc) (ls : Array Slot), va_S A (xS X).heap H locs → HM G M H → (∀ q, M q ≠ none → A q) → hasL ls (xC X).maxLocals L → WX X H locs k n Q (F0 (xM X) pc ls st)
/-- what stands beside a walk -/
def CX (X : XT) (G : GT) (A : Nat → Prop) (own : String) (cc : ByteArray) (nL : Nat) (ret : Option FieldType) (rm : Room) : Prop :=
  (xP X).tables.exec = Jvm.exec ∧ (xC X).code = cc ∧ (xC X).maxLocals = nL ∧ (xS X).vm.findClass own = some (xM X).cls ∧ (∀ w ∈ AW, w.before (xA X) (xS X) = true) ∧ va_K G.1 vwCl (tys G) (xS X) ∧ EV G A (xS X) (xS X).heap ∧ (∀ q, (xS X).heap.size ≤ q → A q) ∧ (xT X).sig.returnType = ret ∧ (xT X).locks = false ∧ xR X = rm
section CXP
variable {X : XT} {G : GT} {A : Nat → Prop} {own : String} {cc : ByteArray} {nL : Nat} {ret : Option FieldType} {rm : Room}
theorem CX.ex (C : CX X G A own cc nL ret rm) : (xP X).tables.exec = Jvm.exec := C.1
theorem CX.cd (C : CX X G A own cc nL ret rm) : (xC X).code = cc := C.2.1
theorem CX.ml (C : CX X G A own cc nL ret rm) : (xC X).maxLocals = nL := C.2.2.1
theorem CX.ow (C : CX X G A own cc nL ret rm) : (xS X).vm.findClass own = some (xM X).cls := C.2.2.2.1
theorem CX.ts (C : CX X G A own cc nL ret rm) : ∀ w ∈ AW, w.before (xA X) (xS X) = true := C.2.2.2.2.1
theorem CX.K (C : CX X G A own cc nL ret rm) : va_K G.1 vwCl (tys G) (xS X) := C.2.2.2.2.2.1
theorem CX.ev (C : CX X G A own cc nL ret rm) : EV G A (xS X) (xS X).heap := C.2.2.2.2.2.2.1
theorem CX.hA (C : CX X G A own cc nL ret rm) : ∀ q, (xS X).heap.size ≤ q → A q := C.2.2.2.2.2.2.2.1
theorem CX.rt (C : CX X G A own cc nL ret rm) : (xT X).sig.returnType = ret := C.2.2.2.2.2.2.2.2.1
theorem CX.lk (C : CX X G A own cc nL ret rm) : (xT X).locks = false := C.2.2.2.2.2.2.2.2.2.1
theorem CX.ro (C : CX X G A own cc nL ret rm) : xR X = rm := C.2.2.2.2.2.2.2.2.2.2
end CXP
/-- a method's end -/
def QC (G : GT) (A : Nat → Prop) (Post : Option Value → Mem → Prop) : Array Value → State → Outcome → State → Prop := fun _ st oc t => (∃ (v : Option Value) (M' : Mem), oc = .returned v ∧ Post v M' ∧ HM G M' t.heap ∧ ∀ q, M' q ≠ none → A q) ∧ va_F A st t
def MEnd (X : XT) (G : GT) (A : Nat → Prop) (rm : Room) (Post : Option Value → Mem → Prop) : State → Prop := MQ (xB X) (QC G A Post) (xA X) (xS X) rm.cells rm.slots A
/-- A CONTRACT: called with ag over a heap that holds M, the method y returns; Post says of the answer and the map behind it -/
def Ct (l : Launch) (G : GT) (y : MethodName) (cc : ByteArray) (nL : Nat) (ret : Option FieldType) (rm : Room) (ag : List Value) (M : Mem) (Post : Option Value → Mem → Prop) : Prop :=
  ∀ sz : Nat, Met l y (Cond.code y cc nL ret :: AW) rm (va_Pc ag (fun U => U.heap.size = sz ∧ HM G M U.heap ∧ va_K G.1 vwCl (tys G) U ∧ EV G (fr M sz) U U.heap)) (QC G (fr M sz) Post) rm.cells rm.slots (fr M sz)
theorem Ct.of {l : Launch} {G : GT} {y : MethodName} {cc : ByteArray} {nL : Nat} {ret : Option FieldType} {rm : Room} {ag : List Value} {M : Mem} {Post : Option Value → Mem → Prop}
    (hy : plainName y.cls = true) (ho : ones ag = true) (hn : (lg_sl ag).length ≤ nL)
    (body : ∀ (X : XT) (A : Nat → Prop), CX X G A y.cls cc nL ret rm → xL X = l → (xT X).name = y.name → WM X G A M 0 0 (MEnd X G A rm Post) 0 (argL ag nL) []) : Ct l G y cc nL ret rm ag M Post := by
  intro sz
  refine Met.ofW (cc := cc) (maxL := nL) (ret := ret) hy rfl ?_
  intro p e s m args below meth c s₁ B hml hv
  obtain ⟨rfl, hsz, hM, hK, hE⟩ := hv
  have hts := atoms_spec (ws := Cond.code y cc nL ret :: AW) B.pre
  have hown : s.vm.findClass y.cls = some m.cls := findClass_of_methodNamed B.named
  have hnm : meth.name = y.name := (name_of_methodNamed B.named B.method).1
  have hl := lv_entry ag (n := nL) hn
  rw [lg_entry_eq]
  have hb := body (p, l, e, rm, s, m, ag.toArray, below, meth, c) (fr M sz) ⟨B.exec, B.bytes, hml, hown, fun w h => hts w (List.mem_cons_of_mem _ h), hK, hE, fun q h => Or.inr (by rw [← hsz]; exact h), B.returns, B.notSynchronized, rfl⟩ rfl hnm
  exact hb s.heap [] _ va_S.rf hM (fun q h => Or.inl h) (by rw [show xC (p, l, e, rm, s, m, ag.toArray, below, meth, c) = c from rfl, hml]; exact hasL_entry hl ho)
