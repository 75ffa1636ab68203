/-! THE ROWS of the layer: one an instruction -/
theorem mup_A {M : Mem} {A : Nat → Prop} {a : Nat} {e : va_E} (hA : ∀ q, M q ≠ none → A q) (ha : A a) : ∀ q, mup M a e q ≠ none → A q := by
  intro q hq
  by_cases h : q = a
  · rw [h]; exact ha
  · rw [mup_n h] at hq; exact hA q hq
theorem hP1 {D : va_G} {cl : List vw_C} {q : Nat × va_E} {H : Heap} (h : va_at D cl q H) : va_P D cl [q] H := fun _ _ hk => (List.mem_singleton.mp (List.mem_of_getElem? hk)) ▸ h
def roomOk (R r : Room) (nL k n : Nat) : Bool := Nat.ble (r.frames + 1) R.frames && (Nat.ble (8 + (nL + 11) + r.locals) R.locals && (Nat.ble (k + r.cells) R.cells && Nat.ble (n + r.slots) R.slots))
theorem roomOk_at {R r : Room} {nL k n : Nat} (h : roomOk R r nL k n = true) : r.frames + 1 ≤ R.frames ∧ 8 + (nL + 11) + r.locals ≤ R.locals ∧ k + r.cells ≤ R.cells ∧ n + r.slots ≤ R.slots := by
  simp only [roomOk, Bool.and_eq_true, Nat.ble_eq] at h
  exact h
def FLK (own : String) (idx ci f : Nat) : Prop := ∃ (C : String) (T : u_T) (N : Nat), vwCl[ci]? = some (C, T, N) ∧ f < N ∧ Cond.fieldLink own idx (T f).1 (T f).2.1 (T f).2.2.1 ∈ AW ∧ ∀ w ∈ u_ws C T N, w ∈ AW
def FLP (own : String) (idx ci f : Nat) (ty : FieldType) (b : Bool) : Prop := ∃ (C : String) (T : u_T) (N : Nat) (ty0 : Nat → FieldType), vwCl[ci]? = some (C, T, N) ∧ f < N ∧ Cond.fieldLink own idx (T f).1 (T f).2.1 (T f).2.2.1 ∈ AW ∧ (∀ w ∈ u_ws C T N, w ∈ AW) ∧ (∀ k, k < N → parseFieldDescriptor (T k).2.2.1 = some (ty0 k)) ∧ (∀ a, a < N → ∀ b, b < N → a ≠ b → (T a).2.1 ≠ (T b).2.1) ∧ parseFieldDescriptor (T f).2.2.1 = some ty ∧ (T f).2.2.2 = b ∧ (b = true → (T f).1 = own)
def MV (y : MethodName) (cc : ByteArray) (nL : Nat) (ret : Option FieldType) (na : Nat) : Prop := Cond.code y cc nL ret ∈ AW ∧ Cond.initialized y.cls ∈ AW ∧ (y.cls ≠ "java/lang/invoke/MethodHandle" ∧ y.cls ≠ "java/lang/invoke/VarHandle" ∧ (parseMethodDescriptor y.desc).map (fun d => d.parameters.length) = some na) ∧ Cond.instanceMethod y ∈ AW ∧ Cond.selects y.cls y y ∈ AW
def MS (y : MethodName) (cc : ByteArray) (nL : Nat) (ret : Option FieldType) (na : Nat) : Prop := Cond.code y cc nL ret ∈ AW ∧ Cond.initialized y.cls ∈ AW ∧ (y.cls ≠ "java/lang/invoke/MethodHandle" ∧ y.cls ≠ "java/lang/invoke/VarHandle" ∧ (parseMethodDescriptor y.desc).map (fun d => d.parameters.length) = some na) ∧ Cond.static y ∈ AW
def MI (y : MethodName) (cc : ByteArray) (nL : Nat) (na : Nat) : Prop := Cond.code y cc nL none ∈ AW ∧ Cond.initialized y.cls ∈ AW ∧ (y.cls ≠ "java/lang/invoke/MethodHandle" ∧ y.cls ≠ "java/lang/invoke/VarHandle" ∧ (parseMethodDescriptor y.desc).map (fun d => d.parameters.length) = some na) ∧ Cond.instanceMethod y ∈ AW ∧ y.name = "<init>"
section ROWS
variable {X : XT} {G : GT} {A : Nat → Prop} {own : String} {cc : ByteArray} {nL : Nat} {ret : Option FieldType} {rm : Room} {M : Mem} {k n : Nat} {Q : State → Prop} {pc : Nat} {L : List (Option Value)} {st : List Value}
theorem r_conv {L' : List (Option Value)} {st' : List Value} (hL : L = L') (hs : st = st') (kk : WM X G A M k n Q pc L' st') : WM X G A M k n Q pc L st := by subst hL; subst hs; exact kk
theorem r_weak {L' : List (Option Value)} (hL : ∀ (i : Nat) (v : Value), L'[i]? = some (some v) → L[i]? = some (some v)) (kk : WM X G A M k n Q pc L' st) : WM X G A M k n Q pc L st := fun H locs ls hS hM hA h => kk H locs ls hS hM hA (hasL_weak h hL)
theorem r_widen {k' n' : Nat} (h1 : k ≤ k') (h2 : n ≤ n') (kk : WM X G A M k' n' Q pc L st) : WM X G A M k n Q pc L st := fun H locs ls hS hM hA hL => W.widen h1 h2 (kk H locs ls hS hM hA hL)
theorem r_iconst (C : CX X G A own cc nL ret rm) {i : Int} {v : Int32} (hdg : decode cc pc = .ok (.iconst i, 1)) (hv : Int32.ofInt i = v) (kk : WM X G A M k n Q (pc + 1) L (.int v :: st)) : WM X G A M k n Q pc L st := fun H locs ls hS hM hA hL => lv_iconst C.ex C.cd hdg hv (kk H locs ls hS hM hA hL)
theorem r_bipush (C : CX X G A own cc nL ret rm) {i : Int} {v : Int32} (hdg : decode cc pc = .ok (.bipush i, 2)) (hv : (Int8.ofInt i).toInt32 = v) (kk : WM X G A M k n Q (pc + 2) L (.int v :: st)) : WM X G A M k n Q pc L st := fun H locs ls hS hM hA hL => lv_bipush C.ex C.cd hdg hv (kk H locs ls hS hM hA hL)
theorem r_sipush (C : CX X G A own cc nL ret rm) {i : Int} {v : Int32} (hdg : decode cc pc = .ok (.sipush i, 3)) (hv : (Int16.ofInt i).toInt32 = v) (kk : WM X G A M k n Q (pc + 3) L (.int v :: st)) : WM X G A M k n Q pc L st := fun H locs ls hS hM hA hL => lv_sipush C.ex C.cd hdg hv (kk H locs ls hS hM hA hL)
theorem r_ldc (C : CX X G A own cc nL ret rm) {i : Nat} {v : Int32} (hw : Cond.constant own i v ∈ AW) (hdg : decode cc pc = .ok (.ldc i, 2)) (kk : WM X G A M k n Q (pc + 2) L (.int v :: st)) : WM X G A M k n Q pc L st := fun H locs ls hS hM hA hL => lv_ldc C.ex C.cd C.ow (C.ts _ hw) hdg (kk H locs ls hS hM hA hL)
theorem r_iload_n (C : CX X G A own cc nL ret rm) {i : Fin 4} {x : Int32} (hdg : decode cc pc = .ok (.iload_n i, 1)) (hl : L[(i : Nat)]? = some (some (.int x))) (kk : WM X G A M k n Q (pc + 1) L (.int x :: st)) : WM X G A M k n Q pc L st := fun H locs ls hS hM hA hL => lv_iload_n C.ex C.cd hdg rfl (hasL_at hL hl) (kk H locs ls hS hM hA hL)
theorem r_iload (C : CX X G A own cc nL ret rm) {i : Nat} {x : Int32} (hdg : decode cc pc = .ok (.iload i, 2)) (hl : L[i]? = some (some (.int x))) (kk : WM X G A M k n Q (pc + 2) L (.int x :: st)) : WM X G A M k n Q pc L st := fun H locs ls hS hM hA hL => lv_iload C.ex C.cd hdg (hasL_at hL hl) (kk H locs ls hS hM hA hL)
theorem r_aload_n (C : CX X G A own cc nL ret rm) {i : Fin 4} {x : Nat} (hdg : decode cc pc = .ok (.aload_n i, 1)) (hl : L[(i : Nat)]? = some (some (.ref x))) (kk : WM X G A M k n Q (pc + 1) L (.ref x :: st)) : WM X G A M k n Q pc L st := fun H locs ls hS hM hA hL => lv_aload_n C.ex C.cd hdg rfl (hasL_at hL hl) (kk H locs ls hS hM hA hL)
theorem r_aload (C : CX X G A own cc nL ret rm) {i : Nat} {x : Nat} (hdg : decode cc pc = .ok (.aload i, 2)) (hl : L[i]? = some (some (.ref x))) (kk : WM X G A M k n Q (pc + 2) L (.ref x :: st)) : WM X G A M k n Q pc L st := fun H locs ls hS hM hA hL => lv_aload C.ex C.cd hdg (hasL_at hL hl) (kk H locs ls hS hM hA hL)
theorem r_aload_nN (C : CX X G A own cc nL ret rm) {i : Fin 4} (hdg : decode cc pc = .ok (.aload_n i, 1)) (hl : L[(i : Nat)]? = some (some .null)) (kk : WM X G A M k n Q (pc + 1) L (.null :: st)) : WM X G A M k n Q pc L st := fun H locs ls hS hM hA hL => lv_aload_nN C.ex C.cd hdg rfl (hasL_at hL hl) (kk H locs ls hS hM hA hL)
theorem r_aloadN (C : CX X G A own cc nL ret rm) {i : Nat} (hdg : decode cc pc = .ok (.aload i, 2)) (hl : L[i]? = some (some .null)) (kk : WM X G A M k n Q (pc + 2) L (.null :: st)) : WM X G A M k n Q pc L st := fun H locs ls hS hM hA hL => lv_aloadN C.ex C.cd hdg (hasL_at hL hl) (kk H locs ls hS hM hA hL)
theorem r_istore_n (C : CX X G A own cc nL ret rm) {i : Fin 4} {x : Int32} (hdg : decode cc pc = .ok (.istore_n i, 1)) (hn : (i : Nat) < nL) (kk : WM X G A M k n Q (pc + 1) (L.set (i : Nat) (some (.int x))) st) : WM X G A M k n Q pc L ((.int x) :: st) := by
  intro H locs ls hS hM hA hL
  have hexec := C.ex
  have hb := C.cd
  obtain ⟨ls', e', h'⟩ := hasL_store (v := (.int x)) hL (by rw [C.ml]; exact hn) rfl
  intro T hT Y
  obtain ⟨t, a, b⟩ := kk H locs ls' hS hM hA h' T hT Y
  refine ⟨t, ?_, b⟩
  jvm_step Y.here [Y.here.top, ↓top_set Y.here.top, hexec, hb, hdg, e']
  exact a
theorem r_istore (C : CX X G A own cc nL ret rm) {i : Nat} {x : Int32} (hdg : decode cc pc = .ok (.istore i, 2)) (hn : i < nL) (kk : WM X G A M k n Q (pc + 2) (L.set i (some (.int x))) st) : WM X G A M k n Q pc L ((.int x) :: st) := by
  intro H locs ls hS hM hA hL
  have hexec := C.ex
  have hb := C.cd
  obtain ⟨ls', e', h'⟩ := hasL_store (v := (.int x)) hL (by rw [C.ml]; exact hn) rfl
  intro T hT Y
  obtain ⟨t, a, b⟩ := kk H locs ls' hS hM hA h' T hT Y
  refine ⟨t, ?_, b⟩
  jvm_step Y.here [Y.here.top, ↓top_set Y.here.top, hexec, hb, hdg, e']
  exact a
theorem r_astore_n (C : CX X G A own cc nL ret rm) {i : Fin 4} {x : Nat} (hdg : decode cc pc = .ok (.astore_n i, 1)) (hn : (i : Nat) < nL) (kk : WM X G A M k n Q (pc + 1) (L.set (i : Nat) (some (.ref x))) st) : WM X G A M k n Q pc L ((.ref x) :: st) := by
  intro H locs ls hS hM hA hL
  have hexec := C.ex
  have hb := C.cd
  obtain ⟨ls', e', h'⟩ := hasL_store (v := (.ref x)) hL (by rw [C.ml]; exact hn) rfl
  intro T hT Y
  obtain ⟨t, a, b⟩ := kk H locs ls' hS hM hA h' T hT Y
  refine ⟨t, ?_, b⟩
  jvm_step Y.here [Y.here.top, ↓top_set Y.here.top, hexec, hb, hdg, e', Value.isRef]
  exact a
theorem r_astore (C : CX X G A own cc nL ret rm) {i : Nat} {x : Nat} (hdg : decode cc pc = .ok (.astore i, 2)) (hn : i < nL) (kk : WM X G A M k n Q (pc + 2) (L.set i (some (.ref x))) st) : WM X G A M k n Q pc L ((.ref x) :: st) := by
  intro H locs ls hS hM hA hL
  have hexec := C.ex
  have hb := C.cd
  obtain ⟨ls', e', h'⟩ := hasL_store (v := (.ref x)) hL (by rw [C.ml]; exact hn) rfl
  intro T hT Y
  obtain ⟨t, a, b⟩ := kk H locs ls' hS hM hA h' T hT Y
  refine ⟨t, ?_, b⟩
  jvm_step Y.here [Y.here.top, ↓top_set Y.here.top, hexec, hb, hdg, e', Value.isRef]
  exact a
theorem r_astore_nN (C : CX X G A own cc nL ret rm) {i : Fin 4} (hdg : decode cc pc = .ok (.astore_n i, 1)) (hn : (i : Nat) < nL) (kk : WM X G A M k n Q (pc + 1) (L.set (i : Nat) (some .null)) st) : WM X G A M k n Q pc L (.null :: st) := by
  intro H locs ls hS hM hA hL
  have hexec := C.ex
  have hb := C.cd
  obtain ⟨ls', e', h'⟩ := hasL_store (v := .null) hL (by rw [C.ml]; exact hn) rfl
  intro T hT Y
  obtain ⟨t, a, b⟩ := kk H locs ls' hS hM hA h' T hT Y
  refine ⟨t, ?_, b⟩
  jvm_step Y.here [Y.here.top, ↓top_set Y.here.top, hexec, hb, hdg, e', Value.isRef]
  exact a
theorem r_astoreN (C : CX X G A own cc nL ret rm) {i : Nat} (hdg : decode cc pc = .ok (.astore i, 2)) (hn : i < nL) (kk : WM X G A M k n Q (pc + 2) (L.set i (some .null)) st) : WM X G A M k n Q pc L (.null :: st) := by
  intro H locs ls hS hM hA hL
  have hexec := C.ex
  have hb := C.cd
  obtain ⟨ls', e', h'⟩ := hasL_store (v := .null) hL (by rw [C.ml]; exact hn) rfl
  intro T hT Y
  obtain ⟨t, a, b⟩ := kk H locs ls' hS hM hA h' T hT Y
  refine ⟨t, ?_, b⟩
  jvm_step Y.here [Y.here.top, ↓top_set Y.here.top, hexec, hb, hdg, e', Value.isRef]
  exact a
theorem r_iinc (C : CX X G A own cc nL ret rm) {i : Nat} {d : Int} {x v : Int32} (hdg : decode cc pc = .ok (.iinc i d, 3)) (hl : L[i]? = some (some (.int x))) (hv : x + Int32.ofInt d = v) (hn : i < nL) (kk : WM X G A M k n Q (pc + 3) (L.set i (some (.int v))) st) : WM X G A M k n Q pc L st := by
  intro H locs ls hS hM hA hL
  have hexec := C.ex
  have hb := C.cd
  subst hv
  have hg := hasL_at hL hl
  obtain ⟨ls', e', h'⟩ := hasL_store (v := .int (x + Int32.ofInt d)) hL (by rw [C.ml]; exact hn) rfl
  intro T hT Y
  obtain ⟨t, a, b⟩ := kk H locs ls' hS hM hA h' T hT Y
  refine ⟨t, ?_, b⟩
  jvm_step Y.here [Y.here.top, ↓top_set Y.here.top, hexec, hb, hdg, hg, e']
  exact a
theorem r_iadd (C : CX X G A own cc nL ret rm) {x y : Int32} (hdg : decode cc pc = .ok (.iadd, 1)) (kk : WM X G A M k n Q (pc + 1) L (.int (x + y) :: st)) : WM X G A M k n Q pc L (.int y :: .int x :: st) := fun H locs ls hS hM hA hL => lv_iadd C.ex C.cd hdg (kk H locs ls hS hM hA hL)
theorem r_isub (C : CX X G A own cc nL ret rm) {x y : Int32} (hdg : decode cc pc = .ok (.isub, 1)) (kk : WM X G A M k n Q (pc + 1) L (.int (x - y) :: st)) : WM X G A M k n Q pc L (.int y :: .int x :: st) := fun H locs ls hS hM hA hL => lv_isub C.ex C.cd hdg (kk H locs ls hS hM hA hL)
theorem r_imul (C : CX X G A own cc nL ret rm) {x y : Int32} (hdg : decode cc pc = .ok (.imul, 1)) (kk : WM X G A M k n Q (pc + 1) L (.int (x * y) :: st)) : WM X G A M k n Q pc L (.int y :: .int x :: st) := fun H locs ls hS hM hA hL => lv_imul C.ex C.cd hdg (kk H locs ls hS hM hA hL)
theorem r_iand (C : CX X G A own cc nL ret rm) {x y : Int32} (hdg : decode cc pc = .ok (.iand, 1)) (kk : WM X G A M k n Q (pc + 1) L (.int (x &&& y) :: st)) : WM X G A M k n Q pc L (.int y :: .int x :: st) := fun H locs ls hS hM hA hL => lv_iand C.ex C.cd hdg (kk H locs ls hS hM hA hL)
theorem r_ior (C : CX X G A own cc nL ret rm) {x y : Int32} (hdg : decode cc pc = .ok (.ior, 1)) (kk : WM X G A M k n Q (pc + 1) L (.int (x ||| y) :: st)) : WM X G A M k n Q pc L (.int y :: .int x :: st) := fun H locs ls hS hM hA hL => lv_ior C.ex C.cd hdg (kk H locs ls hS hM hA hL)
theorem r_ixor (C : CX X G A own cc nL ret rm) {x y : Int32} (hdg : decode cc pc = .ok (.ixor, 1)) (kk : WM X G A M k n Q (pc + 1) L (.int (x ^^^ y) :: st)) : WM X G A M k n Q pc L (.int y :: .int x :: st) := fun H locs ls hS hM hA hL => lv_ixor C.ex C.cd hdg (kk H locs ls hS hM hA hL)
theorem r_ishl (C : CX X G A own cc nL ret rm) {x y : Int32} (hdg : decode cc pc = .ok (.ishl, 1)) (kk : WM X G A M k n Q (pc + 1) L (.int (x <<< (y &&& 31)) :: st)) : WM X G A M k n Q pc L (.int y :: .int x :: st) := fun H locs ls hS hM hA hL => lv_ishl C.ex C.cd hdg (kk H locs ls hS hM hA hL)
theorem r_ishr (C : CX X G A own cc nL ret rm) {x y : Int32} (hdg : decode cc pc = .ok (.ishr, 1)) (kk : WM X G A M k n Q (pc + 1) L (.int (x >>> (y &&& 31)) :: st)) : WM X G A M k n Q pc L (.int y :: .int x :: st) := fun H locs ls hS hM hA hL => lv_ishr C.ex C.cd hdg (kk H locs ls hS hM hA hL)
theorem r_idiv (C : CX X G A own cc nL ret rm) {x y : Int32} (hdg : decode cc pc = .ok (.idiv, 1)) (hne : ¬ y = 0) (kk : WM X G A M k n Q (pc + 1) L (.int (x / y) :: st)) : WM X G A M k n Q pc L (.int y :: .int x :: st) := fun H locs ls hS hM hA hL => lv_idiv C.ex C.cd hdg hne (kk H locs ls hS hM hA hL)
theorem r_irem (C : CX X G A own cc nL ret rm) {x y : Int32} (hdg : decode cc pc = .ok (.irem, 1)) (hne : ¬ y = 0) (kk : WM X G A M k n Q (pc + 1) L (.int (x - x / y * y) :: st)) : WM X G A M k n Q pc L (.int y :: .int x :: st) := fun H locs ls hS hM hA hL => lv_irem C.ex C.cd hdg hne (kk H locs ls hS hM hA hL)
theorem r_ineg (C : CX X G A own cc nL ret rm) {x : Int32} (hdg : decode cc pc = .ok (.ineg, 1)) (kk : WM X G A M k n Q (pc + 1) L (.int (-x) :: st)) : WM X G A M k n Q pc L (.int x :: st) := fun H locs ls hS hM hA hL => lv_ineg C.ex C.cd hdg (kk H locs ls hS hM hA hL)
theorem r_i2b (C : CX X G A own cc nL ret rm) {x : Int32} (hdg : decode cc pc = .ok (.i2b, 1)) (kk : WM X G A M k n Q (pc + 1) L (.int (x.toInt8.toInt32) :: st)) : WM X G A M k n Q pc L (.int x :: st) := fun H locs ls hS hM hA hL => lv_i2b C.ex C.cd hdg rfl (kk H locs ls hS hM hA hL)
theorem r_i2c (C : CX X G A own cc nL ret rm) {x : Int32} (hdg : decode cc pc = .ok (.i2c, 1)) (kk : WM X G A M k n Q (pc + 1) L (.int ((x.toUInt32 % 65536).toInt32) :: st)) : WM X G A M k n Q pc L (.int x :: st) := fun H locs ls hS hM hA hL => lv_i2c C.ex C.cd hdg rfl (kk H locs ls hS hM hA hL)
theorem r_dup (C : CX X G A own cc nL ret rm) {v : Value} (hdg : decode cc pc = .ok (.dup, 1)) (hc : v.category = 1) (kk : WM X G A M k n Q (pc + 1) L (v :: v :: st)) : WM X G A M k n Q pc L (v :: st) := fun H locs ls hS hM hA hL => lv_dup C.ex C.cd hdg hc (kk H locs ls hS hM hA hL)
theorem r_pop (C : CX X G A own cc nL ret rm) {v : Value} (hdg : decode cc pc = .ok (.pop, 1)) (hc : v.category = 1) (kk : WM X G A M k n Q (pc + 1) L st) : WM X G A M k n Q pc L (v :: st) := fun H locs ls hS hM hA hL => lv_pop C.ex C.cd hdg hc (kk H locs ls hS hM hA hL)
theorem r_dup_x1 (C : CX X G A own cc nL ret rm) {v u : Value} (hdg : decode cc pc = .ok (.dup_x1, 1)) (hc : v.category = 1) (hd : u.category = 1) (kk : WM X G A M k n Q (pc + 1) L (v :: u :: v :: st)) : WM X G A M k n Q pc L (v :: u :: st) := fun H locs ls hS hM hA hL => lv_dup_x1 C.ex C.cd hdg hc hd (kk H locs ls hS hM hA hL)
theorem r_dup2 (C : CX X G A own cc nL ret rm) {v u : Value} (hdg : decode cc pc = .ok (.dup2, 1)) (hc : v.category = 1) (hd : u.category = 1) (kk : WM X G A M k n Q (pc + 1) L (v :: u :: v :: u :: st)) : WM X G A M k n Q pc L (v :: u :: st) := fun H locs ls hS hM hA hL => lv_dup2_11 C.ex C.cd hdg hc hd (kk H locs ls hS hM hA hL)
theorem r_goto (C : CX X G A own cc nL ret rm) {off : Int} {tgt : Nat} (hdg : decode cc pc = .ok (.goto off, 3)) (ht : (pc : Int) + off = (tgt : Int)) (kk : WM X G A M k n Q tgt L st) : WM X G A M k n Q pc L st := fun H locs ls hS hM hA hL => lv_goto C.ex C.cd hdg ht (kk H locs ls hS hM hA hL)
theorem r_null (C : CX X G A own cc nL ret rm) (hdg : decode cc pc = .ok (.aconst_null, 1)) (kk : WM X G A M k n Q (pc + 1) L (.null :: st)) : WM X G A M k n Q pc L st := fun H locs ls hS hM hA hL => lv_null C.ex C.cd hdg (kk H locs ls hS hM hA hL)
theorem r_ifnonnull (C : CX X G A own cc nL ret rm) {x : Nat} {off : Int} {tgt : Nat} (hdg : decode cc pc = .ok (.ifnonnull off, 3)) (ht : (pc : Int) + off = (tgt : Int)) (kk : WM X G A M k n Q tgt L st) : WM X G A M k n Q pc L (.ref x :: st) := fun H locs ls hS hM hA hL => lv_ifnonnull C.ex C.cd hdg ht (kk H locs ls hS hM hA hL)
theorem r_ifnull (C : CX X G A own cc nL ret rm) {x : Nat} {off : Int} (hdg : decode cc pc = .ok (.ifnull off, 3)) (kk : WM X G A M k n Q (pc + 3) L st) : WM X G A M k n Q pc L (.ref x :: st) := fun H locs ls hS hM hA hL => lv_ifnull C.ex C.cd hdg (kk H locs ls hS hM hA hL)
theorem r_ifnullN (C : CX X G A own cc nL ret rm) {off : Int} {tgt : Nat} (hdg : decode cc pc = .ok (.ifnull off, 3)) (ht : (pc : Int) + off = (tgt : Int)) (kk : WM X G A M k n Q tgt L st) : WM X G A M k n Q pc L (.null :: st) := fun H locs ls hS hM hA hL => lv_ifnullN C.ex C.cd hdg ht (kk H locs ls hS hM hA hL)
theorem r_ifnonnullN (C : CX X G A own cc nL ret rm) {off : Int} (hdg : decode cc pc = .ok (.ifnonnull off, 3)) (kk : WM X G A M k n Q (pc + 3) L st) : WM X G A M k n Q pc L (.null :: st) := fun H locs ls hS hM hA hL => lv_ifnonnullN C.ex C.cd hdg (kk H locs ls hS hM hA hL)
theorem r_tabIn (C : CX X G A own cc nL ret rm) {dflt lo hi : Int} {offs : Array Int} {len : Nat} {x : Int32} {off : Int} {tgt : Nat} (hdg : decode cc pc = .ok (.tableswitch dflt lo hi offs, len)) (h1 : ¬ x.toInt < lo) (h2 : ¬ hi < x.toInt) (ho : offs[(x.toInt - lo).toNat]? = some off) (ht : (pc : Int) + off = (tgt : Int)) (kk : WM X G A M k n Q tgt L st) : WM X G A M k n Q pc L (.int x :: st) := fun H locs ls hS hM hA hL => lv_tableIn C.ex C.cd hdg h1 h2 ho ht (kk H locs ls hS hM hA hL)
theorem r_tabOut (C : CX X G A own cc nL ret rm) {dflt lo hi : Int} {offs : Array Int} {len : Nat} {x : Int32} {tgt : Nat} (hdg : decode cc pc = .ok (.tableswitch dflt lo hi offs, len)) (h : x.toInt < lo ∨ hi < x.toInt) (ht : (pc : Int) + dflt = (tgt : Int)) (kk : WM X G A M k n Q tgt L st) : WM X G A M k n Q pc L (.int x :: st) := fun H locs ls hS hM hA hL => lv_tableOut C.ex C.cd hdg h ht (kk H locs ls hS hM hA hL)
theorem r_lookup (C : CX X G A own cc nL ret rm) {dflt : Int} {ps : Array (Int × Int)} {len : Nat} {x : Int32} {off : Int} {tgt : Nat} (hdg : decode cc pc = .ok (.lookupswitch dflt ps, len)) (hp : (ps.toList.zip (ps.toList.drop 1)).all (fun (a, next) => a.1 < next.1) = true) (ho : Op.lookupswitch.offset ps.toList dflt x.toInt = off) (ht : (pc : Int) + off = (tgt : Int)) (kk : WM X G A M k n Q tgt L st) : WM X G A M k n Q pc L (.int x :: st) := fun H locs ls hS hM hA hL => lv_lookup C.ex C.cd hdg hp ho ht (kk H locs ls hS hM hA hL)
theorem r_if_eq (C : CX X G A own cc nL ret rm) {x : Int32} {off : Int} {tgt : Nat} (hdg : decode cc pc = .ok (.ifCond .eq off, 3)) (ht : (pc : Int) + off = (tgt : Int)) (kt : x = 0 → WM X G A M k n Q tgt L st) (kf : ¬ x = 0 → WM X G A M k n Q (pc + 3) L st) : WM X G A M k n Q pc L (.int x :: st) := fun H locs ls hS hM hA hL => lv_if_eq C.ex C.cd hdg ht (fun h => kt h H locs ls hS hM hA hL) (fun h => kf h H locs ls hS hM hA hL)
theorem r_ic_eq (C : CX X G A own cc nL ret rm) {x y : Int32} {off : Int} {tgt : Nat} (hdg : decode cc pc = .ok (.if_icmp .eq off, 3)) (ht : (pc : Int) + off = (tgt : Int)) (kt : x = y → WM X G A M k n Q tgt L st) (kf : ¬ x = y → WM X G A M k n Q (pc + 3) L st) : WM X G A M k n Q pc L (.int y :: .int x :: st) := fun H locs ls hS hM hA hL => lv_icmp_eq C.ex C.cd hdg ht (fun h => kt h H locs ls hS hM hA hL) (fun h => kf h H locs ls hS hM hA hL)
theorem r_if_ne (C : CX X G A own cc nL ret rm) {x : Int32} {off : Int} {tgt : Nat} (hdg : decode cc pc = .ok (.ifCond .ne off, 3)) (ht : (pc : Int) + off = (tgt : Int)) (kt : ¬ x = 0 → WM X G A M k n Q tgt L st) (kf : x = 0 → WM X G A M k n Q (pc + 3) L st) : WM X G A M k n Q pc L (.int x :: st) := fun H locs ls hS hM hA hL => lv_if_ne C.ex C.cd hdg ht (fun h => kt h H locs ls hS hM hA hL) (fun h => kf h H locs ls hS hM hA hL)
theorem r_ic_ne (C : CX X G A own cc nL ret rm) {x y : Int32} {off : Int} {tgt : Nat} (hdg : decode cc pc = .ok (.if_icmp .ne off, 3)) (ht : (pc : Int) + off = (tgt : Int)) (kt : ¬ x = y → WM X G A M k n Q tgt L st) (kf : x = y → WM X G A M k n Q (pc + 3) L st) : WM X G A M k n Q pc L (.int y :: .int x :: st) := fun H locs ls hS hM hA hL => lv_icmp_ne C.ex C.cd hdg ht (fun h => kt h H locs ls hS hM hA hL) (fun h => kf h H locs ls hS hM hA hL)
theorem r_if_lt (C : CX X G A own cc nL ret rm) {x : Int32} {off : Int} {tgt : Nat} (hdg : decode cc pc = .ok (.ifCond .lt off, 3)) (ht : (pc : Int) + off = (tgt : Int)) (kt : x < 0 → WM X G A M k n Q tgt L st) (kf : ¬ x < 0 → WM X G A M k n Q (pc + 3) L st) : WM X G A M k n Q pc L (.int x :: st) := fun H locs ls hS hM hA hL => lv_if_lt C.ex C.cd hdg ht (fun h => kt h H locs ls hS hM hA hL) (fun h => kf h H locs ls hS hM hA hL)
theorem r_ic_lt (C : CX X G A own cc nL ret rm) {x y : Int32} {off : Int} {tgt : Nat} (hdg : decode cc pc = .ok (.if_icmp .lt off, 3)) (ht : (pc : Int) + off = (tgt : Int)) (kt : x < y → WM X G A M k n Q tgt L st) (kf : ¬ x < y → WM X G A M k n Q (pc + 3) L st) : WM X G A M k n Q pc L (.int y :: .int x :: st) := fun H locs ls hS hM hA hL => lv_icmp_lt C.ex C.cd hdg ht (fun h => kt h H locs ls hS hM hA hL) (fun h => kf h H locs ls hS hM hA hL)
theorem r_if_ge (C : CX X G A own cc nL ret rm) {x : Int32} {off : Int} {tgt : Nat} (hdg : decode cc pc = .ok (.ifCond .ge off, 3)) (ht : (pc : Int) + off = (tgt : Int)) (kt : 0 ≤ x → WM X G A M k n Q tgt L st) (kf : ¬ 0 ≤ x → WM X G A M k n Q (pc + 3) L st) : WM X G A M k n Q pc L (.int x :: st) := fun H locs ls hS hM hA hL => lv_if_ge C.ex C.cd hdg ht (fun h => kt h H locs ls hS hM hA hL) (fun h => kf h H locs ls hS hM hA hL)
theorem r_ic_ge (C : CX X G A own cc nL ret rm) {x y : Int32} {off : Int} {tgt : Nat} (hdg : decode cc pc = .ok (.if_icmp .ge off, 3)) (ht : (pc : Int) + off = (tgt : Int)) (kt : y ≤ x → WM X G A M k n Q tgt L st) (kf : ¬ y ≤ x → WM X G A M k n Q (pc + 3) L st) : WM X G A M k n Q pc L (.int y :: .int x :: st) := fun H locs ls hS hM hA hL => lv_icmp_ge C.ex C.cd hdg ht (fun h => kt h H locs ls hS hM hA hL) (fun h => kf h H locs ls hS hM hA hL)
theorem r_if_gt (C : CX X G A own cc nL ret rm) {x : Int32} {off : Int} {tgt : Nat} (hdg : decode cc pc = .ok (.ifCond .gt off, 3)) (ht : (pc : Int) + off = (tgt : Int)) (kt : 0 < x → WM X G A M k n Q tgt L st) (kf : ¬ 0 < x → WM X G A M k n Q (pc + 3) L st) : WM X G A M k n Q pc L (.int x :: st) := fun H locs ls hS hM hA hL => lv_if_gt C.ex C.cd hdg ht (fun h => kt h H locs ls hS hM hA hL) (fun h => kf h H locs ls hS hM hA hL)
theorem r_ic_gt (C : CX X G A own cc nL ret rm) {x y : Int32} {off : Int} {tgt : Nat} (hdg : decode cc pc = .ok (.if_icmp .gt off, 3)) (ht : (pc : Int) + off = (tgt : Int)) (kt : y < x → WM X G A M k n Q tgt L st) (kf : ¬ y < x → WM X G A M k n Q (pc + 3) L st) : WM X G A M k n Q pc L (.int y :: .int x :: st) := fun H locs ls hS hM hA hL => lv_icmp_gt C.ex C.cd hdg ht (fun h => kt h H locs ls hS hM hA hL) (fun h => kf h H locs ls hS hM hA hL)
theorem r_if_le (C : CX X G A own cc nL ret rm) {x : Int32} {off : Int} {tgt : Nat} (hdg : decode cc pc = .ok (.ifCond .le off, 3)) (ht : (pc : Int) + off = (tgt : Int)) (kt : x ≤ 0 → WM X G A M k n Q tgt L st) (kf : ¬ x ≤ 0 → WM X G A M k n Q (pc + 3) L st) : WM X G A M k n Q pc L (.int x :: st) := fun H locs ls hS hM hA hL => lv_if_le C.ex C.cd hdg ht (fun h => kt h H locs ls hS hM hA hL) (fun h => kf h H locs ls hS hM hA hL)
theorem r_ic_le (C : CX X G A own cc nL ret rm) {x y : Int32} {off : Int} {tgt : Nat} (hdg : decode cc pc = .ok (.if_icmp .le off, 3)) (ht : (pc : Int) + off = (tgt : Int)) (kt : x ≤ y → WM X G A M k n Q tgt L st) (kf : ¬ x ≤ y → WM X G A M k n Q (pc + 3) L st) : WM X G A M k n Q pc L (.int y :: .int x :: st) := fun H locs ls hS hM hA hL => lv_icmp_le C.ex C.cd hdg ht (fun h => kt h H locs ls hS hM hA hL) (fun h => kf h H locs ls hS hM hA hL)
theorem r_getf (C : CX X G A own cc nL ret rm) {idx ci f a : Nat} {fs : List Value} {v : Value} (hF : FLK own idx ci f) (ha : M a = some (.inr (ci, fs))) (hv : fs[f]? = some v) (hdg : decode cc pc = .ok (.getfield idx, 3)) (kk : WM X G A M k n Q (pc + 3) L (v :: st)) : WM X G A M k n Q pc L (.ref a :: st) := by
  intro H locs ls hS hM hA hL
  obtain ⟨Cn, T, N, h1, h2, h3, h4⟩ := hF
  exact va_get C.ex C.cd C.ts h4 C.ow C.K (hP1 (hM _ _ ha)) 0 rfl h1 f h2 (C.ts _ h3) (fun _ h => h) hv hdg (kk H locs ls hS hM hA hL)
theorem r_put_end {a : Nat} {e : va_E} {H H1 : Heap} {locs : List Loc} {i pc' : Nat} {L' : List (Option Value)} {st' : List Value} {ls' : Array Slot} (kk : WM X G A (mup M a e) k n Q pc' L' st') (hS : va_S A (xS X).heap H locs) (hM : HM G M H) (hA : ∀ q, M q ≠ none → A q) (ha : M a ≠ none) (hL : hasL ls' (xC X).maxLocals L') (he : va_at G.1 vwCl (a, e) H1) (z : H1.size = H.size) (oq : ∀ q : Nat, q ≠ a → H1[q]? = H[q]?) : WX X H1 (locs ++ [⟨a, i⟩]) k n Q (F0 (xM X) pc' ls' st') :=
  kk H1 _ _ (hS.put z oq (hA a ha)) (hM.up he (fun q _ h => oq q h)) (mup_A hA (hA a ha)) hL
theorem r_putf (C : CX X G A own cc nL ret rm) {idx ci f a : Nat} {ty : FieldType} {fs : List Value} {v : Value} (hF : FLP own idx ci f ty false) (ha : M a = some (.inr (ci, fs))) (hl : f < fs.length) (hn : narrow ty v = v) (hfit : fits ty v = true) (hdg : decode cc pc = .ok (.putfield idx, 3)) (kk : WM X G A (mup M a (.inr (ci, fs.set f v))) k n Q (pc + 3) L st) : WM X G A M k n Q pc L (v :: .ref a :: st) := by
  intro H locs ls hS hM hA hL
  obtain ⟨Cn, T, N, ty0, hc, hk, hlink, hin, hty, hnm, hd, hfin, -⟩ := hF
  have hap := va_apart (own := own) C.ts hin ty0 hty hnm C.K hc
  obtain ⟨r, h1, cell, q1, q2, q3, q4⟩ := hM _ _ ha
  have hr : r = (Cn, T, N) := Option.some.inj (h1.symm.trans hc)
  subst hr
  obtain ⟨hSl, hfc, kC, hkC, hkind⟩ := C.K.1 ci _ hc
  obtain ⟨cf, kf, fi, fl, hi, hsl⟩ := hSl f hk
  have hlay := C.ts _ (hin _ (u_in_lay hk))
  unfold u_lay at hlay
  rw [if_neg (by rw [hfin]; decide)] at hlay
  have hst := (u_facts hfc hkC (u_lays C.ts hin hk) hi).1
  have h6 := u_store hfc hkC hkind hlay hi hd hn hfit
  refine W.putK C.ex C.cd (f := fl) ⟨C.ow, C.ts _ hlink, ⟨_, _, _, hi⟩, hst⟩ (by rw [q2]; exact h6) q1 q3 (by rw [hsl]; exact k2_hasslot (q4 f hk)) rfl rfl hdg fun H' e1 e2 e3 => ?_
  rw [hsl] at e1
  exact r_put_end kk hS hM hA (by rw [ha]; simp) hL ⟨_, hc, t_OB.to (V := updV (vp_V fs) f v) ⟨_, e1, q2, q3, t_set q4 hap hk v⟩ (fun j _ => vp_updV_set hl v j)⟩ e2 e3
theorem r_putF (C : CX X G A own cc nL ret rm) {idx ci f a : Nat} {ty : FieldType} {fs : List Value} {v : Value} (hF : FLP own idx ci f ty true) (hin2 : (xT X).name = "<init>") (ha : M a = some (.inr (ci, fs))) (hl : f < fs.length) (hn : narrow ty v = v) (hfit : fits ty v = true) (hdg : decode cc pc = .ok (.putfield idx, 3)) (kk : WM X G A (mup M a (.inr (ci, fs.set f v))) k n Q (pc + 3) L st) : WM X G A M k n Q pc L (v :: .ref a :: st) := by
  intro H locs ls hS hM hA hL
  obtain ⟨Cn, T, N, ty0, hc, hk, hlink, hin, hty, hnm, hd, hfin, hdecl⟩ := hF
  have hap := va_apart (own := own) C.ts hin ty0 hty hnm C.K hc
  obtain ⟨r, h1, cell, q1, q2, q3, q4⟩ := hM _ _ ha
  have hr : r = (Cn, T, N) := Option.some.inj (h1.symm.trans hc)
  subst hr
  obtain ⟨hSl, hfc, kC, hkC, hkind⟩ := C.K.1 ci _ hc
  obtain ⟨cf, kf, fi, fl, hi, hsl⟩ := hSl f hk
  have hlay := C.ts _ (hin _ (u_in_lay hk))
  unfold u_lay at hlay
  rw [if_pos hfin] at hlay
  have hst := (u_facts hfc hkC (u_lays C.ts hin hk) hi).1
  have hcf : (xM X).cls = cf := by
    obtain ⟨_, _, c', _, _, _, -, -, hf', -, -, -, hown2, -⟩ := Cond.laysFinal_spec hlay
    have e1 : c' = cf := by have := hi.symm.trans hf'; simp at this; exact this.1.symm
    rw [hdecl rfl] at hown2
    rw [← e1]; exact Option.some.inj (C.ow.symm.trans hown2)
  have h6 := u_fits hfc hkC hkind (Or.inr hlay) hi hd hn hfit
  refine W.putFinK C.ex C.cd C.ow (C.ts _ hlink) hi hst hcf hin2 (by rw [q2]; exact h6) q1 q3 (by rw [hsl]; exact k2_hasslot (q4 f hk)) rfl rfl hdg fun H' e1 e2 e3 => ?_
  rw [hsl] at e1
  exact r_put_end kk hS hM hA (by rw [ha]; simp) hL ⟨_, hc, t_OB.to (V := updV (vp_V fs) f v) ⟨_, e1, q2, q3, t_set q4 hap hk v⟩ (fun j _ => vp_updV_set hl v j)⟩ e2 e3
theorem r_alen (C : CX X G A own cc nL ret rm) {a len : Nat} {cA : ClassId} {ty : FieldType} {z : (Nat → Int32) ⊕ (Nat → Int64) ⊕ (Nat → UInt32) ⊕ (Nat → UInt64) ⊕ (Nat → Option Nat)} (t0 : Nat) (ht : (tys G)[t0]? = some (cA, ty)) (ha : M a = some (.inl (cA, len, z))) (hdg : decode cc pc = .ok (.arraylength, 1)) (kk : WM X G A M k n Q (pc + 1) L (.int (nI len) :: st)) : WM X G A M k n Q pc L (.ref a :: st) :=
  fun H locs ls hS hM hA hL => va_alen C.ex C.cd C.K (hP1 (hM _ _ ha)) 0 t0 rfl ht rfl hdg (kk H locs ls hS hM hA hL)
theorem r_iald (C : CX X G A own cc nL ret rm) {a len : Nat} {z : Nat → Int32} {i : Int32} (ha : M a = some (.inl (gc G 0, len, .inl z))) (hin : vp_in i len) (hdg : decode cc pc = .ok (.iaload, 1)) (kk : WM X G A M k n Q (pc + 1) L (.int (z i.toNatClampNeg) :: st)) : WM X G A M k n Q pc L (.int i :: .ref a :: st) :=
  fun H locs ls hS hM hA hL => va_iald C.ex C.cd C.K (hP1 (hM _ _ ha)) 0 0 rfl rfl hin hdg (kk H locs ls hS hM hA hL)
theorem r_bald (C : CX X G A own cc nL ret rm) {a len : Nat} {z : Nat → Int32} {i : Int32} (ha : M a = some (.inl (gc G 1, len, .inl z))) (hin : vp_in i len) (hdg : decode cc pc = .ok (.baload, 1)) (kk : WM X G A M k n Q (pc + 1) L (.int (z i.toNatClampNeg) :: st)) : WM X G A M k n Q pc L (.int i :: .ref a :: st) :=
  fun H locs ls hS hM hA hL => va_bald C.ex C.cd C.K (hP1 (hM _ _ ha)) 0 1 rfl rfl hin hdg (kk H locs ls hS hM hA hL)
theorem r_aald (C : CX X G A own cc nL ret rm) {a len : Nat} {z : Nat → Option Nat} {i : Int32} {cA : ClassId} {Cn : String} (t0 : Nat) (ht : (tys G)[t0]? = some (cA, .object Cn)) (ha : M a = some (.inl (cA, len, .inr (.inr (.inr (.inr z)))))) (hin : vp_in i len) (hdg : decode cc pc = .ok (.aaload, 1)) (kk : WM X G A M k n Q (pc + 1) L (va_rf (z i.toNatClampNeg) :: st)) : WM X G A M k n Q pc L (.int i :: .ref a :: st) :=
  fun H locs ls hS hM hA hL => va_aldq C.ex C.cd C.K (hP1 (hM _ _ ha)) 0 t0 rfl ht hin hdg (kk H locs ls hS hM hA hL)
theorem r_iast (C : CX X G A own cc nL ret rm) {a len : Nat} {z : Nat → Int32} {i x : Int32} (ha : M a = some (.inl (gc G 0, len, .inl z))) (hin : vp_in i len) (hdg : decode cc pc = .ok (.iastore, 1)) (kk : WM X G A (mup M a (.inl (gc G 0, len, .inl (upd z i.toNatClampNeg x)))) k n Q (pc + 1) L st) : WM X G A M k n Q pc L (.int x :: .int i :: .ref a :: st) := by
  intro H locs ls hS hM hA hL
  refine W.iast C.ex C.cd (hM _ _ ha) ((C.K.2 0 _ rfl).1 len (fun j => .int (z j))) (fun q => by cases q) (by show ¬ (i < 0 ∨ (arrV _ _ _).slots.size ≤ _); rw [arrV_size]; exact hin) rfl rfl hdg fun H1 e z1 oq => ?_
  refine r_put_end kk hS hM hA (by rw [ha]; simp) hL ?_ z1 oq
  show H1[a]? = some (vp_cell _ _)
  rw [e, vp_cell_i, vp_cell_i, arrV_store]
  congr 2
  funext q
  by_cases hq : q = i.toNatClampNeg
  · subst hq
    simp [updV, upd]
  · simp [updV, upd, hq]
theorem r_bast (C : CX X G A own cc nL ret rm) {a len : Nat} {z : Nat → Int32} {i x : Int32} (ha : M a = some (.inl (gc G 1, len, .inl z))) (hin : vp_in i len) (hdg : decode cc pc = .ok (.bastore, 1)) (kk : WM X G A (mup M a (.inl (gc G 1, len, .inl (upd z i.toNatClampNeg (vp_nar .byte x))))) k n Q (pc + 1) L st) : WM X G A M k n Q pc L (.int x :: .int i :: .ref a :: st) := by
  intro H locs ls hS hM hA hL
  refine W.bast C.ex C.cd (hM _ _ ha) ((C.K.2 1 _ rfl).1 len (fun j => .int (z j))) (fun q => by cases q) (by show ¬ (i < 0 ∨ (arrV _ _ _).slots.size ≤ _); rw [arrV_size]; exact hin) rfl rfl hdg fun H1 e z1 oq => ?_
  refine r_put_end kk hS hM hA (by rw [ha]; simp) hL ?_ z1 oq
  show H1[a]? = some (vp_cell _ _)
  rw [e, vp_cell_i, vp_cell_i, arrV_store]
  congr 2
  funext q
  by_cases hq : q = i.toNatClampNeg
  · subst hq
    simp [updV, upd, vp_nar]
    try rfl
  · simp [updV, upd, hq]
theorem r_aast (C : CX X G A own cc nL ret rm) {a len ci v : Nat} {z : Nat → Option Nat} {i : Int32} {cA : ClassId} {r : vw_C} {vs : List Value} (t0 : Nat) (ht : (tys G)[t0]? = some (cA, .object r.1)) (ha : M a = some (.inl (cA, len, .inr (.inr (.inr (.inr z)))))) (hv : M v = some (.inr (ci, vs))) (hc : vwCl[ci]? = some r) (hin : vp_in i len) (hdg : decode cc pc = .ok (.aastore, 1)) (kk : WM X G A (mup M a (.inl (cA, len, .inr (.inr (.inr (.inr (va_up z i.toNatClampNeg (some v)))))))) k n Q (pc + 1) L st) : WM X G A M k n Q pc L (.ref v :: .int i :: .ref a :: st) := by
  intro H locs ls hS hM hA hL
  have hlt : i.toNatClampNeg < len := Nat.not_le.mp fun q => hin (Or.inr q)
  have h0 : ¬ i < 0 := fun q => hin (Or.inl q)
  obtain ⟨r', hr', cellV, g1, g2, g3, -⟩ := hM _ _ hv
  have hcls := (C.K.1 ci r hc).2
  obtain ⟨kA, comp, k1, k2, k3, -⟩ := (C.K.2 t0 _ ht).2
  have hcomp : comp = G.1.1 ci := Option.some.inj (k3.symm.trans hcls.1)
  subst hcomp
  obtain ⟨kC, hkC, -⟩ := hcls.2
  refine W.aast C.ex C.cd (hM _ _ ha) (fun q h => by cases h) (fun h => by cases h) k1 k2 rfl hkC ⟨h0, by show _ < (arrV _ _ _).slots.size; rw [arrV_size]; exact hlt⟩ g1 (fun q h => by rw [g3] at h; cases h) (by rw [g2]; exact hkC) (by rw [g2]; exact va_assign hcls) rfl rfl hdg fun H1 e z1 oq => ?_
  refine r_put_end kk hS hM hA (by rw [ha]; simp) hL ?_ z1 oq
  show H1[a]? = some (vp_cell _ _)
  rw [e, vp_cell_q, vp_cell_q, arrV_store]
  congr 2
  funext q
  by_cases hq : q = i.toNatClampNeg
  · subst hq
    simp [updV, va_up, va_rf]
  · simp [updV, va_up, hq]
/-- a new cell: at the end of the heap, unknown to the map -/
theorem r_new_end {e : va_E} {H H1 : Heap} {locs : List Loc} {pc' : Nat} {L' : List (Option Value)} {ls' : Array Slot} {k' n' : Nat} (C : CX X G A own cc nL ret rm) (kk : ∀ a : Nat, M a = none → WM X G A (mup M a e) k' n' Q pc' L' (.ref a :: st)) (hS : va_S A (xS X).heap H locs) (hM : HM G M H) (hA : ∀ q, M q ≠ none → A q) (hL : hasL ls' (xC X).maxLocals L') (he : va_at G.1 vwCl (H.size, e) H1) (z : H1.size = H.size + 1) (oq : ∀ q : Nat, q < H.size → H1[q]? = H[q]?) : WX X H1 locs k' n' Q (F0 (xM X) pc' ls' (.ref H.size :: st)) := by
  have ha : A H.size := C.hA _ hS.1
  refine kk H.size hM.none H1 locs ls' ⟨Nat.le_trans hS.1 (by omega), fun x h1 h2 => (oq x (Nat.lt_of_lt_of_le h1 hS.1)).trans (hS.2.1 x h1 h2), hS.2.2⟩ (hM.up he (fun q h _ => oq q h)) (mup_A hA ha) hL
def CN (own : String) (idx ci N : Nat) (ty : Nat → FieldType) : Prop := ∃ (C : String) (T : u_T), vwCl[ci]? = some (C, T, N) ∧ Cond.classLink own idx C ∈ AW ∧ Cond.instantiable C N ∈ AW ∧ Cond.initialized C ∈ AW ∧ (∀ w ∈ u_ws C T N, w ∈ AW) ∧ ∀ k, k < N → parseFieldDescriptor (T k).2.2.1 = some (ty k)
theorem r_new (C : CX X G A own cc nL ret rm) {idx ci N : Nat} {ty : Nat → FieldType} {fs : List Value} (hN : CN own idx ci N ty) (hfs : ∀ j, j < N → defaultValue (ty j) = vp_V fs j) (h1 : Nat.ble (k + 1) rm.cells = true) (h2 : Nat.ble (n + N) rm.slots = true) (hdg : decode cc pc = .ok (.new idx, 3)) (kk : ∀ a : Nat, M a = none → WM X G A (mup M a (.inr (ci, fs))) (k + 1) (n + N) Q (pc + 3) L (.ref a :: st)) : WM X G A M k n Q pc L st := by
  intro H locs ls hS hM hA hL
  obtain ⟨Cn, T, hc, hcl, hinst, hini, hin, hty⟩ := hN
  have hKn := C.K.1 ci _ hc
  refine W.newcK C.ex C.cd C.ow (C.ts _ hcl) (C.ts _ hinst) (C.ts _ hini) rfl hdg (by rw [C.ro]; exact Nat.le_of_ble_eq_true h1) (by rw [C.ro]; exact Nat.le_of_ble_eq_true h2) hKn.2.1 rfl fun H1 kC hkC e1 z1 o1 => ?_
  exact r_new_end C kk hS hM hA hL ⟨_, hc, (u_born ty C.ts hin hKn hkC e1 hty).to hfs⟩ z1 o1
theorem r_newI (C : CX X G A own cc nL ret rm) {i : Int32} {N : Nat} (hw : Cond.arrayClass .int ∈ AW) (hi : ¬ i < 0) (hN : i.toNatClampNeg = N) (hs : Nat.ble (N * 4) 536870912 = true) (h1 : Nat.ble (k + 1) rm.cells = true) (h2 : Nat.ble (n + N) rm.slots = true) (hdg : decode cc pc = .ok (.newarray .int, 2)) (kk : ∀ a : Nat, M a = none → WM X G A (mup M a (.inl (gc G 0, N, .inl (fun _ => 0)))) (k + 1) (n + N) Q (pc + 2) L (.ref a :: st)) : WM X G A M k n Q pc L (.int i :: st) := by
  intro H locs ls hS hM hA hL
  refine va_newaK C.ex C.cd (atype := .int) (C.ts _ hw) rfl hdg rfl hi hN (Nat.le_of_ble_eq_true hs) (by rw [C.ro]; exact Nat.le_of_ble_eq_true h1) (by rw [C.ro]; exact Nat.le_of_ble_eq_true h2) rfl fun H1 cA e1 z1 o1 hAr hNm => ?_
  have hcA : cA = gc G 0 := Option.some.inj (hNm.symm.trans (C.K.2 0 _ rfl).2)
  subst hcA
  exact r_new_end C kk hS hM hA hL (show H1[H.size]? = some (vp_cell _ _) by rw [e1, vp_cell_i]; rfl) z1 o1
theorem r_newB (C : CX X G A own cc nL ret rm) {i : Int32} {N : Nat} (hw : Cond.arrayClass .byte ∈ AW) (hi : ¬ i < 0) (hN : i.toNatClampNeg = N) (hs : N ≤ 536870912) (h1 : k + 1 ≤ rm.cells) (h2 : n + N ≤ rm.slots) (hdg : decode cc pc = .ok (.newarray .byte, 2)) (kk : ∀ a : Nat, M a = none → WM X G A (mup M a (.inl (gc G 1, N, .inl (fun _ => 0)))) (k + 1) (n + N) Q (pc + 2) L (.ref a :: st)) : WM X G A M k n Q pc L (.int i :: st) := by
  intro H locs ls hS hM hA hL
  refine va_newaK C.ex C.cd (atype := .byte) (C.ts _ hw) rfl hdg rfl hi hN (by show N * 1 ≤ _; omega) (by rw [C.ro]; exact h1) (by rw [C.ro]; exact h2) rfl fun H1 cA e1 z1 o1 hAr hNm => ?_
  have hcA : cA = gc G 1 := Option.some.inj (hNm.symm.trans (C.K.2 1 _ rfl).2)
  subst hcA
  exact r_new_end C kk hS hM hA hL (show H1[H.size]? = some (vp_cell _ _) by rw [e1, vp_cell_i]; rfl) z1 o1
theorem r_newQ (C : CX X G A own cc nL ret rm) {i : Int32} {idx N : Nat} {Cn : String} {cA : ClassId} (t0 : Nat) (ht : (tys G)[t0]? = some (cA, .object Cn)) (hw : Cond.classLink own idx Cn ∈ AW) (ho : (Cond.arrayOver (.object Cn)).before (xA X) (xS X) = true) (hi : ¬ i < 0) (hN : i.toNatClampNeg = N) (hs : Nat.ble (N * 4) 536870912 = true) (h1 : Nat.ble (k + 1) rm.cells = true) (h2 : Nat.ble (n + N) rm.slots = true) (hdg : decode cc pc = .ok (.anewarray idx, 3)) (kk : ∀ a : Nat, M a = none → WM X G A (mup M a (.inl (cA, N, .inr (.inr (.inr (.inr (fun _ => none))))))) (k + 1) (n + N) Q (pc + 3) L (.ref a :: st)) : WM X G A M k n Q pc L (.int i :: st) := by
  intro H locs ls hS hM hA hL
  subst hN
  refine W.anew C.ex C.cd C.ow (C.ts _ hw) ho rfl hdg rfl hi (Nat.le_of_ble_eq_true hs) (by rw [C.ro]; exact Nat.le_of_ble_eq_true h1) (by rw [C.ro]; exact Nat.le_of_ble_eq_true h2) fun cA' kA comp f1 f2 f3 f4 => ?_
  obtain ⟨kA2, comp2, g1, g2, g3, g4⟩ := (C.K.2 t0 _ ht).2
  have hcA : cA' = cA := Option.some.inj (f1.symm.trans g4)
  subst hcA
  generalize hH1 : H.push ({ cls := cA', slots := Array.replicate i.toNatClampNeg .null, vm := .none } : Cell) = H1
  have z1 : H1.size = H.size + 1 := by rw [← hH1, Array.size_push]
  have e1 : H1[H.size]? = some (arrV cA' i.toNatClampNeg (fun _ => .null)) := by rw [← hH1, Array.getElem?_push_size, ← arrV_new]
  exact r_new_end C kk hS hM hA hL (show H1[H.size]? = some (vp_cell _ _) by rw [e1, vp_cell_q]; rfl) z1 (fun q hq => by rw [← hH1, Array.getElem?_push, if_neg (Nat.ne_of_lt hq)])
theorem r_objInit (C : CX X G A own cc nL ret rm) {idx a : Nat} (hl : Cond.methodLink own idx Lib.objectInit ∈ AW) (hi : Cond.instanceMethod Lib.objectInit ∈ AW) (hc : Cond.code Lib.objectInit ⟨#[0xb1]⟩ 1 none ∈ AW) (h1 : Nat.ble 1 rm.frames = true) (h2 : Nat.ble ((st.map fun v => v.category).sum + 12) rm.locals = true) (hdg : decode cc pc = .ok (.invokespecial idx, 3)) (kk : WM X G A M k n Q (pc + 3) L st) : WM X G A M k n Q pc L (.ref a :: st) := by
  intro H locs ls hS hM hA hL
  exact W.objInit C.ex C.cd C.ow (C.ts _ hl) (C.ts _ hi) (C.ts _ hc) rfl hL.1 rfl hdg (by rw [C.ro]; exact Nat.le_of_ble_eq_true h1) (by rw [C.ro]; have := Nat.le_of_ble_eq_true h2; show 2 * 0 + _ + 12 ≤ _; omega) (kk H locs ls hS hM hA hL)
def MMx (y : MethodName) (cc : ByteArray) (nL : Nat) : Prop := Cond.static y ∈ AW ∧ Cond.initialized "java/lang/Math" ∈ AW ∧ Cond.code y cc nL (some .int) ∈ AW
theorem r_max (C : CX X G A own cc nL ret rm) {idx : Nat} {x y : Int32} (hl : Cond.methodLink own idx Lib.Math.max.name ∈ AW) (hm : MMx Lib.Math.max.name Lib.Math.max.code 2) (h1 : Nat.ble 1 rm.frames = true) (h2 : Nat.ble ((st.map fun v => v.category).sum + 13) rm.locals = true) (h3 : Nat.ble k rm.cells = true) (h4 : Nat.ble n rm.slots = true) (hdg : decode cc pc = .ok (.invokestatic idx, 3)) (kk : WM X G A M k n Q (pc + 3) L (.int (if x < y then y else x) :: st)) : WM X G A M k n Q pc L (.int y :: .int x :: st) :=
  fun H locs ls hS hM hA hL => va_mmax C.ex C.cd hL.1.symm C.ow (C.ts _ hl) (C.ts _ hm.1) (C.ts _ hm.2.1) (C.ts _ hm.2.2) (by rw [C.ro]; exact Nat.le_of_ble_eq_true h1) (by rw [C.ro]; exact Nat.le_of_ble_eq_true h2) (by rw [C.ro]; exact Nat.le_of_ble_eq_true h3) (by rw [C.ro]; exact Nat.le_of_ble_eq_true h4) hdg (kk H locs ls hS hM hA hL)
theorem r_min (C : CX X G A own cc nL ret rm) {idx : Nat} {x y : Int32} (hl : Cond.methodLink own idx Lib.Math.min.name ∈ AW) (hm : MMx Lib.Math.min.name Lib.Math.min.code 2) (h1 : Nat.ble 1 rm.frames = true) (h2 : Nat.ble ((st.map fun v => v.category).sum + 13) rm.locals = true) (h3 : Nat.ble k rm.cells = true) (h4 : Nat.ble n rm.slots = true) (hdg : decode cc pc = .ok (.invokestatic idx, 3)) (kk : WM X G A M k n Q (pc + 3) L (.int (if y < x then y else x) :: st)) : WM X G A M k n Q pc L (.int y :: .int x :: st) :=
  fun H locs ls hS hM hA hL => va_mmin C.ex C.cd hL.1.symm C.ow (C.ts _ hl) (C.ts _ hm.1) (C.ts _ hm.2.1) (C.ts _ hm.2.2) (by rw [C.ro]; exact Nat.le_of_ble_eq_true h1) (by rw [C.ro]; exact Nat.le_of_ble_eq_true h2) (by rw [C.ro]; exact Nat.le_of_ble_eq_true h3) (by rw [C.ro]; exact Nat.le_of_ble_eq_true h4) hdg (kk H locs ls hS hM hA hL)
theorem r_abs (C : CX X G A own cc nL ret rm) {idx : Nat} {x : Int32} (hl : Cond.methodLink own idx Lib.Math.abs.name ∈ AW) (hm : MMx Lib.Math.abs.name Lib.Math.abs.code 1) (h1 : Nat.ble 1 rm.frames = true) (h2 : Nat.ble ((st.map fun v => v.category).sum + 13) rm.locals = true) (h3 : Nat.ble k rm.cells = true) (h4 : Nat.ble n rm.slots = true) (hdg : decode cc pc = .ok (.invokestatic idx, 3)) (kk : WM X G A M k n Q (pc + 3) L (.int (if 0 ≤ x then x else 0 - x) :: st)) : WM X G A M k n Q pc L (.int x :: st) :=
  fun H locs ls hS hM hA hL => va_mabs C.ex C.cd hL.1.symm C.ow (C.ts _ hl) (C.ts _ hm.1) (C.ts _ hm.2.1) (C.ts _ hm.2.2) (by rw [C.ro]; exact Nat.le_of_ble_eq_true h1) (by rw [C.ro]; exact Nat.le_of_ble_eq_true h2) (by rw [C.ro]; exact Nat.le_of_ble_eq_true h3) (by rw [C.ro]; exact Nat.le_of_ble_eq_true h4) hdg (kk H locs ls hS hM hA hL)
/-- static fields -/
theorem r_gets (C : CX X G A own cc nL ret rm) {idx : Nat} {Cn nm d : String} {v : Value} (hZ : va_Z Cn nm d v A (xS X) (xS X).heap) (hw : Cond.fieldLink own idx Cn nm d ∈ AW) (hdg : decode cc pc = .ok (.getstatic idx, 3)) (kk : WM X G A M k n Q (pc + 3) L (v :: st)) : WM X G A M k n Q pc L st :=
  fun H locs ls hS hM hA hL => va_gets C.ex C.cd hZ hS C.ow (C.ts _ hw) (fun _ h => h) hdg (kk H locs ls hS hM hA hL)
theorem r_ldcS (C : CX X G A own cc nL ret rm) {idx i : Nat} (hi : 19 ≤ i ∧ i < 25) (ho : (sofs.getD i ("", 0, "")).1 = own) (hx : (sofs.getD i ("", 0, "")).2.1 = idx) (hdg : decode cc pc = .ok (.ldc idx, 2)) (kk : WM X G A M k n Q (pc + 2) L (.ref (gK G i) :: st)) : WM X G A M k n Q pc L st := by
  subst ho; subst hx
  exact fun H locs ls hS hM hA hL => va_ldcS C.ex C.cd C.ow (C.ev.2.2.2.2.2.2.2.2.1 i hi) hdg (kk H locs ls hS hM hA hL)
/-- CALLS -/
theorem c_blind {ag : List Value} {sz : Nat} : FrameBlind (va_Pc ag (fun U => U.heap.size = sz ∧ HM G M U.heap ∧ va_K G.1 vwCl (tys G) U ∧ EV G (fr M sz) U U.heap)) := by
  intro a U g mk h
  obtain ⟨h0, h1, h2, h3, h4⟩ := h
  exact ⟨h0, h1, h2, va_K.moved (u := U) (U := U.calling g mk a) (Vm.Alike.refl U.vm) h3, EV.to (u := U) (U := U.calling g mk a) h4 (State.WarmedH.refl U) (fun _ _ _ => rfl) (fun _ h => h)⟩
theorem c_pre (C : CX X G A own cc nL ret rm) {ag : List Value} {H : Heap} {locs : List Loc} (hS : va_S A (xS X).heap H locs) (hM : HM G M H) (hA : ∀ q, M q ≠ none → A q) (U : State) (hU : U.heap = H) (hW : (xS X).WarmedH U.vm) : va_Pc ag (fun U => U.heap.size = H.size ∧ HM G M U.heap ∧ va_K G.1 vwCl (tys G) U ∧ EV G (fr M H.size) U U.heap) ag.toArray U := by
  refine ⟨rfl, by rw [hU], by rw [hU]; exact hM, va_K.moved hW.alike C.K, ?_⟩
  rw [hU]
  exact EV.to C.ev hW hS.2.1 (fun q h => h.elim (hA q) (fun h => C.hA q (Nat.le_trans hS.1 h)))
theorem c_go (C : CX X G A own cc nL ret rm) {H : Heap} {locs : List Loc} {ls : Array Slot} {mc ms : Nat} {st0 : List Value} {ag : Array Value} {Post : Option Value → Mem → Prop} (hS : va_S A (xS X).heap H locs) (hA : ∀ q, M q ≠ none → A q) (hL : hasL ls (xC X).maxLocals L)
    (hr : va_Run (xP X) (xL X) (xE X) (xR X) (xS X) (xM X) (xA X) (xB X) (xT X) (xC X) H locs k n mc ms (F0 (xM X) pc ls st0) st (QC G (fr M H.size) Post ag) (fr M H.size))
    (kk : ∀ (v : Option Value) (M' : Mem), Post v M' → WM X G A M' (k + mc) (n + ms) Q (pc + 3) L (v.toList ++ st)) : WX X H locs k n Q (F0 (xM X) pc ls st0) := by
  have hf : ∀ q, fr M H.size q → A q := fun q h => h.elim (hA q) (fun h => C.hA q (Nat.le_trans hS.1 h))
  intro T hT Y
  obtain ⟨v, st₀, t, T', L1, h0, Y', hL1, e1, e2, ⟨⟨v', M', hv, hp, hm, hA'⟩, hz, hk⟩, go⟩ := hr T hT Y
  cases hv
  rw [h0] at hz hk
  obtain ⟨t2, a1, b1⟩ := kk v M' hp T'.heap (locs ++ L1) ls ⟨Nat.le_trans hS.1 (by rw [e1]; exact hz), fun q h1 h2 => by rw [e1, hk q (Nat.lt_of_lt_of_le h1 hS.1) (fun z => h2 (hf q z))]; exact hS.2.1 q h1 h2, fun q hq => by
      rcases List.mem_append.mp hq with h | h
      · exact hS.2.2 q h
      · exact hf _ (hL1 q h)⟩ (by rw [e1]; exact hm) (fun q h => hf q (hA' q h)) hL T' rfl Y'
  exact ⟨t2, go t2 a1, b1⟩
theorem c_in {y : MethodName} {cc' : ByteArray} {nL' : Nat} {ret' : Option FieldType} (h : Cond.code y cc' nL' ret' ∈ AW) : GoodIn AW (Cond.code y cc' nL' ret' :: AW) := AW_in h
theorem r_cV (C : CX X G A own cc nL ret rm) {idx ci b na : Nat} {fs As st0 : List Value} {y : MethodName} {cc' : ByteArray} {nL' : Nat} {ret' : Option FieldType} {rm' : Room} {Post : Option Value → Mem → Prop} (hct : Ct (xL X) G y cc' nL' ret' rm' (.ref b :: As) M Post) (hy : MV y cc' nL' ret' na) (hl : Cond.methodLink own idx y ∈ AW) (hb : M b = some (.inr (ci, fs))) (hc : (vwCl[ci]?).map (fun q => q.1) = some y.cls) (hst0 : st0 = As.reverse ++ .ref b :: st) (hlen : As.length = na) (hw : (st.map fun v => v.category).sum ≤ 8) (hrm : roomOk rm rm' nL' k n = true) (hdg : decode cc pc = .ok (.invokevirtual idx, 3)) (kk : ∀ (v : Option Value) (M' : Mem), Post v M' → WM X G A M' (k + rm'.cells) (n + rm'.slots) Q (pc + 3) L (v.toList ++ st)) : WM X G A M k n Q pc L st0 := by
  intro H locs ls hS hM hA hL
  obtain ⟨g1, g2, g3, g4⟩ := roomOk_at hrm
  obtain ⟨hcode, hini, hd, hinst, hsel⟩ := hy
  obtain ⟨q, hq1, hq2⟩ := Option.map_eq_some_iff.mp hc
  have hrc := va_recv C.K (hP1 (hM _ _ hb)) hq1 (q0 := 0) rfl
  rw [hq2] at hrc
  refine c_go C hS hA hL (va_runV (As := As) (rest := st) ⟨C.ex, C.cd, C.ml, C.ow, C.ts⟩ (hct H.size) (C := y.cls) (n := na) ⟨callB_of na C.ts (c_in hcode) rfl rfl rfl (C.ts _ hini) (C.ts _ hl) hd (by rw [C.ro]; exact ⟨g1, g2⟩), C.ts _ hinst, C.ts _ hsel⟩ ⟨c_blind, hrc, fun U hU hW => c_pre C hS hM hA U hU hW⟩ rfl hlen (hL.1.trans C.ml) hst0 (lv_room hw) hdg (by rw [C.ro]; exact ⟨g3, g4⟩)) kk
theorem r_cVN (C : CX X G A own cc nL ret rm) {idx ci b na : Nat} {host : String} {fs As st0 : List Value} {y : MethodName} {cc' : ByteArray} {nL' : Nat} {ret' : Option FieldType} {rm' : Room} {Post : Option Value → Mem → Prop} (hct : Ct (xL X) G y cc' nL' ret' rm' (.ref b :: As) M Post) (hy : MV y cc' nL' ret' na) (hl : Cond.methodLinkNest own idx y host ∈ NW) (hb : M b = some (.inr (ci, fs))) (hc : (vwCl[ci]?).map (fun q => q.1) = some y.cls) (hst0 : st0 = As.reverse ++ .ref b :: st) (hlen : As.length = na) (hw : (st.map fun v => v.category).sum ≤ 8) (hrm : roomOk rm rm' nL' k n = true) (hdg : decode cc pc = .ok (.invokevirtual idx, 3)) (kk : ∀ (v : Option Value) (M' : Mem), Post v M' → WM X G A M' (k + rm'.cells) (n + rm'.slots) Q (pc + 3) L (v.toList ++ st)) : WM X G A M k n Q pc L st0 := by
  intro H locs ls hS hM hA hL
  obtain ⟨g1, g2, g3, g4⟩ := roomOk_at hrm
  obtain ⟨hcode, hini, hd, hinst, hsel⟩ := hy
  obtain ⟨q, hq1, hq2⟩ := Option.map_eq_some_iff.mp hc
  have hrc := va_recv C.K (hP1 (hM _ _ hb)) hq1 (q0 := 0) rfl
  rw [hq2] at hrc
  refine c_go C hS hA hL (va_runVN (As := As) (rest := st) ⟨C.ex, C.cd, C.ml, C.ow, C.ts⟩ (hct H.size) (C := y.cls) (n := na) ⟨va_cnB na C.ts (c_in hcode) rfl rfl rfl (C.ev.2.2.2.2.2.2.2.2.2.2.1 _ hl) (C.ts _ hini) hd (by rw [C.ro]; exact ⟨g1, g2⟩), C.ts _ hinst, C.ts _ hsel⟩ ⟨c_blind, hrc, fun U hU hW => c_pre C hS hM hA U hU hW⟩ rfl hlen (hL.1.trans C.ml) hst0 (lv_room hw) hdg (by rw [C.ro]; exact ⟨g3, g4⟩)) kk
theorem r_cS (C : CX X G A own cc nL ret rm) {idx na : Nat} {As st0 : List Value} {y : MethodName} {cc' : ByteArray} {nL' : Nat} {ret' : Option FieldType} {rm' : Room} {Post : Option Value → Mem → Prop} (hct : Ct (xL X) G y cc' nL' ret' rm' As M Post) (hy : MS y cc' nL' ret' na) (hl : Cond.methodLink own idx y ∈ AW) (hst0 : st0 = As.reverse ++ st) (hlen : As.length = na) (hw : (st.map fun v => v.category).sum ≤ 8) (hrm : roomOk rm rm' nL' k n = true) (hdg : decode cc pc = .ok (.invokestatic idx, 3)) (kk : ∀ (v : Option Value) (M' : Mem), Post v M' → WM X G A M' (k + rm'.cells) (n + rm'.slots) Q (pc + 3) L (v.toList ++ st)) : WM X G A M k n Q pc L st0 := by
  intro H locs ls hS hM hA hL
  obtain ⟨g1, g2, g3, g4⟩ := roomOk_at hrm
  obtain ⟨hcode, hini, hd, hstat⟩ := hy
  refine c_go C hS hA hL (va_runS (As := As) (rest := st) ⟨C.ex, C.cd, C.ml, C.ow, C.ts⟩ (hct H.size) (n := na) ⟨callB_of na C.ts (c_in hcode) rfl rfl rfl (C.ts _ hini) (C.ts _ hl) hd (by rw [C.ro]; exact ⟨g1, g2⟩), C.ts _ hstat⟩ ⟨c_blind, fun U hU hW => c_pre C hS hM hA U hU hW⟩ rfl hlen (hL.1.trans C.ml) hst0 (lv_room hw) hdg (by rw [C.ro]; exact ⟨g3, g4⟩)) kk
theorem r_cSN (C : CX X G A own cc nL ret rm) {idx na : Nat} {host : String} {As st0 : List Value} {y : MethodName} {cc' : ByteArray} {nL' : Nat} {ret' : Option FieldType} {rm' : Room} {Post : Option Value → Mem → Prop} (hct : Ct (xL X) G y cc' nL' ret' rm' As M Post) (hy : MS y cc' nL' ret' na) (hl : Cond.methodLinkNest own idx y host ∈ NW) (hst0 : st0 = As.reverse ++ st) (hlen : As.length = na) (hw : (st.map fun v => v.category).sum ≤ 8) (hrm : roomOk rm rm' nL' k n = true) (hdg : decode cc pc = .ok (.invokestatic idx, 3)) (kk : ∀ (v : Option Value) (M' : Mem), Post v M' → WM X G A M' (k + rm'.cells) (n + rm'.slots) Q (pc + 3) L (v.toList ++ st)) : WM X G A M k n Q pc L st0 := by
  intro H locs ls hS hM hA hL
  obtain ⟨g1, g2, g3, g4⟩ := roomOk_at hrm
  obtain ⟨hcode, hini, hd, hstat⟩ := hy
  refine c_go C hS hA hL (va_runSN (As := As) (rest := st) ⟨C.ex, C.cd, C.ml, C.ow, C.ts⟩ (hct H.size) (n := na) ⟨va_cnB na C.ts (c_in hcode) rfl rfl rfl (C.ev.2.2.2.2.2.2.2.2.2.2.1 _ hl) (C.ts _ hini) hd (by rw [C.ro]; exact ⟨g1, g2⟩), C.ts _ hstat, trivial⟩ ⟨c_blind, fun U hU hW => c_pre C hS hM hA U hU hW⟩ rfl hlen (hL.1.trans C.ml) hst0 (lv_room hw) hdg (by rw [C.ro]; exact ⟨g3, g4⟩)) kk
theorem r_cI (C : CX X G A own cc nL ret rm) {idx b na : Nat} {As st0 : List Value} {y : MethodName} {cc' : ByteArray} {nL' : Nat} {rm' : Room} {Post : Option Value → Mem → Prop} (hct : Ct (xL X) G y cc' nL' none rm' (.ref b :: As) M Post) (hy : MI y cc' nL' na) (hl : Cond.methodLink own idx y ∈ AW) (hst0 : st0 = As.reverse ++ .ref b :: st) (hlen : As.length = na) (hw : (st.map fun v => v.category).sum ≤ 8) (hrm : roomOk rm rm' nL' k n = true) (hdg : decode cc pc = .ok (.invokespecial idx, 3)) (kk : ∀ (v : Option Value) (M' : Mem), Post v M' → WM X G A M' (k + rm'.cells) (n + rm'.slots) Q (pc + 3) L (v.toList ++ st)) : WM X G A M k n Q pc L st0 := by
  intro H locs ls hS hM hA hL
  obtain ⟨g1, g2, g3, g4⟩ := roomOk_at hrm
  obtain ⟨hcode, hini, hd, hinst, hnm⟩ := hy
  refine c_go C hS hA hL (va_runI (As := As) (rest := st) ⟨C.ex, C.cd, C.ml, C.ow, C.ts⟩ (hct H.size) (n := na) ⟨callB_of na C.ts (c_in hcode) rfl rfl rfl (C.ts _ hini) (C.ts _ hl) hd (by rw [C.ro]; exact ⟨g1, g2⟩), hnm, C.ts _ hinst⟩ ⟨c_blind, fun U hU hW => c_pre C hS hM hA U hU hW⟩ rfl hlen (hL.1.trans C.ml) hst0 (lv_room hw) hdg (by rw [C.ro]; exact ⟨g3, g4⟩)) kk
theorem r_cIN (C : CX X G A own cc nL ret rm) {idx b na : Nat} {host : String} {As st0 : List Value} {y : MethodName} {cc' : ByteArray} {nL' : Nat} {rm' : Room} {Post : Option Value → Mem → Prop} (hct : Ct (xL X) G y cc' nL' none rm' (.ref b :: As) M Post) (hy : MI y cc' nL' na) (hl : Cond.methodLinkNest own idx y host ∈ NW) (hst0 : st0 = As.reverse ++ .ref b :: st) (hlen : As.length = na) (hw : (st.map fun v => v.category).sum ≤ 8) (hrm : roomOk rm rm' nL' k n = true) (hdg : decode cc pc = .ok (.invokespecial idx, 3)) (kk : ∀ (v : Option Value) (M' : Mem), Post v M' → WM X G A M' (k + rm'.cells) (n + rm'.slots) Q (pc + 3) L (v.toList ++ st)) : WM X G A M k n Q pc L st0 := by
  intro H locs ls hS hM hA hL
  obtain ⟨g1, g2, g3, g4⟩ := roomOk_at hrm
  obtain ⟨hcode, hini, hd, hinst, hnm⟩ := hy
  refine c_go C hS hA hL (va_runIN (As := As) (rest := st) ⟨C.ex, C.cd, C.ml, C.ow, C.ts⟩ (hct H.size) (n := na) ⟨va_cnB na C.ts (c_in hcode) rfl rfl rfl (C.ev.2.2.2.2.2.2.2.2.2.2.1 _ hl) (C.ts _ hini) hd (by rw [C.ro]; exact ⟨g1, g2⟩), hnm, C.ts _ hinst⟩ ⟨c_blind, fun U hU hW => c_pre C hS hM hA U hU hW⟩ rfl hlen (hL.1.trans C.ml) hst0 (lv_room hw) hdg (by rw [C.ro]; exact ⟨g3, g4⟩)) kk
/-- ENDS -/
theorem e_QC {Post : Option Value → Mem → Prop} {v : Option Value} {H : Heap} {locs : List Loc} {a : Array Value} (hS : va_S A (xS X).heap H locs) (hM : HM G M H) (hA : ∀ q, M q ≠ none → A q) (hp : Post v M) (t : State) (ht : t.heap = H) : QC G A Post a (xS X) (.returned v) t := ⟨⟨v, M, rfl, hp, by rw [ht]; exact hM, hA⟩, hS.F ht⟩
theorem r_ireturn (C : CX X G A own cc nL ret rm) {ty : FieldType} {x : Int32} {Post : Option Value → Mem → Prop} (hret : ret = some ty) (hn : narrow ty (.int x) = .int x) (hdg : decode cc pc = .ok (.ireturn, 1)) (hp : Post (some (.int x)) M) (h1 : Nat.ble k rm.cells = true) (h2 : Nat.ble n rm.slots = true) : WM X G A M k n (MEnd X G A rm Post) pc L [.int x] := by
  intro H locs ls hS hM hA hL
  refine W.widen (Nat.le_of_ble_eq_true h1) (Nat.le_of_ble_eq_true h2) ?_
  have hlocks := C.lk
  exact W.zret C.ex C.cd (C.rt.trans hret) hn (fun t ht _ => e_QC hS hM hA hp t ht) hS.2.2 hdg hlocks
theorem r_return (C : CX X G A own cc nL ret rm) {Post : Option Value → Mem → Prop} (hret : ret = none) (hdg : decode cc pc = .ok (.return_, 1)) (hp : Post none M) (h1 : Nat.ble k rm.cells = true) (h2 : Nat.ble n rm.slots = true) : WM X G A M k n (MEnd X G A rm Post) pc L [] := by
  intro H locs ls hS hM hA hL
  refine W.widen (Nat.le_of_ble_eq_true h1) (Nat.le_of_ble_eq_true h2) ?_
  have hlocks := C.lk
  exact W.vret C.ex C.cd (C.rt.trans hret) (fun t ht _ => e_QC hS hM hA hp t ht) hS.2.2 hdg hlocks
theorem r_areturn (C : CX X G A own cc nL ret rm) {ty : FieldType} {v : Value} {Post : Option Value → Mem → Prop} (hret : ret = some ty) (hty : (∃ n, ty = .object n) ∨ ∃ t, ty = .array t) (hv : v = .null ∨ ∃ a, v = .ref a) (hdg : decode cc pc = .ok (.areturn, 1)) (hp : Post (some v) M) (h1 : Nat.ble k rm.cells = true) (h2 : Nat.ble n rm.slots = true) : WM X G A M k n (MEnd X G A rm Post) pc L [v] := by
  intro H locs ls hS hM hA hL
  refine W.widen (Nat.le_of_ble_eq_true h1) (Nat.le_of_ble_eq_true h2) ?_
  have hlocks := C.lk
  exact W.aret C.ex C.cd (C.rt.trans hret) hty hv (fun t ht _ => e_QC hS hM hA hp t ht) hS.2.2 hdg hlocks
end ROWS
