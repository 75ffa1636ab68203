/-! WALKS OF THE LAW: the world in the map M, the law's own cells in E beside it, locals of one word or two (D). -/
def madd (M E : Mem) : Mem := fun q => match E q with | some e => some e | none => M q
def dis (M E : Mem) : Prop := ∀ q, E q ≠ none → M q = none
def nilE : Mem := fun _ => none
theorem HM_nil {G : GT} {H : Heap} : HM G nilE H := fun b e h => absurd h (by simp [nilE])
theorem dis_nil (M : Mem) : dis M nilE := fun q h => absurd rfl h
theorem madd_E {M E : Mem} {q : Nat} {e : va_E} (h : E q = some e) : madd M E q = some e := by simp [madd, h]
theorem madd_M {M E : Mem} {q : Nat} (h : E q = none) : madd M E q = M q := by simp [madd, h]
theorem HM_add {G : GT} {M E : Mem} {H : Heap} (h1 : HM G M H) (h2 : HM G E H) : HM G (madd M E) H := by
  intro b e hb
  cases he : E b with
  | none => rw [madd_M he] at hb; exact h1 b e hb
  | some e' => rw [madd_E he] at hb; cases hb; exact h2 b _ he
theorem HM_addM {G : GT} {M E : Mem} {H : Heap} (hd : dis M E) (h : HM G (madd M E) H) : HM G M H := by
  intro b e hb
  refine h b e ?_
  cases he : E b with
  | none => rw [madd_M he]; exact hb
  | some e' => rw [hd b (by rw [he]; simp)] at hb; cases hb
theorem HM_addE {G : GT} {M E : Mem} {H : Heap} (h : HM G (madd M E) H) : HM G E H := fun b e hb => h b e (madd_E hb)
theorem madd_ne {M E : Mem} {q : Nat} (h : madd M E q ≠ none) : M q ≠ none ∨ E q ≠ none := by
  cases he : E q with
  | none => rw [madd_M he] at h; exact Or.inl h
  | some e => exact Or.inr (by simp)
theorem madd_ofM {M E : Mem} {q : Nat} (hd : dis M E) (h : M q ≠ none) : madd M E q ≠ none := by
  cases he : E q with
  | none => rw [madd_M he]; exact h
  | some e => rw [madd_E he]; simp
theorem madd_ofE {M E : Mem} {q : Nat} (h : E q ≠ none) : madd M E q ≠ none := by
  cases he : E q with
  | none => exact absurd he h
  | some e => rw [madd_E he]; simp
/-- what stands around a walk's point -/
def PE (X : XT) (G : GT) (A : Nat → Prop) (a : Id3 → Nat) (Y : YT) (E M : Mem) (H : Heap) (locs : List Loc) : Prop := RepY G a Y M ∧ dis M E ∧ va_S A (xS X).heap H locs ∧ HM G M H ∧ HM G E H ∧ (∀ q, M q ≠ none → A q) ∧ (∀ q, E q ≠ none → A q)
def WE (X : XT) (G : GT) (A : Nat → Prop) (a : Id3 → Nat) (Y : YT) (E : Mem) (k n : Nat) (Q : State → Prop) (pc : Nat) (D : List (Nat × Value)) (st : List Value) : Prop :=
  ∀ (M : Mem) (H : Heap) (locs : List Loc) (ls : Array Slot), PE X G A a Y E M H locs → lv_has ls (xC X).maxLocals D → WX X H locs k n Q (F0 (xM X) pc ls st)
def lk : List (Nat × Value) → Nat → Option Value
  | [], _ => none
  | q :: D, i => match Nat.beq q.1 i with
    | true => some q.2
    | false => lk D i
theorem lk_at {ls : Array Slot} {nL : Nat} : ∀ {D : List (Nat × Value)}, lv_has ls nL D → ∀ {i : Nat} {v : Value}, lk D i = some v → ls[i]? = some (.val v)
  | [], _, i, v, hk => by cases hk
  | q :: D, h, i, v, hk => by
    unfold lk at hk
    cases hb : Nat.beq q.1 i with
    | true =>
      rw [hb] at hk
      injection hk with hk
      have h1 := h.2.2 q List.mem_cons_self
      rw [Nat.eq_of_beq_eq_true hb, hk] at h1
      exact h1
    | false =>
      rw [hb] at hk
      exact lk_at (D := D) ⟨h.1, h.2.1, fun r hr => h.2.2 r (List.mem_cons_of_mem _ hr)⟩ hk
abbrev st1 (D : List (Nat × Value)) (i : Nat) (v : Value) : List (Nat × Value) := (i, v) :: D.filter (fun q => !(q.1 == i) && !(q.1 + 1 == i && q.2.category == 2))
abbrev st2 (D : List (Nat × Value)) (i : Nat) (v : Value) : List (Nat × Value) := (i, v) :: D.filter (fun q => !(q.1 == i) && (!(q.1 == i + 1) && !(q.1 + 1 == i && q.2.category == 2)))
theorem RepY.gh {G : GT} {a : Id3 → Nat} {Y Y' : YT} {M : Mem} (h : RepY G a Y M) (hy : ∀ i : Id3, i.1 ≠ 4 → Y' i = Y i) : RepY G a Y' M := by
  have hv : ∀ i, vld i → i.1 ≠ 4 := fun i hi h4 => by
    obtain ⟨t, k, j⟩ := i
    cases h4
    exact hi
  obtain ⟨h1, h2, h3, q, h4, h5, h6⟩ := h
  refine ⟨fun i hi h5 => by rw [hy i (hv i hi)]; exact h1 i hi h5, h2, fun i ci f l z hi ht hl => by rw [hy i (hv i hi)]; exact h3 i ci f l z hi ht hl, q, h4, h5, fun j hj => ?_⟩
  obtain ⟨cap, len, z, ml, g1, g2, g3, g4, g5, g6, g7⟩ := h6 j hj
  have e5 : Y' (5, 0, j) = Y (5, 0, j) := hy _ (show (5 : Nat) ≠ 4 by decide)
  exact ⟨cap, len, z, ml, by rw [e5]; exact g1, g2, by rw [e5]; exact g3, g4, g5, g6, fun t ht => by rw [e5]; exact g7 t ht⟩
/-- the answer, the world behind it, the own cells untouched -/
def PYE (G : GT) (a : Id3 → Nat) (E : Mem) (Post : Option Value → YT → Prop) : Option Value → Mem → Prop := fun v M' => ∃ (M1 : Mem) (Y' : YT), M' = madd M1 E ∧ dis M1 E ∧ RepY G a Y' M1 ∧ Post v Y'
def CtE (l : Launch) (G : GT) (a : Id3 → Nat) (y : MethodName) (cc : ByteArray) (nL : Nat) (ret : Option FieldType) (rm : Room) (ag : List Value) (Y : YT) (E : Mem) (Post : Option Value → YT → Prop) : Prop := ∀ M : Mem, RepY G a Y M → dis M E → Ct l G y cc nL ret rm ag (madd M E) (PYE G a E Post)
def PL (Post : Int64 → YT → Prop) : Option Value → YT → Prop := fun v Y' => ∃ r : Int64, v = some (.long r) ∧ Post r Y'
theorem CtE.of {l : Launch} {G : GT} {a : Id3 → Nat} {y : MethodName} {cc : ByteArray} {nL : Nat} {ret : Option FieldType} {rm : Room} {ag : List Value} {Y : YT} {E : Mem} {Post : Option Value → YT → Prop}
    (hy : plainName y.cls = true) (hn : (lg_sl ag).length ≤ nL)
    (body : ∀ (X : XT) (A : Nat → Prop), CX X G A y.cls cc nL ret rm → xL X = l → WE X G A a Y E 0 0 (MEnd X G A rm (PYE G a E Post)) 0 (lv_args 0 ag) []) : CtE l G a y cc nL ret rm ag Y E Post := by
  intro M0 hM0 hd sz
  refine Met.ofW (cc := cc) (maxL := nL) (ret := ret) hy rfl ?_
  intro p e s m args below meth c s₁ B hml hv
  obtain ⟨rfl, hsz, hM, hK, hE⟩ := hv
  have hts := atoms_spec (ws := Cond.code y cc nL ret :: AW) B.pre
  have hown : s.vm.findClass y.cls = some m.cls := findClass_of_methodNamed B.named
  have hl := lv_entry ag (n := nL) hn
  rw [lg_entry_eq]
  have hb := body (p, l, e, rm, s, m, ag.toArray, below, meth, c) (fr (madd M0 E) sz) ⟨B.exec, B.bytes, hml, hown, fun w h => hts w (List.mem_cons_of_mem _ h), hK, hE, fun q h => Or.inr (by rw [← hsz]; exact h), B.returns, B.notSynchronized, rfl⟩ rfl
  exact hb M0 s.heap [] _ ⟨hM0, hd, va_S.rf, HM_addM hd hM, HM_addE hM, fun q h => Or.inl (madd_ofM hd h), fun q h => Or.inl (madd_ofE h)⟩ (by rw [show xC (p, l, e, rm, s, m, ag.toArray, below, meth, c) = c from rfl, hml]; exact hl)
theorem CtY.ofE {l : Launch} {G : GT} {a : Id3 → Nat} {y : MethodName} {cc : ByteArray} {nL : Nat} {ret : Option FieldType} {rm : Room} {ag : List Value} {Y : YT} {Post : Option Value → YT → Prop}
    (hy : plainName y.cls = true) (hn : (lg_sl ag).length ≤ nL)
    (body : ∀ (X : XT) (A : Nat → Prop), CX X G A y.cls cc nL ret rm → xL X = l → WE X G A a Y nilE 0 0 (MEnd X G A rm (PY G a Post)) 0 (lv_args 0 ag) []) : CtY l G a y cc nL ret rm ag Y Post := by
  intro M0 hM0 sz
  refine Met.ofW (cc := cc) (maxL := nL) (ret := ret) hy rfl ?_
  intro p e s m args below meth c s₁ B hml hv
  obtain ⟨rfl, hsz, hM, hK, hE⟩ := hv
  have hts := atoms_spec (ws := Cond.code y cc nL ret :: AW) B.pre
  have hown : s.vm.findClass y.cls = some m.cls := findClass_of_methodNamed B.named
  have hl := lv_entry ag (n := nL) hn
  rw [lg_entry_eq]
  have hb := body (p, l, e, rm, s, m, ag.toArray, below, meth, c) (fr M0 sz) ⟨B.exec, B.bytes, hml, hown, fun w h => hts w (List.mem_cons_of_mem _ h), hK, hE, fun q h => Or.inr (by rw [← hsz]; exact h), B.returns, B.notSynchronized, rfl⟩ rfl
  exact hb M0 s.heap [] _ ⟨hM0, dis_nil M0, va_S.rf, hM, HM_nil, fun q h => Or.inl h, fun q h => absurd rfl h⟩ (by rw [show xC (p, l, e, rm, s, m, ag.toArray, below, meth, c) = c from rfl, hml]; exact hl)
section EROWS
variable {X : XT} {G : GT} {A : Nat → Prop} {a : Id3 → Nat} {own : String} {cc : ByteArray} {nL : Nat} {ret : Option FieldType} {rm : Room} {Y : YT} {E : Mem} {k n : Nat} {Q : State → Prop} {pc pc' : Nat} {D : List (Nat × Value)} {st : List Value}
theorem e_gh {Y' : YT} (hy : ∀ i : Id3, i.1 ≠ 4 → Y' i = Y i) (kk : WE X G A a Y' E k n Q pc D st) : WE X G A a Y E k n Q pc D st := fun M H locs ls hP hL => kk M H locs ls ⟨hP.1.gh hy, hP.2⟩ hL
theorem e_wid {k' n' : Nat} (h1 : k ≤ k') (h2 : n ≤ n') (kk : WE X G A a Y E k' n' Q pc D st) : WE X G A a Y E k n Q pc D st := fun M H locs ls hP hL => W.widen h1 h2 (kk M H locs ls hP hL)
/-- locals forgotten, or told in another order -/
theorem e_D {D' : List (Nat × Value)} (hD : ∀ q ∈ D', lk D q.1 = some q.2) (kk : WE X G A a Y E k n Q pc D' st) : WE X G A a Y E k n Q pc D st := fun M H locs ls hP hL => kk M H locs ls hP ⟨hL.1, hL.2.1, fun q hq => lk_at hL (hD q hq)⟩
/-- own cells forgotten -/
theorem e_E {E' : Mem} (hE : ∀ q e, E' q = some e → E q = some e) (kk : WE X G A a Y E' k n Q pc D st) : WE X G A a Y E k n Q pc D st := fun M H locs ls hP hL => by
  have hne : ∀ q, E' q ≠ none → E q ≠ none := fun q h => by
    cases he : E' q with
    | none => exact absurd he h
    | some e => rw [hE q e he]; simp
  obtain ⟨h1, h2, h3, h4, h5, h6, h7⟩ := hP
  exact kk M H locs ls ⟨h1, fun q h => h2 q (hne q h), h3, h4, fun q e h => h5 q e (hE q e h), h6, fun q h => h7 q (hne q h)⟩ hL
theorem e_top {x y : Int32} (h : x = y) (kk : WE X G A a Y E k n Q pc D (.int y :: st)) : WE X G A a Y E k n Q pc D (.int x :: st) := by subst h; exact kk
theorem e_topl {x y : Int64} (h : x = y) (kk : WE X G A a Y E k n Q pc D (.long y :: st)) : WE X G A a Y E k n Q pc D (.long x :: st) := by subst h; exact kk
theorem e_iconst (hpc : pc + 1 = pc') (C : CX X G A own cc nL ret rm) {i : Int} {v : Int32} (hdg : decode cc pc = .ok (.iconst i, 1)) (hv : Int32.ofInt i = v) (kk : WE X G A a Y E k n Q pc' D (.int v :: st)) : WE X G A a Y E k n Q pc D st := by subst hpc; exact fun M H locs ls hP hL => lv_iconst C.ex C.cd hdg hv (kk M H locs ls hP hL)
theorem e_bipush (hpc : pc + 2 = pc') (C : CX X G A own cc nL ret rm) {i : Int} {v : Int32} (hdg : decode cc pc = .ok (.bipush i, 2)) (hv : (Int8.ofInt i).toInt32 = v) (kk : WE X G A a Y E k n Q pc' D (.int v :: st)) : WE X G A a Y E k n Q pc D st := by subst hpc; exact fun M H locs ls hP hL => lv_bipush C.ex C.cd hdg hv (kk M H locs ls hP hL)
theorem e_sipush (hpc : pc + 3 = pc') (C : CX X G A own cc nL ret rm) {i : Int} {v : Int32} (hdg : decode cc pc = .ok (.sipush i, 3)) (hv : (Int16.ofInt i).toInt32 = v) (kk : WE X G A a Y E k n Q pc' D (.int v :: st)) : WE X G A a Y E k n Q pc D st := by subst hpc; exact fun M H locs ls hP hL => lv_sipush C.ex C.cd hdg hv (kk M H locs ls hP hL)
theorem e_ldc (hpc : pc + 2 = pc') (C : CX X G A own cc nL ret rm) {i : Nat} {v : Int32} (hw : Cond.constant own i v ∈ AW) (hdg : decode cc pc = .ok (.ldc i, 2)) (kk : WE X G A a Y E k n Q pc' D (.int v :: st)) : WE X G A a Y E k n Q pc D st := by subst hpc; exact fun M H locs ls hP hL => lv_ldc C.ex C.cd C.ow (C.ts _ hw) hdg (kk M H locs ls hP hL)
theorem e_ldc2 (hpc : pc + 3 = pc') (C : CX X G A own cc nL ret rm) {i : Nat} {v : Int64} (hw : Cond.constantLong own i v ∈ AW) (hdg : decode cc pc = .ok (.ldc2_w i, 3)) (kk : WE X G A a Y E k n Q pc' D (.long v :: st)) : WE X G A a Y E k n Q pc D st := by subst hpc; exact fun M H locs ls hP hL => lv_ldc2 C.ex C.cd C.ow (C.ts _ hw) hdg (kk M H locs ls hP hL)
theorem e_lconst (hpc : pc + 1 = pc') (C : CX X G A own cc nL ret rm) (hdg : decode cc pc = .ok (.lconst 0, 1)) (kk : WE X G A a Y E k n Q pc' D (.long 0 :: st)) : WE X G A a Y E k n Q pc D st := by subst hpc; exact fun M H locs ls hP hL => lv_lconst C.ex C.cd hdg rfl (kk M H locs ls hP hL)
theorem e_dconst (hpc : pc + 1 = pc') (C : CX X G A own cc nL ret rm) (hdg : decode cc pc = .ok (.dconst 0, 1)) (kk : WE X G A a Y E k n Q pc' D (.double FP.dconst0 :: st)) : WE X G A a Y E k n Q pc D st := by subst hpc; exact fun M H locs ls hP hL => lv_dconst0 C.ex C.cd hdg (kk M H locs ls hP hL)
theorem e_fconst (hpc : pc + 1 = pc') (C : CX X G A own cc nL ret rm) (hdg : decode cc pc = .ok (.fconst 0, 1)) (kk : WE X G A a Y E k n Q pc' D (.float FP.fconst0 :: st)) : WE X G A a Y E k n Q pc D st := by subst hpc; exact fun M H locs ls hP hL => lv_fconst0 C.ex C.cd hdg (kk M H locs ls hP hL)
theorem e_iload_n (hpc : pc + 1 = pc') (C : CX X G A own cc nL ret rm) {i : Fin 4} {x : Int32} (hdg : decode cc pc = .ok (.iload_n i, 1)) (hl : lk D (i : Nat) = some (.int x)) (kk : WE X G A a Y E k n Q pc' D (.int x :: st)) : WE X G A a Y E k n Q pc D st := by subst hpc; exact fun M H locs ls hP hL => lv_iload_n C.ex C.cd hdg rfl (lk_at hL hl) (kk M H locs ls hP hL)
theorem e_iload (hpc : pc + 2 = pc') (C : CX X G A own cc nL ret rm) {i : Nat} {x : Int32} (hdg : decode cc pc = .ok (.iload i, 2)) (hl : lk D i = some (.int x)) (kk : WE X G A a Y E k n Q pc' D (.int x :: st)) : WE X G A a Y E k n Q pc D st := by subst hpc; exact fun M H locs ls hP hL => lv_iload C.ex C.cd hdg (lk_at hL hl) (kk M H locs ls hP hL)
theorem e_istore_n (hpc : pc + 1 = pc') (C : CX X G A own cc nL ret rm) {i : Fin 4} {x : Int32} {D' : List (Nat × Value)} (hdg : decode cc pc = .ok (.istore_n i, 1)) (hn : (i : Nat) < nL) (hD : st1 D (i : Nat) (.int x) = D') (kk : WE X G A a Y E k n Q pc' D' st) : WE X G A a Y E k n Q pc D (.int x :: st) := by subst hpc; exact fun M H locs ls hP hL => lv_istore_n C.ex C.cd hdg rfl hL (by rw [C.ml]; exact hn) hD (fun ls2 h2 => kk M H locs ls2 hP h2)
theorem e_istore (hpc : pc + 2 = pc') (C : CX X G A own cc nL ret rm) {i : Nat} {x : Int32} {D' : List (Nat × Value)} (hdg : decode cc pc = .ok (.istore i, 2)) (hn : i < nL) (hD : st1 D i (.int x) = D') (kk : WE X G A a Y E k n Q pc' D' st) : WE X G A a Y E k n Q pc D (.int x :: st) := by subst hpc; exact fun M H locs ls hP hL => lv_istore C.ex C.cd hdg hL (by rw [C.ml]; exact hn) hD (fun ls2 h2 => kk M H locs ls2 hP h2)
theorem e_aload_n (hpc : pc + 1 = pc') (C : CX X G A own cc nL ret rm) {i : Fin 4} {x : Nat} (hdg : decode cc pc = .ok (.aload_n i, 1)) (hl : lk D (i : Nat) = some (.ref x)) (kk : WE X G A a Y E k n Q pc' D (.ref x :: st)) : WE X G A a Y E k n Q pc D st := by subst hpc; exact fun M H locs ls hP hL => lv_aload_n C.ex C.cd hdg rfl (lk_at hL hl) (kk M H locs ls hP hL)
theorem e_aload (hpc : pc + 2 = pc') (C : CX X G A own cc nL ret rm) {i : Nat} {x : Nat} (hdg : decode cc pc = .ok (.aload i, 2)) (hl : lk D i = some (.ref x)) (kk : WE X G A a Y E k n Q pc' D (.ref x :: st)) : WE X G A a Y E k n Q pc D st := by subst hpc; exact fun M H locs ls hP hL => lv_aload C.ex C.cd hdg (lk_at hL hl) (kk M H locs ls hP hL)
theorem e_astore_n (hpc : pc + 1 = pc') (C : CX X G A own cc nL ret rm) {i : Fin 4} {x : Nat} {D' : List (Nat × Value)} (hdg : decode cc pc = .ok (.astore_n i, 1)) (hn : (i : Nat) < nL) (hD : st1 D (i : Nat) (.ref x) = D') (kk : WE X G A a Y E k n Q pc' D' st) : WE X G A a Y E k n Q pc D (.ref x :: st) := by subst hpc; exact fun M H locs ls hP hL => lv_astore_n C.ex C.cd hdg rfl hL (by rw [C.ml]; exact hn) hD (fun ls2 h2 => kk M H locs ls2 hP h2)
theorem e_astore (hpc : pc + 2 = pc') (C : CX X G A own cc nL ret rm) {i : Nat} {x : Nat} {D' : List (Nat × Value)} (hdg : decode cc pc = .ok (.astore i, 2)) (hn : i < nL) (hD : st1 D i (.ref x) = D') (kk : WE X G A a Y E k n Q pc' D' st) : WE X G A a Y E k n Q pc D (.ref x :: st) := by subst hpc; exact fun M H locs ls hP hL => lv_astore C.ex C.cd hdg hL (by rw [C.ml]; exact hn) hD (fun ls2 h2 => kk M H locs ls2 hP h2)
theorem e_lload_n (hpc : pc + 1 = pc') (C : CX X G A own cc nL ret rm) {i : Fin 4} {x : Int64} (hdg : decode cc pc = .ok (.lload_n i, 1)) (hl : lk D (i : Nat) = some (.long x)) (kk : WE X G A a Y E k n Q pc' D (.long x :: st)) : WE X G A a Y E k n Q pc D st := by subst hpc; exact fun M H locs ls hP hL => lv_lload_n C.ex C.cd hdg rfl (lk_at hL hl) (kk M H locs ls hP hL)
theorem e_lload (hpc : pc + 2 = pc') (C : CX X G A own cc nL ret rm) {i : Nat} {x : Int64} (hdg : decode cc pc = .ok (.lload i, 2)) (hl : lk D i = some (.long x)) (kk : WE X G A a Y E k n Q pc' D (.long x :: st)) : WE X G A a Y E k n Q pc D st := by subst hpc; exact fun M H locs ls hP hL => lv_lload C.ex C.cd hdg (lk_at hL hl) (kk M H locs ls hP hL)
theorem e_lstore_n (hpc : pc + 1 = pc') (C : CX X G A own cc nL ret rm) {i : Fin 4} {x : Int64} {D' : List (Nat × Value)} (hdg : decode cc pc = .ok (.lstore_n i, 1)) (hn : (i : Nat) + 1 < nL) (hD : st2 D (i : Nat) (.long x) = D') (kk : WE X G A a Y E k n Q pc' D' st) : WE X G A a Y E k n Q pc D (.long x :: st) := by subst hpc; exact fun M H locs ls hP hL => lv_lstore_n C.ex C.cd hdg rfl hL (by rw [C.ml]; exact hn) hD (fun ls2 h2 => kk M H locs ls2 hP h2)
theorem e_lstore (hpc : pc + 2 = pc') (C : CX X G A own cc nL ret rm) {i : Nat} {x : Int64} {D' : List (Nat × Value)} (hdg : decode cc pc = .ok (.lstore i, 2)) (hn : i + 1 < nL) (hD : st2 D i (.long x) = D') (kk : WE X G A a Y E k n Q pc' D' st) : WE X G A a Y E k n Q pc D (.long x :: st) := by subst hpc; exact fun M H locs ls hP hL => lv_lstore C.ex C.cd hdg hL (by rw [C.ml]; exact hn) hD (fun ls2 h2 => kk M H locs ls2 hP h2)
theorem e_dload (hpc : pc + 2 = pc') (C : CX X G A own cc nL ret rm) {i : Nat} {x : UInt64} (hdg : decode cc pc = .ok (.dload i, 2)) (hl : lk D i = some (.double x)) (kk : WE X G A a Y E k n Q pc' D (.double x :: st)) : WE X G A a Y E k n Q pc D st := by subst hpc; exact fun M H locs ls hP hL => lv_dload C.ex C.cd hdg (lk_at hL hl) (kk M H locs ls hP hL)
theorem e_dstore (hpc : pc + 2 = pc') (C : CX X G A own cc nL ret rm) {i : Nat} {x : UInt64} {D' : List (Nat × Value)} (hdg : decode cc pc = .ok (.dstore i, 2)) (hn : i + 1 < nL) (hD : st2 D i (.double x) = D') (kk : WE X G A a Y E k n Q pc' D' st) : WE X G A a Y E k n Q pc D (.double x :: st) := by subst hpc; exact fun M H locs ls hP hL => lv_dstore C.ex C.cd hdg hL (by rw [C.ml]; exact hn) hD (fun ls2 h2 => kk M H locs ls2 hP h2)
theorem e_fload (hpc : pc + 2 = pc') (C : CX X G A own cc nL ret rm) {i : Nat} {x : UInt32} (hdg : decode cc pc = .ok (.fload i, 2)) (hl : lk D i = some (.float x)) (kk : WE X G A a Y E k n Q pc' D (.float x :: st)) : WE X G A a Y E k n Q pc D st := by subst hpc; exact fun M H locs ls hP hL => lv_fload C.ex C.cd hdg (lk_at hL hl) (kk M H locs ls hP hL)
theorem e_fstore (hpc : pc + 2 = pc') (C : CX X G A own cc nL ret rm) {i : Nat} {x : UInt32} {D' : List (Nat × Value)} (hdg : decode cc pc = .ok (.fstore i, 2)) (hn : i < nL) (hD : st1 D i (.float x) = D') (kk : WE X G A a Y E k n Q pc' D' st) : WE X G A a Y E k n Q pc D (.float x :: st) := by subst hpc; exact fun M H locs ls hP hL => lv_fstore C.ex C.cd hdg hL (by rw [C.ml]; exact hn) hD (fun ls2 h2 => kk M H locs ls2 hP h2)
theorem e_iinc (hpc : pc + 3 = pc') (C : CX X G A own cc nL ret rm) {i j : Nat} {d : Int} {x v : Int32} (hdg : decode cc pc = .ok (.iinc i d, 3)) (hl : D[j]? = some (i, .int x)) {D' : List (Nat × Value)} (hv : x + Int32.ofInt d = v) (hn : i < nL) (hD : st1 D i (.int v) = D') (kk : WE X G A a Y E k n Q pc' D' st) : WE X G A a Y E k n Q pc D st := by subst hpc; exact fun M H locs ls hP hL => lv_iinc C.ex C.cd hdg hL hl hv (by rw [C.ml]; exact hn) hD (fun ls2 h2 => kk M H locs ls2 hP h2)
theorem e_iadd (hpc : pc + 1 = pc') (C : CX X G A own cc nL ret rm) {x y : Int32} (hdg : decode cc pc = .ok (.iadd, 1)) (kk : WE X G A a Y E k n Q pc' D (.int (x + y) :: st)) : WE X G A a Y E k n Q pc D (.int y :: .int x :: st) := by subst hpc; exact fun M H locs ls hP hL => lv_iadd C.ex C.cd hdg (kk M H locs ls hP hL)
theorem e_isub (hpc : pc + 1 = pc') (C : CX X G A own cc nL ret rm) {x y : Int32} (hdg : decode cc pc = .ok (.isub, 1)) (kk : WE X G A a Y E k n Q pc' D (.int (x - y) :: st)) : WE X G A a Y E k n Q pc D (.int y :: .int x :: st) := by subst hpc; exact fun M H locs ls hP hL => lv_isub C.ex C.cd hdg (kk M H locs ls hP hL)
theorem e_imul (hpc : pc + 1 = pc') (C : CX X G A own cc nL ret rm) {x y : Int32} (hdg : decode cc pc = .ok (.imul, 1)) (kk : WE X G A a Y E k n Q pc' D (.int (x * y) :: st)) : WE X G A a Y E k n Q pc D (.int y :: .int x :: st) := by subst hpc; exact fun M H locs ls hP hL => lv_imul C.ex C.cd hdg (kk M H locs ls hP hL)
theorem e_iand (hpc : pc + 1 = pc') (C : CX X G A own cc nL ret rm) {x y : Int32} (hdg : decode cc pc = .ok (.iand, 1)) (kk : WE X G A a Y E k n Q pc' D (.int (x &&& y) :: st)) : WE X G A a Y E k n Q pc D (.int y :: .int x :: st) := by subst hpc; exact fun M H locs ls hP hL => lv_iand C.ex C.cd hdg (kk M H locs ls hP hL)
theorem e_ior (hpc : pc + 1 = pc') (C : CX X G A own cc nL ret rm) {x y : Int32} (hdg : decode cc pc = .ok (.ior, 1)) (kk : WE X G A a Y E k n Q pc' D (.int (x ||| y) :: st)) : WE X G A a Y E k n Q pc D (.int y :: .int x :: st) := by subst hpc; exact fun M H locs ls hP hL => lv_ior C.ex C.cd hdg (kk M H locs ls hP hL)
theorem e_ixor (hpc : pc + 1 = pc') (C : CX X G A own cc nL ret rm) {x y : Int32} (hdg : decode cc pc = .ok (.ixor, 1)) (kk : WE X G A a Y E k n Q pc' D (.int (x ^^^ y) :: st)) : WE X G A a Y E k n Q pc D (.int y :: .int x :: st) := by subst hpc; exact fun M H locs ls hP hL => lv_ixor C.ex C.cd hdg (kk M H locs ls hP hL)
theorem e_ladd (hpc : pc + 1 = pc') (C : CX X G A own cc nL ret rm) {x y : Int64} (hdg : decode cc pc = .ok (.ladd, 1)) (kk : WE X G A a Y E k n Q pc' D (.long (x + y) :: st)) : WE X G A a Y E k n Q pc D (.long y :: .long x :: st) := by subst hpc; exact fun M H locs ls hP hL => lv_ladd C.ex C.cd hdg (kk M H locs ls hP hL)
theorem e_lsub (hpc : pc + 1 = pc') (C : CX X G A own cc nL ret rm) {x y : Int64} (hdg : decode cc pc = .ok (.lsub, 1)) (kk : WE X G A a Y E k n Q pc' D (.long (x - y) :: st)) : WE X G A a Y E k n Q pc D (.long y :: .long x :: st) := by subst hpc; exact fun M H locs ls hP hL => lv_lsub C.ex C.cd hdg (kk M H locs ls hP hL)
theorem e_lmul (hpc : pc + 1 = pc') (C : CX X G A own cc nL ret rm) {x y : Int64} (hdg : decode cc pc = .ok (.lmul, 1)) (kk : WE X G A a Y E k n Q pc' D (.long (x * y) :: st)) : WE X G A a Y E k n Q pc D (.long y :: .long x :: st) := by subst hpc; exact fun M H locs ls hP hL => lv_lmul C.ex C.cd hdg (kk M H locs ls hP hL)
theorem e_idiv (hpc : pc + 1 = pc') (C : CX X G A own cc nL ret rm) {x y : Int32} (hne : ¬ y = 0) (hdg : decode cc pc = .ok (.idiv, 1)) (kk : WE X G A a Y E k n Q pc' D (.int (x / y) :: st)) : WE X G A a Y E k n Q pc D (.int y :: .int x :: st) := by subst hpc; exact fun M H locs ls hP hL => lv_idiv C.ex C.cd hdg hne (kk M H locs ls hP hL)
theorem e_irem (hpc : pc + 1 = pc') (C : CX X G A own cc nL ret rm) {x y : Int32} (hne : ¬ y = 0) (hdg : decode cc pc = .ok (.irem, 1)) (kk : WE X G A a Y E k n Q pc' D (.int (x - x / y * y) :: st)) : WE X G A a Y E k n Q pc D (.int y :: .int x :: st) := by subst hpc; exact fun M H locs ls hP hL => lv_irem C.ex C.cd hdg hne (kk M H locs ls hP hL)
theorem e_ishr (hpc : pc + 1 = pc') (C : CX X G A own cc nL ret rm) {x y : Int32} (hdg : decode cc pc = .ok (.ishr, 1)) (kk : WE X G A a Y E k n Q pc' D (.int (x >>> (y &&& 31)) :: st)) : WE X G A a Y E k n Q pc D (.int y :: .int x :: st) := by subst hpc; exact fun M H locs ls hP hL => lv_ishr C.ex C.cd hdg (kk M H locs ls hP hL)
theorem e_iushr (hpc : pc + 1 = pc') (C : CX X G A own cc nL ret rm) {x y v : Int32} (hdg : decode cc pc = .ok (.iushr, 1)) (hv : (x.toUInt32 >>> (y.toUInt32 &&& Int32.toUInt32 31)).toInt32 = v) (kk : WE X G A a Y E k n Q pc' D (.int v :: st)) : WE X G A a Y E k n Q pc D (.int y :: .int x :: st) := by subst hpc; exact fun M H locs ls hP hL => lv_iushr C.ex C.cd hdg hv (kk M H locs ls hP hL)
theorem e_i2l (hpc : pc + 1 = pc') (C : CX X G A own cc nL ret rm) {x : Int32} (hdg : decode cc pc = .ok (.i2l, 1)) (kk : WE X G A a Y E k n Q pc' D (.long x.toInt64 :: st)) : WE X G A a Y E k n Q pc D (.int x :: st) := by subst hpc; exact fun M H locs ls hP hL => lv_i2l C.ex C.cd hdg rfl (kk M H locs ls hP hL)
theorem e_i2d (hpc : pc + 1 = pc') (C : CX X G A own cc nL ret rm) {x : Int32} (hdg : decode cc pc = .ok (.i2d, 1)) (kk : WE X G A a Y E k n Q pc' D (.double (FP.i2d x) :: st)) : WE X G A a Y E k n Q pc D (.int x :: st) := by subst hpc; exact fun M H locs ls hP hL => lv_i2d C.ex C.cd hdg (kk M H locs ls hP hL)
theorem e_i2f (hpc : pc + 1 = pc') (C : CX X G A own cc nL ret rm) {x : Int32} (hdg : decode cc pc = .ok (.i2f, 1)) (kk : WE X G A a Y E k n Q pc' D (.float (FP.i2f x) :: st)) : WE X G A a Y E k n Q pc D (.int x :: st) := by subst hpc; exact fun M H locs ls hP hL => lv_i2f C.ex C.cd hdg (kk M H locs ls hP hL)
theorem e_ddiv (hpc : pc + 1 = pc') (C : CX X G A own cc nL ret rm) {x y : UInt64} (hne : vf_n64 (FP.ddiv x y)) (hdg : decode cc pc = .ok (.ddiv, 1)) (kk : WE X G A a Y E k n Q pc' D (.double (FP.ddiv x y) :: st)) : WE X G A a Y E k n Q pc D (.double y :: .double x :: st) := by subst hpc; exact fun M H locs ls hP hL => lv_ddiv C.ex C.cd hdg hne (kk M H locs ls hP hL)
theorem e_fdiv (hpc : pc + 1 = pc') (C : CX X G A own cc nL ret rm) {x y : UInt32} (hne : vf_n32 (FP.fdiv x y)) (hdg : decode cc pc = .ok (.fdiv, 1)) (kk : WE X G A a Y E k n Q pc' D (.float (FP.fdiv x y) :: st)) : WE X G A a Y E k n Q pc D (.float y :: .float x :: st) := by subst hpc; exact fun M H locs ls hP hL => lv_fdiv C.ex C.cd hdg hne (kk M H locs ls hP hL)
theorem e_dcmp (hpc : pc + 1 = pc') (C : CX X G A own cc nL ret rm) {x y : UInt64} {op : CmpOp} (hdg : decode cc pc = .ok (.dcmp op, 1)) (kk : WE X G A a Y E k n Q pc' D (.int (Op.cmpValue (FP.dcmp x y) op) :: st)) : WE X G A a Y E k n Q pc D (.double y :: .double x :: st) := by subst hpc; exact fun M H locs ls hP hL => lv_dcmp C.ex C.cd hdg (kk M H locs ls hP hL)
theorem e_fcmp (hpc : pc + 1 = pc') (C : CX X G A own cc nL ret rm) {x y : UInt32} {op : CmpOp} (hdg : decode cc pc = .ok (.fcmp op, 1)) (kk : WE X G A a Y E k n Q pc' D (.int (Op.cmpValue (FP.fcmp x y) op) :: st)) : WE X G A a Y E k n Q pc D (.float y :: .float x :: st) := by subst hpc; exact fun M H locs ls hP hL => lv_fcmp C.ex C.cd hdg (kk M H locs ls hP hL)
theorem e_lcmp (hpc : pc + 1 = pc') (C : CX X G A own cc nL ret rm) {x y : Int64} (hdg : decode cc pc = .ok (.lcmp, 1)) (kk : WE X G A a Y E k n Q pc' D (.int (lg_cmp x y) :: st)) : WE X G A a Y E k n Q pc D (.long y :: .long x :: st) := by subst hpc; exact fun M H locs ls hP hL => W.lcmp C.ex C.cd hdg (kk M H locs ls hP hL)
theorem e_dup (hpc : pc + 1 = pc') (C : CX X G A own cc nL ret rm) {v : Value} (hdg : decode cc pc = .ok (.dup, 1)) (hc : v.category = 1) (kk : WE X G A a Y E k n Q pc' D (v :: v :: st)) : WE X G A a Y E k n Q pc D (v :: st) := by subst hpc; exact fun M H locs ls hP hL => lv_dup C.ex C.cd hdg hc (kk M H locs ls hP hL)
theorem e_dup2 (hpc : pc + 1 = pc') (C : CX X G A own cc nL ret rm) {v u : Value} (hdg : decode cc pc = .ok (.dup2, 1)) (hc : v.category = 1) (hd : u.category = 1) (kk : WE X G A a Y E k n Q pc' D (v :: u :: v :: u :: st)) : WE X G A a Y E k n Q pc D (v :: u :: st) := by subst hpc; exact fun M H locs ls hP hL => lv_dup2_11 C.ex C.cd hdg hc hd (kk M H locs ls hP hL)
theorem e_goto (C : CX X G A own cc nL ret rm) {off : Int} {tgt : Nat} (hdg : decode cc pc = .ok (.goto off, 3)) (ht : (pc : Int) + off = (tgt : Int)) (kk : WE X G A a Y E k n Q tgt D st) : WE X G A a Y E k n Q pc D st := fun M H locs ls hP hL => lv_goto C.ex C.cd hdg ht (kk M H locs ls hP hL)
theorem e_if_eq (hpc : pc + 3 = pc') (C : CX X G A own cc nL ret rm) {x : Int32} {off : Int} {tgt : Nat} (hdg : decode cc pc = .ok (.ifCond .eq off, 3)) (ht : (pc : Int) + off = (tgt : Int)) (kt : x = 0 → WE X G A a Y E k n Q tgt D st) (kf : ¬ x = 0 → WE X G A a Y E k n Q pc' D st) : WE X G A a Y E k n Q pc D (.int x :: st) := by subst hpc; exact fun M H locs ls hP hL => lv_if_eq C.ex C.cd hdg ht (fun h => kt h M H locs ls hP hL) (fun h => kf h M H locs ls hP hL)
theorem e_if_eqT (C : CX X G A own cc nL ret rm) {x : Int32} {off : Int} {tgt : Nat} (hdg : decode cc pc = .ok (.ifCond .eq off, 3)) (ht : (pc : Int) + off = (tgt : Int)) (hc : x = 0) (kt : WE X G A a Y E k n Q tgt D st) : WE X G A a Y E k n Q pc D (.int x :: st) := e_if_eq rfl C hdg ht (fun _ => kt) (fun h => absurd hc h)
theorem e_if_eqF (hpc : pc + 3 = pc') (C : CX X G A own cc nL ret rm) {x : Int32} {off : Int} {tgt : Nat} (hdg : decode cc pc = .ok (.ifCond .eq off, 3)) (ht : (pc : Int) + off = (tgt : Int)) (hc : ¬ x = 0) (kf : WE X G A a Y E k n Q pc' D st) : WE X G A a Y E k n Q pc D (.int x :: st) := e_if_eq hpc C hdg ht (fun h => absurd h hc) (fun _ => kf)
theorem e_ic_eq (hpc : pc + 3 = pc') (C : CX X G A own cc nL ret rm) {x y : Int32} {off : Int} {tgt : Nat} (hdg : decode cc pc = .ok (.if_icmp .eq off, 3)) (ht : (pc : Int) + off = (tgt : Int)) (kt : x = y → WE X G A a Y E k n Q tgt D st) (kf : ¬ x = y → WE X G A a Y E k n Q pc' D st) : WE X G A a Y E k n Q pc D (.int y :: .int x :: st) := by subst hpc; exact fun M H locs ls hP hL => lv_icmp_eq C.ex C.cd hdg ht (fun h => kt h M H locs ls hP hL) (fun h => kf h M H locs ls hP hL)
theorem e_ic_eqT (C : CX X G A own cc nL ret rm) {x y : Int32} {off : Int} {tgt : Nat} (hdg : decode cc pc = .ok (.if_icmp .eq off, 3)) (ht : (pc : Int) + off = (tgt : Int)) (hc : x = y) (kt : WE X G A a Y E k n Q tgt D st) : WE X G A a Y E k n Q pc D (.int y :: .int x :: st) := e_ic_eq rfl C hdg ht (fun _ => kt) (fun h => absurd hc h)
theorem e_ic_eqF (hpc : pc + 3 = pc') (C : CX X G A own cc nL ret rm) {x y : Int32} {off : Int} {tgt : Nat} (hdg : decode cc pc = .ok (.if_icmp .eq off, 3)) (ht : (pc : Int) + off = (tgt : Int)) (hc : ¬ x = y) (kf : WE X G A a Y E k n Q pc' D st) : WE X G A a Y E k n Q pc D (.int y :: .int x :: st) := e_ic_eq hpc C hdg ht (fun h => absurd h hc) (fun _ => kf)
theorem e_if_ne (hpc : pc + 3 = pc') (C : CX X G A own cc nL ret rm) {x : Int32} {off : Int} {tgt : Nat} (hdg : decode cc pc = .ok (.ifCond .ne off, 3)) (ht : (pc : Int) + off = (tgt : Int)) (kt : ¬ x = 0 → WE X G A a Y E k n Q tgt D st) (kf : x = 0 → WE X G A a Y E k n Q pc' D st) : WE X G A a Y E k n Q pc D (.int x :: st) := by subst hpc; exact fun M H locs ls hP hL => lv_if_ne C.ex C.cd hdg ht (fun h => kt h M H locs ls hP hL) (fun h => kf h M H locs ls hP hL)
theorem e_if_neT (C : CX X G A own cc nL ret rm) {x : Int32} {off : Int} {tgt : Nat} (hdg : decode cc pc = .ok (.ifCond .ne off, 3)) (ht : (pc : Int) + off = (tgt : Int)) (hc : ¬ x = 0) (kt : WE X G A a Y E k n Q tgt D st) : WE X G A a Y E k n Q pc D (.int x :: st) := e_if_ne rfl C hdg ht (fun _ => kt) (fun h => absurd hc (fun z => z h))
theorem e_if_neF (hpc : pc + 3 = pc') (C : CX X G A own cc nL ret rm) {x : Int32} {off : Int} {tgt : Nat} (hdg : decode cc pc = .ok (.ifCond .ne off, 3)) (ht : (pc : Int) + off = (tgt : Int)) (hc : x = 0) (kf : WE X G A a Y E k n Q pc' D st) : WE X G A a Y E k n Q pc D (.int x :: st) := e_if_ne hpc C hdg ht (fun h => absurd hc h) (fun _ => kf)
theorem e_ic_ne (hpc : pc + 3 = pc') (C : CX X G A own cc nL ret rm) {x y : Int32} {off : Int} {tgt : Nat} (hdg : decode cc pc = .ok (.if_icmp .ne off, 3)) (ht : (pc : Int) + off = (tgt : Int)) (kt : ¬ x = y → WE X G A a Y E k n Q tgt D st) (kf : x = y → WE X G A a Y E k n Q pc' D st) : WE X G A a Y E k n Q pc D (.int y :: .int x :: st) := by subst hpc; exact fun M H locs ls hP hL => lv_icmp_ne C.ex C.cd hdg ht (fun h => kt h M H locs ls hP hL) (fun h => kf h M H locs ls hP hL)
theorem e_ic_neT (C : CX X G A own cc nL ret rm) {x y : Int32} {off : Int} {tgt : Nat} (hdg : decode cc pc = .ok (.if_icmp .ne off, 3)) (ht : (pc : Int) + off = (tgt : Int)) (hc : ¬ x = y) (kt : WE X G A a Y E k n Q tgt D st) : WE X G A a Y E k n Q pc D (.int y :: .int x :: st) := e_ic_ne rfl C hdg ht (fun _ => kt) (fun h => absurd hc (fun z => z h))
theorem e_ic_neF (hpc : pc + 3 = pc') (C : CX X G A own cc nL ret rm) {x y : Int32} {off : Int} {tgt : Nat} (hdg : decode cc pc = .ok (.if_icmp .ne off, 3)) (ht : (pc : Int) + off = (tgt : Int)) (hc : x = y) (kf : WE X G A a Y E k n Q pc' D st) : WE X G A a Y E k n Q pc D (.int y :: .int x :: st) := e_ic_ne hpc C hdg ht (fun h => absurd hc h) (fun _ => kf)
theorem e_if_lt (hpc : pc + 3 = pc') (C : CX X G A own cc nL ret rm) {x : Int32} {off : Int} {tgt : Nat} (hdg : decode cc pc = .ok (.ifCond .lt off, 3)) (ht : (pc : Int) + off = (tgt : Int)) (kt : x < 0 → WE X G A a Y E k n Q tgt D st) (kf : ¬ x < 0 → WE X G A a Y E k n Q pc' D st) : WE X G A a Y E k n Q pc D (.int x :: st) := by subst hpc; exact fun M H locs ls hP hL => lv_if_lt C.ex C.cd hdg ht (fun h => kt h M H locs ls hP hL) (fun h => kf h M H locs ls hP hL)
theorem e_if_ltT (C : CX X G A own cc nL ret rm) {x : Int32} {off : Int} {tgt : Nat} (hdg : decode cc pc = .ok (.ifCond .lt off, 3)) (ht : (pc : Int) + off = (tgt : Int)) (hc : x < 0) (kt : WE X G A a Y E k n Q tgt D st) : WE X G A a Y E k n Q pc D (.int x :: st) := e_if_lt rfl C hdg ht (fun _ => kt) (fun h => absurd hc h)
theorem e_if_ltF (hpc : pc + 3 = pc') (C : CX X G A own cc nL ret rm) {x : Int32} {off : Int} {tgt : Nat} (hdg : decode cc pc = .ok (.ifCond .lt off, 3)) (ht : (pc : Int) + off = (tgt : Int)) (hc : ¬ x < 0) (kf : WE X G A a Y E k n Q pc' D st) : WE X G A a Y E k n Q pc D (.int x :: st) := e_if_lt hpc C hdg ht (fun h => absurd h hc) (fun _ => kf)
theorem e_ic_lt (hpc : pc + 3 = pc') (C : CX X G A own cc nL ret rm) {x y : Int32} {off : Int} {tgt : Nat} (hdg : decode cc pc = .ok (.if_icmp .lt off, 3)) (ht : (pc : Int) + off = (tgt : Int)) (kt : x < y → WE X G A a Y E k n Q tgt D st) (kf : ¬ x < y → WE X G A a Y E k n Q pc' D st) : WE X G A a Y E k n Q pc D (.int y :: .int x :: st) := by subst hpc; exact fun M H locs ls hP hL => lv_icmp_lt C.ex C.cd hdg ht (fun h => kt h M H locs ls hP hL) (fun h => kf h M H locs ls hP hL)
theorem e_ic_ltT (C : CX X G A own cc nL ret rm) {x y : Int32} {off : Int} {tgt : Nat} (hdg : decode cc pc = .ok (.if_icmp .lt off, 3)) (ht : (pc : Int) + off = (tgt : Int)) (hc : x < y) (kt : WE X G A a Y E k n Q tgt D st) : WE X G A a Y E k n Q pc D (.int y :: .int x :: st) := e_ic_lt rfl C hdg ht (fun _ => kt) (fun h => absurd hc h)
theorem e_ic_ltF (hpc : pc + 3 = pc') (C : CX X G A own cc nL ret rm) {x y : Int32} {off : Int} {tgt : Nat} (hdg : decode cc pc = .ok (.if_icmp .lt off, 3)) (ht : (pc : Int) + off = (tgt : Int)) (hc : ¬ x < y) (kf : WE X G A a Y E k n Q pc' D st) : WE X G A a Y E k n Q pc D (.int y :: .int x :: st) := e_ic_lt hpc C hdg ht (fun h => absurd h hc) (fun _ => kf)
theorem e_if_ge (hpc : pc + 3 = pc') (C : CX X G A own cc nL ret rm) {x : Int32} {off : Int} {tgt : Nat} (hdg : decode cc pc = .ok (.ifCond .ge off, 3)) (ht : (pc : Int) + off = (tgt : Int)) (kt : 0 ≤ x → WE X G A a Y E k n Q tgt D st) (kf : ¬ 0 ≤ x → WE X G A a Y E k n Q pc' D st) : WE X G A a Y E k n Q pc D (.int x :: st) := by subst hpc; exact fun M H locs ls hP hL => lv_if_ge C.ex C.cd hdg ht (fun h => kt h M H locs ls hP hL) (fun h => kf h M H locs ls hP hL)
theorem e_if_geT (C : CX X G A own cc nL ret rm) {x : Int32} {off : Int} {tgt : Nat} (hdg : decode cc pc = .ok (.ifCond .ge off, 3)) (ht : (pc : Int) + off = (tgt : Int)) (hc : 0 ≤ x) (kt : WE X G A a Y E k n Q tgt D st) : WE X G A a Y E k n Q pc D (.int x :: st) := e_if_ge rfl C hdg ht (fun _ => kt) (fun h => absurd hc h)
theorem e_if_geF (hpc : pc + 3 = pc') (C : CX X G A own cc nL ret rm) {x : Int32} {off : Int} {tgt : Nat} (hdg : decode cc pc = .ok (.ifCond .ge off, 3)) (ht : (pc : Int) + off = (tgt : Int)) (hc : ¬ 0 ≤ x) (kf : WE X G A a Y E k n Q pc' D st) : WE X G A a Y E k n Q pc D (.int x :: st) := e_if_ge hpc C hdg ht (fun h => absurd h hc) (fun _ => kf)
theorem e_ic_ge (hpc : pc + 3 = pc') (C : CX X G A own cc nL ret rm) {x y : Int32} {off : Int} {tgt : Nat} (hdg : decode cc pc = .ok (.if_icmp .ge off, 3)) (ht : (pc : Int) + off = (tgt : Int)) (kt : y ≤ x → WE X G A a Y E k n Q tgt D st) (kf : ¬ y ≤ x → WE X G A a Y E k n Q pc' D st) : WE X G A a Y E k n Q pc D (.int y :: .int x :: st) := by subst hpc; exact fun M H locs ls hP hL => lv_icmp_ge C.ex C.cd hdg ht (fun h => kt h M H locs ls hP hL) (fun h => kf h M H locs ls hP hL)
theorem e_ic_geT (C : CX X G A own cc nL ret rm) {x y : Int32} {off : Int} {tgt : Nat} (hdg : decode cc pc = .ok (.if_icmp .ge off, 3)) (ht : (pc : Int) + off = (tgt : Int)) (hc : y ≤ x) (kt : WE X G A a Y E k n Q tgt D st) : WE X G A a Y E k n Q pc D (.int y :: .int x :: st) := e_ic_ge rfl C hdg ht (fun _ => kt) (fun h => absurd hc h)
theorem e_ic_geF (hpc : pc + 3 = pc') (C : CX X G A own cc nL ret rm) {x y : Int32} {off : Int} {tgt : Nat} (hdg : decode cc pc = .ok (.if_icmp .ge off, 3)) (ht : (pc : Int) + off = (tgt : Int)) (hc : ¬ y ≤ x) (kf : WE X G A a Y E k n Q pc' D st) : WE X G A a Y E k n Q pc D (.int y :: .int x :: st) := e_ic_ge hpc C hdg ht (fun h => absurd h hc) (fun _ => kf)
theorem e_if_gt (hpc : pc + 3 = pc') (C : CX X G A own cc nL ret rm) {x : Int32} {off : Int} {tgt : Nat} (hdg : decode cc pc = .ok (.ifCond .gt off, 3)) (ht : (pc : Int) + off = (tgt : Int)) (kt : 0 < x → WE X G A a Y E k n Q tgt D st) (kf : ¬ 0 < x → WE X G A a Y E k n Q pc' D st) : WE X G A a Y E k n Q pc D (.int x :: st) := by subst hpc; exact fun M H locs ls hP hL => lv_if_gt C.ex C.cd hdg ht (fun h => kt h M H locs ls hP hL) (fun h => kf h M H locs ls hP hL)
theorem e_if_gtT (C : CX X G A own cc nL ret rm) {x : Int32} {off : Int} {tgt : Nat} (hdg : decode cc pc = .ok (.ifCond .gt off, 3)) (ht : (pc : Int) + off = (tgt : Int)) (hc : 0 < x) (kt : WE X G A a Y E k n Q tgt D st) : WE X G A a Y E k n Q pc D (.int x :: st) := e_if_gt rfl C hdg ht (fun _ => kt) (fun h => absurd hc h)
theorem e_if_gtF (hpc : pc + 3 = pc') (C : CX X G A own cc nL ret rm) {x : Int32} {off : Int} {tgt : Nat} (hdg : decode cc pc = .ok (.ifCond .gt off, 3)) (ht : (pc : Int) + off = (tgt : Int)) (hc : ¬ 0 < x) (kf : WE X G A a Y E k n Q pc' D st) : WE X G A a Y E k n Q pc D (.int x :: st) := e_if_gt hpc C hdg ht (fun h => absurd h hc) (fun _ => kf)
theorem e_ic_gt (hpc : pc + 3 = pc') (C : CX X G A own cc nL ret rm) {x y : Int32} {off : Int} {tgt : Nat} (hdg : decode cc pc = .ok (.if_icmp .gt off, 3)) (ht : (pc : Int) + off = (tgt : Int)) (kt : y < x → WE X G A a Y E k n Q tgt D st) (kf : ¬ y < x → WE X G A a Y E k n Q pc' D st) : WE X G A a Y E k n Q pc D (.int y :: .int x :: st) := by subst hpc; exact fun M H locs ls hP hL => lv_icmp_gt C.ex C.cd hdg ht (fun h => kt h M H locs ls hP hL) (fun h => kf h M H locs ls hP hL)
theorem e_ic_gtT (C : CX X G A own cc nL ret rm) {x y : Int32} {off : Int} {tgt : Nat} (hdg : decode cc pc = .ok (.if_icmp .gt off, 3)) (ht : (pc : Int) + off = (tgt : Int)) (hc : y < x) (kt : WE X G A a Y E k n Q tgt D st) : WE X G A a Y E k n Q pc D (.int y :: .int x :: st) := e_ic_gt rfl C hdg ht (fun _ => kt) (fun h => absurd hc h)
theorem e_ic_gtF (hpc : pc + 3 = pc') (C : CX X G A own cc nL ret rm) {x y : Int32} {off : Int} {tgt : Nat} (hdg : decode cc pc = .ok (.if_icmp .gt off, 3)) (ht : (pc : Int) + off = (tgt : Int)) (hc : ¬ y < x) (kf : WE X G A a Y E k n Q pc' D st) : WE X G A a Y E k n Q pc D (.int y :: .int x :: st) := e_ic_gt hpc C hdg ht (fun h => absurd h hc) (fun _ => kf)
theorem e_if_le (hpc : pc + 3 = pc') (C : CX X G A own cc nL ret rm) {x : Int32} {off : Int} {tgt : Nat} (hdg : decode cc pc = .ok (.ifCond .le off, 3)) (ht : (pc : Int) + off = (tgt : Int)) (kt : x ≤ 0 → WE X G A a Y E k n Q tgt D st) (kf : ¬ x ≤ 0 → WE X G A a Y E k n Q pc' D st) : WE X G A a Y E k n Q pc D (.int x :: st) := by subst hpc; exact fun M H locs ls hP hL => lv_if_le C.ex C.cd hdg ht (fun h => kt h M H locs ls hP hL) (fun h => kf h M H locs ls hP hL)
theorem e_if_leT (C : CX X G A own cc nL ret rm) {x : Int32} {off : Int} {tgt : Nat} (hdg : decode cc pc = .ok (.ifCond .le off, 3)) (ht : (pc : Int) + off = (tgt : Int)) (hc : x ≤ 0) (kt : WE X G A a Y E k n Q tgt D st) : WE X G A a Y E k n Q pc D (.int x :: st) := e_if_le rfl C hdg ht (fun _ => kt) (fun h => absurd hc h)
theorem e_if_leF (hpc : pc + 3 = pc') (C : CX X G A own cc nL ret rm) {x : Int32} {off : Int} {tgt : Nat} (hdg : decode cc pc = .ok (.ifCond .le off, 3)) (ht : (pc : Int) + off = (tgt : Int)) (hc : ¬ x ≤ 0) (kf : WE X G A a Y E k n Q pc' D st) : WE X G A a Y E k n Q pc D (.int x :: st) := e_if_le hpc C hdg ht (fun h => absurd h hc) (fun _ => kf)
theorem e_ic_le (hpc : pc + 3 = pc') (C : CX X G A own cc nL ret rm) {x y : Int32} {off : Int} {tgt : Nat} (hdg : decode cc pc = .ok (.if_icmp .le off, 3)) (ht : (pc : Int) + off = (tgt : Int)) (kt : x ≤ y → WE X G A a Y E k n Q tgt D st) (kf : ¬ x ≤ y → WE X G A a Y E k n Q pc' D st) : WE X G A a Y E k n Q pc D (.int y :: .int x :: st) := by subst hpc; exact fun M H locs ls hP hL => lv_icmp_le C.ex C.cd hdg ht (fun h => kt h M H locs ls hP hL) (fun h => kf h M H locs ls hP hL)
theorem e_ic_leT (C : CX X G A own cc nL ret rm) {x y : Int32} {off : Int} {tgt : Nat} (hdg : decode cc pc = .ok (.if_icmp .le off, 3)) (ht : (pc : Int) + off = (tgt : Int)) (hc : x ≤ y) (kt : WE X G A a Y E k n Q tgt D st) : WE X G A a Y E k n Q pc D (.int y :: .int x :: st) := e_ic_le rfl C hdg ht (fun _ => kt) (fun h => absurd hc h)
theorem e_ic_leF (hpc : pc + 3 = pc') (C : CX X G A own cc nL ret rm) {x y : Int32} {off : Int} {tgt : Nat} (hdg : decode cc pc = .ok (.if_icmp .le off, 3)) (ht : (pc : Int) + off = (tgt : Int)) (hc : ¬ x ≤ y) (kf : WE X G A a Y E k n Q pc' D st) : WE X G A a Y E k n Q pc D (.int y :: .int x :: st) := e_ic_le hpc C hdg ht (fun h => absurd h hc) (fun _ => kf)
theorem e_tabC (C : CX X G A own cc nL ret rm) {dflt lo hi : Int} {offs : Array Int} {len : Nat} {x v : Int32} {off : Int} {tgt : Nat} (hx : x = v) (hdg : decode cc pc = .ok (.tableswitch dflt lo hi offs, len)) (h1 : ¬ v.toInt < lo) (h2 : ¬ hi < v.toInt) (ho : offs[(v.toInt - lo).toNat]? = some off) (ht : (pc : Int) + off = (tgt : Int)) (kk : WE X G A a Y E k n Q tgt D st) : WE X G A a Y E k n Q pc D (.int x :: st) := by subst hx; exact fun M H locs ls hP hL => lv_tableIn C.ex C.cd hdg h1 h2 ho ht (kk M H locs ls hP hL)
theorem e_tabO (C : CX X G A own cc nL ret rm) {dflt lo hi : Int} {offs : Array Int} {len : Nat} {x : Int32} {tgt : Nat} (hdg : decode cc pc = .ok (.tableswitch dflt lo hi offs, len)) (h : x.toInt < lo ∨ hi < x.toInt) (ht : (pc : Int) + dflt = (tgt : Int)) (kk : WE X G A a Y E k n Q tgt D st) : WE X G A a Y E k n Q pc D (.int x :: st) := fun M H locs ls hP hL => lv_tableOut C.ex C.cd hdg h ht (kk M H locs ls hP hL)
theorem e_ldcS (hpc : pc + 2 = pc') (C : CX X G A own cc nL ret rm) {idx i : Nat} (hi : 19 ≤ i ∧ i < 25) (ho : (sofs.getD i ("", 0, "")).1 = own) (hx : (sofs.getD i ("", 0, "")).2.1 = idx) (hdg : decode cc pc = .ok (.ldc idx, 2)) (kk : WE X G A a Y E k n Q pc' D (.ref (gK G i) :: st)) : WE X G A a Y E k n Q pc D st := by
  subst hpc; subst ho; subst hx
  exact fun M H locs ls hP hL => va_ldcS C.ex C.cd C.ow (C.ev.2.2.2.2.2.2.2.2.1 i hi) hdg (kk M H locs ls hP hL)
/-- the script -/
theorem CX.scr (C : CX X G A own cc nL ret rm) : va_T .int (gst G 4) (gst G 5) (fun j => .int (nI (gst G (6 + j)))) A (xS X) (xS X).heap := C.ev.2.2.2.2.2.2.2.2.2.2.2.2
theorem e_slen (hpc : pc + 1 = pc') (C : CX X G A own cc nL ret rm) (hdg : decode cc pc = .ok (.arraylength, 1)) (kk : WE X G A a Y E k n Q pc' D (.int (nI (gst G 5)) :: st)) : WE X G A a Y E k n Q pc D (.ref (gst G 4) :: st) := by
  subst hpc
  exact fun M H locs ls hP hL => va_tlen C.ex C.cd C.scr hP.2.2.1 rfl hdg (kk M H locs ls hP hL)
theorem e_sald (hpc : pc + 1 = pc') (C : CX X G A own cc nL ret rm) {i : Int32} (hin : vp_in i (gst G 5)) (hdg : decode cc pc = .ok (.iaload, 1)) (kk : WE X G A a Y E k n Q pc' D (.int (nI (gst G (6 + i.toNatClampNeg))) :: st)) : WE X G A a Y E k n Q pc D (.int i :: .ref (gst G 4) :: st) := by
  subst hpc
  exact fun M H locs ls hP hL => va_ti C.ex C.cd C.scr hP.2.2.1 hin rfl hdg (kk M H locs ls hP hL)
/-- own arrays -/
theorem e_iald (hpc : pc + 1 = pc') (C : CX X G A own cc nL ret rm) {b len : Nat} {z : Nat → Int32} {i : Int32} (hb : E b = some (.inl (gc G 0, len, .inl z))) (hin : vp_in i len) (hdg : decode cc pc = .ok (.iaload, 1)) (kk : WE X G A a Y E k n Q pc' D (.int (z i.toNatClampNeg) :: st)) : WE X G A a Y E k n Q pc D (.int i :: .ref b :: st) := by
  subst hpc
  exact fun M H locs ls hP hL => va_iald C.ex C.cd C.K (hP1 (hP.2.2.2.2.1 _ _ hb)) 0 0 rfl rfl hin hdg (kk M H locs ls hP hL)
theorem e_lald (hpc : pc + 1 = pc') (C : CX X G A own cc nL ret rm) {b len : Nat} {z : Nat → Int64} {i : Int32} (hb : E b = some (.inl (gc G 5, len, .inr (.inl z)))) (hin : vp_in i len) (hdg : decode cc pc = .ok (.laload, 1)) (kk : WE X G A a Y E k n Q pc' D (.long (z i.toNatClampNeg) :: st)) : WE X G A a Y E k n Q pc D (.int i :: .ref b :: st) := by
  subst hpc
  exact fun M H locs ls hP hL => va_lald C.ex C.cd C.K (hP1 (hP.2.2.2.2.1 _ _ hb)) 0 5 rfl rfl hin hdg (kk M H locs ls hP hL)
theorem PE.up {M : Mem} {H H1 : Heap} {locs : List Loc} {b i : Nat} {e : va_E} (hP : PE X G A a Y E M H locs) (hb : E b ≠ none) (he : va_at G.1 vwCl (b, e) H1) (z : H1.size = H.size) (oq : ∀ q : Nat, q ≠ b → H1[q]? = H[q]?) : PE X G A a Y (mup E b e) M H1 (locs ++ [⟨b, i⟩]) := by
  obtain ⟨h1, h2, h3, h4, h5, h6, h7⟩ := hP
  refine ⟨h1, fun q hq => ?_, h3.put z oq (h7 b hb), fun q e' hq => (h4 q e' hq).kept (oq q (fun hqb => ?_)), h5.up he (fun q _ h => oq q h), h6, mup_A h7 (h7 b hb)⟩
  · by_cases hqb : q = b
    · subst hqb; exact h2 q hb
    · rw [mup_n hqb] at hq; exact h2 q hq
  · subst hqb
    rw [h2 q hb] at hq
    cases hq
theorem e_iast (hpc : pc + 1 = pc') (C : CX X G A own cc nL ret rm) {b len : Nat} {z : Nat → Int32} {i x : Int32} (hb : E b = some (.inl (gc G 0, len, .inl z))) (hin : vp_in i len) (hdg : decode cc pc = .ok (.iastore, 1)) (kk : WE X G A a Y (mup E b (.inl (gc G 0, len, .inl (upd z i.toNatClampNeg x)))) k n Q pc' D st) : WE X G A a Y E k n Q pc D (.int x :: .int i :: .ref b :: st) := by
  subst hpc
  intro M H locs ls hP hL
  refine W.iast C.ex C.cd (hP.2.2.2.2.1 _ _ hb) ((C.K.2 0 _ rfl).1 len (fun j => .int (z j))) (fun q => by cases q) (by show ¬ (i < 0 ∨ (arrV _ _ _).slots.size ≤ _); rw [arrV_size]; exact hin) rfl rfl hdg fun H1 e z1 oq => ?_
  refine kk M H1 _ ls (hP.up (by rw [hb]; simp) ?_ z1 oq) hL
  show H1[b]? = some (vp_cell _ _)
  rw [e, vp_cell_i, vp_cell_i, arrV_store]
  congr 2
  funext q
  by_cases hq : q = i.toNatClampNeg
  · subst hq
    simp [updV, upd]
  · simp [updV, upd, hq]
theorem e_last (hpc : pc + 1 = pc') (C : CX X G A own cc nL ret rm) {b len : Nat} {z : Nat → Int64} {i : Int32} {x : Int64} (hb : E b = some (.inl (gc G 5, len, .inr (.inl z)))) (hin : vp_in i len) (hdg : decode cc pc = .ok (.lastore, 1)) (kk : WE X G A a Y (mup E b (.inl (gc G 5, len, .inr (.inl (vp_updL z i.toNatClampNeg x))))) k n Q pc' D st) : WE X G A a Y E k n Q pc D (.long x :: .int i :: .ref b :: st) := by
  subst hpc
  intro M H locs ls hP hL
  refine W.last C.ex C.cd (hP.2.2.2.2.1 _ _ hb) ((C.K.2 5 _ rfl).1 len (fun j => .long (z j))) (fun q => by cases q) (by show ¬ (i < 0 ∨ (arrV _ _ _).slots.size ≤ _); rw [arrV_size]; exact hin) rfl rfl hdg fun H1 e z1 oq => ?_
  refine kk M H1 _ ls (hP.up (by rw [hb]; simp) ?_ z1 oq) hL
  show H1[b]? = some (vp_cell _ _)
  rw [e, vp_cell_l, vp_cell_l, arrV_store]
  congr 2
  funext q
  by_cases hq : q = i.toNatClampNeg
  · subst hq
    simp [updV, vp_updL]
  · simp [updV, vp_updL, hq]
theorem PE.new {M : Mem} {H H1 : Heap} {locs : List Loc} {e : va_E} (C : CX X G A own cc nL ret rm) (hP : PE X G A a Y E M H locs) (he : va_at G.1 vwCl (H.size, e) H1) (z : H1.size = H.size + 1) (oq : ∀ q : Nat, q < H.size → H1[q]? = H[q]?) : PE X G A a Y (mup E H.size e) M H1 locs ∧ E H.size = none := by
  obtain ⟨h1, h2, h3, h4, h5, h6, h7⟩ := hP
  have ha : A H.size := C.hA _ h3.1
  refine ⟨⟨h1, fun q hq => ?_, ⟨Nat.le_trans h3.1 (by omega), fun x g1 g2 => (oq x (Nat.lt_of_lt_of_le g1 h3.1)).trans (h3.2.1 x g1 g2), h3.2.2⟩, fun q e' hq => (h4 q e' hq).kept (oq q (h4.lt (by rw [hq]; simp))), h5.up he (fun q h _ => oq q h), h6, mup_A h7 ha⟩, h5.none⟩
  by_cases hqb : q = H.size
  · subst hqb; exact h4.none
  · rw [mup_n hqb] at hq; exact h2 q hq
theorem e_newI (hpc : pc + 2 = pc') (C : CX X G A own cc nL ret rm) {i : Int32} {N : Nat} (hw : Cond.arrayClass .int ∈ AW) (hi : ¬ i < 0) (hN : i.toNatClampNeg = N) (hs : Nat.ble (N * 4) 536870912 = true) (h1 : Nat.ble (k + 1) rm.cells = true) (h2 : Nat.ble (n + N) rm.slots = true) (hdg : decode cc pc = .ok (.newarray .int, 2)) (kk : ∀ b : Nat, E b = none → WE X G A a Y (mup E b (.inl (gc G 0, N, .inl (fun _ => 0)))) (k + 1) (n + N) Q pc' D (.ref b :: st)) : WE X G A a Y E k n Q pc D (.int i :: st) := by
  subst hpc
  intro M H locs ls hP hL
  refine va_newaK C.ex C.cd (atype := .int) (C.ts _ hw) rfl hdg rfl hi hN (Nat.le_of_ble_eq_true hs) (by rw [C.ro]; exact Nat.le_of_ble_eq_true h1) (by rw [C.ro]; exact Nat.le_of_ble_eq_true h2) rfl fun H1 cA e1 z1 o1 hAr hNm => ?_
  have hcA : cA = gc G 0 := Option.some.inj (hNm.symm.trans (C.K.2 0 _ rfl).2)
  subst hcA
  obtain ⟨g1, g2⟩ := PE.new C hP (e := .inl (gc G 0, N, .inl (fun _ => 0))) (show H1[H.size]? = some (vp_cell _ _) by rw [e1, vp_cell_i]; rfl) z1 o1
  exact kk H.size g2 M H1 locs ls g1 hL
theorem e_newL (hpc : pc + 2 = pc') (C : CX X G A own cc nL ret rm) {i : Int32} {N : Nat} (hw : Cond.arrayClass .long ∈ AW) (hi : ¬ i < 0) (hN : i.toNatClampNeg = N) (hs : Nat.ble (N * 8) 536870912 = true) (h1 : Nat.ble (k + 1) rm.cells = true) (h2 : Nat.ble (n + N) rm.slots = true) (hdg : decode cc pc = .ok (.newarray .long, 2)) (kk : ∀ b : Nat, E b = none → WE X G A a Y (mup E b (.inl (gc G 5, N, .inr (.inl (fun _ => 0))))) (k + 1) (n + N) Q pc' D (.ref b :: st)) : WE X G A a Y E k n Q pc D (.int i :: st) := by
  subst hpc
  intro M H locs ls hP hL
  refine va_newaK C.ex C.cd (atype := .long) (C.ts _ hw) rfl hdg rfl hi hN (Nat.le_of_ble_eq_true hs) (by rw [C.ro]; exact Nat.le_of_ble_eq_true h1) (by rw [C.ro]; exact Nat.le_of_ble_eq_true h2) rfl fun H1 cA e1 z1 o1 hAr hNm => ?_
  have hcA : cA = gc G 5 := Option.some.inj (hNm.symm.trans (C.K.2 5 _ rfl).2)
  subst hcA
  obtain ⟨g1, g2⟩ := PE.new C hP (e := .inl (gc G 5, N, .inr (.inl (fun _ => 0)))) (show H1[H.size]? = some (vp_cell _ _) by rw [e1, vp_cell_l]; rfl) z1 o1
  exact kk H.size g2 M H1 locs ls g1 hL
theorem e_new (hpc : pc + 3 = pc') (C : CX X G A own cc nL ret rm) {idx ci N : Nat} {ty : Nat → FieldType} {fs : List Value} (hN : CN own idx ci N ty) (hfs : ∀ j, j < N → defaultValue (ty j) = vp_V fs j) (h1 : Nat.ble (k + 1) rm.cells = true) (h2 : Nat.ble (n + N) rm.slots = true) (hdg : decode cc pc = .ok (.new idx, 3)) (kk : ∀ b : Nat, E b = none → WE X G A a Y (mup E b (.inr (ci, fs))) (k + 1) (n + N) Q pc' D (.ref b :: st)) : WE X G A a Y E k n Q pc D st := by
  subst hpc
  intro M H locs ls hP hL
  obtain ⟨Cn, T, hc, hcl, hinst, hini, hin, hty⟩ := hN
  have hKn := C.K.1 ci _ hc
  refine W.newcK C.ex C.cd C.ow (C.ts _ hcl) (C.ts _ hinst) (C.ts _ hini) rfl hdg (by rw [C.ro]; exact Nat.le_of_ble_eq_true h1) (by rw [C.ro]; exact Nat.le_of_ble_eq_true h2) hKn.2.1 rfl fun H1 kC hkC e1 z1 o1 => ?_
  obtain ⟨g1, g2⟩ := PE.new C hP (e := .inr (ci, fs)) ⟨_, hc, (u_born ty C.ts hin hKn hkC e1 hty).to hfs⟩ z1 o1
  exact kk H.size g2 M H1 locs ls g1 hL
/-- a call over the map M, another map N beside it -/
theorem c_goF (C : CX X G A own cc nL ret rm) {M N : Mem} {H : Heap} {locs : List Loc} {ls : Array Slot} {mc ms : Nat} {st0 : List Value} {ag : Array Value} {Post : Option Value → Mem → Prop} (hS : va_S A (xS X).heap H locs) (hA : ∀ q, M q ≠ none → A q) (hN : HM G N H) (hd : ∀ q, N q ≠ none → M q = none)
    (hr : va_Run (xP X) (xL X) (xE X) (xR X) (xS X) (xM X) (xA X) (xB X) (xT X) (xC X) H locs k n mc ms (F0 (xM X) pc ls st0) st (QC G (fr M H.size) Post ag) (fr M H.size))
    (kk : ∀ (v : Option Value) (M' : Mem) (H' : Heap) (locs' : List Loc), Post v M' → va_S A (xS X).heap H' locs' → HM G M' H' → HM G N H' → (∀ q, M' q ≠ none → A q) → (∀ q, N q ≠ none → M' q = none) → WX X H' locs' (k + mc) (n + ms) Q (F0 (xM X) (pc + 3) ls (v.toList ++ st))) : WX X H locs k n Q (F0 (xM X) pc ls st0) := by
  have hf : ∀ q, fr M H.size q → A q := fun q h => h.elim (hA q) (fun h => C.hA q (Nat.le_trans hS.1 h))
  have hnf : ∀ q, N q ≠ none → ¬ fr M H.size q := fun q h z => z.elim (fun z => z (hd q h)) (fun z => absurd (hN.lt h) (Nat.not_lt.mpr z))
  intro T hT Y
  obtain ⟨v, st₀, t, T', L1, h0, Y', hL1, e1, e2, ⟨⟨v', M', hv, hp, hm, hA'⟩, hz, hk⟩, go⟩ := hr T hT Y
  cases hv
  rw [h0] at hz hk
  obtain ⟨t2, a1, b1⟩ := kk v M' T'.heap (locs ++ L1) hp ⟨Nat.le_trans hS.1 (by rw [e1]; exact hz), fun q h1 h2 => by rw [e1, hk q (Nat.lt_of_lt_of_le h1 hS.1) (fun z => h2 (hf q z))]; exact hS.2.1 q h1 h2, fun q hq => by
      rcases List.mem_append.mp hq with h | h
      · exact hS.2.2 q h
      · exact hf _ (hL1 q h)⟩ (by rw [e1]; exact hm) (fun q e hq => (hN q e hq).kept (by rw [e1]; exact hk q (hN.lt (by rw [hq]; simp)) (hnf q (by rw [hq]; simp)))) (fun q h => hf q (hA' q h)) (fun q h => by
      cases hq : M' q with
      | none => rfl
      | some e => exact absurd (hA' q (by rw [hq]; simp)) (hnf q h)) T' rfl Y'
  exact ⟨t2, go t2 a1, b1⟩
/-- calls over the world -/
theorem e_cV {k' n' : Nat} (hpc : pc + 3 = pc') (C : CX X G A own cc nL ret rm) {idx ci na : Nat} {i : Id3} {l : List (Nat × Id3)} {As st0 : List Value} {y : MethodName} {cc' : ByteArray} {nL' : Nat} {ret' : Option FieldType} {rm' : Room} {Post : Option Value → YT → Prop} (hct : CtY (xL X) G a y cc' nL' ret' rm' (.ref (a i) :: As) Y Post) (hy : MV y cc' nL' ret' na) (hl : Cond.methodLink own idx y ∈ AW) (hi : vld i) (ht : tpl i = .inl (ci, l)) (h5 : Nat.beq i.1 5 = false) (hc : (vwCl[ci]?).map (fun q => q.1) = some y.cls) (hst0 : st0 = As.reverse ++ .ref (a i) :: st) (hlen : As.length = na) (hw : (st.map fun v => v.category).sum ≤ 8) (hrm : roomOk rm rm' nL' k n = true) (hdg : decode cc pc = .ok (.invokevirtual idx, 3)) (hk : k + rm'.cells = k') (hn : n + rm'.slots = n') (kk : ∀ (v : Option Value) (Y' : YT), Post v Y' → WE X G A a Y' E k' n' Q pc' D (v.toList ++ st)) : WE X G A a Y E k n Q pc D st0 := by
  subst hpc hk hn
  intro M H locs ls hP hL
  obtain ⟨h1, h2, h3, h4, h5', h6, h7⟩ := hP
  have hb := h1.1 i hi (fun e => by rw [e] at h5; cases h5)
  rw [cel, ht] at hb
  obtain ⟨g1, g2, g3, g4⟩ := roomOk_at hrm
  obtain ⟨hcode, hini, hd, hinst, hsel⟩ := hy
  obtain ⟨q, hq1, hq2⟩ := Option.map_eq_some_iff.mp hc
  have hrc := va_recv C.K (hP1 (h4 _ _ hb)) hq1 (q0 := 0) rfl
  rw [hq2] at hrc
  exact c_goF C h3 h6 h5' h2 (va_runV (As := As) (rest := st) ⟨C.ex, C.cd, C.ml, C.ow, C.ts⟩ (hct M h1 H.size) (C := y.cls) (n := na) ⟨callB_of na C.ts (c_in hcode) rfl rfl rfl (C.ts _ hini) (C.ts _ hl) hd (by rw [C.ro]; exact ⟨g1, g2⟩), C.ts _ hinst, C.ts _ hsel⟩ ⟨c_blind, hrc, fun U hU hW => c_pre C h3 h4 h6 U hU hW⟩ rfl hlen (hL.1.trans C.ml) hst0 (lv_room hw) hdg (by rw [C.ro]; exact ⟨g3, g4⟩)) (fun v M' H' locs' hp q1 q2 q3 q4 q5 => by obtain ⟨Y', r1, r2⟩ := hp; exact kk v Y' r2 M' H' locs' ls ⟨r1, q5, q1, q2, q3, q4, h7⟩ hL)
theorem e_cS {k' n' : Nat} (hpc : pc + 3 = pc') (C : CX X G A own cc nL ret rm) {idx na : Nat} {As st0 : List Value} {y : MethodName} {cc' : ByteArray} {nL' : Nat} {ret' : Option FieldType} {rm' : Room} {Post : Option Value → YT → Prop} (hct : CtY (xL X) G a y cc' nL' ret' rm' As Y Post) (hy : MS y cc' nL' ret' na) (hl : Cond.methodLink own idx y ∈ AW) (hst0 : st0 = As.reverse ++ st) (hlen : As.length = na) (hw : (st.map fun v => v.category).sum ≤ 8) (hrm : roomOk rm rm' nL' k n = true) (hdg : decode cc pc = .ok (.invokestatic idx, 3)) (hk : k + rm'.cells = k') (hn : n + rm'.slots = n') (kk : ∀ (v : Option Value) (Y' : YT), Post v Y' → WE X G A a Y' E k' n' Q pc' D (v.toList ++ st)) : WE X G A a Y E k n Q pc D st0 := by
  subst hpc hk hn
  intro M H locs ls hP hL
  obtain ⟨h1, h2, h3, h4, h5', h6, h7⟩ := hP
  obtain ⟨g1, g2, g3, g4⟩ := roomOk_at hrm
  obtain ⟨hcode, hini, hd, hstat⟩ := hy
  exact c_goF C h3 h6 h5' h2 (va_runS (As := As) (rest := st) ⟨C.ex, C.cd, C.ml, C.ow, C.ts⟩ (hct M h1 H.size) (n := na) ⟨callB_of na C.ts (c_in hcode) rfl rfl rfl (C.ts _ hini) (C.ts _ hl) hd (by rw [C.ro]; exact ⟨g1, g2⟩), C.ts _ hstat⟩ ⟨c_blind, fun U hU hW => c_pre C h3 h4 h6 U hU hW⟩ rfl hlen (hL.1.trans C.ml) hst0 (lv_room hw) hdg (by rw [C.ro]; exact ⟨g3, g4⟩)) (fun v M' H' locs' hp q1 q2 q3 q4 q5 => by obtain ⟨Y', r1, r2⟩ := hp; exact kk v Y' r2 M' H' locs' ls ⟨r1, q5, q1, q2, q3, q4, h7⟩ hL)
/-- a question to the keeper that changes nothing, or the spare kiln alone -/
theorem e_q {k' n' : Nat} (hpc : pc + 3 = pc') (C : CX X G A own cc nL ret rm) {idx na : Nat} {As st0 : List Value} {y : MethodName} {cc' : ByteArray} {nL' : Nat} {ret' : Option FieldType} {rm' : Room} {R : Int32} (hct : CtY (xL X) G a y cc' nL' ret' rm' (.ref (a (2, 0, 0)) :: As) Y (PI (fun r Y' => r = R ∧ Y' = Y))) (hy : MV y cc' nL' ret' na) (hl : Cond.methodLink own idx y ∈ AW) (hc : some "KilnKeeper" = some y.cls) (hst0 : st0 = As.reverse ++ .ref (a (2, 0, 0)) :: st) (hlen : As.length = na) (hw : (st.map fun v => v.category).sum ≤ 8) (hrm : roomOk rm rm' nL' k n = true) (hdg : decode cc pc = .ok (.invokevirtual idx, 3)) (hk : k + rm'.cells = k') (hn : n + rm'.slots = n') (kk : WE X G A a Y E k' n' Q pc' D (.int R :: st)) : WE X G A a Y E k n Q pc D st0 :=
  e_cV hpc C hct hy hl (i := (2, 0, 0)) (v2 rfl) rfl rfl hc hst0 hlen hw hrm hdg hk hn (fun v Y' hp => by obtain ⟨r, rfl, rfl, rfl⟩ := hp; exact kk)
theorem e_f {k' n' : Nat} (hpc : pc + 3 = pc') (C : CX X G A own cc nL ret rm) {idx na : Nat} {As st0 : List Value} {y : MethodName} {cc' : ByteArray} {nL' : Nat} {ret' : Option FieldType} {rm' : Room} {R : Int32} (hct : CtY (xL X) G a y cc' nL' ret' rm' (.ref (a (2, 0, 0)) :: As) Y (PI (fun r Y' => r = R ∧ FrK Y Y' 1))) (hy : MV y cc' nL' ret' na) (hl : Cond.methodLink own idx y ∈ AW) (hc : some "KilnKeeper" = some y.cls) (hst0 : st0 = As.reverse ++ .ref (a (2, 0, 0)) :: st) (hlen : As.length = na) (hw : (st.map fun v => v.category).sum ≤ 8) (hrm : roomOk rm rm' nL' k n = true) (hdg : decode cc pc = .ok (.invokevirtual idx, 3)) (hk : k + rm'.cells = k') (hn : n + rm'.slots = n') (kk : ∀ Y' : YT, FrK Y Y' 1 → WE X G A a Y' E k' n' Q pc' D (.int R :: st)) : WE X G A a Y E k n Q pc D st0 :=
  e_cV hpc C hct hy hl (i := (2, 0, 0)) (v2 rfl) rfl rfl hc hst0 hlen hw hrm hdg hk hn (fun v Y' hp => by obtain ⟨r, rfl, rfl, h⟩ := hp; exact kk Y' h)
theorem e_i {k' n' : Nat} (hpc : pc + 3 = pc') (C : CX X G A own cc nL ret rm) {idx na : Nat} {As st0 : List Value} {y : MethodName} {cc' : ByteArray} {nL' : Nat} {ret' : Option FieldType} {rm' : Room} {Post : Int32 → YT → Prop} (hct : CtY (xL X) G a y cc' nL' ret' rm' (.ref (a (2, 0, 0)) :: As) Y (PI Post)) (hy : MV y cc' nL' ret' na) (hl : Cond.methodLink own idx y ∈ AW) (hc : some "KilnKeeper" = some y.cls) (hst0 : st0 = As.reverse ++ .ref (a (2, 0, 0)) :: st) (hlen : As.length = na) (hw : (st.map fun v => v.category).sum ≤ 8) (hrm : roomOk rm rm' nL' k n = true) (hdg : decode cc pc = .ok (.invokevirtual idx, 3)) (hk : k + rm'.cells = k') (hn : n + rm'.slots = n') (kk : ∀ (r : Int32) (Y' : YT), Post r Y' → WE X G A a Y' E k' n' Q pc' D (.int r :: st)) : WE X G A a Y E k n Q pc D st0 :=
  e_cV hpc C hct hy hl (i := (2, 0, 0)) (v2 rfl) rfl rfl hc hst0 hlen hw hrm hdg hk hn (fun v Y' hp => by obtain ⟨r, rfl, h⟩ := hp; exact kk r Y' h)
theorem e_Si {k' n' : Nat} (hpc : pc + 3 = pc') (C : CX X G A own cc nL ret rm) {idx na : Nat} {As st0 : List Value} {y : MethodName} {cc' : ByteArray} {nL' : Nat} {ret' : Option FieldType} {rm' : Room} {Post : Int32 → YT → Prop} (hct : CtY (xL X) G a y cc' nL' ret' rm' As Y (PI Post)) (hy : MS y cc' nL' ret' na) (hl : Cond.methodLink own idx y ∈ AW) (hst0 : st0 = As.reverse ++ st) (hlen : As.length = na) (hw : (st.map fun v => v.category).sum ≤ 8) (hrm : roomOk rm rm' nL' k n = true) (hdg : decode cc pc = .ok (.invokestatic idx, 3)) (hk : k + rm'.cells = k') (hn : n + rm'.slots = n') (kk : ∀ (r : Int32) (Y' : YT), Post r Y' → WE X G A a Y' E k' n' Q pc' D (.int r :: st)) : WE X G A a Y E k n Q pc D st0 :=
  e_cS hpc C hct hy hl hst0 hlen hw hrm hdg hk hn (fun v Y' hp => by obtain ⟨r, rfl, h⟩ := hp; exact kk r Y' h)
theorem e_Sl {k' n' : Nat} (hpc : pc + 3 = pc') (C : CX X G A own cc nL ret rm) {idx na : Nat} {As st0 : List Value} {y : MethodName} {cc' : ByteArray} {nL' : Nat} {ret' : Option FieldType} {rm' : Room} {Post : Int64 → YT → Prop} (hct : CtY (xL X) G a y cc' nL' ret' rm' As Y (PL Post)) (hy : MS y cc' nL' ret' na) (hl : Cond.methodLink own idx y ∈ AW) (hst0 : st0 = As.reverse ++ st) (hlen : As.length = na) (hw : (st.map fun v => v.category).sum ≤ 8) (hrm : roomOk rm rm' nL' k n = true) (hdg : decode cc pc = .ok (.invokestatic idx, 3)) (hk : k + rm'.cells = k') (hn : n + rm'.slots = n') (kk : ∀ (r : Int64) (Y' : YT), Post r Y' → WE X G A a Y' E k' n' Q pc' D (.long r :: st)) : WE X G A a Y E k n Q pc D st0 :=
  e_cS hpc C hct hy hl hst0 hlen hw hrm hdg hk hn (fun v Y' hp => by obtain ⟨r, rfl, h⟩ := hp; exact kk r Y' h)
theorem rok {R r : Room} {nL k n : Nat} (h1 : Nat.ble (r.frames + 1) R.frames = true) (h2 : Nat.ble (8 + (nL + 11) + r.locals) R.locals = true) (h3 : k + r.cells ≤ R.cells) (h4 : n + r.slots ≤ R.slots) : roomOk R r nL k n = true := by
  simp only [roomOk, Bool.and_eq_true]
  exact ⟨h1, h2, Nat.ble_eq.mpr h3, Nat.ble_eq.mpr h4⟩
/-- a static call over world and own cells -/
theorem e_cX {k' n' : Nat} (hpc : pc + 3 = pc') (C : CX X G A own cc nL ret rm) {idx na : Nat} {As st0 : List Value} {y : MethodName} {cc' : ByteArray} {nL' : Nat} {ret' : Option FieldType} {rm' : Room} {Post : Option Value → YT → Prop} (hct : CtE (xL X) G a y cc' nL' ret' rm' As Y E Post) (hy : MS y cc' nL' ret' na) (hl : Cond.methodLink own idx y ∈ AW) (hst0 : st0 = As.reverse ++ st) (hlen : As.length = na) (hw : (st.map fun v => v.category).sum ≤ 8) (hrm : roomOk rm rm' nL' k n = true) (hdg : decode cc pc = .ok (.invokestatic idx, 3)) (hk : k + rm'.cells = k') (hn : n + rm'.slots = n') (kk : ∀ (v : Option Value) (Y' : YT), Post v Y' → WE X G A a Y' E k' n' Q pc' D (v.toList ++ st)) : WE X G A a Y E k n Q pc D st0 := by
  subst hpc hk hn
  intro M H locs ls hP hL
  obtain ⟨h1, h2, h3, h4, h5', h6, h7⟩ := hP
  obtain ⟨g1, g2, g3, g4⟩ := roomOk_at hrm
  obtain ⟨hcode, hini, hd, hstat⟩ := hy
  have hAm : ∀ q, madd M E q ≠ none → A q := fun q h => (madd_ne h).elim (h6 q) (h7 q)
  exact c_goF (N := nilE) C h3 hAm (fun b e h => by cases h) (fun q h => absurd rfl h) (va_runS (As := As) (rest := st) ⟨C.ex, C.cd, C.ml, C.ow, C.ts⟩ (hct M h1 h2 H.size) (n := na) ⟨callB_of na C.ts (c_in hcode) rfl rfl rfl (C.ts _ hini) (C.ts _ hl) hd (by rw [C.ro]; exact ⟨g1, g2⟩), C.ts _ hstat⟩ ⟨c_blind, fun U hU hW => c_pre C h3 (HM_add h4 h5') hAm U hU hW⟩ rfl hlen (hL.1.trans C.ml) hst0 (lv_room hw) hdg (by rw [C.ro]; exact ⟨g3, g4⟩)) (fun v M' H' locs' hp q1 q2 _ q4 _ => by
    obtain ⟨M1, Y', r0, r1, r2, r3⟩ := hp
    subst r0
    exact kk v Y' r3 M1 H' locs' ls ⟨r2, r1, q1, HM_addM r1 q2, HM_addE q2, fun q h => q4 q (madd_ofM r1 h), fun q h => q4 q (madd_ofE h)⟩ hL)
/-- calls over the own cells: the world stays -/
theorem e_oV {k' n' : Nat} (hpc : pc + 3 = pc') (C : CX X G A own cc nL ret rm) {idx b ci na : Nat} {fs As st0 : List Value} {y : MethodName} {cc' : ByteArray} {nL' : Nat} {ret' : Option FieldType} {rm' : Room} {Post : Option Value → Mem → Prop} (hct : Ct (xL X) G y cc' nL' ret' rm' (.ref b :: As) E Post) (hy : MV y cc' nL' ret' na) (hl : Cond.methodLink own idx y ∈ AW) (hb : E b = some (.inr (ci, fs))) (hc : (vwCl[ci]?).map (fun q => q.1) = some y.cls) (hst0 : st0 = As.reverse ++ .ref b :: st) (hlen : As.length = na) (hw : (st.map fun v => v.category).sum ≤ 8) (hrm : roomOk rm rm' nL' k n = true) (hdg : decode cc pc = .ok (.invokevirtual idx, 3)) (hk : k + rm'.cells = k') (hn : n + rm'.slots = n') (kk : ∀ (v : Option Value) (E' : Mem), Post v E' → WE X G A a Y E' k' n' Q pc' D (v.toList ++ st)) : WE X G A a Y E k n Q pc D st0 := by
  subst hpc hk hn
  intro M H locs ls hP hL
  obtain ⟨h1, h2, h3, h4, h5', h6, h7⟩ := hP
  obtain ⟨g1, g2, g3, g4⟩ := roomOk_at hrm
  obtain ⟨hcode, hini, hd, hinst, hsel⟩ := hy
  obtain ⟨q, hq1, hq2⟩ := Option.map_eq_some_iff.mp hc
  have hrc := va_recv C.K (hP1 (h5' _ _ hb)) hq1 (q0 := 0) rfl
  rw [hq2] at hrc
  have h2' : ∀ q, M q ≠ none → E q = none := fun q hm => by
    cases he : E q with
    | none => rfl
    | some e => exact absurd (h2 q (by rw [he]; simp)) hm
  exact c_goF C h3 h7 h4 h2' (va_runV (As := As) (rest := st) ⟨C.ex, C.cd, C.ml, C.ow, C.ts⟩ (hct H.size) (C := y.cls) (n := na) ⟨callB_of na C.ts (c_in hcode) rfl rfl rfl (C.ts _ hini) (C.ts _ hl) hd (by rw [C.ro]; exact ⟨g1, g2⟩), C.ts _ hinst, C.ts _ hsel⟩ ⟨c_blind, hrc, fun U hU hW => c_pre C h3 h5' h7 U hU hW⟩ rfl hlen (hL.1.trans C.ml) hst0 (lv_room hw) hdg (by rw [C.ro]; exact ⟨g3, g4⟩)) (fun v E' H' locs' hp q1 q2 q3 q4 q5 => kk v E' hp M H' locs' ls ⟨h1, fun q h => by
      cases hm : M q with
      | none => rfl
      | some e => exact absurd (q5 q (by rw [hm]; simp)) h, q1, q3, q2, h6, q4⟩ hL)
theorem e_oI {k' n' : Nat} (hpc : pc + 3 = pc') (C : CX X G A own cc nL ret rm) {idx b na : Nat} {As st0 : List Value} {y : MethodName} {cc' : ByteArray} {nL' : Nat} {rm' : Room} {Post : Option Value → Mem → Prop} (hct : Ct (xL X) G y cc' nL' none rm' (.ref b :: As) E Post) (hy : MI y cc' nL' na) (hl : Cond.methodLink own idx y ∈ AW) (hst0 : st0 = As.reverse ++ .ref b :: st) (hlen : As.length = na) (hw : (st.map fun v => v.category).sum ≤ 8) (hrm : roomOk rm rm' nL' k n = true) (hdg : decode cc pc = .ok (.invokespecial idx, 3)) (hk : k + rm'.cells = k') (hn : n + rm'.slots = n') (kk : ∀ (v : Option Value) (E' : Mem), Post v E' → WE X G A a Y E' k' n' Q pc' D (v.toList ++ st)) : WE X G A a Y E k n Q pc D st0 := by
  subst hpc hk hn
  intro M H locs ls hP hL
  obtain ⟨h1, h2, h3, h4, h5', h6, h7⟩ := hP
  obtain ⟨g1, g2, g3, g4⟩ := roomOk_at hrm
  obtain ⟨hcode, hini, hd, hinst, hnm⟩ := hy
  have h2' : ∀ q, M q ≠ none → E q = none := fun q hm => by
    cases he : E q with
    | none => rfl
    | some e => exact absurd (h2 q (by rw [he]; simp)) hm
  exact c_goF C h3 h7 h4 h2' (va_runI (As := As) (rest := st) ⟨C.ex, C.cd, C.ml, C.ow, C.ts⟩ (hct H.size) (n := na) ⟨callB_of na C.ts (c_in hcode) rfl rfl rfl (C.ts _ hini) (C.ts _ hl) hd (by rw [C.ro]; exact ⟨g1, g2⟩), hnm, C.ts _ hinst⟩ ⟨c_blind, fun U hU hW => c_pre C h3 h5' h7 U hU hW⟩ rfl hlen (hL.1.trans C.ml) hst0 (lv_room hw) hdg (by rw [C.ro]; exact ⟨g3, g4⟩)) (fun v E' H' locs' hp q1 q2 q3 q4 q5 => kk v E' hp M H' locs' ls ⟨h1, fun q h => by
      cases hm : M q with
      | none => rfl
      | some e => exact absurd (q5 q (by rw [hm]; simp)) h, q1, q3, q2, h6, q4⟩ hL)
theorem e_max (hpc : pc + 3 = pc') (C : CX X G A own cc nL ret rm) {idx : Nat} {x y : Int32} (hl : Cond.methodLink own idx Lib.Math.max.name ∈ AW) (h1 : Nat.ble 1 rm.frames = true) (h2 : Nat.ble ((st.map fun v => v.category).sum + 13) rm.locals = true) (h3 : Nat.ble k rm.cells = true) (h4 : Nat.ble n rm.slots = true) (hdg : decode cc pc = .ok (.invokestatic idx, 3)) (kk : WE X G A a Y E k n Q pc' D (.int (if x < y then y else x) :: st)) : WE X G A a Y E k n Q pc D (.int y :: .int x :: st) := by
  subst hpc
  exact fun M H locs ls hP hL => va_mmax C.ex C.cd hL.1.symm C.ow (C.ts _ hl) (C.ts _ mm_max.1) (C.ts _ mm_max.2.1) (C.ts _ mm_max.2.2) (by rw [C.ro]; exact Nat.le_of_ble_eq_true h1) (by rw [C.ro]; exact Nat.le_of_ble_eq_true h2) (by rw [C.ro]; exact Nat.le_of_ble_eq_true h3) (by rw [C.ro]; exact Nat.le_of_ble_eq_true h4) hdg (kk M H locs ls hP hL)
theorem e_min (hpc : pc + 3 = pc') (C : CX X G A own cc nL ret rm) {idx : Nat} {x y : Int32} (hl : Cond.methodLink own idx Lib.Math.min.name ∈ AW) (h1 : Nat.ble 1 rm.frames = true) (h2 : Nat.ble ((st.map fun v => v.category).sum + 13) rm.locals = true) (h3 : Nat.ble k rm.cells = true) (h4 : Nat.ble n rm.slots = true) (hdg : decode cc pc = .ok (.invokestatic idx, 3)) (kk : WE X G A a Y E k n Q pc' D (.int (if y < x then y else x) :: st)) : WE X G A a Y E k n Q pc D (.int y :: .int x :: st) := by
  subst hpc
  exact fun M H locs ls hP hL => va_mmin C.ex C.cd hL.1.symm C.ow (C.ts _ hl) (C.ts _ mm_min.1) (C.ts _ mm_min.2.1) (C.ts _ mm_min.2.2) (by rw [C.ro]; exact Nat.le_of_ble_eq_true h1) (by rw [C.ro]; exact Nat.le_of_ble_eq_true h2) (by rw [C.ro]; exact Nat.le_of_ble_eq_true h3) (by rw [C.ro]; exact Nat.le_of_ble_eq_true h4) hdg (kk M H locs ls hP hL)
/-- ends -/
theorem e_ireturn (C : CX X G A own cc nL ret rm) {ty : FieldType} {x : Int32} {Post : Int32 → YT → Prop} (hret : ret = some ty) (hn : narrow ty (.int x) = .int x) (hdg : decode cc pc = .ok (.ireturn, 1)) (h1 : Nat.ble k rm.cells = true) (h2 : Nat.ble n rm.slots = true) (hp : Post x Y) : WE X G A a Y E k n (MEnd X G A rm (PY G a (PI Post))) pc D [.int x] := by
  intro M H locs ls hP hL
  refine W.widen (Nat.le_of_ble_eq_true h1) (Nat.le_of_ble_eq_true h2) ?_
  have hlocks := C.lk
  exact W.zret C.ex C.cd (C.rt.trans hret) hn (fun t ht _ => e_QC hP.2.2.1 hP.2.2.2.1 hP.2.2.2.2.2.1 ⟨Y, hP.1, x, rfl, hp⟩ t ht) hP.2.2.1.2.2 hdg hlocks
theorem e_ireturnE (C : CX X G A own cc nL ret rm) {ty : FieldType} {x : Int32} {Post : Int32 → YT → Prop} (hret : ret = some ty) (hn : narrow ty (.int x) = .int x) (hdg : decode cc pc = .ok (.ireturn, 1)) (h1 : Nat.ble k rm.cells = true) (h2 : Nat.ble n rm.slots = true) (hp : Post x Y) : WE X G A a Y E k n (MEnd X G A rm (PYE G a E (PI Post))) pc D [.int x] := by
  intro M H locs ls hP hL
  refine W.widen (Nat.le_of_ble_eq_true h1) (Nat.le_of_ble_eq_true h2) ?_
  have hlocks := C.lk
  obtain ⟨q1, q2, q3, q4, q5, q6, q7⟩ := hP
  exact W.zret C.ex C.cd (C.rt.trans hret) hn (fun t ht _ => e_QC (M := madd M E) q3 (HM_add q4 q5) (fun q h => (madd_ne h).elim (q6 q) (q7 q)) ⟨M, Y, rfl, q2, q1, x, rfl, hp⟩ t ht) q3.2.2 hdg hlocks
theorem e_lreturn (C : CX X G A own cc nL ret rm) {x : Int64} {Post : Int64 → YT → Prop} (hret : ret = some .long) (hdg : decode cc pc = .ok (.lreturn, 1)) (h1 : Nat.ble k rm.cells = true) (h2 : Nat.ble n rm.slots = true) (hp : Post x Y) : WE X G A a Y E k n (MEnd X G A rm (PY G a (PL Post))) pc D [.long x] := by
  intro M H locs ls hP hL
  refine W.widen (Nat.le_of_ble_eq_true h1) (Nat.le_of_ble_eq_true h2) ?_
  have hlocks := C.lk
  exact W.lret C.ex C.cd (C.rt.trans hret) (fun t ht _ => e_QC hP.2.2.1 hP.2.2.2.1 hP.2.2.2.2.2.1 ⟨Y, hP.1, x, rfl, hp⟩ t ht) hP.2.2.1.2.2 hdg hlocks
end EROWS
