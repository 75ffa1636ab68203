/-! THE WORLD: the keeper's and the model's cells by their places (Id), the ints in them Y; rows over it. -/
abbrev Id3 : Type := Nat × Nat × Nat
abbrev YT : Type := Id3 → Nat → Int32
def up (Y : YT) (i : Id3) (f : Nat) (x : Int32) : YT := fun j => if j = i then upd (Y i) f x else Y j
theorem up_s {Y : YT} {i : Id3} {f : Nat} {x : Int32} : up Y i f x i = upd (Y i) f x := by simp [up]
theorem up_n {Y : YT} {i j : Id3} {f : Nat} {x : Int32} (h : j ≠ i) : up Y i f x j = Y j := by simp [up, h]
/-- which places there are: 0 a kiln's own cells, 1 pots, 2 the keeper's single cells, 3 orders, 4 the model's, 5 string builders -/
def vld : Id3 → Prop
  | (0, k, j) => k < 11 ∧ j < 9
  | (1, k, j) => k < 11 ∧ j < 8
  | (2, k, j) => k = 0 ∧ j < 7
  | (3, k, j) => k < 12 ∧ j < 2
  | (5, k, j) => k = 0 ∧ j < 2
  | _ => False
abbrev tI : Nat × Id3 := (0, (0, 0, 0))
abbrev tB : Nat × Id3 := (3, (0, 0, 0))
abbrev tE : Nat × Id3 := (2, (0, 0, 0))
def mlen : Nat → Nat
  | 0 => 227
  | 1 => 227
  | 2 => 227
  | 3 => 227
  | 4 => 1816
  | 5 => 60
  | 6 => 160
  | _ => 80
/-- what a cell is: an object (its class, its fields), an array of ints, an array of cells -/
def tpl : Id3 → (Nat × List (Nat × Id3)) ⊕ Nat ⊕ (Nat × Nat × (Nat → Id3))
  | (0, k, 0) => .inl (3, [tI, tI, tI, tI, (1, (0, k, 1)), (1, (0, k, 2)), (1, (0, k, 4)), (1, (0, k, 7))])
  | (0, _, 1) => .inl (10, [tI, tI, tI, tI, tI, tI])
  | (0, k, 2) => .inl (4, [tI, (1, (0, k, 3))])
  | (0, _, 3) => .inr (.inl 5)
  | (0, k, 4) => .inl (1, [tI, tI, tI, tI, (1, (0, k, 5)), (1, (0, k, 6))])
  | (0, _, 5) => .inr (.inl 101)
  | (0, _, 6) => .inr (.inl 48)
  | (0, k, 7) => .inl (7, [tI, (1, (0, k, 8))])
  | (0, k, _) => .inr (.inr (2, 8, fun p => (1, k, p)))
  | (1, _, _) => .inl (6, [tI, tI, tI, tI, tI, tB, tI])
  | (2, _, 0) => .inl (11, [(1, (0, 0, 0)), (1, (0, 1, 0)), (1, (0, 2, 0)), tB, (1, (2, 0, 1)), (1, (2, 0, 3)), (1, (2, 0, 4)), (1, (2, 0, 5)), (1, (5, 0, 1))])
  | (2, _, 1) => .inl (2, [tI, tI, (1, (2, 0, 2))])
  | (2, _, 2) => .inr (.inr (3, 8, fun j => (0, 3 + j, 0)))
  | (2, _, 3) => .inl (9, [tI, tI])
  | (2, _, 4) => .inl (9, [tI, tI])
  | (2, _, 5) => .inl (8, [(1, (5, 0, 0)), (1, (2, 0, 6))])
  | (2, _, _) => .inr (.inr (4, 12, fun j => (3, j, 0)))
  | (3, k, 0) => .inl (5, [tE, (1, (3, k, 1))])
  | (3, _, _) => .inr (.inl 3)
  | (4, _, 8) => .inl (12, [(1, (4, 0, 0)), (1, (4, 0, 1)), (1, (4, 0, 2)), (1, (4, 0, 3)), (1, (4, 0, 4)), tI, tB, (1, (4, 0, 5)), (1, (4, 0, 6)), (1, (4, 0, 7)), tI, tI, tI, tI, tI, tI, tI, tI, tI, tB])
  | (4, _, j) => .inr (.inl (mlen j))
  | _ => .inr (.inl 0)
def fval (G : GT) (a : Id3 → Nat) (t : Nat × Id3) (x : Int32) : Value := match t.1 with
  | 1 => .ref (a t.2)
  | 2 => .ref (gad G x.toNatClampNeg)
  | _ => .int x
def fvals (G : GT) (a : Id3 → Nat) (y : Nat → Int32) : Nat → List (Nat × Id3) → List Value
  | _, [] => []
  | f, t :: l => fval G a t (y f) :: fvals G a y (f + 1) l
theorem fvals_get (G : GT) (a : Id3 → Nat) (y : Nat → Int32) : ∀ (l : List (Nat × Id3)) (b f : Nat), (fvals G a y b l)[f]? = (l[f]?).map (fun t => fval G a t (y (b + f)))
  | [], b, f => by simp [fvals]
  | t :: l, b, 0 => by simp [fvals]
  | t :: l, b, f + 1 => by
    simp only [fvals, List.getElem?_cons_succ]
    rw [fvals_get G a y l (b + 1) f, show b + 1 + f = b + (f + 1) by omega]
theorem fvals_len (G : GT) (a : Id3 → Nat) (y : Nat → Int32) : ∀ (l : List (Nat × Id3)) (b : Nat), (fvals G a y b l).length = l.length
  | [], b => rfl
  | t :: l, b => by simp [fvals, fvals_len G a y l (b + 1)]
theorem fvals_set (G : GT) (a : Id3 → Nat) (y : Nat → Int32) {l : List (Nat × Id3)} {f : Nat} {t : Nat × Id3} {x : Int32} (h : l[f]? = some t) : (fvals G a y 0 l).set f (fval G a t x) = fvals G a (upd y f x) 0 l := by
  apply List.ext_getElem?
  intro j
  rw [List.getElem?_set]
  by_cases hj : f = j
  · subst hj
    have hl := (List.getElem?_eq_some_iff.mp h).1
    rw [if_pos rfl, if_pos (by rw [fvals_len]; exact hl), fvals_get, h]
    simp [upd]
  · rw [if_neg hj, fvals_get, fvals_get]
    cases hlj : l[j]? with
    | none => rfl
    | some u => simp [upd, Ne.symm hj]
def cel (G : GT) (a : Id3 → Nat) (y : Nat → Int32) (i : Id3) : va_E := match tpl i with
  | .inl (ci, l) => .inr (ci, fvals G a y 0 l)
  | .inr (.inl len) => .inl (gc G 0, len, .inl y)
  | .inr (.inr (t, len, f)) => .inl (gc G t, len, .inr (.inr (.inr (.inr (fun j => some (a (f j)))))))
def isb (x : Int32) : Prop := x = 0 ∨ x = 1
/-- the two string builders: their bytes lie where q says -/
def SBok (G : GT) (a : Id3 → Nat) (Y : YT) (M : Mem) (q : Nat → Nat) : Prop := ∀ j, j < 2 → ∃ (cap len : Nat) (z : Nat → Int32) (ml : Int32), M (a (5, 0, j)) = some (.inr (0, [.ref (q j), .int 0, .int ml, .int (Y (5, 0, j) 0)])) ∧ M (q j) = some (.inl (gc G 1, cap, .inl z)) ∧ Y (5, 0, j) 0 = nI len ∧ len ≤ cap ∧ cap ≤ 200 ∧ sb_Fit z ∧ ∀ t, t < len → z t = Y (5, 0, j) (1 + t) ∧ ∃ ch, ch < 128 ∧ Y (5, 0, j) (1 + t) = nI ch
/-- the map holds the world -/
def RepY (G : GT) (a : Id3 → Nat) (Y : YT) (M : Mem) : Prop :=
  (∀ i, vld i → i.1 ≠ 5 → M (a i) = some (cel G a (Y i) i)) ∧ (∀ i j, vld i → vld j → a i = a j → i = j) ∧
  (∀ (i : Id3) (ci f : Nat) (l : List (Nat × Id3)) (z : Id3), vld i → tpl i = .inl (ci, l) → l[f]? = some (3, z) → isb (Y i f)) ∧
  ∃ q : Nat → Nat, (∀ i j, vld i → a i ≠ q j) ∧ q 0 ≠ q 1 ∧ SBok G a Y M q
theorem RepY.put {G : GT} {a : Id3 → Nat} {Y : YT} {M : Mem} (h : RepY G a Y M) {i : Id3} {f : Nat} {x : Int32} (hi : vld i) (h5 : i.1 ≠ 5) (hb : ∀ (ci : Nat) (l : List (Nat × Id3)) (z : Id3), tpl i = .inl (ci, l) → l[f]? = some (3, z) → isb x) : RepY G a (up Y i f x) (mup M (a i) (cel G a (upd (Y i) f x) i)) := by
  obtain ⟨h1, h2, h3, q, h4, h6, h7⟩ := h
  refine ⟨fun j hj h5j => ?_, h2, fun j ci g l z hj ht hg => ?_, q, h4, h6, fun j hj => ?_⟩
  · by_cases hji : j = i
    · subst hji
      rw [mup_s, up_s]
    · rw [mup_n (fun e => hji (h2 j i hj hi e)), up_n hji]
      exact h1 j hj h5j
  · by_cases hji : j = i
    · subst hji
      rw [up_s]
      by_cases hgf : g = f
      · subst hgf
        simp only [upd, if_true]
        exact hb ci l z ht hg
      · simp only [upd, if_neg hgf]
        exact h3 j ci g l z hj ht hg
    · rw [up_n hji]
      exact h3 j ci g l z hj ht hg
  · obtain ⟨cap, len, zz, ml, g1, g2, g3⟩ := h7 j hj
    have e5 : (5, 0, j) ≠ i := fun e => h5 (by rw [← e])
    have v5 : vld (5, 0, j) := ⟨rfl, hj⟩
    refine ⟨cap, len, zz, ml, ?_, ?_, ?_⟩
    · rw [mup_n (fun e => e5 (h2 _ i v5 hi e)), up_n e5]
      exact g1
    · rw [mup_n (fun e => h4 i j hi e.symm)]
      exact g2
    · rw [up_n e5]
      exact g3
def WY (X : XT) (G : GT) (A : Nat → Prop) (a : Id3 → Nat) (Y : YT) (k n : Nat) (Q : State → Prop) (pc : Nat) (L : List (Option Value)) (st : List Value) : Prop := ∀ M : Mem, RepY G a Y M → WM X G A M k n Q pc L st
def PY (G : GT) (a : Id3 → Nat) (Post : Option Value → YT → Prop) : Option Value → Mem → Prop := fun v M' => ∃ Y' : YT, RepY G a Y' M' ∧ Post v Y'
/-- a contract over the world -/
def CtY (l : Launch) (G : GT) (a : Id3 → Nat) (y : MethodName) (cc : ByteArray) (nL : Nat) (ret : Option FieldType) (rm : Room) (ag : List Value) (Y : YT) (Post : Option Value → YT → Prop) : Prop := ∀ M : Mem, RepY G a Y M → Ct l G y cc nL ret rm ag M (PY G a Post)
theorem CtY.of {l : Launch} {G : GT} {a : Id3 → Nat} {y : MethodName} {cc : ByteArray} {nL : Nat} {ret : Option FieldType} {rm : Room} {ag : List Value} {Y : YT} {Post : Option Value → YT → Prop}
    (hy : plainName y.cls = true) (ho : ones ag = true) (hn : (lg_sl ag).length ≤ nL)
    (body : ∀ (X : XT) (A : Nat → Prop), CX X G A y.cls cc nL ret rm → xL X = l → WY X G A a Y 0 0 (MEnd X G A rm (PY G a Post)) 0 (argL ag nL) []) : CtY l G a y cc nL ret rm ag Y Post :=
  fun M hM => Ct.of hy ho hn (fun X A C hl _ => body X A C hl M hM)
def PI (Post : Int32 → YT → Prop) : Option Value → YT → Prop := fun v Y' => ∃ r : Int32, v = some (.int r) ∧ Post r Y'
def PV (Post : YT → Prop) : Option Value → YT → Prop := fun v Y' => v = none ∧ Post Y'
def PR (Post : Value → YT → Prop) : Option Value → YT → Prop := fun v Y' => ∃ r : Value, v = some r ∧ Post r Y'
section YROWS
variable {X : XT} {G : GT} {A : Nat → Prop} {a : Id3 → Nat} {own : String} {cc : ByteArray} {nL : Nat} {ret : Option FieldType} {rm : Room} {Y : YT} {k n : Nat} {Q : State → Prop} {pc : Nat} {L : List (Option Value)} {st : List Value}
theorem y_conv {L' : List (Option Value)} {st' : List Value} (hL : L = L') (hs : st = st') (kk : WY X G A a Y k n Q pc L' st') : WY X G A a Y k n Q pc L st := fun M hM => r_conv hL hs (kk M hM)
theorem y_weak {L' : List (Option Value)} (hL : ∀ (i : Nat) (v : Value), L'[i]? = some (some v) → L[i]? = some (some v)) (kk : WY X G A a Y k n Q pc L' st) : WY X G A a Y k n Q pc L st := fun M hM => r_weak hL (kk M hM)
theorem y_widen {k' n' : Nat} (h1 : k ≤ k') (h2 : n ≤ n') (kk : WY X G A a Y k' n' Q pc L st) : WY X G A a Y k n Q pc L st := fun M hM => r_widen h1 h2 (kk M hM)
theorem y_iconst {pc' : Nat} (hpc : pc + 1 = pc') (C : CX X G A own cc nL ret rm) {i : Int} {v : Int32} (hdg : decode cc pc = .ok (.iconst i, 1)) (hv : Int32.ofInt i = v) (kk : WY X G A a Y k n Q pc' L (.int v :: st)) : WY X G A a Y k n Q pc L st := by subst hpc; exact fun M hM => r_iconst C hdg hv (kk M hM)
theorem y_bipush {pc' : Nat} (hpc : pc + 2 = pc') (C : CX X G A own cc nL ret rm) {i : Int} {v : Int32} (hdg : decode cc pc = .ok (.bipush i, 2)) (hv : (Int8.ofInt i).toInt32 = v) (kk : WY X G A a Y k n Q pc' L (.int v :: st)) : WY X G A a Y k n Q pc L st := by subst hpc; exact fun M hM => r_bipush C hdg hv (kk M hM)
theorem y_sipush {pc' : Nat} (hpc : pc + 3 = pc') (C : CX X G A own cc nL ret rm) {i : Int} {v : Int32} (hdg : decode cc pc = .ok (.sipush i, 3)) (hv : (Int16.ofInt i).toInt32 = v) (kk : WY X G A a Y k n Q pc' L (.int v :: st)) : WY X G A a Y k n Q pc L st := by subst hpc; exact fun M hM => r_sipush C hdg hv (kk M hM)
theorem y_ldc {pc' : Nat} (hpc : pc + 2 = pc') (C : CX X G A own cc nL ret rm) {i : Nat} {v : Int32} (hw : Cond.constant own i v ∈ AW) (hdg : decode cc pc = .ok (.ldc i, 2)) (kk : WY X G A a Y k n Q pc' L (.int v :: st)) : WY X G A a Y k n Q pc L st := by subst hpc; exact fun M hM => r_ldc C hw hdg (kk M hM)
theorem y_iload_n {pc' : Nat} (hpc : pc + 1 = pc') (C : CX X G A own cc nL ret rm) {i : Fin 4} {x : Int32} (hdg : decode cc pc = .ok (.iload_n i, 1)) (hl : L[(i : Nat)]? = some (some (.int x))) (kk : WY X G A a Y k n Q pc' L (.int x :: st)) : WY X G A a Y k n Q pc L st := by subst hpc; exact fun M hM => r_iload_n C hdg hl (kk M hM)
theorem y_iload {pc' : Nat} (hpc : pc + 2 = pc') (C : CX X G A own cc nL ret rm) {i : Nat} {x : Int32} (hdg : decode cc pc = .ok (.iload i, 2)) (hl : L[i]? = some (some (.int x))) (kk : WY X G A a Y k n Q pc' L (.int x :: st)) : WY X G A a Y k n Q pc L st := by subst hpc; exact fun M hM => r_iload C hdg hl (kk M hM)
theorem y_aload_n {pc' : Nat} (hpc : pc + 1 = pc') (C : CX X G A own cc nL ret rm) {i : Fin 4} {x : Nat} (hdg : decode cc pc = .ok (.aload_n i, 1)) (hl : L[(i : Nat)]? = some (some (.ref x))) (kk : WY X G A a Y k n Q pc' L (.ref x :: st)) : WY X G A a Y k n Q pc L st := by subst hpc; exact fun M hM => r_aload_n C hdg hl (kk M hM)
theorem y_aload {pc' : Nat} (hpc : pc + 2 = pc') (C : CX X G A own cc nL ret rm) {i : Nat} {x : Nat} (hdg : decode cc pc = .ok (.aload i, 2)) (hl : L[i]? = some (some (.ref x))) (kk : WY X G A a Y k n Q pc' L (.ref x :: st)) : WY X G A a Y k n Q pc L st := by subst hpc; exact fun M hM => r_aload C hdg hl (kk M hM)
theorem y_aload_nN {pc' : Nat} (hpc : pc + 1 = pc') (C : CX X G A own cc nL ret rm) {i : Fin 4} (hdg : decode cc pc = .ok (.aload_n i, 1)) (hl : L[(i : Nat)]? = some (some .null)) (kk : WY X G A a Y k n Q pc' L (.null :: st)) : WY X G A a Y k n Q pc L st := by subst hpc; exact fun M hM => r_aload_nN C hdg hl (kk M hM)
theorem y_aloadN {pc' : Nat} (hpc : pc + 2 = pc') (C : CX X G A own cc nL ret rm) {i : Nat} (hdg : decode cc pc = .ok (.aload i, 2)) (hl : L[i]? = some (some .null)) (kk : WY X G A a Y k n Q pc' L (.null :: st)) : WY X G A a Y k n Q pc L st := by subst hpc; exact fun M hM => r_aloadN C hdg hl (kk M hM)
theorem y_istore_n {pc' : Nat} (hpc : pc + 1 = pc') (C : CX X G A own cc nL ret rm) {i : Fin 4} {x : Int32} (hdg : decode cc pc = .ok (.istore_n i, 1)) (hn : (i : Nat) < nL) (kk : WY X G A a Y k n Q pc' (L.set (i : Nat) (some (.int x))) st) : WY X G A a Y k n Q pc L ((.int x) :: st) := by subst hpc; exact fun M hM => r_istore_n C hdg hn (kk M hM)
theorem y_istore {pc' : Nat} (hpc : pc + 2 = pc') (C : CX X G A own cc nL ret rm) {i : Nat} {x : Int32} (hdg : decode cc pc = .ok (.istore i, 2)) (hn : i < nL) (kk : WY X G A a Y k n Q pc' (L.set i (some (.int x))) st) : WY X G A a Y k n Q pc L ((.int x) :: st) := by subst hpc; exact fun M hM => r_istore C hdg hn (kk M hM)
theorem y_astore_n {pc' : Nat} (hpc : pc + 1 = pc') (C : CX X G A own cc nL ret rm) {i : Fin 4} {x : Nat} (hdg : decode cc pc = .ok (.astore_n i, 1)) (hn : (i : Nat) < nL) (kk : WY X G A a Y k n Q pc' (L.set (i : Nat) (some (.ref x))) st) : WY X G A a Y k n Q pc L ((.ref x) :: st) := by subst hpc; exact fun M hM => r_astore_n C hdg hn (kk M hM)
theorem y_astore {pc' : Nat} (hpc : pc + 2 = pc') (C : CX X G A own cc nL ret rm) {i : Nat} {x : Nat} (hdg : decode cc pc = .ok (.astore i, 2)) (hn : i < nL) (kk : WY X G A a Y k n Q pc' (L.set i (some (.ref x))) st) : WY X G A a Y k n Q pc L ((.ref x) :: st) := by subst hpc; exact fun M hM => r_astore C hdg hn (kk M hM)
theorem y_astore_nN {pc' : Nat} (hpc : pc + 1 = pc') (C : CX X G A own cc nL ret rm) {i : Fin 4} (hdg : decode cc pc = .ok (.astore_n i, 1)) (hn : (i : Nat) < nL) (kk : WY X G A a Y k n Q pc' (L.set (i : Nat) (some .null)) st) : WY X G A a Y k n Q pc L (.null :: st) := by subst hpc; exact fun M hM => r_astore_nN C hdg hn (kk M hM)
theorem y_astoreN {pc' : Nat} (hpc : pc + 2 = pc') (C : CX X G A own cc nL ret rm) {i : Nat} (hdg : decode cc pc = .ok (.astore i, 2)) (hn : i < nL) (kk : WY X G A a Y k n Q pc' (L.set i (some .null)) st) : WY X G A a Y k n Q pc L (.null :: st) := by subst hpc; exact fun M hM => r_astoreN C hdg hn (kk M hM)
theorem y_iinc {pc' : Nat} (hpc : pc + 3 = pc') (C : CX X G A own cc nL ret rm) {i : Nat} {d : Int} {x v : Int32} (hdg : decode cc pc = .ok (.iinc i d, 3)) (hl : L[i]? = some (some (.int x))) (hv : x + Int32.ofInt d = v) (hn : i < nL) (kk : WY X G A a Y k n Q pc' (L.set i (some (.int v))) st) : WY X G A a Y k n Q pc L st := by subst hpc; exact fun M hM => r_iinc C hdg hl hv hn (kk M hM)
theorem y_iadd {pc' : Nat} (hpc : pc + 1 = pc') (C : CX X G A own cc nL ret rm) {x y : Int32} (hdg : decode cc pc = .ok (.iadd, 1)) (kk : WY X G A a Y k n Q pc' L (.int (x + y) :: st)) : WY X G A a Y k n Q pc L (.int y :: .int x :: st) := by subst hpc; exact fun M hM => r_iadd C hdg (kk M hM)
theorem y_isub {pc' : Nat} (hpc : pc + 1 = pc') (C : CX X G A own cc nL ret rm) {x y : Int32} (hdg : decode cc pc = .ok (.isub, 1)) (kk : WY X G A a Y k n Q pc' L (.int (x - y) :: st)) : WY X G A a Y k n Q pc L (.int y :: .int x :: st) := by subst hpc; exact fun M hM => r_isub C hdg (kk M hM)
theorem y_imul {pc' : Nat} (hpc : pc + 1 = pc') (C : CX X G A own cc nL ret rm) {x y : Int32} (hdg : decode cc pc = .ok (.imul, 1)) (kk : WY X G A a Y k n Q pc' L (.int (x * y) :: st)) : WY X G A a Y k n Q pc L (.int y :: .int x :: st) := by subst hpc; exact fun M hM => r_imul C hdg (kk M hM)
theorem y_iand {pc' : Nat} (hpc : pc + 1 = pc') (C : CX X G A own cc nL ret rm) {x y : Int32} (hdg : decode cc pc = .ok (.iand, 1)) (kk : WY X G A a Y k n Q pc' L (.int (x &&& y) :: st)) : WY X G A a Y k n Q pc L (.int y :: .int x :: st) := by subst hpc; exact fun M hM => r_iand C hdg (kk M hM)
theorem y_ior {pc' : Nat} (hpc : pc + 1 = pc') (C : CX X G A own cc nL ret rm) {x y : Int32} (hdg : decode cc pc = .ok (.ior, 1)) (kk : WY X G A a Y k n Q pc' L (.int (x ||| y) :: st)) : WY X G A a Y k n Q pc L (.int y :: .int x :: st) := by subst hpc; exact fun M hM => r_ior C hdg (kk M hM)
theorem y_ixor {pc' : Nat} (hpc : pc + 1 = pc') (C : CX X G A own cc nL ret rm) {x y : Int32} (hdg : decode cc pc = .ok (.ixor, 1)) (kk : WY X G A a Y k n Q pc' L (.int (x ^^^ y) :: st)) : WY X G A a Y k n Q pc L (.int y :: .int x :: st) := by subst hpc; exact fun M hM => r_ixor C hdg (kk M hM)
theorem y_ishl {pc' : Nat} (hpc : pc + 1 = pc') (C : CX X G A own cc nL ret rm) {x y : Int32} (hdg : decode cc pc = .ok (.ishl, 1)) (kk : WY X G A a Y k n Q pc' L (.int (x <<< (y &&& 31)) :: st)) : WY X G A a Y k n Q pc L (.int y :: .int x :: st) := by subst hpc; exact fun M hM => r_ishl C hdg (kk M hM)
theorem y_ishr {pc' : Nat} (hpc : pc + 1 = pc') (C : CX X G A own cc nL ret rm) {x y : Int32} (hdg : decode cc pc = .ok (.ishr, 1)) (kk : WY X G A a Y k n Q pc' L (.int (x >>> (y &&& 31)) :: st)) : WY X G A a Y k n Q pc L (.int y :: .int x :: st) := by subst hpc; exact fun M hM => r_ishr C hdg (kk M hM)
theorem y_idiv {pc' : Nat} (hpc : pc + 1 = pc') (C : CX X G A own cc nL ret rm) {x y : Int32} (hdg : decode cc pc = .ok (.idiv, 1)) (hne : ¬ y = 0) (kk : WY X G A a Y k n Q pc' L (.int (x / y) :: st)) : WY X G A a Y k n Q pc L (.int y :: .int x :: st) := by subst hpc; exact fun M hM => r_idiv C hdg hne (kk M hM)
theorem y_irem {pc' : Nat} (hpc : pc + 1 = pc') (C : CX X G A own cc nL ret rm) {x y : Int32} (hdg : decode cc pc = .ok (.irem, 1)) (hne : ¬ y = 0) (kk : WY X G A a Y k n Q pc' L (.int (x - x / y * y) :: st)) : WY X G A a Y k n Q pc L (.int y :: .int x :: st) := by subst hpc; exact fun M hM => r_irem C hdg hne (kk M hM)
theorem y_ineg {pc' : Nat} (hpc : pc + 1 = pc') (C : CX X G A own cc nL ret rm) {x : Int32} (hdg : decode cc pc = .ok (.ineg, 1)) (kk : WY X G A a Y k n Q pc' L (.int (-x) :: st)) : WY X G A a Y k n Q pc L (.int x :: st) := by subst hpc; exact fun M hM => r_ineg C hdg (kk M hM)
theorem y_i2b {pc' : Nat} (hpc : pc + 1 = pc') (C : CX X G A own cc nL ret rm) {x : Int32} (hdg : decode cc pc = .ok (.i2b, 1)) (kk : WY X G A a Y k n Q pc' L (.int (x.toInt8.toInt32) :: st)) : WY X G A a Y k n Q pc L (.int x :: st) := by subst hpc; exact fun M hM => r_i2b C hdg (kk M hM)
theorem y_i2c {pc' : Nat} (hpc : pc + 1 = pc') (C : CX X G A own cc nL ret rm) {x : Int32} (hdg : decode cc pc = .ok (.i2c, 1)) (kk : WY X G A a Y k n Q pc' L (.int ((x.toUInt32 % 65536).toInt32) :: st)) : WY X G A a Y k n Q pc L (.int x :: st) := by subst hpc; exact fun M hM => r_i2c C hdg (kk M hM)
theorem y_dup {pc' : Nat} (hpc : pc + 1 = pc') (C : CX X G A own cc nL ret rm) {v : Value} (hdg : decode cc pc = .ok (.dup, 1)) (hc : v.category = 1) (kk : WY X G A a Y k n Q pc' L (v :: v :: st)) : WY X G A a Y k n Q pc L (v :: st) := by subst hpc; exact fun M hM => r_dup C hdg hc (kk M hM)
theorem y_pop {pc' : Nat} (hpc : pc + 1 = pc') (C : CX X G A own cc nL ret rm) {v : Value} (hdg : decode cc pc = .ok (.pop, 1)) (hc : v.category = 1) (kk : WY X G A a Y k n Q pc' L st) : WY X G A a Y k n Q pc L (v :: st) := by subst hpc; exact fun M hM => r_pop C hdg hc (kk M hM)
theorem y_dup_x1 {pc' : Nat} (hpc : pc + 1 = pc') (C : CX X G A own cc nL ret rm) {v u : Value} (hdg : decode cc pc = .ok (.dup_x1, 1)) (hc : v.category = 1) (hd : u.category = 1) (kk : WY X G A a Y k n Q pc' L (v :: u :: v :: st)) : WY X G A a Y k n Q pc L (v :: u :: st) := by subst hpc; exact fun M hM => r_dup_x1 C hdg hc hd (kk M hM)
theorem y_dup2 {pc' : Nat} (hpc : pc + 1 = pc') (C : CX X G A own cc nL ret rm) {v u : Value} (hdg : decode cc pc = .ok (.dup2, 1)) (hc : v.category = 1) (hd : u.category = 1) (kk : WY X G A a Y k n Q pc' L (v :: u :: v :: u :: st)) : WY X G A a Y k n Q pc L (v :: u :: st) := by subst hpc; exact fun M hM => r_dup2 C hdg hc hd (kk M hM)
theorem y_goto (C : CX X G A own cc nL ret rm) {off : Int} {tgt : Nat} (hdg : decode cc pc = .ok (.goto off, 3)) (ht : (pc : Int) + off = (tgt : Int)) (kk : WY X G A a Y k n Q tgt L st) : WY X G A a Y k n Q pc L st := fun M hM => r_goto C hdg ht (kk M hM)
theorem y_null {pc' : Nat} (hpc : pc + 1 = pc') (C : CX X G A own cc nL ret rm) (hdg : decode cc pc = .ok (.aconst_null, 1)) (kk : WY X G A a Y k n Q pc' L (.null :: st)) : WY X G A a Y k n Q pc L st := by subst hpc; exact fun M hM => r_null C hdg (kk M hM)
theorem y_ifnonnull (C : CX X G A own cc nL ret rm) {x : Nat} {off : Int} {tgt : Nat} (hdg : decode cc pc = .ok (.ifnonnull off, 3)) (ht : (pc : Int) + off = (tgt : Int)) (kk : WY X G A a Y k n Q tgt L st) : WY X G A a Y k n Q pc L (.ref x :: st) := fun M hM => r_ifnonnull C hdg ht (kk M hM)
theorem y_ifnull {pc' : Nat} (hpc : pc + 3 = pc') (C : CX X G A own cc nL ret rm) {x : Nat} {off : Int} (hdg : decode cc pc = .ok (.ifnull off, 3)) (kk : WY X G A a Y k n Q pc' L st) : WY X G A a Y k n Q pc L (.ref x :: st) := by subst hpc; exact fun M hM => r_ifnull C hdg (kk M hM)
theorem y_ifnullN (C : CX X G A own cc nL ret rm) {off : Int} {tgt : Nat} (hdg : decode cc pc = .ok (.ifnull off, 3)) (ht : (pc : Int) + off = (tgt : Int)) (kk : WY X G A a Y k n Q tgt L st) : WY X G A a Y k n Q pc L (.null :: st) := fun M hM => r_ifnullN C hdg ht (kk M hM)
theorem y_ifnonnullN {pc' : Nat} (hpc : pc + 3 = pc') (C : CX X G A own cc nL ret rm) {off : Int} (hdg : decode cc pc = .ok (.ifnonnull off, 3)) (kk : WY X G A a Y k n Q pc' L st) : WY X G A a Y k n Q pc L (.null :: st) := by subst hpc; exact fun M hM => r_ifnonnullN C hdg (kk M hM)
theorem y_tabIn (C : CX X G A own cc nL ret rm) {dflt lo hi : Int} {offs : Array Int} {len : Nat} {x : Int32} {off : Int} {tgt : Nat} (hdg : decode cc pc = .ok (.tableswitch dflt lo hi offs, len)) (h1 : ¬ x.toInt < lo) (h2 : ¬ hi < x.toInt) (ho : offs[(x.toInt - lo).toNat]? = some off) (ht : (pc : Int) + off = (tgt : Int)) (kk : WY X G A a Y k n Q tgt L st) : WY X G A a Y k n Q pc L (.int x :: st) := fun M hM => r_tabIn C hdg h1 h2 ho ht (kk M hM)
theorem y_tabOut (C : CX X G A own cc nL ret rm) {dflt lo hi : Int} {offs : Array Int} {len : Nat} {x : Int32} {tgt : Nat} (hdg : decode cc pc = .ok (.tableswitch dflt lo hi offs, len)) (h : x.toInt < lo ∨ hi < x.toInt) (ht : (pc : Int) + dflt = (tgt : Int)) (kk : WY X G A a Y k n Q tgt L st) : WY X G A a Y k n Q pc L (.int x :: st) := fun M hM => r_tabOut C hdg h ht (kk M hM)
theorem y_lookup (C : CX X G A own cc nL ret rm) {dflt : Int} {ps : Array (Int × Int)} {len : Nat} {x : Int32} {off : Int} {tgt : Nat} (hdg : decode cc pc = .ok (.lookupswitch dflt ps, len)) (hp : (ps.toList.zip (ps.toList.drop 1)).all (fun (a, next) => a.1 < next.1) = true) (ho : Op.lookupswitch.offset ps.toList dflt x.toInt = off) (ht : (pc : Int) + off = (tgt : Int)) (kk : WY X G A a Y k n Q tgt L st) : WY X G A a Y k n Q pc L (.int x :: st) := fun M hM => r_lookup C hdg hp ho ht (kk M hM)
theorem y_max {pc' : Nat} (hpc : pc + 3 = pc') (C : CX X G A own cc nL ret rm) {idx : Nat} {x y : Int32} (hl : Cond.methodLink own idx Lib.Math.max.name ∈ AW) (hm : MMx Lib.Math.max.name Lib.Math.max.code 2) (h1 : Nat.ble 1 rm.frames = true) (h2 : Nat.ble ((st.map fun v => v.category).sum + 13) rm.locals = true) (h3 : Nat.ble k rm.cells = true) (h4 : Nat.ble n rm.slots = true) (hdg : decode cc pc = .ok (.invokestatic idx, 3)) (kk : WY X G A a Y k n Q pc' L (.int (if x < y then y else x) :: st)) : WY X G A a Y k n Q pc L (.int y :: .int x :: st) := by subst hpc; exact fun M hM => r_max C hl hm h1 h2 h3 h4 hdg (kk M hM)
theorem y_min {pc' : Nat} (hpc : pc + 3 = pc') (C : CX X G A own cc nL ret rm) {idx : Nat} {x y : Int32} (hl : Cond.methodLink own idx Lib.Math.min.name ∈ AW) (hm : MMx Lib.Math.min.name Lib.Math.min.code 2) (h1 : Nat.ble 1 rm.frames = true) (h2 : Nat.ble ((st.map fun v => v.category).sum + 13) rm.locals = true) (h3 : Nat.ble k rm.cells = true) (h4 : Nat.ble n rm.slots = true) (hdg : decode cc pc = .ok (.invokestatic idx, 3)) (kk : WY X G A a Y k n Q pc' L (.int (if y < x then y else x) :: st)) : WY X G A a Y k n Q pc L (.int y :: .int x :: st) := by subst hpc; exact fun M hM => r_min C hl hm h1 h2 h3 h4 hdg (kk M hM)
theorem y_abs {pc' : Nat} (hpc : pc + 3 = pc') (C : CX X G A own cc nL ret rm) {idx : Nat} {x : Int32} (hl : Cond.methodLink own idx Lib.Math.abs.name ∈ AW) (hm : MMx Lib.Math.abs.name Lib.Math.abs.code 1) (h1 : Nat.ble 1 rm.frames = true) (h2 : Nat.ble ((st.map fun v => v.category).sum + 13) rm.locals = true) (h3 : Nat.ble k rm.cells = true) (h4 : Nat.ble n rm.slots = true) (hdg : decode cc pc = .ok (.invokestatic idx, 3)) (kk : WY X G A a Y k n Q pc' L (.int (if 0 ≤ x then x else 0 - x) :: st)) : WY X G A a Y k n Q pc L (.int x :: st) := by subst hpc; exact fun M hM => r_abs C hl hm h1 h2 h3 h4 hdg (kk M hM)
theorem y_gets {pc' : Nat} (hpc : pc + 3 = pc') (C : CX X G A own cc nL ret rm) {idx : Nat} {Cn nm d : String} {v : Value} (hZ : va_Z Cn nm d v A (xS X) (xS X).heap) (hw : Cond.fieldLink own idx Cn nm d ∈ AW) (hdg : decode cc pc = .ok (.getstatic idx, 3)) (kk : WY X G A a Y k n Q pc' L (v :: st)) : WY X G A a Y k n Q pc L st := by subst hpc; exact fun M hM => r_gets C hZ hw hdg (kk M hM)
theorem y_ldcS {pc' : Nat} (hpc : pc + 2 = pc') (C : CX X G A own cc nL ret rm) {idx i : Nat} (hi : 19 ≤ i ∧ i < 25) (ho : (sofs.getD i ("", 0, "")).1 = own) (hx : (sofs.getD i ("", 0, "")).2.1 = idx) (hdg : decode cc pc = .ok (.ldc idx, 2)) (kk : WY X G A a Y k n Q pc' L (.ref (gK G i) :: st)) : WY X G A a Y k n Q pc L st := by subst hpc; exact fun M hM => r_ldcS C hi ho hx hdg (kk M hM)
theorem y_if_eq {pc' : Nat} (hpc : pc + 3 = pc') (C : CX X G A own cc nL ret rm) {x : Int32} {off : Int} {tgt : Nat} (hdg : decode cc pc = .ok (.ifCond .eq off, 3)) (ht : (pc : Int) + off = (tgt : Int)) (kt : x = 0 → WY X G A a Y k n Q tgt L st) (kf : ¬ x = 0 → WY X G A a Y k n Q pc' L st) : WY X G A a Y k n Q pc L (.int x :: st) := by subst hpc; exact fun M hM => r_if_eq C hdg ht (fun h => kt h M hM) (fun h => kf h M hM)
theorem y_ic_eq {pc' : Nat} (hpc : pc + 3 = pc') (C : CX X G A own cc nL ret rm) {x y : Int32} {off : Int} {tgt : Nat} (hdg : decode cc pc = .ok (.if_icmp .eq off, 3)) (ht : (pc : Int) + off = (tgt : Int)) (kt : x = y → WY X G A a Y k n Q tgt L st) (kf : ¬ x = y → WY X G A a Y k n Q pc' L st) : WY X G A a Y k n Q pc L (.int y :: .int x :: st) := by subst hpc; exact fun M hM => r_ic_eq C hdg ht (fun h => kt h M hM) (fun h => kf h M hM)
theorem y_if_ne {pc' : Nat} (hpc : pc + 3 = pc') (C : CX X G A own cc nL ret rm) {x : Int32} {off : Int} {tgt : Nat} (hdg : decode cc pc = .ok (.ifCond .ne off, 3)) (ht : (pc : Int) + off = (tgt : Int)) (kt : ¬ x = 0 → WY X G A a Y k n Q tgt L st) (kf : x = 0 → WY X G A a Y k n Q pc' L st) : WY X G A a Y k n Q pc L (.int x :: st) := by subst hpc; exact fun M hM => r_if_ne C hdg ht (fun h => kt h M hM) (fun h => kf h M hM)
theorem y_ic_ne {pc' : Nat} (hpc : pc + 3 = pc') (C : CX X G A own cc nL ret rm) {x y : Int32} {off : Int} {tgt : Nat} (hdg : decode cc pc = .ok (.if_icmp .ne off, 3)) (ht : (pc : Int) + off = (tgt : Int)) (kt : ¬ x = y → WY X G A a Y k n Q tgt L st) (kf : x = y → WY X G A a Y k n Q pc' L st) : WY X G A a Y k n Q pc L (.int y :: .int x :: st) := by subst hpc; exact fun M hM => r_ic_ne C hdg ht (fun h => kt h M hM) (fun h => kf h M hM)
theorem y_if_lt {pc' : Nat} (hpc : pc + 3 = pc') (C : CX X G A own cc nL ret rm) {x : Int32} {off : Int} {tgt : Nat} (hdg : decode cc pc = .ok (.ifCond .lt off, 3)) (ht : (pc : Int) + off = (tgt : Int)) (kt : x < 0 → WY X G A a Y k n Q tgt L st) (kf : ¬ x < 0 → WY X G A a Y k n Q pc' L st) : WY X G A a Y k n Q pc L (.int x :: st) := by subst hpc; exact fun M hM => r_if_lt C hdg ht (fun h => kt h M hM) (fun h => kf h M hM)
theorem y_ic_lt {pc' : Nat} (hpc : pc + 3 = pc') (C : CX X G A own cc nL ret rm) {x y : Int32} {off : Int} {tgt : Nat} (hdg : decode cc pc = .ok (.if_icmp .lt off, 3)) (ht : (pc : Int) + off = (tgt : Int)) (kt : x < y → WY X G A a Y k n Q tgt L st) (kf : ¬ x < y → WY X G A a Y k n Q pc' L st) : WY X G A a Y k n Q pc L (.int y :: .int x :: st) := by subst hpc; exact fun M hM => r_ic_lt C hdg ht (fun h => kt h M hM) (fun h => kf h M hM)
theorem y_if_ge {pc' : Nat} (hpc : pc + 3 = pc') (C : CX X G A own cc nL ret rm) {x : Int32} {off : Int} {tgt : Nat} (hdg : decode cc pc = .ok (.ifCond .ge off, 3)) (ht : (pc : Int) + off = (tgt : Int)) (kt : 0 ≤ x → WY X G A a Y k n Q tgt L st) (kf : ¬ 0 ≤ x → WY X G A a Y k n Q pc' L st) : WY X G A a Y k n Q pc L (.int x :: st) := by subst hpc; exact fun M hM => r_if_ge C hdg ht (fun h => kt h M hM) (fun h => kf h M hM)
theorem y_ic_ge {pc' : Nat} (hpc : pc + 3 = pc') (C : CX X G A own cc nL ret rm) {x y : Int32} {off : Int} {tgt : Nat} (hdg : decode cc pc = .ok (.if_icmp .ge off, 3)) (ht : (pc : Int) + off = (tgt : Int)) (kt : y ≤ x → WY X G A a Y k n Q tgt L st) (kf : ¬ y ≤ x → WY X G A a Y k n Q pc' L st) : WY X G A a Y k n Q pc L (.int y :: .int x :: st) := by subst hpc; exact fun M hM => r_ic_ge C hdg ht (fun h => kt h M hM) (fun h => kf h M hM)
theorem y_if_gt {pc' : Nat} (hpc : pc + 3 = pc') (C : CX X G A own cc nL ret rm) {x : Int32} {off : Int} {tgt : Nat} (hdg : decode cc pc = .ok (.ifCond .gt off, 3)) (ht : (pc : Int) + off = (tgt : Int)) (kt : 0 < x → WY X G A a Y k n Q tgt L st) (kf : ¬ 0 < x → WY X G A a Y k n Q pc' L st) : WY X G A a Y k n Q pc L (.int x :: st) := by subst hpc; exact fun M hM => r_if_gt C hdg ht (fun h => kt h M hM) (fun h => kf h M hM)
theorem y_ic_gt {pc' : Nat} (hpc : pc + 3 = pc') (C : CX X G A own cc nL ret rm) {x y : Int32} {off : Int} {tgt : Nat} (hdg : decode cc pc = .ok (.if_icmp .gt off, 3)) (ht : (pc : Int) + off = (tgt : Int)) (kt : y < x → WY X G A a Y k n Q tgt L st) (kf : ¬ y < x → WY X G A a Y k n Q pc' L st) : WY X G A a Y k n Q pc L (.int y :: .int x :: st) := by subst hpc; exact fun M hM => r_ic_gt C hdg ht (fun h => kt h M hM) (fun h => kf h M hM)
theorem y_if_le {pc' : Nat} (hpc : pc + 3 = pc') (C : CX X G A own cc nL ret rm) {x : Int32} {off : Int} {tgt : Nat} (hdg : decode cc pc = .ok (.ifCond .le off, 3)) (ht : (pc : Int) + off = (tgt : Int)) (kt : x ≤ 0 → WY X G A a Y k n Q tgt L st) (kf : ¬ x ≤ 0 → WY X G A a Y k n Q pc' L st) : WY X G A a Y k n Q pc L (.int x :: st) := by subst hpc; exact fun M hM => r_if_le C hdg ht (fun h => kt h M hM) (fun h => kf h M hM)
theorem y_ic_le {pc' : Nat} (hpc : pc + 3 = pc') (C : CX X G A own cc nL ret rm) {x y : Int32} {off : Int} {tgt : Nat} (hdg : decode cc pc = .ok (.if_icmp .le off, 3)) (ht : (pc : Int) + off = (tgt : Int)) (kt : x ≤ y → WY X G A a Y k n Q tgt L st) (kf : ¬ x ≤ y → WY X G A a Y k n Q pc' L st) : WY X G A a Y k n Q pc L (.int y :: .int x :: st) := by subst hpc; exact fun M hM => r_ic_le C hdg ht (fun h => kt h M hM) (fun h => kf h M hM)
theorem y_get {pc' : Nat} (hpc : pc + 3 = pc') (C : CX X G A own cc nL ret rm) {idx ci f : Nat} {i : Id3} {l : List (Nat × Id3)} {v : Value} (hF : FLK own idx ci f) (hi : vld i) (ht : tpl i = .inl (ci, l)) (hv : (l[f]?).map (fun t => fval G a t (Y i f)) = some v) (hdg : decode cc pc = .ok (.getfield idx, 3)) (h5 : Nat.beq i.1 5 = false) (kk : WY X G A a Y k n Q pc' L (v :: st)) : WY X G A a Y k n Q pc L (.ref (a i) :: st)   := by
  subst hpc
  intro M hM
  have h5' : i.1 ≠ 5 := fun e => by rw [e] at h5; cases h5
  have h1 := hM.1 i hi h5'
  rw [cel, ht] at h1
  exact r_getf C hF h1 (by rw [fvals_get, Nat.zero_add]; exact hv) hdg (kk M hM)
/-- a boolean field: it is 0 or 1 -/
theorem y_getB {pc' : Nat} (hpc : pc + 3 = pc') (C : CX X G A own cc nL ret rm) {idx ci f : Nat} {i z : Id3} {l : List (Nat × Id3)} (hF : FLK own idx ci f) (hi : vld i) (ht : tpl i = .inl (ci, l)) (hv : l[f]? = some (3, z)) (hdg : decode cc pc = .ok (.getfield idx, 3)) (h5 : Nat.beq i.1 5 = false) (kk : isb (Y i f) → WY X G A a Y k n Q pc' L (.int (Y i f) :: st)) : WY X G A a Y k n Q pc L (.ref (a i) :: st)   := by
  subst hpc
  intro M hM
  have h5' : i.1 ≠ 5 := fun e => by rw [e] at h5; cases h5
  have h1 := hM.1 i hi h5'
  rw [cel, ht] at h1
  exact r_getf C hF h1 (by rw [fvals_get, Nat.zero_add, hv]; rfl) hdg (kk (hM.2.2.1 i ci f l z hi ht hv) M hM)
theorem y_put {pc' : Nat} (hpc : pc + 3 = pc') (C : CX X G A own cc nL ret rm) {idx ci f : Nat} {i z : Id3} {l : List (Nat × Id3)} {x : Int32} (hF : FLP own idx ci f .int false) (hi : vld i) (ht : tpl i = .inl (ci, l)) (hv : l[f]? = some (0, z)) (hdg : decode cc pc = .ok (.putfield idx, 3)) (h5 : Nat.beq i.1 5 = false) (kk : ∀ Y' : YT, Y' = up Y i f x → WY X G A a Y' k n Q pc' L st) : WY X G A a Y k n Q pc L (.int x :: .ref (a i) :: st)   := by
  subst hpc
  intro M hM
  have h5' : i.1 ≠ 5 := fun e => by rw [e] at h5; cases h5
  have h1 := hM.1 i hi h5'
  rw [cel, ht] at h1
  have hl := (List.getElem?_eq_some_iff.mp hv).1
  refine r_putf C hF h1 (by rw [fvals_len]; exact hl) rfl rfl hdg ?_
  have h2 := hM.put (f := f) (x := x) hi h5' (fun ci' l' z' e1 e2 => by rw [ht] at e1; cases e1; rw [hv] at e2; cases e2)
  rw [cel, ht] at h2
  have e : (fvals G a (Y i) 0 l).set f (.int x) = fvals G a (upd (Y i) f x) 0 l := fvals_set G a (Y i) hv
  rw [e]
  exact kk _ rfl _ h2
theorem isb_nar {x : Int32} (h : isb x) : narrow .boolean (.int x) = .int x ∧ fits .boolean (.int x) = true := by
  rcases h with rfl | rfl <;> exact ⟨rfl, rfl⟩
theorem y_putB {pc' : Nat} (hpc : pc + 3 = pc') (C : CX X G A own cc nL ret rm) {idx ci f : Nat} {i z : Id3} {l : List (Nat × Id3)} {x : Int32} (hF : FLP own idx ci f .boolean false) (hi : vld i) (ht : tpl i = .inl (ci, l)) (hv : l[f]? = some (3, z)) (hx : isb x) (hdg : decode cc pc = .ok (.putfield idx, 3)) (h5 : Nat.beq i.1 5 = false) (kk : ∀ Y' : YT, Y' = up Y i f x → WY X G A a Y' k n Q pc' L st) : WY X G A a Y k n Q pc L (.int x :: .ref (a i) :: st)   := by
  subst hpc
  intro M hM
  have h5' : i.1 ≠ 5 := fun e => by rw [e] at h5; cases h5
  have h1 := hM.1 i hi h5'
  rw [cel, ht] at h1
  have hl := (List.getElem?_eq_some_iff.mp hv).1
  refine r_putf C hF h1 (by rw [fvals_len]; exact hl) (isb_nar hx).1 (isb_nar hx).2 hdg ?_
  have h2 := hM.put (f := f) (x := x) hi h5' (fun _ _ _ _ _ => hx)
  rw [cel, ht] at h2
  have e : (fvals G a (Y i) 0 l).set f (.int x) = fvals G a (upd (Y i) f x) 0 l := fvals_set G a (Y i) hv
  rw [e]
  exact kk _ rfl _ h2
/-- a field that holds a constant of the enum: the constant's place is kept -/
theorem y_putE {pc' : Nat} (hpc : pc + 3 = pc') (C : CX X G A own cc nL ret rm) {idx ci f w : Nat} {i z : Id3} {l : List (Nat × Id3)} (hF : FLP own idx ci f (.object "KilnKeeper$Word") false) (hi : vld i) (ht : tpl i = .inl (ci, l)) (hv : l[f]? = some (2, z)) (hw : w < 100) (hdg : decode cc pc = .ok (.putfield idx, 3)) (h5 : Nat.beq i.1 5 = false) (kk : ∀ Y' : YT, Y' = up Y i f (nI w) → WY X G A a Y' k n Q pc' L st) : WY X G A a Y k n Q pc L (.ref (gad G w) :: .ref (a i) :: st)   := by
  subst hpc
  intro M hM
  have h5' : i.1 ≠ 5 := fun e => by rw [e] at h5; cases h5
  have h1 := hM.1 i hi h5'
  rw [cel, ht] at h1
  have hl := (List.getElem?_eq_some_iff.mp hv).1
  refine r_putf C hF h1 (by rw [fvals_len]; exact hl) rfl rfl hdg ?_
  have h2 := hM.put (f := f) (x := nI w) hi h5' (fun ci' l' z' e1 e2 => by rw [ht] at e1; cases e1; rw [hv] at e2; cases e2)
  rw [cel, ht] at h2
  have e : (fvals G a (Y i) 0 l).set f (.ref (gad G w)) = fvals G a (upd (Y i) f (nI w)) 0 l := by
    have e0 := fvals_set G a (Y i) (x := nI w) hv
    rw [← e0]
    show _ = (fvals G a (Y i) 0 l).set f (.ref (gad G (nI w).toNatClampNeg))
    rw [nI_clamp (by omega)]
  rw [e]
  exact kk _ rfl _ h2
theorem y_alenI {pc' : Nat} (hpc : pc + 1 = pc') (C : CX X G A own cc nL ret rm) {i : Id3} {len : Nat} (hi : vld i) (h5b : Nat.beq i.1 5 = false) (ht : tpl i = .inr (.inl len)) (hdg : decode cc pc = .ok (.arraylength, 1)) (kk : WY X G A a Y k n Q pc' L (.int (nI len) :: st)) : WY X G A a Y k n Q pc L (.ref (a i) :: st)   := by
  subst hpc
  intro M hM
  have h5 : i.1 ≠ 5 := fun e => by rw [e] at h5b; cases h5b
  have h1 := hM.1 i hi h5
  rw [cel, ht] at h1
  exact r_alen C 0 rfl h1 hdg (kk M hM)
theorem y_alenQ {pc' : Nat} (hpc : pc + 1 = pc') (C : CX X G A own cc nL ret rm) {i : Id3} {t len : Nat} {f : Nat → Id3} {ty : FieldType} (hi : vld i) (h5b : Nat.beq i.1 5 = false) (ht : tpl i = .inr (.inr (t, len, f))) (hty : (tys G)[t]? = some (gc G t, ty)) (hdg : decode cc pc = .ok (.arraylength, 1)) (kk : WY X G A a Y k n Q pc' L (.int (nI len) :: st)) : WY X G A a Y k n Q pc L (.ref (a i) :: st)   := by
  subst hpc
  intro M hM
  have h5 : i.1 ≠ 5 := fun e => by rw [e] at h5b; cases h5b
  have h1 := hM.1 i hi h5
  rw [cel, ht] at h1
  exact r_alen C t hty h1 hdg (kk M hM)
theorem y_iald {pc' : Nat} (hpc : pc + 1 = pc') (C : CX X G A own cc nL ret rm) {i : Id3} {len : Nat} {x : Int32} (hi : vld i) (h5b : Nat.beq i.1 5 = false) (ht : tpl i = .inr (.inl len)) (hin : vp_in x len) (hdg : decode cc pc = .ok (.iaload, 1)) (kk : WY X G A a Y k n Q pc' L (.int (Y i x.toNatClampNeg) :: st)) : WY X G A a Y k n Q pc L (.int x :: .ref (a i) :: st)   := by
  subst hpc
  intro M hM
  have h5 : i.1 ≠ 5 := fun e => by rw [e] at h5b; cases h5b
  have h1 := hM.1 i hi h5
  rw [cel, ht] at h1
  exact r_iald C h1 hin hdg (kk M hM)
/-- at a known place j -/
theorem y_ialdN {pc' : Nat} (hpc : pc + 1 = pc') (C : CX X G A own cc nL ret rm) {i : Id3} {len : Nat} (j : Nat) {x : Int32} (hx : x = nI j) (hi : vld i) (h5b : Nat.beq i.1 5 = false) (ht : tpl i = .inr (.inl len)) (hj : j < len) (hlen : Nat.ble len 2000 = true) (hdg : decode cc pc = .ok (.iaload, 1)) (kk : WY X G A a Y k n Q pc' L (.int (Y i j) :: st)) : WY X G A a Y k n Q pc L (.int x :: .ref (a i) :: st)   := by
  subst hpc
  subst hx
  have hl := Nat.le_of_ble_eq_true hlen
  refine y_iald rfl C hi h5b ht (vp_in_nI hj (by omega)) hdg ?_
  rw [nI_clamp (by omega)]
  exact kk
theorem y_iast {pc' : Nat} (hpc : pc + 1 = pc') (C : CX X G A own cc nL ret rm) {i : Id3} {len : Nat} {x v : Int32} (hi : vld i) (h5b : Nat.beq i.1 5 = false) (ht : tpl i = .inr (.inl len)) (hin : vp_in x len) (hdg : decode cc pc = .ok (.iastore, 1)) (kk : ∀ Y' : YT, Y' = up Y i x.toNatClampNeg v → WY X G A a Y' k n Q pc' L st) : WY X G A a Y k n Q pc L (.int v :: .int x :: .ref (a i) :: st)   := by
  subst hpc
  intro M hM
  have h5 : i.1 ≠ 5 := fun e => by rw [e] at h5b; cases h5b
  have h1 := hM.1 i hi h5
  rw [cel, ht] at h1
  refine r_iast C h1 hin hdg ?_
  have h2 := hM.put (f := x.toNatClampNeg) (x := v) hi h5 (fun ci' l' z' e1 e2 => by rw [ht] at e1; cases e1)
  rw [cel, ht] at h2
  exact kk _ rfl _ h2
theorem y_iastN {pc' : Nat} (hpc : pc + 1 = pc') (C : CX X G A own cc nL ret rm) {i : Id3} {len : Nat} (j : Nat) {x v : Int32} (hx : x = nI j) (hi : vld i) (h5b : Nat.beq i.1 5 = false) (ht : tpl i = .inr (.inl len)) (hj : j < len) (hlen : Nat.ble len 2000 = true) (hdg : decode cc pc = .ok (.iastore, 1)) (kk : ∀ Y' : YT, Y' = up Y i j v → WY X G A a Y' k n Q pc' L st) : WY X G A a Y k n Q pc L (.int v :: .int x :: .ref (a i) :: st)   := by
  subst hpc
  subst hx
  have hl := Nat.le_of_ble_eq_true hlen
  refine y_iast rfl C hi h5b ht (vp_in_nI hj (by omega)) hdg ?_
  rw [nI_clamp (by omega)]
  exact kk
theorem y_aaldN {pc' : Nat} (hpc : pc + 1 = pc') (C : CX X G A own cc nL ret rm) {i : Id3} {t len : Nat} {f : Nat → Id3} {Cn : String} (j : Nat) {x : Int32} (hx : x = nI j) (hi : vld i) (h5b : Nat.beq i.1 5 = false) (ht : tpl i = .inr (.inr (t, len, f))) (hty : (tys G)[t]? = some (gc G t, .object Cn)) (hj : j < len) (hlen : Nat.ble len 2000 = true) (hdg : decode cc pc = .ok (.aaload, 1)) (kk : WY X G A a Y k n Q pc' L (.ref (a (f j)) :: st)) : WY X G A a Y k n Q pc L (.int x :: .ref (a i) :: st)   := by
  subst hpc
  subst hx
  have hl := Nat.le_of_ble_eq_true hlen
  intro M hM
  have h5 : i.1 ≠ 5 := fun e => by rw [e] at h5b; cases h5b
  have h1 := hM.1 i hi h5
  rw [cel, ht] at h1
  refine r_aald C t hty h1 (vp_in_nI hj (by omega)) hdg ?_
  rw [nI_clamp (by omega)]
  exact kk M hM
def kindV (own : String) (idx : Nat) (y : MethodName) (nest : Bool) (host : String) : Prop := if nest = true then Cond.methodLinkNest own idx y host ∈ NW else Cond.methodLink own idx y ∈ AW
theorem y_cV {pc' k' n' : Nat} (hpc : pc + 3 = pc') (C : CX X G A own cc nL ret rm) {idx ci na : Nat} {i : Id3} {l : List (Nat × Id3)} {As st0 : List Value} {y : MethodName} {cc' : ByteArray} {nL' : Nat} {ret' : Option FieldType} {rm' : Room} {Post : Option Value → YT → Prop} (hct : CtY (xL X) G a y cc' nL' ret' rm' (.ref (a i) :: As) Y Post) (hy : MV y cc' nL' ret' na) (hl : Cond.methodLink own idx y ∈ AW) (hi : vld i) (ht : tpl i = .inl (ci, l)) (h5 : Nat.beq i.1 5 = false) (hc : (vwCl[ci]?).map (fun q => q.1) = some y.cls) (hst0 : st0 = As.reverse ++ .ref (a i) :: st) (hlen : As.length = na) (hw : (st.map fun v => v.category).sum ≤ 8) (hrm : roomOk rm rm' nL' k n = true) (hdg : decode cc pc = .ok (.invokevirtual idx, 3)) (hk : k + rm'.cells = k') (hn : n + rm'.slots = n') (kk : ∀ (v : Option Value) (Y' : YT), Post v Y' → WY X G A a Y' k' n' Q pc' L (v.toList ++ st)) : WY X G A a Y k n Q pc L st0   := by
  subst hpc hk hn
  intro M hM
  have h5' : i.1 ≠ 5 := fun e => by rw [e] at h5; cases h5
  have h1 := hM.1 i hi h5'
  rw [cel, ht] at h1
  exact r_cV C (hct M hM) hy hl h1 hc hst0 hlen hw hrm hdg (fun v M' hp => by obtain ⟨Y', g1, g2⟩ := hp; exact kk v Y' g2 M' g1)
theorem y_cS {pc' k' n' : Nat} (hpc : pc + 3 = pc') (C : CX X G A own cc nL ret rm) {idx na : Nat} {As st0 : List Value} {y : MethodName} {cc' : ByteArray} {nL' : Nat} {ret' : Option FieldType} {rm' : Room} {Post : Option Value → YT → Prop} (hct : CtY (xL X) G a y cc' nL' ret' rm' As Y Post) (hy : MS y cc' nL' ret' na) (hl : Cond.methodLink own idx y ∈ AW) (hst0 : st0 = As.reverse ++ st) (hlen : As.length = na) (hw : (st.map fun v => v.category).sum ≤ 8) (hrm : roomOk rm rm' nL' k n = true) (hdg : decode cc pc = .ok (.invokestatic idx, 3)) (hk : k + rm'.cells = k') (hn : n + rm'.slots = n') (kk : ∀ (v : Option Value) (Y' : YT), Post v Y' → WY X G A a Y' k' n' Q pc' L (v.toList ++ st)) : WY X G A a Y k n Q pc L st0   := by
  subst hpc hk hn
  intro M hM
  exact r_cS C (hct M hM) hy hl hst0 hlen hw hrm hdg (fun v M' hp => by obtain ⟨Y', g1, g2⟩ := hp; exact kk v Y' g2 M' g1)
theorem y_cSN {pc' k' n' : Nat} (hpc : pc + 3 = pc') (C : CX X G A own cc nL ret rm) {idx na : Nat} {host : String} {As st0 : List Value} {y : MethodName} {cc' : ByteArray} {nL' : Nat} {ret' : Option FieldType} {rm' : Room} {Post : Option Value → YT → Prop} (hct : CtY (xL X) G a y cc' nL' ret' rm' As Y Post) (hy : MS y cc' nL' ret' na) (hl : Cond.methodLinkNest own idx y host ∈ NW) (hst0 : st0 = As.reverse ++ st) (hlen : As.length = na) (hw : (st.map fun v => v.category).sum ≤ 8) (hrm : roomOk rm rm' nL' k n = true) (hdg : decode cc pc = .ok (.invokestatic idx, 3)) (hk : k + rm'.cells = k') (hn : n + rm'.slots = n') (kk : ∀ (v : Option Value) (Y' : YT), Post v Y' → WY X G A a Y' k' n' Q pc' L (v.toList ++ st)) : WY X G A a Y k n Q pc L st0   := by
  subst hpc hk hn
  intro M hM
  exact r_cSN C (hct M hM) hy hl hst0 hlen hw hrm hdg (fun v M' hp => by obtain ⟨Y', g1, g2⟩ := hp; exact kk v Y' g2 M' g1)
theorem y_cVi {pc' k' n' : Nat} (hpc : pc + 3 = pc') (C : CX X G A own cc nL ret rm) {idx ci na : Nat} {i : Id3} {l : List (Nat × Id3)} {As st0 : List Value} {y : MethodName} {cc' : ByteArray} {nL' : Nat} {ret' : Option FieldType} {rm' : Room} {Post : Int32 → YT → Prop} (hct : CtY (xL X) G a y cc' nL' ret' rm' (.ref (a i) :: As) Y (PI Post)) (hy : MV y cc' nL' ret' na) (hl : Cond.methodLink own idx y ∈ AW) (hi : vld i) (ht : tpl i = .inl (ci, l)) (h5 : Nat.beq i.1 5 = false) (hc : (vwCl[ci]?).map (fun q => q.1) = some y.cls) (hst0 : st0 = As.reverse ++ .ref (a i) :: st) (hlen : As.length = na) (hw : (st.map fun v => v.category).sum ≤ 8) (hrm : roomOk rm rm' nL' k n = true) (hdg : decode cc pc = .ok (.invokevirtual idx, 3)) (hk : k + rm'.cells = k') (hn : n + rm'.slots = n') (kk : ∀ (r : Int32) (Y' : YT), Post r Y' → WY X G A a Y' k' n' Q pc' L (.int r :: st)) : WY X G A a Y k n Q pc L st0   := y_cV hpc C hct hy hl hi ht h5 hc hst0 hlen hw hrm hdg hk hn (fun v Y' hp => by obtain ⟨r, rfl, hr⟩ := hp; exact kk r Y' hr)
theorem y_cVv {pc' k' n' : Nat} (hpc : pc + 3 = pc') (C : CX X G A own cc nL ret rm) {idx ci na : Nat} {i : Id3} {l : List (Nat × Id3)} {As st0 : List Value} {y : MethodName} {cc' : ByteArray} {nL' : Nat} {ret' : Option FieldType} {rm' : Room} {Post : YT → Prop} (hct : CtY (xL X) G a y cc' nL' ret' rm' (.ref (a i) :: As) Y (PV Post)) (hy : MV y cc' nL' ret' na) (hl : Cond.methodLink own idx y ∈ AW) (hi : vld i) (ht : tpl i = .inl (ci, l)) (h5 : Nat.beq i.1 5 = false) (hc : (vwCl[ci]?).map (fun q => q.1) = some y.cls) (hst0 : st0 = As.reverse ++ .ref (a i) :: st) (hlen : As.length = na) (hw : (st.map fun v => v.category).sum ≤ 8) (hrm : roomOk rm rm' nL' k n = true) (hdg : decode cc pc = .ok (.invokevirtual idx, 3)) (hk : k + rm'.cells = k') (hn : n + rm'.slots = n') (kk : ∀ (Y' : YT), Post Y' → WY X G A a Y' k' n' Q pc' L st) : WY X G A a Y k n Q pc L st0   := y_cV hpc C hct hy hl hi ht h5 hc hst0 hlen hw hrm hdg hk hn (fun v Y' hp => by obtain ⟨rfl, hr⟩ := hp; exact kk Y' hr)
theorem y_cVr {pc' k' n' : Nat} (hpc : pc + 3 = pc') (C : CX X G A own cc nL ret rm) {idx ci na : Nat} {i : Id3} {l : List (Nat × Id3)} {As st0 : List Value} {y : MethodName} {cc' : ByteArray} {nL' : Nat} {ret' : Option FieldType} {rm' : Room} {Post : Value → YT → Prop} (hct : CtY (xL X) G a y cc' nL' ret' rm' (.ref (a i) :: As) Y (PR Post)) (hy : MV y cc' nL' ret' na) (hl : Cond.methodLink own idx y ∈ AW) (hi : vld i) (ht : tpl i = .inl (ci, l)) (h5 : Nat.beq i.1 5 = false) (hc : (vwCl[ci]?).map (fun q => q.1) = some y.cls) (hst0 : st0 = As.reverse ++ .ref (a i) :: st) (hlen : As.length = na) (hw : (st.map fun v => v.category).sum ≤ 8) (hrm : roomOk rm rm' nL' k n = true) (hdg : decode cc pc = .ok (.invokevirtual idx, 3)) (hk : k + rm'.cells = k') (hn : n + rm'.slots = n') (kk : ∀ (r : Value) (Y' : YT), Post r Y' → WY X G A a Y' k' n' Q pc' L (r :: st)) : WY X G A a Y k n Q pc L st0   := y_cV hpc C hct hy hl hi ht h5 hc hst0 hlen hw hrm hdg hk hn (fun v Y' hp => by obtain ⟨r, rfl, hr⟩ := hp; exact kk r Y' hr)
theorem y_cSi {pc' k' n' : Nat} (hpc : pc + 3 = pc') (C : CX X G A own cc nL ret rm) {idx na : Nat} {As st0 : List Value} {y : MethodName} {cc' : ByteArray} {nL' : Nat} {ret' : Option FieldType} {rm' : Room} {Post : Int32 → YT → Prop} (hct : CtY (xL X) G a y cc' nL' ret' rm' As Y (PI Post)) (hy : MS y cc' nL' ret' na) (hl : Cond.methodLink own idx y ∈ AW) (hst0 : st0 = As.reverse ++ st) (hlen : As.length = na) (hw : (st.map fun v => v.category).sum ≤ 8) (hrm : roomOk rm rm' nL' k n = true) (hdg : decode cc pc = .ok (.invokestatic idx, 3)) (hk : k + rm'.cells = k') (hn : n + rm'.slots = n') (kk : ∀ (r : Int32) (Y' : YT), Post r Y' → WY X G A a Y' k' n' Q pc' L (.int r :: st)) : WY X G A a Y k n Q pc L st0   := y_cS hpc C hct hy hl hst0 hlen hw hrm hdg hk hn (fun v Y' hp => by obtain ⟨r, rfl, hr⟩ := hp; exact kk r Y' hr)
theorem y_cSv {pc' k' n' : Nat} (hpc : pc + 3 = pc') (C : CX X G A own cc nL ret rm) {idx na : Nat} {As st0 : List Value} {y : MethodName} {cc' : ByteArray} {nL' : Nat} {ret' : Option FieldType} {rm' : Room} {Post : YT → Prop} (hct : CtY (xL X) G a y cc' nL' ret' rm' As Y (PV Post)) (hy : MS y cc' nL' ret' na) (hl : Cond.methodLink own idx y ∈ AW) (hst0 : st0 = As.reverse ++ st) (hlen : As.length = na) (hw : (st.map fun v => v.category).sum ≤ 8) (hrm : roomOk rm rm' nL' k n = true) (hdg : decode cc pc = .ok (.invokestatic idx, 3)) (hk : k + rm'.cells = k') (hn : n + rm'.slots = n') (kk : ∀ (Y' : YT), Post Y' → WY X G A a Y' k' n' Q pc' L st) : WY X G A a Y k n Q pc L st0   := y_cS hpc C hct hy hl hst0 hlen hw hrm hdg hk hn (fun v Y' hp => by obtain ⟨rfl, hr⟩ := hp; exact kk Y' hr)
theorem y_cSr {pc' k' n' : Nat} (hpc : pc + 3 = pc') (C : CX X G A own cc nL ret rm) {idx na : Nat} {As st0 : List Value} {y : MethodName} {cc' : ByteArray} {nL' : Nat} {ret' : Option FieldType} {rm' : Room} {Post : Value → YT → Prop} (hct : CtY (xL X) G a y cc' nL' ret' rm' As Y (PR Post)) (hy : MS y cc' nL' ret' na) (hl : Cond.methodLink own idx y ∈ AW) (hst0 : st0 = As.reverse ++ st) (hlen : As.length = na) (hw : (st.map fun v => v.category).sum ≤ 8) (hrm : roomOk rm rm' nL' k n = true) (hdg : decode cc pc = .ok (.invokestatic idx, 3)) (hk : k + rm'.cells = k') (hn : n + rm'.slots = n') (kk : ∀ (r : Value) (Y' : YT), Post r Y' → WY X G A a Y' k' n' Q pc' L (r :: st)) : WY X G A a Y k n Q pc L st0   := y_cS hpc C hct hy hl hst0 hlen hw hrm hdg hk hn (fun v Y' hp => by obtain ⟨r, rfl, hr⟩ := hp; exact kk r Y' hr)
theorem y_cSNi {pc' k' n' : Nat} (hpc : pc + 3 = pc') (C : CX X G A own cc nL ret rm) {idx na : Nat} {host : String} {As st0 : List Value} {y : MethodName} {cc' : ByteArray} {nL' : Nat} {ret' : Option FieldType} {rm' : Room} {Post : Int32 → YT → Prop} (hct : CtY (xL X) G a y cc' nL' ret' rm' As Y (PI Post)) (hy : MS y cc' nL' ret' na) (hl : Cond.methodLinkNest own idx y host ∈ NW) (hst0 : st0 = As.reverse ++ st) (hlen : As.length = na) (hw : (st.map fun v => v.category).sum ≤ 8) (hrm : roomOk rm rm' nL' k n = true) (hdg : decode cc pc = .ok (.invokestatic idx, 3)) (hk : k + rm'.cells = k') (hn : n + rm'.slots = n') (kk : ∀ (r : Int32) (Y' : YT), Post r Y' → WY X G A a Y' k' n' Q pc' L (.int r :: st)) : WY X G A a Y k n Q pc L st0   := y_cSN hpc C hct hy hl hst0 hlen hw hrm hdg hk hn (fun v Y' hp => by obtain ⟨r, rfl, hr⟩ := hp; exact kk r Y' hr)
theorem y_cSNv {pc' k' n' : Nat} (hpc : pc + 3 = pc') (C : CX X G A own cc nL ret rm) {idx na : Nat} {host : String} {As st0 : List Value} {y : MethodName} {cc' : ByteArray} {nL' : Nat} {ret' : Option FieldType} {rm' : Room} {Post : YT → Prop} (hct : CtY (xL X) G a y cc' nL' ret' rm' As Y (PV Post)) (hy : MS y cc' nL' ret' na) (hl : Cond.methodLinkNest own idx y host ∈ NW) (hst0 : st0 = As.reverse ++ st) (hlen : As.length = na) (hw : (st.map fun v => v.category).sum ≤ 8) (hrm : roomOk rm rm' nL' k n = true) (hdg : decode cc pc = .ok (.invokestatic idx, 3)) (hk : k + rm'.cells = k') (hn : n + rm'.slots = n') (kk : ∀ (Y' : YT), Post Y' → WY X G A a Y' k' n' Q pc' L st) : WY X G A a Y k n Q pc L st0   := y_cSN hpc C hct hy hl hst0 hlen hw hrm hdg hk hn (fun v Y' hp => by obtain ⟨rfl, hr⟩ := hp; exact kk Y' hr)
theorem y_cSNr {pc' k' n' : Nat} (hpc : pc + 3 = pc') (C : CX X G A own cc nL ret rm) {idx na : Nat} {host : String} {As st0 : List Value} {y : MethodName} {cc' : ByteArray} {nL' : Nat} {ret' : Option FieldType} {rm' : Room} {Post : Value → YT → Prop} (hct : CtY (xL X) G a y cc' nL' ret' rm' As Y (PR Post)) (hy : MS y cc' nL' ret' na) (hl : Cond.methodLinkNest own idx y host ∈ NW) (hst0 : st0 = As.reverse ++ st) (hlen : As.length = na) (hw : (st.map fun v => v.category).sum ≤ 8) (hrm : roomOk rm rm' nL' k n = true) (hdg : decode cc pc = .ok (.invokestatic idx, 3)) (hk : k + rm'.cells = k') (hn : n + rm'.slots = n') (kk : ∀ (r : Value) (Y' : YT), Post r Y' → WY X G A a Y' k' n' Q pc' L (r :: st)) : WY X G A a Y k n Q pc L st0   := y_cSN hpc C hct hy hl hst0 hlen hw hrm hdg hk hn (fun v Y' hp => by obtain ⟨r, rfl, hr⟩ := hp; exact kk r Y' hr)
theorem y_ireturn (C : CX X G A own cc nL ret rm) {ty : FieldType} {x : Int32} {Post : Int32 → YT → Prop} (hret : ret = some ty) (hn : narrow ty (.int x) = .int x) (hdg : decode cc pc = .ok (.ireturn, 1)) (h1 : Nat.ble k rm.cells = true) (h2 : Nat.ble n rm.slots = true) (hp : Post x Y) : WY X G A a Y k n (MEnd X G A rm (PY G a (PI Post))) pc L [.int x] := fun M hM => r_ireturn C hret hn hdg ⟨Y, hM, x, rfl, hp⟩ h1 h2
theorem y_return (C : CX X G A own cc nL ret rm) {Post : YT → Prop} (hret : ret = none) (hdg : decode cc pc = .ok (.return_, 1)) (h1 : Nat.ble k rm.cells = true) (h2 : Nat.ble n rm.slots = true) (hp : Post Y) : WY X G A a Y k n (MEnd X G A rm (PY G a (PV Post))) pc L [] := fun M hM => r_return C hret hdg ⟨Y, hM, rfl, hp⟩ h1 h2
theorem y_areturn (C : CX X G A own cc nL ret rm) {ty : FieldType} {v : Value} {Post : Value → YT → Prop} (hret : ret = some ty) (hty : (∃ n, ty = .object n) ∨ ∃ t, ty = .array t) (hv : v = .null ∨ ∃ a, v = .ref a) (hdg : decode cc pc = .ok (.areturn, 1)) (h1 : Nat.ble k rm.cells = true) (h2 : Nat.ble n rm.slots = true) (hp : Post v Y) : WY X G A a Y k n (MEnd X G A rm (PY G a (PR Post))) pc L [v] := fun M hM => r_areturn C hret hty hv hdg ⟨Y, hM, v, rfl, hp⟩ h1 h2
/-- two ways that meet with one value -/
theorem ite_to {α : Type} {P : α → Prop} {c : Prop} {dc : Decidable c} {x y : α} (h : P (if c then x else y)) : (c → P x) ∧ (¬ c → P y) := ⟨fun hc => by rw [if_pos hc] at h; exact h, fun hc => by rw [if_neg hc] at h; exact h⟩
end YROWS
