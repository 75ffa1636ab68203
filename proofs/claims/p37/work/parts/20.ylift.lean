/-! THE JDK'S METHODS OVER THE WORLD: Strings, builders, constants of the enum. -/
section YLIFT
variable {X : XT} {G : GT} {A : Nat → Prop} {a : Id3 → Nat} {own : String} {cc : ByteArray} {nL : Nat} {ret : Option FieldType} {rm : Room} {Y : YT} {k n : Nat} {Q : State → Prop} {pc : Nat} {L : List (Option Value)} {st : List Value}
theorem y_cVg {pc' k' n' : Nat} (hpc : pc + 3 = pc') (C : CX X G A own cc nL ret rm) {idx b na : Nat} {Cn : String} {As st0 : List Value} {y : MethodName} {cc' : ByteArray} {nL' : Nat} {ret' : Option FieldType} {rm' : Room} {Post : Option Value → YT → Prop} (hct : CtY (xL X) G a y cc' nL' ret' rm' (.ref b :: As) Y Post) (hy : Cond.code y cc' nL' ret' ∈ AW ∧ Cond.initialized y.cls ∈ AW ∧ (y.cls ≠ "java/lang/invoke/MethodHandle" ∧ y.cls ≠ "java/lang/invoke/VarHandle" ∧ (parseMethodDescriptor y.desc).map (fun d => d.parameters.length) = some na) ∧ Cond.instanceMethod y ∈ AW) (hsel : (Cond.selects Cn y y).before (xA X) (xS X) = true) (hl : Cond.methodLink own idx y ∈ AW)
    (hrc : ∀ M : Mem, RepY G a Y M → ∀ (H : Heap) (locs : List Loc), va_S A (xS X).heap H locs → HM G M H → ∃ cell : Cell, H[b]? = some cell ∧ cell.vm.isStatics = false ∧ (xS X).vm.findClass Cn = some cell.cls) (hst0 : st0 = As.reverse ++ .ref b :: st) (hlen : As.length = na) (hw : (st.map fun v => v.category).sum ≤ 8) (hrm : roomOk rm rm' nL' k n = true) (hdg : decode cc pc = .ok (.invokevirtual idx, 3)) (hk : k + rm'.cells = k') (hn : n + rm'.slots = n') (kk : ∀ (v : Option Value) (Y' : YT), Post v Y' → WY X G A a Y' k' n' Q pc' L (v.toList ++ st)) : WY X G A a Y k n Q pc L st0 := by
  subst hpc hk hn
  intro M hM
  exact r_cVg C (hct M hM) hy hsel hl (hrc M hM) hst0 hlen hw hrm hdg (fun v M' hp => by obtain ⟨Y', g1, g2⟩ := hp; exact kk v Y' g2 M' g1)
theorem k_PI {Post : Int32 → YT → Prop} (kk : ∀ (r : Int32) (Y' : YT), Post r Y' → WY X G A a Y' k n Q pc L (.int r :: st)) : ∀ (v : Option Value) (Y' : YT), PI Post v Y' → WY X G A a Y' k n Q pc L (v.toList ++ st) := by
  rintro v Y' ⟨r, rfl, hp⟩
  exact kk r Y' hp
theorem k_PV {Post : YT → Prop} (kk : ∀ Y' : YT, Post Y' → WY X G A a Y' k n Q pc L st) : ∀ (v : Option Value) (Y' : YT), PV Post v Y' → WY X G A a Y' k n Q pc L (v.toList ++ st) := by
  rintro v Y' ⟨rfl, hp⟩
  exact kk Y' hp
theorem k_PR {Post : Value → YT → Prop} (kk : ∀ (r : Value) (Y' : YT), Post r Y' → WY X G A a Y' k n Q pc L (r :: st)) : ∀ (v : Option Value) (Y' : YT), PR Post v Y' → WY X G A a Y' k n Q pc L (v.toList ++ st) := by
  rintro v Y' ⟨r, rfl, hp⟩
  exact kk r Y' hp
theorem ry_str (C : CX X G A own cc nL ret rm) {i : Nat} (hi : 10 ≤ i ∧ i < 25) : ∀ M : Mem, RepY G a Y M → ∀ (H : Heap) (locs : List Loc), va_S A (xS X).heap H locs → HM G M H → ∃ cell : Cell, H[gK G i]? = some cell ∧ cell.vm.isStatics = false ∧ (xS X).vm.findClass "java/lang/String" = some cell.cls := fun _ _ => rc_str C hi
theorem ry_enum (C : CX X G A own cc nL ret rm) {i : Nat} (hi : i < 9) : ∀ M : Mem, RepY G a Y M → ∀ (H : Heap) (locs : List Loc), va_S A (xS X).heap H locs → HM G M H → ∃ cell : Cell, H[gad G i]? = some cell ∧ cell.vm.isStatics = false ∧ (xS X).vm.findClass "KilnKeeper$Word" = some cell.cls := fun _ _ => rc_enum C hi
theorem ry_sb (C : CX X G A own cc nL ret rm) {j : Nat} (hj : j < 2) : ∀ M : Mem, RepY G a Y M → ∀ (H : Heap) (locs : List Loc), va_S A (xS X).heap H locs → HM G M H → ∃ cell : Cell, H[a (5, 0, j)]? = some cell ∧ cell.vm.isStatics = false ∧ (xS X).vm.findClass "java/lang/StringBuilder" = some cell.cls := by
  intro M hM
  obtain ⟨-, -, -, q, -, -, h⟩ := hM
  obtain ⟨cap, len, z, ml, h1, -⟩ := h j hj
  exact rc_mem C h1 rfl
theorem y_cU {pc' k' n' : Nat} (hpc : pc + 3 = pc') (C : CX X G A own cc nL ret rm) {idx b na : Nat} {Cn owner : String} {As st0 : List Value} {x y : MethodName} {cc' : ByteArray} {nL' : Nat} {ret' : Option FieldType} {rm' : Room} {Post : Option Value → YT → Prop} (hct : CtY (xL X) G a y cc' nL' ret' rm' (.ref b :: As) Y Post) (hyx : y = ⟨owner, x.name, x.desc⟩) (hcode : Cond.code y cc' nL' ret' ∈ AW) (hini : Cond.initialized y.cls ∈ AW) (hinst : Cond.instanceMethod y ∈ AW) (hsel : Cond.selects Cn x y ∈ AW) (hsame : Cond.sameMethod x.cls owner x.name x.desc ∈ AW) (hl : Cond.methodLink own idx x ∈ AW)
    (hd : owner ≠ "java/lang/invoke/MethodHandle" ∧ owner ≠ "java/lang/invoke/VarHandle" ∧ (parseMethodDescriptor x.desc).map (fun d => d.parameters.length) = some na)
    (hrc : ∀ M : Mem, RepY G a Y M → ∀ (H : Heap) (locs : List Loc), va_S A (xS X).heap H locs → HM G M H → ∃ cell : Cell, H[b]? = some cell ∧ cell.vm.isStatics = false ∧ (xS X).vm.findClass Cn = some cell.cls) (hst0 : st0 = As.reverse ++ .ref b :: st) (hlen : As.length = na) (hw : (st.map fun v => v.category).sum ≤ 8) (hrm : roomOk rm rm' nL' k n = true) (hdg : decode cc pc = .ok (.invokevirtual idx, 3)) (hk : k + rm'.cells = k') (hn : n + rm'.slots = n') (kk : ∀ (v : Option Value) (Y' : YT), Post v Y' → WY X G A a Y' k' n' Q pc' L (v.toList ++ st)) : WY X G A a Y k n Q pc L st0 := by
  subst hpc hk hn
  intro M hM
  exact r_cU C (hct M hM) hyx hcode hini hinst hsel hsame hl hd (hrc M hM) hst0 hlen hw hrm hdg (fun v M' hp => by obtain ⟨Y', g1, g2⟩ := hp; exact kk v Y' g2 M' g1)
theorem y_getF {pc' : Nat} (hpc : pc + 3 = pc') (C : CX X G A own cc nL ret rm) {idx q : Nat} {o nm d : String} {v : Value} (hE : va_OF o nm d v q A (xS X) (xS X).heap) (hw : Cond.fieldLink own idx o nm d ∈ AW) (hdg : decode cc pc = .ok (.getfield idx, 3)) (kk : WY X G A a Y k n Q pc' L (v :: st)) : WY X G A a Y k n Q pc L (.ref q :: st) := by subst hpc; exact fun M hM => r_getF C hE hw hdg (kk M hM)
theorem y_lenT {pc' : Nat} (hpc : pc + 1 = pc') (C : CX X G A own cc nL ret rm) {t N : Nat} {ty : FieldType} {f : Nat → Value} (hT : va_T ty t N f A (xS X) (xS X).heap) (hdg : decode cc pc = .ok (.arraylength, 1)) (kk : WY X G A a Y k n Q pc' L (.int (nI N) :: st)) : WY X G A a Y k n Q pc L (.ref t :: st) := by subst hpc; exact fun M hM => r_lenT C hT hdg (kk M hM)
theorem y_ialdT {pc' : Nat} (hpc : pc + 1 = pc') (C : CX X G A own cc nL ret rm) {t N : Nat} {f : Nat → Value} {i : Int32} {v : Value} (hT : va_T .int t N f A (xS X) (xS X).heap) (hin : vp_in i N) (hv : f i.toNatClampNeg = v) (hdg : decode cc pc = .ok (.iaload, 1)) (kk : WY X G A a Y k n Q pc' L (v :: st)) : WY X G A a Y k n Q pc L (.int i :: .ref t :: st) := by subst hpc; exact fun M hM => r_ialdT C hT hin hv hdg (kk M hM)
theorem y_aaldT {pc' : Nat} (hpc : pc + 1 = pc') (C : CX X G A own cc nL ret rm) {t N : Nat} {Cn : String} {f : Nat → Value} {i : Int32} {v : Value} (hT : va_T (.object Cn) t N f A (xS X) (xS X).heap) (hin : vp_in i N) (hv : f i.toNatClampNeg = v) (hdg : decode cc pc = .ok (.aaload, 1)) (kk : WY X G A a Y k n Q pc' L (v :: st)) : WY X G A a Y k n Q pc L (.int i :: .ref t :: st) := by subst hpc; exact fun M hM => r_aaldT C hT hin hv hdg (kk M hM)
theorem y_getsN {pc' : Nat} (hpc : pc + 3 = pc') (C : CX X G A own cc nL ret rm) {idx : Nat} {Cn nm d host : String} {v : Value} (hZ : va_Z Cn nm d v A (xS X) (xS X).heap) (hw : Cond.fieldLinkNest own idx Cn nm d host ∈ NW) (hdg : decode cc pc = .ok (.getstatic idx, 3)) (kk : WY X G A a Y k n Q pc' L (v :: st)) : WY X G A a Y k n Q pc L st := by subst hpc; exact fun M hM => r_getsN C hZ hw hdg (kk M hM)
end YLIFT
/-- a builder in the world, and what the world is when it alone has changed -/
theorem RepY.sbx {G : GT} {a : Id3 → Nat} {Y : YT} {M : Mem} (hM : RepY G a Y M) {j : Nat} (hj : j < 2) : ∃ (v n cap : Nat) (ml : Int32) (z : Nat → Int32),
    M (a (5, 0, j)) = some (.inr (0, [.ref v, .int 0, .int ml, .int (nI n)])) ∧ M v = some (.inl (gc G 1, cap, .inl z)) ∧ Y (5, 0, j) 0 = nI n ∧ n ≤ cap ∧ cap ≤ 200 ∧ sb_Fit z ∧ (∀ t, t < n → z t = Y (5, 0, j) (1 + t) ∧ ∃ ch, ch < 128 ∧ Y (5, 0, j) (1 + t) = nI ch) ∧
    ∀ (M' : Mem) (w n' cap' : Nat) (ml' : Int32) (z' y' : Nat → Int32), SBx G M M' (a (5, 0, j)) v n' ml' w cap' z' → y' 0 = nI n' → n' ≤ cap' → (∀ t, t < n' → z' t = y' (1 + t) ∧ ∃ ch, ch < 128 ∧ y' (1 + t) = nI ch) → RepY G a (setA Y (5, 0, j) y') M' := by
  obtain ⟨h1, h2, h3, q, h4, h5, h6⟩ := hM
  obtain ⟨cap, n, z, ml, g1, g2, g3, g4, g5, g6, g7⟩ := h6 j hj
  have v5 : vld (5, 0, j) := ⟨rfl, hj⟩
  refine ⟨q j, n, cap, ml, z, by rw [← g3]; exact g1, g2, g3, g4, g5, g6, g7, ?_⟩
  intro M' w n' cap' ml' z' y' hx e0 en et
  obtain ⟨x1, x2, x3, x4, x5, x6⟩ := hx
  have known : ∀ i, vld i → M (a i) ≠ none := by
    intro i hi
    by_cases hi5 : i.1 = 5
    · obtain ⟨i1, i2, i3⟩ := i
      simp only at hi5
      subst hi5
      obtain ⟨rfl, hi3⟩ := hi
      obtain ⟨c1, c2, c3, c4, d1, -⟩ := h6 i3 hi3
      rw [d1]
      simp
    · rw [h1 i hi hi5]
      simp
  have hwa : ∀ i, vld i → a i ≠ w := by
    intro i hi
    rcases x5 with rfl | hw
    · exact h4 i j hi
    · exact fun e => known i hi (by rw [e]; exact hw)
  have hq : ∀ i, i < 2 → i ≠ j → q i ≠ w := by
    intro i hi hij
    rcases x5 with rfl | hw
    · rcases Nat.lt_or_ge i 1 with h | h
      · obtain rfl : i = 0 := by omega
        obtain rfl : j = 1 := by omega
        exact h5
      · obtain rfl : i = 1 := by omega
        obtain rfl : j = 0 := by omega
        exact h5.symm
    · obtain ⟨c1, c2, c3, c4, d1, d2, -⟩ := h6 i hi
      exact fun e => by rw [e, hw] at d2; cases d2
  have hqb : ∀ i, i < 2 → q i ≠ a (5, 0, j) := fun i hi e => h4 (5, 0, j) i v5 e.symm
  refine ⟨fun i hi hi5 => ?_, h2, fun i ci f l zz hi htj hl => ?_, fun i => if i = j then w else q i, fun i i' hi => ?_, ?_, fun i hi => ?_⟩
  · have hne : i ≠ (5, 0, j) := fun e => hi5 (by rw [e])
    rw [setA_n hne, x6 _ (fun e => hne (h2 i _ hi v5 e)) (hwa i hi)]
    exact h1 i hi hi5
  · by_cases hij : i = (5, 0, j)
    · subst hij
      simp [tpl] at htj
    · rw [setA_n hij]
      exact h3 i ci f l zz hi htj hl
  · show a i ≠ if i' = j then w else q i'
    by_cases e : i' = j
    · rw [if_pos e]
      exact hwa i hi
    · rw [if_neg e]
      exact h4 i i' hi
  · show (if 0 = j then w else q 0) ≠ if 1 = j then w else q 1
    rcases Nat.lt_or_ge j 1 with h | h
    · obtain rfl : j = 0 := by omega
      rw [if_pos rfl, if_neg (by decide)]
      exact (hq 1 (by decide) (by decide)).symm
    · obtain rfl : j = 1 := by omega
      rw [if_neg (by decide), if_pos rfl]
      exact hq 0 (by decide) (by decide)
  · by_cases e : i = j
    · subst e
      refine ⟨cap', n', z', ml', ?_, ?_, ?_, en, x3, x4, ?_⟩
      · rw [setA_s, e0]
        show M' (a (5, 0, i)) = some (.inr (0, [.ref (if i = i then w else q i), .int 0, .int ml', .int (nI n')]))
        rw [if_pos rfl]
        exact x1
      · show M' (if i = i then w else q i) = _
        rw [if_pos rfl]
        exact x2
      · rw [setA_s]
        exact e0
      · rw [setA_s]
        exact et
    · have hne : ((5, 0, i) : Id3) ≠ (5, 0, j) := fun q => e (by injection q with _ q; injection q)
      have v5i : vld (5, 0, i) := ⟨rfl, hi⟩
      obtain ⟨cap2, n2, z2, ml2, d1, d2, d3⟩ := h6 i hi
      refine ⟨cap2, n2, z2, ml2, ?_, ?_, ?_⟩
      · rw [setA_n hne]
        show M' (a (5, 0, i)) = some (.inr (0, [.ref (if i = j then w else q i), .int 0, .int ml2, .int (Y (5, 0, i) 0)]))
        rw [if_neg e, x6 _ (fun q => hne (h2 _ _ v5i v5 q)) (hwa _ v5i)]
        exact d1
      · show M' (if i = j then w else q i) = _
        rw [if_neg e, x6 _ (hqb i hi) (hq i hi e)]
        exact d2
      · rw [setA_n hne]
        exact d3
