/-! STRINGS: rows for copying out of a String of the code, for cloning bytes, for a call that is overridden. -/
section ROWS3
variable {X : XT} {G : GT} {A : Nat → Prop} {own : String} {cc : ByteArray} {nL : Nat} {ret : Option FieldType} {rm : Room} {M : Mem} {k n : Nat} {Q : State → Prop} {pc : Nat} {L : List (Option Value)} {st : List Value}
theorem r_acpyT (C : CX X G A own cc nL ret rm) {idx t a n0 n1 : Nat} {f g : Nat → Int32} {sp dp cn : Int32} (hl : Cond.methodLink own idx arraycopyName ∈ AW) (hV : va_T .byte t n0 (fun j => .int (f j)) A (xS X) (xS X).heap) (ha1 : M a = some (.inl (gc G 1, n1, .inl g)))
    (h1 : ¬ sp < 0) (h2 : ¬ dp < 0) (h3 : ¬ cn < 0) (h4 : sp.toNatClampNeg + cn.toNatClampNeg ≤ n0) (h5 : dp.toNatClampNeg + cn.toNatClampNeg ≤ n1) (hfit : ∀ i, i < cn.toNatClampNeg → fits .byte (.int (f (sp.toNatClampNeg + i))) = true)
    (hf1 : Nat.ble 1 rm.frames = true) (hf2 : (st.map fun v => v.category).sum + (nativeFrameWords "java/lang/System" "arraycopy" 5 + 11) ≤ rm.locals) (hdg : decode cc pc = .ok (.invokestatic idx, 3))
    (kk : WM X G A (mup M a (.inl (gc G 1, n1, .inl (va_cpy f g sp.toNatClampNeg dp.toNatClampNeg cn.toNatClampNeg)))) k n Q (pc + 3) L st) : WM X G A M k n Q pc L (.int cn :: .int dp :: .ref a :: .int sp :: .ref t :: st) := by
  intro H locs ls hS hM hA hL
  have nn : ∀ z : Int32, ¬ z < 0 → z.toInt = (z.toNatClampNeg : Int) := by
    intro z hz
    have hz0 : (0 : Int) ≤ z.toInt := by
      have := Int32.not_lt.mp hz
      simpa using Int32.le_iff_toInt_le.mp this
    show z.toInt = ((z.toInt.toNat : Nat) : Int)
    omega
  obtain ⟨scr, hs1, ⟨hs6, k0, hk0, cm0, hkk0⟩, hs3, hs4, -, hs5, hbA⟩ := hV
  intro T hT Y
  have hc0 : H[t]? = some scr := by rw [hS.2.1 t (Array.getElem?_eq_some_iff.mp hs1).1 hbA]; exact hs1
  have hc1 : H[a]? = some (vp_cell (gc G 1) (n1, .inl g)) := hM a _ ha1
  obtain ⟨-, k1, hk1, cm1, hkk1⟩ := (C.K.2 1 _ rfl).1 n1 (fun j => .int (g j))
  obtain ⟨vm', Y', step⟩ := Y.arraycopy C.ex C.ow (C.ts _ hl) (C.ts _ aw_571) (C.ts _ aw_570) (C.ts _ aw_35) (src := t) (dst := a) (cs := scr) (cd := vp_cell (gc G 1) (n1, .inl g)) (srcPos := sp) (destPos := dp) (n := cn) (by rw [hT]; exact hc0) (by rw [hT]; exact hc1)
    hs6 (fun _ h => by cases h) hs3 (fun h => by cases h) hk0 hk1 hkk0 hkk1 (by simp [refKind]) h1 h2 h3
    (by rw [nn sp h1, nn cn h3]; omega)
    (by rw [nn dp h2, nn cn h3]; show ¬ _ > ((arrV (gc G 1) n1 (fun j => .int (g j))).slots.size : Int); rw [arrV_size]; omega)
    (fun vm₁ _ i hi => by
      have e : scr.slots.getD (sp.toNatClampNeg + i) .null = .int (f (sp.toNatClampNeg + i)) := by
        rw [Array.getD_eq_getD_getElem?, hs5 _ (by omega)]
        rfl
      refine ⟨?_, ?_⟩
      · rw [e]
        exact hfit i hi
      · rw [e]
        exact trivial)
    (g := F0 (xM X) pc ls (.int cn :: .int dp :: .ref a :: .int sp :: .ref t :: st)) rfl (by show ls.size = _; exact hL.1) (rest := st) rfl (by rw [C.cd]; exact hdg) (by rw [C.ro]; exact Nat.le_of_ble_eq_true hf1) (by rw [C.ro]; show 2 * 0 + _ + _ ≤ _; omega)
  have e1 : copied scr (vp_cell (gc G 1) (n1, .inl g)) sp dp cn = vp_cell (gc G 1) (n1, .inl (va_cpy f g sp.toNatClampNeg dp.toNatClampNeg cn.toNatClampNeg)) := va_copiedX (fun z => .int z) scr (gc G 1) f g hs5 h4
  rw [e1] at Y' step
  have hlt : a < H.size := (Array.getElem?_eq_some_iff.mp hc1).1
  have hheap : ((T.setVm vm').setCell a (vp_cell (gc G 1) (n1, .inl (va_cpy f g sp.toNatClampNeg dp.toNatClampNeg cn.toNatClampNeg)))).heap = H.setIfInBounds a (vp_cell (gc G 1) (n1, .inl (va_cpy f g sp.toNatClampNeg dp.toNatClampNeg cn.toNatClampNeg))) := by rw [← hT]; rfl
  have oq : ∀ q : Nat, q ≠ a → (H.setIfInBounds a (vp_cell (gc G 1) (n1, .inl (va_cpy f g sp.toNatClampNeg dp.toNatClampNeg cn.toNatClampNeg))))[q]? = H[q]? := fun q hq => by simp [Array.getElem?_setIfInBounds, Ne.symm hq]
  have hAa : A a := hA a (by rw [ha1]; simp)
  obtain ⟨t2, a1, b1⟩ := kk _ _ ls ⟨by simp; exact hS.1, fun q g1 g2 => by
      rw [oq q (fun e => g2 (by rw [e]; exact hAa))]
      exact hS.2.1 q g1 g2, fun q hq => by
      rcases List.mem_append.mp hq with h | h
      · exact hS.2.2 q h
      · obtain ⟨z, -, hz⟩ := List.mem_map.mp h
        rw [← hz]
        exact hAa⟩ (hM.up (show (H.setIfInBounds a _)[a]? = some _ by simp [Array.getElem?_setIfInBounds, hlt]) (fun q _ hq => oq q hq)) (mup_A hA hAa) hL _ hheap Y'
  exact ⟨t2, step t2 a1, b1⟩
/-- a list of all cells, one more -/
theorem r_cloneB (C : CX X G A own cc nL ret rm) {idx a m : Nat} {z : Nat → Int32} (hl : Cond.methodLink own idx ⟨"[B", "clone", "()Ljava/lang/Object;"⟩ ∈ AW) (ha : M a = some (.inl (gc G 1, m, .inl z))) (hf : sb_Fit z)
    (hf1 : Nat.ble 1 rm.frames = true) (hf2 : (st.map fun v => v.category).sum + 14 ≤ rm.locals) (h1 : k + 1 ≤ rm.cells) (h2 : n + m ≤ rm.slots) (hdg : decode cc pc = .ok (.invokevirtual idx, 3))
    (kk : ∀ q : Nat, M q = none → WM X G A (mup M q (.inl (gc G 1, m, .inl z))) (k + 1) (n + m) Q (pc + 3) L (.ref q :: st)) : WM X G A M k n Q pc L (.ref a :: st) := by
  intro H locs ls hS hM hA hL
  obtain ⟨ws, w1, w2, w3⟩ := allW M H.size
  obtain ⟨q0, hq0⟩ := w2 a _ (hM.lt (by rw [ha]; simp)) ha
  have hP : va_P G.1 vwCl ws H := fun i q hq => hM _ _ (w1 i q hq)
  have hD : va_D A ws := ⟨w3, fun i q hq => hA _ (by rw [w1 i q hq]; simp)⟩
  refine va_clone C.ex C.cd hL.1.symm C.ow (C.ts _ hl) (C.ts _ aw_560) (C.ts _ aw_561) (C.ts _ aw_562) (C.ts _ aw_563) (C.ev.2.2.2.2.2.2.2.2.2.2.2.1 _ (List.mem_cons_of_mem _ (List.mem_cons_of_mem _ (List.mem_cons_of_mem _ (List.mem_cons_of_mem _ (List.mem_cons_of_mem _ (List.mem_cons_of_mem _ (List.mem_cons_of_mem _ List.mem_cons_self)))))))) C.K hP hD hS C.hA q0 1 hq0 rfl (va_nm_byte (C.K.2 1 _ rfl).2) (fun i v hv => ?_) (by rw [C.ro]; exact Nat.le_of_ble_eq_true hf1) (by rw [C.ro]; exact hf2) (by rw [C.ro]; exact h1) (by rw [C.ro]; exact h2) hdg (fun q H1 _ e1 e2 e3 => ?_)
  · have hv' : (arrV (gc G 1) m (fun j => .int (z j))).slots[i]? = some v := hv
    by_cases hi : i < m
    · rw [arrV_read _ _ hi] at hv'
      cases hv'
      exact hf i
    · rw [Array.getElem?_eq_none (by rw [arrV_size]; omega)] at hv'
      cases hv'
  have hq : (ws ++ [(q, (.inl (gc G 1, m, .inl z) : va_E))])[ws.length]? = some (q, .inl (gc G 1, m, .inl z)) := by simp
  have hin : ∀ (i : Nat) (x : Nat × va_E), ws[i]? = some x → (ws ++ [(q, (.inl (gc G 1, m, .inl z) : va_E))])[i]? = some x := fun i x hx => by
    rw [List.getElem?_append_left (List.getElem?_eq_some_iff.mp hx).1]
    exact hx
  have hMq : M q = none := by
    cases hm : M q with
    | none => rfl
    | some e =>
      obtain ⟨i, hi⟩ := w2 q e (hM.lt (by rw [hm]; simp)) hm
      have h9 := e2.1 i ws.length _ _ (hin i _ hi) hq rfl
      have := (List.getElem?_eq_some_iff.mp hi).1
      omega
  refine kk q hMq H1 locs ls e3 (fun b e hb => ?_) (mup_A hA (e2.2 _ _ hq)) hL
  by_cases hbq : b = q
  · subst hbq
    rw [mup_s] at hb
    cases hb
    exact e1 _ _ hq
  · rw [mup_n hbq] at hb
    obtain ⟨i, hi⟩ := w2 b e (hM.lt (by rw [hb]; simp)) hb
    exact e1 i _ (hin i _ hi)
theorem r_castB (C : CX X G A own cc nL ret rm) {idx a m : Nat} {z : Nat → Int32} (hl : Cond.classLink own idx "[B" ∈ AW) (ha : M a = some (.inl (gc G 1, m, .inl z))) (hdg : decode cc pc = .ok (.checkcast idx, 3))
    (kk : WM X G A M k n Q (pc + 3) L (.ref a :: st)) : WM X G A M k n Q pc L (.ref a :: st) := by
  intro H locs ls hS hM hA hL
  exact va_castA C.ex C.cd C.ow (C.ts _ hl) (hP1 (hM _ _ ha)) 0 rfl (va_nm_byte (C.K.2 1 _ rfl).2) hdg (kk H locs ls hS hM hA hL)
/-- an overriding method -/
theorem r_cO (C : CX X G A own cc nL ret rm) {idx b na : Nat} {Cn owner : String} {As st0 : List Value} {x y : MethodName} {cc' : ByteArray} {nL' : Nat} {ret' : Option FieldType} {rm' : Room} {Post : Option Value → Mem → Prop} (hct : Ct (xL X) G y cc' nL' ret' rm' (.ref b :: As) M Post) (hcode : Cond.code y cc' nL' ret' ∈ AW) (hini : Cond.initialized y.cls ∈ AW) (hinst : Cond.instanceMethod y ∈ AW) (hinst0 : Cond.instanceMethod ⟨owner, x.name, x.desc⟩ ∈ AW) (hsel : Cond.selects Cn x y ∈ AW) (hsame : Cond.sameMethod x.cls owner x.name x.desc ∈ AW) (hl : Cond.methodLink own idx x ∈ AW)
    {b0 : ByteArray} {m0 : Nat} {r0 : Option FieldType} (h0 : Cond.code ⟨owner, x.name, x.desc⟩ b0 m0 r0 ∈ AW)
    (hd : owner ≠ "java/lang/invoke/MethodHandle" ∧ owner ≠ "java/lang/invoke/VarHandle" ∧ (parseMethodDescriptor x.desc).map (fun d => d.parameters.length) = some na)
    (hrc : ∀ (H : Heap) (locs : List Loc), va_S A (xS X).heap H locs → HM G M H → ∃ cell : Cell, H[b]? = some cell ∧ cell.vm.isStatics = false ∧ (xS X).vm.findClass Cn = some cell.cls) (hst0 : st0 = As.reverse ++ .ref b :: st) (hlen : As.length = na) (hw : (st.map fun v => v.category).sum ≤ 8) (hrm : roomOk rm rm' nL' k n = true) (hdg : decode cc pc = .ok (.invokevirtual idx, 3)) (kk : ∀ (v : Option Value) (M' : Mem), Post v M' → WM X G A M' (k + rm'.cells) (n + rm'.slots) Q (pc + 3) L (v.toList ++ st)) : WM X G A M k n Q pc L st0 := by
  intro H locs ls hS hM hA hL
  obtain ⟨g1, g2, g3, g4⟩ := roomOk_at hrm
  have hG : GoodIn AW (va_wsO own idx Cn owner x y (Cond.code y cc' nL' ret' :: AW)) := by
    intro w hw'
    have hin : w ∈ AW := by
      unfold va_wsO at hw'
      simp only [List.cons_append, List.nil_append, List.mem_cons] at hw'
      rcases hw' with rfl | rfl | rfl | rfl | rfl | rfl | rfl | h
      · exact hl
      · exact hsame
      · exact hinst0
      · exact hsel
      · exact hinst
      · exact hini
      · exact hcode
      · exact h
    exact ⟨hin, good_of_word (AW_good w hin)⟩
  refine c_go C hS hA hL (va_runU (As := As) (rest := st) ⟨C.ex, C.cd, C.ml, C.ow, C.ts⟩ (hct H.size) (C := Cn) (owner := owner) (n := na) (va_cwO na C.ts hG rfl rfl rfl h0 hd (by rw [C.ro]; exact ⟨g1, g2⟩)) ⟨c_blind, hrc H locs hS hM, fun U hU hW => c_pre C hS hM hA U hU hW⟩ rfl hlen (hL.1.trans C.ml) hst0 (lv_room hw) hdg (by rw [C.ro]; exact ⟨g3, g4⟩)) kk
theorem r_pureR {v0 : Value} (kk : WM X G A M k n Q pc L (v0 :: st)) : ∀ (v : Option Value) (M' : Mem), (v = some v0 ∧ M' = M) → WM X G A M' k n Q pc L (v.toList ++ st) := by
  rintro v M' ⟨rfl, rfl⟩
  exact kk
end ROWS3
