/-! ROWS OVER WHAT NEVER CHANGES (Strings, static arrays, constants of the enum), and calls whose receiver lies there. -/
/-- all cells of a map below a bound, as a list -/
theorem allW (M : Mem) (sz : Nat) : ∃ ws : va_W, (∀ (i : Nat) (q : Nat × va_E), ws[i]? = some q → M q.1 = some q.2) ∧ (∀ (a : Nat) (e : va_E), a < sz → M a = some e → ∃ i : Nat, ws[i]? = some (a, e)) ∧ ∀ (i j : Nat) (p q : Nat × va_E), ws[i]? = some p → ws[j]? = some q → p.1 = q.1 → i = j := by
  have key : ∃ ws : va_W, (∀ q ∈ ws, M q.1 = some q.2 ∧ q.1 < sz) ∧ (∀ (a : Nat) (e : va_E), a < sz → M a = some e → (a, e) ∈ ws) ∧ ∀ (i j : Nat) (p q : Nat × va_E), ws[i]? = some p → ws[j]? = some q → p.1 = q.1 → i = j := by
    induction sz with
    | zero => exact ⟨[], fun q h => (List.not_mem_nil h).elim, fun a e h => absurd h (Nat.not_lt_zero a), fun i j p q h => by simp at h⟩
    | succ m ih =>
      obtain ⟨ws, h1, h2, h3⟩ := ih
      cases hm : M m with
      | none =>
        refine ⟨ws, fun q hq => ⟨(h1 q hq).1, Nat.lt_succ_of_lt (h1 q hq).2⟩, fun a e ha he => ?_, h3⟩
        rcases Nat.lt_succ_iff_lt_or_eq.mp ha with h | h
        · exact h2 a e h he
        · rw [h, hm] at he
          cases he
      | some e0 =>
        refine ⟨(m, e0) :: ws, fun q hq => ?_, fun a e ha he => ?_, fun i j p q hi hj hpq => ?_⟩
        · rcases List.mem_cons.mp hq with h | h
          · rw [h]
            exact ⟨hm, Nat.lt_succ_self m⟩
          · exact ⟨(h1 q h).1, Nat.lt_succ_of_lt (h1 q h).2⟩
        · rcases Nat.lt_succ_iff_lt_or_eq.mp ha with h | h
          · exact List.mem_cons_of_mem _ (h2 a e h he)
          · rw [h, hm] at he
            cases he
            rw [h]
            exact List.mem_cons_self
        · cases i with
          | zero =>
            cases j with
            | zero => rfl
            | succ j =>
              simp at hi hj
              have := (h1 q (List.mem_of_getElem? hj)).2
              rw [← hpq, ← hi] at this
              exact absurd this (Nat.lt_irrefl m)
          | succ i =>
            cases j with
            | zero =>
              simp at hi hj
              have := (h1 p (List.mem_of_getElem? hi)).2
              rw [hpq, ← hj] at this
              exact absurd this (Nat.lt_irrefl m)
            | succ j =>
              simp at hi hj
              rw [h3 i j p q hi hj hpq]
  obtain ⟨ws, h1, h2, h3⟩ := key
  exact ⟨ws, fun i q hq => (h1 q (List.mem_of_getElem? hq)).1, fun a e ha he => List.mem_iff_getElem?.mp (h2 a e ha he), h3⟩
section ROWS2
variable {X : XT} {G : GT} {A : Nat → Prop} {own : String} {cc : ByteArray} {nL : Nat} {ret : Option FieldType} {rm : Room} {M : Mem} {k n : Nat} {Q : State → Prop} {pc : Nat} {L : List (Option Value)} {st : List Value}
theorem r_getF (C : CX X G A own cc nL ret rm) {idx q : Nat} {o nm d : String} {v : Value} (hE : va_OF o nm d v q A (xS X) (xS X).heap) (hw : Cond.fieldLink own idx o nm d ∈ AW) (hdg : decode cc pc = .ok (.getfield idx, 3)) (kk : WM X G A M k n Q (pc + 3) L (v :: st)) : WM X G A M k n Q pc L (.ref q :: st) :=
  fun H locs ls hS hM hA hL => vk_getf C.ex C.cd hE hS C.ow (C.ts _ hw) (fun _ h => h) hdg (kk H locs ls hS hM hA hL)
theorem r_lenT (C : CX X G A own cc nL ret rm) {t N : Nat} {ty : FieldType} {f : Nat → Value} (hT : va_T ty t N f A (xS X) (xS X).heap) (hdg : decode cc pc = .ok (.arraylength, 1)) (kk : WM X G A M k n Q (pc + 1) L (.int (nI N) :: st)) : WM X G A M k n Q pc L (.ref t :: st) :=
  fun H locs ls hS hM hA hL => va_tlen C.ex C.cd hT hS rfl hdg (kk H locs ls hS hM hA hL)
theorem r_baldT (C : CX X G A own cc nL ret rm) {t N : Nat} {f : Nat → Value} {i : Int32} {v : Value} (hT : va_T .byte t N f A (xS X) (xS X).heap) (hin : vp_in i N) (hv : f i.toNatClampNeg = v) (hdg : decode cc pc = .ok (.baload, 1)) (kk : WM X G A M k n Q (pc + 1) L (v :: st)) : WM X G A M k n Q pc L (.int i :: .ref t :: st) :=
  fun H locs ls hS hM hA hL => va_tb C.ex C.cd hT hS hin hv hdg (kk H locs ls hS hM hA hL)
theorem r_ialdT (C : CX X G A own cc nL ret rm) {t N : Nat} {f : Nat → Value} {i : Int32} {v : Value} (hT : va_T .int t N f A (xS X) (xS X).heap) (hin : vp_in i N) (hv : f i.toNatClampNeg = v) (hdg : decode cc pc = .ok (.iaload, 1)) (kk : WM X G A M k n Q (pc + 1) L (v :: st)) : WM X G A M k n Q pc L (.int i :: .ref t :: st) :=
  fun H locs ls hS hM hA hL => va_ti C.ex C.cd hT hS hin hv hdg (kk H locs ls hS hM hA hL)
theorem r_aaldT (C : CX X G A own cc nL ret rm) {t N : Nat} {Cn : String} {f : Nat → Value} {i : Int32} {v : Value} (hT : va_T (.object Cn) t N f A (xS X) (xS X).heap) (hin : vp_in i N) (hv : f i.toNatClampNeg = v) (hdg : decode cc pc = .ok (.aaload, 1)) (kk : WM X G A M k n Q (pc + 1) L (v :: st)) : WM X G A M k n Q pc L (.int i :: .ref t :: st) :=
  fun H locs ls hS hM hA hL => vb_tq C.ex C.cd hT hS hin hv hdg (kk H locs ls hS hM hA hL)
theorem r_getsN (C : CX X G A own cc nL ret rm) {idx : Nat} {Cn nm d host : String} {v : Value} (hZ : va_Z Cn nm d v A (xS X) (xS X).heap) (hw : Cond.fieldLinkNest own idx Cn nm d host ∈ NW) (hdg : decode cc pc = .ok (.getstatic idx, 3)) (kk : WM X G A M k n Q (pc + 3) L (v :: st)) : WM X G A M k n Q pc L st :=
  fun H locs ls hS hM hA hL => va_getsN C.ex C.cd hZ hS C.ow (show (Cond.fieldLinkNest own idx Cn nm d host).before (xA X) (xS X) = true from va_tabs rfl rfl (C.ev.2.2.2.2.2.2.2.2.2.2.1 _ hw)) (fun _ h => h) hdg (kk H locs ls hS hM hA hL)
/-- a virtual call: the receiver's class Cn is known, y is what it selects -/
theorem r_cVg (C : CX X G A own cc nL ret rm) {idx b na : Nat} {Cn : String} {As st0 : List Value} {y : MethodName} {cc' : ByteArray} {nL' : Nat} {ret' : Option FieldType} {rm' : Room} {Post : Option Value → Mem → Prop} (hct : Ct (xL X) G y cc' nL' ret' rm' (.ref b :: As) M Post) (hy : Cond.code y cc' nL' ret' ∈ AW ∧ Cond.initialized y.cls ∈ AW ∧ (y.cls ≠ "java/lang/invoke/MethodHandle" ∧ y.cls ≠ "java/lang/invoke/VarHandle" ∧ (parseMethodDescriptor y.desc).map (fun d => d.parameters.length) = some na) ∧ Cond.instanceMethod y ∈ AW) (hsel : (Cond.selects Cn y y).before (xA X) (xS X) = true) (hl : Cond.methodLink own idx y ∈ AW)
    (hrc : ∀ (H : Heap) (locs : List Loc), va_S A (xS X).heap H locs → HM G M H → ∃ cell : Cell, H[b]? = some cell ∧ cell.vm.isStatics = false ∧ (xS X).vm.findClass Cn = some cell.cls) (hst0 : st0 = As.reverse ++ .ref b :: st) (hlen : As.length = na) (hw : (st.map fun v => v.category).sum ≤ 8) (hrm : roomOk rm rm' nL' k n = true) (hdg : decode cc pc = .ok (.invokevirtual idx, 3)) (kk : ∀ (v : Option Value) (M' : Mem), Post v M' → WM X G A M' (k + rm'.cells) (n + rm'.slots) Q (pc + 3) L (v.toList ++ st)) : WM X G A M k n Q pc L st0 := by
  intro H locs ls hS hM hA hL
  obtain ⟨g1, g2, g3, g4⟩ := roomOk_at hrm
  obtain ⟨hcode, hini, hd, hinst⟩ := hy
  refine c_go C hS hA hL (va_runV (As := As) (rest := st) ⟨C.ex, C.cd, C.ml, C.ow, C.ts⟩ (hct H.size) (C := Cn) (n := na) ⟨callB_of na C.ts (c_in hcode) rfl rfl rfl (C.ts _ hini) (C.ts _ hl) hd (by rw [C.ro]; exact ⟨g1, g2⟩), C.ts _ hinst, hsel⟩ ⟨c_blind, hrc H locs hS hM, fun U hU hW => c_pre C hS hM hA U hU hW⟩ rfl hlen (hL.1.trans C.ml) hst0 (lv_room hw) hdg (by rw [C.ro]; exact ⟨g3, g4⟩)) kk
/-- the receiver is one of the Strings that stand in the code -/
theorem CX.str (C : CX X G A own cc nL ret rm) {k : Nat} (hk : 10 ≤ k ∧ k < 25) : va_O "java/lang/String" (gK G k) A (xS X) (xS X).heap ∧ va_OF "java/lang/String" "coder" "B" (.int 0) (gK G k) A (xS X) (xS X).heap ∧ va_OF "java/lang/String" "value" "[B" (.ref (gV G k)) (gK G k) A (xS X) (xS X).heap ∧ va_T .byte (gV G k) (slen.getD k 0) (fun j => .int ((sbyt.getD k []).getD j 0)) A (xS X) (xS X).heap := by
  obtain ⟨j, rfl⟩ : ∃ j, k = j + 10 := ⟨k - 10, by omega⟩
  exact C.ev.2.2.2.2.2.2.2.1.1 j (by omega)
theorem rc_str (C : CX X G A own cc nL ret rm) {i : Nat} (hi : 10 ≤ i ∧ i < 25) : ∀ (H : Heap) (locs : List Loc), va_S A (xS X).heap H locs → HM G M H → ∃ cell : Cell, H[gK G i]? = some cell ∧ cell.vm.isStatics = false ∧ (xS X).vm.findClass "java/lang/String" = some cell.cls := fun H locs hS _ => by
  obtain ⟨j, rfl⟩ : ∃ j, i = j + 10 := ⟨i - 10, by omega⟩
  exact vk_recv (adK := fun i => gK G (i + 10)) (i := j) C.ev.2.2.2.2.2.2.2.1 (show j < 15 by omega) hS
theorem rc_mem (C : CX X G A own cc nL ret rm) {b ci : Nat} {fs : List Value} {Cn : String} (hb : M b = some (.inr (ci, fs))) (hc : (vwCl[ci]?).map (fun q => q.1) = some Cn) : ∀ (H : Heap) (locs : List Loc), va_S A (xS X).heap H locs → HM G M H → ∃ cell : Cell, H[b]? = some cell ∧ cell.vm.isStatics = false ∧ (xS X).vm.findClass Cn = some cell.cls := by
  intro H locs hS hM
  obtain ⟨q, hq1, hq2⟩ := Option.map_eq_some_iff.mp hc
  have hrc := va_recv C.K (hP1 (hM _ _ hb)) hq1 (q0 := 0) rfl
  rw [hq2] at hrc
  exact hrc
theorem rc_enum (C : CX X G A own cc nL ret rm) {i : Nat} (hi : i < 9) : ∀ (H : Heap) (locs : List Loc), va_S A (xS X).heap H locs → HM G M H → ∃ cell : Cell, H[gad G i]? = some cell ∧ cell.vm.isStatics = false ∧ (xS X).vm.findClass "KilnKeeper$Word" = some cell.cls := fun H locs hS _ => va_recvE C.ev.2.2.2.2.2.1 hi hS
/-- an inherited method -/
theorem r_cU (C : CX X G A own cc nL ret rm) {idx b na : Nat} {Cn owner : String} {As st0 : List Value} {x y : MethodName} {cc' : ByteArray} {nL' : Nat} {ret' : Option FieldType} {rm' : Room} {Post : Option Value → Mem → Prop} (hct : Ct (xL X) G y cc' nL' ret' rm' (.ref b :: As) M Post) (hyx : y = ⟨owner, x.name, x.desc⟩) (hcode : Cond.code y cc' nL' ret' ∈ AW) (hini : Cond.initialized y.cls ∈ AW) (hinst : Cond.instanceMethod y ∈ AW) (hsel : Cond.selects Cn x y ∈ AW) (hsame : Cond.sameMethod x.cls owner x.name x.desc ∈ AW) (hl : Cond.methodLink own idx x ∈ AW)
    (hd : owner ≠ "java/lang/invoke/MethodHandle" ∧ owner ≠ "java/lang/invoke/VarHandle" ∧ (parseMethodDescriptor x.desc).map (fun d => d.parameters.length) = some na)
    (hrc : ∀ (H : Heap) (locs : List Loc), va_S A (xS X).heap H locs → HM G M H → ∃ cell : Cell, H[b]? = some cell ∧ cell.vm.isStatics = false ∧ (xS X).vm.findClass Cn = some cell.cls) (hst0 : st0 = As.reverse ++ .ref b :: st) (hlen : As.length = na) (hw : (st.map fun v => v.category).sum ≤ 8) (hrm : roomOk rm rm' nL' k n = true) (hdg : decode cc pc = .ok (.invokevirtual idx, 3)) (kk : ∀ (v : Option Value) (M' : Mem), Post v M' → WM X G A M' (k + rm'.cells) (n + rm'.slots) Q (pc + 3) L (v.toList ++ st)) : WM X G A M k n Q pc L st0 := by
  intro H locs ls hS hM hA hL
  obtain ⟨g1, g2, g3, g4⟩ := roomOk_at hrm
  have hG : GoodIn AW (va_wsU own idx Cn owner x y (Cond.code y cc' nL' ret' :: AW)) := by
    intro w hw'
    have hin : w ∈ AW := by
      unfold va_wsU at hw'
      simp only [List.cons_append, List.nil_append, List.mem_cons] at hw'
      rcases hw' with rfl | rfl | rfl | rfl | rfl | rfl | h
      · exact hl
      · exact hsame
      · exact hsel
      · exact hinst
      · exact hini
      · exact hcode
      · exact h
    exact ⟨hin, good_of_word (AW_good w hin)⟩
  refine c_go C hS hA hL (va_runU (As := As) (rest := st) ⟨C.ex, C.cd, C.ml, C.ow, C.ts⟩ (hct H.size) (C := Cn) (owner := owner) (n := na) (va_cwU na C.ts hG rfl rfl rfl hyx hd (by rw [C.ro]; exact ⟨g1, g2⟩)) ⟨c_blind, hrc H locs hS hM, fun U hU hW => c_pre C hS hM hA U hU hW⟩ rfl hlen (hL.1.trans C.ml) hst0 (lv_room hw) hdg (by rw [C.ro]; exact ⟨g3, g4⟩)) kk
/-- super.y(..) -/
theorem r_cSU (C : CX X G A own cc nL ret rm) {idx b ci na : Nat} {fs As st0 : List Value} {y : MethodName} {cc' : ByteArray} {nL' : Nat} {ret' : Option FieldType} {rm' : Room} {Post : Option Value → Mem → Prop} (hct : Ct (xL X) G y cc' nL' ret' rm' (.ref b :: As) M Post) (hcode : Cond.code y cc' nL' ret' ∈ AW) (hini : Cond.initialized y.cls ∈ AW) (hinst : Cond.instanceMethod y ∈ AW) (hsame : Cond.sameMethod y.cls y.cls y.name y.desc ∈ AW) (hsup : Cond.superclass own y.cls ∈ AW) (hl : Cond.methodLink own idx y ∈ AW)
    (hd : y.name ≠ "<init>" ∧ (parseMethodDescriptor y.desc).map (fun d => d.parameters.length) = some na) (hb : M b = some (.inr (ci, fs))) {q : vw_C} (hc : vwCl[ci]? = some q) (hst0 : st0 = As.reverse ++ .ref b :: st) (hlen : As.length = na) (hw : (st.map fun v => v.category).sum ≤ 8) (hrm : roomOk rm rm' nL' k n = true) (hdg : decode cc pc = .ok (.invokespecial idx, 3)) (kk : ∀ (v : Option Value) (M' : Mem), Post v M' → WM X G A M' (k + rm'.cells) (n + rm'.slots) Q (pc + 3) L (v.toList ++ st)) : WM X G A M k n Q pc L st0 := by
  intro H locs ls hS hM hA hL
  obtain ⟨g1, g2, g3, g4⟩ := roomOk_at hrm
  have hG : GoodIn AW (va_wsSU own idx y (Cond.code y cc' nL' ret' :: AW)) := by
    intro w hw'
    have hin : w ∈ AW := by
      unfold va_wsSU at hw'
      simp only [List.cons_append, List.nil_append, List.mem_cons] at hw'
      rcases hw' with rfl | rfl | rfl | rfl | rfl | rfl | h
      · exact hl
      · exact hsame
      · exact hsup
      · exact hinst
      · exact hini
      · exact hcode
      · exact h
    exact ⟨hin, good_of_word (AW_good w hin)⟩
  have hrc := va_recv C.K (hP1 (hM _ _ hb)) hc (q0 := 0) rfl
  refine c_go C hS hA hL (va_runSU (As := As) (rest := st) (C.K.1 ci q hc).2 ⟨C.ex, C.cd, C.ml, C.ow, C.ts⟩ (hct H.size) (n := na) (va_cwSU na C.ts hG rfl rfl rfl hd (by rw [C.ro]; exact ⟨g1, g2⟩)) ⟨c_blind, hrc, fun U hU hW => c_pre C hS hM hA U hU hW⟩ rfl hlen (hL.1.trans C.ml) hst0 (lv_room hw) hdg (by rw [C.ro]; exact ⟨g3, g4⟩)) kk
/-- System.arraycopy of bytes -/
theorem r_acpyB (C : CX X G A own cc nL ret rm) {idx a0 a n0 n1 : Nat} {f g : Nat → Int32} {sp dp cn : Int32} (hl : Cond.methodLink own idx arraycopyName ∈ AW) (ha0 : M a0 = some (.inl (gc G 1, n0, .inl f))) (ha1 : M a = some (.inl (gc G 1, n1, .inl g)))
    (h1 : ¬ sp < 0) (h2 : ¬ dp < 0) (h3 : ¬ cn < 0) (h4 : sp.toNatClampNeg + cn.toNatClampNeg ≤ n0) (h5 : dp.toNatClampNeg + cn.toNatClampNeg ≤ n1) (hfit : ∀ i, i < cn.toNatClampNeg → fits .byte (.int (f (sp.toNatClampNeg + i))) = true)
    (hf1 : Nat.ble 1 rm.frames = true) (hf2 : (st.map fun v => v.category).sum + (nativeFrameWords "java/lang/System" "arraycopy" 5 + 11) ≤ rm.locals) (hdg : decode cc pc = .ok (.invokestatic idx, 3))
    (kk : WM X G A (mup M a (.inl (gc G 1, n1, .inl (va_cpy f g sp.toNatClampNeg dp.toNatClampNeg cn.toNatClampNeg)))) k n Q (pc + 3) L st) : WM X G A M k n Q pc L (.int cn :: .int dp :: .ref a :: .int sp :: .ref a0 :: st) := by
  intro H locs ls hS hM hA hL
  obtain ⟨ws, w1, w2, w3⟩ := allW M H.size
  obtain ⟨q0, hq0⟩ := w2 a0 _ (hM.lt (by rw [ha0]; simp)) ha0
  obtain ⟨q1, hq1⟩ := w2 a _ (hM.lt (by rw [ha1]; simp)) ha1
  have hP : va_P G.1 vwCl ws H := fun i q hq => hM _ _ (w1 i q hq)
  have hD : va_D A ws := ⟨w3, fun i q hq => hA _ (by rw [w1 i q hq]; simp)⟩
  refine va_copyi C.ex C.cd hL.1.symm C.ow (C.ts _ hl) (C.ts _ aw_571) (C.ts _ aw_570) (C.ts _ aw_35) C.K hP hD hS q0 q1 1 1 hq0 hq1 rfl rfl rfl h1 h2 h3 h4 h5 hfit (by rw [C.ro]; exact Nat.le_of_ble_eq_true hf1) (by rw [C.ro]; exact hf2) hdg (fun H1 locs1 e1 e2 e3 => ?_)
  refine kk H1 locs1 ls e3 (fun b e hb => ?_) (mup_A hA (hA a (by rw [ha1]; simp))) hL
  have hlt : q1 < ws.length := (List.getElem?_eq_some_iff.mp hq1).1
  by_cases hba : b = a
  · subst hba
    rw [mup_s] at hb
    cases hb
    exact e1 q1 _ (List.getElem?_set_self hlt)
  · rw [mup_n hba] at hb
    obtain ⟨i, hi⟩ := w2 b e (hM.lt (by rw [hb]; simp)) hb
    have hne : q1 ≠ i := fun h => by
      rw [h] at hq1
      cases hi.symm.trans hq1
      exact hba rfl
    exact e1 i _ (by rw [List.getElem?_set_ne hne]; exact hi)
end ROWS2
/-- a contract says less -/
theorem Ct.mono {l : Launch} {G : GT} {y : MethodName} {cc : ByteArray} {nL : Nat} {ret : Option FieldType} {rm : Room} {ag : List Value} {M : Mem} {Post Post' : Option Value → Mem → Prop} (h : Ct l G y cc nL ret rm ag M Post) (hp : ∀ v M', Post v M' → Post' v M') : Ct l G y cc nL ret rm ag M Post' := by
  intro sz
  refine Jvm.Free.MetFree.mono (h sz) (fun _ _ h => h) (fun _ _ _ _ _ h => h) ?_
  intro a s o s' _ hq
  obtain ⟨⟨⟨v, M', h1, h2, h3⟩, h4⟩, h5⟩ := hq
  exact ⟨⟨⟨v, M', h1, hp v M' h2, h3⟩, h4⟩, h5⟩
/-- a contract that changes nothing, over any world -/
theorem CtY.pure {l : Launch} {G : GT} {a : Id3 → Nat} {y : MethodName} {cc : ByteArray} {nL : Nat} {ret : Option FieldType} {rm : Room} {ag : List Value} {Y : YT} {r : Int32} (h : ∀ M, Ct l G y cc nL ret rm ag M (fun v M' => v = some (.int r) ∧ M' = M)) : CtY l G a y cc nL ret rm ag Y (PI (fun r' Y' => r' = r ∧ Y' = Y)) :=
  fun M hM => (h M).mono (fun v M' hp => ⟨Y, by rw [hp.2]; exact hM, r, hp.1, rfl, rfl⟩)
section MROWS
variable {X : XT} {G : GT} {A : Nat → Prop} {M : Mem} {k n : Nat} {Q : State → Prop} {pc : Nat} {L : List (Option Value)} {st : List Value}
theorem r_named {a : Nat} {e e' : va_E} (he : e = e') (kk : ∀ M' : Mem, M' = mup M a e' → WM X G A M' k n Q pc L st) : WM X G A (mup M a e) k n Q pc L st := by subst he; exact kk _ rfl
theorem r_pureI {r : Int32} (kk : WM X G A M k n Q pc L (.int r :: st)) : ∀ (v : Option Value) (M' : Mem), (v = some (.int r) ∧ M' = M) → WM X G A M' k n Q pc L (v.toList ++ st) := by
  rintro v M' ⟨rfl, rfl⟩
  exact kk
theorem r_pureV (kk : WM X G A M k n Q pc L st) : ∀ (v : Option Value) (M' : Mem), (v = none ∧ M' = M) → WM X G A M' k n Q pc L (v.toList ++ st) := by
  rintro v M' ⟨rfl, rfl⟩
  exact kk
theorem r_void {P : Mem → Prop} (kk : ∀ M', P M' → WM X G A M' k n Q pc L st) : ∀ (v : Option Value) (M' : Mem), (v = none ∧ P M') → WM X G A M' k n Q pc L (v.toList ++ st) := by
  rintro v M' ⟨rfl, hp⟩
  exact kk M' hp
theorem r_refM {P : Nat → Mem → Prop} (kk : ∀ a M', P a M' → WM X G A M' k n Q pc L (.ref a :: st)) : ∀ (v : Option Value) (M' : Mem), (∃ r, v = some (.ref r) ∧ P r M') → WM X G A M' k n Q pc L (v.toList ++ st) := by
  rintro v M' ⟨r, rfl, hp⟩
  exact kk r M' hp
end MROWS
def sch (k i : Nat) : Int32 := (sbyt.getD k []).getD i 0 &&& 255
theorem slen_lt : ∀ k, slen.getD k 0 ≤ 10 := by
  intro k
  rcases Nat.lt_or_ge k 25 with h | h
  · have : ∀ k, k < 25 → slen.getD k 0 ≤ 10 := by decide
    exact this k h
  · rw [List.getD_eq_getElem?_getD, List.getElem?_eq_none (by simpa [slen] using h)]
    exact Nat.zero_le _
theorem nI_maxN {m p : Nat} (hm : m < 2 ^ 31) (hp : p < 2 ^ 31) : (if nI m < nI p then nI p else nI m) = nI (if m < p then p else m) := by
  by_cases h : m < p
  · rw [if_pos h, if_pos (nI_lt h hp)]
  · rw [if_neg h, if_neg (nI_nlt (by omega) hm)]
theorem nI_minN {m p : Nat} (hm : m < 2 ^ 31) (hp : p < 2 ^ 31) : (if nI p < nI m then nI p else nI m) = nI (if p < m then p else m) := by
  by_cases h : p < m
  · rw [if_pos h, if_pos (nI_lt h hm)]
  · rw [if_neg h, if_neg (nI_nlt (by omega) hp)]
theorem mup_mup (M : Mem) (a : Nat) (e e' : va_E) : mup (mup M a e) a e' = mup M a e' := by
  funext b
  by_cases h : b = a <;> simp [mup, h]
/-- a builder's cells behind a call: b is the object, w its bytes now (v before), nothing else has changed -/
def SBx (G : GT) (M M' : Mem) (b v n : Nat) (ml : Int32) (w cap' : Nat) (z' : Nat → Int32) : Prop :=
  M' b = some (.inr (0, [.ref w, .int 0, .int ml, .int (nI n)])) ∧ M' w = some (.inl (gc G 1, cap', .inl z')) ∧ cap' ≤ 200 ∧ sb_Fit z' ∧ (w = v ∨ M w = none) ∧ ∀ x, x ≠ b → x ≠ w → M' x = M x
theorem sb_lo : ∀ c, c < 128 → sb_b c = nI c := by decide +kernel
theorem r_intM {X : XT} {G : GT} {A : Nat → Prop} {k n : Nat} {Q : State → Prop} {pc : Nat} {L : List (Option Value)} {st : List Value} {r : Int32} {P : Mem → Prop} (kk : ∀ M', P M' → WM X G A M' k n Q pc L (.int r :: st)) : ∀ (v : Option Value) (M' : Mem), (v = some (.int r) ∧ P M') → WM X G A M' k n Q pc L (v.toList ++ st) := by
  rintro v M' ⟨rfl, hp⟩
  exact kk M' hp
theorem mup_id {M : Mem} {a : Nat} {e : va_E} (h : M a = some e) : M = mup M a e := by
  funext b
  by_cases hb : b = a
  · rw [hb, mup_s, h]
  · rw [mup_n hb]
theorem nar_dg : ∀ k, k < 128 → vp_nar .byte (nI k) = sb_b k := by decide +kernel
theorem ones_dg (u : Nat) : vp_nar .byte (nI (48 + u % 100 % 10)) = sb_b (48 + u % 10) := by rw [nar_dg _ (by omega), show u % 100 % 10 = u % 10 by omega]
theorem tens_dg (u : Nat) : vp_nar .byte (nI (48 + u % 100 / 10)) = sb_b (48 + u / 10 % 10) := by rw [nar_dg _ (by omega), show u % 100 / 10 = u / 10 % 10 by omega]
def gcFin (z z' : Nat → Int32) (n w : Nat) : Prop := (∀ j, j < n ∨ n + sb_dg w ≤ j → z' j = z j) ∧ (∀ i, i < sb_dg w → z' (n + sb_dg w - 1 - i) = sb_b (48 + w / 10 ^ i % 10)) ∧ sb_Fit z'
theorem gc_step {z zl z' : Nat → Int32} {n u p : Nat} (h100 : 100 ≤ u) (hu : u < 2 ^ 31) (hp : p = n + sb_dg u)
    (h1 : ∀ j, j < n ∨ p - 1 - 1 ≤ j → z' j = upd (upd zl (p - 1) (sb_b (48 + u % 10))) (p - 1 - 1) (sb_b (48 + u / 10 % 10)) j) (h2 : ∀ i, i < sb_dg (u / 100) → z' (p - 1 - 1 - 1 - i) = sb_b (48 + u / 100 / 10 ^ i % 10)) :
    (∀ j, j < n ∨ p ≤ j → z' j = zl j) ∧ ∀ i, i < sb_dg u → z' (p - 1 - i) = sb_b (48 + u / 10 ^ i % 10) := by
  have hd := sb_dg100 h100 hu
  have hd2 := (sb_dg_in (u / 100)).1
  refine ⟨fun j hj => by rw [h1 j (by omega), pk_un (by omega), pk_un (by omega)], fun i hi => ?_⟩
  match i, hi with
  | 0, _ => rw [Nat.sub_zero, h1 _ (by omega), pk_un (by omega), pk_us, Nat.pow_zero, Nat.div_one]
  | 1, _ => rw [h1 _ (by omega), pk_us, Nat.pow_one]
  | k + 2, hi =>
    rw [show p - 1 - (k + 2) = p - 1 - 1 - 1 - k by omega, h2 k (by omega), Nat.div_div_eq_div_mul, show 100 * 10 ^ k = 10 ^ (k + 2) by rw [show k + 2 = k + 1 + 1 from rfl, Nat.pow_succ, Nat.pow_succ]; omega]
theorem gc_one {zl : Nat → Int32} {n u p : Nat} (h9 : u < 10) (hp : p = n + sb_dg u) :
    (∀ j, j < n ∨ p ≤ j → upd zl (p - 1) (sb_b (48 + u % 10)) j = zl j) ∧ ∀ i, i < sb_dg u → upd zl (p - 1) (sb_b (48 + u % 10)) (p - 1 - i) = sb_b (48 + u / 10 ^ i % 10) := by
  have hd : sb_dg u = 1 := if_pos h9
  refine ⟨fun j hj => pk_un (by omega), fun i hi => ?_⟩
  obtain rfl : i = 0 := by omega
  rw [Nat.sub_zero, pk_us, Nat.pow_zero, Nat.div_one]
theorem gc_two {zl : Nat → Int32} {n u p : Nat} (h9 : ¬ u < 10) (h100 : u < 100) (hp : p = n + sb_dg u) :
    (∀ j, j < n ∨ p ≤ j → upd (upd zl (p - 1) (sb_b (48 + u % 10))) (p - 1 - 1) (sb_b (48 + u / 10 % 10)) j = zl j) ∧ ∀ i, i < sb_dg u → upd (upd zl (p - 1) (sb_b (48 + u % 10))) (p - 1 - 1) (sb_b (48 + u / 10 % 10)) (p - 1 - i) = sb_b (48 + u / 10 ^ i % 10) := by
  have hd : sb_dg u = 2 := by rw [sb_dg, if_neg h9, if_pos h100]
  refine ⟨fun j hj => by rw [pk_un (by omega), pk_un (by omega)], fun i hi => ?_⟩
  obtain rfl | rfl : i = 0 ∨ i = 1 := by omega
  · rw [Nat.sub_zero, pk_un (by omega), pk_us, Nat.pow_zero, Nat.div_one]
  · rw [pk_us, Nat.pow_one]
/-- a method of a class some of whose methods the machine runs itself, not this one -/
theorem Ct.ofF {l : Launch} {G : GT} {y : MethodName} {cc : ByteArray} {nL : Nat} {ret : Option FieldType} {rm : Room} {ag : List Value} {M : Mem} {Post : Option Value → Mem → Prop}
    (hy : plainFor y = true) (ho : ones ag = true) (hn : (lg_sl ag).length ≤ nL)
    (body : ∀ (X : XT) (A : Nat → Prop), CX X G A y.cls cc nL ret rm → xL X = l → (xT X).name = y.name → WM X G A M 0 0 (MEnd X G A rm Post) 0 (argL ag nL) []) : Ct l G y cc nL ret rm ag M Post := by
  intro sz
  refine Jvm.Free.MetFree.of_bodySF (code := cc) (maxLocals := nL) (ret := ret) hy ?_ ?_
  · intro args s m h hn
    obtain ⟨meth, c, h1, h2, h3, h4, h5, h6, -, -⟩ := Cond.code_spec hn (atoms_spec (ws := Cond.code y cc nL ret :: AW) h _ List.mem_cons_self)
    exact ⟨meth, c, h1, h2, h3, h4, h5, h6⟩
  · intro p e s m args below meth c s₁ B hml hv _
    obtain ⟨rfl, hsz, hM, hK, hE⟩ := hv
    have hh0 : s₁.heap = s.heap := by rw [B.state]; rfl
    have hts := atoms_spec (ws := Cond.code y cc nL ret :: AW) B.pre
    have hown : s.vm.findClass y.cls = some m.cls := findClass_of_methodNamed B.named
    have hnm : meth.name = y.name := (name_of_methodNamed B.named B.method).1
    have hl := lv_entry ag (n := nL) hn
    have hb := body (p, l, e, rm, s, m, ag.toArray, below, meth, c) (fr M sz) ⟨B.exec, B.bytes, hml, hown, fun w h => hts w (List.mem_cons_of_mem _ h), hK, hE, fun q h => Or.inr (by rw [← hsz]; exact h), B.returns, B.notSynchronized, rfl⟩ rfl hnm
    have hW := hb s.heap [] _ va_S.rf hM (fun q h => Or.inl h) (by rw [show xC (p, l, e, rm, s, m, ag.toArray, below, meth, c) = c from rfl, hml]; exact hasL_entry hl ho)
    have he := Stand.of_body B
    obtain ⟨t, a1, o, b1, b2, b3⟩ := hW s₁ hh0 he
    rw [lg_entry_eq]
    exact ⟨t, o, a1, b1, b2, ⟨b3.1, b3.2⟩⟩
