/-! THE SURROUNDINGS, made. -/
section WOF
variable {b : Nat} {s : State} {A : Nat → Prop}
theorem w_str (hg : ∀ c ∈ GVL, c.before #[Value.ref b] s = true) (hA : ∀ a : Nat, a < s.heap.size → ¬ A a) : ∃ adK adV : Nat → Nat, vk_S 15 (slen.drop 10) (sbyt.drop 10) adK adV A s s.heap ∧ ∀ i : Nat, i < 15 → (tmS i).eval #[Value.ref b] s none [] s = some (.ref (adK i)) := by
  refine vk_Sof (tm := tmS) (fun i hi => ?_) (fun i hi => hg _ (g_blk hi ?_)) (fun i hi => hg _ (g_blk hi ?_)) (fun i hi => hg _ (g_blk hi ?_)) (fun i hi => hg _ (g_blk hi ?_)) (fun i hi j hj => hg _ (g_blk hi ?_)) (fun i j hi hj hij => ?_) hA
  · exact (by decide : ∀ i, i < 15 → (slen.drop 10).getD i 0 < 2 ^ 31) i hi
  · have e := (sInv_ok i hi).1
    unfold sBlk
    rw [e]
    exact List.mem_append_left _ (List.mem_cons_self ..)
  · have e := (sInv_ok i hi).1
    unfold sBlk
    rw [e]
    exact List.mem_append_left _ (List.mem_cons_of_mem _ (List.mem_cons_self ..))
  · have e := (sInv_ok i hi).1
    unfold sBlk
    rw [e]
    exact List.mem_append_left _ (List.mem_cons_of_mem _ (List.mem_cons_of_mem _ (List.mem_cons_self ..)))
  · have e := (sInv_ok i hi).1
    unfold sBlk
    rw [e]
    exact List.mem_append_left _ (List.mem_cons_of_mem _ (List.mem_cons_of_mem _ (List.mem_cons_of_mem _ (List.mem_cons_self ..))))
  · have e := (sInv_ok i hi).1
    unfold sBlk
    rw [e]
    exact List.mem_append_right _ (List.mem_append_left _ (List.mem_map.mpr ⟨j, List.mem_range.mpr hj, rfl⟩))
  · obtain ⟨e1, e2⟩ := sInv_ok i hi
    obtain ⟨e3, e4⟩ := sInv_ok j hj
    have hne : sInv i ≠ sInv j := fun e => hij (by rw [← e1, ← e3, e])
    by_cases hl : sInv j < sInv i
    · refine Or.inr (hg _ (g_blk hi ?_))
      have hm : Cond.not (Cond.eq (tmS (sOrd.getD (sInv j) 0)) (tmS (sOrd.getD (sInv i) 0))) ∈ sBlk (sInv i) := List.mem_append_right _ (List.mem_append_right _ (List.mem_map.mpr ⟨sInv j, List.mem_range.mpr hl, rfl⟩))
      rw [e1, e3] at hm
      exact hm
    · refine Or.inl (hg _ (g_blk hj ?_))
      have hm : Cond.not (Cond.eq (tmS (sOrd.getD (sInv i) 0)) (tmS (sOrd.getD (sInv j) 0))) ∈ sBlk (sInv j) := List.mem_append_right _ (List.mem_append_right _ (List.mem_map.mpr ⟨sInv i, List.mem_range.mpr (by omega), rfl⟩))
      rw [e1, e3] at hm
      exact hm
theorem w_wrd (ht : ∀ w ∈ lw_tbl, w.before #[Value.ref b] s = true) (hg : ∀ c ∈ GVL, c.before #[Value.ref b] s = true) (hA : ∀ a : Nat, a < s.heap.size → ¬ A a) : ∃ ad : Nat → Nat, va_En "KilnKeeper$Word" "LKilnKeeper$Word;" wnames wflds ad A s s.heap := by
  refine va_Enof (fun i hi => ht _ (g_ls i hi)) (ht _ (AW_tbl _ aw_31)) (fun i hi => hg _ (g_wbl hi ?_)) (fun q hq i hi => ?_) (fun i j hi hj hij => ?_) hA
  · have e := (wInv_ok i hi).1
    unfold wBlk
    rw [e]
    exact List.mem_append_left _ (List.mem_cons_self ..)
  · rw [List.mem_singleton.mp hq]
    refine hg _ (g_wbl hi ?_)
    have e := (wInv_ok i hi).1
    unfold wBlk
    rw [e]
    exact List.mem_append_left _ (List.mem_cons_of_mem _ (List.mem_cons_self ..))
  · obtain ⟨e1, e2⟩ := wInv_ok i hi
    obtain ⟨e3, e4⟩ := wInv_ok j hj
    have hne : wInv i ≠ wInv j := fun e => hij (by rw [← e1, ← e3, e])
    by_cases hl : wInv j < wInv i
    · refine Or.inr (hg _ (g_wbl hi ?_))
      have hm : Cond.not (Cond.eq (tmW (wOrd.getD (wInv j) 0)) (tmW (wOrd.getD (wInv i) 0))) ∈ wBlk (wInv i) := List.mem_append_right _ (List.mem_map.mpr ⟨wInv j, List.mem_range.mpr hl, rfl⟩)
      rw [e1, e3] at hm
      exact hm
    · refine Or.inl (hg _ (g_wbl hj ?_))
      have hm : Cond.not (Cond.eq (tmW (wOrd.getD (wInv i) 0)) (tmW (wOrd.getD (wInv j) 0))) ∈ wBlk (wInv j) := List.mem_append_right _ (List.mem_map.mpr ⟨wInv i, List.mem_range.mpr (by omega), rfl⟩)
      rw [e1, e3] at hm
      exact hm
theorem w_frm (hg : ∀ c ∈ GVL, c.before #[Value.ref b] s = true) (hA : ∀ a : Nat, a < s.heap.size → ¬ A a) {ad adK : Nat → Nat} (hev : ∀ i, i < 9 → (Term.static "KilnKeeper$Word" (wnames.getD i "") "LKilnKeeper$Word;").eval #[Value.ref b] s none [] s = some (.ref (ad i))) (hK : ∀ i : Nat, i < 15 → (tmS i).eval #[Value.ref b] s none [] s = some (.ref (adK i))) : va_Ef 9 "KilnKeeper$Word" "form" "Ljava/lang/String;" (fun i => .ref (adK i)) ad A s s.heap := by
  refine va_Efof (tm := tmS) hev (fun i hi => hg _ (g_wbl hi ?_)) (fun i hi => hK i (by omega)) hA
  have e := (wInv_ok i hi).1
  unfold wBlk
  rw [e]
  exact List.mem_append_left _ (List.mem_cons_of_mem _ (List.mem_cons_of_mem _ (List.mem_cons_self ..)))
theorem w_arr (hg : ∀ c ∈ GVL, c.before #[Value.ref b] s = true) (hA : ∀ a : Nat, a < s.heap.size → ¬ A a) {tm : Term} {ty : FieldType} {N p q : Nat} {f : Nat → Value} {g : Nat → Cond} (hN : N < 2 ^ 31) (h2 : (GVL.drop p).take 2 = [Cond.arrayOf tm ty, Cond.eq (.length tm) (.int (Int32.ofNat N))]) (he : (GVL.drop q).take N = (List.range N).map g) (hgf : ∀ j, j < N → (g j).before #[Value.ref b] s = true → (Term.elem tm (.int (Int32.ofNat j))).eval #[Value.ref b] s none [] s = some (f j)) : ∃ t : Nat, tm.eval #[Value.ref b] s none [] s = some (.ref t) ∧ va_T ty t N f A s s.heap :=
  va_Tof hN (hg _ (run_in h2 (List.mem_cons_self ..))) (va_eqt (hg _ (run_in h2 (List.mem_cons_of_mem _ (List.mem_cons_self ..))))) (fun j hj => hgf j hj (hg _ (run_at he hj))) hA
end WOF
theorem w_cls {s : State} {args : Array Value} (ht : ∀ w ∈ AW, w.before args s = true) : ∃ (dC : Nat → ClassId) (dI : Nat → Nat → Nat), ∀ (k : Nat) (q : vw_C), vwCl[k]? = some q → u_Kn s q.1 q.2.1 q.2.2 (dC k) (dI k) := by
  obtain ⟨c0, i0, k0⟩ := u_known ht in_TJ4 (ht _ aw_246)
  obtain ⟨c1, i1, k1⟩ := u_known ht in_TX1 (ht _ aw_97)
  obtain ⟨c2, i2, k2⟩ := u_known ht in_TX2 (ht _ aw_207)
  obtain ⟨c3, i3, k3⟩ := u_known ht in_TX3 (ht _ aw_49)
  obtain ⟨c4, i4, k4⟩ := u_known ht in_TX4 (ht _ aw_82)
  obtain ⟨c5, i5, k5⟩ := u_known ht in_TX5 (ht _ aw_280)
  obtain ⟨c6, i6, k6⟩ := u_known ht in_TX6 (ht _ aw_135)
  obtain ⟨c7, i7, k7⟩ := u_known ht in_TX7 (ht _ aw_128)
  obtain ⟨c8, i8, k8⟩ := u_known ht in_TX8 (ht _ aw_240)
  obtain ⟨c9, i9, k9⟩ := u_known ht in_TX9 (ht _ aw_227)
  obtain ⟨c10, i10, k10⟩ := u_known ht in_TX10 (ht _ aw_55)
  obtain ⟨c11, i11, k11⟩ := u_known ht in_TX12 (ht _ aw_41)
  obtain ⟨c12, i12, k12⟩ := u_known ht in_TJ0 (ht _ aw_679)
  refine ⟨fun k => [c0, c1, c2, c3, c4, c5, c6, c7, c8, c9, c10, c11, c12].getD k c0, fun k => [i0, i1, i2, i3, i4, i5, i6, i7, i8, i9, i10, i11, i12].getD k i0, fun k q hq => ?_⟩
  match k, hq with
  | 0, hq => cases hq; exact k0
  | 1, hq => cases hq; exact k1
  | 2, hq => cases hq; exact k2
  | 3, hq => cases hq; exact k3
  | 4, hq => cases hq; exact k4
  | 5, hq => cases hq; exact k5
  | 6, hq => cases hq; exact k6
  | 7, hq => cases hq; exact k7
  | 8, hq => cases hq; exact k8
  | 9, hq => cases hq; exact k9
  | 10, hq => cases hq; exact k10
  | 11, hq => cases hq; exact k11
  | 12, hq => cases hq; exact k12
  | m + 13, hq => cases hq
theorem w_tyP {s : State} {args : Array Value} {ty : FieldType} (hp : ty = .int ∨ ty = .byte ∨ ty = .long) (h : (Cond.arrayClass ty).before args s = true) : ∃ c : ClassId, ArrOfT s c ty ∧ va_RA s c ty := by
  obtain ⟨c, k, comp, h1, h2, h3⟩ := Cond.arrayClass_spec h
  refine ⟨c, fun N z => ⟨(fun k h => by cases h), k, h2, comp, h3⟩, ?_⟩
  rcases hp with rfl | rfl | rfl
  · exact h1
  · exact h1
  · exact h1
theorem w_tyO {s : State} {args : Array Value} {C : String} (h : (Cond.arrayOver (.object C)).before args s = true) : ∃ c : ClassId, ArrOfT s c (.object C) ∧ va_RA s c (.object C) := by
  obtain ⟨comp, c, k, h1, h2, h3, h4, h5⟩ := Cond.arrayOver_spec h
  exact ⟨c, fun N z => ⟨(fun k h => by cases h), k, h3, comp, h4⟩, k, comp, h3, h4, h1, h5⟩
theorem sel_sb {y z : MethodName} {s : State} {args : Array Value} (hy : y.cls ≠ "java/lang/invoke/MethodHandle" ∧ y.cls ≠ "java/lang/invoke/VarHandle") (hz : y.cls = z.cls) (hsb : (Cond.selects "java/lang/StringBuilder" z z).before args s = true) (hpriv : (Cond.privateMethod y).before args s = true) (hinst : (Cond.instanceMethod y).before args s = true) : (Cond.selects "java/lang/StringBuilder" y y).before args s = true := by
  obtain ⟨c, r, m, hc, -, hm, -, k, hk, hni⟩ := Cond.selects_spec hsb
  obtain ⟨mk, methM, hnamed, hmethM, -, -⟩ := Cond.instanceMethod_spec hinst
  have hfound : s.methodFound? y.cls y.name y.desc = some mk := State.methodFound?_of_named hnamed hy
  have h2 := findClass_of_methodNamed hnamed
  rw [hz] at h2
  have hcl : mk.cls = m.cls := Option.some.inj (h2.symm.trans (findClass_of_methodNamed hm))
  have hsel : selectMethod {} s.vm c mk = .method mk := selectMethod_private hmethM (Cond.privateMethod_at hpriv mk methM hnamed hmethM)
  simp only [Cond.before, Cond.holds, Cond.value, hc, hfound, hnamed, hsel, hcl, hk]
  simp
  exact hni
theorem nI_all (x : Int32) : nI x.toUInt32.toNat = x := by
  apply Int32.toBitVec_inj.mp
  show BitVec.ofNat 32 x.toBitVec.toNat = x.toBitVec
  simp
theorem w_scr {b L : Nat} {xs : Nat → Int32} {s : State} {A : Nat → Prop} (hX : va_X b L xs s s.heap) (hb : ¬ A b) : va_T .int b L (fun j => .int (xs j)) A s s.heap := by
  obtain ⟨scr, h1, h2, h3, h4, h5⟩ := hX
  exact ⟨scr, h1, h2, h3, by omega, by rw [h4], h5, hb⟩
theorem world_of {b L : Nat} {xs : Nat → Int32} {s : State} {A : Nat → Prop} (ht : ∀ w ∈ lw_tbl, w.before #[Value.ref b] s = true) (hg : ∀ c ∈ GVL, c.before #[Value.ref b] s = true) (hA : ∀ a : Nat, a < s.heap.size → ¬ A a) (hX : va_X b L xs s s.heap) (hb : ¬ A b) : ∃ G : GT, va_K G.1 vwCl (tys G) s ∧ EV G A s s.heap ∧ gst G 4 = b ∧ gst G 5 = L := by
  have htA : ∀ w ∈ AW, w.before #[Value.ref b] s = true := fun w hw => ht w (AW_tbl w hw)
  obtain ⟨dC, dI, hC⟩ := w_cls htA
  obtain ⟨y0, a0, r0⟩ := w_tyP (Or.inl rfl) (htA _ aw_95)
  obtain ⟨y1, a1, r1⟩ := w_tyP (Or.inr (Or.inl rfl)) (htA _ aw_277)
  obtain ⟨y2, a2, r2⟩ := w_tyO (ht _ at_134)
  obtain ⟨y3, a3, r3⟩ := w_tyO (ht _ at_213)
  obtain ⟨y4, a4, r4⟩ := w_tyO (ht _ at_279)
  obtain ⟨y5, a5, r5⟩ := w_tyP (Or.inr (Or.inr rfl)) (htA _ aw_1104)
  obtain ⟨adK, adV, hS, hSe⟩ := w_str hg hA
  obtain ⟨ad, hE⟩ := w_wrd ht hg hA
  have hev : ∀ i, i < 9 → (Term.static "KilnKeeper$Word" (wnames.getD i "") "LKilnKeeper$Word;").eval #[Value.ref b] s none [] s = some (.ref (ad i)) := fun i hi => va_Z_ev (hE.1 i hi).1
  have hF := w_frm hg hA hev hSe
  obtain ⟨t0, e0, T0⟩ := w_arr (f := fun j => .int (nI (48 + j % 10))) hg hA (by decide) g_5 g_O (fun j _ h => va_eqt h)
  obtain ⟨t1, e1, T1⟩ := w_arr (f := fun j => .int (nI (48 + j / 10))) hg hA (by decide) g_6 g_T (fun j _ h => va_eqt h)
  obtain ⟨t2, e2, T2⟩ := w_arr (f := fun j => .int (swm.getD j 0)) hg hA (by decide) g_4 g_M (fun j _ h => va_eqt h)
  obtain ⟨t3, e3, T3⟩ := w_arr (f := fun j => .ref (ad j)) hg hA (by decide) g_3 g_L (fun j hj h => va_eqv h (hev j hj))
  refine ⟨((dC, dI), fun k => [y0, y1, y2, y3, y4, y5].getD k y0, ad, fun k => adK (k - 10), fun k => adV (k - 10), fun k => match k with | 0 => t0 | 1 => t1 | 2 => t2 | 3 => t3 | 4 => b | 5 => L | j + 6 => (xs j).toUInt32.toNat), ⟨hC, fun k q hq => ?_⟩, ⟨va_Zof (ht _ at_255) (ht _ (AW_tbl _ aw_27)) (va_eqt (hg _ (run_in g_1 (List.mem_cons_self ..)))) hA, ⟨va_Zof (ht _ at_660) (ht _ (AW_tbl _ aw_37)) e0 hA, T0⟩, ⟨va_Zof (ht _ at_662) (ht _ (AW_tbl _ aw_37)) e1 hA, T1⟩, ⟨va_Zof (ht _ at_868) (ht _ (AW_tbl _ aw_39)) e2 hA, T2⟩, ⟨va_Zof (ht _ at_796) (ht _ (AW_tbl _ aw_15)) e3 hA, T3⟩, hE, ?_, ?_, fun i hi => ?_, va_Zqof (ht _ at_590) (ht _ (AW_tbl _ aw_38)) (hg _ (run_in g_2 (List.mem_cons_self ..))) hA, fun w hw => ?_, fun w hw => ?_, ?_⟩, rfl, rfl⟩
  · match k, hq with
    | 0, hq => cases hq; exact ⟨a0, r0⟩
    | 1, hq => cases hq; exact ⟨a1, r1⟩
    | 2, hq => cases hq; exact ⟨a2, r2⟩
    | 3, hq => cases hq; exact ⟨a3, r3⟩
    | 4, hq => cases hq; exact ⟨a4, r4⟩
    | 5, hq => cases hq; exact ⟨a5, r5⟩
    | m + 6, hq => cases hq
  · show va_Ef 9 "KilnKeeper$Word" "form" "Ljava/lang/String;" (fun i => .ref (adK (10 + i - 10))) ad A s s.heap
    simp only [Nat.add_sub_cancel_left]
    exact hF
  · show vk_S 15 (slen.drop 10) (sbyt.drop 10) (fun i => adK (i + 10 - 10)) (fun i => adV (i + 10 - 10)) A s s.heap
    simp only [Nat.add_sub_cancel]
    exact hS
  · refine vk_R.of (ht _ (g_rf hi)) ?_
    have h9 := hSe (i - 10) (by omega)
    unfold tmS at h9
    rw [show i - 10 + 10 = i by omega] at h9
    exact h9
  · have h0 := ht w (List.mem_filter.mp hw).1
    have h1 := (List.mem_filter.mp hw).2
    cases w <;> first | exact h0 | cases h1
  · rcases List.mem_cons.mp hw with rfl | h2
    · exact (sel_sb (y := yEns) (z := ⟨"java/lang/AbstractStringBuilder", "isLatin1", "()Z"⟩) (args := #[Value.ref b]) ⟨by decide, by decide⟩ rfl (ht _ (AW_tbl _ aw_575)) (ht _ at_538) (ht _ (AW_tbl _ aw_539)))
    · rcases List.mem_cons.mp h2 with rfl | h3
      · exact (sel_sb (y := yNcp) (z := ⟨"java/lang/AbstractStringBuilder", "isLatin1", "()Z"⟩) (args := #[Value.ref b]) ⟨by decide, by decide⟩ rfl (ht _ (AW_tbl _ aw_575)) (ht _ at_542) (ht _ (AW_tbl _ aw_543)))
      · rcases List.mem_cons.mp h3 with rfl | h4
        · exact ht _ at_134
        · rcases List.mem_cons.mp h4 with rfl | h5
          · exact ht _ at_213
          · rcases List.mem_cons.mp h5 with rfl | h6
            · exact ht _ at_279
            · rcases List.mem_cons.mp h6 with rfl | h7
              · exact (sel_sb (y := yPsa) (z := ⟨"java/lang/AbstractStringBuilder", "isLatin1", "()Z"⟩) (args := #[Value.ref b]) ⟨by decide, by decide⟩ rfl (ht _ (AW_tbl _ aw_575)) (ht _ at_613) (ht _ (AW_tbl _ aw_614)))
              · rcases List.mem_cons.mp h7 with rfl | h8
                · exact (sel_sb (y := yIin) (z := ⟨"java/lang/AbstractStringBuilder", "isLatin1", "()Z"⟩) (args := #[Value.ref b]) ⟨by decide, by decide⟩ rfl (ht _ (AW_tbl _ aw_575)) (ht _ at_617) (ht _ (AW_tbl _ aw_618)))
                · rcases List.mem_cons.mp h8 with rfl | h9
                  · exact va_Nw.of rfl (ht _ at_564)
                  · cases h9
  · have e : (fun j => Value.int (nI (gst ((((dC, dI) : va_G), fun k => [y0, y1, y2, y3, y4, y5].getD k y0, ad, fun k => adK (k - 10), fun k => adV (k - 10), fun k => match k with | 0 => t0 | 1 => t1 | 2 => t2 | 3 => t3 | 4 => b | 5 => L | j + 6 => (xs j).toUInt32.toNat) : GT) (6 + j)))) = fun j => Value.int (xs j) := by
      funext j
      rw [Nat.add_comm 6 j]
      show Value.int (nI (xs j).toUInt32.toNat) = _
      rw [nI_all]
    exact e ▸ w_scr hX hb
