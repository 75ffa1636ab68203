/-! THE LAW: runs. -/
theorem e_oVi {X : XT} {G : GT} {A : Nat → Prop} {a : Id3 → Nat} {own : String} {cc : ByteArray} {nL : Nat} {ret : Option FieldType} {rm : Room} {Y : YT} {E : Mem} {k n : Nat} {Q : State → Prop} {pc pc' : Nat} {D : List (Nat × Value)} {st : List Value} {k' n' : Nat} (hpc : pc + 3 = pc') (C : CX X G A own cc nL ret rm) {idx b ci na : Nat} {fs As st0 : List Value} {y : MethodName} {cc' : ByteArray} {nL' : Nat} {ret' : Option FieldType} {rm' : Room} {r : Int32} (hct : Ct (xL X) G y cc' nL' ret' rm' (.ref b :: As) E (fun v M' => v = some (.int r) ∧ M' = E)) (hy : MV y cc' nL' ret' na) (hl : Cond.methodLink own idx y ∈ AW) (hb : E b = some (.inr (ci, fs))) (hc : (vwCl[ci]?).map (fun q => q.1) = some y.cls) (hst0 : st0 = As.reverse ++ .ref b :: st) (hlen : As.length = na) (hw : (st.map fun v => v.category).sum ≤ 8) (hrm : roomOk rm rm' nL' k n = true) (hdg : decode cc pc = .ok (.invokevirtual idx, 3)) (hk : k + rm'.cells = k') (hn : n + rm'.slots = n') (kk : WE X G A a Y E k' n' Q pc' D (.int r :: st)) : WE X G A a Y E k n Q pc D st0 :=
  e_oV hpc C hct hy hl hb hc hst0 hlen hw hrm hdg hk hn (fun v E' hp => by obtain ⟨h1, h2⟩ := hp; rw [h1, h2]; exact kk)
theorem e_oVr {X : XT} {G : GT} {A : Nat → Prop} {a : Id3 → Nat} {own : String} {cc : ByteArray} {nL : Nat} {ret : Option FieldType} {rm : Room} {Y : YT} {E : Mem} {k n : Nat} {Q : State → Prop} {pc pc' : Nat} {D : List (Nat × Value)} {st : List Value} {k' n' : Nat} (hpc : pc + 3 = pc') (C : CX X G A own cc nL ret rm) {idx b ci na : Nat} {fs As st0 : List Value} {y : MethodName} {cc' : ByteArray} {nL' : Nat} {ret' : Option FieldType} {rm' : Room} {P : Nat → Mem → Prop} (hct : Ct (xL X) G y cc' nL' ret' rm' (.ref b :: As) E (fun v M' => ∃ r, v = some (.ref r) ∧ P r M')) (hy : MV y cc' nL' ret' na) (hl : Cond.methodLink own idx y ∈ AW) (hb : E b = some (.inr (ci, fs))) (hc : (vwCl[ci]?).map (fun q => q.1) = some y.cls) (hst0 : st0 = As.reverse ++ .ref b :: st) (hlen : As.length = na) (hw : (st.map fun v => v.category).sum ≤ 8) (hrm : roomOk rm rm' nL' k n = true) (hdg : decode cc pc = .ok (.invokevirtual idx, 3)) (hk : k + rm'.cells = k') (hn : n + rm'.slots = n') (kk : ∀ r E', P r E' → WE X G A a Y E' k' n' Q pc' D (.ref r :: st)) : WE X G A a Y E k n Q pc D st0 :=
  e_oV hpc C hct hy hl hb hc hst0 hlen hw hrm hdg hk hn (fun v E' hp => by obtain ⟨r, h1, h2⟩ := hp; rw [h1]; exact kk r E' h2)
theorem e_oIv {X : XT} {G : GT} {A : Nat → Prop} {a : Id3 → Nat} {own : String} {cc : ByteArray} {nL : Nat} {ret : Option FieldType} {rm : Room} {Y : YT} {E : Mem} {k n : Nat} {Q : State → Prop} {pc pc' : Nat} {D : List (Nat × Value)} {st : List Value} {k' n' : Nat} (hpc : pc + 3 = pc') (C : CX X G A own cc nL ret rm) {idx b na : Nat} {As st0 : List Value} {y : MethodName} {cc' : ByteArray} {nL' : Nat} {rm' : Room} {P : Mem → Prop} (hct : Ct (xL X) G y cc' nL' none rm' (.ref b :: As) E (fun v M' => v = none ∧ P M')) (hy : MI y cc' nL' na) (hl : Cond.methodLink own idx y ∈ AW) (hst0 : st0 = As.reverse ++ .ref b :: st) (hlen : As.length = na) (hw : (st.map fun v => v.category).sum ≤ 8) (hrm : roomOk rm rm' nL' k n = true) (hdg : decode cc pc = .ok (.invokespecial idx, 3)) (hk : k + rm'.cells = k') (hn : n + rm'.slots = n') (kk : ∀ E', P E' → WE X G A a Y E' k' n' Q pc' D st) : WE X G A a Y E k n Q pc D st0 :=
  e_oI hpc C hct hy hl hst0 hlen hw hrm hdg hk hn (fun v E' hp => by obtain ⟨h1, h2⟩ := hp; rw [h1]; exact kk E' h2)
theorem SimE.ssT {Y : YT} {n c tl : Nat} (h : SimE Y n) (h5 : Y (4, 0, 8) 5 = nI c) (hc : c ≤ 8) (h10 : Y (4, 0, 8) 10 = nI tl) (ht : tl ≤ 60) : ∃ st ll, SS Y n c st tl ll (gho Y) := by
  obtain ⟨c', st, tl', ll, hs⟩ := h
  have e1 : c' = c := (nI_eq (by have := hs.c8; omega) (by omega)).mp (hs.m5.symm.trans h5)
  have e2 : tl' = tl := (nI_eq (by have := hs.tx.2.2.1; omega) (by omega)).mp (hs.tx.2.1.symm.trans h10)
  subst e1 e2
  exact ⟨st, ll, hs, rfl, rfl, rfl, rfl⟩
theorem ss_app {Y : YT} {n c st tl ll : Nat} {g : GH} {x : Int32} (h : SS Y n c st tl ll g) (ht : tl < 60) (hx : 32 ≤ x ∧ x ≤ 126) : ∃ (Y2 : YT) (st' ll' : Nat), (∀ i : Id3, i.1 ≠ 4 → Y2 i = sbC Y 0 tl x i) ∧ SS Y2 n c st' (tl + 1) ll' g := by
  obtain ⟨hs, e0, e4, e2, e6⟩ := h
  obtain ⟨Y1, hY1⟩ : ∃ Y1, Y1 = sbC Y 0 tl x := ⟨_, rfl⟩
  have y1 : ∀ i : Id3, i.1 = 4 → Y1 i = Y i := fun i hi => by rw [hY1, sbC, setA_n (fun z => by rw [z] at hi; exact absurd hi (show ¬ (5 : Nat) = 4 by decide))]
  have h10 : Y1 (4, 0, 8) 10 = nI tl := by rw [y1 _ rfl]; exact hs.tx.2.1
  have hn60 : ¬ Y1 (4, 0, 8) 10 = 60 := by rw [h10]; exact fun z => by have := (nI_eq (b := 60) (by omega) (by decide)).mp z; omega
  have hE := (sim_app (Y2 := appY Y1 x) hs (r := nI (tl + 1)) ⟨by rw [if_pos hx, if_neg (by omega)], by rw [if_pos hx, if_neg (by omega)]; exact hY1⟩ rfl rfl).2
  have hd : appY Y1 x = up (up Y1 (4, 0, 5) (nn (Y1 (4, 0, 8) 10)) x) (4, 0, 8) 10 (nI tl + 1) := by rw [appY, if_pos hx, if_neg hn60, h10]
  have dn : ∀ i : Id3, i ≠ (4, 0, 5) → i ≠ (4, 0, 8) → appY Y1 x i = Y1 i := fun i h5 h8 => by rw [hd, up_n h8, up_n h5]
  have d8 : ∀ f, f ≠ 10 → appY Y1 x (4, 0, 8) f = Y (4, 0, 8) f := fun f hf => by rw [hd, up_s, upd_n hf, up_n (by decide), y1 _ rfl]
  obtain ⟨st', ll', hS⟩ := hE.ssT (c := c) (tl := tl + 1) ((d8 5 (by decide)).trans hs.m5) hs.c8 (by rw [hd, up_s, upd_s]; exact nI_add tl 1) (by omega)
  refine ⟨appY Y1 x, st', ll', fun i hi => by rw [dn i (fun z => hi (by rw [z])) (fun z => hi (by rw [z])), hY1], hS.1, ?_, ?_, ?_, ?_⟩
  · rw [dn _ (by decide) (by decide), y1 _ rfl, e0]
  · rw [dn _ (by decide) (by decide), y1 _ rfl, e4]
  · rw [dn _ (by decide) (by decide), y1 _ rfl, e2]
  · rw [d8 6 (by decide), e6]
theorem my_J0_charAt_5068e : MV yJ0_charAt_5068e cJ0_charAt_5068e 2 (some .char) 1 := ⟨aw_736, aw_27, ⟨by decide, by decide, by decide +kernel⟩, aw_734, aw_735⟩
set_option maxHeartbeats 2000000 in
set_option maxRecDepth 20000 in
theorem c_L_runs (l : Launch) (G : GT) (a : Id3 → Nat) (Y : YT) (E : Mem) (n c st ll : Nat) (g : GH) (x u m : Nat) (hs hz : Int32) (y : Nat → Int32) (hS : SS Y n c st 0 ll g) (hn8 : n ≤ 80000) (h2 : I2 g.1) (hx : E x = some (.inr (12, [.ref u, .int 0, .int hs, .int hz]))) (hu : E u = some (.inl (gc G 1, m, .inl y))) (hm : m ≤ 60) (hy : ∀ j, j < m → ∃ w, 32 ≤ w ∧ w ≤ 126 ∧ y j = nI w) : CtE l G a yL_runs cL_runs 4 (some .int) ({ frames := 10, cells := 61, slots := 12200, locals := 235 } : Room) [.ref (a (2, 0, 0)), .ref x] Y E (PI (fun r Y' => DP n c g r Y')) := by
  refine CtE.of (by decide) (Nat.le_of_ble_eq_true rfl) ?_
  intro X A C hl
  subst hl
  generalize hQ : MEnd X G A ({ frames := 10, cells := 61, slots := 12200, locals := 235 } : Room) (PYE G a E (PI (fun r Y' => DP n c g r Y'))) = Q
  refine e_iconst (pc' := 1) (v := 0) rfl C dL_runs_0 (by decide) ?_
  refine e_istore_n (pc' := 2) (D' := [(2, .int 0), (0, .ref (a (2, 0, 0))), (1, .ref x)]) rfl C dL_runs_1 (by decide) rfl ?_
  refine e_D (D' := [(2, .int (nI 0)), (1, .ref x), (0, .ref (a (2, 0, 0)))]) (List.forall_mem_cons.mpr ⟨rfl, List.forall_mem_cons.mpr ⟨rfl, List.forall_mem_cons.mpr ⟨rfl, fun _ h => absurd h List.not_mem_nil⟩⟩⟩) ?_
  refine e_wid (k' := 0) (n' := 200 * 0) (Nat.le_refl _) (Nat.le_refl _) ?_
  refine nat_loop (P := fun i2 => ∀ (Y2 : YT) (s2 l2 : Nat), SS Y2 n c s2 i2 l2 g → WE X G A a Y2 E i2 (200 * i2) Q 2 [(2, .int (nI i2)), (1, .ref x), (0, .ref (a (2, 0, 0)))] []) (B := m) (fun i2 hi2 ih2 => ?_) ?_ 0 (by omega) _ _ _ hS
  · intro Y2 s2 l2 hS2
    refine e_iload_n (pc' := 3) (x := (nI i2)) rfl C dL_runs_2 rfl ?_
    refine e_aload_n (pc' := 4) (x := x) rfl C dL_runs_3 rfl ?_
    refine e_oVi (pc' := 7) (k' := i2) (n' := (200 * i2)) rfl C (j_J0d_length _ G E x u hs hz m y hx hu) my_J0_length_8abf5 aw_732 hx rfl rfl rfl (Nat.le_of_ble_eq_true rfl) (rok rfl rfl (show i2 ≤ 61 by omega) (show 200 * i2 ≤ 12200 by omega)) dL_runs_4 rfl rfl ?_
    refine e_ic_geF (pc' := 10) (tgt := 26) rfl C dL_runs_7 (by decide) (nnle hi2 (by omega)) ?_
    refine e_aload_n (pc' := 11) (x := (a (2, 0, 0))) rfl C dL_runs_10 rfl ?_
    refine e_aload_n (pc' := 12) (x := x) rfl C dL_runs_11 rfl ?_
    refine e_iload_n (pc' := 13) (x := (nI i2)) rfl C dL_runs_12 rfl ?_
    obtain ⟨w, hw1, hw2, hw⟩ := hy i2 hi2
    refine e_oVi (pc' := 16) (k' := i2) (n' := (200 * i2)) rfl C (As := [.int (nI i2)]) (j_J0d_charAt _ G E x u i2 w m hs hz y hx hu hi2 (by omega) hw (by omega)) my_J0_charAt_5068e aw_733 hx rfl rfl rfl (Nat.le_of_ble_eq_true rfl) (rok rfl rfl (show i2 ≤ 61 by omega) (show 200 * i2 ≤ 12200 by omega)) dL_runs_13 rfl rfl ?_
    refine e_i (pc' := 19) (k' := (i2 + 1)) (n' := (200 * (i2 + 1))) rfl C (As := [.int (nI w)]) (c_X12_append _ G a Y2 i2 (nI w) hS2.1.tx.1 hS2.1.tx.2.2.1) my_X12_append aw_757 rfl rfl rfl (Nat.le_of_ble_eq_true rfl) (rok rfl rfl (show i2 + 1 ≤ 61 by omega) (show 200 * i2 + 200 ≤ 12200 by omega)) dL_runs_16 rfl (Nat.mul_succ 200 i2).symm (fun r Y1 hK => ?_)
    have h126 : (32 : Int32) ≤ nI w ∧ nI w ≤ 126 := ⟨nI_le (a := 32) hw1 (by omega), nI_le (b := 126) hw2 (by omega)⟩
    obtain ⟨hr, hY1⟩ := hK
    rw [if_pos h126, if_neg (by omega)] at hY1
    obtain ⟨Y3, s3, l3, hg3, hS3⟩ := ss_app hS2 (by omega) h126
    refine e_gh (Y' := Y3) (fun i hi => by rw [hg3 i hi, hY1]) ?_
    refine e_istore_n (pc' := 20) (D' := [(3, .int r), (2, .int (nI i2)), (1, .ref x), (0, .ref (a (2, 0, 0)))]) rfl C dL_runs_19 (by decide) rfl ?_
    refine e_iinc (pc' := 23) (j := 1) (v := (nI (i2 + 1))) (D' := [(2, .int (nI (i2 + 1))), (3, .int r), (1, .ref x), (0, .ref (a (2, 0, 0)))]) rfl C dL_runs_20 rfl (nI_1 _) (by decide) rfl ?_
    refine e_goto (tgt := 2) C dL_runs_23 (by decide) ?_
    refine e_D (D' := [(2, .int (nI (i2 + 1))), (1, .ref x), (0, .ref (a (2, 0, 0)))]) (List.forall_mem_cons.mpr ⟨rfl, List.forall_mem_cons.mpr ⟨rfl, List.forall_mem_cons.mpr ⟨rfl, fun _ h => absurd h List.not_mem_nil⟩⟩⟩) ?_
    exact ih2 _ _ _ hS3
  · intro Y2 s2 l2 hS2
    refine e_iload_n (pc' := 3) (x := (nI m)) rfl C dL_runs_2 rfl ?_
    refine e_aload_n (pc' := 4) (x := x) rfl C dL_runs_3 rfl ?_
    refine e_oVi (pc' := 7) (k' := m) (n' := (200 * m)) rfl C (j_J0d_length _ G E x u hs hz m y hx hu) my_J0_length_8abf5 aw_732 hx rfl rfl rfl (Nat.le_of_ble_eq_true rfl) (rok rfl rfl (show m ≤ 61 by omega) (show 200 * m ≤ 12200 by omega)) dL_runs_4 rfl rfl ?_
    refine e_ic_geT (tgt := 26) C dL_runs_7 (by decide) (Int32.le_refl _) ?_
    refine e_aload_n (pc' := 27) (x := (a (2, 0, 0))) rfl C dL_runs_26 rfl ?_
    refine e_i (pc' := 30) (k' := m + 1) (n' := 200 * m + 200) rfl C (As := []) (c_X12_run _ G a Y2 (Y2 (4, 0, 5)) (Y2 (4, 0, 6)) m c s2 n g.1 hS2.1.tx.1 hS2.1.tx.2.2.1 hS2.1.tx.2.2.2 hS2.1.k0 hS2.1.c8 hS2.1.k1 hS2.1.s8 hS2.R hS2.I (by omega)) my_X12_run aw_779 rfl rfl rfl (Nat.le_of_ble_eq_true rfl) (rok rfl rfl (show m + 1 ≤ 61 by omega) (show 200 * m + 200 ≤ 12200 by omega)) dL_runs_27 rfl rfl (fun r Y1 hK => ?_)
    obtain ⟨Y3, hg3, hDP⟩ := run_DP hS2 h2 hn8 hK
    refine e_gh hg3 ?_
    refine e_wid (k' := 61) (n' := 12200) (by omega) (by omega) ?_
    subst hQ
    exact e_ireturnE C rfl rfl dL_runs_30 rfl rfl hDP
