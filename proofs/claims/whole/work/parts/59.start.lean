/-! THE START: the world that the two constructors make; the law from its first instruction. -/
theorem s0_hi {f : Nat} (hf : 7 ≤ f) : Y0 (4, 0, 0) f = 0 := by
  show upd (upd (upd (upd (fun _ => 0) 0 20) 1 20) 2 10) 6 2000 f = 0
  rw [upd_n (by omega), upd_n (by omega), upd_n (by omega), upd_n (by omega)]
theorem Y0_R : RKi Y0 0 (Y0 (4, 0, 0)) := by
  refine ⟨⟨rfl, rfl, rfl, rfl⟩, ⟨rfl, rfl, rfl, rfl, rfl, rfl⟩, ⟨rfl, fun j hj => absurd hj (by rw [show nn (Y0 (4, 0, 0) 8) = 0 by decide]; exact Nat.not_lt_zero j)⟩, ⟨rfl, rfl, rfl, rfl⟩, fun j _ => ?_, fun p w hp _ => absurd hp ?_, ⟨rfl, fun p hp => absurd hp (by rw [show nn (Y0 (4, 0, 0) 15) = 0 by decide]; exact Nat.not_lt_zero p)⟩⟩
  · rw [s0_hi (by omega)]
    rfl
  · rw [show m12 (nn (Y0 (4, 0, 0) 12)) = 0 by decide]
    exact Nat.not_lt_zero p
theorem Y0_I : Inv (Y0 (4, 0, 0)) 0 0 := by
  have h15 : nn (Y0 (4, 0, 0) 15) = 0 := by decide
  refine ⟨⟨0, 0, 0, 0, rfl, by omega, rfl, by omega, rfl, by omega, rfl, by omega, fun j hj => absurd hj (Nat.not_lt_zero j)⟩, ⟨20, 20, 0, rfl, by omega, by omega, rfl, by omega, by omega, rfl, by omega, rfl⟩, ⟨10, 0, 0, 2000, rfl, by omega, rfl, by omega, rfl, by omega, rfl, by omega⟩, fun p hp => absurd hp (by rw [h15]; exact Nat.not_lt_zero p), fun p _ _ => ⟨s0_hi (by omega), s0_hi (by omega), s0_hi (by omega), s0_hi (by omega)⟩, 0, ?_, by omega⟩
  rw [h15]
  rfl
theorem Y0_S : SimE Y0 0 := by
  refine ⟨0, 0, 0, 0, ⟨Y0_R, Y0_I⟩, ⟨by omega, by omega, rfl, rfl, rfl, fun j hj => absurd hj (Nat.not_lt_zero j)⟩, ⟨rfl, fun h => absurd rfl h⟩, ⟨rfl, rfl⟩, ⟨rfl, rfl, by omega, fun j hj => absurd hj (Nat.not_lt_zero j)⟩, rfl, rfl, by omega, fun j hj => absurd hj (Nat.not_lt_zero j)⟩
def PM (i : Id3) : Prop := i = (4, 0, 8) ∨ i = (4, 0, 0) ∨ i = (4, 0, 1) ∨ i = (4, 0, 2) ∨ i = (4, 0, 3) ∨ i = (4, 0, 4) ∨ i = (4, 0, 5) ∨ i = (4, 0, 6) ∨ i = (4, 0, 7)
def gM (i : Id3) : Nat := if gT i = 9 then 1 else 0
theorem gM_T {i : Id3} {d : Nat} (h : gT i = d) (hd : d ≠ 9) : gM i = 0 := by rw [gM, if_neg (by rw [h]; exact hd)]
theorem ClE.M {d : Nat} {P : Id3 → Prop} (h : ClE gT d P) (hd : d ≠ 9) : ClE gM 0 P := fun i hi => ⟨gM_T (h i hi).1 hd, fun z hz => gM_T ((h i hi).2 z hz) hd⟩
theorem ClE.or {gf : Id3 → Nat} {d : Nat} {P P' : Id3 → Prop} (h : ClE gf d P) (h' : ClE gf d P') : ClE gf d (fun i => P i ∨ P' i) := fun i hi => hi.elim (h i) (h' i)
theorem ClE.F {gf : Id3 → Nat} {d : Nat} : ClE gf d (fun _ => False) := fun _ h => h.elim
theorem clM_K : ClE gM 0 PKp := by
  refine ClE.or (ClE.or (ClE.or (ClE.or (ClE.or (ClE.or (ClE.or (ClE.or (ClE.or ClE.F ((clT_k 0 (by decide)).M (by decide))) ((clT_k 1 (by decide)).M (by decide))) ((clT_k 2 (by decide)).M (by decide))) (clT_c.M (by decide))) (clT_3.M (by decide))) (clT_4.M (by decide))) (clT_r.M (by decide))) ((clS 1 gT 8 ⟨rfl, rfl⟩).M (by decide))) ?_
  intro i hi
  subst hi
  refine ⟨by decide, fun z hz => ?_⟩
  rcases rf_20 hz with rfl | rfl | rfl | rfl | rfl | rfl | rfl | rfl <;> decide
theorem rf_48 {z : Id3} (h : rfs (4, 0, 8) z) : z.1 = 4 := by
  obtain ⟨t, ht, h1, rfl⟩ : ∃ t ∈ [(1, ((4, 0, 0) : Id3)), (1, (4, 0, 1)), (1, (4, 0, 2)), (1, (4, 0, 3)), (1, (4, 0, 4)), tI, tB, (1, (4, 0, 5)), (1, (4, 0, 6)), (1, (4, 0, 7)), tI, tI, tI, tI, tI, tI, tI, tI, tI, tB], t.1 = 1 ∧ t.2 = z := h
  simp only [List.mem_cons, List.not_mem_nil, or_false] at ht
  rcases ht with rfl | rfl | rfl | rfl | rfl | rfl | rfl | rfl | rfl | rfl | rfl | rfl | rfl | rfl | rfl | rfl | rfl | rfl | rfl | rfl <;> first | rfl | exact absurd h1 (by decide)
theorem gM_4 {i : Id3} (h : i.1 = 4) : gM i = 1 := by
  obtain ⟨x, y, z⟩ := i
  cases h
  rfl
theorem clM_M : ClE gM 1 PM := fun i hi => by
  rcases hi with rfl | rfl | rfl | rfl | rfl | rfl | rfl | rfl | rfl
  · exact ⟨by decide, fun z hz => gM_4 (rf_48 hz)⟩
  all_goals exact ⟨by decide, fun z hz => (show False from hz).elim⟩
theorem cel0_eq {G : GT} {a : Id3 → Nat} {i : Id3} (h : i.1 ≠ 5) : cel0 G a i = cel G a (Y0 i) i := by
  unfold cel0
  split
  · exact absurd rfl h
  · exact absurd rfl h
  · rfl
theorem vld_P {i : Id3} (h : vld i) : (False ∨ PKp i) ∨ PM i := by
  obtain ⟨t, k, j⟩ := i
  have hk : ∀ {t j : Nat}, k < 11 → PK k (t, k, j) → (False ∨ PKp (t, k, j)) ∨ PM (t, k, j) := by
    intro t j hk hp
    have h3 : 3 ≤ k → PC (t, k, j) := fun h3 => Or.inr (Or.inr ⟨k - 3, by omega, by rw [show 3 + (k - 3) = k by omega]; exact hp⟩)
    refine Or.inl (Or.inr (Or.inl (Or.inl (Or.inl (Or.inl (Or.inl ?_))))))
    match k, hp, h3 with
    | 0, hp, _ => exact Or.inl (Or.inl (Or.inl (Or.inr hp)))
    | 1, hp, _ => exact Or.inl (Or.inl (Or.inr hp))
    | 2, hp, _ => exact Or.inl (Or.inr hp)
    | m + 3, hp, h3 => exact Or.inr (h3 (by omega))
  match t, h with
  | 0, h => exact hk h.1 (Or.inl ⟨rfl, rfl, h.2⟩)
  | 1, h => exact hk h.1 (Or.inr ⟨rfl, rfl, h.2⟩)
  | 2, h =>
    obtain ⟨h1, h2⟩ : k = 0 ∧ j < 7 := h
    subst h1
    refine Or.inl (Or.inr ?_)
    match j, h2 with
    | 0, _ => exact Or.inr rfl
    | 1, _ => exact Or.inl (Or.inl (Or.inl (Or.inl (Or.inl (Or.inr (Or.inl rfl))))))
    | 2, _ => exact Or.inl (Or.inl (Or.inl (Or.inl (Or.inl (Or.inr (Or.inr (Or.inl rfl)))))))
    | 3, _ => exact Or.inl (Or.inl (Or.inl (Or.inl (Or.inr rfl))))
    | 4, _ => exact Or.inl (Or.inl (Or.inl (Or.inr rfl)))
    | 5, _ => exact Or.inl (Or.inl (Or.inr (Or.inl rfl)))
    | 6, _ => exact Or.inl (Or.inl (Or.inr (Or.inr (Or.inl rfl))))
    | m + 7, h2 => exact absurd h2 (by omega)
  | 3, h =>
    obtain ⟨h1, h2⟩ : k < 12 ∧ j < 2 := h
    refine Or.inl (Or.inr (Or.inl (Or.inl (Or.inr (Or.inr (Or.inr (Or.inr ⟨k, h1, ?_⟩)))))))
    match j, h2 with
    | 0, _ => exact Or.inl rfl
    | 1, _ => exact Or.inr rfl
    | m + 2, h2 => exact absurd h2 (by omega)
  | 4, h =>
    obtain ⟨h1, h2⟩ : k = 0 ∧ j < 9 := h
    subst h1
    refine Or.inr ?_
    match j, h2 with
    | 0, _ => exact Or.inr (Or.inl rfl)
    | 1, _ => exact Or.inr (Or.inr (Or.inl rfl))
    | 2, _ => exact Or.inr (Or.inr (Or.inr (Or.inl rfl)))
    | 3, _ => exact Or.inr (Or.inr (Or.inr (Or.inr (Or.inl rfl))))
    | 4, _ => exact Or.inr (Or.inr (Or.inr (Or.inr (Or.inr (Or.inl rfl)))))
    | 5, _ => exact Or.inr (Or.inr (Or.inr (Or.inr (Or.inr (Or.inr (Or.inl rfl))))))
    | 6, _ => exact Or.inr (Or.inr (Or.inr (Or.inr (Or.inr (Or.inr (Or.inr (Or.inl rfl)))))))
    | 7, _ => exact Or.inr (Or.inr (Or.inr (Or.inr (Or.inr (Or.inr (Or.inr (Or.inr rfl)))))))
    | 8, _ => exact Or.inl rfl
    | m + 9, h2 => exact absurd h2 (by omega)
  | 5, h =>
    obtain ⟨h1, h2⟩ : k = 0 ∧ j < 2 := h
    subst h1
    refine Or.inl (Or.inr (Or.inl ?_))
    match j, h2 with
    | 0, _ => exact Or.inl (Or.inr (Or.inr (Or.inr (Or.inl (Or.inl rfl)))))
    | 1, _ => exact Or.inr (Or.inl rfl)
    | m + 2, h2 => exact absurd h2 (by omega)
  | m + 6, h => exact (show False from h).elim
theorem P_50 : (False ∨ PKp (5, 1, 0)) ∨ PM (5, 1, 0) := Or.inl (Or.inr (Or.inl (Or.inl (Or.inr (Or.inr (Or.inr (Or.inl (Or.inr rfl))))))))
theorem P_51 : (False ∨ PKp (5, 1, 1)) ∨ PM (5, 1, 1) := Or.inl (Or.inr (Or.inl (Or.inr (Or.inr rfl))))
theorem Y0_isb (i : Id3) (ci f : Nat) (l : List (Nat × Id3)) (z : Id3) (ht : tpl i = .inl (ci, l)) (hf : l[f]? = some (3, z)) : isb (Y0 i f) := by
  unfold Y0
  split
  · injection ht with ht
    injection ht with _ ht
    subst ht
    rcases f with _ | _ | _ | _ | _ | _ | _ | _ | f <;> cases hf
  · injection ht with ht
    injection ht with _ ht
    subst ht
    rcases f with _ | _ | _ | _ | _ | _ | f <;> cases hf
  · injection ht with ht
    injection ht with _ ht
    subst ht
    rcases f with _ | _ | f <;> cases hf
  · cases ht
  · exact Or.inl rfl
theorem Y0_rep {G : GT} {a : Id3 → Nat} {T : Nat → Prop} {M0 M : Mem} (h : Acc G (fun i => (False ∨ PKp i) ∨ PM i) T a M0 M) : RepY G a Y0 M := by
  have nq : ∀ i j, vld i → a i ≠ (if j = 0 then a (5, 1, 0) else a (5, 1, 1)) := fun i j hi e => by
    by_cases hj : j = 0
    · rw [if_pos hj] at e
      have := h.2.1 i (5, 1, 0) (vld_P hi) P_50 e
      subst this
      exact absurd (show (1 : Nat) = 0 from hi.1) (by decide)
    · rw [if_neg hj] at e
      have := h.2.1 i (5, 1, 1) (vld_P hi) P_51 e
      subst this
      exact absurd (show (1 : Nat) = 0 from hi.1) (by decide)
  refine ⟨fun i hi h5 => by rw [← cel0_eq h5]; exact (h.1 i (vld_P hi)).1, fun i j hi hj e => h.2.1 i j (vld_P hi) (vld_P hj) e, fun i ci f l z _ ht hf => Y0_isb i ci f l z ht hf, fun j => if j = 0 then a (5, 1, 0) else a (5, 1, 1), nq, fun e => ?_, fun j hj => ?_⟩
  · have e2 : a (5, 1, 0) = a (5, 1, 1) := e
    have := h.2.1 _ _ P_50 P_51 e2
    injection this with _ q
    injection q with _ q
    cases q
  · have zf : sb_Fit (fun _ => 0) := fun _ => rfl
    match j, hj with
    | 0, _ => exact ⟨16, 0, fun _ => 0, 0, (h.1 (5, 0, 0) (vld_P ⟨rfl, by decide⟩)).1, (h.1 _ P_50).1, rfl, by omega, by omega, zf, fun t ht => absurd ht (Nat.not_lt_zero t)⟩
    | 1, _ => exact ⟨16, 0, fun _ => 0, 0, (h.1 (5, 0, 1) (vld_P ⟨rfl, by decide⟩)).1, (h.1 _ P_51).1, rfl, by omega, by omega, zf, fun t ht => absurd ht (Nat.not_lt_zero t)⟩
    | m + 2, hj => exact absurd hj (by omega)
theorem cn_L_7 : CN "KilnKeeperLaw" 7 11 9 tyX12 := ⟨RX12, TX12, rfl, aw_80, aw_81, aw_54, in_TX12, tyX12_ok⟩
theorem cn_L_10 : CN "KilnKeeperLaw" 10 12 20 tyX13 := ⟨RX13, TX13, rfl, aw_1037, aw_1038, aw_71, in_TX13, tyX13_ok⟩
theorem ZD_11 : ∀ j, j < 9 → defaultValue (tyX12 j) = vp_V [.null, .null, .null, .int 0, .null, .null, .null, .null, .null] j := zd_of rfl
theorem ZD_12 : ∀ j, j < 20 → defaultValue (tyX13 j) = vp_V [.null, .null, .null, .null, .null, .int 0, .int 0, .null, .null, .null, .int 0, .int 0, .int 0, .int 0, .int 0, .int 0, .int 0, .int 0, .int 0, .int 0] j := zd_of rfl
theorem my_X12_init : MI yX12_init cX12_init 1 0 := ⟨aw_84, aw_54, ⟨by decide, by decide, by decide +kernel⟩, aw_83, rfl⟩
theorem my_X13_init : MI yX13_init cX13_init 1 0 := ⟨aw_1041, aw_71, ⟨by decide, by decide, by decide +kernel⟩, aw_1040, rfl⟩
set_option maxRecDepth 20000 in
theorem lw_run {X : XT} {G : GT} {A : Nat → Prop} {rt : Option FieldType} (C : CX X G A RL cL_law 8 rt room_1) {b Ln : Nat} {xs : Nat → Int32} (hX : va_X b Ln xs (xS X) (xS X).heap) (hbl : b < (xS X).heap.size) (hbA : ¬ A b) (hLn : Ln ≤ 2048) {Q : State → Prop} (ex : ∀ (a : Id3 → Nat) (it : Nat) (Y : YT) (k n : Nat), k ≤ 600000 → n ≤ 7302249 → WY X G A a Y k n Q 986 (LWs b a it) []) : WM X G A (fun _ => none) 0 0 Q 0 (argL [.ref b] 8) [] := by
  have A_0 : Acc G (fun _ => False) (fun _ => False) (fun _ => 0) (fun _ => none) (fun _ => none) := Acc.nil (fun q hq => hq.elim)
  refine r_new C cn_L_7 (fs := [.null, .null, .null, .int 0, .null, .null, .null, .null, .null]) ZD_11 rfl rfl dL_law_0 (fun a0 hn0 => ?_)
  refine r_named (e' := .inr (11, [.null, .null, .null, .int 0, .null, .null, .null, .null, .null])) rfl (fun M0 hM0 => ?_)
  have f0 : M0 a0 = some (.inr (11, [.null, .null, .null, .int 0, .null, .null, .null, .null, .null])) := by rw [hM0]; exact mup_s
  refine r_dup C dL_law_3 rfl ?_
  refine r_cI C (j_X12_init _ G M0 a0 f0) my_X12_init aw_82 rfl rfl (Nat.le_of_ble_eq_true rfl) (lwr (by decide) (by decide) (by decide) (by decide)) dL_law_4 (r_void fun M4 hp4 => ?_)
  obtain ⟨b4, A_4, r4, e4, x4⟩ := Acc.sub (root := (2, 0, 0)) A_0 hn0 hM0 hp4 (Or.inr rfl) gM 0 clM_K ClN.F
  refine r_astore_n C dL_law_7 (by decide) ?_
  refine r_new C cn_L_10 (fs := [.null, .null, .null, .null, .null, .int 0, .int 0, .null, .null, .null, .int 0, .int 0, .int 0, .int 0, .int 0, .int 0, .int 0, .int 0, .int 0, .int 0]) ZD_12 rfl rfl dL_law_8 (fun a8 hn8 => ?_)
  refine r_named (e' := .inr (12, [.null, .null, .null, .null, .null, .int 0, .int 0, .null, .null, .null, .int 0, .int 0, .int 0, .int 0, .int 0, .int 0, .int 0, .int 0, .int 0, .int 0])) rfl (fun M8 hM8 => ?_)
  have f8 : M8 a8 = some (.inr (12, [.null, .null, .null, .null, .null, .int 0, .int 0, .null, .null, .null, .int 0, .int 0, .int 0, .int 0, .int 0, .int 0, .int 0, .int 0, .int 0, .int 0])) := by rw [hM8]; exact mup_s
  refine r_dup C dL_law_11 rfl ?_
  refine r_cI C (j_X13_init _ G M8 a8 f8) my_X13_init aw_1039 rfl rfl (Nat.le_of_ble_eq_true rfl) (lwr (by decide) (by decide) (by decide) (by decide)) dL_law_12 (r_void fun M12 hp12 => ?_)
  obtain ⟨b12, A_12, r12, e12, x12⟩ := Acc.sub (root := (4, 0, 8)) A_4 hn8 hM8 hp12 (Or.inl rfl) gM 1 clM_M (ClN.or ClN.F (ClE.ne clM_K (by decide : (0 : Nat) ≠ 1)))
  refine r_astore_n C dL_law_15 (by decide) ?_
  refine r_iconst (v := 0) C dL_law_16 (by decide) ?_
  refine r_istore_n C dL_law_17 (by decide) ?_
  have h1 : b12 (2, 0, 0) = a0 := (e12 (2, 0, 0) (by decide)).trans r4
  have hL : LWs b b12 0 = [some (.ref b), some (.ref a0), some (.ref a8), some (.int 0)] := by
    show [some (Value.ref b), some (Value.ref (b12 (2, 0, 0))), some (Value.ref (b12 (4, 0, 8))), some (Value.int (nI (4 * 0)))] = _
    rw [h1, r12]
    rfl
  refine r_weak (L' := LWs b b12 0) (fun i v hi => ?_) ?_
  · rw [hL] at hi
    match i, hi with
    | 0, hi => exact hi
    | 1, hi => exact hi
    | 2, hi => exact hi
    | 3, hi => exact hi
    | j + 4, hi => cases hi
  · have K := lw_loop C hX hbl hbA hLn (ex b12) 512 0 Y0 231 5844 (Nat.le_of_ble_eq_true rfl) (Nat.le_of_ble_eq_true rfl) (Nat.le_of_ble_eq_true rfl) (Nat.le_of_ble_eq_true rfl) Y0_S
    exact K M12 (Y0_rep A_12)
