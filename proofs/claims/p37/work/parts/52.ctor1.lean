
/-! THE CONSTRUCTORS, over maps. -/
theorem r_arrQ {X : XT} {G : GT} {A : Nat → Prop} {M : Mem} {k n : Nat} {Q : State → Prop} {pc : Nat} {L : List (Option Value)} {st : List Value} {b len : Nat} {cA : ClassId} {y z : Nat → Option Nat} (ha : M b = some (.inl (cA, len, .inr (.inr (.inr (.inr y)))))) (he : ∀ f, f < len → z f = y f) (kk : ∀ M' : Mem, M' = mup M b (.inl (cA, len, .inr (.inr (.inr (.inr z))))) → WM X G A M' k n Q pc L st) : WM X G A M k n Q pc L st := by
  intro H locs ls hS hM hA hL
  have hb := hM _ _ ha
  refine kk _ rfl H locs ls hS (hM.up ?_ (fun _ _ _ => rfl)) (mup_A hA (hA b (by rw [ha]; simp))) hL
  show H[b]? = some (vp_cell _ _)
  have hb' : H[b]? = some (vp_cell cA (len, .inr (.inr (.inr (.inr y))))) := hb
  rw [hb', vp_cell_q, vp_cell_q]
  congr 1
  unfold arrV
  congr 1
  apply Array.ext
  · simp
  · intro i h1 h2
    simp at h1
    simp [he i h1]
theorem Acc.chg {G : GT} {T : Nat → Prop} {a : Id3 → Nat} {M0 M : Mem} (h : Acc G (fun _ => False) T a M0 M) (a' : Id3 → Nat) : Acc G (fun _ => False) T a' M0 M := ⟨fun _ h => h.elim, fun _ _ h => h.elim, h.2.2⟩
theorem Acc.congr {G : GT} {P : Id3 → Prop} {T : Nat → Prop} {a a' : Id3 → Nat} {M0 M : Mem} (h : Acc G P T a M0 M) (h1 : ∀ i, P i → a' i = a i ∧ ∀ z, rfs i z → a' z = a z) : Acc G P T a' M0 M := by
  refine ⟨fun i hi => ?_, fun i j hi hj e => ?_, h.2.2⟩
  · obtain ⟨p1, p2⟩ := h1 i hi
    rw [p1, cel0_congr (fun z hz => p2 z hz)]
    exact h.1 i hi
  · rw [(h1 i hi).1, (h1 j hj).1] at e
    exact h.2.1 i j hi hj e
theorem up_refs {i : Nat} (hi : i < 2 ^ 31) {f f' : Nat → Nat} {r : Nat} (h : ∀ j, j < i → f' j = f j) (hr : f' i = r) : va_up (fun j => if j < i then some (f j) else none) (nI i).toNatClampNeg (some r) = fun j => if j < i + 1 then some (f' j) else none := by
  rw [nI_clamp hi]
  funext j
  unfold va_up
  by_cases e : j = i
  · subst e
    rw [if_pos rfl, if_pos (by omega), hr]
  · rw [if_neg e]
    by_cases l : j < i
    · show (if j < i then some (f j) else none) = _
      rw [if_pos l, if_pos (by omega), h j l]
    · show (if j < i then some (f j) else none) = _
      rw [if_neg l, if_neg (by omega)]
theorem SB_blk {G : GT} {M M' : Mem} {b w j : Nat} (h : SBx G M M' b b 0 0 w 16 (fun _ => 0)) : Blk G (fun i => i = (5, 0, j) ∨ i = (5, 1, j)) (5, 0, j) b M M' := by
  obtain ⟨h1, h2, h3, h4, h5, h6⟩ := h
  have hwb : w ≠ b := fun z => by
    rw [z, h1] at h2
    cases h2
  have hw : M w = none := h5.resolve_left hwb
  have n1 : ((5, 1, j) : Id3) ≠ (5, 0, j) := fun q => by injection q with _ q; injection q with q1; exact absurd q1 (by decide)
  refine ⟨fun i => if i = (5, 1, j) then w else b, if_neg (Ne.symm n1), fun i hi => ?_, fun i i' hi hi' e => ?_, fun q hq hqb => h6 q hqb (fun z => hq (by rw [z]; exact hw))⟩
  · rcases hi with rfl | rfl
    · refine ⟨?_, fun z => absurd rfl z⟩
      show M' (if (5, 0, j) = (5, 1, j) then w else b) = some (.inr (0, [.ref (if (5, 1, j) = (5, 1, j) then w else b), .int 0, .int 0, .int 0]))
      rw [if_neg (Ne.symm n1), if_pos rfl]
      exact h1
    · refine ⟨?_, fun _ => ?_⟩
      · show M' (if (5, 1, j) = (5, 1, j) then w else b) = _
        rw [if_pos rfl]
        exact h2
      · show M (if (5, 1, j) = (5, 1, j) then w else b) = none
        rw [if_pos rfl]
        exact hw
  · rcases hi with rfl | rfl <;> rcases hi' with rfl | rfl
    · rfl
    · simp only [if_neg (Ne.symm n1), if_pos] at e
      exact absurd e.symm hwb
    · simp only [if_neg (Ne.symm n1), if_pos] at e
      exact absurd e hwb
    · rfl
theorem pw_any {α : Type} {R : α → α → Prop} {L : List α} (h : L.Pairwise R) {p q : α} (hp : p ∈ L) (hq : q ∈ L) : p = q ∨ R p q ∨ R q p := by
  induction L with
  | nil => exact absurd hp List.not_mem_nil
  | cons x L ih =>
    rw [List.pairwise_cons] at h
    rcases List.mem_cons.mp hp with e1 | e1
    · rcases List.mem_cons.mp hq with e2 | e2
      · exact Or.inl (e1.trans e2.symm)
      · rw [e1]
        exact Or.inr (Or.inl (h.1 q e2))
    · rcases List.mem_cons.mp hq with e2 | e2
      · rw [e2]
        exact Or.inr (Or.inr (h.1 p e1))
      · exact ih h.2 e1 e2
theorem Blk.arrs {G : GT} {root : Id3} {t : Nat} {M M' : Mem} (L : List (Id3 × Nat)) (hroot : ∀ p ∈ L, p.1 ≠ root) (hp : L.Pairwise (fun p q => p.1 ≠ q.1 ∧ p.2 ≠ q.2)) (hn : ∀ p ∈ L, M p.2 = none) (ht : M t ≠ none) (hc : ∀ a : Id3 → Nat, (∀ p ∈ L, a p.1 = p.2) → M' t = some (cel0 G a root)) (h1 : ∀ p ∈ L, ∀ a : Id3 → Nat, M' p.2 = some (cel0 G a p.1)) (hx : ∀ q, q ≠ t → (∀ p ∈ L, q ≠ p.2) → M' q = M q) : Blk G (fun i => i = root ∨ ∃ p ∈ L, i = p.1) root t M M' := by
  have hex : ∃ a : Id3 → Nat, (∀ p ∈ L, a p.1 = p.2) ∧ ∀ i, (∀ p ∈ L, i ≠ p.1) → a i = t := by
    clear hroot hn hc h1 hx
    induction L with
    | nil => exact ⟨fun _ => t, fun p h => absurd h List.not_mem_nil, fun _ _ => rfl⟩
    | cons p L ih =>
      rw [List.pairwise_cons] at hp
      obtain ⟨a, g1, g2⟩ := ih hp.2
      refine ⟨fun i => if i = p.1 then p.2 else a i, fun q hq => ?_, fun i hi => ?_⟩
      · rcases List.mem_cons.mp hq with rfl | hq
        · exact if_pos rfl
        · show (if q.1 = p.1 then p.2 else a q.1) = q.2
          rw [if_neg (Ne.symm (hp.1 q hq).1)]
          exact g1 q hq
      · show (if i = p.1 then p.2 else a i) = t
        rw [if_neg (hi p List.mem_cons_self)]
        exact g2 i (fun q hq => hi q (List.mem_cons_of_mem _ hq))
  obtain ⟨a, g1, g2⟩ := hex
  have hr : a root = t := g2 root (fun p hp => Ne.symm (hroot p hp))
  have hnt : ∀ p ∈ L, p.2 ≠ t := fun p hp z => ht (by rw [← z]; exact hn p hp)
  refine ⟨a, hr, fun i hi => ?_, fun i j hi hj e => ?_, fun q hq hqt => hx q hqt (fun p hp z => hq (by rw [z]; exact hn p hp))⟩
  · rcases hi with rfl | ⟨p, hpL, rfl⟩
    · rw [hr]
      exact ⟨hc a g1, fun z => absurd rfl z⟩
    · rw [g1 p hpL]
      exact ⟨h1 p hpL a, fun _ => hn p hpL⟩
  · have inj : ∀ p ∈ L, ∀ q ∈ L, p.2 = q.2 → p.1 = q.1 := by
      intro p hpL q hqL e
      by_cases z : p = q
      · rw [z]
      · rcases pw_any hp hpL hqL with y | y | y
        · exact absurd y z
        · exact absurd e y.2
        · exact absurd e.symm y.2
    rcases hi with rfl | ⟨p, hpL, rfl⟩ <;> rcases hj with rfl | ⟨q, hqL, rfl⟩
    · rfl
    · rw [hr, g1 q hqL] at e
      exact absurd e.symm (hnt q hqL)
    · rw [hr, g1 p hpL] at e
      exact absurd e (hnt p hpL)
    · rw [g1 p hpL, g1 q hqL] at e
      exact inj p hpL q hqL e
theorem zd_of {N : Nat} {ty : Nat → FieldType} {fs : List Value} (h : (List.range N).all (fun j => decide (defaultValue (ty j) = vp_V fs j)) = true) : ∀ j, j < N → defaultValue (ty j) = vp_V fs j := fun j hj => of_decide_eq_true (List.all_eq_true.mp h j (List.mem_range.mpr hj))
theorem fp_X1_24 : FLP "KilnKeeper$Book" 24 1 4 (.array .int) true := ⟨RX1, TX1, 6, tyX1, rfl, by decide, aw_111, in_TX1, tyX1_ok, nmX1, rfl, rfl, fun h => by first | exact rfl | cases h⟩
theorem fp_X1_28 : FLP "KilnKeeper$Book" 28 1 5 (.array .int) true := ⟨RX1, TX1, 6, tyX1, rfl, by decide, aw_113, in_TX1, tyX1_ok, nmX1, rfl, rfl, fun h => by first | exact rfl | cases h⟩
theorem fp_X4_15 : FLP "KilnKeeper$LagRow" 15 4 1 (.array .int) true := ⟨RX4, TX4, 2, tyX4, rfl, by decide, aw_89, in_TX4, tyX4_ok, nmX4, rfl, rfl, fun h => by first | exact rfl | cases h⟩
theorem fp_X5_15 : FLP "KilnKeeper$Order" 15 5 0 (.object "KilnKeeper$Word") false := ⟨RX5, TX5, 2, tyX5, rfl, by decide, aw_287, in_TX5, tyX5_ok, nmX5, rfl, rfl, fun h => by first | exact rfl | cases h⟩
theorem fp_X5_20 : FLP "KilnKeeper$Order" 20 5 1 (.array .int) true := ⟨RX5, TX5, 2, tyX5, rfl, by decide, aw_290, in_TX5, tyX5_ok, nmX5, rfl, rfl, fun h => by first | exact rfl | cases h⟩
-- KilnKeeper$Pot.<init>
set_option maxHeartbeats 1000000 in
set_option maxRecDepth 20000 in
theorem j_X6_init (l : Launch) (G : GT) (M : Mem) (t : Nat) (k p : Nat) (h_t : M t = some (.inr (6, [.int 0, .int 0, .int 0, .int 0, .int 0, .int 0, .int 0])))  : Ct l G yX6_init cX6_init 1 none ({ frames := 1, cells := 0, slots := 0, locals := 20 } : Room) [.ref t] M (fun ov M' => ov = none ∧ (Blk G (fun i => i = (1, k, p)) (1, k, p) t M M')) := by
  refine Ct.of (by decide) rfl (Nat.le_of_ble_eq_true rfl) ?_
  intro X A C hl hin
  subst hl
  refine r_aload_n C dX6_init_0 rfl ?_
  refine r_objInit C aw_139 aw_46 aw_47 rfl rfl dX6_init_1 ?_
  refine r_aload_n C dX6_init_4 rfl ?_
  refine r_iconst (v := 0) C dX6_init_5 (by decide) ?_
  refine r_putf C fp_X6_9 h_t (Nat.le_of_ble_eq_true rfl) rfl rfl dX6_init_6 ?_
  refine r_named (e' := .inr (6, [.int 0, .int 0, .int 0, .int 0, .int 0, .int 0, .int 0])) rfl (fun M6 hM6 => ?_)
  have f6_t : M6 t = some (.inr (6, [.int 0, .int 0, .int 0, .int 0, .int 0, .int 0, .int 0])) := by rw [hM6]; exact mup_s
  refine r_aload_n C dX6_init_9 rfl ?_
  refine r_iconst (v := 0) C dX6_init_10 (by decide) ?_
  refine r_putf C fp_X6_15 f6_t (Nat.le_of_ble_eq_true rfl) rfl rfl dX6_init_11 ?_
  refine r_named (e' := .inr (6, [.int 0, .int 0, .int 0, .int 0, .int 0, .int 0, .int 0])) rfl (fun M11 hM11 => ?_)
  have f11_t : M11 t = some (.inr (6, [.int 0, .int 0, .int 0, .int 0, .int 0, .int 0, .int 0])) := by rw [hM11]; exact mup_s
  refine r_aload_n C dX6_init_14 rfl ?_
  refine r_iconst (v := 0) C dX6_init_15 (by decide) ?_
  refine r_putf C fp_X6_18 f11_t (Nat.le_of_ble_eq_true rfl) rfl rfl dX6_init_16 ?_
  refine r_named (e' := .inr (6, [.int 0, .int 0, .int 0, .int 0, .int 0, .int 0, .int 0])) rfl (fun M16 hM16 => ?_)
  have f16_t : M16 t = some (.inr (6, [.int 0, .int 0, .int 0, .int 0, .int 0, .int 0, .int 0])) := by rw [hM16]; exact mup_s
  refine r_aload_n C dX6_init_19 rfl ?_
  refine r_iconst (v := 0) C dX6_init_20 (by decide) ?_
  refine r_putf C fp_X6_21 f16_t (Nat.le_of_ble_eq_true rfl) rfl rfl dX6_init_21 ?_
  refine r_named (e' := .inr (6, [.int 0, .int 0, .int 0, .int 0, .int 0, .int 0, .int 0])) rfl (fun M21 hM21 => ?_)
  have f21_t : M21 t = some (.inr (6, [.int 0, .int 0, .int 0, .int 0, .int 0, .int 0, .int 0])) := by rw [hM21]; exact mup_s
  refine r_aload_n C dX6_init_24 rfl ?_
  refine r_iconst (v := 0) C dX6_init_25 (by decide) ?_
  refine r_putf C fp_X6_24 f21_t (Nat.le_of_ble_eq_true rfl) rfl rfl dX6_init_26 ?_
  refine r_named (e' := .inr (6, [.int 0, .int 0, .int 0, .int 0, .int 0, .int 0, .int 0])) rfl (fun M26 hM26 => ?_)
  have f26_t : M26 t = some (.inr (6, [.int 0, .int 0, .int 0, .int 0, .int 0, .int 0, .int 0])) := by rw [hM26]; exact mup_s
  refine r_aload_n C dX6_init_29 rfl ?_
  refine r_iconst (v := 0) C dX6_init_30 (by decide) ?_
  refine r_putf C fp_X6_27 f26_t (Nat.le_of_ble_eq_true rfl) rfl rfl dX6_init_31 ?_
  refine r_named (e' := .inr (6, [.int 0, .int 0, .int 0, .int 0, .int 0, .int 0, .int 0])) rfl (fun M31 hM31 => ?_)
  have f31_t : M31 t = some (.inr (6, [.int 0, .int 0, .int 0, .int 0, .int 0, .int 0, .int 0])) := by rw [hM31]; exact mup_s
  refine r_aload_n C dX6_init_34 rfl ?_
  refine r_iconst (v := 0) C dX6_init_35 (by decide) ?_
  refine r_putf C fp_X6_31 f31_t (Nat.le_of_ble_eq_true rfl) rfl rfl dX6_init_36 ?_
  refine r_named (e' := .inr (6, [.int 0, .int 0, .int 0, .int 0, .int 0, .int 0, .int 0])) rfl (fun M36 hM36 => ?_)
  have f36_t : M36 t = some (.inr (6, [.int 0, .int 0, .int 0, .int 0, .int 0, .int 0, .int 0])) := by rw [hM36]; exact mup_s
  refine r_return C rfl dX6_init_39 ?_ rfl rfl
  exact ⟨rfl, Blk.one (fun a => f36_t) (fun q hq => by rw [hM36, mup_n hq, hM31, mup_n hq, hM26, mup_n hq, hM21, mup_n hq, hM16, mup_n hq, hM11, mup_n hq, hM6, mup_n hq])⟩
-- KilnKeeper$Regulator.<init>
set_option maxHeartbeats 1000000 in
set_option maxRecDepth 20000 in
theorem j_X10_init (l : Launch) (G : GT) (M : Mem) (t : Nat) (k : Nat) (h_t : M t = some (.inr (10, [.int 0, .int 0, .int 0, .int 0, .int 0, .int 0])))  : Ct l G yX10_init cX10_init 1 none ({ frames := 1, cells := 0, slots := 0, locals := 20 } : Room) [.ref t] M (fun ov M' => ov = none ∧ (Blk G (fun i => i = (0, k, 1)) (0, k, 1) t M M')) := by
  refine Ct.of (by decide) rfl (Nat.le_of_ble_eq_true rfl) ?_
  intro X A C hl hin
  subst hl
  refine r_aload_n C dX10_init_0 rfl ?_
  refine r_objInit C aw_59 aw_46 aw_47 rfl rfl dX10_init_1 ?_
  refine r_aload_n C dX10_init_4 rfl ?_
  refine r_bipush (v := 10) C dX10_init_5 (by decide) ?_
  refine r_putf C fp_X10_9 h_t (Nat.le_of_ble_eq_true rfl) rfl rfl dX10_init_7 ?_
  refine r_named (e' := .inr (10, [.int 10, .int 0, .int 0, .int 0, .int 0, .int 0])) rfl (fun M7 hM7 => ?_)
  have f7_t : M7 t = some (.inr (10, [.int 10, .int 0, .int 0, .int 0, .int 0, .int 0])) := by rw [hM7]; exact mup_s
  refine r_aload_n C dX10_init_10 rfl ?_
  refine r_iconst (v := 0) C dX10_init_11 (by decide) ?_
  refine r_putf C fp_X10_15 f7_t (Nat.le_of_ble_eq_true rfl) rfl rfl dX10_init_12 ?_
  refine r_named (e' := .inr (10, [.int 10, .int 0, .int 0, .int 0, .int 0, .int 0])) rfl (fun M12 hM12 => ?_)
  have f12_t : M12 t = some (.inr (10, [.int 10, .int 0, .int 0, .int 0, .int 0, .int 0])) := by rw [hM12]; exact mup_s
  refine r_aload_n C dX10_init_15 rfl ?_
  refine r_iconst (v := 0) C dX10_init_16 (by decide) ?_
  refine r_putf C fp_X10_18 f12_t (Nat.le_of_ble_eq_true rfl) rfl rfl dX10_init_17 ?_
  refine r_named (e' := .inr (10, [.int 10, .int 0, .int 0, .int 0, .int 0, .int 0])) rfl (fun M17 hM17 => ?_)
  have f17_t : M17 t = some (.inr (10, [.int 10, .int 0, .int 0, .int 0, .int 0, .int 0])) := by rw [hM17]; exact mup_s
  refine r_aload_n C dX10_init_20 rfl ?_
  refine r_sipush (v := 2000) C dX10_init_21 (by decide) ?_
  refine r_putf C fp_X10_21 f17_t (Nat.le_of_ble_eq_true rfl) rfl rfl dX10_init_24 ?_
  refine r_named (e' := .inr (10, [.int 10, .int 0, .int 0, .int 2000, .int 0, .int 0])) rfl (fun M24 hM24 => ?_)
  have f24_t : M24 t = some (.inr (10, [.int 10, .int 0, .int 0, .int 2000, .int 0, .int 0])) := by rw [hM24]; exact mup_s
  refine r_aload_n C dX10_init_27 rfl ?_
  refine r_iconst (v := 0) C dX10_init_28 (by decide) ?_
  refine r_putf C fp_X10_24 f24_t (Nat.le_of_ble_eq_true rfl) rfl rfl dX10_init_29 ?_
  refine r_named (e' := .inr (10, [.int 10, .int 0, .int 0, .int 2000, .int 0, .int 0])) rfl (fun M29 hM29 => ?_)
  have f29_t : M29 t = some (.inr (10, [.int 10, .int 0, .int 0, .int 2000, .int 0, .int 0])) := by rw [hM29]; exact mup_s
  refine r_aload_n C dX10_init_32 rfl ?_
  refine r_iconst (v := 0) C dX10_init_33 (by decide) ?_
  refine r_putf C fp_X10_27 f29_t (Nat.le_of_ble_eq_true rfl) rfl rfl dX10_init_34 ?_
  refine r_named (e' := .inr (10, [.int 10, .int 0, .int 0, .int 2000, .int 0, .int 0])) rfl (fun M34 hM34 => ?_)
  have f34_t : M34 t = some (.inr (10, [.int 10, .int 0, .int 0, .int 2000, .int 0, .int 0])) := by rw [hM34]; exact mup_s
  refine r_return C rfl dX10_init_37 ?_ rfl rfl
  exact ⟨rfl, Blk.one (fun a => f34_t) (fun q hq => by rw [hM34, mup_n hq, hM29, mup_n hq, hM24, mup_n hq, hM17, mup_n hq, hM12, mup_n hq, hM7, mup_n hq])⟩
-- KilnKeeper$Refusal.<init>
set_option maxHeartbeats 1000000 in
set_option maxRecDepth 20000 in
theorem j_X9_init (l : Launch) (G : GT) (M : Mem) (t : Nat) (j : Nat) (h_t : M t = some (.inr (9, [.int 0, .int 0]))) (hj : j = 3 ∨ j = 4) : Ct l G yX9_init cX9_init 1 none ({ frames := 1, cells := 0, slots := 0, locals := 20 } : Room) [.ref t] M (fun ov M' => ov = none ∧ (Blk G (fun i => i = (2, 0, j)) (2, 0, j) t M M')) := by
  refine Ct.of (by decide) rfl (Nat.le_of_ble_eq_true rfl) ?_
  intro X A C hl hin
  subst hl
  refine r_aload_n C dX9_init_0 rfl ?_
  refine r_objInit C aw_231 aw_46 aw_47 rfl rfl dX9_init_1 ?_
  refine r_aload_n C dX9_init_4 rfl ?_
  refine r_iconst (v := 0) C dX9_init_5 (by decide) ?_
  refine r_putf C fp_X9_9 h_t (Nat.le_of_ble_eq_true rfl) rfl rfl dX9_init_6 ?_
  refine r_named (e' := .inr (9, [.int 0, .int 0])) rfl (fun M6 hM6 => ?_)
  have f6_t : M6 t = some (.inr (9, [.int 0, .int 0])) := by rw [hM6]; exact mup_s
  refine r_aload_n C dX9_init_9 rfl ?_
  refine r_iconst (v := 0) C dX9_init_10 (by decide) ?_
  refine r_putf C fp_X9_15 f6_t (Nat.le_of_ble_eq_true rfl) rfl rfl dX9_init_11 ?_
  refine r_named (e' := .inr (9, [.int 0, .int 0])) rfl (fun M11 hM11 => ?_)
  have f11_t : M11 t = some (.inr (9, [.int 0, .int 0])) := by rw [hM11]; exact mup_s
  refine r_return C rfl dX9_init_14 ?_ rfl rfl
  rcases hj with rfl | rfl
  · exact ⟨rfl, Blk.one (fun a => f11_t) (fun q hq => by rw [hM11, mup_n hq, hM6, mup_n hq])⟩
  · exact ⟨rfl, Blk.one (fun a => f11_t) (fun q hq => by rw [hM11, mup_n hq, hM6, mup_n hq])⟩
-- KilnKeeper$LagRow.<init>
set_option maxHeartbeats 1000000 in
set_option maxRecDepth 20000 in
theorem j_X4_init (l : Launch) (G : GT) (M : Mem) (t : Nat) (k : Nat) (h_t : M t = some (.inr (4, [.int 0, .null])))  : Ct l G yX4_init cX4_init 1 none ({ frames := 1, cells := 1, slots := 5, locals := 20 } : Room) [.ref t] M (fun ov M' => ov = none ∧ (Blk G (fun i => i = (0, k, 2) ∨ i = (0, k, 3)) (0, k, 2) t M M')) := by
  refine Ct.of (by decide) rfl (Nat.le_of_ble_eq_true rfl) ?_
  intro X A C hl hin
  subst hl
  have A_0 : Acc G (fun _ => False) (fun q => q = t) (fun _ => t) M M := Acc.nil (fun q hq => by rw [hq, h_t]; simp)
  refine r_aload_n C dX4_init_0 rfl ?_
  refine r_objInit C aw_86 aw_46 aw_47 rfl rfl dX4_init_1 ?_
  refine r_aload_n C dX4_init_4 rfl ?_
  refine r_iconst (v := 0) C dX4_init_5 (by decide) ?_
  refine r_putf C fp_X4_9 h_t (Nat.le_of_ble_eq_true rfl) rfl rfl dX4_init_6 ?_
  refine r_named (e' := .inr (4, [.int 0, .null])) rfl (fun M6 hM6 => ?_)
  have f6_t : M6 t = some (.inr (4, [.int 0, .null])) := by rw [hM6]; exact mup_s
  have A_6 := A_0.put rfl hM6
  refine r_aload_n C dX4_init_9 rfl ?_
  refine r_iconst (v := 5) C dX4_init_10 (by decide) ?_
  refine r_newI C aw_95 (by decide) (N := 5) rfl rfl rfl rfl dX4_init_11 (fun a11 hn11 => ?_)
  have ne11_t : t ≠ a11 := fun h_ => by have q_ := f6_t; rw [h_] at q_; cases q_.symm.trans hn11
  refine r_named (e' := .inl (gc G 0, 5, .inl (fun _ => 0))) rfl (fun M11 hM11 => ?_)
  have f11_a11 : M11 a11 = some (.inl (gc G 0, 5, .inl (fun _ => 0))) := by rw [hM11]; exact mup_s
  have f11_t : M11 t = some (.inr (4, [.int 0, .null])) := by rw [hM11, mup_n (by first | assumption | exact Ne.symm (by assumption) | exact fun h_ => by rw [h_] at f6_t; cases f6_t.symm.trans hn11)]; exact f6_t
  have o_11 := A_6.old hn11
  have nt_11 := fun z => A_6.2.2.2 _ z hn11
  have A_11 := A_6.fresh hn11 hM11
  refine r_putF C fp_X4_15 hin f11_t (Nat.le_of_ble_eq_true rfl) rfl rfl dX4_init_13 ?_
  refine r_named (e' := .inr (4, [.int 0, .ref a11])) rfl (fun M13 hM13 => ?_)
  have f13_t : M13 t = some (.inr (4, [.int 0, .ref a11])) := by rw [hM13]; exact mup_s
  have f13_a11 : M13 a11 = some (.inl (gc G 0, 5, .inl (fun _ => 0))) := by rw [hM13, mup_n (by first | assumption | exact Ne.symm (by assumption) | exact fun h_ => by rw [h_] at f11_a11; cases f11_a11.symm.trans f11_t)]; exact f11_a11
  have A_13 := A_11.put (Or.inl rfl) hM13
  refine r_return C rfl dX4_init_16 ?_ rfl rfl
  refine ⟨rfl, (Blk.arrs (root := (0, k, 2)) [((0, k, 3), a11)] (List.forall_mem_cons.mpr ⟨(by simp), fun _ h => absurd h List.not_mem_nil⟩) (List.Pairwise.cons (fun q hq => absurd hq List.not_mem_nil) List.Pairwise.nil) (List.forall_mem_cons.mpr ⟨o_11, fun _ h => absurd h List.not_mem_nil⟩) (by rw [h_t]; simp) (fun a ha => ?_) (List.forall_mem_cons.mpr ⟨(fun a => f13_a11), fun _ h => absurd h List.not_mem_nil⟩) (fun q hq hL => ?_)).mono (fun i hi => ?_)⟩
  · have q_ := f13_t
    rw [show a11 = a (0, k, 3) from (ha ((0, k, 3), a11) (by simp)).symm] at q_
    exact q_
  · have ha11 : q ≠ a11 := hL ((0, k, 3), a11) (by simp)
    rw [hM13, mup_n hq, hM11, mup_n ha11, hM6, mup_n hq]
  · simpa using hi
-- KilnKeeper$Book.<init>
set_option maxHeartbeats 1000000 in
set_option maxRecDepth 20000 in
theorem j_X1_init (l : Launch) (G : GT) (M : Mem) (t : Nat) (k : Nat) (h_t : M t = some (.inr (1, [.int 0, .int 0, .int 0, .int 0, .null, .null])))  : Ct l G yX1_init cX1_init 1 none ({ frames := 1, cells := 2, slots := 149, locals := 20 } : Room) [.ref t] M (fun ov M' => ov = none ∧ (Blk G (fun i => i = (0, k, 4) ∨ i = (0, k, 5) ∨ i = (0, k, 6)) (0, k, 4) t M M')) := by
  refine Ct.of (by decide) rfl (Nat.le_of_ble_eq_true rfl) ?_
  intro X A C hl hin
  subst hl
  have A_0 : Acc G (fun _ => False) (fun q => q = t) (fun _ => t) M M := Acc.nil (fun q hq => by rw [hq, h_t]; simp)
  refine r_aload_n C dX1_init_0 rfl ?_
  refine r_objInit C aw_101 aw_46 aw_47 rfl rfl dX1_init_1 ?_
  refine r_aload_n C dX1_init_4 rfl ?_
  refine r_iconst (v := 0) C dX1_init_5 (by decide) ?_
  refine r_putf C fp_X1_9 h_t (Nat.le_of_ble_eq_true rfl) rfl rfl dX1_init_6 ?_
  refine r_named (e' := .inr (1, [.int 0, .int 0, .int 0, .int 0, .null, .null])) rfl (fun M6 hM6 => ?_)
  have f6_t : M6 t = some (.inr (1, [.int 0, .int 0, .int 0, .int 0, .null, .null])) := by rw [hM6]; exact mup_s
  have A_6 := A_0.put rfl hM6
  refine r_aload_n C dX1_init_9 rfl ?_
  refine r_iconst (v := 0) C dX1_init_10 (by decide) ?_
  refine r_putf C fp_X1_15 f6_t (Nat.le_of_ble_eq_true rfl) rfl rfl dX1_init_11 ?_
  refine r_named (e' := .inr (1, [.int 0, .int 0, .int 0, .int 0, .null, .null])) rfl (fun M11 hM11 => ?_)
  have f11_t : M11 t = some (.inr (1, [.int 0, .int 0, .int 0, .int 0, .null, .null])) := by rw [hM11]; exact mup_s
  have A_11 := A_6.put rfl hM11
  refine r_aload_n C dX1_init_14 rfl ?_
  refine r_iconst (v := 0) C dX1_init_15 (by decide) ?_
  refine r_putf C fp_X1_18 f11_t (Nat.le_of_ble_eq_true rfl) rfl rfl dX1_init_16 ?_
  refine r_named (e' := .inr (1, [.int 0, .int 0, .int 0, .int 0, .null, .null])) rfl (fun M16 hM16 => ?_)
  have f16_t : M16 t = some (.inr (1, [.int 0, .int 0, .int 0, .int 0, .null, .null])) := by rw [hM16]; exact mup_s
  have A_16 := A_11.put rfl hM16
  refine r_aload_n C dX1_init_19 rfl ?_
  refine r_iconst (v := 0) C dX1_init_20 (by decide) ?_
  refine r_putf C fp_X1_21 f16_t (Nat.le_of_ble_eq_true rfl) rfl rfl dX1_init_21 ?_
  refine r_named (e' := .inr (1, [.int 0, .int 0, .int 0, .int 0, .null, .null])) rfl (fun M21 hM21 => ?_)
  have f21_t : M21 t = some (.inr (1, [.int 0, .int 0, .int 0, .int 0, .null, .null])) := by rw [hM21]; exact mup_s
  have A_21 := A_16.put rfl hM21
  refine r_aload_n C dX1_init_24 rfl ?_
  refine r_bipush (v := 101) C dX1_init_25 (by decide) ?_
  refine r_newI C aw_95 (by decide) (N := 101) rfl rfl rfl rfl dX1_init_27 (fun a27 hn27 => ?_)
  have ne27_t : t ≠ a27 := fun h_ => by have q_ := f21_t; rw [h_] at q_; cases q_.symm.trans hn27
  refine r_named (e' := .inl (gc G 0, 101, .inl (fun _ => 0))) rfl (fun M27 hM27 => ?_)
  have f27_a27 : M27 a27 = some (.inl (gc G 0, 101, .inl (fun _ => 0))) := by rw [hM27]; exact mup_s
  have f27_t : M27 t = some (.inr (1, [.int 0, .int 0, .int 0, .int 0, .null, .null])) := by rw [hM27, mup_n (by first | assumption | exact Ne.symm (by assumption) | exact fun h_ => by rw [h_] at f21_t; cases f21_t.symm.trans hn27)]; exact f21_t
  have o_27 := A_21.old hn27
  have nt_27 := fun z => A_21.2.2.2 _ z hn27
  have A_27 := A_21.fresh hn27 hM27
  refine r_putF C fp_X1_24 hin f27_t (Nat.le_of_ble_eq_true rfl) rfl rfl dX1_init_29 ?_
  refine r_named (e' := .inr (1, [.int 0, .int 0, .int 0, .int 0, .ref a27, .null])) rfl (fun M29 hM29 => ?_)
  have f29_t : M29 t = some (.inr (1, [.int 0, .int 0, .int 0, .int 0, .ref a27, .null])) := by rw [hM29]; exact mup_s
  have f29_a27 : M29 a27 = some (.inl (gc G 0, 101, .inl (fun _ => 0))) := by rw [hM29, mup_n (by first | assumption | exact Ne.symm (by assumption) | exact fun h_ => by rw [h_] at f27_a27; cases f27_a27.symm.trans f27_t)]; exact f27_a27
  have A_29 := A_27.put (Or.inl rfl) hM29
  refine r_aload_n C dX1_init_32 rfl ?_
  refine r_bipush (v := 48) C dX1_init_33 (by decide) ?_
  refine r_newI C aw_95 (by decide) (N := 48) rfl rfl rfl rfl dX1_init_35 (fun a35 hn35 => ?_)
  have ne35_a27 : a27 ≠ a35 := fun h_ => by have q_ := f29_a27; rw [h_] at q_; cases q_.symm.trans hn35
  have ne35_t : t ≠ a35 := fun h_ => by have q_ := f29_t; rw [h_] at q_; cases q_.symm.trans hn35
  refine r_named (e' := .inl (gc G 0, 48, .inl (fun _ => 0))) rfl (fun M35 hM35 => ?_)
  have f35_a35 : M35 a35 = some (.inl (gc G 0, 48, .inl (fun _ => 0))) := by rw [hM35]; exact mup_s
  have f35_a27 : M35 a27 = some (.inl (gc G 0, 101, .inl (fun _ => 0))) := by rw [hM35, mup_n (by first | assumption | exact Ne.symm (by assumption) | exact fun h_ => by rw [h_] at f29_a27; cases f29_a27.symm.trans hn35)]; exact f29_a27
  have f35_t : M35 t = some (.inr (1, [.int 0, .int 0, .int 0, .int 0, .ref a27, .null])) := by rw [hM35, mup_n (by first | assumption | exact Ne.symm (by assumption) | exact fun h_ => by rw [h_] at f29_t; cases f29_t.symm.trans hn35)]; exact f29_t
  have o_35 := A_29.old hn35
  have nt_35 := fun z => A_29.2.2.2 _ z hn35
  have A_35 := A_29.fresh hn35 hM35
  refine r_putF C fp_X1_28 hin f35_t (Nat.le_of_ble_eq_true rfl) rfl rfl dX1_init_37 ?_
  refine r_named (e' := .inr (1, [.int 0, .int 0, .int 0, .int 0, .ref a27, .ref a35])) rfl (fun M37 hM37 => ?_)
  have f37_t : M37 t = some (.inr (1, [.int 0, .int 0, .int 0, .int 0, .ref a27, .ref a35])) := by rw [hM37]; exact mup_s
  have f37_a27 : M37 a27 = some (.inl (gc G 0, 101, .inl (fun _ => 0))) := by rw [hM37, mup_n (by first | assumption | exact Ne.symm (by assumption) | exact fun h_ => by rw [h_] at f35_a27; cases f35_a27.symm.trans f35_t)]; exact f35_a27
  have f37_a35 : M37 a35 = some (.inl (gc G 0, 48, .inl (fun _ => 0))) := by rw [hM37, mup_n (by first | assumption | exact Ne.symm (by assumption) | exact fun h_ => by rw [h_] at f35_a35; cases f35_a35.symm.trans f35_t)]; exact f35_a35
  have A_37 := A_35.put (Or.inl (Or.inl rfl)) hM37
  refine r_return C rfl dX1_init_40 ?_ rfl rfl
  refine ⟨rfl, (Blk.arrs (root := (0, k, 4)) [((0, k, 5), a27), ((0, k, 6), a35)] (List.forall_mem_cons.mpr ⟨(by simp), List.forall_mem_cons.mpr ⟨(by simp), fun _ h => absurd h List.not_mem_nil⟩⟩) (List.Pairwise.cons (List.forall_mem_cons.mpr ⟨⟨(by simp), ne35_a27⟩, fun _ h => absurd h List.not_mem_nil⟩) (List.Pairwise.cons (fun q hq => absurd hq List.not_mem_nil) List.Pairwise.nil)) (List.forall_mem_cons.mpr ⟨o_27, List.forall_mem_cons.mpr ⟨o_35, fun _ h => absurd h List.not_mem_nil⟩⟩) (by rw [h_t]; simp) (fun a ha => ?_) (List.forall_mem_cons.mpr ⟨(fun a => f37_a27), List.forall_mem_cons.mpr ⟨(fun a => f37_a35), fun _ h => absurd h List.not_mem_nil⟩⟩) (fun q hq hL => ?_)).mono (fun i hi => ?_)⟩
  · have q_ := f37_t
    rw [show a27 = a (0, k, 5) from (ha ((0, k, 5), a27) (by simp)).symm, show a35 = a (0, k, 6) from (ha ((0, k, 6), a35) (by simp)).symm] at q_
    exact q_
  · have ha27 : q ≠ a27 := hL ((0, k, 5), a27) (by simp)
    have ha35 : q ≠ a35 := hL ((0, k, 6), a35) (by simp)
    rw [hM37, mup_n hq, hM35, mup_n ha35, hM29, mup_n hq, hM27, mup_n ha27, hM21, mup_n hq, hM16, mup_n hq, hM11, mup_n hq, hM6, mup_n hq]
  · simpa using hi
-- KilnKeeper$Order.<init>
set_option maxHeartbeats 1000000 in
set_option maxRecDepth 20000 in
theorem j_X5_init (l : Launch) (G : GT) (M : Mem) (t : Nat) (k : Nat) (h_t : M t = some (.inr (5, [.null, .null])))  : Ct l G yX5_init cX5_init 1 none ({ frames := 1, cells := 1, slots := 3, locals := 20 } : Room) [.ref t] M (fun ov M' => ov = none ∧ (Blk G (fun i => i = (3, k, 0) ∨ i = (3, k, 1)) (3, k, 0) t M M')) := by
  refine Ct.of (by decide) rfl (Nat.le_of_ble_eq_true rfl) ?_
  intro X A C hl hin
  subst hl
  have A_0 : Acc G (fun _ => False) (fun q => q = t) (fun _ => t) M M := Acc.nil (fun q hq => by rw [hq, h_t]; simp)
  refine r_aload_n C dX5_init_0 rfl ?_
  refine r_objInit C aw_284 aw_46 aw_47 rfl rfl dX5_init_1 ?_
  refine r_aload_n C dX5_init_4 rfl ?_
  refine r_gets C (C.ev.2.2.2.2.2.1.1 8 (by decide)).1 aw_285 dX5_init_5 ?_
  refine r_putf C fp_X5_15 h_t (Nat.le_of_ble_eq_true rfl) rfl rfl dX5_init_8 ?_
  refine r_named (e' := .inr (5, [.ref (gad G 8), .null])) rfl (fun M8 hM8 => ?_)
  have f8_t : M8 t = some (.inr (5, [.ref (gad G 8), .null])) := by rw [hM8]; exact mup_s
  have A_8 := A_0.put rfl hM8
  refine r_aload_n C dX5_init_11 rfl ?_
  refine r_iconst (v := 3) C dX5_init_12 (by decide) ?_
  refine r_newI C aw_95 (by decide) (N := 3) rfl rfl rfl rfl dX5_init_13 (fun a13 hn13 => ?_)
  have ne13_t : t ≠ a13 := fun h_ => by have q_ := f8_t; rw [h_] at q_; cases q_.symm.trans hn13
  refine r_named (e' := .inl (gc G 0, 3, .inl (fun _ => 0))) rfl (fun M13 hM13 => ?_)
  have f13_a13 : M13 a13 = some (.inl (gc G 0, 3, .inl (fun _ => 0))) := by rw [hM13]; exact mup_s
  have f13_t : M13 t = some (.inr (5, [.ref (gad G 8), .null])) := by rw [hM13, mup_n (by first | assumption | exact Ne.symm (by assumption) | exact fun h_ => by rw [h_] at f8_t; cases f8_t.symm.trans hn13)]; exact f8_t
  have o_13 := A_8.old hn13
  have nt_13 := fun z => A_8.2.2.2 _ z hn13
  have A_13 := A_8.fresh hn13 hM13
  refine r_putF C fp_X5_20 hin f13_t (Nat.le_of_ble_eq_true rfl) rfl rfl dX5_init_15 ?_
  refine r_named (e' := .inr (5, [.ref (gad G 8), .ref a13])) rfl (fun M15 hM15 => ?_)
  have f15_t : M15 t = some (.inr (5, [.ref (gad G 8), .ref a13])) := by rw [hM15]; exact mup_s
  have f15_a13 : M15 a13 = some (.inl (gc G 0, 3, .inl (fun _ => 0))) := by rw [hM15, mup_n (by first | assumption | exact Ne.symm (by assumption) | exact fun h_ => by rw [h_] at f13_a13; cases f13_a13.symm.trans f13_t)]; exact f13_a13
  have A_15 := A_13.put (Or.inl rfl) hM15
  refine r_return C rfl dX5_init_18 ?_ rfl rfl
  refine ⟨rfl, (Blk.arrs (root := (3, k, 0)) [((3, k, 1), a13)] (List.forall_mem_cons.mpr ⟨(by simp), fun _ h => absurd h List.not_mem_nil⟩) (List.Pairwise.cons (fun q hq => absurd hq List.not_mem_nil) List.Pairwise.nil) (List.forall_mem_cons.mpr ⟨o_13, fun _ h => absurd h List.not_mem_nil⟩) (by rw [h_t]; simp) (fun a ha => ?_) (List.forall_mem_cons.mpr ⟨(fun a => f15_a13), fun _ h => absurd h List.not_mem_nil⟩) (fun q hq hL => ?_)).mono (fun i hi => ?_)⟩
  · have q_ := f15_t
    rw [show a13 = a (3, k, 1) from (ha ((3, k, 1), a13) (by simp)).symm] at q_
    exact q_
  · have ha13 : q ≠ a13 := hL ((3, k, 1), a13) (by simp)
    rw [hM15, mup_n hq, hM13, mup_n ha13, hM8, mup_n hq]
  · simpa using hi
