/-! THE START: the world that the constructor makes; THE LAW from its first instruction. -/
theorem s0_hi {f : Nat} (hf : 7 ≤ f) : Y0 (4, 0, 0) f = 0 := by
  show upd (upd (upd (upd (fun _ => 0) 0 20) 1 20) 2 10) 6 2000 f = 0
  rw [upd_n (by omega), upd_n (by omega), upd_n (by omega), upd_n (by omega)]
theorem Y0_R : RKi Y0 0 (Y0 (4, 0, 0)) := by
  refine ⟨⟨rfl, rfl, rfl, rfl⟩, ⟨rfl, rfl, rfl, rfl, rfl, rfl⟩, ⟨rfl, fun j hj => absurd hj (by rw [show nn (Y0 (4, 0, 0) 8) = 0 by decide]; exact Nat.not_lt_zero j)⟩, ⟨rfl, rfl, rfl, rfl⟩, fun j _ => ?_, fun p w hp _ => absurd hp ?_, ⟨rfl, fun p hp => absurd hp (by rw [show nn (Y0 (4, 0, 0) 15) = 0 by decide]; exact Nat.not_lt_zero p)⟩⟩
  · rw [s0_hi (by omega)]
    rfl
  · rw [show m12 (nn (Y0 (4, 0, 0) 12)) = 0 by decide]
    exact Nat.not_lt_zero p
theorem Y0_I : Inv (Y0 (4, 0, 0)) 0 0 := by
  have h15 : nn (Y0 (4, 0, 0) 15) = 0 := by decide
  refine ⟨⟨0, 0, 0, 0, rfl, by omega, rfl, by omega, rfl, by omega, rfl, by omega, fun j hj => absurd hj (Nat.not_lt_zero j)⟩, ⟨20, 20, 0, rfl, by omega, by omega, rfl, by omega, by omega, rfl, by omega, rfl⟩, ⟨10, 0, 0, 2000, rfl, by omega, rfl, by omega, rfl, by omega, rfl, by omega⟩, fun p hp => absurd hp (by rw [h15]; exact Nat.not_lt_zero p), fun p _ _ => ⟨s0_hi (by omega), s0_hi (by omega), s0_hi (by omega), s0_hi (by omega)⟩, 0, ?_, by omega⟩
  rw [h15]
  rfl
theorem Y0_S : SimE Y0 0 := by
  refine ⟨0, 0, 0, 0, ⟨Y0_R, Y0_I⟩, ⟨by omega, by omega, rfl, rfl, rfl, fun j hj => absurd hj (Nat.not_lt_zero j)⟩, ⟨rfl, fun h => absurd rfl h⟩, ⟨rfl, rfl⟩, ⟨rfl, rfl, by omega, fun j hj => absurd hj (Nat.not_lt_zero j)⟩, rfl, rfl, by omega, fun j hj => absurd hj (Nat.not_lt_zero j)⟩
theorem ClE.F {gf : Id3 → Nat} {d : Nat} : ClE gf d (fun _ => False) := fun _ h => h.elim
theorem cel0_eq {G : GT} {a : Id3 → Nat} {i : Id3} (h : i.1 ≠ 5) : cel0 G a i = cel G a (Y0 i) i := by
  unfold cel0
  split
  · exact absurd rfl h
  · exact absurd rfl h
  · rfl
theorem clT_K : ClE (fun _ => 0) 0 PKp := fun i hi => ⟨rfl, fun z _ => rfl⟩
theorem vld_P {i : Id3} (h : vld i) : False ∨ PKp i := by
  obtain ⟨t, k, j⟩ := i
  have hk : ∀ {t j : Nat}, k < 11 → PK k (t, k, j) → False ∨ PKp (t, k, j) := by
    intro t j hk hp
    have h3 : 3 ≤ k → PC (t, k, j) := fun h3 => Or.inr (Or.inr ⟨k - 3, by omega, by rw [show 3 + (k - 3) = k by omega]; exact hp⟩)
    refine Or.inr (Or.inl (Or.inl (Or.inl (Or.inl (Or.inl ?_)))))
    match k, hp, h3 with
    | 0, hp, _ => exact Or.inl (Or.inl (Or.inl (Or.inr hp)))
    | 1, hp, _ => exact Or.inl (Or.inl (Or.inr hp))
    | 2, hp, _ => exact Or.inl (Or.inr hp)
    | m + 3, hp, h3 => exact Or.inr (h3 (by omega))
  match t, h with
  | 0, h => exact hk h.1 (Or.inl ⟨rfl, rfl, h.2⟩)
  | 1, h => exact hk h.1 (Or.inr ⟨rfl, rfl, h.2⟩)
  | 2, h =>
    obtain ⟨h1, h2⟩ : k = 0 ∧ j < 7 := h
    subst h1
    refine Or.inr ?_
    match j, h2 with
    | 0, _ => exact Or.inr rfl
    | 1, _ => exact Or.inl (Or.inl (Or.inl (Or.inl (Or.inl (Or.inr (Or.inl rfl))))))
    | 2, _ => exact Or.inl (Or.inl (Or.inl (Or.inl (Or.inl (Or.inr (Or.inr (Or.inl rfl)))))))
    | 3, _ => exact Or.inl (Or.inl (Or.inl (Or.inl (Or.inr rfl))))
    | 4, _ => exact Or.inl (Or.inl (Or.inl (Or.inr rfl)))
    | 5, _ => exact Or.inl (Or.inl (Or.inr (Or.inl rfl)))
    | 6, _ => exact Or.inl (Or.inl (Or.inr (Or.inr (Or.inl rfl))))
    | m + 7, h2 => exact absurd h2 (by omega)
  | 3, h =>
    obtain ⟨h1, h2⟩ : k < 12 ∧ j < 2 := h
    refine Or.inr (Or.inl (Or.inl (Or.inr (Or.inr (Or.inr (Or.inr ⟨k, h1, ?_⟩))))))
    match j, h2 with
    | 0, _ => exact Or.inl rfl
    | 1, _ => exact Or.inr rfl
    | m + 2, h2 => exact absurd h2 (by omega)
  | 4, h => exact (show False from h).elim
  | 5, h =>
    obtain ⟨h1, h2⟩ : k = 0 ∧ j < 2 := h
    subst h1
    refine Or.inr (Or.inl ?_)
    match j, h2 with
    | 0, _ => exact Or.inl (Or.inr (Or.inr (Or.inr (Or.inl (Or.inl rfl)))))
    | 1, _ => exact Or.inr (Or.inl rfl)
    | m + 2, h2 => exact absurd h2 (by omega)
  | m + 6, h => exact (show False from h).elim
theorem P_50 : False ∨ PKp (5, 1, 0) := Or.inr (Or.inl (Or.inl (Or.inr (Or.inr (Or.inr (Or.inl (Or.inr rfl)))))))
theorem P_51 : False ∨ PKp (5, 1, 1) := Or.inr (Or.inl (Or.inr (Or.inr rfl)))
theorem Y0_isb (i : Id3) (ci f : Nat) (l : List (Nat × Id3)) (z : Id3) (ht : tpl i = .inl (ci, l)) (hf : l[f]? = some (3, z)) : isb (Y0 i f) := by
  unfold Y0
  split
  · injection ht with ht
    injection ht with _ ht
    subst ht
    rcases f with _ | _ | _ | _ | _ | _ | _ | _ | f <;> cases hf
  · injection ht with ht
    injection ht with _ ht
    subst ht
    rcases f with _ | _ | _ | _ | _ | _ | f <;> cases hf
  · injection ht with ht
    injection ht with _ ht
    subst ht
    rcases f with _ | _ | f <;> cases hf
  · cases ht
  · exact Or.inl rfl
theorem Y0_rep {G : GT} {a : Id3 → Nat} {T : Nat → Prop} {M0 M : Mem} (h : Acc G (fun i => False ∨ PKp i) T a M0 M) : RepY G a Y0 M := by
  have nq : ∀ i j, vld i → a i ≠ (if j = 0 then a (5, 1, 0) else a (5, 1, 1)) := fun i j hi e => by
    by_cases hj : j = 0
    · rw [if_pos hj] at e
      have := h.2.1 i (5, 1, 0) (vld_P hi) P_50 e
      subst this
      exact absurd (show (1 : Nat) = 0 from hi.1) (by decide)
    · rw [if_neg hj] at e
      have := h.2.1 i (5, 1, 1) (vld_P hi) P_51 e
      subst this
      exact absurd (show (1 : Nat) = 0 from hi.1) (by decide)
  refine ⟨fun i hi h5 => by rw [← cel0_eq h5]; exact (h.1 i (vld_P hi)).1, fun i j hi hj e => h.2.1 i j (vld_P hi) (vld_P hj) e, fun i ci f l z _ ht hf => Y0_isb i ci f l z ht hf, fun j => if j = 0 then a (5, 1, 0) else a (5, 1, 1), nq, fun e => ?_, fun j hj => ?_⟩
  · have e2 : a (5, 1, 0) = a (5, 1, 1) := e
    have := h.2.1 _ _ P_50 P_51 e2
    injection this with _ q
    injection q with _ q
    cases q
  · have zf : sb_Fit (fun _ => 0) := fun _ => rfl
    match j, hj with
    | 0, _ => exact ⟨16, 0, fun _ => 0, 0, (h.1 (5, 0, 0) (vld_P ⟨rfl, by decide⟩)).1, (h.1 _ P_50).1, rfl, by omega, by omega, zf, fun t ht => absurd ht (Nat.not_lt_zero t)⟩
    | 1, _ => exact ⟨16, 0, fun _ => 0, 0, (h.1 (5, 0, 1) (vld_P ⟨rfl, by decide⟩)).1, (h.1 _ P_51).1, rfl, by omega, by omega, zf, fun t ht => absurd ht (Nat.not_lt_zero t)⟩
    | m + 2, hj => exact absurd hj (by omega)
theorem cn_L_25 : CN "KilnKeeperLaw" 25 11 9 tyX12 := ⟨RX12, TX12, rfl, aw_40, aw_41, aw_15, in_TX12, tyX12_ok⟩
theorem ZD_11 : ∀ j, j < 9 → defaultValue (tyX12 j) = vp_V [.null, .null, .null, .int 0, .null, .null, .null, .null, .null] j := zd_of rfl
theorem my_X12_init : MI yX12_init cX12_init 1 0 := ⟨aw_44, aw_15, ⟨by decide, by decide, by decide +kernel⟩, aw_43, rfl⟩
theorem Y0_2 : I2 (gho Y0).1 := by
  have h15 : nn (Y0 (4, 0, 0) 15) = 0 := by decide
  refine ⟨⟨by decide, by decide +kernel, by decide +kernel⟩, by decide, fun _ => by decide, fun h => absurd (show (gho Y0).1 12 = 0 by decide) h, fun p hp => absurd (show p < nn (Y0 (4, 0, 0) 15) from hp) (by rw [h15]; exact Nat.not_lt_zero p)⟩
theorem Y0_SS : SS Y0 0 0 0 0 0 (gho Y0) := by
  refine ⟨⟨⟨Y0_R, Y0_I⟩, ⟨by omega, by omega, rfl, rfl, rfl, fun j hj => absurd hj (Nat.not_lt_zero j)⟩, ⟨rfl, fun h => absurd rfl h⟩, ⟨rfl, rfl⟩, ⟨rfl, rfl, by omega, fun j hj => absurd hj (Nat.not_lt_zero j)⟩, rfl, rfl, by omega, fun j hj => absurd hj (Nat.not_lt_zero j)⟩, rfl, rfl, rfl, rfl⟩
/-- from a walk over one map to a walk over the world -/
theorem wm_we {X : XT} {G : GT} {A : Nat → Prop} {a : Id3 → Nat} {Y : YT} {M : Mem} {k n : Nat} {Q : State → Prop} {pc : Nat} {L : List (Option Value)} {D : List (Nat × Value)} {st : List Value} (h : RepY G a Y M) (hD : ∀ q ∈ D, L[q.1]? = some (some q.2)) (kk : WE X G A a Y nilE k n Q pc D st) : WM X G A M k n Q pc L st := fun H locs ls hS hM hA hL => kk M H locs ls ⟨h, dis_nil M, hS, hM, HM_nil, hA, fun q hq => absurd rfl hq⟩ ⟨hL.1, hL.2.1, fun q hq => (hL.2.2 _ _ (hD q hq)).2⟩
/-- the kept sums, one more -/
theorem kept_step {c c' made : Nat} {g g' : GH} {r : Int32} {z : Nat → Int64} (hst : StepG c c' g g' r) (hr : 0 ≤ r) (hc : c = if made < 8 then made else 8) (hz : z made = sumS g.1) (hzj : ∀ j, j < c → z (made - c + j) = sumS (hisF g.2.1 j)) :
    c' = (if made + 1 < 8 then made + 1 else 8) ∧ ∀ j, j < c' → vp_updL z (made + 1) (sumS g'.1) (made + 1 - c' + j) = sumS (hisF g'.2.1 j) := by
  have hcm : c ≤ made ∧ c ≤ 8 := by rw [hc]; split <;> omega
  rcases hst with ⟨h, -⟩ | ⟨-, h2, h3, h4⟩
  · exact absurd (Int32.le_trans hr h) (by decide)
  · have e : c' = (if made + 1 < 8 then made + 1 else 8) ∧ 1 ≤ c' ∧ c' ≤ made + 1 := by
      rw [h2]
      unfold nxt
      by_cases h8 : made < 8
      · rw [if_pos h8] at hc
        subst hc
        rw [if_neg (by omega)]
        split <;> omega
      · rw [if_neg h8] at hc
        subst hc
        rw [if_pos rfl, if_neg (by omega)]
        omega
    obtain ⟨e1, e2, e3⟩ := e
    refine ⟨e1, fun j hj => ?_⟩
    have hne : made + 1 - c' + j ≠ made + 1 := by omega
    rw [show vp_updL z (made + 1) (sumS g'.1) (made + 1 - c' + j) = z (made + 1 - c' + j) from if_neg hne]
    by_cases hl : j + 1 < c'
    · rw [show sumS (hisF g'.2.1 j) = sumF (cutS (hisF g'.2.1 j)) from rfl, h4 j hl, ← show sumS (hisF g.2.1 (if c = 8 then j + 1 else j)) = sumF (cutS (hisF g.2.1 (if c = 8 then j + 1 else j))) from rfl]
      by_cases h8 : c = 8
      · have n8 : c' = 8 := by rw [h2]; unfold nxt; rw [if_pos h8]
        rw [if_pos h8, ← hzj (j + 1) (by omega), show made + 1 - c' + j = made - c + (j + 1) by omega]
      · have n8 : c' = c + 1 := by rw [h2]; unfold nxt; rw [if_neg h8]
        rw [if_neg h8, ← hzj j (by omega), show made + 1 - c' + j = made - c + j by omega]
    · have hj1 : j = c' - 1 := by omega
      rw [show sumS (hisF g'.2.1 j) = sumF (cutS (hisF g'.2.1 j)) from rfl, hj1, h3, show made + 1 - c' + (c' - 1) = made by omega]
      exact hz
set_option maxHeartbeats 4000000 in
set_option maxRecDepth 20000 in
theorem law_loop {X : XT} {G : GT} {A : Nat → Prop} {rt : Option FieldType} (C : CX X G A RL cL_law 10 rt room_1) (hg : gst G 5 ≤ 260) {Q : State → Prop} (a : Id3 → Nat) (ex : ∀ (Y : YT) (E : Mem) (k n : Nat) (D : List (Nat × Value)), k ≤ 600000 → n ≤ 7302249 → WE X G A a Y E k n Q 147 D [.int 1]) : WE X G A a Y0 nilE 222 2800 Q 8 [(1, .ref (a (2, 0, 0))), (0, .ref (gst G 4))] [] := by
  refine e_bipush (pc' := 10) (v := 60) rfl C dL_law_8 (by decide) ?_
  refine e_newL (pc' := 12) rfl C aw_1104 (N := 60) (by decide) rfl rfl rfl rfl dL_law_10 (fun b hb0 => ?_)
  refine e_astore_n (pc' := 13) (D' := [(2, .ref b), (1, .ref (a (2, 0, 0))), (0, .ref (gst G 4))]) rfl C dL_law_12 (by decide) rfl ?_
  refine e_iconst (pc' := 14) (v := 0) rfl C dL_law_13 (by decide) ?_
  refine e_istore_n (pc' := 15) (D' := [(3, .int 0), (2, .ref b), (1, .ref (a (2, 0, 0))), (0, .ref (gst G 4))]) rfl C dL_law_14 (by decide) rfl ?_
  refine e_aload_n (pc' := 16) (x := b) rfl C dL_law_15 rfl ?_
  refine e_iload_n (pc' := 17) (x := 0) rfl C dL_law_16 rfl ?_
  refine e_aload_n (pc' := 18) (x := (a (2, 0, 0))) rfl C dL_law_17 rfl ?_
  refine e_Sl (pc' := 21) (k' := (223 + 18)) (n' := (2860 + 3600)) rfl C (As := [.ref (a (2, 0, 0))]) (c_L_sum _ G a Y0 0 0 0 0 0 (gho Y0) Y0_SS (by decide)) my_L_sum aw_1011 rfl rfl (Nat.le_of_ble_eq_true rfl) (rok rfl rfl (show 223 + 18 ≤ 600000 by omega) (show 2860 + 3600 ≤ 7302249 by omega)) dL_law_18 rfl rfl (fun r1 Y1 hp1 => ?_)
  obtain ⟨hr1, l1, hS1⟩ := hp1
  rw [hr1]
  have eb : (mup nilE b (.inl (gc G 5, 60, .inr (.inl (fun _ => 0))))) b = some (.inl (gc G 5, 60, .inr (.inl (fun _ => 0)))) := mup_s
  refine e_last (pc' := 22) rfl C eb (vp_in_nI (n := 0) (N := 60) (by decide) (by decide)) dL_law_21 ?_
  rw [mup_mup]
  refine e_iconst (pc' := 23) (v := 0) rfl C dL_law_22 (by decide) ?_
  refine e_istore (pc' := 25) (D' := [(4, .int 0), (3, .int 0), (2, .ref b), (1, .ref (a (2, 0, 0))), (0, .ref (gst G 4))]) rfl C dL_law_23 (by decide) rfl ?_
  refine e_iconst (pc' := 26) (v := 0) rfl C dL_law_25 (by decide) ?_
  refine e_istore (pc' := 28) (D' := [(5, .int 0), (4, .int 0), (3, .int 0), (2, .ref b), (1, .ref (a (2, 0, 0))), (0, .ref (gst G 4))]) rfl C dL_law_26 (by decide) rfl ?_
  refine e_D (D' := [(5, .int (nI 0)), (4, .int (nI (5 * 0))), (3, .int (nI 0)), (2, .ref b), (1, .ref (a (2, 0, 0))), (0, .ref (gst G 4))]) (List.forall_mem_cons.mpr ⟨rfl, List.forall_mem_cons.mpr ⟨rfl, List.forall_mem_cons.mpr ⟨rfl, List.forall_mem_cons.mpr ⟨rfl, List.forall_mem_cons.mpr ⟨rfl, List.forall_mem_cons.mpr ⟨rfl, fun _ h => absurd h List.not_mem_nil⟩⟩⟩⟩⟩⟩) ?_
  refine e_wid (k' := 241 + 117 * 0) (n' := 6460 + 22052 * 0) (Nat.le_refl _) (Nat.le_refl _) ?_
  refine nat_loop (P := fun i28 => ∀ (Y2 : YT) (c s l made : Nat) (g : GH) (z2 : Nat → Int64), SS Y2 (12 * i28) c s 0 l g → I2 g.1 → made ≤ i28 → c = (if made < 8 then made else 8) → z2 made = sumS g.1 → (∀ j, j < c → z2 (made - c + j) = sumS (hisF g.2.1 j)) → WE X G A a Y2 (mup nilE b (.inl (gc G 5, 60, .inr (.inl z2)))) (241 + 117 * i28) (6460 + 22052 * i28) Q 28 [(5, .int (nI i28)), (4, .int (nI (5 * i28))), (3, .int (nI made)), (2, .ref b), (1, .ref (a (2, 0, 0))), (0, .ref (gst G 4))] []) (B := 50) (fun i28 hi28 ih28 => ?_) ?_ 0 (by omega) Y1 0 0 l1 0 (gho Y0) _ hS1 Y0_2 (Nat.le_refl _) rfl rfl (fun j hj => absurd hj (Nat.not_lt_zero j))
  · intro Y2 c s l made g z2 hS2 h2 hmd hc hz hzj
    refine e_iload (pc' := 30) (x := (nI i28)) rfl C dL_law_28 rfl ?_
    refine e_bipush (pc' := 32) (v := 50) rfl C dL_law_30 (by decide) ?_
    refine e_ic_geF (pc' := 35) (tgt := 141) rfl C dL_law_32 (by decide) (show ¬ nI 50 ≤ nI i28 from nnle hi28 (by decide)) ?_
    refine e_aload_n (pc' := 36) (x := (a (2, 0, 0))) rfl C dL_law_35 rfl ?_
    refine e_Sl (pc' := 39) (k' := ((241 + 117 * i28) + 18)) (n' := ((6460 + 22052 * i28) + 3600)) rfl C (As := [.ref (a (2, 0, 0))]) (c_L_sum _ G a Y2 (12 * i28) c s 0 l g hS2 (by omega)) my_L_sum aw_1011 rfl rfl (Nat.le_of_ble_eq_true rfl) (rok rfl rfl (show (241 + 117 * i28) + 18 ≤ 600000 by omega) (show (6460 + 22052 * i28) + 3600 ≤ 7302249 by omega)) dL_law_36 rfl rfl (fun r3 Y3 hp3 => ?_)
    obtain ⟨hr3, l3, hS3⟩ := hp3
    rw [hr3]
    refine e_lstore (pc' := 41) (D' := [(6, .long (sumS g.1)), (5, .int (nI i28)), (4, .int (nI (5 * i28))), (3, .int (nI made)), (2, .ref b), (1, .ref (a (2, 0, 0))), (0, .ref (gst G 4))]) rfl C dL_law_39 (by decide) rfl ?_
    refine e_aload_n (pc' := 42) (x := (a (2, 0, 0))) rfl C dL_law_41 rfl ?_
    refine e_bipush (pc' := 44) (v := 17) rfl C dL_law_42 (by decide) ?_
    refine e_q (pc' := 47) (k' := ((241 + 117 * i28) + 18)) (n' := ((6460 + 22052 * i28) + 3600)) rfl C (q_account _ G a hS3 17 (R := (nI c)) acc_17) my_X12_account aw_335 rfl rfl rfl (Nat.le_of_ble_eq_true rfl) (rok rfl rfl (show ((241 + 117 * i28) + 18) + 0 ≤ 600000 by omega) (show ((6460 + 22052 * i28) + 3600) + 0 ≤ 7302249 by omega)) dL_law_44 rfl rfl ?_
    refine e_istore (pc' := 49) (D' := [(8, .int (nI c)), (6, .long (sumS g.1)), (5, .int (nI i28)), (4, .int (nI (5 * i28))), (3, .int (nI made)), (2, .ref b), (1, .ref (a (2, 0, 0))), (0, .ref (gst G 4))]) rfl C dL_law_47 (by decide) rfl ?_
    refine e_aload_n (pc' := 50) (x := (gst G 4)) rfl C dL_law_49 rfl ?_
    refine e_iload (pc' := 52) (x := (nI (5 * i28))) rfl C dL_law_50 rfl ?_
    refine e_aload_n (pc' := 53) (x := (gst G 4)) rfl C dL_law_52 rfl ?_
    refine e_iload (pc' := 55) (x := (nI (5 * i28))) rfl C dL_law_53 rfl ?_
    refine e_bipush (pc' := 57) (v := 22) rfl C dL_law_55 (by decide) ?_
    refine e_Si (pc' := 60) (k' := (((241 + 117 * i28) + 18) + 0)) (n' := (((6460 + 22052 * i28) + 3600) + 0)) rfl C (As := [.ref (gst G 4), .int (nI (5 * i28)), .int (nI 22)]) (c_L_pick _ G a Y3 (5 * i28) 22 (by omega) hg (by decide) (by decide)) my_L_pick aw_370 rfl rfl (Nat.le_of_ble_eq_true rfl) (rok rfl rfl (show ((241 + 117 * i28) + 18) + 0 ≤ 600000 by omega) (show ((6460 + 22052 * i28) + 3600) + 0 ≤ 7302249 by omega)) dL_law_57 rfl rfl (fun rp Yp hp => ?_)
    obtain ⟨hYp, kd, hkd, hrp⟩ := hp
    subst hrp
    cases hYp
    refine e_aload_n (pc' := 61) (x := (a (2, 0, 0))) rfl C dL_law_60 rfl ?_
    refine e_Si (pc' := 64) (k' := ((((241 + 117 * i28) + 18) + 0) + 80)) (n' := ((((6460 + 22052 * i28) + 3600) + 0) + 14848)) rfl C (As := [.ref (gst G 4), .int (nI (5 * i28)), .int (nI kd), .ref (a (2, 0, 0))]) (c_L_does _ G a Y3 (12 * i28) c s l3 g (5 * i28) kd hS3 (by omega) h2 (by omega) hkd hg) my_L_does aw_377 rfl rfl (Nat.le_of_ble_eq_true rfl) (rok rfl rfl (show (((241 + 117 * i28) + 18) + 0) + 80 ≤ 600000 by omega) (show (((6460 + 22052 * i28) + 3600) + 0) + 14848 ≤ 7302249 by omega)) dL_law_61 rfl rfl (fun r Y4 hDP => ?_)
    obtain ⟨hne, c', s', l', g', hS4, h2', hst⟩ := hDP
    refine e_istore (pc' := 66) (D' := [(9, .int r), (8, .int (nI c)), (6, .long (sumS g.1)), (5, .int (nI i28)), (4, .int (nI (5 * i28))), (3, .int (nI made)), (2, .ref b), (1, .ref (a (2, 0, 0))), (0, .ref (gst G 4))]) rfl C dL_law_64 (by decide) rfl ?_
    refine e_iinc (pc' := 69) (j := 4) (v := (nI (5 * (i28 + 1)))) (D' := [(4, .int (nI (5 * (i28 + 1)))), (9, .int r), (8, .int (nI c)), (6, .long (sumS g.1)), (5, .int (nI i28)), (3, .int (nI made)), (2, .ref b), (1, .ref (a (2, 0, 0))), (0, .ref (gst G 4))]) rfl C dL_law_66 rfl (nI_add (5 * i28) 5) (by decide) rfl ?_
    refine e_iload (pc' := 71) (x := r) rfl C dL_law_69 rfl ?_
    refine e_ldc (pc' := 73) (v := (-1010002)) rfl C aw_1010 dL_law_71 ?_
    refine e_ic_eqF (pc' := 76) (tgt := 83) rfl C dL_law_73 (by decide) hne ?_
    refine e_aload_n (pc' := 77) (x := (a (2, 0, 0))) rfl C dL_law_76 rfl ?_
    refine e_Si (pc' := 80) (k' := (((((241 + 117 * i28) + 18) + 0) + 80) + 1)) (n' := (((((6460 + 22052 * i28) + 3600) + 0) + 14848) + 4)) rfl C (As := [.ref (a (2, 0, 0))]) (c_L_isWhole _ G a Y4 (12 * i28 + 12) c' s' 0 l' g' hS4 (by omega) h2') my_L_isWhole aw_1028 rfl rfl (Nat.le_of_ble_eq_true rfl) (rok rfl rfl (show ((((241 + 117 * i28) + 18) + 0) + 80) + 1 ≤ 600000 by omega) (show ((((6460 + 22052 * i28) + 3600) + 0) + 14848) + 4 ≤ 7302249 by omega)) dL_law_77 rfl rfl (fun rw_ Y5 hw => ?_)
    obtain ⟨hrw, l5, hS5⟩ := hw
    rw [hrw]
    refine e_if_neT (tgt := 85) C dL_law_80 (by decide) (by decide) ?_
    refine e_iload (pc' := 87) (x := r) rfl C dL_law_85 rfl ?_
    refine e_sipush (pc' := 90) (v := (-10001)) rfl C dL_law_87 (by decide) ?_
    refine e_ic_gt (pc' := 93) (tgt := 125) rfl C dL_law_90 (by decide) (fun c_90 => ?_) (fun c_90 => ?_)
    · have hr0 : 0 ≤ r := by
        rcases hst with ⟨h, -⟩ | ⟨h, -⟩
        · exact absurd c_90 (Int32.not_lt.mpr h)
        · exact h
      obtain ⟨hc', hzj'⟩ := kept_step hst hr0 hc hz hzj
      refine e_iinc (pc' := 128) (j := 5) (v := (nI (made + 1))) (D' := [(3, .int (nI (made + 1))), (4, .int (nI (5 * (i28 + 1)))), (9, .int r), (8, .int (nI c)), (6, .long (sumS g.1)), (5, .int (nI i28)), (2, .ref b), (1, .ref (a (2, 0, 0))), (0, .ref (gst G 4))]) rfl C dL_law_125 rfl (nI_1 _) (by decide) rfl ?_
      refine e_aload_n (pc' := 129) (x := b) rfl C dL_law_128 rfl ?_
      refine e_iload_n (pc' := 130) (x := (nI (made + 1))) rfl C dL_law_129 rfl ?_
      refine e_aload_n (pc' := 131) (x := (a (2, 0, 0))) rfl C dL_law_130 rfl ?_
      refine e_Sl (pc' := 134) (k' := ((((((241 + 117 * i28) + 18) + 0) + 80) + 1) + 18)) (n' := ((((((6460 + 22052 * i28) + 3600) + 0) + 14848) + 4) + 3600)) rfl C (As := [.ref (a (2, 0, 0))]) (c_L_sum _ G a Y5 (12 * i28 + 12) c' s' 0 l5 g' hS5 (by omega)) my_L_sum aw_1011 rfl rfl (Nat.le_of_ble_eq_true rfl) (rok rfl rfl (show (((((241 + 117 * i28) + 18) + 0) + 80) + 1) + 18 ≤ 600000 by omega) (show (((((6460 + 22052 * i28) + 3600) + 0) + 14848) + 4) + 3600 ≤ 7302249 by omega)) dL_law_131 rfl rfl (fun r6 Y6 hp6 => ?_)
      obtain ⟨hr6, l6, hS6⟩ := hp6
      rw [hr6]
      have eb2 : (mup nilE b (.inl (gc G 5, 60, .inr (.inl z2)))) b = some (.inl (gc G 5, 60, .inr (.inl z2))) := mup_s
      refine e_last (pc' := 135) rfl C eb2 (vp_in_nI (n := made + 1) (by omega) (by decide)) dL_law_134 ?_
      rw [mup_mup, nI_clamp (n := made + 1) (by omega)]
      refine e_iinc (pc' := 138) (j := 5) (v := (nI (i28 + 1))) (D' := [(5, .int (nI (i28 + 1))), (3, .int (nI (made + 1))), (4, .int (nI (5 * (i28 + 1)))), (9, .int r), (8, .int (nI c)), (6, .long (sumS g.1)), (2, .ref b), (1, .ref (a (2, 0, 0))), (0, .ref (gst G 4))]) rfl C dL_law_135 rfl (nI_1 _) (by decide) rfl ?_
      refine e_goto (tgt := 28) C dL_law_138 (by decide) ?_
      refine e_D (D' := [(5, .int (nI (i28 + 1))), (4, .int (nI (5 * (i28 + 1)))), (3, .int (nI (made + 1))), (2, .ref b), (1, .ref (a (2, 0, 0))), (0, .ref (gst G 4))]) (List.forall_mem_cons.mpr ⟨rfl, List.forall_mem_cons.mpr ⟨rfl, List.forall_mem_cons.mpr ⟨rfl, List.forall_mem_cons.mpr ⟨rfl, List.forall_mem_cons.mpr ⟨rfl, List.forall_mem_cons.mpr ⟨rfl, fun _ h => absurd h List.not_mem_nil⟩⟩⟩⟩⟩⟩) ?_
      refine e_wid (k' := 241 + 117 * (i28 + 1)) (n' := 6460 + 22052 * (i28 + 1)) (by omega) (by omega) ?_
      exact ih28 Y6 c' s' l6 (made + 1) g' _ hS6 h2' (by omega) hc' (if_pos rfl) hzj'
    · have hrf : c' = c ∧ g'.1 = g.1 ∧ g'.2.1 = g.2.1 := by
        rcases hst with ⟨-, h⟩ | ⟨h, -⟩
        · exact h
        · exact absurd (show (-10001 : Int32) < r from Int32.lt_of_lt_of_le (by decide) h) c_90
      obtain ⟨hcc, hg1, hg2⟩ := hrf
      subst hcc
      refine e_aload_n (pc' := 94) (x := (a (2, 0, 0))) rfl C dL_law_93 rfl ?_
      refine e_Sl (pc' := 97) (k' := ((((((241 + 117 * i28) + 18) + 0) + 80) + 1) + 18)) (n' := ((((((6460 + 22052 * i28) + 3600) + 0) + 14848) + 4) + 3600)) rfl C (As := [.ref (a (2, 0, 0))]) (c_L_sum _ G a Y5 (12 * i28 + 12) c' s' 0 l5 g' hS5 (by omega)) my_L_sum aw_1011 rfl rfl (Nat.le_of_ble_eq_true rfl) (rok rfl rfl (show (((((241 + 117 * i28) + 18) + 0) + 80) + 1) + 18 ≤ 600000 by omega) (show (((((6460 + 22052 * i28) + 3600) + 0) + 14848) + 4) + 3600 ≤ 7302249 by omega)) dL_law_94 rfl rfl (fun r6 Y6 hp6 => ?_)
      obtain ⟨hr6, l6, hS6⟩ := hp6
      rw [hr6]
      rw [hg1]
      refine e_lload (pc' := 99) (x := (sumS g.1)) rfl C dL_law_97 rfl ?_
      refine e_lcmp (pc' := 100) rfl C dL_law_99 ?_
      refine e_top (y := 0) (lgc_self _) ?_
      refine e_if_neF (pc' := 103) (tgt := 123) rfl C dL_law_100 (by decide) rfl ?_
      refine e_aload_n (pc' := 104) (x := (a (2, 0, 0))) rfl C dL_law_103 rfl ?_
      refine e_bipush (pc' := 106) (v := 17) rfl C dL_law_104 (by decide) ?_
      refine e_q (pc' := 109) (k' := ((((((241 + 117 * i28) + 18) + 0) + 80) + 1) + 18)) (n' := ((((((6460 + 22052 * i28) + 3600) + 0) + 14848) + 4) + 3600)) rfl C (q_account _ G a hS6 17 (R := (nI c')) acc_17) my_X12_account aw_335 rfl rfl rfl (Nat.le_of_ble_eq_true rfl) (rok rfl rfl (show ((((((241 + 117 * i28) + 18) + 0) + 80) + 1) + 18) + 0 ≤ 600000 by omega) (show ((((((6460 + 22052 * i28) + 3600) + 0) + 14848) + 4) + 3600) + 0 ≤ 7302249 by omega)) dL_law_106 rfl rfl ?_
      refine e_iload (pc' := 111) (x := (nI c')) rfl C dL_law_109 rfl ?_
      refine e_ic_neF (pc' := 114) (tgt := 123) rfl C dL_law_111 (by decide) rfl ?_
      refine e_aload_n (pc' := 115) (x := (a (2, 0, 0))) rfl C dL_law_114 rfl ?_
      refine e_bipush (pc' := 117) (v := 16) rfl C dL_law_115 (by decide) ?_
      refine e_q (pc' := 120) (k' := ((((((241 + 117 * i28) + 18) + 0) + 80) + 1) + 18)) (n' := ((((((6460 + 22052 * i28) + 3600) + 0) + 14848) + 4) + 3600)) rfl C (q_account _ G a hS6 16 (R := (nI 0)) acc_16) my_X12_account aw_335 rfl rfl rfl (Nat.le_of_ble_eq_true rfl) (rok rfl rfl (show ((((((241 + 117 * i28) + 18) + 0) + 80) + 1) + 18) + 0 ≤ 600000 by omega) (show ((((((6460 + 22052 * i28) + 3600) + 0) + 14848) + 4) + 3600) + 0 ≤ 7302249 by omega)) dL_law_117 rfl rfl ?_
      refine e_if_eqT (tgt := 135) C dL_law_120 (by decide) rfl ?_
      refine e_iinc (pc' := 138) (j := 4) (v := (nI (i28 + 1))) (D' := [(5, .int (nI (i28 + 1))), (4, .int (nI (5 * (i28 + 1)))), (9, .int r), (8, .int (nI c')), (6, .long (sumS g.1)), (3, .int (nI made)), (2, .ref b), (1, .ref (a (2, 0, 0))), (0, .ref (gst G 4))]) rfl C dL_law_135 rfl (nI_1 _) (by decide) rfl ?_
      refine e_goto (tgt := 28) C dL_law_138 (by decide) ?_
      refine e_D (D' := [(5, .int (nI (i28 + 1))), (4, .int (nI (5 * (i28 + 1)))), (3, .int (nI made)), (2, .ref b), (1, .ref (a (2, 0, 0))), (0, .ref (gst G 4))]) (List.forall_mem_cons.mpr ⟨rfl, List.forall_mem_cons.mpr ⟨rfl, List.forall_mem_cons.mpr ⟨rfl, List.forall_mem_cons.mpr ⟨rfl, List.forall_mem_cons.mpr ⟨rfl, List.forall_mem_cons.mpr ⟨rfl, fun _ h => absurd h List.not_mem_nil⟩⟩⟩⟩⟩⟩) ?_
      refine e_wid (k' := 241 + 117 * (i28 + 1)) (n' := 6460 + 22052 * (i28 + 1)) (by omega) (by omega) ?_
      exact ih28 Y6 c' s' l6 made g' _ hS6 h2' (by omega) hc (by rw [hg1]; exact hz) (fun j hj => by rw [hg2]; exact hzj j hj)
  · intro Y2 c s l made g z2 hS2 h2 hmd hc hz hzj
    refine e_iload (pc' := 30) (x := (nI 50)) rfl C dL_law_28 rfl ?_
    refine e_bipush (pc' := 32) (v := 50) rfl C dL_law_30 (by decide) ?_
    refine e_ic_geT (tgt := 141) C dL_law_32 (by decide) (show nI 50 ≤ nI 50 from Int32.le_refl _) ?_
    refine e_aload_n (pc' := 142) (x := (a (2, 0, 0))) rfl C dL_law_141 rfl ?_
    refine e_aload_n (pc' := 143) (x := b) rfl C dL_law_142 rfl ?_
    refine e_iload_n (pc' := 144) (x := (nI made)) rfl C dL_law_143 rfl ?_
    have eb2 : (mup nilE b (.inl (gc G 5, 60, .inr (.inl z2)))) b = some (.inl (gc G 5, 60, .inr (.inl z2))) := mup_s
    refine e_cX (pc' := 147) (k' := ((241 + 117 * 50) + 162)) (n' := ((6460 + 22052 * 50) + 32400)) rfl C (As := [.ref (a (2, 0, 0)), .ref b, .int (nI made)]) (c_L_isKept _ G a Y2 _ (12 * 50) c s l g b made z2 hS2 (by decide) eb2 hmd hc hz hzj) my_L_isKept aw_1085 rfl rfl (Nat.le_of_ble_eq_true rfl) (rok rfl rfl (show (241 + 117 * 50) + 162 ≤ 600000 by omega) (show (6460 + 22052 * 50) + 32400 ≤ 7302249 by omega)) dL_law_144 rfl rfl (fun vv Y7 hp => ?_)
    obtain ⟨r7, hvv, hr7⟩ := hp
    rw [hvv, hr7]
    exact ex Y7 _ _ _ _ (by decide) (by decide)
set_option maxHeartbeats 4000000 in
set_option maxRecDepth 20000 in
theorem law_run {X : XT} {G : GT} {A : Nat → Prop} {rt : Option FieldType} (C : CX X G A RL cL_law 10 rt room_1) (hg : gst G 5 ≤ 260) {Q : State → Prop} (ex : ∀ (a : Id3 → Nat) (Y : YT) (E : Mem) (k n : Nat) (D : List (Nat × Value)), k ≤ 600000 → n ≤ 7302249 → WE X G A a Y E k n Q 147 D [.int 1]) : WM X G A (fun _ => none) 0 0 Q 0 (argL [.ref (gst G 4)] 10) [] := by
  have A_0 : Acc G (fun _ => False) (fun _ => False) (fun _ => 0) (fun _ => none) (fun _ => none) := Acc.nil (fun q hq => hq.elim)
  refine r_new C cn_L_25 (fs := [.null, .null, .null, .int 0, .null, .null, .null, .null, .null]) ZD_11 rfl rfl dL_law_0 (fun a0 hn0 => ?_)
  refine r_named (e' := .inr (11, [.null, .null, .null, .int 0, .null, .null, .null, .null, .null])) rfl (fun M0 hM0 => ?_)
  have f0 : M0 a0 = some (.inr (11, [.null, .null, .null, .int 0, .null, .null, .null, .null, .null])) := by rw [hM0]; exact mup_s
  refine r_dup C dL_law_3 rfl ?_
  refine r_cI C (j_X12_init _ G M0 a0 f0) my_X12_init aw_42 rfl rfl (Nat.le_of_ble_eq_true rfl) rfl dL_law_4 (r_void fun M4 hp4 => ?_)
  obtain ⟨b4, A_4, r4, e4, x4⟩ := Acc.sub (root := (2, 0, 0)) A_0 hn0 hM0 hp4 (Or.inr rfl) (fun _ => 0) 0 clT_K ClN.F
  refine r_astore_n C dL_law_7 (by decide) ?_
  refine r_widen (k' := 222) (n' := 2800) (Nat.le_of_ble_eq_true rfl) (Nat.le_of_ble_eq_true rfl) ?_
  refine wm_we (D := [(1, .ref (b4 (2, 0, 0))), (0, .ref (gst G 4))]) (Y0_rep A_4) (fun q hq => ?_) (law_loop C hg b4 (ex b4))
  rcases List.mem_cons.mp hq with rfl | hq
  · show _ = some (some (Value.ref (b4 (2, 0, 0))))
    rw [r4]
    rfl
  · rcases List.mem_cons.mp hq with rfl | hq
    · rfl
    · cases hq
