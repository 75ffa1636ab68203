theorem in_TX13 : ∀ w ∈ u_ws RX13 TX13 20, w ∈ AW := List.forall_mem_cons.mpr ⟨aw_1063, List.forall_mem_cons.mpr ⟨aw_1065, List.forall_mem_cons.mpr ⟨aw_1067, List.forall_mem_cons.mpr ⟨aw_1069, List.forall_mem_cons.mpr ⟨aw_1071, List.forall_mem_cons.mpr ⟨aw_1073, List.forall_mem_cons.mpr ⟨aw_1075, List.forall_mem_cons.mpr ⟨aw_1077, List.forall_mem_cons.mpr ⟨aw_1079, List.forall_mem_cons.mpr ⟨aw_1081, List.forall_mem_cons.mpr ⟨aw_1083, List.forall_mem_cons.mpr ⟨aw_1085, List.forall_mem_cons.mpr ⟨aw_1087, List.forall_mem_cons.mpr ⟨aw_1089, List.forall_mem_cons.mpr ⟨aw_1091, List.forall_mem_cons.mpr ⟨aw_1093, List.forall_mem_cons.mpr ⟨aw_1095, List.forall_mem_cons.mpr ⟨aw_1097, List.forall_mem_cons.mpr ⟨aw_1099, List.forall_mem_cons.mpr ⟨aw_1101, fun _ h => absurd h List.not_mem_nil⟩⟩⟩⟩⟩⟩⟩⟩⟩⟩⟩⟩⟩⟩⟩⟩⟩⟩⟩⟩
theorem fl_X13_7 : FLK "KilnKeeperModel" 7 12 0 := ⟨RX13, TX13, 20, rfl, by decide, aw_1043, in_TX13⟩
theorem fl_X13_13 : FLK "KilnKeeperModel" 13 12 1 := ⟨RX13, TX13, 20, rfl, by decide, aw_1044, in_TX13⟩
theorem fl_X13_19 : FLK "KilnKeeperModel" 19 12 3 := ⟨RX13, TX13, 20, rfl, by decide, aw_1046, in_TX13⟩
theorem fp_X13_38 : FLP "KilnKeeperModel" 38 12 14 .int false := ⟨RX13, TX13, 20, tyX13, rfl, by decide, aw_1057, in_TX13, tyX13_ok, nmX13, rfl, rfl, fun h => by first | exact rfl | cases h⟩
theorem fp_X13_41 : FLP "KilnKeeperModel" 41 12 15 .int false := ⟨RX13, TX13, 20, tyX13, rfl, by decide, aw_1058, in_TX13, tyX13_ok, nmX13, rfl, rfl, fun h => by first | exact rfl | cases h⟩
theorem nw_90 : (Cond.methodLinkNest "KilnKeeper" (9 : Nat) ({ cls := "KilnKeeper$Kiln", name := "<init>", desc := "()V" } : MethodName) "KilnKeeper") ∈ NW := List.mem_filter.mpr ⟨at_90, rfl⟩
theorem nw_268 : (Cond.methodLinkNest "KilnKeeper" (35 : Nat) ({ cls := "KilnKeeper$Refusal", name := "<init>", desc := "()V" } : MethodName) "KilnKeeper") ∈ NW := List.mem_filter.mpr ⟨at_268, rfl⟩
theorem nw_403 : (Cond.methodLinkNest "KilnKeeper$Book" (31 : Nat) ({ cls := "KilnKeeper", name := "copyRow", desc := "([I[I)V" } : MethodName) "KilnKeeper") ∈ NW := List.mem_filter.mpr ⟨at_403, rfl⟩
theorem nw_491 : (Cond.methodLinkNest "KilnKeeper$Book" (35 : Nat) ({ cls := "KilnKeeper", name := "isFrom", desc := "(III)Z" } : MethodName) "KilnKeeper") ∈ NW := List.mem_filter.mpr ⟨at_491, rfl⟩
theorem nw_535 : (Cond.methodLinkNest "KilnKeeper$Book" (45 : Nat) ({ cls := "KilnKeeper", name := "numberAt", desc := "([II)I" } : MethodName) "KilnKeeper") ∈ NW := List.mem_filter.mpr ⟨at_535, rfl⟩
theorem nw_536 : (Cond.methodLinkNest "KilnKeeper$Book" (49 : Nat) ({ cls := "KilnKeeper", name := "setNumberAt", desc := "([III)V" } : MethodName) "KilnKeeper") ∈ NW := List.mem_filter.mpr ⟨at_536, rfl⟩
theorem nw_254 : (Cond.methodLinkNest "KilnKeeper$Changes" (24 : Nat) ({ cls := "KilnKeeper$Kiln", name := "<init>", desc := "()V" } : MethodName) "KilnKeeper") ∈ NW := List.mem_filter.mpr ⟨at_254, rfl⟩
theorem nw_96 : (Cond.methodLinkNest "KilnKeeper$Kiln" (26 : Nat) ({ cls := "KilnKeeper$Regulator", name := "<init>", desc := "()V" } : MethodName) "KilnKeeper") ∈ NW := List.mem_filter.mpr ⟨at_96, rfl⟩
theorem nw_123 : (Cond.methodLinkNest "KilnKeeper$Kiln" (33 : Nat) ({ cls := "KilnKeeper$LagRow", name := "<init>", desc := "()V" } : MethodName) "KilnKeeper") ∈ NW := List.mem_filter.mpr ⟨at_123, rfl⟩
theorem nw_138 : (Cond.methodLinkNest "KilnKeeper$Kiln" (40 : Nat) ({ cls := "KilnKeeper$Book", name := "<init>", desc := "()V" } : MethodName) "KilnKeeper") ∈ NW := List.mem_filter.mpr ⟨at_138, rfl⟩
theorem nw_420 : (Cond.methodLinkNest "KilnKeeper$Kiln" (65 : Nat) ({ cls := "KilnKeeper", name := "isFrom", desc := "(III)Z" } : MethodName) "KilnKeeper") ∈ NW := List.mem_filter.mpr ⟨at_420, rfl⟩
theorem nw_527 : (Cond.methodLinkNest "KilnKeeper$Kiln" (100 : Nat) ({ cls := "KilnKeeper", name := "between", desc := "(III)I" } : MethodName) "KilnKeeper") ∈ NW := List.mem_filter.mpr ⟨at_527, rfl⟩
theorem nw_396 : (Cond.methodLinkNest "KilnKeeper$LagRow" (19 : Nat) ({ cls := "KilnKeeper", name := "copyRow", desc := "([I[I)V" } : MethodName) "KilnKeeper") ∈ NW := List.mem_filter.mpr ⟨at_396, rfl⟩
theorem nw_477 : (Cond.methodLinkNest "KilnKeeper$LagRow" (23 : Nat) ({ cls := "KilnKeeper", name := "numberAt", desc := "([II)I" } : MethodName) "KilnKeeper") ∈ NW := List.mem_filter.mpr ⟨at_477, rfl⟩
theorem nw_480 : (Cond.methodLinkNest "KilnKeeper$LagRow" (31 : Nat) ({ cls := "KilnKeeper", name := "setNumberAt", desc := "([III)V" } : MethodName) "KilnKeeper") ∈ NW := List.mem_filter.mpr ⟨at_480, rfl⟩
theorem nw_176 : (Cond.methodLinkNest "KilnKeeper$Rack" (21 : Nat) ({ cls := "KilnKeeper$Pot", name := "<init>", desc := "()V" } : MethodName) "KilnKeeper") ∈ NW := List.mem_filter.mpr ⟨at_176, rfl⟩
theorem nw_567 : (Cond.methodLinkNest "KilnKeeper$Rack" (30 : Nat) ({ cls := "KilnKeeper", name := "isFrom", desc := "(III)Z" } : MethodName) "KilnKeeper") ∈ NW := List.mem_filter.mpr ⟨at_567, rfl⟩
theorem nw_322 : (Cond.methodLinkNest "KilnKeeper$Reader" (24 : Nat) ({ cls := "KilnKeeper$Order", name := "<init>", desc := "()V" } : MethodName) "KilnKeeper") ∈ NW := List.mem_filter.mpr ⟨at_322, rfl⟩
theorem nw_687 : (Cond.methodLinkNest "KilnKeeper$Reader" (33 : Nat) ({ cls := "KilnKeeper", name := "isFrom", desc := "(III)Z" } : MethodName) "KilnKeeper") ∈ NW := List.mem_filter.mpr ⟨at_687, rfl⟩
theorem nw_860 : (Cond.methodLinkNest "KilnKeeper$Reader" (101 : Nat) ({ cls := "KilnKeeper", name := "setNumberAt", desc := "([III)V" } : MethodName) "KilnKeeper") ∈ NW := List.mem_filter.mpr ⟨at_860, rfl⟩
theorem nw_448 : (Cond.methodLinkNest "KilnKeeper$Regulator" (30 : Nat) ({ cls := "KilnKeeper", name := "isFrom", desc := "(III)Z" } : MethodName) "KilnKeeper") ∈ NW := List.mem_filter.mpr ⟨at_448, rfl⟩
theorem nw_458 : (Cond.methodLinkNest "KilnKeeper$Regulator" (40 : Nat) ({ cls := "KilnKeeper", name := "between", desc := "(III)I" } : MethodName) "KilnKeeper") ∈ NW := List.mem_filter.mpr ⟨at_458, rfl⟩
-- KilnKeeperModel.in 
set_option maxHeartbeats 1000000 in
set_option maxRecDepth 20000 in
theorem c_X13_in (l : Launch) (G : GT) (a : Id3 → Nat) (Y : YT) (v lo hi : Int32)   : CtY l G a yX13_in cX13_in 3 (some .boolean) ({ frames := 0, cells := 0, slots := 0, locals := 0 } : Room) [.int v, .int lo, .int hi] Y (PI (fun r Y' => r = bi (lo ≤ v ∧ v ≤ hi) ∧ Y' = Y)) := by
  refine CtY.of (by decide) rfl (Nat.le_of_ble_eq_true rfl) ?_
  intro X A C hl
  subst hl
  refine y_iload_n (pc' := 1) rfl C dX13_in_0 rfl ?_
  refine y_iload_n (pc' := 2) rfl C dX13_in_1 rfl ?_
  refine y_ic_lt (pc' := 5) rfl (tgt := 14) C dX13_in_2 (by decide) (fun c_2 => ?_) (fun c_2 => ?_)
  · refine y_iconst (pc' := 15) rfl (v := 0) C dX13_in_14 (by decide) ?_
    refine y_ireturn C rfl (by first | rfl | exact nb_narrow (by assumption)) dX13_in_15 rfl rfl ?_
    exact ⟨(bi_f (fun h => absurd c_2 (Int32.not_lt.mpr h.1))).symm, rfl⟩
  · refine y_iload_n (pc' := 6) rfl C dX13_in_5 rfl ?_
    refine y_iload_n (pc' := 7) rfl C dX13_in_6 rfl ?_
    refine y_ic_gt (pc' := 10) rfl (tgt := 14) C dX13_in_7 (by decide) (fun c_7 => ?_) (fun c_7 => ?_)
    · refine y_iconst (pc' := 15) rfl (v := 0) C dX13_in_14 (by decide) ?_
      refine y_ireturn C rfl (by first | rfl | exact nb_narrow (by assumption)) dX13_in_15 rfl rfl ?_
      exact ⟨(bi_f (fun h => absurd c_7 (Int32.not_lt.mpr h.2))).symm, rfl⟩
    · refine y_iconst (pc' := 11) rfl (v := 1) C dX13_in_10 (by decide) ?_
      refine y_goto (tgt := 15) C dX13_in_11 (by decide) ?_
      refine y_ireturn C rfl (by first | rfl | exact nb_narrow (by assumption)) dX13_in_15 rfl rfl ?_
      exact ⟨(bi_t ⟨nlt_le c_2, nlt_le c_7⟩).symm, rfl⟩
-- KilnKeeperModel.between 
set_option maxHeartbeats 1000000 in
set_option maxRecDepth 20000 in
theorem c_X13_between (l : Launch) (G : GT) (a : Id3 → Nat) (Y : YT) (v lo hi : Int32)   : CtY l G a yX13_between cX13_between 3 (some .int) ({ frames := 0, cells := 0, slots := 0, locals := 0 } : Room) [.int v, .int lo, .int hi] Y (PI (fun r Y' => r = clampI v lo hi ∧ Y' = Y)) := by
  refine CtY.of (by decide) rfl (Nat.le_of_ble_eq_true rfl) ?_
  intro X A C hl
  subst hl
  refine y_iload_n (pc' := 1) rfl C dX13_between_0 rfl ?_
  refine y_iload_n (pc' := 2) rfl C dX13_between_1 rfl ?_
  refine y_ic_ge (pc' := 5) rfl (tgt := 9) C dX13_between_2 (by decide) (fun c_2 => ?_) (fun c_2 => ?_)
  · refine y_iload_n (pc' := 10) rfl C dX13_between_9 rfl ?_
    refine y_iload_n (pc' := 11) rfl C dX13_between_10 rfl ?_
    refine y_ic_le (pc' := 14) rfl (tgt := 18) C dX13_between_11 (by decide) (fun c_11 => ?_) (fun c_11 => ?_)
    · refine y_iload_n (pc' := 19) rfl C dX13_between_18 rfl ?_
      refine y_ireturn C rfl rfl dX13_between_19 rfl rfl ?_
      refine ⟨?_, rfl⟩
      rw [clampI, if_neg (Int32.not_lt.mpr c_2), if_neg (Int32.not_lt.mpr c_11)]
    · refine y_iload_n (pc' := 15) rfl C dX13_between_14 rfl ?_
      refine y_goto (tgt := 19) C dX13_between_15 (by decide) ?_
      refine y_ireturn C rfl rfl dX13_between_19 rfl rfl ?_
      refine ⟨?_, rfl⟩
      rw [clampI, if_neg (Int32.not_lt.mpr c_2), if_pos (nle_lt c_11)]
  · refine y_iload_n (pc' := 6) rfl C dX13_between_5 rfl ?_
    refine y_goto (tgt := 19) C dX13_between_6 (by decide) ?_
    refine y_ireturn C rfl rfl dX13_between_19 rfl rfl ?_
    refine ⟨?_, rfl⟩
    rw [clampI, if_pos (nle_lt c_2)]
-- KilnKeeperModel.remembers 
set_option maxHeartbeats 1000000 in
set_option maxRecDepth 20000 in
theorem c_X13_remembers (l : Launch) (G : GT) (a : Id3 → Nat) (Y : YT)    : CtY l G a yX13_remembers cX13_remembers 2 none ({ frames := 0, cells := 0, slots := 0, locals := 0 } : Room) [.ref (a (4, 0, 8))] Y (PV (fun Y' => Y' = setA Y (4, 0, 1) (Y (4, 0, 0)))) := by
  refine CtY.of (by decide) rfl (Nat.le_of_ble_eq_true rfl) ?_
  intro X A C hl
  subst hl
  refine y_iconst (pc' := 1) rfl (v := 0) C dX13_remembers_0 (by decide) ?_
  refine y_istore_n (pc' := 2) rfl C dX13_remembers_1 (by decide) ?_
  suffices K2 : ∀ (fu_ i2 : Nat) (Yl2 : YT), i2 ≤ 227 → 227 < fu_ + i2 → Yl2 = setA Y (4, 0, 1) (fil (Y (4, 0, 0)) (Y (4, 0, 1)) i2) → WY X G A a Yl2 0 0 _ 2 [some (.ref (a (4, 0, 8))), some (.int ((nI i2)))] [] from K2 (227 + 1) 0 _ (by omega) (by omega) (by rw [fil_0, setA_self])
  intro fu_
  induction fu_ with
  | zero => intro i2 Yl2 h1 h2; omega
  | succ fu_ ih2 =>
    intro i2 Yl2 hi2 hm2 hYl2
    refine y_iload_n (pc' := 3) rfl C dX13_remembers_2 rfl ?_
    refine y_sipush (pc' := 6) rfl (v := 227) C dX13_remembers_3 (by decide) ?_
    refine y_ic_ge (pc' := 9) rfl (tgt := 27) C dX13_remembers_6 (by decide) (fun c_6 => ?_) (fun c_6 => ?_)
    · have hb2 : 227 ≤ i2 := nI_le_iff (by omega) (by omega) c_6
      obtain rfl : i2 = 227 := by omega
      refine y_arr (4, 0, 1) (Y (4, 0, 0)) (v4 rfl) rfl rfl (fun f hf => by rw [hYl2, setA_s, fil_in (show f < 227 from hf)]) ?_
      obtain ⟨Yc, hYc⟩ : ∃ Yq, Yq = setA Y (4, 0, 1) (Y (4, 0, 0)) := ⟨_, rfl⟩
      rw [show setA Yl2 (4, 0, 1) (Y (4, 0, 0)) = Yc by rw [hYl2, setA_setA, hYc]]
      refine y_return C rfl dX13_remembers_27 rfl rfl ?_
      exact hYc
    · have hb2 : i2 < 227 := nI_nle_iff (by omega) (by omega) c_6
      refine y_aload_n (pc' := 10) rfl C dX13_remembers_9 rfl ?_
      refine y_get (pc' := 13) rfl (v := .ref (a (4, 0, 1))) C fl_X13_13 (v4 rfl) rfl rfl dX13_remembers_10 rfl ?_
      refine y_iload_n (pc' := 14) rfl C dX13_remembers_13 rfl ?_
      refine y_aload_n (pc' := 15) rfl C dX13_remembers_14 rfl ?_
      refine y_get (pc' := 18) rfl (v := .ref (a (4, 0, 0))) C fl_X13_7 (v4 rfl) rfl rfl dX13_remembers_15 rfl ?_
      refine y_iload_n (pc' := 19) rfl C dX13_remembers_18 rfl ?_
      refine y_ialdN (pc' := 20) rfl C i2 rfl (v4 rfl) rfl rfl (show i2 < 227 by omega) rfl dX13_remembers_19 ?_
      refine y_iastN (pc' := 21) rfl C i2 rfl (v4 rfl) rfl rfl (show i2 < 227 by omega) rfl dX13_remembers_20 (fun Z20 hZ20 => ?_)
      refine y_iinc (pc' := 24) rfl (v := (nI (i2 + 1))) C dX13_remembers_21 rfl (nI_1 i2) (by decide) ?_
      refine y_goto (tgt := 2) C dX13_remembers_24 (by decide) ?_
      exact ih2 (i2 + 1) _ (by omega) (by omega) (by rw [hZ20, up_setA, hYl2, setA_setA, setA_s, setA_n (by decide), fil_s])
-- KilnKeeperModel.forgets 
set_option maxHeartbeats 1000000 in
set_option maxRecDepth 20000 in
theorem c_X13_forgets (l : Launch) (G : GT) (a : Id3 → Nat) (Y : YT)    : CtY l G a yX13_forgets cX13_forgets 2 none ({ frames := 0, cells := 0, slots := 0, locals := 0 } : Room) [.ref (a (4, 0, 8))] Y (PV (fun Y' => Y' = setA Y (4, 0, 0) (Y (4, 0, 3)))) := by
  refine CtY.of (by decide) rfl (Nat.le_of_ble_eq_true rfl) ?_
  intro X A C hl
  subst hl
  refine y_iconst (pc' := 1) rfl (v := 0) C dX13_forgets_0 (by decide) ?_
  refine y_istore_n (pc' := 2) rfl C dX13_forgets_1 (by decide) ?_
  suffices K2 : ∀ (fu_ i2 : Nat) (Yl2 : YT), i2 ≤ 227 → 227 < fu_ + i2 → Yl2 = setA Y (4, 0, 0) (fil (Y (4, 0, 3)) (Y (4, 0, 0)) i2) → WY X G A a Yl2 0 0 _ 2 [some (.ref (a (4, 0, 8))), some (.int ((nI i2)))] [] from K2 (227 + 1) 0 _ (by omega) (by omega) (by rw [fil_0, setA_self])
  intro fu_
  induction fu_ with
  | zero => intro i2 Yl2 h1 h2; omega
  | succ fu_ ih2 =>
    intro i2 Yl2 hi2 hm2 hYl2
    refine y_iload_n (pc' := 3) rfl C dX13_forgets_2 rfl ?_
    refine y_sipush (pc' := 6) rfl (v := 227) C dX13_forgets_3 (by decide) ?_
    refine y_ic_ge (pc' := 9) rfl (tgt := 27) C dX13_forgets_6 (by decide) (fun c_6 => ?_) (fun c_6 => ?_)
    · have hb2 : 227 ≤ i2 := nI_le_iff (by omega) (by omega) c_6
      obtain rfl : i2 = 227 := by omega
      refine y_arr (4, 0, 0) (Y (4, 0, 3)) (v4 rfl) rfl rfl (fun f hf => by rw [hYl2, setA_s, fil_in (show f < 227 from hf)]) ?_
      obtain ⟨Yc, hYc⟩ : ∃ Yq, Yq = setA Y (4, 0, 0) (Y (4, 0, 3)) := ⟨_, rfl⟩
      rw [show setA Yl2 (4, 0, 0) (Y (4, 0, 3)) = Yc by rw [hYl2, setA_setA, hYc]]
      refine y_return C rfl dX13_forgets_27 rfl rfl ?_
      exact hYc
    · have hb2 : i2 < 227 := nI_nle_iff (by omega) (by omega) c_6
      refine y_aload_n (pc' := 10) rfl C dX13_forgets_9 rfl ?_
      refine y_get (pc' := 13) rfl (v := .ref (a (4, 0, 0))) C fl_X13_7 (v4 rfl) rfl rfl dX13_forgets_10 rfl ?_
      refine y_iload_n (pc' := 14) rfl C dX13_forgets_13 rfl ?_
      refine y_aload_n (pc' := 15) rfl C dX13_forgets_14 rfl ?_
      refine y_get (pc' := 18) rfl (v := .ref (a (4, 0, 3))) C fl_X13_19 (v4 rfl) rfl rfl dX13_forgets_15 rfl ?_
      refine y_iload_n (pc' := 19) rfl C dX13_forgets_18 rfl ?_
      refine y_ialdN (pc' := 20) rfl C i2 rfl (v4 rfl) rfl rfl (show i2 < 227 by omega) rfl dX13_forgets_19 ?_
      refine y_iastN (pc' := 21) rfl C i2 rfl (v4 rfl) rfl rfl (show i2 < 227 by omega) rfl dX13_forgets_20 (fun Z20 hZ20 => ?_)
      refine y_iinc (pc' := 24) rfl (v := (nI (i2 + 1))) C dX13_forgets_21 rfl (nI_1 i2) (by decide) ?_
      refine y_goto (tgt := 2) C dX13_forgets_24 (by decide) ?_
      exact ih2 (i2 + 1) _ (by omega) (by omega) (by rw [hZ20, up_setA, hYl2, setA_setA, setA_s, setA_n (by decide), fil_s])
-- KilnKeeperModel.refused 
set_option maxHeartbeats 1000000 in
set_option maxRecDepth 20000 in
theorem c_X13_refused (l : Launch) (G : GT) (a : Id3 → Nat) (Y : YT) (x y : Int32)   : CtY l G a yX13_refused cX13_refused 3 (some .int) ({ frames := 0, cells := 0, slots := 0, locals := 0 } : Room) [.ref (a (4, 0, 8)), .int x, .int y] Y (PI (fun r Y' => r = x ∧ Y' = up Y (4, 0, 8) 14 y)) := by
  refine CtY.of (by decide) rfl (Nat.le_of_ble_eq_true rfl) ?_
  intro X A C hl
  subst hl
  refine y_aload_n (pc' := 1) rfl C dX13_refused_0 rfl ?_
  refine y_iload_n (pc' := 2) rfl C dX13_refused_1 rfl ?_
  refine y_put (pc' := 5) rfl C fp_X13_38 (v4 rfl) rfl rfl dX13_refused_2 rfl (fun Z2 hZ2 => ?_)
  refine y_iload_n (pc' := 6) rfl C dX13_refused_5 rfl ?_
  refine y_ireturn C rfl rfl dX13_refused_6 rfl rfl ?_
  exact ⟨rfl, hZ2⟩
-- KilnKeeperModel.done 
set_option maxHeartbeats 1000000 in
set_option maxRecDepth 20000 in
theorem c_X13_done (l : Launch) (G : GT) (a : Id3 → Nat) (Y : YT) (x : Int32)   : CtY l G a yX13_done cX13_done 2 (some .int) ({ frames := 0, cells := 0, slots := 0, locals := 0 } : Room) [.ref (a (4, 0, 8)), .int x] Y (PI (fun r Y' => r = 0 ∧ Y' = up Y (4, 0, 8) 15 x)) := by
  refine CtY.of (by decide) rfl (Nat.le_of_ble_eq_true rfl) ?_
  intro X A C hl
  subst hl
  refine y_aload_n (pc' := 1) rfl C dX13_done_0 rfl ?_
  refine y_iload_n (pc' := 2) rfl C dX13_done_1 rfl ?_
  refine y_put (pc' := 5) rfl C fp_X13_41 (v4 rfl) rfl rfl dX13_done_2 rfl (fun Z2 hZ2 => ?_)
  refine y_iconst (pc' := 6) rfl (v := 0) C dX13_done_5 (by decide) ?_
  refine y_ireturn C rfl rfl dX13_done_6 rfl rfl ?_
  exact ⟨rfl, hZ2⟩
-- KilnKeeperModel.error 
set_option maxHeartbeats 1000000 in
set_option maxRecDepth 20000 in
theorem c_X13_error (l : Launch) (G : GT) (a : Id3 → Nat) (Y : YT)    : CtY l G a yX13_error cX13_error 1 (some .int) ({ frames := 0, cells := 0, slots := 0, locals := 0 } : Room) [.ref (a (4, 0, 8))] Y (PI (fun r Y' => r = mErr (Y (4, 0, 0)) ∧ Y' = Y)) := by
  refine CtY.of (by decide) rfl (Nat.le_of_ble_eq_true rfl) ?_
  intro X A C hl
  subst hl
  refine y_aload_n (pc' := 1) rfl C dX13_error_0 rfl ?_
  refine y_get (pc' := 4) rfl (v := .ref (a (4, 0, 0))) C fl_X13_7 (v4 rfl) rfl rfl dX13_error_1 rfl ?_
  refine y_iconst (pc' := 5) rfl (v := 1) C dX13_error_4 (by decide) ?_
  refine y_ialdN (pc' := 6) rfl C 1 rfl (v4 rfl) rfl rfl (by decide) rfl dX13_error_5 ?_
  refine y_aload_n (pc' := 7) rfl C dX13_error_6 rfl ?_
  refine y_get (pc' := 10) rfl (v := .ref (a (4, 0, 0))) C fl_X13_7 (v4 rfl) rfl rfl dX13_error_7 rfl ?_
  refine y_iconst (pc' := 11) rfl (v := 0) C dX13_error_10 (by decide) ?_
  refine y_ialdN (pc' := 12) rfl C 0 rfl (v4 rfl) rfl rfl (by decide) rfl dX13_error_11 ?_
  refine y_isub (pc' := 13) rfl C dX13_error_12 ?_
  refine y_ireturn C rfl rfl dX13_error_13 rfl rfl ?_
  exact ⟨rfl, rfl⟩
