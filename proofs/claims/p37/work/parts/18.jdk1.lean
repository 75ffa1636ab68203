theorem in_TJ4 : ∀ w ∈ u_ws RJ4 TJ4 4, w ∈ AW := List.forall_mem_cons.mpr ⟨aw_268, List.forall_mem_cons.mpr ⟨aw_270, List.forall_mem_cons.mpr ⟨aw_272, List.forall_mem_cons.mpr ⟨aw_274, fun _ h => absurd h List.not_mem_nil⟩⟩⟩⟩
theorem fl_J5_15 : FLK "java/lang/AbstractStringBuilder" 15 0 0 := ⟨RJ4, TJ4, 4, rfl, by decide, aw_263, in_TJ4⟩
theorem fl_J5_22 : FLK "java/lang/AbstractStringBuilder" 22 0 1 := ⟨RJ4, TJ4, 4, rfl, by decide, aw_264, in_TJ4⟩
theorem fl_J5_79 : FLK "java/lang/AbstractStringBuilder" 79 0 3 := ⟨RJ4, TJ4, 4, rfl, by decide, aw_267, in_TJ4⟩
theorem fp_J5_15 : FLP "java/lang/AbstractStringBuilder" 15 0 0 (.array .byte) false := ⟨RJ4, TJ4, 4, tyJ4, rfl, by decide, aw_263, in_TJ4, tyJ4_ok, nmJ4, rfl, rfl, fun h => by first | exact rfl | cases h⟩
theorem fp_J5_79 : FLP "java/lang/AbstractStringBuilder" 79 0 3 .int false := ⟨RJ4, TJ4, 4, tyJ4, rfl, by decide, aw_267, in_TJ4, tyJ4_ok, nmJ4, rfl, rfl, fun h => by first | exact rfl | cases h⟩
theorem my_J0_checkIndex_df160 : MS yJ0_checkIndex_df160 cJ0_checkIndex_df160 2 none 2 := ⟨aw_746, aw_27, ⟨by decide, by decide, by decide +kernel⟩, aw_745⟩
theorem my_J1_canEncode_fc78d : MS yJ1_canEncode_fc78d cJ1_canEncode_fc78d 1 (some .boolean) 1 := ⟨aw_775, aw_36, ⟨by decide, by decide, by decide +kernel⟩, aw_774⟩
theorem my_J1_charAt_3b067 : MS yJ1_charAt_3b067 cJ1_charAt_3b067 2 (some .char) 2 := ⟨aw_743, aw_36, ⟨by decide, by decide, by decide +kernel⟩, aw_742⟩
theorem my_J3_checkIndex_8e157 : MS yJ3_checkIndex_8e157 cJ3_checkIndex_8e157 3 (some .int) 3 := ⟨aw_749, aw_38, ⟨by decide, by decide, by decide +kernel⟩, aw_748⟩
theorem my_J7_copyOf_9075b : MS yJ7_copyOf_9075b cJ7_copyOf_9075b 3 (some (.array .byte)) 2 := ⟨aw_558, aw_34, ⟨by decide, by decide, by decide +kernel⟩, aw_557⟩
theorem my_J8_newLength_cabcc : MS yJ8_newLength_cabcc cJ8_newLength_cabcc 4 (some .int) 3 := ⟨aw_547, aw_33, ⟨by decide, by decide, by decide +kernel⟩, aw_546⟩
-- java/lang/String.coder
set_option maxHeartbeats 1000000 in
set_option maxRecDepth 20000 in
theorem j_J0_coder_7d493 (l : Launch) (G : GT) (M : Mem) (k : Nat)  (hk : 10 ≤ k ∧ k < 25) : Ct l G yJ0_coder_7d493 cJ0_coder_7d493 1 (some .byte) ({ frames := 0, cells := 0, slots := 0, locals := 0 } : Room) [.ref (gK G k)] M (fun ov M' => ov = some (.int 0) ∧ M' = M) := by
  refine Ct.of (by decide) rfl (Nat.le_of_ble_eq_true rfl) ?_
  intro X A C hl hin
  subst hl
  refine r_gets C C.ev.1 aw_611 dJ0_coder_7d493_0 ?_
  refine r_if_eq (tgt := 13) C dJ0_coder_7d493_3 (by decide) (fun h_ => absurd h_ (by decide)) (fun c_3 => ?_)
  refine r_aload_n C dJ0_coder_7d493_6 rfl ?_
  refine r_getF C (C.str hk).2.1 aw_717 dJ0_coder_7d493_7 ?_
  refine r_goto (tgt := 14) C dJ0_coder_7d493_10 (by decide) ?_
  refine r_ireturn C rfl rfl dJ0_coder_7d493_14 ?_ rfl rfl
  exact ⟨rfl, rfl⟩
-- java/lang/String.isLatin1
set_option maxHeartbeats 1000000 in
set_option maxRecDepth 20000 in
theorem j_J0_isLatin1_aae02 (l : Launch) (G : GT) (M : Mem) (k : Nat)  (hk : 10 ≤ k ∧ k < 25) : Ct l G yJ0_isLatin1_aae02 cJ0_isLatin1_aae02 1 (some .boolean) ({ frames := 0, cells := 0, slots := 0, locals := 0 } : Room) [.ref (gK G k)] M (fun ov M' => ov = some (.int 1) ∧ M' = M) := by
  refine Ct.of (by decide) rfl (Nat.le_of_ble_eq_true rfl) ?_
  intro X A C hl hin
  subst hl
  refine r_gets C C.ev.1 aw_611 dJ0_isLatin1_aae02_0 ?_
  refine r_if_eq (tgt := 17) C dJ0_isLatin1_aae02_3 (by decide) (fun h_ => absurd h_ (by decide)) (fun c_3 => ?_)
  refine r_aload_n C dJ0_isLatin1_aae02_6 rfl ?_
  refine r_getF C (C.str hk).2.1 aw_717 dJ0_isLatin1_aae02_7 ?_
  refine r_if_ne (tgt := 17) C dJ0_isLatin1_aae02_10 (by decide) (fun h_ => absurd h_ (by decide)) (fun c_10 => ?_)
  refine r_iconst (v := 1) C dJ0_isLatin1_aae02_13 (by decide) ?_
  refine r_goto (tgt := 18) C dJ0_isLatin1_aae02_14 (by decide) ?_
  refine r_ireturn C rfl (by first | rfl | exact nb_narrow (by assumption)) dJ0_isLatin1_aae02_18 ?_ rfl rfl
  exact ⟨rfl, rfl⟩
-- java/lang/String.length
set_option maxHeartbeats 1000000 in
set_option maxRecDepth 20000 in
theorem j_J0_length_8abf5 (l : Launch) (G : GT) (M : Mem) (k : Nat)  (hk : 10 ≤ k ∧ k < 25) : Ct l G yJ0_length_8abf5 cJ0_length_8abf5 1 (some .int) ({ frames := 1, cells := 0, slots := 0, locals := 20 } : Room) [.ref (gK G k)] M (fun ov M' => ov = some (.int (nI (slen.getD k 0))) ∧ M' = M) := by
  refine Ct.of (by decide) rfl (Nat.le_of_ble_eq_true rfl) ?_
  intro X A C hl hin
  subst hl
  refine r_aload_n C dJ0_length_8abf5_0 rfl ?_
  refine r_getF C (C.str hk).2.2.1 aw_716 dJ0_length_8abf5_1 ?_
  refine r_lenT C (C.str hk).2.2.2 dJ0_length_8abf5_4 ?_
  refine r_aload_n C dJ0_length_8abf5_5 rfl ?_
  refine r_cVg (na := 0) C (j_J0_coder_7d493 _ G M k hk) ⟨aw_610, aw_27, ⟨by decide, by decide, by decide +kernel⟩, aw_608⟩ (C.ts _ aw_609) aw_607 (rc_str C hk) rfl rfl (Nat.le_of_ble_eq_true rfl) rfl dJ0_length_8abf5_6 (r_pureI ?_)
  refine r_ishr C dJ0_length_8abf5_9 ?_
  refine r_ireturn C rfl rfl dJ0_length_8abf5_10 ?_ rfl rfl
  exact ⟨by rw [sb_shr0], rfl⟩
-- jdk/internal/util/Preconditions.checkIndex
set_option maxHeartbeats 1000000 in
set_option maxRecDepth 20000 in
theorem j_J3_checkIndexN (l : Launch) (G : GT) (M : Mem) (i n : Nat)  (hi : i < n) (hn : n < 2 ^ 31) : Ct l G yJ3_checkIndex_8e157 cJ3_checkIndex_8e157 3 (some .int) ({ frames := 0, cells := 0, slots := 0, locals := 0 } : Room) [.int ((nI i)), .int ((nI n)), .null] M (fun ov M' => ov = some (.int (nI i)) ∧ M' = M) := by
  refine Ct.of (by decide) rfl (Nat.le_of_ble_eq_true rfl) ?_
  intro X A C hl hin
  subst hl
  refine r_iload_n C dJ3_checkIndex_8e157_0 rfl ?_
  refine r_if_lt (tgt := 9) C dJ3_checkIndex_8e157_1 (by decide) (fun c_1 => ?_) (fun c_1 => ?_)
  · exact absurd c_1 (nI_pos (by omega))
  · refine r_iload_n C dJ3_checkIndex_8e157_4 rfl ?_
    refine r_iload_n C dJ3_checkIndex_8e157_5 rfl ?_
    refine r_ic_lt (tgt := 16) C dJ3_checkIndex_8e157_6 (by decide) (fun c_6 => ?_) (fun c_6 => ?_)
    · refine r_iload_n C dJ3_checkIndex_8e157_16 rfl ?_
      refine r_ireturn C rfl rfl dJ3_checkIndex_8e157_17 ?_ rfl rfl
      exact ⟨rfl, rfl⟩
    · exact absurd (nI_lt hi hn) c_6
-- jdk/internal/util/Preconditions.checkIndex
set_option maxHeartbeats 1000000 in
set_option maxRecDepth 20000 in
theorem j_J3_checkIndex_8e157 (l : Launch) (G : GT) (M : Mem) (t : Nat) (i n : Nat)  (hi : i < n) (hn : n < 2 ^ 31) : Ct l G yJ3_checkIndex_8e157 cJ3_checkIndex_8e157 3 (some .int) ({ frames := 0, cells := 0, slots := 0, locals := 0 } : Room) [.int ((nI i)), .int ((nI n)), .ref t] M (fun ov M' => ov = some (.int (nI i)) ∧ M' = M) := by
  refine Ct.of (by decide) rfl (Nat.le_of_ble_eq_true rfl) ?_
  intro X A C hl hin
  subst hl
  refine r_iload_n C dJ3_checkIndex_8e157_0 rfl ?_
  refine r_if_lt (tgt := 9) C dJ3_checkIndex_8e157_1 (by decide) (fun c_1 => ?_) (fun c_1 => ?_)
  · exact absurd c_1 (nI_pos (by omega))
  · refine r_iload_n C dJ3_checkIndex_8e157_4 rfl ?_
    refine r_iload_n C dJ3_checkIndex_8e157_5 rfl ?_
    refine r_ic_lt (tgt := 16) C dJ3_checkIndex_8e157_6 (by decide) (fun c_6 => ?_) (fun c_6 => ?_)
    · refine r_iload_n C dJ3_checkIndex_8e157_16 rfl ?_
      refine r_ireturn C rfl rfl dJ3_checkIndex_8e157_17 ?_ rfl rfl
      exact ⟨rfl, rfl⟩
    · exact absurd (nI_lt hi hn) c_6
-- java/lang/String.checkIndex
set_option maxHeartbeats 1000000 in
set_option maxRecDepth 20000 in
theorem j_J0_checkIndex_df160 (l : Launch) (G : GT) (M : Mem) (i n : Nat)  (hi : i < n) (hn : n < 2 ^ 31) : Ct l G yJ0_checkIndex_df160 cJ0_checkIndex_df160 2 none ({ frames := 1, cells := 0, slots := 0, locals := 22 } : Room) [.int ((nI i)), .int ((nI n))] M (fun ov M' => ov = none ∧ M' = M) := by
  refine Ct.of (by decide) rfl (Nat.le_of_ble_eq_true rfl) ?_
  intro X A C hl hin
  subst hl
  refine r_iload_n C dJ0_checkIndex_df160_0 rfl ?_
  refine r_iload_n C dJ0_checkIndex_df160_1 rfl ?_
  rcases C.ev.2.2.2.2.2.2.2.2.2.1 with hz | ⟨tz, hz⟩
  · refine r_gets C hz aw_589 dJ0_checkIndex_df160_2 ?_
    refine r_cS C (j_J3_checkIndexN _ G M i n hi hn) my_J3_checkIndex_8e157 aw_747 rfl rfl (Nat.le_of_ble_eq_true rfl) rfl dJ0_checkIndex_df160_5 (r_pureI ?_)
    refine r_pop C dJ0_checkIndex_df160_8 rfl ?_
    refine r_return C rfl dJ0_checkIndex_df160_9 ?_ rfl rfl
    exact ⟨rfl, rfl⟩
  · refine r_gets C hz aw_589 dJ0_checkIndex_df160_2 ?_
    refine r_cS C (j_J3_checkIndex_8e157 _ G M tz i n hi hn) my_J3_checkIndex_8e157 aw_747 rfl rfl (Nat.le_of_ble_eq_true rfl) rfl dJ0_checkIndex_df160_5 (r_pureI ?_)
    refine r_pop C dJ0_checkIndex_df160_8 rfl ?_
    refine r_return C rfl dJ0_checkIndex_df160_9 ?_ rfl rfl
    exact ⟨rfl, rfl⟩
-- java/lang/StringLatin1.charAt
set_option maxHeartbeats 1000000 in
set_option maxRecDepth 20000 in
theorem j_J1_charAt_3b067 (l : Launch) (G : GT) (M : Mem) (k i : Nat)  (hk : 10 ≤ k ∧ k < 25) (hi : i < slen.getD k 0) : Ct l G yJ1_charAt_3b067 cJ1_charAt_3b067 2 (some .char) ({ frames := 2, cells := 0, slots := 0, locals := 43 } : Room) [.ref (gV G k), .int ((nI i))] M (fun ov M' => ov = some (.int (sch k i)) ∧ M' = M) := by
  refine Ct.of (by decide) rfl (Nat.le_of_ble_eq_true rfl) ?_
  intro X A C hl hin
  subst hl
  refine r_iload_n C dJ1_charAt_3b067_0 rfl ?_
  refine r_aload_n C dJ1_charAt_3b067_1 rfl ?_
  refine r_lenT C (C.str hk).2.2.2 dJ1_charAt_3b067_2 ?_
  refine r_cS C (j_J0_checkIndex_df160 _ G M i (slen.getD k 0) hi (by have := slen_lt k; omega)) my_J0_checkIndex_df160 aw_744 rfl rfl (Nat.le_of_ble_eq_true rfl) rfl dJ1_charAt_3b067_3 (r_pureV ?_)
  refine r_aload_n C dJ1_charAt_3b067_6 rfl ?_
  refine r_iload_n C dJ1_charAt_3b067_7 rfl ?_
  refine r_baldT C (C.str hk).2.2.2 (vp_in_nI hi (by have := slen_lt k; omega)) rfl dJ1_charAt_3b067_8 ?_
  refine r_sipush (v := 255) C dJ1_charAt_3b067_9 (by decide) ?_
  refine r_iand C dJ1_charAt_3b067_12 ?_
  refine r_i2c C dJ1_charAt_3b067_13 ?_
  refine r_ireturn C rfl (by rw [nI_clamp (by have := slen_lt k; omega), sc_c2]; exact sc_nar _) dJ1_charAt_3b067_14 ?_ rfl rfl
  exact ⟨by rw [nI_clamp (by have := slen_lt k; omega), sc_c2]; rfl, rfl⟩
-- java/lang/String.charAt
set_option maxHeartbeats 1000000 in
set_option maxRecDepth 20000 in
theorem j_J0_charAt_5068e (l : Launch) (G : GT) (M : Mem) (k i : Nat)  (hk : 10 ≤ k ∧ k < 25) (hi : i < slen.getD k 0) : Ct l G yJ0_charAt_5068e cJ0_charAt_5068e 2 (some .char) ({ frames := 4, cells := 0, slots := 0, locals := 85 } : Room) [.ref (gK G k), .int ((nI i))] M (fun ov M' => ov = some (.int (sch k i)) ∧ M' = M) := by
  refine Ct.of (by decide) rfl (Nat.le_of_ble_eq_true rfl) ?_
  intro X A C hl hin
  subst hl
  refine r_aload_n C dJ0_charAt_5068e_0 rfl ?_
  refine r_cVg (na := 0) C (j_J0_isLatin1_aae02 _ G M k hk) ⟨aw_740, aw_27, ⟨by decide, by decide, by decide +kernel⟩, aw_738⟩ (C.ts _ aw_739) aw_737 (rc_str C hk) rfl rfl (Nat.le_of_ble_eq_true rfl) rfl dJ0_charAt_5068e_1 (r_pureI ?_)
  refine r_if_eq (tgt := 16) C dJ0_charAt_5068e_4 (by decide) (fun h_ => absurd h_ (by decide)) (fun c_4 => ?_)
  refine r_aload_n C dJ0_charAt_5068e_7 rfl ?_
  refine r_getF C (C.str hk).2.2.1 aw_716 dJ0_charAt_5068e_8 ?_
  refine r_iload_n C dJ0_charAt_5068e_11 rfl ?_
  refine r_cS C (j_J1_charAt_3b067 _ G M k i hk hi) my_J1_charAt_3b067 aw_741 rfl rfl (Nat.le_of_ble_eq_true rfl) rfl dJ0_charAt_5068e_12 (r_pureI ?_)
  refine r_ireturn C rfl (sc_nar _) dJ0_charAt_5068e_15 ?_ rfl rfl
  exact ⟨rfl, rfl⟩
-- java/lang/AbstractStringBuilder.isLatin1
set_option maxHeartbeats 1000000 in
set_option maxRecDepth 20000 in
theorem j_J5_isLatin1_aae02 (l : Launch) (G : GT) (M : Mem) (b v n : Nat) (ml : Int32) (h_b : M b = some (.inr (0, [.ref v, .int 0, .int ml, .int ((nI n))])))  : Ct l G yJ5_isLatin1_aae02 cJ5_isLatin1_aae02 1 (some .boolean) ({ frames := 0, cells := 0, slots := 0, locals := 0 } : Room) [.ref b] M (fun ov M' => ov = some (.int 1) ∧ M' = M) := by
  refine Ct.of (by decide) rfl (Nat.le_of_ble_eq_true rfl) ?_
  intro X A C hl hin
  subst hl
  refine r_gets C C.ev.1 aw_254 dJ5_isLatin1_aae02_0 ?_
  refine r_if_eq (tgt := 17) C dJ5_isLatin1_aae02_3 (by decide) (fun h_ => absurd h_ (by decide)) (fun c_3 => ?_)
  refine r_aload_n C dJ5_isLatin1_aae02_6 rfl ?_
  refine r_getf C fl_J5_22 h_b rfl dJ5_isLatin1_aae02_7 ?_
  refine r_if_ne (tgt := 17) C dJ5_isLatin1_aae02_10 (by decide) (fun h_ => absurd h_ (by decide)) (fun c_10 => ?_)
  refine r_iconst (v := 1) C dJ5_isLatin1_aae02_13 (by decide) ?_
  refine r_goto (tgt := 18) C dJ5_isLatin1_aae02_14 (by decide) ?_
  refine r_ireturn C rfl (by first | rfl | exact nb_narrow (by assumption)) dJ5_isLatin1_aae02_18 ?_ rfl rfl
  exact ⟨rfl, rfl⟩
-- java/lang/AbstractStringBuilder.length
set_option maxHeartbeats 1000000 in
set_option maxRecDepth 20000 in
theorem j_J5_length_8abf5 (l : Launch) (G : GT) (M : Mem) (b v n : Nat) (ml : Int32) (h_b : M b = some (.inr (0, [.ref v, .int 0, .int ml, .int ((nI n))])))  : Ct l G yJ5_length_8abf5 cJ5_length_8abf5 1 (some .int) ({ frames := 0, cells := 0, slots := 0, locals := 0 } : Room) [.ref b] M (fun ov M' => ov = some (.int (nI n)) ∧ M' = M) := by
  refine Ct.of (by decide) rfl (Nat.le_of_ble_eq_true rfl) ?_
  intro X A C hl hin
  subst hl
  refine r_aload_n C dJ5_length_8abf5_0 rfl ?_
  refine r_getf C fl_J5_79 h_b rfl dJ5_length_8abf5_1 ?_
  refine r_ireturn C rfl rfl dJ5_length_8abf5_4 ?_ rfl rfl
  exact ⟨rfl, rfl⟩
-- java/lang/StringBuilder.length
set_option maxHeartbeats 1000000 in
set_option maxRecDepth 20000 in
theorem j_J4_length_8abf5 (l : Launch) (G : GT) (M : Mem) (b v n : Nat) (ml : Int32) (h_b : M b = some (.inr (0, [.ref v, .int 0, .int ml, .int ((nI n))])))  : Ct l G yJ4_length_8abf5 cJ4_length_8abf5 1 (some .int) ({ frames := 1, cells := 0, slots := 0, locals := 20 } : Room) [.ref b] M (fun ov M' => ov = some (.int (nI n)) ∧ M' = M) := by
  refine Ct.of (by decide) rfl (Nat.le_of_ble_eq_true rfl) ?_
  intro X A C hl hin
  subst hl
  refine r_aload_n C dJ4_length_8abf5_0 rfl ?_
  refine r_cSU (na := 0) C (j_J5_length_8abf5 _ G M b v n ml h_b) aw_349 aw_25 aw_348 aw_1105 aw_276 aw_347 ⟨by decide, by decide +kernel⟩ h_b rfl rfl rfl (Nat.le_of_ble_eq_true rfl) rfl dJ4_length_8abf5_1 (r_pureI ?_)
  refine r_ireturn C rfl rfl dJ4_length_8abf5_4 ?_ rfl rfl
  exact ⟨rfl, rfl⟩
-- java/lang/StringLatin1.canEncode
set_option maxHeartbeats 1000000 in
set_option maxRecDepth 20000 in
theorem j_J1_canEncode_fc78d (l : Launch) (G : GT) (M : Mem) (c : Nat)  (hc : c < 256) : Ct l G yJ1_canEncode_fc78d cJ1_canEncode_fc78d 1 (some .boolean) ({ frames := 0, cells := 0, slots := 0, locals := 0 } : Room) [.int ((nI c))] M (fun ov M' => ov = some (.int 1) ∧ M' = M) := by
  refine Ct.of (by decide) rfl (Nat.le_of_ble_eq_true rfl) ?_
  intro X A C hl hin
  subst hl
  refine r_iload_n C dJ1_canEncode_fc78d_0 rfl ?_
  refine r_sipush (v := 255) C dJ1_canEncode_fc78d_1 (by decide) ?_
  refine r_ic_gt (tgt := 11) C dJ1_canEncode_fc78d_4 (by decide) (fun c_4 => ?_) (fun c_4 => ?_)
  · exact absurd c_4 (nI_nlt (a := 255) (by omega) (by omega))
  · refine r_iconst (v := 1) C dJ1_canEncode_fc78d_7 (by decide) ?_
    refine r_goto (tgt := 12) C dJ1_canEncode_fc78d_8 (by decide) ?_
    refine r_ireturn C rfl (by first | rfl | exact nb_narrow (by assumption)) dJ1_canEncode_fc78d_12 ?_ rfl rfl
    exact ⟨rfl, rfl⟩
-- jdk/internal/util/ArraysSupport.newLength
set_option maxHeartbeats 1000000 in
set_option maxRecDepth 20000 in
theorem j_J8_newLength_cabcc (l : Launch) (G : GT) (M : Mem) (o m p : Nat)  (h0 : 0 < m) (ho : o ≤ 65536) (hm : m ≤ 2 ^ 28) (hp : p ≤ 2 ^ 28) : Ct l G yJ8_newLength_cabcc cJ8_newLength_cabcc 4 (some .int) ({ frames := 1, cells := 0, slots := 0, locals := 22 } : Room) [.int ((nI o)), .int ((nI m)), .int ((nI p))] M (fun ov M' => ov = some (.int (nI (o + (if m < p then p else m)))) ∧ M' = M) := by
  refine Ct.of (by decide) rfl (Nat.le_of_ble_eq_true rfl) ?_
  intro X A C hl hin
  subst hl
  refine r_iload_n C dJ8_newLength_cabcc_0 rfl ?_
  refine r_iload_n C dJ8_newLength_cabcc_1 rfl ?_
  refine r_iload_n C dJ8_newLength_cabcc_2 rfl ?_
  refine r_max C aw_548 mm_max rfl rfl rfl rfl dJ8_newLength_cabcc_3 ?_
  obtain ⟨m_3, e_3⟩ : ∃ v : Int32, v = (if (nI m) < (nI p) then (nI p) else (nI m)) := ⟨_, rfl⟩
  rw [← e_3]
  refine r_conv (L' := [some (.int ((nI o))), some (.int ((nI m))), some (.int ((nI p))), none]) (st' := [.int ((nI (if m < p then p else m))), .int ((nI o))]) (rfl) (by rw [e_3, nI_maxN (by omega) (by omega)]) ?_
  refine r_iadd C dJ8_newLength_cabcc_6 ?_
  have hx : 0 < (if m < p then p else m) ∧ (if m < p then p else m) ≤ 2 ^ 28 := by split <;> omega
  refine r_conv (L' := [some (.int ((nI o))), some (.int ((nI m))), some (.int ((nI p))), none]) (st' := [.int ((nI (o + (if m < p then p else m))))]) (rfl) (by rw [nI_add]) ?_
  refine r_istore_n C dJ8_newLength_cabcc_7 (by decide) ?_
  refine r_iconst (v := 0) C dJ8_newLength_cabcc_8 (by decide) ?_
  refine r_iload_n C dJ8_newLength_cabcc_9 rfl ?_
  refine r_ic_ge (tgt := 21) C dJ8_newLength_cabcc_10 (by decide) (fun c_10 => ?_) (fun c_10 => ?_)
  · exact absurd c_10 (show ¬ nI _ ≤ nI 0 from nI_nle (by omega) (by omega))
  · refine r_iload_n C dJ8_newLength_cabcc_13 rfl ?_
    refine r_ldc (v := 2147483639) C aw_551 dJ8_newLength_cabcc_14 ?_
    refine r_ic_gt (tgt := 21) C dJ8_newLength_cabcc_16 (by decide) (fun c_16 => ?_) (fun c_16 => ?_)
    · exact absurd c_16 (nI_nlt (a := 2147483639) (by omega) (by decide))
    · refine r_iload_n C dJ8_newLength_cabcc_19 rfl ?_
      refine r_ireturn C rfl rfl dJ8_newLength_cabcc_20 ?_ rfl rfl
      exact ⟨rfl, rfl⟩
-- java/lang/AbstractStringBuilder.newCapacity
set_option maxHeartbeats 1000000 in
set_option maxRecDepth 20000 in
theorem j_J5_newCapacity_0f7a4 (l : Launch) (G : GT) (M : Mem) (b v n cap q : Nat) (ml : Int32) (z : Nat → Int32) (h_b : M b = some (.inr (0, [.ref v, .int 0, .int ml, .int ((nI n))]))) (h_v : M v = some (.inl (gc G 1, cap, .inl z))) (hc : cap < q) (hq : q ≤ 60000) : Ct l G yJ5_newCapacity_0f7a4 cJ5_newCapacity_0f7a4 6 (some .int) ({ frames := 2, cells := 0, slots := 0, locals := 45 } : Room) [.ref b, .int ((nI q))] M (fun ov M' => ov = some (.int (nI (sb_cap q cap))) ∧ M' = M) := by
  refine Ct.of (by decide) rfl (Nat.le_of_ble_eq_true rfl) ?_
  intro X A C hl hin
  subst hl
  refine r_aload_n C dJ5_newCapacity_0f7a4_0 rfl ?_
  refine r_getf C fl_J5_15 h_b rfl dJ5_newCapacity_0f7a4_1 ?_
  refine r_alen C 1 rfl h_v dJ5_newCapacity_0f7a4_4 ?_
  refine r_istore_n C dJ5_newCapacity_0f7a4_5 (by decide) ?_
  refine r_iload_n C dJ5_newCapacity_0f7a4_6 rfl ?_
  refine r_aload_n C dJ5_newCapacity_0f7a4_7 rfl ?_
  refine r_getf C fl_J5_22 h_b rfl dJ5_newCapacity_0f7a4_8 ?_
  refine r_ishl C dJ5_newCapacity_0f7a4_11 ?_
  refine r_conv (L' := [some (.ref b), some (.int ((nI q))), some (.int ((nI cap))), none, none, none]) (st' := [.int ((nI q))]) (rfl) (by rw [sb_shl0]) ?_
  refine r_istore_n C dJ5_newCapacity_0f7a4_12 (by decide) ?_
  refine r_iload_n C dJ5_newCapacity_0f7a4_13 rfl ?_
  refine r_iload_n C dJ5_newCapacity_0f7a4_14 rfl ?_
  refine r_isub C dJ5_newCapacity_0f7a4_15 ?_
  refine r_conv (L' := [some (.ref b), some (.int ((nI q))), some (.int ((nI cap))), some (.int ((nI q))), none, none]) (st' := [.int ((nI (q - cap)))]) (rfl) (by rw [show nI q - nI cap = nI (q - cap) from pk_sub (by omega)]) ?_
  refine r_istore C dJ5_newCapacity_0f7a4_16 (by decide) ?_
  refine r_iload_n C dJ5_newCapacity_0f7a4_18 rfl ?_
  refine r_iload C dJ5_newCapacity_0f7a4_19 rfl ?_
  refine r_iload_n C dJ5_newCapacity_0f7a4_21 rfl ?_
  refine r_iconst (v := 2) C dJ5_newCapacity_0f7a4_22 (by decide) ?_
  refine r_aload_n C dJ5_newCapacity_0f7a4_23 rfl ?_
  refine r_getf C fl_J5_22 h_b rfl dJ5_newCapacity_0f7a4_24 ?_
  refine r_ishl C dJ5_newCapacity_0f7a4_27 ?_
  refine r_conv (L' := [some (.ref b), some (.int ((nI q))), some (.int ((nI cap))), some (.int ((nI q))), some (.int ((nI (q - cap)))), none]) (st' := [.int 2, .int ((nI cap)), .int ((nI (q - cap))), .int ((nI cap))]) (rfl) (by rw [sb_shl0]) ?_
  refine r_iadd C dJ5_newCapacity_0f7a4_28 ?_
  refine r_conv (L' := [some (.ref b), some (.int ((nI q))), some (.int ((nI cap))), some (.int ((nI q))), some (.int ((nI (q - cap)))), none]) (st' := [.int ((nI (cap + 2))), .int ((nI (q - cap))), .int ((nI cap))]) (rfl) (by rw [← nI_add]; rfl) ?_
  refine r_cS C (j_J8_newLength_cabcc _ G M cap (q - cap) (cap + 2) (by omega) (by omega) (by omega) (by omega)) my_J8_newLength_cabcc aw_545 rfl rfl (Nat.le_of_ble_eq_true rfl) rfl dJ5_newCapacity_0f7a4_29 (r_pureI ?_)
  have ecap : cap + (if q - cap < cap + 2 then cap + 2 else q - cap) = sb_cap q cap := by rw [sb_cap, if_neg (show ¬ q ≤ cap by omega)]; split <;> split <;> omega
  have hcap : sb_cap q cap ≤ 200000 := by rw [← ecap]; split <;> omega
  refine r_conv (L' := [some (.ref b), some (.int ((nI q))), some (.int ((nI cap))), some (.int ((nI q))), some (.int ((nI (q - cap)))), none]) (st' := [.int ((nI (sb_cap q cap)))]) (rfl) (by rw [ecap]) ?_
  refine r_istore C dJ5_newCapacity_0f7a4_32 (by decide) ?_
  refine r_iload C dJ5_newCapacity_0f7a4_34 rfl ?_
  refine r_ldc (v := 2147483647) C aw_555 dJ5_newCapacity_0f7a4_36 ?_
  refine r_ic_ne (tgt := 51) C dJ5_newCapacity_0f7a4_38 (by decide) (fun c_38 => ?_) (fun c_38 => ?_)
  · refine r_iload C dJ5_newCapacity_0f7a4_51 rfl ?_
    refine r_aload_n C dJ5_newCapacity_0f7a4_53 rfl ?_
    refine r_getf C fl_J5_22 h_b rfl dJ5_newCapacity_0f7a4_54 ?_
    refine r_ishr C dJ5_newCapacity_0f7a4_57 ?_
    refine r_ireturn C rfl rfl dJ5_newCapacity_0f7a4_58 ?_ rfl rfl
    exact ⟨by rw [sb_shr0], rfl⟩
  · exact absurd (show nI (sb_cap q cap) = nI 2147483647 from c_38) (fun h_ => by have := (nI_eq (by omega) (by decide)).mp h_; omega)
-- java/util/Arrays.copyOf
set_option maxHeartbeats 1000000 in
set_option maxRecDepth 20000 in
theorem j_J7_copyOf_9075b (l : Launch) (G : GT) (M : Mem) (x m q : Nat) (z : Nat → Int32) (h_x : M x = some (.inl (gc G 1, m, .inl z))) (hm : m < q) (hq : q ≤ 200) (hf : sb_Fit z) : Ct l G yJ7_copyOf_9075b cJ7_copyOf_9075b 3 (some (.array .byte)) ({ frames := 1, cells := 1, slots := 200, locals := 60 } : Room) [.ref x, .int ((nI q))] M (fun ov M' => ∃ r, ov = some (.ref r) ∧ (M x = some (.inl (gc G 1, m, .inl z)) ∧ M r = none ∧ ∃ w, sb_Fit w ∧ (∀ j, j < m → w j = z j) ∧ M' = mup M r (.inl (gc G 1, q, .inl w)))) := by
  refine Ct.of (by decide) rfl (Nat.le_of_ble_eq_true rfl) ?_
  intro X A C hl hin
  subst hl
  refine r_iload_n C dJ7_copyOf_9075b_0 rfl ?_
  refine r_aload_n C dJ7_copyOf_9075b_1 rfl ?_
  refine r_alen C 1 rfl h_x dJ7_copyOf_9075b_2 ?_
  refine r_ic_ne (tgt := 14) C dJ7_copyOf_9075b_3 (by decide) (fun c_3 => ?_) (fun c_3 => ?_)
  · refine r_iload_n C dJ7_copyOf_9075b_14 rfl ?_
    refine r_newB C aw_277 (nI_pos (by omega)) (nI_clamp (by omega)) (by omega) (show 0 + 1 ≤ 1 by omega) (show 0 + q ≤ 200 by omega) dJ7_copyOf_9075b_15 (fun a15 hn15 => ?_)
    have ne15_x : x ≠ a15 := fun h_ => by have q_ := h_x; rw [h_] at q_; cases q_.symm.trans hn15
    refine r_named (e' := .inl (gc G 1, q, .inl (fun _ => 0))) rfl (fun M15 hM15 => ?_)
    have f15_a15 : M15 a15 = some (.inl (gc G 1, q, .inl (fun _ => 0))) := by rw [hM15]; exact mup_s
    have f15_x : M15 x = some (.inl (gc G 1, m, .inl z)) := by rw [hM15, mup_n (by first | assumption | exact Ne.symm (by assumption) | exact fun h_ => by rw [h_] at h_x; cases h_x.symm.trans hn15)]; exact h_x
    refine r_widen (k' := 1) (n' := 200) (by omega) (by omega) ?_
    refine r_astore_n C dJ7_copyOf_9075b_17 (by decide) ?_
    refine r_aload_n C dJ7_copyOf_9075b_18 rfl ?_
    refine r_iconst (v := 0) C dJ7_copyOf_9075b_19 (by decide) ?_
    refine r_aload_n C dJ7_copyOf_9075b_20 rfl ?_
    refine r_iconst (v := 0) C dJ7_copyOf_9075b_21 (by decide) ?_
    refine r_aload_n C dJ7_copyOf_9075b_22 rfl ?_
    refine r_alen C 1 rfl f15_x dJ7_copyOf_9075b_23 ?_
    refine r_iload_n C dJ7_copyOf_9075b_24 rfl ?_
    refine r_min C aw_566 mm_min rfl rfl rfl rfl dJ7_copyOf_9075b_25 ?_
    obtain ⟨m_25, e_25⟩ : ∃ v : Int32, v = (if (nI q) < (nI m) then (nI q) else (nI m)) := ⟨_, rfl⟩
    rw [← e_25]
    refine r_conv (L' := [some (.ref x), some (.int ((nI q))), some (.ref a15)]) (st' := [.int ((nI m)), .int 0, .ref a15, .int 0, .ref x]) (rfl) (by rw [e_25, nI_minN (by omega) (by omega), if_neg (by omega)]) ?_
    refine r_acpyB C aw_569 f15_x f15_a15 (by decide) (by decide) (nI_pos (by omega)) (by rw [nI_clamp (by omega), sb_cl0]; omega) (by rw [nI_clamp (by omega), sb_cl0]; omega) (fun i _ => hf _) rfl (by decide) dJ7_copyOf_9075b_28 ?_
    refine r_named (e' := .inl (gc G 1, q, .inl (va_cpy z (fun _ => 0) (0 : Int32).toNatClampNeg (0 : Int32).toNatClampNeg ((nI m)).toNatClampNeg))) rfl (fun M28 hM28 => ?_)
    have f28_a15 : M28 a15 = some (.inl (gc G 1, q, .inl (va_cpy z (fun _ => 0) (0 : Int32).toNatClampNeg (0 : Int32).toNatClampNeg ((nI m)).toNatClampNeg))) := by rw [hM28]; exact mup_s
    have f28_x : M28 x = some (.inl (gc G 1, m, .inl z)) := by rw [hM28, mup_n (by first | assumption | exact Ne.symm (by assumption) | exact fun h_ => by rw [h_] at f15_x; cases f15_x.symm.trans f15_a15)]; exact f15_x
    refine r_aload_n C dJ7_copyOf_9075b_31 rfl ?_
    refine r_areturn C rfl (Or.inr ⟨_, rfl⟩) (Or.inr ⟨_, rfl⟩) dJ7_copyOf_9075b_32 ?_ rfl rfl
    rw [sb_cl0, nI_clamp (n := m) (by omega), hM15, mup_mup] at hM28
    exact ⟨a15, rfl, h_x, hn15, va_cpy z (fun _ => 0) 0 0 m, sb_fitC hf sb_fit0, fun j hj => sb_cpy0 hj, hM28⟩
  · exact absurd ((nI_eq (by omega) (by omega)).mp c_3) (by omega)
-- java/lang/AbstractStringBuilder.ensureCapacityInternal
set_option maxHeartbeats 1000000 in
set_option maxRecDepth 20000 in
theorem j_J5_ensureCapacityInternal_d00df (l : Launch) (G : GT) (M : Mem) (b v n cap q : Nat) (ml : Int32) (z : Nat → Int32) (h_b : M b = some (.inr (0, [.ref v, .int 0, .int ml, .int ((nI n))]))) (h_v : M v = some (.inl (gc G 1, cap, .inl z))) (hn : n ≤ cap) (hcap : cap ≤ 200) (hq : q ≤ 90) (hf : sb_Fit z) : Ct l G yJ5_ensureCapacityInternal_d00df cJ5_ensureCapacityInternal_d00df 3 none ({ frames := 3, cells := 1, slots := 200, locals := 82 } : Room) [.ref b, .int ((nI q))] M (fun ov M' => ov = none ∧ (∃ w cap' z', SBx G M M' b v n ml w cap' z' ∧ q ≤ cap' ∧ n ≤ cap' ∧ ∀ j, j < n → z' j = z j)) := by
  refine Ct.of (by decide) rfl (Nat.le_of_ble_eq_true rfl) ?_
  intro X A C hl hin
  subst hl
  refine r_aload_n C dJ5_ensureCapacityInternal_d00df_0 rfl ?_
  refine r_getf C fl_J5_15 h_b rfl dJ5_ensureCapacityInternal_d00df_1 ?_
  refine r_alen C 1 rfl h_v dJ5_ensureCapacityInternal_d00df_4 ?_
  refine r_aload_n C dJ5_ensureCapacityInternal_d00df_5 rfl ?_
  refine r_getf C fl_J5_22 h_b rfl dJ5_ensureCapacityInternal_d00df_6 ?_
  refine r_ishr C dJ5_ensureCapacityInternal_d00df_9 ?_
  refine r_conv (L' := [some (.ref b), some (.int ((nI q))), none]) (st' := [.int ((nI cap))]) (rfl) (by rw [sb_shr0]) ?_
  refine r_istore_n C dJ5_ensureCapacityInternal_d00df_10 (by decide) ?_
  refine r_iload_n C dJ5_ensureCapacityInternal_d00df_11 rfl ?_
  refine r_iload_n C dJ5_ensureCapacityInternal_d00df_12 rfl ?_
  refine r_isub C dJ5_ensureCapacityInternal_d00df_13 ?_
  refine r_if_le (tgt := 38) C dJ5_ensureCapacityInternal_d00df_14 (by decide) (fun c_14 => ?_) (fun c_14 => ?_)
  · have hle : q ≤ cap := by rw [Int32.le_iff_toInt_le, pk_sub_toInt (by omega) (by omega), Int32.toInt_zero] at c_14; omega
    refine r_return C rfl dJ5_ensureCapacityInternal_d00df_38 ?_ rfl rfl
    exact ⟨rfl, v, cap, z, ⟨h_b, h_v, hcap, hf, Or.inl rfl, fun _ _ _ => rfl⟩, hle, hn, fun _ _ => rfl⟩
  · have hgt : cap < q := by rw [Int32.le_iff_toInt_le, pk_sub_toInt (by omega) (by omega), Int32.toInt_zero] at c_14; omega
    have hc2 : cap < sb_cap q cap ∧ sb_cap q cap ≤ 200 := by rw [sb_cap, if_neg (by omega)]; split <;> omega
    refine r_aload_n C dJ5_ensureCapacityInternal_d00df_17 rfl ?_
    refine r_aload_n C dJ5_ensureCapacityInternal_d00df_18 rfl ?_
    refine r_getf C fl_J5_15 h_b rfl dJ5_ensureCapacityInternal_d00df_19 ?_
    refine r_aload_n C dJ5_ensureCapacityInternal_d00df_22 rfl ?_
    refine r_iload_n C dJ5_ensureCapacityInternal_d00df_23 rfl ?_
    refine r_cVg (na := 1) C (j_J5_newCapacity_0f7a4 _ G M b v n cap q ml z h_b h_v hgt (by omega)) ⟨aw_544, aw_25, ⟨by decide, by decide, by decide +kernel⟩, aw_543⟩ (va_tabs rfl rfl (C.ev.2.2.2.2.2.2.2.2.2.2.2.1 _ (List.mem_cons_of_mem _ List.mem_cons_self))) aw_541 (rc_mem C h_b rfl) rfl rfl (Nat.le_of_ble_eq_true rfl) rfl dJ5_ensureCapacityInternal_d00df_24 (r_pureI ?_)
    refine r_aload_n C dJ5_ensureCapacityInternal_d00df_27 rfl ?_
    refine r_getf C fl_J5_22 h_b rfl dJ5_ensureCapacityInternal_d00df_28 ?_
    refine r_ishl C dJ5_ensureCapacityInternal_d00df_31 ?_
    refine r_conv (L' := [some (.ref b), some (.int ((nI q))), some (.int ((nI cap)))]) (st' := [.int ((nI (sb_cap q cap))), .ref v, .ref b]) (rfl) (by rw [sb_shl0]) ?_
    refine r_cS C (j_J7_copyOf_9075b _ G M v cap (sb_cap q cap) z h_v hc2.1 hc2.2 hf) my_J7_copyOf_9075b aw_556 rfl rfl (Nat.le_of_ble_eq_true rfl) rfl dJ5_ensureCapacityInternal_d00df_32 (r_refM fun a32 M32 hp32 => ?_)
    obtain ⟨-, hw32, w32, hfw, hjw, hM32⟩ := hp32
    have hb32 : M32 b = some (.inr (0, [.ref v, .int 0, .int ml, .int (nI n)])) := by rw [hM32, mup_n (fun h_ => by rw [h_, hw32] at h_b; cases h_b)]; exact h_b
    refine r_putf C fp_J5_15 hb32 (Nat.le_of_ble_eq_true rfl) rfl rfl dJ5_ensureCapacityInternal_d00df_35 ?_
    refine r_named (e' := .inr (0, [.ref a32, .int 0, .int ml, .int ((nI n))])) rfl (fun M35 hM35 => ?_)
    have f35_b : M35 b = some (.inr (0, [.ref a32, .int 0, .int ml, .int ((nI n))])) := by rw [hM35]; exact mup_s
    refine r_return C rfl dJ5_ensureCapacityInternal_d00df_38 ?_ rfl rfl
    refine ⟨rfl, a32, sb_cap q cap, w32, ⟨f35_b, ?_, hc2.2, hfw, Or.inr hw32, fun x h1 h2 => by rw [hM35, mup_n h1, hM32, mup_n h2]⟩, sb_cap_ge q cap, by omega, fun j hj => hjw j (by omega)⟩
    rw [hM35, mup_n (fun h_ => by rw [h_, h_b] at hw32; cases hw32), hM32, mup_s]
-- java/lang/AbstractStringBuilder.append
set_option maxHeartbeats 1000000 in
set_option maxRecDepth 20000 in
theorem j_J5_append_3fe6f (l : Launch) (G : GT) (M : Mem) (b v n cap c : Nat) (ml : Int32) (z : Nat → Int32) (h_b : M b = some (.inr (0, [.ref v, .int 0, .int ml, .int ((nI n))]))) (h_v : M v = some (.inl (gc G 1, cap, .inl z))) (hn : n ≤ cap) (hcap : cap ≤ 200) (hf : sb_Fit z) (hn9 : n + 1 ≤ 90) (hc : c < 128) : Ct l G yJ5_append_3fe6f cJ5_append_3fe6f 2 (some (.object "java/lang/AbstractStringBuilder")) ({ frames := 6, cells := 1, slots := 200, locals := 137 } : Room) [.ref b, .int ((nI c))] M (fun ov M' => ∃ r, ov = some (.ref r) ∧ (r = b ∧ ∃ w cap' z', SBx G M M' b v (n + 1) ml w cap' z' ∧ n + 1 ≤ cap' ∧ (∀ j, j < n → z' j = z j) ∧ z' n = nI c)) := by
  refine Ct.of (by decide) rfl (Nat.le_of_ble_eq_true rfl) ?_
  intro X A C hl hin
  subst hl
  refine r_aload_n C dJ5_append_3fe6f_0 rfl ?_
  refine r_aload_n C dJ5_append_3fe6f_1 rfl ?_
  refine r_getf C fl_J5_79 h_b rfl dJ5_append_3fe6f_2 ?_
  refine r_iconst (v := 1) C dJ5_append_3fe6f_5 (by decide) ?_
  refine r_iadd C dJ5_append_3fe6f_6 ?_
  refine r_conv (L' := [some (.ref b), some (.int ((nI c)))]) (st' := [.int ((nI (n + 1))), .ref b]) (rfl) (by rw [nI_1]) ?_
  refine r_cVg (na := 1) C (j_J5_ensureCapacityInternal_d00df _ G M b v n cap (n + 1) ml z h_b h_v hn hcap hn9 hf) ⟨aw_540, aw_25, ⟨by decide, by decide, by decide +kernel⟩, aw_539⟩ (va_tabs rfl rfl (C.ev.2.2.2.2.2.2.2.2.2.2.2.1 _ List.mem_cons_self)) aw_537 (rc_mem C h_b rfl) rfl rfl (Nat.le_of_ble_eq_true rfl) rfl dJ5_append_3fe6f_7 (r_void fun M7 hp7 => ?_)
  obtain ⟨w7, cap7, z7, ⟨hb7, hw7, hc7, hf7, hor7, hfr7⟩, hq7, hn7, hz7⟩ := hp7
  have hne7 : w7 ≠ b := fun h_ => by rw [h_, hb7] at hw7; cases hw7
  refine r_aload_n C dJ5_append_3fe6f_10 rfl ?_
  refine r_cVg (na := 0) C (j_J5_isLatin1_aae02 _ G M7 b w7 n ml hb7) ⟨aw_576, aw_25, ⟨by decide, by decide, by decide +kernel⟩, aw_573⟩ (C.ts _ aw_575) aw_572 (rc_mem C hb7 rfl) rfl rfl (Nat.le_of_ble_eq_true rfl) rfl dJ5_append_3fe6f_11 (r_pureI ?_)
  refine r_if_eq (tgt := 45) C dJ5_append_3fe6f_14 (by decide) (fun h_ => absurd h_ (by decide)) (fun c_14 => ?_)
  refine r_iload_n C dJ5_append_3fe6f_17 rfl ?_
  refine r_cS C (j_J1_canEncode_fc78d _ G M7 c (by omega)) my_J1_canEncode_fc78d aw_773 rfl rfl (Nat.le_of_ble_eq_true rfl) rfl dJ5_append_3fe6f_18 (r_pureI ?_)
  refine r_if_eq (tgt := 45) C dJ5_append_3fe6f_21 (by decide) (fun h_ => absurd h_ (by decide)) (fun c_21 => ?_)
  refine r_aload_n C dJ5_append_3fe6f_24 rfl ?_
  refine r_getf C fl_J5_15 hb7 rfl dJ5_append_3fe6f_25 ?_
  refine r_aload_n C dJ5_append_3fe6f_28 rfl ?_
  refine r_dup C dJ5_append_3fe6f_29 rfl ?_
  refine r_getf C fl_J5_79 hb7 rfl dJ5_append_3fe6f_30 ?_
  refine r_dup_x1 C dJ5_append_3fe6f_33 rfl rfl ?_
  refine r_iconst (v := 1) C dJ5_append_3fe6f_34 (by decide) ?_
  refine r_iadd C dJ5_append_3fe6f_35 ?_
  refine r_conv (L' := [some (.ref b), some (.int ((nI c)))]) (st' := [.int ((nI (n + 1))), .ref b, .int ((nI n)), .ref w7]) (rfl) (by rw [nI_1]) ?_
  refine r_putf C fp_J5_79 hb7 (Nat.le_of_ble_eq_true rfl) rfl rfl dJ5_append_3fe6f_36 ?_
  refine r_named (e' := .inr (0, [.ref w7, .int 0, .int ml, .int ((nI (n + 1)))])) rfl (fun M36 hM36 => ?_)
  have f36_b : M36 b = some (.inr (0, [.ref w7, .int 0, .int ml, .int ((nI (n + 1)))])) := by rw [hM36]; exact mup_s
  have f36_w7 : M36 w7 = some (.inl (gc G 1, cap7, .inl z7)) := by rw [hM36, mup_n (by first | assumption | exact Ne.symm (by assumption) | exact fun h_ => by rw [h_] at hw7; cases hw7.symm.trans hb7)]; exact hw7
  refine r_iload_n C dJ5_append_3fe6f_39 rfl ?_
  refine r_i2b C dJ5_append_3fe6f_40 ?_
  refine r_bast C f36_w7 (vp_in_nI (by omega) (by omega)) dJ5_append_3fe6f_41 ?_
  refine r_named (e' := .inl (gc G 1, cap7, .inl (upd z7 ((nI n)).toNatClampNeg (vp_nar .byte ((nI c).toInt8.toInt32))))) rfl (fun M41 hM41 => ?_)
  have f41_w7 : M41 w7 = some (.inl (gc G 1, cap7, .inl (upd z7 ((nI n)).toNatClampNeg (vp_nar .byte ((nI c).toInt8.toInt32))))) := by rw [hM41]; exact mup_s
  have f41_b : M41 b = some (.inr (0, [.ref w7, .int 0, .int ml, .int ((nI (n + 1)))])) := by rw [hM41, mup_n (by first | assumption | exact Ne.symm (by assumption) | exact fun h_ => by rw [h_] at f36_b; cases f36_b.symm.trans f36_w7)]; exact f36_b
  refine r_goto (tgt := 75) C dJ5_append_3fe6f_42 (by decide) ?_
  refine r_aload_n C dJ5_append_3fe6f_75 rfl ?_
  refine r_areturn C rfl (Or.inl ⟨_, rfl⟩) (Or.inr ⟨_, rfl⟩) dJ5_append_3fe6f_76 ?_ rfl rfl
  rw [nI_clamp (n := n) (by omega), pk_vb] at hM41 f41_w7
  refine ⟨b, rfl, rfl, w7, cap7, _, ⟨f41_b, f41_w7, hc7, sb_fitU hf7 (sb_fitB c), hor7, fun x h1 h2 => by rw [hM41, mup_n h2, hM36, mup_n h1]; exact hfr7 x h1 h2⟩, hq7, fun j hj => ?_, ?_⟩
  · rw [pk_un (by omega)]; exact hz7 j hj
  · rw [pk_us]; exact sb_lo c hc
-- java/lang/StringBuilder.append
set_option maxHeartbeats 1000000 in
set_option maxRecDepth 20000 in
theorem j_J4_append_cf468 (l : Launch) (G : GT) (M : Mem) (b v n cap c : Nat) (ml : Int32) (z : Nat → Int32) (h_b : M b = some (.inr (0, [.ref v, .int 0, .int ml, .int ((nI n))]))) (h_v : M v = some (.inl (gc G 1, cap, .inl z))) (hn : n ≤ cap) (hcap : cap ≤ 200) (hf : sb_Fit z) (hn9 : n + 1 ≤ 90) (hc : c < 128) : Ct l G yJ4_append_cf468 cJ4_append_cf468 2 (some (.object "java/lang/StringBuilder")) ({ frames := 7, cells := 1, slots := 200, locals := 158 } : Room) [.ref b, .int ((nI c))] M (fun ov M' => ∃ r, ov = some (.ref r) ∧ (r = b ∧ ∃ w cap' z', SBx G M M' b v (n + 1) ml w cap' z' ∧ n + 1 ≤ cap' ∧ (∀ j, j < n → z' j = z j) ∧ z' n = nI c)) := by
  refine Ct.of (by decide) rfl (Nat.le_of_ble_eq_true rfl) ?_
  intro X A C hl hin
  subst hl
  refine r_aload_n C dJ4_append_cf468_0 rfl ?_
  refine r_iload_n C dJ4_append_cf468_1 rfl ?_
  refine r_cSU (na := 1) C (j_J5_append_3fe6f _ G M b v n cap c ml z h_b h_v hn hcap hf hn9 hc) aw_772 aw_25 aw_771 aw_1115 aw_276 aw_770 ⟨by decide, by decide +kernel⟩ h_b rfl rfl rfl (Nat.le_of_ble_eq_true rfl) rfl dJ4_append_cf468_2 (r_refM fun a2 M2 hp2 => ?_)
  obtain ⟨rfl, hq2⟩ := hp2
  refine r_pop C dJ4_append_cf468_5 rfl ?_
  refine r_aload_n C dJ4_append_cf468_6 rfl ?_
  refine r_areturn C rfl (Or.inl ⟨_, rfl⟩) (Or.inr ⟨_, rfl⟩) dJ4_append_cf468_7 ?_ rfl rfl
  exact ⟨_, rfl, rfl, hq2⟩
-- java/lang/Integer.stringSize
set_option maxHeartbeats 1000000 in
set_option maxRecDepth 20000 in
theorem j_J6_stringSize_0f7a4 (l : Launch) (G : GT) (M : Mem) (v : Nat)  (hv : v < 2 ^ 31) : Ct l G yJ6_stringSize_0f7a4 cJ6_stringSize_0f7a4 4 (some .int) ({ frames := 0, cells := 0, slots := 0, locals := 0 } : Room) [.int ((nI v))] M (fun ov M' => ov = some (.int (nI (sb_dg v))) ∧ M' = M) := by
  refine Ct.of (by decide) rfl (Nat.le_of_ble_eq_true rfl) ?_
  intro X A C hl hin
  subst hl
  refine r_iconst (v := 1) C dJ6_stringSize_0f7a4_0 (by decide) ?_
  refine r_istore_n C dJ6_stringSize_0f7a4_1 (by decide) ?_
  refine r_iload_n C dJ6_stringSize_0f7a4_2 rfl ?_
  refine r_if_lt (tgt := 11) C dJ6_stringSize_0f7a4_3 (by decide) (fun c_3 => ?_) (fun c_3 => ?_)
  · exact absurd c_3 (nI_pos hv)
  · refine r_iconst (v := 0) C dJ6_stringSize_0f7a4_6 (by decide) ?_
    refine r_istore_n C dJ6_stringSize_0f7a4_7 (by decide) ?_
    refine r_iload_n C dJ6_stringSize_0f7a4_8 rfl ?_
    refine r_ineg C dJ6_stringSize_0f7a4_9 ?_
    refine r_istore_n C dJ6_stringSize_0f7a4_10 (by decide) ?_
    refine r_bipush (v := (-10)) C dJ6_stringSize_0f7a4_11 (by decide) ?_
    refine r_istore_n C dJ6_stringSize_0f7a4_13 (by decide) ?_
    refine r_iconst (v := 1) C dJ6_stringSize_0f7a4_14 (by decide) ?_
    refine r_istore_n C dJ6_stringSize_0f7a4_15 (by decide) ?_
    refine r_iload_n C dJ6_stringSize_0f7a4_16 rfl ?_
    refine r_bipush (v := 10) C dJ6_stringSize_0f7a4_17 (by decide) ?_
    refine r_ic_ge (tgt := 42) C dJ6_stringSize_0f7a4_19 (by decide) (fun h_ => absurd h_ (by decide)) (fun c_19 => ?_)
    refine r_iload_n C dJ6_stringSize_0f7a4_22 rfl ?_
    refine r_iload_n C dJ6_stringSize_0f7a4_23 rfl ?_
    refine r_ic_le (tgt := 31) C dJ6_stringSize_0f7a4_24 (by decide) (fun c_24 => ?_) (fun c_24 => ?_)
    · have hlo : 10 ≤ v := (sb_nle hv (by decide)).mp (show -nI v ≤ -nI 10 from c_24)
      refine r_bipush (v := 10) C dJ6_stringSize_0f7a4_31 (by decide) ?_
      refine r_iload_n C dJ6_stringSize_0f7a4_33 rfl ?_
      refine r_imul C dJ6_stringSize_0f7a4_34 ?_
      refine r_conv (L' := [some (.int ((-(nI v)))), some (.int 0), some (.int ((-10))), some (.int 1)]) (st' := [.int ((-100))]) rfl (by rw [show (10 : Int32) * (-10) = (-100) by decide]) ?_
      refine r_istore_n C dJ6_stringSize_0f7a4_35 (by decide) ?_
      refine r_iinc (v := 2) C dJ6_stringSize_0f7a4_36 rfl (by decide) (by decide) ?_
      refine r_goto (tgt := 16) C dJ6_stringSize_0f7a4_39 (by decide) ?_
      refine r_iload_n C dJ6_stringSize_0f7a4_16 rfl ?_
      refine r_bipush (v := 10) C dJ6_stringSize_0f7a4_17 (by decide) ?_
      refine r_ic_ge (tgt := 42) C dJ6_stringSize_0f7a4_19 (by decide) (fun h_ => absurd h_ (by decide)) (fun c_19 => ?_)
      refine r_iload_n C dJ6_stringSize_0f7a4_22 rfl ?_
      refine r_iload_n C dJ6_stringSize_0f7a4_23 rfl ?_
      refine r_ic_le (tgt := 31) C dJ6_stringSize_0f7a4_24 (by decide) (fun c_24 => ?_) (fun c_24 => ?_)
      · have hlo : 100 ≤ v := (sb_nle hv (by decide)).mp (show -nI v ≤ -nI 100 from c_24)
        refine r_bipush (v := 10) C dJ6_stringSize_0f7a4_31 (by decide) ?_
        refine r_iload_n C dJ6_stringSize_0f7a4_33 rfl ?_
        refine r_imul C dJ6_stringSize_0f7a4_34 ?_
        refine r_conv (L' := [some (.int ((-(nI v)))), some (.int 0), some (.int ((-100))), some (.int 2)]) (st' := [.int ((-1000))]) rfl (by rw [show (10 : Int32) * (-100) = (-1000) by decide]) ?_
        refine r_istore_n C dJ6_stringSize_0f7a4_35 (by decide) ?_
        refine r_iinc (v := 3) C dJ6_stringSize_0f7a4_36 rfl (by decide) (by decide) ?_
        refine r_goto (tgt := 16) C dJ6_stringSize_0f7a4_39 (by decide) ?_
        refine r_iload_n C dJ6_stringSize_0f7a4_16 rfl ?_
        refine r_bipush (v := 10) C dJ6_stringSize_0f7a4_17 (by decide) ?_
        refine r_ic_ge (tgt := 42) C dJ6_stringSize_0f7a4_19 (by decide) (fun h_ => absurd h_ (by decide)) (fun c_19 => ?_)
        refine r_iload_n C dJ6_stringSize_0f7a4_22 rfl ?_
        refine r_iload_n C dJ6_stringSize_0f7a4_23 rfl ?_
        refine r_ic_le (tgt := 31) C dJ6_stringSize_0f7a4_24 (by decide) (fun c_24 => ?_) (fun c_24 => ?_)
        · have hlo : 1000 ≤ v := (sb_nle hv (by decide)).mp (show -nI v ≤ -nI 1000 from c_24)
          refine r_bipush (v := 10) C dJ6_stringSize_0f7a4_31 (by decide) ?_
          refine r_iload_n C dJ6_stringSize_0f7a4_33 rfl ?_
          refine r_imul C dJ6_stringSize_0f7a4_34 ?_
          refine r_conv (L' := [some (.int ((-(nI v)))), some (.int 0), some (.int ((-1000))), some (.int 3)]) (st' := [.int ((-10000))]) rfl (by rw [show (10 : Int32) * (-1000) = (-10000) by decide]) ?_
          refine r_istore_n C dJ6_stringSize_0f7a4_35 (by decide) ?_
          refine r_iinc (v := 4) C dJ6_stringSize_0f7a4_36 rfl (by decide) (by decide) ?_
          refine r_goto (tgt := 16) C dJ6_stringSize_0f7a4_39 (by decide) ?_
          refine r_iload_n C dJ6_stringSize_0f7a4_16 rfl ?_
          refine r_bipush (v := 10) C dJ6_stringSize_0f7a4_17 (by decide) ?_
          refine r_ic_ge (tgt := 42) C dJ6_stringSize_0f7a4_19 (by decide) (fun h_ => absurd h_ (by decide)) (fun c_19 => ?_)
          refine r_iload_n C dJ6_stringSize_0f7a4_22 rfl ?_
          refine r_iload_n C dJ6_stringSize_0f7a4_23 rfl ?_
          refine r_ic_le (tgt := 31) C dJ6_stringSize_0f7a4_24 (by decide) (fun c_24 => ?_) (fun c_24 => ?_)
          · have hlo : 10000 ≤ v := (sb_nle hv (by decide)).mp (show -nI v ≤ -nI 10000 from c_24)
            refine r_bipush (v := 10) C dJ6_stringSize_0f7a4_31 (by decide) ?_
            refine r_iload_n C dJ6_stringSize_0f7a4_33 rfl ?_
            refine r_imul C dJ6_stringSize_0f7a4_34 ?_
            refine r_conv (L' := [some (.int ((-(nI v)))), some (.int 0), some (.int ((-10000))), some (.int 4)]) (st' := [.int ((-100000))]) rfl (by rw [show (10 : Int32) * (-10000) = (-100000) by decide]) ?_
            refine r_istore_n C dJ6_stringSize_0f7a4_35 (by decide) ?_
            refine r_iinc (v := 5) C dJ6_stringSize_0f7a4_36 rfl (by decide) (by decide) ?_
            refine r_goto (tgt := 16) C dJ6_stringSize_0f7a4_39 (by decide) ?_
            refine r_iload_n C dJ6_stringSize_0f7a4_16 rfl ?_
            refine r_bipush (v := 10) C dJ6_stringSize_0f7a4_17 (by decide) ?_
            refine r_ic_ge (tgt := 42) C dJ6_stringSize_0f7a4_19 (by decide) (fun h_ => absurd h_ (by decide)) (fun c_19 => ?_)
            refine r_iload_n C dJ6_stringSize_0f7a4_22 rfl ?_
            refine r_iload_n C dJ6_stringSize_0f7a4_23 rfl ?_
            refine r_ic_le (tgt := 31) C dJ6_stringSize_0f7a4_24 (by decide) (fun c_24 => ?_) (fun c_24 => ?_)
            · have hlo : 100000 ≤ v := (sb_nle hv (by decide)).mp (show -nI v ≤ -nI 100000 from c_24)
              refine r_bipush (v := 10) C dJ6_stringSize_0f7a4_31 (by decide) ?_
              refine r_iload_n C dJ6_stringSize_0f7a4_33 rfl ?_
              refine r_imul C dJ6_stringSize_0f7a4_34 ?_
              refine r_conv (L' := [some (.int ((-(nI v)))), some (.int 0), some (.int ((-100000))), some (.int 5)]) (st' := [.int ((-1000000))]) rfl (by rw [show (10 : Int32) * (-100000) = (-1000000) by decide]) ?_
              refine r_istore_n C dJ6_stringSize_0f7a4_35 (by decide) ?_
              refine r_iinc (v := 6) C dJ6_stringSize_0f7a4_36 rfl (by decide) (by decide) ?_
              refine r_goto (tgt := 16) C dJ6_stringSize_0f7a4_39 (by decide) ?_
              refine r_iload_n C dJ6_stringSize_0f7a4_16 rfl ?_
              refine r_bipush (v := 10) C dJ6_stringSize_0f7a4_17 (by decide) ?_
              refine r_ic_ge (tgt := 42) C dJ6_stringSize_0f7a4_19 (by decide) (fun h_ => absurd h_ (by decide)) (fun c_19 => ?_)
              refine r_iload_n C dJ6_stringSize_0f7a4_22 rfl ?_
              refine r_iload_n C dJ6_stringSize_0f7a4_23 rfl ?_
              refine r_ic_le (tgt := 31) C dJ6_stringSize_0f7a4_24 (by decide) (fun c_24 => ?_) (fun c_24 => ?_)
              · have hlo : 1000000 ≤ v := (sb_nle hv (by decide)).mp (show -nI v ≤ -nI 1000000 from c_24)
                refine r_bipush (v := 10) C dJ6_stringSize_0f7a4_31 (by decide) ?_
                refine r_iload_n C dJ6_stringSize_0f7a4_33 rfl ?_
                refine r_imul C dJ6_stringSize_0f7a4_34 ?_
                refine r_conv (L' := [some (.int ((-(nI v)))), some (.int 0), some (.int ((-1000000))), some (.int 6)]) (st' := [.int ((-10000000))]) rfl (by rw [show (10 : Int32) * (-1000000) = (-10000000) by decide]) ?_
                refine r_istore_n C dJ6_stringSize_0f7a4_35 (by decide) ?_
                refine r_iinc (v := 7) C dJ6_stringSize_0f7a4_36 rfl (by decide) (by decide) ?_
                refine r_goto (tgt := 16) C dJ6_stringSize_0f7a4_39 (by decide) ?_
                refine r_iload_n C dJ6_stringSize_0f7a4_16 rfl ?_
                refine r_bipush (v := 10) C dJ6_stringSize_0f7a4_17 (by decide) ?_
                refine r_ic_ge (tgt := 42) C dJ6_stringSize_0f7a4_19 (by decide) (fun h_ => absurd h_ (by decide)) (fun c_19 => ?_)
                refine r_iload_n C dJ6_stringSize_0f7a4_22 rfl ?_
                refine r_iload_n C dJ6_stringSize_0f7a4_23 rfl ?_
                refine r_ic_le (tgt := 31) C dJ6_stringSize_0f7a4_24 (by decide) (fun c_24 => ?_) (fun c_24 => ?_)
                · have hlo : 10000000 ≤ v := (sb_nle hv (by decide)).mp (show -nI v ≤ -nI 10000000 from c_24)
                  refine r_bipush (v := 10) C dJ6_stringSize_0f7a4_31 (by decide) ?_
                  refine r_iload_n C dJ6_stringSize_0f7a4_33 rfl ?_
                  refine r_imul C dJ6_stringSize_0f7a4_34 ?_
                  refine r_conv (L' := [some (.int ((-(nI v)))), some (.int 0), some (.int ((-10000000))), some (.int 7)]) (st' := [.int ((-100000000))]) rfl (by rw [show (10 : Int32) * (-10000000) = (-100000000) by decide]) ?_
                  refine r_istore_n C dJ6_stringSize_0f7a4_35 (by decide) ?_
                  refine r_iinc (v := 8) C dJ6_stringSize_0f7a4_36 rfl (by decide) (by decide) ?_
                  refine r_goto (tgt := 16) C dJ6_stringSize_0f7a4_39 (by decide) ?_
                  refine r_iload_n C dJ6_stringSize_0f7a4_16 rfl ?_
                  refine r_bipush (v := 10) C dJ6_stringSize_0f7a4_17 (by decide) ?_
                  refine r_ic_ge (tgt := 42) C dJ6_stringSize_0f7a4_19 (by decide) (fun h_ => absurd h_ (by decide)) (fun c_19 => ?_)
                  refine r_iload_n C dJ6_stringSize_0f7a4_22 rfl ?_
                  refine r_iload_n C dJ6_stringSize_0f7a4_23 rfl ?_
                  refine r_ic_le (tgt := 31) C dJ6_stringSize_0f7a4_24 (by decide) (fun c_24 => ?_) (fun c_24 => ?_)
                  · have hlo : 100000000 ≤ v := (sb_nle hv (by decide)).mp (show -nI v ≤ -nI 100000000 from c_24)
                    refine r_bipush (v := 10) C dJ6_stringSize_0f7a4_31 (by decide) ?_
                    refine r_iload_n C dJ6_stringSize_0f7a4_33 rfl ?_
                    refine r_imul C dJ6_stringSize_0f7a4_34 ?_
                    refine r_conv (L' := [some (.int ((-(nI v)))), some (.int 0), some (.int ((-100000000))), some (.int 8)]) (st' := [.int ((-1000000000))]) rfl (by rw [show (10 : Int32) * (-100000000) = (-1000000000) by decide]) ?_
                    refine r_istore_n C dJ6_stringSize_0f7a4_35 (by decide) ?_
                    refine r_iinc (v := 9) C dJ6_stringSize_0f7a4_36 rfl (by decide) (by decide) ?_
                    refine r_goto (tgt := 16) C dJ6_stringSize_0f7a4_39 (by decide) ?_
                    refine r_iload_n C dJ6_stringSize_0f7a4_16 rfl ?_
                    refine r_bipush (v := 10) C dJ6_stringSize_0f7a4_17 (by decide) ?_
                    refine r_ic_ge (tgt := 42) C dJ6_stringSize_0f7a4_19 (by decide) (fun h_ => absurd h_ (by decide)) (fun c_19 => ?_)
                    refine r_iload_n C dJ6_stringSize_0f7a4_22 rfl ?_
                    refine r_iload_n C dJ6_stringSize_0f7a4_23 rfl ?_
                    refine r_ic_le (tgt := 31) C dJ6_stringSize_0f7a4_24 (by decide) (fun c_24 => ?_) (fun c_24 => ?_)
                    · have hlo : 1000000000 ≤ v := (sb_nle hv (by decide)).mp (show -nI v ≤ -nI 1000000000 from c_24)
                      refine r_bipush (v := 10) C dJ6_stringSize_0f7a4_31 (by decide) ?_
                      refine r_iload_n C dJ6_stringSize_0f7a4_33 rfl ?_
                      refine r_imul C dJ6_stringSize_0f7a4_34 ?_
                      refine r_conv (L' := [some (.int ((-(nI v)))), some (.int 0), some (.int ((-1000000000))), some (.int 9)]) (st' := [.int ((-10000000000))]) rfl (by rw [show (10 : Int32) * (-1000000000) = (-10000000000) by decide]) ?_
                      refine r_istore_n C dJ6_stringSize_0f7a4_35 (by decide) ?_
                      refine r_iinc (v := 10) C dJ6_stringSize_0f7a4_36 rfl (by decide) (by decide) ?_
                      refine r_goto (tgt := 16) C dJ6_stringSize_0f7a4_39 (by decide) ?_
                      refine r_iload_n C dJ6_stringSize_0f7a4_16 rfl ?_
                      refine r_bipush (v := 10) C dJ6_stringSize_0f7a4_17 (by decide) ?_
                      refine r_ic_ge (tgt := 42) C dJ6_stringSize_0f7a4_19 (by decide) (fun c_19 => ?_) (fun h_ => absurd h_ (by decide))
                      refine r_bipush (v := 10) C dJ6_stringSize_0f7a4_42 (by decide) ?_
                      refine r_iload_n C dJ6_stringSize_0f7a4_44 rfl ?_
                      refine r_iadd C dJ6_stringSize_0f7a4_45 ?_
                      refine r_conv (L' := [some (.int ((-(nI v)))), some (.int 0), some (.int ((-10000000000))), some (.int 10)]) (st' := [.int 10]) rfl (by rw [show (10 : Int32) + 0 = 10 by decide]) ?_
                      refine r_ireturn C rfl rfl dJ6_stringSize_0f7a4_46 ?_ rfl rfl
                      exact ⟨by rw [show sb_dg v = 10 by unfold sb_dg; (repeat' split) <;> omega]; rfl, rfl⟩
                    · have hup : v < 1000000000 := by rcases Nat.lt_or_ge v 1000000000 with q | q; exact q; exact absurd (show -nI v ≤ -nI 1000000000 from (sb_nle hv (by decide)).mpr q) c_24
                      refine r_iload_n C dJ6_stringSize_0f7a4_27 rfl ?_
                      refine r_iload_n C dJ6_stringSize_0f7a4_28 rfl ?_
                      refine r_iadd C dJ6_stringSize_0f7a4_29 ?_
                      refine r_conv (L' := [some (.int ((-(nI v)))), some (.int 0), some (.int ((-1000000000))), some (.int 9)]) (st' := [.int 9]) rfl (by rw [show (9 : Int32) + 0 = 9 by decide]) ?_
                      refine r_ireturn C rfl rfl dJ6_stringSize_0f7a4_30 ?_ rfl rfl
                      exact ⟨by rw [show sb_dg v = 9 by unfold sb_dg; (repeat' split) <;> omega]; rfl, rfl⟩
                  · have hup : v < 100000000 := by rcases Nat.lt_or_ge v 100000000 with q | q; exact q; exact absurd (show -nI v ≤ -nI 100000000 from (sb_nle hv (by decide)).mpr q) c_24
                    refine r_iload_n C dJ6_stringSize_0f7a4_27 rfl ?_
                    refine r_iload_n C dJ6_stringSize_0f7a4_28 rfl ?_
                    refine r_iadd C dJ6_stringSize_0f7a4_29 ?_
                    refine r_conv (L' := [some (.int ((-(nI v)))), some (.int 0), some (.int ((-100000000))), some (.int 8)]) (st' := [.int 8]) rfl (by rw [show (8 : Int32) + 0 = 8 by decide]) ?_
                    refine r_ireturn C rfl rfl dJ6_stringSize_0f7a4_30 ?_ rfl rfl
                    exact ⟨by rw [show sb_dg v = 8 by unfold sb_dg; (repeat' split) <;> omega]; rfl, rfl⟩
                · have hup : v < 10000000 := by rcases Nat.lt_or_ge v 10000000 with q | q; exact q; exact absurd (show -nI v ≤ -nI 10000000 from (sb_nle hv (by decide)).mpr q) c_24
                  refine r_iload_n C dJ6_stringSize_0f7a4_27 rfl ?_
                  refine r_iload_n C dJ6_stringSize_0f7a4_28 rfl ?_
                  refine r_iadd C dJ6_stringSize_0f7a4_29 ?_
                  refine r_conv (L' := [some (.int ((-(nI v)))), some (.int 0), some (.int ((-10000000))), some (.int 7)]) (st' := [.int 7]) rfl (by rw [show (7 : Int32) + 0 = 7 by decide]) ?_
                  refine r_ireturn C rfl rfl dJ6_stringSize_0f7a4_30 ?_ rfl rfl
                  exact ⟨by rw [show sb_dg v = 7 by unfold sb_dg; (repeat' split) <;> omega]; rfl, rfl⟩
              · have hup : v < 1000000 := by rcases Nat.lt_or_ge v 1000000 with q | q; exact q; exact absurd (show -nI v ≤ -nI 1000000 from (sb_nle hv (by decide)).mpr q) c_24
                refine r_iload_n C dJ6_stringSize_0f7a4_27 rfl ?_
                refine r_iload_n C dJ6_stringSize_0f7a4_28 rfl ?_
                refine r_iadd C dJ6_stringSize_0f7a4_29 ?_
                refine r_conv (L' := [some (.int ((-(nI v)))), some (.int 0), some (.int ((-1000000))), some (.int 6)]) (st' := [.int 6]) rfl (by rw [show (6 : Int32) + 0 = 6 by decide]) ?_
                refine r_ireturn C rfl rfl dJ6_stringSize_0f7a4_30 ?_ rfl rfl
                exact ⟨by rw [show sb_dg v = 6 by unfold sb_dg; (repeat' split) <;> omega]; rfl, rfl⟩
            · have hup : v < 100000 := by rcases Nat.lt_or_ge v 100000 with q | q; exact q; exact absurd (show -nI v ≤ -nI 100000 from (sb_nle hv (by decide)).mpr q) c_24
              refine r_iload_n C dJ6_stringSize_0f7a4_27 rfl ?_
              refine r_iload_n C dJ6_stringSize_0f7a4_28 rfl ?_
              refine r_iadd C dJ6_stringSize_0f7a4_29 ?_
              refine r_conv (L' := [some (.int ((-(nI v)))), some (.int 0), some (.int ((-100000))), some (.int 5)]) (st' := [.int 5]) rfl (by rw [show (5 : Int32) + 0 = 5 by decide]) ?_
              refine r_ireturn C rfl rfl dJ6_stringSize_0f7a4_30 ?_ rfl rfl
              exact ⟨by rw [show sb_dg v = 5 by unfold sb_dg; (repeat' split) <;> omega]; rfl, rfl⟩
          · have hup : v < 10000 := by rcases Nat.lt_or_ge v 10000 with q | q; exact q; exact absurd (show -nI v ≤ -nI 10000 from (sb_nle hv (by decide)).mpr q) c_24
            refine r_iload_n C dJ6_stringSize_0f7a4_27 rfl ?_
            refine r_iload_n C dJ6_stringSize_0f7a4_28 rfl ?_
            refine r_iadd C dJ6_stringSize_0f7a4_29 ?_
            refine r_conv (L' := [some (.int ((-(nI v)))), some (.int 0), some (.int ((-10000))), some (.int 4)]) (st' := [.int 4]) rfl (by rw [show (4 : Int32) + 0 = 4 by decide]) ?_
            refine r_ireturn C rfl rfl dJ6_stringSize_0f7a4_30 ?_ rfl rfl
            exact ⟨by rw [show sb_dg v = 4 by unfold sb_dg; (repeat' split) <;> omega]; rfl, rfl⟩
        · have hup : v < 1000 := by rcases Nat.lt_or_ge v 1000 with q | q; exact q; exact absurd (show -nI v ≤ -nI 1000 from (sb_nle hv (by decide)).mpr q) c_24
          refine r_iload_n C dJ6_stringSize_0f7a4_27 rfl ?_
          refine r_iload_n C dJ6_stringSize_0f7a4_28 rfl ?_
          refine r_iadd C dJ6_stringSize_0f7a4_29 ?_
          refine r_conv (L' := [some (.int ((-(nI v)))), some (.int 0), some (.int ((-1000))), some (.int 3)]) (st' := [.int 3]) rfl (by rw [show (3 : Int32) + 0 = 3 by decide]) ?_
          refine r_ireturn C rfl rfl dJ6_stringSize_0f7a4_30 ?_ rfl rfl
          exact ⟨by rw [show sb_dg v = 3 by unfold sb_dg; (repeat' split) <;> omega]; rfl, rfl⟩
      · have hup : v < 100 := by rcases Nat.lt_or_ge v 100 with q | q; exact q; exact absurd (show -nI v ≤ -nI 100 from (sb_nle hv (by decide)).mpr q) c_24
        refine r_iload_n C dJ6_stringSize_0f7a4_27 rfl ?_
        refine r_iload_n C dJ6_stringSize_0f7a4_28 rfl ?_
        refine r_iadd C dJ6_stringSize_0f7a4_29 ?_
        refine r_conv (L' := [some (.int ((-(nI v)))), some (.int 0), some (.int ((-100))), some (.int 2)]) (st' := [.int 2]) rfl (by rw [show (2 : Int32) + 0 = 2 by decide]) ?_
        refine r_ireturn C rfl rfl dJ6_stringSize_0f7a4_30 ?_ rfl rfl
        exact ⟨by rw [show sb_dg v = 2 by unfold sb_dg; (repeat' split) <;> omega]; rfl, rfl⟩
    · have hup : v < 10 := by rcases Nat.lt_or_ge v 10 with q | q; exact q; exact absurd (show -nI v ≤ -nI 10 from (sb_nle hv (by decide)).mpr q) c_24
      refine r_iload_n C dJ6_stringSize_0f7a4_27 rfl ?_
      refine r_iload_n C dJ6_stringSize_0f7a4_28 rfl ?_
      refine r_iadd C dJ6_stringSize_0f7a4_29 ?_
      refine r_conv (L' := [some (.int ((-(nI v)))), some (.int 0), some (.int ((-10))), some (.int 1)]) (st' := [.int 1]) rfl (by rw [show (1 : Int32) + 0 = 1 by decide]) ?_
      refine r_ireturn C rfl rfl dJ6_stringSize_0f7a4_30 ?_ rfl rfl
      exact ⟨by rw [show sb_dg v = 1 by unfold sb_dg; (repeat' split) <;> omega]; rfl, rfl⟩
-- java/lang/Integer.getChars
set_option maxHeartbeats 1000000 in
set_option maxRecDepth 20000 in
theorem j_J6_getChars_ba4f3 (l : Launch) (G : GT) (M : Mem) (x m n w : Nat) (z : Nat → Int32) (h_x : M x = some (.inl (gc G 1, m, .inl z))) (hm : n + sb_dg w ≤ m) (hm2 : m ≤ 200) (hw : w < 2 ^ 31) (hf : sb_Fit z) : Ct l G yJ6_getChars_ba4f3 cJ6_getChars_ba4f3 7 (some .int) ({ frames := 0, cells := 0, slots := 0, locals := 0 } : Room) [.int ((nI w)), .int ((nI (n + sb_dg w))), .ref x] M (fun ov M' => ov = some (.int (nI n)) ∧ (∃ z', M' = mup M x (.inl (gc G 1, m, .inl z')) ∧ gcFin z z' n w)) := by
  refine Ct.of (by decide) rfl (Nat.le_of_ble_eq_true rfl) ?_
  intro X A C hl hin
  subst hl
  refine r_iload_n C dJ6_getChars_ba4f3_0 rfl ?_
  refine r_istore C dJ6_getChars_ba4f3_1 (by decide) ?_
  refine r_iload_n C dJ6_getChars_ba4f3_3 rfl ?_
  refine r_if_ge (tgt := 11) C dJ6_getChars_ba4f3_4 (by decide) (fun c_4 => ?_) (fun c_4 => ?_)
  · refine r_iconst (v := 0) C dJ6_getChars_ba4f3_11 (by decide) ?_
    refine r_istore C dJ6_getChars_ba4f3_12 (by decide) ?_
    refine r_iload C dJ6_getChars_ba4f3_14 rfl ?_
    refine r_if_ne (tgt := 22) C dJ6_getChars_ba4f3_16 (by decide) (fun h_ => absurd h_ (by decide)) (fun c_16 => ?_)
    refine r_iload_n C dJ6_getChars_ba4f3_19 rfl ?_
    refine r_ineg C dJ6_getChars_ba4f3_20 ?_
    refine r_istore_n C dJ6_getChars_ba4f3_21 (by decide) ?_
    suffices K22 : ∀ (f u p : Nat) (Ml : Mem) (zl : Nat → Int32), u < f → u < 2 ^ 31 → p = n + sb_dg u → p ≤ m → Ml = mup M x (.inl (gc G 1, m, .inl zl)) → sb_Fit zl → (∀ z', (∀ j, j < n ∨ p ≤ j → z' j = zl j) → (∀ i, i < sb_dg u → z' (p - 1 - i) = sb_b (48 + u / 10 ^ i % 10)) → sb_Fit z' → gcFin z z' n w) → WM X G A Ml 0 0 _ 22 [some (.int ((-(nI u)))), some (.int ((nI (n + sb_dg w)))), some (.ref x), none, none, some (.int ((nI p))), some (.int 0)] [] from K22 (w + 1) w _ _ z (by omega) hw rfl hm (mup_id h_x) hf (fun z' h1 h2 h3 => ⟨h1, h2, h3⟩)
    intro f
    induction f with
    | zero => intro u p Ml zl h; omega
    | succ f ih =>
      intro u p Ml zl hu hu2 hp hpm hMl hfl hP
      have hxl : Ml x = some (.inl (gc G 1, m, .inl zl)) := by rw [hMl]; exact mup_s
      have hd := sb_dg_in u
      refine r_iload_n C dJ6_getChars_ba4f3_22 rfl ?_
      refine r_bipush (v := (-100)) C dJ6_getChars_ba4f3_23 (by decide) ?_
      refine r_ic_gt (tgt := 72) C dJ6_getChars_ba4f3_25 (by decide) (fun c_25 => ?_) (fun c_25 => ?_)
      · have h100 : u < 100 := (sb_nlt (by decide) hu2).mp (show -nI 100 < -nI u from c_25)
        refine r_aload_n C dJ6_getChars_ba4f3_72 rfl ?_
        refine r_iinc (v := (nI (p - 1))) C dJ6_getChars_ba4f3_73 rfl (sb_m1 (by omega)) (by decide) ?_
        refine r_iload C dJ6_getChars_ba4f3_76 rfl ?_
        refine r_gets C C.ev.2.1.1 aw_659 dJ6_getChars_ba4f3_78 ?_
        refine r_iload_n C dJ6_getChars_ba4f3_81 rfl ?_
        refine r_ineg C dJ6_getChars_ba4f3_82 ?_
        refine r_conv (L' := [some (.int ((-(nI u)))), some (.int ((nI (n + sb_dg w)))), some (.ref x), none, none, some (.int ((nI (p - 1)))), some (.int 0)]) (st' := [.int ((nI u)), .ref (gst G 0), .int ((nI (p - 1))), .ref x]) (rfl) (by rw [Int32.neg_neg]) ?_
        refine r_baldT C C.ev.2.1.2 (vp_in_nI (by omega) (by decide)) rfl dJ6_getChars_ba4f3_83 ?_
        refine r_bast C hxl (vp_in_nI (by omega) (by omega)) dJ6_getChars_ba4f3_84 ?_
        refine r_named (e' := .inl (gc G 1, m, .inl (upd zl (p - 1) (sb_b (48 + u % 10))))) (by rw [nI_clamp (n := p - 1) (by omega), nI_clamp (n := u) (by omega), ← ones_dg u, show u % 100 = u by omega]) (fun M84 hM84 => ?_)
        have f84_x : M84 x = some (.inl (gc G 1, m, .inl (upd zl (p - 1) (sb_b (48 + u % 10))))) := by rw [hM84]; exact mup_s
        refine r_iload_n C dJ6_getChars_ba4f3_85 rfl ?_
        refine r_bipush (v := (-9)) C dJ6_getChars_ba4f3_86 (by decide) ?_
        refine r_ic_ge (tgt := 104) C dJ6_getChars_ba4f3_88 (by decide) (fun c_88 => ?_) (fun c_88 => ?_)
        · have h9 : u ≤ 9 := (sb_nle (by decide) hu2).mp (show -nI 9 ≤ -nI u from c_88)
          refine r_iload C dJ6_getChars_ba4f3_104 rfl ?_
          refine r_if_eq (tgt := 118) C dJ6_getChars_ba4f3_106 (by decide) (fun c_106 => ?_) (fun h_ => absurd h_ (by decide))
          refine r_iload C dJ6_getChars_ba4f3_118 rfl ?_
          refine r_ireturn C rfl rfl dJ6_getChars_ba4f3_120 ?_ rfl rfl
          refine ⟨by rw [show p - 1 = n by have : sb_dg u = 1 := if_pos (by omega); omega], _, by rw [hM84, hMl, mup_mup], hP _ (gc_one (by omega) hp).1 (gc_one (by omega) hp).2 (sb_fitU hfl (sb_fitB _))⟩
        · have h9 : 9 < u := by rcases Nat.lt_or_ge 9 u with q | q; exact q; exact absurd (show -nI 9 ≤ -nI u from (sb_nle (by decide) hu2).mpr q) c_88
          have hd2 : sb_dg u = 2 := by rw [sb_dg, if_neg (by omega), if_pos h100]
          refine r_aload_n C dJ6_getChars_ba4f3_91 rfl ?_
          refine r_iinc (v := (nI (p - 1 - 1))) C dJ6_getChars_ba4f3_92 rfl (sb_m1 (by omega)) (by decide) ?_
          refine r_iload C dJ6_getChars_ba4f3_95 rfl ?_
          refine r_gets C C.ev.2.2.1.1 aw_661 dJ6_getChars_ba4f3_97 ?_
          refine r_iload_n C dJ6_getChars_ba4f3_100 rfl ?_
          refine r_ineg C dJ6_getChars_ba4f3_101 ?_
          refine r_conv (L' := [some (.int ((-(nI u)))), some (.int ((nI (n + sb_dg w)))), some (.ref x), none, none, some (.int ((nI (p - 1 - 1)))), some (.int 0)]) (st' := [.int ((nI u)), .ref (gst G 1), .int ((nI (p - 1 - 1))), .ref x]) (rfl) (by rw [Int32.neg_neg]) ?_
          refine r_baldT C C.ev.2.2.1.2 (vp_in_nI (by omega) (by decide)) rfl dJ6_getChars_ba4f3_102 ?_
          refine r_bast C f84_x (vp_in_nI (by omega) (by omega)) dJ6_getChars_ba4f3_103 ?_
          refine r_named (e' := .inl (gc G 1, m, .inl (upd (upd zl (p - 1) (sb_b (48 + u % 10))) (p - 1 - 1) (sb_b (48 + u / 10 % 10))))) (by rw [nI_clamp (n := p - 1 - 1) (by omega), nI_clamp (n := u) (by omega), ← tens_dg u, show u % 100 = u by omega]) (fun M103 hM103 => ?_)
          have f103_x : M103 x = some (.inl (gc G 1, m, .inl (upd (upd zl (p - 1) (sb_b (48 + u % 10))) (p - 1 - 1) (sb_b (48 + u / 10 % 10))))) := by rw [hM103]; exact mup_s
          refine r_iload C dJ6_getChars_ba4f3_104 rfl ?_
          refine r_if_eq (tgt := 118) C dJ6_getChars_ba4f3_106 (by decide) (fun c_106 => ?_) (fun h_ => absurd h_ (by decide))
          refine r_iload C dJ6_getChars_ba4f3_118 rfl ?_
          refine r_ireturn C rfl rfl dJ6_getChars_ba4f3_120 ?_ rfl rfl
          have h10 : ¬ u < 10 := by omega
          refine ⟨by rw [show p - 1 - 1 = n by omega], _, by rw [hM103, hM84, hMl, mup_mup, mup_mup], hP _ (gc_two h10 h100 hp).1 (gc_two h10 h100 hp).2 (sb_fitU (sb_fitU hfl (sb_fitB _)) (sb_fitB _))⟩
      · have h100 : 100 ≤ u := by rcases Nat.lt_or_ge u 100 with q | q; exact absurd (show -nI 100 < -nI u from (sb_nlt (by decide) hu2).mpr q) c_25; exact q
        have hd100 := sb_dg100 h100 hu2
        have hd3 := (sb_dg_in (u / 100)).1
        refine r_iload_n C dJ6_getChars_ba4f3_28 rfl ?_
        refine r_bipush (v := 100) C dJ6_getChars_ba4f3_29 (by decide) ?_
        refine r_idiv C dJ6_getChars_ba4f3_31 (by decide) ?_
        refine r_conv (L' := [some (.int ((-(nI u)))), some (.int ((nI (n + sb_dg w)))), some (.ref x), none, none, some (.int ((nI p))), some (.int 0)]) (st' := [.int ((-(nI (u / 100))))]) (rfl) (by rw [sb_ndiv hu2]) ?_
        refine r_istore_n C dJ6_getChars_ba4f3_32 (by decide) ?_
        refine r_iload_n C dJ6_getChars_ba4f3_33 rfl ?_
        refine r_bipush (v := 100) C dJ6_getChars_ba4f3_34 (by decide) ?_
        refine r_imul C dJ6_getChars_ba4f3_36 ?_
        refine r_iload_n C dJ6_getChars_ba4f3_37 rfl ?_
        refine r_isub C dJ6_getChars_ba4f3_38 ?_
        refine r_conv (L' := [some (.int ((-(nI u)))), some (.int ((nI (n + sb_dg w)))), some (.ref x), some (.int ((-(nI (u / 100))))), none, some (.int ((nI p))), some (.int 0)]) (st' := [.int ((nI (u % 100)))]) (rfl) (by rw [sb_nrem hu2]) ?_
        refine r_istore C dJ6_getChars_ba4f3_39 (by decide) ?_
        refine r_iload_n C dJ6_getChars_ba4f3_41 rfl ?_
        refine r_istore_n C dJ6_getChars_ba4f3_42 (by decide) ?_
        refine r_aload_n C dJ6_getChars_ba4f3_43 rfl ?_
        refine r_iinc (v := (nI (p - 1))) C dJ6_getChars_ba4f3_44 rfl (sb_m1 (by omega)) (by decide) ?_
        refine r_iload C dJ6_getChars_ba4f3_47 rfl ?_
        refine r_gets C C.ev.2.1.1 aw_659 dJ6_getChars_ba4f3_49 ?_
        refine r_iload C dJ6_getChars_ba4f3_52 rfl ?_
        refine r_baldT C C.ev.2.1.2 (vp_in_nI (by omega) (by decide)) rfl dJ6_getChars_ba4f3_54 ?_
        refine r_bast C hxl (vp_in_nI (by omega) (by omega)) dJ6_getChars_ba4f3_55 ?_
        refine r_named (e' := .inl (gc G 1, m, .inl (upd zl (p - 1) (sb_b (48 + u % 10))))) (by rw [nI_clamp (n := p - 1) (by omega), nI_clamp (n := u % 100) (by omega), ones_dg]) (fun M55 hM55 => ?_)
        have f55_x : M55 x = some (.inl (gc G 1, m, .inl (upd zl (p - 1) (sb_b (48 + u % 10))))) := by rw [hM55]; exact mup_s
        refine r_aload_n C dJ6_getChars_ba4f3_56 rfl ?_
        refine r_iinc (v := (nI (p - 1 - 1))) C dJ6_getChars_ba4f3_57 rfl (sb_m1 (by omega)) (by decide) ?_
        refine r_iload C dJ6_getChars_ba4f3_60 rfl ?_
        refine r_gets C C.ev.2.2.1.1 aw_661 dJ6_getChars_ba4f3_62 ?_
        refine r_iload C dJ6_getChars_ba4f3_65 rfl ?_
        refine r_baldT C C.ev.2.2.1.2 (vp_in_nI (by omega) (by decide)) rfl dJ6_getChars_ba4f3_67 ?_
        refine r_bast C f55_x (vp_in_nI (by omega) (by omega)) dJ6_getChars_ba4f3_68 ?_
        refine r_named (e' := .inl (gc G 1, m, .inl (upd (upd zl (p - 1) (sb_b (48 + u % 10))) (p - 1 - 1) (sb_b (48 + u / 10 % 10))))) (by rw [nI_clamp (n := p - 1 - 1) (by omega), nI_clamp (n := u % 100) (by omega), tens_dg]) (fun M68 hM68 => ?_)
        have f68_x : M68 x = some (.inl (gc G 1, m, .inl (upd (upd zl (p - 1) (sb_b (48 + u % 10))) (p - 1 - 1) (sb_b (48 + u / 10 % 10))))) := by rw [hM68]; exact mup_s
        refine r_goto (tgt := 22) C dJ6_getChars_ba4f3_69 (by decide) ?_
        refine r_weak (L' := [some (.int ((-(nI (u / 100))))), some (.int ((nI (n + sb_dg w)))), some (.ref x), none, none, some (.int ((nI (p - 1 - 1)))), some (.int 0)]) (wk_c (wk_c (wk_c (wk_n (wk_n (wk_c (wk_c wk_nil))))))) ?_
        exact ih (u / 100) (p - 1 - 1) _ _ (by omega) (by omega) (by have := sb_dg100 h100 hu2; omega) (by omega) (by rw [hM68, hM55, hMl, mup_mup, mup_mup]) (sb_fitU (sb_fitU hfl (sb_fitB _)) (sb_fitB _)) (fun z' h1 h2 h3 => hP z' (gc_step (z := z) h100 hu2 hp h1 h2).1 (gc_step (z := z) h100 hu2 hp h1 h2).2 h3)
  · exact absurd (nI_pos' hw) c_4
