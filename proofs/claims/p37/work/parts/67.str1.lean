/-! STRINGS: append(String) of a word of the code and of a String made, toString. -/
theorem sbyt_fit (k : Nat) : sb_Fit (fun j => (sbyt.getD k []).getD j 0) := by
  have h9 : ∀ k, k < 25 → ∀ j, j < 10 → fits .byte (.int ((sbyt.getD k []).getD j 0)) = true := by decide
  have hl : ∀ k, k < 25 → (sbyt.getD k []).length ≤ 10 := by decide
  have h0 : fits .byte (.int 0) = true := by decide
  intro j
  show fits .byte (.int ((sbyt.getD k []).getD j 0)) = true
  by_cases hk : k < 25
  · by_cases hj : j < 10
    · exact h9 k hk j hj
    · rw [show (sbyt.getD k []).getD j 0 = 0 by rw [List.getD_eq_getElem?_getD, List.getElem?_eq_none (by have := hl k hk; omega)]; rfl]
      exact h0
  · have e : sbyt.getD k [] = [] := by rw [List.getD_eq_getElem?_getD, List.getElem?_eq_none (show sbyt.length ≤ k by show 25 ≤ k; omega)]; rfl
    rw [e]
    exact h0
theorem cpy_lo {f g : Nat → Int32} {s d c j : Nat} (h : j < d) : va_cpy f g s d c j = g j := if_neg (by omega)
theorem cpy_in {f g : Nat → Int32} {d c i : Nat} (h : i < c) : va_cpy f g 0 d c (d + i) = f i := (if_pos (by omega)).trans (by rw [show 0 + (d + i - d) = i by omega])
theorem in_TJ0 : ∀ w ∈ u_ws RJ0 TJ0 4, w ∈ AW := List.forall_mem_cons.mpr ⟨aw_718, List.forall_mem_cons.mpr ⟨aw_720, List.forall_mem_cons.mpr ⟨aw_722, List.forall_mem_cons.mpr ⟨aw_724, fun _ h => absurd h List.not_mem_nil⟩⟩⟩⟩
theorem fl_J0_9 : FLK "java/lang/String" 9 12 0 := ⟨RJ0, TJ0, 4, rfl, by decide, aw_716, in_TJ0⟩
theorem fl_J0_15 : FLK "java/lang/String" 15 12 1 := ⟨RJ0, TJ0, 4, rfl, by decide, aw_717, in_TJ0⟩
theorem fp_J0_9 : FLP "java/lang/String" 9 12 0 (.array .byte) true := ⟨RJ0, TJ0, 4, tyJ0, rfl, by decide, aw_716, in_TJ0, tyJ0_ok, nmJ0, rfl, rfl, fun h => by first | exact rfl | cases h⟩
theorem fp_J0_15 : FLP "java/lang/String" 15 12 1 .byte true := ⟨RJ0, TJ0, 4, tyJ0, rfl, by decide, aw_717, in_TJ0, tyJ0_ok, nmJ0, rfl, rfl, fun h => by first | exact rfl | cases h⟩
theorem my_J0_coder_7d493 : MV yJ0_coder_7d493 cJ0_coder_7d493 1 (some .byte) 0 := ⟨aw_610, aw_27, ⟨by decide, by decide, by decide +kernel⟩, aw_608, aw_609⟩
theorem my_J0_getBytes_840e7 : MV yJ0_getBytes_840e7 cJ0_getBytes_840e7 4 none 3 := ⟨aw_643, aw_27, ⟨by decide, by decide, by decide +kernel⟩, aw_641, aw_642⟩
theorem my_J0_init_81219 : MI yJ0_init_81219 cJ0_init_81219 2 1 := ⟨aw_682, aw_27, ⟨by decide, by decide, by decide +kernel⟩, aw_681, rfl⟩
theorem my_J0_init_db425 : MI yJ0_init_db425 cJ0_init_db425 5 2 := ⟨aw_685, aw_27, ⟨by decide, by decide, by decide +kernel⟩, aw_684, rfl⟩
theorem my_J0_isLatin1_aae02 : MV yJ0_isLatin1_aae02 cJ0_isLatin1_aae02 1 (some .boolean) 0 := ⟨aw_740, aw_27, ⟨by decide, by decide, by decide +kernel⟩, aw_738, aw_739⟩
theorem my_J0_length_8abf5 : MV yJ0_length_8abf5 cJ0_length_8abf5 1 (some .int) 0 := ⟨aw_606, aw_27, ⟨by decide, by decide, by decide +kernel⟩, aw_604, aw_605⟩
theorem my_J7_checkLength_df160 : MS yJ7_checkLength_df160 cJ7_checkLength_df160 2 none 2 := ⟨aw_702, aw_34, ⟨by decide, by decide, by decide +kernel⟩, aw_701⟩
theorem my_J7_copyOfRangeByte_39247 : MS yJ7_copyOfRangeByte_39247 cJ7_copyOfRangeByte_39247 5 (some (.array .byte)) 3 := ⟨aw_699, aw_34, ⟨by decide, by decide, by decide +kernel⟩, aw_698⟩
theorem my_J7_copyOfRange_39247 : MS yJ7_copyOfRange_39247 cJ7_copyOfRange_39247 3 (some (.array .byte)) 3 := ⟨aw_696, aw_34, ⟨by decide, by decide, by decide +kernel⟩, aw_695⟩
theorem cn_J4_18 : CN "java/lang/StringBuilder" 18 12 4 tyJ0 := ⟨RJ0, TJ0, rfl, aw_678, aw_679, aw_27, in_TJ0, tyJ0_ok⟩
theorem ZD_12 : ∀ j, j < 4 → defaultValue (tyJ0 j) = vp_V [.null, .int 0, .int 0, .int 0] j := zd_of rfl
-- java/lang/String.getBytes
set_option maxHeartbeats 1000000 in
set_option maxRecDepth 20000 in
theorem j_J0c_getBytes (l : Launch) (G : GT) (M : Mem) (k : Nat) (v n cap : Nat) (z : Nat → Int32) (h_v : M v = some (.inl (gc G 1, cap, .inl z))) (hk : 10 ≤ k ∧ k < 25) (hn : n + (slen.getD k 0) ≤ cap) (hcap : cap ≤ 200) : Ct l G yJ0_getBytes_840e7 cJ0_getBytes_840e7 4 none ({ frames := 5, cells := 0, slots := 0, locals := 116 } : Room) [.ref (gK G k), .ref v, .int ((nI n)), .int 0] M (fun ov M' => ov = none ∧ (M' = mup M v (.inl (gc G 1, cap, .inl (va_cpy (fun j => (sbyt.getD k []).getD j 0) z 0 n (slen.getD k 0)))))) := by
  refine Ct.of (by decide) rfl (Nat.le_of_ble_eq_true rfl) ?_
  intro X A C hl hin
  subst hl
  refine r_aload_n C dJ0_getBytes_840e7_0 rfl ?_
  refine r_cVg (na := 0) C (j_J0_coder_7d493 _ G M k hk) ⟨aw_610, aw_27, ⟨by decide, by decide, by decide +kernel⟩, aw_608⟩ (C.ts _ aw_609) aw_607 (rc_str C hk) rfl rfl (Nat.le_of_ble_eq_true rfl) rfl dJ0_getBytes_840e7_1 (r_pureI ?_)
  refine r_iload_n C dJ0_getBytes_840e7_4 rfl ?_
  refine r_ic_ne (tgt := 28) C dJ0_getBytes_840e7_5 (by decide) (fun h_ => absurd h_ (by decide)) (fun c_5 => ?_)
  refine r_aload_n C dJ0_getBytes_840e7_8 rfl ?_
  refine r_getF C (C.str hk).2.2.1 aw_716 dJ0_getBytes_840e7_9 ?_
  refine r_iconst (v := 0) C dJ0_getBytes_840e7_12 (by decide) ?_
  refine r_aload_n C dJ0_getBytes_840e7_13 rfl ?_
  refine r_iload_n C dJ0_getBytes_840e7_14 rfl ?_
  refine r_iload_n C dJ0_getBytes_840e7_15 rfl ?_
  refine r_ishl C dJ0_getBytes_840e7_16 ?_
  refine r_conv (L' := [some (.ref (gK G k)), some (.ref v), some (.int ((nI n))), some (.int 0)]) (st' := [.int ((nI n)), .ref v, .int 0, .ref (gV G k)]) (rfl) (by rw [sb_shl0]) ?_
  refine r_aload_n C dJ0_getBytes_840e7_17 rfl ?_
  refine r_getF C (C.str hk).2.2.1 aw_716 dJ0_getBytes_840e7_18 ?_
  refine r_lenT C (C.str hk).2.2.2 dJ0_getBytes_840e7_21 ?_
  refine r_acpyT (f := (fun j => (sbyt.getD k []).getD j 0)) C aw_644 (C.str hk).2.2.2 h_v (by decide) (nI_pos (by omega)) (nI_pos (by have := slen_lt k; omega)) (by rw [nI_clamp (n := (slen.getD k 0)) (by have := slen_lt k; omega), sb_cl0]; omega) (by rw [nI_clamp (n := (slen.getD k 0)) (by have := slen_lt k; omega), nI_clamp (n := n) (by omega)]; omega) (fun i hi => by rw [sb_cl0, Nat.zero_add]; exact sbyt_fit k i) rfl (by decide) dJ0_getBytes_840e7_22 ?_
  refine r_named (e' := .inl (gc G 1, cap, .inl (va_cpy (fun j => (sbyt.getD k []).getD j 0) z (0 : Int32).toNatClampNeg ((nI n) : Int32).toNatClampNeg ((nI (slen.getD k 0))).toNatClampNeg))) rfl (fun M22 hM22 => ?_)
  have f22_v : M22 v = some (.inl (gc G 1, cap, .inl (va_cpy (fun j => (sbyt.getD k []).getD j 0) z (0 : Int32).toNatClampNeg ((nI n) : Int32).toNatClampNeg ((nI (slen.getD k 0))).toNatClampNeg))) := by rw [hM22]; exact mup_s
  refine r_goto (tgt := 43) C dJ0_getBytes_840e7_25 (by decide) ?_
  refine r_return C rfl dJ0_getBytes_840e7_43 ?_ rfl rfl
  exact ⟨rfl, by rw [hM22, sb_cl0, nI_clamp (n := n) (by omega), nI_clamp (n := (slen.getD k 0)) (by have := slen_lt k; omega)]⟩
-- java/lang/AbstractStringBuilder.inflateIfNeededFor
set_option maxHeartbeats 1000000 in
set_option maxRecDepth 20000 in
theorem j_J5c_inflate (l : Launch) (G : GT) (M : Mem) (b v n : Nat) (ml : Int32) (k : Nat)  (h_b : M b = some (.inr (0, [.ref v, .int 0, .int ml, .int ((nI n))]))) (hk : 10 ≤ k ∧ k < 25) : Ct l G yJ5_inflateIfNeededFor_a7421 cJ5_inflateIfNeededFor_a7421 2 none ({ frames := 6, cells := 0, slots := 0, locals := 137 } : Room) [.ref b, .ref (gK G k)] M (fun ov M' => ov = none ∧ M' = M) := by
  refine Ct.of (by decide) rfl (Nat.le_of_ble_eq_true rfl) ?_
  intro X A C hl hin
  subst hl
  refine r_gets C C.ev.1 aw_254 dJ5_inflateIfNeededFor_a7421_0 ?_
  refine r_if_eq (tgt := 21) C dJ5_inflateIfNeededFor_a7421_3 (by decide) (fun h_ => absurd h_ (by decide)) (fun c_3 => ?_)
  refine r_aload_n C dJ5_inflateIfNeededFor_a7421_6 rfl ?_
  refine r_getf C fl_J5_22 h_b rfl dJ5_inflateIfNeededFor_a7421_7 ?_
  refine r_aload_n C dJ5_inflateIfNeededFor_a7421_10 rfl ?_
  refine r_cVg (na := 0) C (j_J0_coder_7d493 _ G M k hk) ⟨aw_610, aw_27, ⟨by decide, by decide, by decide +kernel⟩, aw_608⟩ (C.ts _ aw_609) aw_620 (rc_str C hk) rfl rfl (Nat.le_of_ble_eq_true rfl) rfl dJ5_inflateIfNeededFor_a7421_11 (r_pureI ?_)
  refine r_ic_eq (tgt := 21) C dJ5_inflateIfNeededFor_a7421_14 (by decide) (fun c_14 => ?_) (fun h_ => absurd h_ (by decide))
  refine r_return C rfl dJ5_inflateIfNeededFor_a7421_21 ?_ rfl rfl
  exact ⟨rfl, rfl⟩
-- java/lang/AbstractStringBuilder.putStringAt
set_option maxHeartbeats 1000000 in
set_option maxRecDepth 20000 in
theorem j_J5c_putStringAt (l : Launch) (G : GT) (M : Mem) (b v n cap : Nat) (ml : Int32) (z : Nat → Int32) (k : Nat)  (h_b : M b = some (.inr (0, [.ref v, .int 0, .int ml, .int ((nI n))]))) (h_v : M v = some (.inl (gc G 1, cap, .inl z))) (hk : 10 ≤ k ∧ k < 25) (hn : n + (slen.getD k 0) ≤ cap) (hcap : cap ≤ 200) : Ct l G yJ5_putStringAt_47b60 cJ5_putStringAt_47b60 3 none ({ frames := 7, cells := 0, slots := 0, locals := 158 } : Room) [.ref b, .int ((nI n)), .ref (gK G k)] M (fun ov M' => ov = none ∧ (M' = mup M v (.inl (gc G 1, cap, .inl (va_cpy (fun j => (sbyt.getD k []).getD j 0) z 0 n (slen.getD k 0)))))) := by
  refine Ct.of (by decide) rfl (Nat.le_of_ble_eq_true rfl) ?_
  intro X A C hl hin
  subst hl
  refine r_aload_n C dJ5_putStringAt_47b60_0 rfl ?_
  refine r_aload_n C dJ5_putStringAt_47b60_1 rfl ?_
  refine r_cVg (na := 1) C (j_J5c_inflate _ G M b v n ml k h_b hk) ⟨aw_619, aw_25, ⟨by decide, by decide, by decide +kernel⟩, aw_618⟩ (va_tabs rfl rfl (C.ev.2.2.2.2.2.2.2.2.2.2.2.1 _ (List.mem_cons_of_mem _ (List.mem_cons_of_mem _ (List.mem_cons_of_mem _ (List.mem_cons_of_mem _ (List.mem_cons_of_mem _ (List.mem_cons_of_mem _ List.mem_cons_self)))))))) aw_616 (rc_mem C h_b rfl) rfl rfl (Nat.le_of_ble_eq_true rfl) rfl dJ5_putStringAt_47b60_2 (r_pureV ?_)
  refine r_aload_n C dJ5_putStringAt_47b60_5 rfl ?_
  refine r_aload_n C dJ5_putStringAt_47b60_6 rfl ?_
  refine r_getf C fl_J5_15 h_b rfl dJ5_putStringAt_47b60_7 ?_
  refine r_iload_n C dJ5_putStringAt_47b60_10 rfl ?_
  refine r_aload_n C dJ5_putStringAt_47b60_11 rfl ?_
  refine r_getf C fl_J5_22 h_b rfl dJ5_putStringAt_47b60_12 ?_
  refine r_cVg (na := 3) C (j_J0c_getBytes _ G M k v n cap z h_v hk hn hcap) ⟨aw_643, aw_27, ⟨by decide, by decide, by decide +kernel⟩, aw_641⟩ (C.ts _ aw_642) aw_640 (rc_str C hk) rfl rfl (Nat.le_of_ble_eq_true rfl) rfl dJ5_putStringAt_47b60_15 (r_void fun M15 hp15 => ?_)
  refine r_return C rfl dJ5_putStringAt_47b60_18 ?_ rfl rfl
  exact ⟨rfl, hp15⟩
-- java/lang/AbstractStringBuilder.append
set_option maxHeartbeats 1000000 in
set_option maxRecDepth 20000 in
theorem j_J5c_append (l : Launch) (G : GT) (M : Mem) (b v n cap : Nat) (ml : Int32) (z : Nat → Int32) (k : Nat)  (h_b : M b = some (.inr (0, [.ref v, .int 0, .int ml, .int ((nI n))]))) (h_v : M v = some (.inl (gc G 1, cap, .inl z))) (hk : 10 ≤ k ∧ k < 25) (hn : n ≤ cap) (hcap : cap ≤ 200) (hf : sb_Fit z) (hn9 : n + (slen.getD k 0) ≤ 90) : Ct l G yJ5_append_cf1ce cJ5_append_cf1ce 3 (some (.object "java/lang/AbstractStringBuilder")) ({ frames := 8, cells := 1, slots := 200, locals := 180 } : Room) [.ref b, .ref (gK G k)] M (fun ov M' => ∃ r, ov = some (.ref r) ∧ (r = b ∧ ∃ w cap' z', SBx G M M' b v (n + (slen.getD k 0)) ml w cap' z' ∧ n + (slen.getD k 0) ≤ cap' ∧ (∀ j, j < n → z' j = z j) ∧ ∀ i, i < (slen.getD k 0) → z' (n + i) = (fun j => (sbyt.getD k []).getD j 0) i)) := by
  refine Ct.of (by decide) rfl (Nat.le_of_ble_eq_true rfl) ?_
  intro X A C hl hin
  subst hl
  refine r_aload_n C dJ5_append_cf1ce_0 rfl ?_
  refine r_ifnonnull (tgt := 9) C dJ5_append_cf1ce_1 (by decide) ?_
  refine r_aload_n C dJ5_append_cf1ce_9 rfl ?_
  refine r_cVg (na := 0) C (j_J0_length_8abf5 _ G M k hk) ⟨aw_606, aw_27, ⟨by decide, by decide, by decide +kernel⟩, aw_604⟩ (C.ts _ aw_605) aw_603 (rc_str C hk) rfl rfl (Nat.le_of_ble_eq_true rfl) rfl dJ5_append_cf1ce_10 (r_pureI ?_)
  refine r_istore_n C dJ5_append_cf1ce_13 (by decide) ?_
  refine r_aload_n C dJ5_append_cf1ce_14 rfl ?_
  refine r_aload_n C dJ5_append_cf1ce_15 rfl ?_
  refine r_getf C fl_J5_79 h_b rfl dJ5_append_cf1ce_16 ?_
  refine r_iload_n C dJ5_append_cf1ce_19 rfl ?_
  refine r_iadd C dJ5_append_cf1ce_20 ?_
  refine r_conv (L' := [some (.ref b), some (.ref (gK G k)), some (.int ((nI (slen.getD k 0))))]) (st' := [.int ((nI (n + (slen.getD k 0)))), .ref b]) (rfl) (by rw [nI_add]) ?_
  refine r_cVg (na := 1) C (j_J5_ensureCapacityInternal_d00df _ G M b v n cap (n + (slen.getD k 0)) ml z h_b h_v hn hcap hn9 hf) ⟨aw_540, aw_25, ⟨by decide, by decide, by decide +kernel⟩, aw_539⟩ (va_tabs rfl rfl (C.ev.2.2.2.2.2.2.2.2.2.2.2.1 _ List.mem_cons_self)) aw_537 (rc_mem C h_b rfl) rfl rfl (Nat.le_of_ble_eq_true rfl) rfl dJ5_append_cf1ce_21 (r_void fun M21 hp21 => ?_)
  obtain ⟨w21, cap21, z21, ⟨hb21, hw21, hc21, hf21, hor21, hfr21⟩, hq21, hn21, hz21⟩ := hp21
  have hne21 : w21 ≠ b := fun h_ => by rw [h_, hb21] at hw21; cases hw21
  refine r_aload_n C dJ5_append_cf1ce_24 rfl ?_
  refine r_aload_n C dJ5_append_cf1ce_25 rfl ?_
  refine r_getf C fl_J5_79 hb21 rfl dJ5_append_cf1ce_26 ?_
  refine r_aload_n C dJ5_append_cf1ce_29 rfl ?_
  refine r_cVg (na := 2) C (j_J5c_putStringAt _ G M21 b w21 n cap21 ml z21 k hb21 hw21 hk hq21 hc21) ⟨aw_615, aw_25, ⟨by decide, by decide, by decide +kernel⟩, aw_614⟩ (va_tabs rfl rfl (C.ev.2.2.2.2.2.2.2.2.2.2.2.1 _ (List.mem_cons_of_mem _ (List.mem_cons_of_mem _ (List.mem_cons_of_mem _ (List.mem_cons_of_mem _ (List.mem_cons_of_mem _ List.mem_cons_self))))))) aw_612 (rc_mem C hb21 rfl) rfl rfl (Nat.le_of_ble_eq_true rfl) rfl dJ5_append_cf1ce_30 (r_void fun M30 hp30 => ?_)
  have hw30 : M30 w21 = some (.inl (gc G 1, cap21, .inl (va_cpy (fun j => (sbyt.getD k []).getD j 0) z21 0 n (slen.getD k 0)))) := by rw [hp30]; exact mup_s
  have hb30 : M30 b = some (.inr (0, [.ref w21, .int 0, .int ml, .int ((nI n))])) := by rw [hp30, mup_n (Ne.symm hne21)]; exact hb21
  refine r_aload_n C dJ5_append_cf1ce_33 rfl ?_
  refine r_dup C dJ5_append_cf1ce_34 rfl ?_
  refine r_getf C fl_J5_79 hb30 rfl dJ5_append_cf1ce_35 ?_
  refine r_iload_n C dJ5_append_cf1ce_38 rfl ?_
  refine r_iadd C dJ5_append_cf1ce_39 ?_
  refine r_conv (L' := [some (.ref b), some (.ref (gK G k)), some (.int ((nI (slen.getD k 0))))]) (st' := [.int ((nI (n + (slen.getD k 0)))), .ref b]) (rfl) (by rw [nI_add]) ?_
  refine r_putf C fp_J5_79 hb30 (Nat.le_of_ble_eq_true rfl) rfl rfl dJ5_append_cf1ce_40 ?_
  refine r_named (e' := .inr (0, [.ref w21, .int 0, .int ml, .int ((nI (n + (slen.getD k 0))))])) rfl (fun M40 hM40 => ?_)
  have f40_b : M40 b = some (.inr (0, [.ref w21, .int 0, .int ml, .int ((nI (n + (slen.getD k 0))))])) := by rw [hM40]; exact mup_s
  have f40_w21 : M40 w21 = some (.inl (gc G 1, cap21, .inl (va_cpy (fun j => (sbyt.getD k []).getD j 0) z21 0 n (slen.getD k 0)))) := by rw [hM40, mup_n (by first | assumption | exact Ne.symm (by assumption) | exact fun h_ => by rw [h_] at hw30; cases hw30.symm.trans hb30)]; exact hw30
  refine r_aload_n C dJ5_append_cf1ce_43 rfl ?_
  refine r_areturn C rfl (Or.inl ⟨_, rfl⟩) (Or.inr ⟨_, rfl⟩) dJ5_append_cf1ce_44 ?_ rfl rfl
  refine ⟨b, rfl, rfl, w21, cap21, _, ⟨f40_b, f40_w21, hc21, sb_fitC (sbyt_fit k) hf21, hor21, fun x h1 h2 => by rw [hM40, mup_n h1, hp30, mup_n h2]; exact hfr21 x h1 h2⟩, hq21, fun j hj => ?_, fun i hi => ?_⟩
  · rw [cpy_lo hj]; exact hz21 j hj
  · rw [cpy_in hi]
-- java/lang/StringBuilder.append
set_option maxHeartbeats 1000000 in
set_option maxRecDepth 20000 in
theorem j_J4c_append (l : Launch) (G : GT) (M : Mem) (b v n cap : Nat) (ml : Int32) (z : Nat → Int32) (k : Nat)  (h_b : M b = some (.inr (0, [.ref v, .int 0, .int ml, .int ((nI n))]))) (h_v : M v = some (.inl (gc G 1, cap, .inl z))) (hk : 10 ≤ k ∧ k < 25) (hn : n ≤ cap) (hcap : cap ≤ 200) (hf : sb_Fit z) (hn9 : n + (slen.getD k 0) ≤ 90) : Ct l G yJ4_append_15ec4 cJ4_append_15ec4 2 (some (.object "java/lang/StringBuilder")) ({ frames := 9, cells := 1, slots := 200, locals := 202 } : Room) [.ref b, .ref (gK G k)] M (fun ov M' => ∃ r, ov = some (.ref r) ∧ (r = b ∧ ∃ w cap' z', SBx G M M' b v (n + (slen.getD k 0)) ml w cap' z' ∧ n + (slen.getD k 0) ≤ cap' ∧ (∀ j, j < n → z' j = z j) ∧ ∀ i, i < (slen.getD k 0) → z' (n + i) = (fun j => (sbyt.getD k []).getD j 0) i)) := by
  refine Ct.of (by decide) rfl (Nat.le_of_ble_eq_true rfl) ?_
  intro X A C hl hin
  subst hl
  refine r_aload_n C dJ4_append_15ec4_0 rfl ?_
  refine r_aload_n C dJ4_append_15ec4_1 rfl ?_
  refine r_cSU (na := 1) C (j_J5c_append _ G M b v n cap ml z k h_b h_v hk hn hcap hf hn9) aw_532 aw_25 aw_531 aw_1106 aw_276 aw_530 ⟨by decide, by decide +kernel⟩ h_b rfl rfl rfl (Nat.le_of_ble_eq_true rfl) rfl dJ4_append_15ec4_2 (r_refM fun a2 M2 hp2 => ?_)
  obtain ⟨rfl, hq2⟩ := hp2
  refine r_pop C dJ4_append_15ec4_5 rfl ?_
  refine r_aload_n C dJ4_append_15ec4_6 rfl ?_
  refine r_areturn C rfl (Or.inl ⟨_, rfl⟩) (Or.inr ⟨_, rfl⟩) dJ4_append_15ec4_7 ?_ rfl rfl
  exact ⟨_, rfl, rfl, hq2⟩
-- java/lang/String.coder
set_option maxHeartbeats 1000000 in
set_option maxRecDepth 20000 in
theorem j_J0d_coder (l : Launch) (G : GT) (M : Mem) (x u : Nat) (hs hz : Int32)  (h_x : M x = some (.inr (12, [.ref u, .int 0, .int hs, .int hz])))  : Ct l G yJ0_coder_7d493 cJ0_coder_7d493 1 (some .byte) ({ frames := 0, cells := 0, slots := 0, locals := 0 } : Room) [.ref x] M (fun ov M' => ov = some (.int 0) ∧ M' = M) := by
  refine Ct.of (by decide) rfl (Nat.le_of_ble_eq_true rfl) ?_
  intro X A C hl hin
  subst hl
  refine r_gets C C.ev.1 aw_611 dJ0_coder_7d493_0 ?_
  refine r_if_eq (tgt := 13) C dJ0_coder_7d493_3 (by decide) (fun h_ => absurd h_ (by decide)) (fun c_3 => ?_)
  refine r_aload_n C dJ0_coder_7d493_6 rfl ?_
  refine r_getf C fl_J0_15 h_x rfl dJ0_coder_7d493_7 ?_
  refine r_goto (tgt := 14) C dJ0_coder_7d493_10 (by decide) ?_
  refine r_ireturn C rfl rfl dJ0_coder_7d493_14 ?_ rfl rfl
  exact ⟨rfl, rfl⟩
-- java/lang/String.isLatin1
set_option maxHeartbeats 1000000 in
set_option maxRecDepth 20000 in
theorem j_J0d_isLatin1 (l : Launch) (G : GT) (M : Mem) (x u : Nat) (hs hz : Int32)  (h_x : M x = some (.inr (12, [.ref u, .int 0, .int hs, .int hz])))  : Ct l G yJ0_isLatin1_aae02 cJ0_isLatin1_aae02 1 (some .boolean) ({ frames := 0, cells := 0, slots := 0, locals := 0 } : Room) [.ref x] M (fun ov M' => ov = some (.int 1) ∧ M' = M) := by
  refine Ct.of (by decide) rfl (Nat.le_of_ble_eq_true rfl) ?_
  intro X A C hl hin
  subst hl
  refine r_gets C C.ev.1 aw_611 dJ0_isLatin1_aae02_0 ?_
  refine r_if_eq (tgt := 17) C dJ0_isLatin1_aae02_3 (by decide) (fun h_ => absurd h_ (by decide)) (fun c_3 => ?_)
  refine r_aload_n C dJ0_isLatin1_aae02_6 rfl ?_
  refine r_getf C fl_J0_15 h_x rfl dJ0_isLatin1_aae02_7 ?_
  refine r_if_ne (tgt := 17) C dJ0_isLatin1_aae02_10 (by decide) (fun h_ => absurd h_ (by decide)) (fun c_10 => ?_)
  refine r_iconst (v := 1) C dJ0_isLatin1_aae02_13 (by decide) ?_
  refine r_goto (tgt := 18) C dJ0_isLatin1_aae02_14 (by decide) ?_
  refine r_ireturn C rfl (by first | rfl | exact nb_narrow (by assumption)) dJ0_isLatin1_aae02_18 ?_ rfl rfl
  exact ⟨rfl, rfl⟩
-- java/lang/String.length
set_option maxHeartbeats 1000000 in
set_option maxRecDepth 20000 in
theorem j_J0d_length (l : Launch) (G : GT) (M : Mem) (x u : Nat) (hs hz : Int32) (m : Nat) (y : Nat → Int32)  (h_x : M x = some (.inr (12, [.ref u, .int 0, .int hs, .int hz]))) (h_u : M u = some (.inl (gc G 1, m, .inl y)))  : Ct l G yJ0_length_8abf5 cJ0_length_8abf5 1 (some .int) ({ frames := 1, cells := 0, slots := 0, locals := 20 } : Room) [.ref x] M (fun ov M' => ov = some (.int (nI m)) ∧ M' = M) := by
  refine Ct.of (by decide) rfl (Nat.le_of_ble_eq_true rfl) ?_
  intro X A C hl hin
  subst hl
  refine r_aload_n C dJ0_length_8abf5_0 rfl ?_
  refine r_getf C fl_J0_9 h_x rfl dJ0_length_8abf5_1 ?_
  refine r_alen C 1 rfl h_u dJ0_length_8abf5_4 ?_
  refine r_aload_n C dJ0_length_8abf5_5 rfl ?_
  refine r_cV C (j_J0d_coder _ G M x u hs hz h_x) my_J0_coder_7d493 aw_607 h_x rfl rfl rfl (Nat.le_of_ble_eq_true rfl) rfl dJ0_length_8abf5_6 (r_pureI ?_)
  refine r_ishr C dJ0_length_8abf5_9 ?_
  refine r_ireturn C rfl rfl dJ0_length_8abf5_10 ?_ rfl rfl
  exact ⟨by rw [sb_shr0], rfl⟩
-- java/lang/StringLatin1.charAt
set_option maxHeartbeats 1000000 in
set_option maxRecDepth 20000 in
theorem j_J1d_charAt (l : Launch) (G : GT) (M : Mem) (u i c m : Nat) (y : Nat → Int32) (h_u : M u = some (.inl (gc G 1, m, .inl y))) (hi : i < m) (hm : m ≤ 200) (hz2 : y i = nI c) (hc : c < 128) : Ct l G yJ1_charAt_3b067 cJ1_charAt_3b067 2 (some .char) ({ frames := 2, cells := 0, slots := 0, locals := 43 } : Room) [.ref u, .int ((nI i))] M (fun ov M' => ov = some (.int (nI c)) ∧ M' = M) := by
  refine Ct.of (by decide) rfl (Nat.le_of_ble_eq_true rfl) ?_
  intro X A C hl hin
  subst hl
  refine r_iload_n C dJ1_charAt_3b067_0 rfl ?_
  refine r_aload_n C dJ1_charAt_3b067_1 rfl ?_
  refine r_alen C 1 rfl h_u dJ1_charAt_3b067_2 ?_
  refine r_cS C (j_J0_checkIndex_df160 _ G M i m hi (by omega)) my_J0_checkIndex_df160 aw_744 rfl rfl (Nat.le_of_ble_eq_true rfl) rfl dJ1_charAt_3b067_3 (r_pureV ?_)
  refine r_aload_n C dJ1_charAt_3b067_6 rfl ?_
  refine r_iload_n C dJ1_charAt_3b067_7 rfl ?_
  refine r_bald C h_u (vp_in_nI hi (by omega)) dJ1_charAt_3b067_8 ?_
  refine r_sipush (v := 255) C dJ1_charAt_3b067_9 (by decide) ?_
  refine r_iand C dJ1_charAt_3b067_12 ?_
  refine r_i2c C dJ1_charAt_3b067_13 ?_
  refine r_ireturn C rfl (by rw [nI_clamp (n := i) (by omega), hz2, sc_c2, and255 c hc]; exact (pk_charN (by omega)).1) dJ1_charAt_3b067_14 ?_ rfl rfl
  exact ⟨by rw [nI_clamp (n := i) (by omega), hz2, sc_c2, and255 c hc], rfl⟩
-- java/lang/String.charAt
set_option maxHeartbeats 1000000 in
set_option maxRecDepth 20000 in
theorem j_J0d_charAt (l : Launch) (G : GT) (M : Mem) (x u i c m : Nat) (hs hz : Int32) (y : Nat → Int32) (h_x : M x = some (.inr (12, [.ref u, .int 0, .int hs, .int hz]))) (h_u : M u = some (.inl (gc G 1, m, .inl y))) (hi : i < m) (hm : m ≤ 200) (hz2 : y i = nI c) (hc : c < 128) : Ct l G yJ0_charAt_5068e cJ0_charAt_5068e 2 (some .char) ({ frames := 4, cells := 0, slots := 0, locals := 85 } : Room) [.ref x, .int ((nI i))] M (fun ov M' => ov = some (.int (nI c)) ∧ M' = M) := by
  refine Ct.of (by decide) rfl (Nat.le_of_ble_eq_true rfl) ?_
  intro X A C hl hin
  subst hl
  refine r_aload_n C dJ0_charAt_5068e_0 rfl ?_
  refine r_cV C (j_J0d_isLatin1 _ G M x u hs hz h_x) my_J0_isLatin1_aae02 aw_737 h_x rfl rfl rfl (Nat.le_of_ble_eq_true rfl) rfl dJ0_charAt_5068e_1 (r_pureI ?_)
  refine r_if_eq (tgt := 16) C dJ0_charAt_5068e_4 (by decide) (fun h_ => absurd h_ (by decide)) (fun c_4 => ?_)
  refine r_aload_n C dJ0_charAt_5068e_7 rfl ?_
  refine r_getf C fl_J0_9 h_x rfl dJ0_charAt_5068e_8 ?_
  refine r_iload_n C dJ0_charAt_5068e_11 rfl ?_
  refine r_cS C (j_J1d_charAt _ G M u i c m y h_u hi hm hz2 hc) my_J1_charAt_3b067 aw_741 rfl rfl (Nat.le_of_ble_eq_true rfl) rfl dJ0_charAt_5068e_12 (r_pureI ?_)
  refine r_ireturn C rfl ((pk_charN (by omega)).1) dJ0_charAt_5068e_15 ?_ rfl rfl
  exact ⟨rfl, rfl⟩
-- java/lang/String.getBytes
set_option maxHeartbeats 1000000 in
set_option maxRecDepth 20000 in
theorem j_J0d_getBytes (l : Launch) (G : GT) (M : Mem) (x u : Nat) (hs hz : Int32) (m : Nat) (y : Nat → Int32) (v n cap : Nat) (z : Nat → Int32) (h_x : M x = some (.inr (12, [.ref u, .int 0, .int hs, .int hz]))) (h_u : M u = some (.inl (gc G 1, m, .inl y))) (h_v : M v = some (.inl (gc G 1, cap, .inl z))) (hn : n + m ≤ cap) (hcap : cap ≤ 200) (hy : sb_Fit y) (huv : u ≠ v) : Ct l G yJ0_getBytes_840e7 cJ0_getBytes_840e7 4 none ({ frames := 5, cells := 0, slots := 0, locals := 116 } : Room) [.ref x, .ref v, .int ((nI n)), .int 0] M (fun ov M' => ov = none ∧ (M' = mup M v (.inl (gc G 1, cap, .inl (va_cpy y z 0 n m))))) := by
  refine Ct.of (by decide) rfl (Nat.le_of_ble_eq_true rfl) ?_
  intro X A C hl hin
  subst hl
  refine r_aload_n C dJ0_getBytes_840e7_0 rfl ?_
  refine r_cV C (j_J0d_coder _ G M x u hs hz h_x) my_J0_coder_7d493 aw_607 h_x rfl rfl rfl (Nat.le_of_ble_eq_true rfl) rfl dJ0_getBytes_840e7_1 (r_pureI ?_)
  refine r_iload_n C dJ0_getBytes_840e7_4 rfl ?_
  refine r_ic_ne (tgt := 28) C dJ0_getBytes_840e7_5 (by decide) (fun h_ => absurd h_ (by decide)) (fun c_5 => ?_)
  refine r_aload_n C dJ0_getBytes_840e7_8 rfl ?_
  refine r_getf C fl_J0_9 h_x rfl dJ0_getBytes_840e7_9 ?_
  refine r_iconst (v := 0) C dJ0_getBytes_840e7_12 (by decide) ?_
  refine r_aload_n C dJ0_getBytes_840e7_13 rfl ?_
  refine r_iload_n C dJ0_getBytes_840e7_14 rfl ?_
  refine r_iload_n C dJ0_getBytes_840e7_15 rfl ?_
  refine r_ishl C dJ0_getBytes_840e7_16 ?_
  refine r_conv (L' := [some (.ref x), some (.ref v), some (.int ((nI n))), some (.int 0)]) (st' := [.int ((nI n)), .ref v, .int 0, .ref u]) (rfl) (by rw [sb_shl0]) ?_
  refine r_aload_n C dJ0_getBytes_840e7_17 rfl ?_
  refine r_getf C fl_J0_9 h_x rfl dJ0_getBytes_840e7_18 ?_
  refine r_alen C 1 rfl h_u dJ0_getBytes_840e7_21 ?_
  refine r_acpyB C aw_644 h_u h_v (by decide) (nI_pos (by omega)) (nI_pos (by omega)) (by rw [nI_clamp (n := m) (by omega), sb_cl0]; omega) (by rw [nI_clamp (n := m) (by omega), nI_clamp (n := n) (by omega)]; omega) (fun i hi => by rw [sb_cl0, Nat.zero_add]; exact hy i) rfl (by decide) dJ0_getBytes_840e7_22 ?_
  refine r_named (e' := .inl (gc G 1, cap, .inl (va_cpy y z (0 : Int32).toNatClampNeg ((nI n) : Int32).toNatClampNeg ((nI m)).toNatClampNeg))) rfl (fun M22 hM22 => ?_)
  have f22_v : M22 v = some (.inl (gc G 1, cap, .inl (va_cpy y z (0 : Int32).toNatClampNeg ((nI n) : Int32).toNatClampNeg ((nI m)).toNatClampNeg))) := by rw [hM22]; exact mup_s
  have f22_x : M22 x = some (.inr (12, [.ref u, .int 0, .int hs, .int hz])) := by rw [hM22, mup_n (by first | assumption | exact Ne.symm (by assumption) | exact fun h_ => by rw [h_] at h_x; cases h_x.symm.trans h_v)]; exact h_x
  have f22_u : M22 u = some (.inl (gc G 1, m, .inl y)) := by rw [hM22, mup_n (by first | assumption | exact Ne.symm (by assumption) | exact fun h_ => by rw [h_] at h_u; cases h_u.symm.trans h_v)]; exact h_u
  refine r_goto (tgt := 43) C dJ0_getBytes_840e7_25 (by decide) ?_
  refine r_return C rfl dJ0_getBytes_840e7_43 ?_ rfl rfl
  exact ⟨rfl, by rw [hM22, sb_cl0, nI_clamp (n := n) (by omega), nI_clamp (n := m) (by omega)]⟩
-- java/lang/AbstractStringBuilder.inflateIfNeededFor
set_option maxHeartbeats 1000000 in
set_option maxRecDepth 20000 in
theorem j_J5d_inflate (l : Launch) (G : GT) (M : Mem) (b v n : Nat) (ml : Int32) (x u : Nat) (hs hz : Int32)  (h_b : M b = some (.inr (0, [.ref v, .int 0, .int ml, .int ((nI n))]))) (h_x : M x = some (.inr (12, [.ref u, .int 0, .int hs, .int hz])))  : Ct l G yJ5_inflateIfNeededFor_a7421 cJ5_inflateIfNeededFor_a7421 2 none ({ frames := 6, cells := 0, slots := 0, locals := 137 } : Room) [.ref b, .ref x] M (fun ov M' => ov = none ∧ M' = M) := by
  refine Ct.of (by decide) rfl (Nat.le_of_ble_eq_true rfl) ?_
  intro X A C hl hin
  subst hl
  refine r_gets C C.ev.1 aw_254 dJ5_inflateIfNeededFor_a7421_0 ?_
  refine r_if_eq (tgt := 21) C dJ5_inflateIfNeededFor_a7421_3 (by decide) (fun h_ => absurd h_ (by decide)) (fun c_3 => ?_)
  refine r_aload_n C dJ5_inflateIfNeededFor_a7421_6 rfl ?_
  refine r_getf C fl_J5_22 h_b rfl dJ5_inflateIfNeededFor_a7421_7 ?_
  refine r_aload_n C dJ5_inflateIfNeededFor_a7421_10 rfl ?_
  refine r_cV C (j_J0d_coder _ G M x u hs hz h_x) my_J0_coder_7d493 aw_620 h_x rfl rfl rfl (Nat.le_of_ble_eq_true rfl) rfl dJ5_inflateIfNeededFor_a7421_11 (r_pureI ?_)
  refine r_ic_eq (tgt := 21) C dJ5_inflateIfNeededFor_a7421_14 (by decide) (fun c_14 => ?_) (fun h_ => absurd h_ (by decide))
  refine r_return C rfl dJ5_inflateIfNeededFor_a7421_21 ?_ rfl rfl
  exact ⟨rfl, rfl⟩
-- java/lang/AbstractStringBuilder.putStringAt
set_option maxHeartbeats 1000000 in
set_option maxRecDepth 20000 in
theorem j_J5d_putStringAt (l : Launch) (G : GT) (M : Mem) (b v n cap : Nat) (ml : Int32) (z : Nat → Int32) (x u : Nat) (hs hz : Int32) (m : Nat) (y : Nat → Int32)  (h_b : M b = some (.inr (0, [.ref v, .int 0, .int ml, .int ((nI n))]))) (h_v : M v = some (.inl (gc G 1, cap, .inl z))) (h_x : M x = some (.inr (12, [.ref u, .int 0, .int hs, .int hz]))) (h_u : M u = some (.inl (gc G 1, m, .inl y))) (hn : n + m ≤ cap) (hcap : cap ≤ 200) (hy : sb_Fit y) (huv : u ≠ v) : Ct l G yJ5_putStringAt_47b60 cJ5_putStringAt_47b60 3 none ({ frames := 7, cells := 0, slots := 0, locals := 158 } : Room) [.ref b, .int ((nI n)), .ref x] M (fun ov M' => ov = none ∧ (M' = mup M v (.inl (gc G 1, cap, .inl (va_cpy y z 0 n m))))) := by
  refine Ct.of (by decide) rfl (Nat.le_of_ble_eq_true rfl) ?_
  intro X A C hl hin
  subst hl
  refine r_aload_n C dJ5_putStringAt_47b60_0 rfl ?_
  refine r_aload_n C dJ5_putStringAt_47b60_1 rfl ?_
  refine r_cVg (na := 1) C (j_J5d_inflate _ G M b v n ml x u hs hz h_b h_x) ⟨aw_619, aw_25, ⟨by decide, by decide, by decide +kernel⟩, aw_618⟩ (va_tabs rfl rfl (C.ev.2.2.2.2.2.2.2.2.2.2.2.1 _ (List.mem_cons_of_mem _ (List.mem_cons_of_mem _ (List.mem_cons_of_mem _ (List.mem_cons_of_mem _ (List.mem_cons_of_mem _ (List.mem_cons_of_mem _ List.mem_cons_self)))))))) aw_616 (rc_mem C h_b rfl) rfl rfl (Nat.le_of_ble_eq_true rfl) rfl dJ5_putStringAt_47b60_2 (r_pureV ?_)
  refine r_aload_n C dJ5_putStringAt_47b60_5 rfl ?_
  refine r_aload_n C dJ5_putStringAt_47b60_6 rfl ?_
  refine r_getf C fl_J5_15 h_b rfl dJ5_putStringAt_47b60_7 ?_
  refine r_iload_n C dJ5_putStringAt_47b60_10 rfl ?_
  refine r_aload_n C dJ5_putStringAt_47b60_11 rfl ?_
  refine r_getf C fl_J5_22 h_b rfl dJ5_putStringAt_47b60_12 ?_
  refine r_cV C (j_J0d_getBytes _ G M x u hs hz m y v n cap z h_x h_u h_v hn hcap hy huv) my_J0_getBytes_840e7 aw_640 h_x rfl rfl rfl (Nat.le_of_ble_eq_true rfl) rfl dJ5_putStringAt_47b60_15 (r_void fun M15 hp15 => ?_)
  refine r_return C rfl dJ5_putStringAt_47b60_18 ?_ rfl rfl
  exact ⟨rfl, hp15⟩
-- java/lang/AbstractStringBuilder.append
set_option maxHeartbeats 1000000 in
set_option maxRecDepth 20000 in
theorem j_J5d_append (l : Launch) (G : GT) (M : Mem) (b v n cap : Nat) (ml : Int32) (z : Nat → Int32) (x u : Nat) (hs hz : Int32) (m : Nat) (y : Nat → Int32)  (h_b : M b = some (.inr (0, [.ref v, .int 0, .int ml, .int ((nI n))]))) (h_v : M v = some (.inl (gc G 1, cap, .inl z))) (h_x : M x = some (.inr (12, [.ref u, .int 0, .int hs, .int hz]))) (h_u : M u = some (.inl (gc G 1, m, .inl y))) (hn : n ≤ cap) (hcap : cap ≤ 200) (hf : sb_Fit z) (hn9 : n + m ≤ 90) (hy : sb_Fit y) (huv : u ≠ v) : Ct l G yJ5_append_cf1ce cJ5_append_cf1ce 3 (some (.object "java/lang/AbstractStringBuilder")) ({ frames := 8, cells := 1, slots := 200, locals := 180 } : Room) [.ref b, .ref x] M (fun ov M' => ∃ r, ov = some (.ref r) ∧ (r = b ∧ ∃ w cap' z', SBx G M M' b v (n + m) ml w cap' z' ∧ n + m ≤ cap' ∧ (∀ j, j < n → z' j = z j) ∧ ∀ i, i < m → z' (n + i) = y i)) := by
  refine Ct.of (by decide) rfl (Nat.le_of_ble_eq_true rfl) ?_
  intro X A C hl hin
  subst hl
  refine r_aload_n C dJ5_append_cf1ce_0 rfl ?_
  refine r_ifnonnull (tgt := 9) C dJ5_append_cf1ce_1 (by decide) ?_
  refine r_aload_n C dJ5_append_cf1ce_9 rfl ?_
  refine r_cV C (j_J0d_length _ G M x u hs hz m y h_x h_u) my_J0_length_8abf5 aw_603 h_x rfl rfl rfl (Nat.le_of_ble_eq_true rfl) rfl dJ5_append_cf1ce_10 (r_pureI ?_)
  refine r_istore_n C dJ5_append_cf1ce_13 (by decide) ?_
  refine r_aload_n C dJ5_append_cf1ce_14 rfl ?_
  refine r_aload_n C dJ5_append_cf1ce_15 rfl ?_
  refine r_getf C fl_J5_79 h_b rfl dJ5_append_cf1ce_16 ?_
  refine r_iload_n C dJ5_append_cf1ce_19 rfl ?_
  refine r_iadd C dJ5_append_cf1ce_20 ?_
  refine r_conv (L' := [some (.ref b), some (.ref x), some (.int ((nI m)))]) (st' := [.int ((nI (n + m))), .ref b]) (rfl) (by rw [nI_add]) ?_
  refine r_cVg (na := 1) C (j_J5_ensureCapacityInternal_d00df _ G M b v n cap (n + m) ml z h_b h_v hn hcap hn9 hf) ⟨aw_540, aw_25, ⟨by decide, by decide, by decide +kernel⟩, aw_539⟩ (va_tabs rfl rfl (C.ev.2.2.2.2.2.2.2.2.2.2.2.1 _ List.mem_cons_self)) aw_537 (rc_mem C h_b rfl) rfl rfl (Nat.le_of_ble_eq_true rfl) rfl dJ5_append_cf1ce_21 (r_void fun M21 hp21 => ?_)
  obtain ⟨w21, cap21, z21, ⟨hb21, hw21, hc21, hf21, hor21, hfr21⟩, hq21, hn21, hz21⟩ := hp21
  have hne21 : w21 ≠ b := fun h_ => by rw [h_, hb21] at hw21; cases hw21
  have hxb : x ≠ b := fun h_ => by rw [h_, h_b] at h_x; cases h_x
  have hub : u ≠ b := fun h_ => by rw [h_, h_b] at h_u; cases h_u
  have hxw : x ≠ w21 := fun h_ => hor21.elim (fun e_ => by rw [h_, e_, h_v] at h_x; cases h_x) (fun e_ => by rw [h_, e_] at h_x; cases h_x)
  have huw : u ≠ w21 := fun h_ => hor21.elim (fun e_ => huv (h_.trans e_)) (fun e_ => by rw [h_, e_] at h_u; cases h_u)
  have hx21 : M21 x = some (.inr (12, [.ref u, .int 0, .int hs, .int hz])) := (hfr21 x hxb hxw).trans h_x
  have hu21 : M21 u = some (.inl (gc G 1, m, .inl y)) := (hfr21 u hub huw).trans h_u
  refine r_aload_n C dJ5_append_cf1ce_24 rfl ?_
  refine r_aload_n C dJ5_append_cf1ce_25 rfl ?_
  refine r_getf C fl_J5_79 hb21 rfl dJ5_append_cf1ce_26 ?_
  refine r_aload_n C dJ5_append_cf1ce_29 rfl ?_
  refine r_cVg (na := 2) C (j_J5d_putStringAt _ G M21 b w21 n cap21 ml z21 x u hs hz m y hb21 hw21 hx21 hu21 hq21 hc21 hy huw) ⟨aw_615, aw_25, ⟨by decide, by decide, by decide +kernel⟩, aw_614⟩ (va_tabs rfl rfl (C.ev.2.2.2.2.2.2.2.2.2.2.2.1 _ (List.mem_cons_of_mem _ (List.mem_cons_of_mem _ (List.mem_cons_of_mem _ (List.mem_cons_of_mem _ (List.mem_cons_of_mem _ List.mem_cons_self))))))) aw_612 (rc_mem C hb21 rfl) rfl rfl (Nat.le_of_ble_eq_true rfl) rfl dJ5_append_cf1ce_30 (r_void fun M30 hp30 => ?_)
  have hw30 : M30 w21 = some (.inl (gc G 1, cap21, .inl (va_cpy y z21 0 n m))) := by rw [hp30]; exact mup_s
  have hb30 : M30 b = some (.inr (0, [.ref w21, .int 0, .int ml, .int ((nI n))])) := by rw [hp30, mup_n (Ne.symm hne21)]; exact hb21
  refine r_aload_n C dJ5_append_cf1ce_33 rfl ?_
  refine r_dup C dJ5_append_cf1ce_34 rfl ?_
  refine r_getf C fl_J5_79 hb30 rfl dJ5_append_cf1ce_35 ?_
  refine r_iload_n C dJ5_append_cf1ce_38 rfl ?_
  refine r_iadd C dJ5_append_cf1ce_39 ?_
  refine r_conv (L' := [some (.ref b), some (.ref x), some (.int ((nI m)))]) (st' := [.int ((nI (n + m))), .ref b]) (rfl) (by rw [nI_add]) ?_
  refine r_putf C fp_J5_79 hb30 (Nat.le_of_ble_eq_true rfl) rfl rfl dJ5_append_cf1ce_40 ?_
  refine r_named (e' := .inr (0, [.ref w21, .int 0, .int ml, .int ((nI (n + m)))])) rfl (fun M40 hM40 => ?_)
  have f40_b : M40 b = some (.inr (0, [.ref w21, .int 0, .int ml, .int ((nI (n + m)))])) := by rw [hM40]; exact mup_s
  have f40_w21 : M40 w21 = some (.inl (gc G 1, cap21, .inl (va_cpy y z21 0 n m))) := by rw [hM40, mup_n (by first | assumption | exact Ne.symm (by assumption) | exact fun h_ => by rw [h_] at hw30; cases hw30.symm.trans hb30)]; exact hw30
  refine r_aload_n C dJ5_append_cf1ce_43 rfl ?_
  refine r_areturn C rfl (Or.inl ⟨_, rfl⟩) (Or.inr ⟨_, rfl⟩) dJ5_append_cf1ce_44 ?_ rfl rfl
  refine ⟨b, rfl, rfl, w21, cap21, _, ⟨f40_b, f40_w21, hc21, sb_fitC hy hf21, hor21, fun x h1 h2 => by rw [hM40, mup_n h1, hp30, mup_n h2]; exact hfr21 x h1 h2⟩, hq21, fun j hj => ?_, fun i hi => ?_⟩
  · rw [cpy_lo hj]; exact hz21 j hj
  · rw [cpy_in hi]
-- java/lang/StringBuilder.append
set_option maxHeartbeats 1000000 in
set_option maxRecDepth 20000 in
theorem j_J4d_append (l : Launch) (G : GT) (M : Mem) (b v n cap : Nat) (ml : Int32) (z : Nat → Int32) (x u : Nat) (hs hz : Int32) (m : Nat) (y : Nat → Int32)  (h_b : M b = some (.inr (0, [.ref v, .int 0, .int ml, .int ((nI n))]))) (h_v : M v = some (.inl (gc G 1, cap, .inl z))) (h_x : M x = some (.inr (12, [.ref u, .int 0, .int hs, .int hz]))) (h_u : M u = some (.inl (gc G 1, m, .inl y))) (hn : n ≤ cap) (hcap : cap ≤ 200) (hf : sb_Fit z) (hn9 : n + m ≤ 90) (hy : sb_Fit y) (huv : u ≠ v) : Ct l G yJ4_append_15ec4 cJ4_append_15ec4 2 (some (.object "java/lang/StringBuilder")) ({ frames := 9, cells := 1, slots := 200, locals := 202 } : Room) [.ref b, .ref x] M (fun ov M' => ∃ r, ov = some (.ref r) ∧ (r = b ∧ ∃ w cap' z', SBx G M M' b v (n + m) ml w cap' z' ∧ n + m ≤ cap' ∧ (∀ j, j < n → z' j = z j) ∧ ∀ i, i < m → z' (n + i) = y i)) := by
  refine Ct.of (by decide) rfl (Nat.le_of_ble_eq_true rfl) ?_
  intro X A C hl hin
  subst hl
  refine r_aload_n C dJ4_append_15ec4_0 rfl ?_
  refine r_aload_n C dJ4_append_15ec4_1 rfl ?_
  refine r_cSU (na := 1) C (j_J5d_append _ G M b v n cap ml z x u hs hz m y h_b h_v h_x h_u hn hcap hf hn9 hy huv) aw_532 aw_25 aw_531 aw_1106 aw_276 aw_530 ⟨by decide, by decide +kernel⟩ h_b rfl rfl rfl (Nat.le_of_ble_eq_true rfl) rfl dJ4_append_15ec4_2 (r_refM fun a2 M2 hp2 => ?_)
  obtain ⟨rfl, hq2⟩ := hp2
  refine r_pop C dJ4_append_15ec4_5 rfl ?_
  refine r_aload_n C dJ4_append_15ec4_6 rfl ?_
  refine r_areturn C rfl (Or.inl ⟨_, rfl⟩) (Or.inr ⟨_, rfl⟩) dJ4_append_15ec4_7 ?_ rfl rfl
  exact ⟨_, rfl, rfl, hq2⟩
-- java/lang/AbstractStringBuilder.getValue
set_option maxHeartbeats 1000000 in
set_option maxRecDepth 20000 in
theorem j_J5_getValue_6d5f1 (l : Launch) (G : GT) (M : Mem) (b v n : Nat) (ml : Int32) (h_b : M b = some (.inr (0, [.ref v, .int 0, .int ml, .int ((nI n))])))  : Ct l G yJ5_getValue_6d5f1 cJ5_getValue_6d5f1 1 (some (.array .byte)) ({ frames := 0, cells := 0, slots := 0, locals := 0 } : Room) [.ref b] M (fun ov M' => ov = some (.ref v) ∧ M' = M) := by
  refine Ct.of (by decide) rfl (Nat.le_of_ble_eq_true rfl) ?_
  intro X A C hl hin
  subst hl
  refine r_aload_n C dJ5_getValue_6d5f1_0 rfl ?_
  refine r_getf C fl_J5_15 h_b rfl dJ5_getValue_6d5f1_1 ?_
  refine r_areturn C rfl (Or.inr ⟨_, rfl⟩) (Or.inr ⟨_, rfl⟩) dJ5_getValue_6d5f1_4 ?_ rfl rfl
  exact ⟨rfl, rfl⟩
-- java/util/Arrays.checkLength
set_option maxHeartbeats 1000000 in
set_option maxRecDepth 20000 in
theorem j_J7_checkLength_df160 (l : Launch) (G : GT) (M : Mem) (n : Nat)  (hn : n < 2 ^ 31) : Ct l G yJ7_checkLength_df160 cJ7_checkLength_df160 2 none ({ frames := 0, cells := 0, slots := 0, locals := 0 } : Room) [.int 0, .int ((nI n))] M (fun ov M' => ov = none ∧ M' = M) := by
  refine Ct.of (by decide) rfl (Nat.le_of_ble_eq_true rfl) ?_
  intro X A C hl hin
  subst hl
  refine r_iload_n C dJ7_checkLength_df160_0 rfl ?_
  refine r_iload_n C dJ7_checkLength_df160_1 rfl ?_
  refine r_ic_ge (tgt := 37) C dJ7_checkLength_df160_2 (by decide) (fun c_2 => ?_) (fun c_2 => ?_)
  · refine r_return C rfl dJ7_checkLength_df160_37 ?_ rfl rfl
    exact ⟨rfl, rfl⟩
  · exact absurd (nI_pos' hn) c_2
-- java/util/Arrays.copyOfRangeByte
set_option maxHeartbeats 1000000 in
set_option maxRecDepth 20000 in
theorem j_J7_copyOfRangeByte_39247 (l : Launch) (G : GT) (M : Mem) (v n cap : Nat) (z : Nat → Int32) (h_v : M v = some (.inl (gc G 1, cap, .inl z))) (hn : n ≤ cap) (hcap : cap ≤ 200) (hf : sb_Fit z) : Ct l G yJ7_copyOfRangeByte_39247 cJ7_copyOfRangeByte_39247 5 (some (.array .byte)) ({ frames := 1, cells := 1, slots := 200, locals := 21 } : Room) [.ref v, .int 0, .int ((nI n))] M (fun ov M' => ∃ r, ov = some (.ref r) ∧ (M r = none ∧ ∃ w, M' = mup M r (.inl (gc G 1, n, .inl w)) ∧ sb_Fit w ∧ ∀ j, j < n → w j = z j)) := by
  refine Ct.of (by decide) rfl (Nat.le_of_ble_eq_true rfl) ?_
  intro X A C hl hin
  subst hl
  refine r_iload_n C dJ7_copyOfRangeByte_39247_0 rfl ?_
  refine r_iload_n C dJ7_copyOfRangeByte_39247_1 rfl ?_
  refine r_cS C (j_J7_checkLength_df160 _ G M n (by omega)) my_J7_checkLength_df160 aw_700 rfl rfl (Nat.le_of_ble_eq_true rfl) rfl dJ7_copyOfRangeByte_39247_2 (r_pureV ?_)
  refine r_iload_n C dJ7_copyOfRangeByte_39247_5 rfl ?_
  refine r_iload_n C dJ7_copyOfRangeByte_39247_6 rfl ?_
  refine r_isub C dJ7_copyOfRangeByte_39247_7 ?_
  refine r_conv (L' := [some (.ref v), some (.int 0), some (.int ((nI n))), none, none]) (st' := [.int ((nI n))]) (rfl) (by rw [Int32.sub_zero]) ?_
  refine r_istore_n C dJ7_copyOfRangeByte_39247_8 (by decide) ?_
  refine r_iload_n C dJ7_copyOfRangeByte_39247_9 rfl ?_
  refine r_newB C aw_277 (nI_pos (by omega)) (nI_clamp (by omega)) (by omega) (show 0 + 1 ≤ 1 by omega) (show 0 + n ≤ 200 by omega) dJ7_copyOfRangeByte_39247_10 (fun a10 hn10 => ?_)
  have ne10_v : v ≠ a10 := fun h_ => by have q_ := h_v; rw [h_] at q_; cases q_.symm.trans hn10
  refine r_named (e' := .inl (gc G 1, n, .inl (fun _ => 0))) rfl (fun M10 hM10 => ?_)
  have f10_a10 : M10 a10 = some (.inl (gc G 1, n, .inl (fun _ => 0))) := by rw [hM10]; exact mup_s
  have f10_v : M10 v = some (.inl (gc G 1, cap, .inl z)) := by rw [hM10, mup_n (by first | assumption | exact Ne.symm (by assumption) | exact fun h_ => by rw [h_] at h_v; cases h_v.symm.trans hn10)]; exact h_v
  refine r_widen (k' := 1) (n' := 200) (Nat.le_of_ble_eq_true rfl) (by show 0 + 0 + n ≤ 200; omega) ?_
  refine r_astore C dJ7_copyOfRangeByte_39247_12 (by decide) ?_
  refine r_aload_n C dJ7_copyOfRangeByte_39247_14 rfl ?_
  refine r_iload_n C dJ7_copyOfRangeByte_39247_15 rfl ?_
  refine r_aload C dJ7_copyOfRangeByte_39247_16 rfl ?_
  refine r_iconst (v := 0) C dJ7_copyOfRangeByte_39247_18 (by decide) ?_
  refine r_aload_n C dJ7_copyOfRangeByte_39247_19 rfl ?_
  refine r_alen C 1 rfl f10_v dJ7_copyOfRangeByte_39247_20 ?_
  refine r_iload_n C dJ7_copyOfRangeByte_39247_21 rfl ?_
  refine r_isub C dJ7_copyOfRangeByte_39247_22 ?_
  refine r_conv (L' := [some (.ref v), some (.int 0), some (.int ((nI n))), some (.int ((nI n))), some (.ref a10)]) (st' := [.int ((nI cap)), .int 0, .ref a10, .int 0, .ref v]) (rfl) (by rw [Int32.sub_zero]) ?_
  refine r_iload_n C dJ7_copyOfRangeByte_39247_23 rfl ?_
  refine r_min C aw_566 mm_min rfl rfl rfl rfl dJ7_copyOfRangeByte_39247_24 ?_
  obtain ⟨m_24, e_24⟩ : ∃ v : Int32, v = (if (nI n) < (nI cap) then (nI n) else (nI cap)) := ⟨_, rfl⟩
  rw [← e_24]
  refine r_conv (L' := [some (.ref v), some (.int 0), some (.int ((nI n))), some (.int ((nI n))), some (.ref a10)]) (st' := [.int ((nI n)), .int 0, .ref a10, .int 0, .ref v]) (rfl) (by rw [e_24, nI_minN (by omega) (by omega), show (if n < cap then n else cap) = n by split <;> omega]) ?_
  refine r_acpyB C aw_569 f10_v f10_a10 (by decide) (by decide) (nI_pos (by omega)) (by rw [nI_clamp (n := n) (by omega), sb_cl0]; omega) (by rw [nI_clamp (n := n) (by omega), sb_cl0]; omega) (fun i _ => hf _) rfl (by decide) dJ7_copyOfRangeByte_39247_27 ?_
  refine r_named (e' := .inl (gc G 1, n, .inl (va_cpy z (fun _ => 0) (0 : Int32).toNatClampNeg (0 : Int32).toNatClampNeg ((nI n)).toNatClampNeg))) rfl (fun M27 hM27 => ?_)
  have f27_a10 : M27 a10 = some (.inl (gc G 1, n, .inl (va_cpy z (fun _ => 0) (0 : Int32).toNatClampNeg (0 : Int32).toNatClampNeg ((nI n)).toNatClampNeg))) := by rw [hM27]; exact mup_s
  have f27_v : M27 v = some (.inl (gc G 1, cap, .inl z)) := by rw [hM27, mup_n (by first | assumption | exact Ne.symm (by assumption) | exact fun h_ => by rw [h_] at f10_v; cases f10_v.symm.trans f10_a10)]; exact f10_v
  refine r_aload C dJ7_copyOfRangeByte_39247_30 rfl ?_
  refine r_areturn C rfl (Or.inr ⟨_, rfl⟩) (Or.inr ⟨_, rfl⟩) dJ7_copyOfRangeByte_39247_32 ?_ rfl rfl
  rw [sb_cl0, nI_clamp (n := n) (by omega), hM10, mup_mup] at hM27
  exact ⟨a10, rfl, hn10, va_cpy z (fun _ => 0) 0 0 n, hM27, sb_fitC hf sb_fit0, fun j hj => sb_cpy0 hj⟩
-- java/util/Arrays.copyOfRange
set_option maxHeartbeats 1000000 in
set_option maxRecDepth 20000 in
theorem j_J7_copyOfRange_39247 (l : Launch) (G : GT) (M : Mem) (v n cap : Nat) (z : Nat → Int32) (h_v : M v = some (.inl (gc G 1, cap, .inl z))) (hn : n ≤ cap) (hcap : cap ≤ 200) (hf : sb_Fit z) : Ct l G yJ7_copyOfRange_39247 cJ7_copyOfRange_39247 3 (some (.array .byte)) ({ frames := 2, cells := 1, slots := 200, locals := 45 } : Room) [.ref v, .int 0, .int ((nI n))] M (fun ov M' => ∃ r, ov = some (.ref r) ∧ (M r = none ∧ ∃ w, M' = mup M r (.inl (gc G 1, n, .inl w)) ∧ sb_Fit w ∧ ∀ j, j < n → w j = z j)) := by
  refine Ct.of (by decide) rfl (Nat.le_of_ble_eq_true rfl) ?_
  intro X A C hl hin
  subst hl
  refine r_iload_n C dJ7_copyOfRange_39247_0 rfl ?_
  refine r_if_ne (tgt := 10) C dJ7_copyOfRange_39247_1 (by decide) (fun h_ => absurd h_ (by decide)) (fun c_1 => ?_)
  refine r_iload_n C dJ7_copyOfRange_39247_4 rfl ?_
  refine r_aload_n C dJ7_copyOfRange_39247_5 rfl ?_
  refine r_alen C 1 rfl h_v dJ7_copyOfRange_39247_6 ?_
  refine r_ic_eq (tgt := 17) C dJ7_copyOfRange_39247_7 (by decide) (fun c_7 => ?_) (fun c_7 => ?_)
  · have hcn : n = cap := (nI_eq (by omega) (by omega)).mp c_7
    refine r_aload_n C dJ7_copyOfRange_39247_17 rfl ?_
    refine r_cloneB C aw_559 h_v hf rfl (by decide) (by show 0 + 1 ≤ 1; omega) (by show 0 + cap ≤ 200; omega) dJ7_copyOfRange_39247_18 (fun a18 hn18 => ?_)
    have ne18_v : v ≠ a18 := fun h_ => by have q_ := h_v; rw [h_] at q_; cases q_.symm.trans hn18
    refine r_named (e' := .inl (gc G 1, cap, .inl z)) rfl (fun M18 hM18 => ?_)
    have f18_a18 : M18 a18 = some (.inl (gc G 1, cap, .inl z)) := by rw [hM18]; exact mup_s
    have f18_v : M18 v = some (.inl (gc G 1, cap, .inl z)) := by rw [hM18, mup_n (by first | assumption | exact Ne.symm (by assumption) | exact fun h_ => by rw [h_] at h_v; cases h_v.symm.trans hn18)]; exact h_v
    refine r_widen (k' := 1) (n' := 200) (by omega) (by omega) ?_
    refine r_castB C aw_565 f18_a18 dJ7_copyOfRange_39247_21 ?_
    refine r_areturn C rfl (Or.inr ⟨_, rfl⟩) (Or.inr ⟨_, rfl⟩) dJ7_copyOfRange_39247_24 ?_ rfl rfl
    exact ⟨a18, rfl, hn18, z, by rw [hM18, hcn], hf, fun _ _ => rfl⟩
  · refine r_aload_n C dJ7_copyOfRange_39247_10 rfl ?_
    refine r_iload_n C dJ7_copyOfRange_39247_11 rfl ?_
    refine r_iload_n C dJ7_copyOfRange_39247_12 rfl ?_
    refine r_cS C (j_J7_copyOfRangeByte_39247 _ G M v n cap z h_v hn hcap hf) my_J7_copyOfRangeByte_39247 aw_697 rfl rfl (Nat.le_of_ble_eq_true rfl) rfl dJ7_copyOfRange_39247_13 (r_refM fun a13 M13 hp13 => ?_)
    obtain ⟨hn13, w13, hM13, hf13, hw13⟩ := hp13
    refine r_areturn C rfl (Or.inr ⟨_, rfl⟩) (Or.inr ⟨_, rfl⟩) dJ7_copyOfRange_39247_16 ?_ rfl rfl
    exact ⟨a13, rfl, hn13, w13, hM13, hf13, hw13⟩
-- java/lang/String.<init>
set_option maxHeartbeats 1000000 in
set_option maxRecDepth 20000 in
theorem j_J0_init_db425 (l : Launch) (G : GT) (M : Mem) (x b v n cap : Nat) (ml : Int32) (z : Nat → Int32) (h_x : M x = some (.inr (12, [.null, .int 0, .int 0, .int 0]))) (h_b : M b = some (.inr (0, [.ref v, .int 0, .int ml, .int ((nI n))]))) (h_v : M v = some (.inl (gc G 1, cap, .inl z))) (hn : n ≤ cap) (hcap : cap ≤ 200) (hf : sb_Fit z) : Ct l G yJ0_init_db425 cJ0_init_db425 5 none ({ frames := 5, cells := 1, slots := 200, locals := 118 } : Room) [.ref x, .ref b, .null] M (fun ov M' => ov = none ∧ (∃ w y, M' x = some (.inr (12, [.ref w, .int 0, .int 0, .int 0])) ∧ M' w = some (.inl (gc G 1, n, .inl y)) ∧ sb_Fit y ∧ (∀ j, j < n → y j = z j) ∧ M w = none ∧ ∀ q, q ≠ x → q ≠ w → M' q = M q)) := by
  refine Ct.of (by decide) rfl (Nat.le_of_ble_eq_true rfl) ?_
  intro X A C hl hin
  subst hl
  refine r_aload_n C dJ0_init_db425_0 rfl ?_
  refine r_objInit C aw_686 aw_46 aw_47 rfl rfl dJ0_init_db425_1 ?_
  refine r_aload_n C dJ0_init_db425_4 rfl ?_
  refine r_cVg (na := 0) C (j_J5_getValue_6d5f1 _ G M b v n ml h_b) ⟨aw_691, aw_25, ⟨by decide, by decide, by decide +kernel⟩, aw_688⟩ (C.ts _ aw_690) aw_687 (rc_mem C h_b rfl) rfl rfl (Nat.le_of_ble_eq_true rfl) rfl dJ0_init_db425_5 (r_pureR ?_)
  refine r_astore_n C dJ0_init_db425_8 (by decide) ?_
  refine r_aload_n C dJ0_init_db425_9 rfl ?_
  refine r_cO (na := 0) (owner := "java/lang/AbstractStringBuilder") C (j_J4_length_8abf5 _ G M b v n ml h_b) aw_346 aw_26 aw_344 aw_348 aw_1114 aw_1105 aw_692 aw_349 ⟨by decide, by decide, by decide +kernel⟩ (rc_mem C h_b rfl) rfl rfl (Nat.le_of_ble_eq_true rfl) rfl dJ0_init_db425_10 (r_pureI ?_)
  refine r_istore C dJ0_init_db425_13 (by decide) ?_
  refine r_aload_n C dJ0_init_db425_15 rfl ?_
  refine r_cVg (na := 0) C (j_J5_isLatin1_aae02 _ G M b v n ml h_b) ⟨aw_576, aw_25, ⟨by decide, by decide, by decide +kernel⟩, aw_573⟩ (C.ts _ aw_575) aw_693 (rc_mem C h_b rfl) rfl rfl (Nat.le_of_ble_eq_true rfl) rfl dJ0_init_db425_16 (r_pureI ?_)
  refine r_if_eq (tgt := 41) C dJ0_init_db425_19 (by decide) (fun h_ => absurd h_ (by decide)) (fun c_19 => ?_)
  refine r_aload_n C dJ0_init_db425_22 rfl ?_
  refine r_iconst (v := 0) C dJ0_init_db425_23 (by decide) ?_
  refine r_putF C fp_J0_15 hin h_x (Nat.le_of_ble_eq_true rfl) rfl rfl dJ0_init_db425_24 ?_
  refine r_named (e' := .inr (12, [.null, .int 0, .int 0, .int 0])) rfl (fun M24 hM24 => ?_)
  have f24_x : M24 x = some (.inr (12, [.null, .int 0, .int 0, .int 0])) := by rw [hM24]; exact mup_s
  have f24_b : M24 b = some (.inr (0, [.ref v, .int 0, .int ml, .int ((nI n))])) := by rw [hM24, mup_n (by first | assumption | exact Ne.symm (by assumption) | exact fun h_ => by rw [h_] at h_b; cases h_b.symm.trans h_x)]; exact h_b
  have f24_v : M24 v = some (.inl (gc G 1, cap, .inl z)) := by rw [hM24, mup_n (by first | assumption | exact Ne.symm (by assumption) | exact fun h_ => by rw [h_] at h_v; cases h_v.symm.trans h_x)]; exact h_v
  refine r_aload_n C dJ0_init_db425_27 rfl ?_
  refine r_aload_n C dJ0_init_db425_28 rfl ?_
  refine r_iconst (v := 0) C dJ0_init_db425_29 (by decide) ?_
  refine r_iload C dJ0_init_db425_30 rfl ?_
  refine r_cS C (j_J7_copyOfRange_39247 _ G M24 v n cap z f24_v hn hcap hf) my_J7_copyOfRange_39247 aw_694 rfl rfl (Nat.le_of_ble_eq_true rfl) rfl dJ0_init_db425_32 (r_refM fun a32 M32 hp32 => ?_)
  obtain ⟨hn32, w32, hM32, hf32, hw32⟩ := hp32
  have hx32 : a32 ≠ x := fun h_ => by rw [h_] at hn32; cases hn32.symm.trans f24_x
  have ha32 : M32 a32 = some (.inl (gc G 1, n, .inl w32)) := by rw [hM32]; exact mup_s
  have hy32 : M32 x = some (.inr (12, [.null, .int 0, .int 0, .int 0])) := by rw [hM32, mup_n (Ne.symm hx32)]; exact f24_x
  refine r_putF C fp_J0_9 hin hy32 (Nat.le_of_ble_eq_true rfl) rfl rfl dJ0_init_db425_35 ?_
  refine r_named (e' := .inr (12, [.ref a32, .int 0, .int 0, .int 0])) rfl (fun M35 hM35 => ?_)
  have f35_x : M35 x = some (.inr (12, [.ref a32, .int 0, .int 0, .int 0])) := by rw [hM35]; exact mup_s
  have f35_a32 : M35 a32 = some (.inl (gc G 1, n, .inl w32)) := by rw [hM35, mup_n (by first | assumption | exact Ne.symm (by assumption) | exact fun h_ => by rw [h_] at ha32; cases ha32.symm.trans hy32)]; exact ha32
  refine r_goto (tgt := 97) C dJ0_init_db425_38 (by decide) ?_
  refine r_return C rfl dJ0_init_db425_97 ?_ rfl rfl
  exact ⟨rfl, a32, w32, f35_x, f35_a32, hf32, hw32, by rw [hM24, mup_n hx32] at hn32; exact hn32, fun q h1 h2 => by rw [hM35, mup_n h1, hM32, mup_n h2, hM24, mup_n h1]⟩
-- java/lang/String.<init>
set_option maxHeartbeats 1000000 in
set_option maxRecDepth 20000 in
theorem j_J0_init_81219 (l : Launch) (G : GT) (M : Mem) (x b v n cap : Nat) (ml : Int32) (z : Nat → Int32) (h_x : M x = some (.inr (12, [.null, .int 0, .int 0, .int 0]))) (h_b : M b = some (.inr (0, [.ref v, .int 0, .int ml, .int ((nI n))]))) (h_v : M v = some (.inl (gc G 1, cap, .inl z))) (hn : n ≤ cap) (hcap : cap ≤ 200) (hf : sb_Fit z) : Ct l G yJ0_init_81219 cJ0_init_81219 2 none ({ frames := 6, cells := 1, slots := 200, locals := 142 } : Room) [.ref x, .ref b] M (fun ov M' => ov = none ∧ (∃ w y, M' x = some (.inr (12, [.ref w, .int 0, .int 0, .int 0])) ∧ M' w = some (.inl (gc G 1, n, .inl y)) ∧ sb_Fit y ∧ (∀ j, j < n → y j = z j) ∧ M w = none ∧ ∀ q, q ≠ x → q ≠ w → M' q = M q)) := by
  refine Ct.of (by decide) rfl (Nat.le_of_ble_eq_true rfl) ?_
  intro X A C hl hin
  subst hl
  refine r_aload_n C dJ0_init_81219_0 rfl ?_
  refine r_aload_n C dJ0_init_81219_1 rfl ?_
  refine r_null C dJ0_init_81219_2 ?_
  refine r_cI C (j_J0_init_db425 _ G M x b v n cap ml z h_x h_b h_v hn hcap hf) my_J0_init_db425 aw_683 rfl rfl (Nat.le_of_ble_eq_true rfl) rfl dJ0_init_81219_3 (r_void fun M3 hp3 => ?_)
  refine r_return C rfl dJ0_init_81219_6 ?_ rfl rfl
  exact ⟨rfl, hp3⟩
-- java/lang/StringBuilder.toString
set_option maxHeartbeats 1000000 in
set_option maxRecDepth 20000 in
theorem j_J4_toString_0e30d (l : Launch) (G : GT) (M : Mem) (b v n cap : Nat) (ml : Int32) (z : Nat → Int32) (h_b : M b = some (.inr (0, [.ref v, .int 0, .int ml, .int ((nI n))]))) (h_v : M v = some (.inl (gc G 1, cap, .inl z))) (hn : n ≤ cap) (hcap : cap ≤ 200) (hf : sb_Fit z) : Ct l G yJ4_toString_0e30d cJ4_toString_0e30d 1 (some (.object "java/lang/String")) ({ frames := 7, cells := 2, slots := 204, locals := 163 } : Room) [.ref b] M (fun ov M' => ∃ r, ov = some (.ref r) ∧ (M r = none ∧ ∃ w y, M' r = some (.inr (12, [.ref w, .int 0, .int 0, .int 0])) ∧ M' w = some (.inl (gc G 1, n, .inl y)) ∧ sb_Fit y ∧ (∀ j, j < n → y j = z j) ∧ M w = none ∧ ∀ q, q ≠ r → q ≠ w → M' q = M q)) := by
  refine Ct.of (by decide) rfl (Nat.le_of_ble_eq_true rfl) ?_
  intro X A C hl hin
  subst hl
  refine r_new C cn_J4_18 (fs := [.null, .int 0, .int 0, .int 0]) ZD_12 rfl rfl dJ4_toString_0e30d_0 (fun a0 hn0 => ?_)
  have ne0_b : b ≠ a0 := fun h_ => by have q_ := h_b; rw [h_] at q_; cases q_.symm.trans hn0
  have ne0_v : v ≠ a0 := fun h_ => by have q_ := h_v; rw [h_] at q_; cases q_.symm.trans hn0
  refine r_named (e' := .inr (12, [.null, .int 0, .int 0, .int 0])) rfl (fun M0 hM0 => ?_)
  have f0_a0 : M0 a0 = some (.inr (12, [.null, .int 0, .int 0, .int 0])) := by rw [hM0]; exact mup_s
  have f0_b : M0 b = some (.inr (0, [.ref v, .int 0, .int ml, .int ((nI n))])) := by rw [hM0, mup_n (by first | assumption | exact Ne.symm (by assumption) | exact fun h_ => by rw [h_] at h_b; cases h_b.symm.trans hn0)]; exact h_b
  have f0_v : M0 v = some (.inl (gc G 1, cap, .inl z)) := by rw [hM0, mup_n (by first | assumption | exact Ne.symm (by assumption) | exact fun h_ => by rw [h_] at h_v; cases h_v.symm.trans hn0)]; exact h_v
  refine r_dup C dJ4_toString_0e30d_3 rfl ?_
  refine r_aload_n C dJ4_toString_0e30d_4 rfl ?_
  refine r_cI C (j_J0_init_81219 _ G M0 a0 b v n cap ml z f0_a0 f0_b f0_v hn hcap hf) my_J0_init_81219 aw_680 rfl rfl (Nat.le_of_ble_eq_true rfl) rfl dJ4_toString_0e30d_5 (r_void fun M5 hp5 => ?_)
  refine r_areturn C rfl (Or.inl ⟨_, rfl⟩) (Or.inr ⟨_, rfl⟩) dJ4_toString_0e30d_8 ?_ rfl rfl
  obtain ⟨w, y, g1, g2, g3, g4, g5, g6⟩ := hp5
  have hw : w ≠ a0 := fun h_ => by rw [h_, hM0, mup_s] at g5; cases g5
  exact ⟨a0, rfl, hn0, w, y, g1, g2, g3, g4, by rw [hM0, mup_n hw] at g5; exact g5, fun q h1 h2 => by rw [g6 q h1 h2, hM0, mup_n h1]⟩
