theorem and255 : ∀ c, c < 128 → nI c &&& 255 = nI c := by decide +kernel
theorem ord9 : ∀ i, i < 9 → ([0, 1, 2, 3, 4, 5, 6, 7, 8] : List Int32).getD i 0 = nI i := by decide
theorem dec_lt (x i : Nat) : sb_dec x i < 128 := by unfold sb_dec; omega
theorem gc_dec {z z' : Nat → Int32} {n w : Nat} (h : gcFin z z' n w) : ∀ i, i < sb_dg w → z' (n + i) = nI (sb_dec w i) := by
  intro i hi
  have h9 := h.2.1 (sb_dg w - 1 - i) (by omega)
  rw [show n + sb_dg w - 1 - (sb_dg w - 1 - i) = n + i by omega] at h9
  rw [h9]
  exact sb_lo _ (dec_lt w i)
theorem fp_J5_22 : FLP "java/lang/AbstractStringBuilder" 22 0 1 .byte false := ⟨RJ4, TJ4, 4, tyJ4, rfl, by decide, aw_264, in_TJ4, tyJ4_ok, nmJ4, rfl, rfl, fun h => by first | exact rfl | cases h⟩
theorem fp_J5_73 : FLP "java/lang/AbstractStringBuilder" 73 0 2 .boolean false := ⟨RJ4, TJ4, 4, tyJ4, rfl, by decide, aw_265, in_TJ4, tyJ4_ok, nmJ4, rfl, rfl, fun h => by first | exact rfl | cases h⟩
theorem my_J5_init_d00df : MI yJ5_init_d00df cJ5_init_d00df 2 1 := ⟨aw_252, aw_25, ⟨by decide, by decide, by decide +kernel⟩, aw_251, rfl⟩
theorem my_J6_getChars_ba4f3 : MS yJ6_getChars_ba4f3 cJ6_getChars_ba4f3 7 (some .int) 3 := ⟨aw_658, aw_37, ⟨by decide, by decide, by decide +kernel⟩, aw_657⟩
theorem my_J6_stringSize_0f7a4 : MS yJ6_stringSize_0f7a4 cJ6_stringSize_0f7a4 4 (some .int) 1 := ⟨aw_655, aw_37, ⟨by decide, by decide, by decide +kernel⟩, aw_654⟩
-- java/lang/AbstractStringBuilder.append
set_option maxHeartbeats 1000000 in
set_option maxRecDepth 20000 in
theorem j_J5_append_c97b9 (l : Launch) (G : GT) (M : Mem) (b v n cap x : Nat) (ml : Int32) (z : Nat → Int32) (h_b : M b = some (.inr (0, [.ref v, .int 0, .int ml, .int ((nI n))]))) (h_v : M v = some (.inl (gc G 1, cap, .inl z))) (hn : n ≤ cap) (hcap : cap ≤ 200) (hf : sb_Fit z) (hn9 : n + sb_dg x ≤ 90) (hx : x < 2 ^ 31) : Ct l G yJ5_append_c97b9 cJ5_append_c97b9 4 (some (.object "java/lang/AbstractStringBuilder")) ({ frames := 4, cells := 1, slots := 200, locals := 104 } : Room) [.ref b, .int ((nI x))] M (fun ov M' => ∃ r, ov = some (.ref r) ∧ (r = b ∧ ∃ w cap' z', SBx G M M' b v (n + sb_dg x) ml w cap' z' ∧ n + sb_dg x ≤ cap' ∧ (∀ j, j < n → z' j = z j) ∧ ∀ i, i < sb_dg x → z' (n + i) = nI (sb_dec x i))) := by
  refine Ct.of (by decide) rfl (Nat.le_of_ble_eq_true rfl) ?_
  intro X A C hl hin
  subst hl
  refine r_aload_n C dJ5_append_c97b9_0 rfl ?_
  refine r_getf C fl_J5_79 h_b rfl dJ5_append_c97b9_1 ?_
  refine r_istore_n C dJ5_append_c97b9_4 (by decide) ?_
  refine r_iload_n C dJ5_append_c97b9_5 rfl ?_
  refine r_iload_n C dJ5_append_c97b9_6 rfl ?_
  refine r_cS C (j_J6_stringSize_0f7a4 _ G M x hx) my_J6_stringSize_0f7a4 aw_653 rfl rfl (Nat.le_of_ble_eq_true rfl) rfl dJ5_append_c97b9_7 (r_pureI ?_)
  refine r_iadd C dJ5_append_c97b9_10 ?_
  refine r_conv (L' := [some (.ref b), some (.int ((nI x))), some (.int ((nI n))), none]) (st' := [.int ((nI (n + sb_dg x)))]) (rfl) (by rw [nI_add]) ?_
  refine r_istore_n C dJ5_append_c97b9_11 (by decide) ?_
  refine r_aload_n C dJ5_append_c97b9_12 rfl ?_
  refine r_iload_n C dJ5_append_c97b9_13 rfl ?_
  refine r_cVg (na := 1) C (j_J5_ensureCapacityInternal_d00df _ G M b v n cap (n + sb_dg x) ml z h_b h_v hn hcap hn9 hf) ⟨aw_540, aw_25, ⟨by decide, by decide, by decide +kernel⟩, aw_539⟩ (va_tabs rfl rfl (C.ev.2.2.2.2.2.2.2.2.2.2.2.1 _ List.mem_cons_self)) aw_537 (rc_mem C h_b rfl) rfl rfl (Nat.le_of_ble_eq_true rfl) rfl dJ5_append_c97b9_14 (r_void fun M14 hp14 => ?_)
  obtain ⟨w14, cap14, z14, ⟨hb14, hw14, hc14, hf14, hor14, hfr14⟩, hq14, hn14, hz14⟩ := hp14
  have hne14 : w14 ≠ b := fun h_ => by rw [h_, hb14] at hw14; cases hw14
  refine r_aload_n C dJ5_append_c97b9_17 rfl ?_
  refine r_cVg (na := 0) C (j_J5_isLatin1_aae02 _ G M14 b w14 n ml hb14) ⟨aw_576, aw_25, ⟨by decide, by decide, by decide +kernel⟩, aw_573⟩ (C.ts _ aw_575) aw_572 (rc_mem C hb14 rfl) rfl rfl (Nat.le_of_ble_eq_true rfl) rfl dJ5_append_c97b9_18 (r_pureI ?_)
  refine r_if_eq (tgt := 37) C dJ5_append_c97b9_21 (by decide) (fun h_ => absurd h_ (by decide)) (fun c_21 => ?_)
  refine r_iload_n C dJ5_append_c97b9_24 rfl ?_
  refine r_iload_n C dJ5_append_c97b9_25 rfl ?_
  refine r_aload_n C dJ5_append_c97b9_26 rfl ?_
  refine r_getf C fl_J5_15 hb14 rfl dJ5_append_c97b9_27 ?_
  refine r_cS C (j_J6_getChars_ba4f3 _ G M14 w14 cap14 n x z14 hw14 hq14 hc14 hx hf14) my_J6_getChars_ba4f3 aw_656 rfl rfl (Nat.le_of_ble_eq_true rfl) rfl dJ5_append_c97b9_30 (r_intM fun M30 hp30 => ?_)
  obtain ⟨y30, hM30, hg30⟩ := hp30
  have f30_w14 : M30 w14 = some (.inl (gc G 1, cap14, .inl y30)) := by rw [hM30]; exact mup_s
  have f30_b : M30 b = some (.inr (0, [.ref w14, .int 0, .int ml, .int ((nI n))])) := by rw [hM30, mup_n (by first | assumption | exact Ne.symm (by assumption))]; exact hb14
  refine r_pop C dJ5_append_c97b9_33 rfl ?_
  refine r_goto (tgt := 48) C dJ5_append_c97b9_34 (by decide) ?_
  refine r_aload_n C dJ5_append_c97b9_48 rfl ?_
  refine r_iload_n C dJ5_append_c97b9_49 rfl ?_
  refine r_putf C fp_J5_79 f30_b (Nat.le_of_ble_eq_true rfl) rfl rfl dJ5_append_c97b9_50 ?_
  refine r_named (e' := .inr (0, [.ref w14, .int 0, .int ml, .int ((nI (n + sb_dg x)))])) rfl (fun M50 hM50 => ?_)
  have f50_b : M50 b = some (.inr (0, [.ref w14, .int 0, .int ml, .int ((nI (n + sb_dg x)))])) := by rw [hM50]; exact mup_s
  have f50_w14 : M50 w14 = some (.inl (gc G 1, cap14, .inl y30)) := by rw [hM50, mup_n (by first | assumption | exact Ne.symm (by assumption) | exact fun h_ => by rw [h_] at f30_w14; cases f30_w14.symm.trans f30_b)]; exact f30_w14
  refine r_aload_n C dJ5_append_c97b9_53 rfl ?_
  refine r_areturn C rfl (Or.inl ⟨_, rfl⟩) (Or.inr ⟨_, rfl⟩) dJ5_append_c97b9_54 ?_ rfl rfl
  refine ⟨b, rfl, rfl, w14, cap14, y30, ⟨f50_b, f50_w14, hc14, hg30.2.2, hor14, fun x h1 h2 => by rw [hM50, mup_n h1, hM30, mup_n h2]; exact hfr14 x h1 h2⟩, hq14, fun j hj => by rw [hg30.1 j (Or.inl hj)]; exact hz14 j hj, gc_dec hg30⟩
-- java/lang/StringBuilder.append
set_option maxHeartbeats 1000000 in
set_option maxRecDepth 20000 in
theorem j_J4_append_bf812 (l : Launch) (G : GT) (M : Mem) (b v n cap x : Nat) (ml : Int32) (z : Nat → Int32) (h_b : M b = some (.inr (0, [.ref v, .int 0, .int ml, .int ((nI n))]))) (h_v : M v = some (.inl (gc G 1, cap, .inl z))) (hn : n ≤ cap) (hcap : cap ≤ 200) (hf : sb_Fit z) (hn9 : n + sb_dg x ≤ 90) (hx : x < 2 ^ 31) : Ct l G yJ4_append_bf812 cJ4_append_bf812 2 (some (.object "java/lang/StringBuilder")) ({ frames := 5, cells := 1, slots := 200, locals := 127 } : Room) [.ref b, .int ((nI x))] M (fun ov M' => ∃ r, ov = some (.ref r) ∧ (r = b ∧ ∃ w cap' z', SBx G M M' b v (n + sb_dg x) ml w cap' z' ∧ n + sb_dg x ≤ cap' ∧ (∀ j, j < n → z' j = z j) ∧ ∀ i, i < sb_dg x → z' (n + i) = nI (sb_dec x i))) := by
  refine Ct.of (by decide) rfl (Nat.le_of_ble_eq_true rfl) ?_
  intro X A C hl hin
  subst hl
  refine r_aload_n C dJ4_append_bf812_0 rfl ?_
  refine r_iload_n C dJ4_append_bf812_1 rfl ?_
  refine r_cSU (na := 1) C (j_J5_append_c97b9 _ G M b v n cap x ml z h_b h_v hn hcap hf hn9 hx) aw_652 aw_25 aw_651 aw_1113 aw_276 aw_650 ⟨by decide, by decide +kernel⟩ h_b rfl rfl rfl (Nat.le_of_ble_eq_true rfl) rfl dJ4_append_bf812_2 (r_refM fun a2 M2 hp2 => ?_)
  obtain ⟨rfl, hq2⟩ := hp2
  refine r_pop C dJ4_append_bf812_5 rfl ?_
  refine r_aload_n C dJ4_append_bf812_6 rfl ?_
  refine r_areturn C rfl (Or.inl ⟨_, rfl⟩) (Or.inr ⟨_, rfl⟩) dJ4_append_bf812_7 ?_ rfl rfl
  exact ⟨_, rfl, rfl, hq2⟩
-- java/lang/AbstractStringBuilder.setLength
set_option maxHeartbeats 1000000 in
set_option maxRecDepth 20000 in
theorem j_J5_setLength_d00df (l : Launch) (G : GT) (M : Mem) (b v n cap : Nat) (ml : Int32) (z : Nat → Int32) (h_b : M b = some (.inr (0, [.ref v, .int 0, .int ml, .int ((nI n))]))) (h_v : M v = some (.inl (gc G 1, cap, .inl z))) (hn : n ≤ cap) (hcap : cap ≤ 200) (hf : sb_Fit z) : Ct l G yJ5_setLength_d00df cJ5_setLength_d00df 2 none ({ frames := 4, cells := 1, slots := 200, locals := 104 } : Room) [.ref b, .int 0] M (fun ov M' => ov = none ∧ (∃ w cap' z' ml', SBx G M M' b v 0 ml' w cap' z')) := by
  refine Ct.of (by decide) rfl (Nat.le_of_ble_eq_true rfl) ?_
  intro X A C hl hin
  subst hl
  refine r_iload_n C dJ5_setLength_d00df_0 rfl ?_
  refine r_if_ge (tgt := 13) C dJ5_setLength_d00df_1 (by decide) (fun c_1 => ?_) (fun h_ => absurd h_ (by decide))
  refine r_aload_n C dJ5_setLength_d00df_13 rfl ?_
  refine r_iload_n C dJ5_setLength_d00df_14 rfl ?_
  refine r_cVg (na := 1) C (j_J5_ensureCapacityInternal_d00df _ G M b v n cap 0 ml z h_b h_v hn hcap (by omega) hf) ⟨aw_540, aw_25, ⟨by decide, by decide, by decide +kernel⟩, aw_539⟩ (va_tabs rfl rfl (C.ev.2.2.2.2.2.2.2.2.2.2.2.1 _ List.mem_cons_self)) aw_537 (rc_mem C h_b rfl) rfl rfl (Nat.le_of_ble_eq_true rfl) rfl dJ5_setLength_d00df_15 (r_void fun M15 hp15 => ?_)
  obtain ⟨w15, cap15, z15, ⟨hb15, hw15, hc15, hf15, hor15, hfr15⟩, hq15, hn15, hz15⟩ := hp15
  have hne15 : w15 ≠ b := fun h_ => by rw [h_, hb15] at hw15; cases hw15
  refine r_aload_n C dJ5_setLength_d00df_18 rfl ?_
  refine r_getf C fl_J5_79 hb15 rfl dJ5_setLength_d00df_19 ?_
  refine r_iload_n C dJ5_setLength_d00df_22 rfl ?_
  refine r_ic_ge (tgt := 63) C dJ5_setLength_d00df_23 (by decide) (fun c_23 => ?_) (fun c_23 => ?_)
  · refine r_aload_n C dJ5_setLength_d00df_63 rfl ?_
    refine r_getf C fl_J5_79 hb15 rfl dJ5_setLength_d00df_64 ?_
    refine r_iload_n C dJ5_setLength_d00df_67 rfl ?_
    refine r_ic_le (tgt := 76) C dJ5_setLength_d00df_68 (by decide) (fun c_68 => ?_) (fun c_68 => ?_)
    · refine r_aload_n C dJ5_setLength_d00df_76 rfl ?_
      refine r_iload_n C dJ5_setLength_d00df_77 rfl ?_
      refine r_putf C fp_J5_79 hb15 (Nat.le_of_ble_eq_true rfl) rfl rfl dJ5_setLength_d00df_78 ?_
      refine r_named (e' := .inr (0, [.ref w15, .int 0, .int ml, .int 0])) rfl (fun M78 hM78 => ?_)
      have f78_b : M78 b = some (.inr (0, [.ref w15, .int 0, .int ml, .int 0])) := by rw [hM78]; exact mup_s
      have f78_w15 : M78 w15 = some (.inl (gc G 1, cap15, .inl z15)) := by rw [hM78, mup_n (by first | assumption | exact Ne.symm (by assumption) | exact fun h_ => by rw [h_] at hw15; cases hw15.symm.trans hb15)]; exact hw15
      refine r_return C rfl dJ5_setLength_d00df_81 ?_ rfl rfl
      exact ⟨rfl, w15, cap15, z15, ml, f78_b, f78_w15, hc15, hf15, hor15, fun x h1 h2 => by rw [hM78, mup_n h1]; exact hfr15 x h1 h2⟩
    · refine r_aload_n C dJ5_setLength_d00df_71 rfl ?_
      refine r_iconst (v := 1) C dJ5_setLength_d00df_72 (by decide) ?_
      refine r_putf C fp_J5_73 hb15 (Nat.le_of_ble_eq_true rfl) rfl rfl dJ5_setLength_d00df_73 ?_
      refine r_named (e' := .inr (0, [.ref w15, .int 0, .int 1, .int ((nI n))])) rfl (fun M73 hM73 => ?_)
      have f73_b : M73 b = some (.inr (0, [.ref w15, .int 0, .int 1, .int ((nI n))])) := by rw [hM73]; exact mup_s
      have f73_w15 : M73 w15 = some (.inl (gc G 1, cap15, .inl z15)) := by rw [hM73, mup_n (by first | assumption | exact Ne.symm (by assumption) | exact fun h_ => by rw [h_] at hw15; cases hw15.symm.trans hb15)]; exact hw15
      refine r_aload_n C dJ5_setLength_d00df_76 rfl ?_
      refine r_iload_n C dJ5_setLength_d00df_77 rfl ?_
      refine r_putf C fp_J5_79 f73_b (Nat.le_of_ble_eq_true rfl) rfl rfl dJ5_setLength_d00df_78 ?_
      refine r_named (e' := .inr (0, [.ref w15, .int 0, .int 1, .int 0])) rfl (fun M78 hM78 => ?_)
      have f78_b : M78 b = some (.inr (0, [.ref w15, .int 0, .int 1, .int 0])) := by rw [hM78]; exact mup_s
      have f78_w15 : M78 w15 = some (.inl (gc G 1, cap15, .inl z15)) := by rw [hM78, mup_n (by first | assumption | exact Ne.symm (by assumption) | exact fun h_ => by rw [h_] at f73_w15; cases f73_w15.symm.trans f73_b)]; exact f73_w15
      refine r_return C rfl dJ5_setLength_d00df_81 ?_ rfl rfl
      exact ⟨rfl, w15, cap15, z15, 1, f78_b, f78_w15, hc15, hf15, hor15, fun x h1 h2 => by rw [hM78, mup_n h1, hM73, mup_n h1]; exact hfr15 x h1 h2⟩
  · exact absurd (nI_pos' (by omega)) c_23
-- java/lang/StringBuilder.setLength
set_option maxHeartbeats 1000000 in
set_option maxRecDepth 20000 in
theorem j_J4_setLength_d00df (l : Launch) (G : GT) (M : Mem) (b v n cap : Nat) (ml : Int32) (z : Nat → Int32) (h_b : M b = some (.inr (0, [.ref v, .int 0, .int ml, .int ((nI n))]))) (h_v : M v = some (.inl (gc G 1, cap, .inl z))) (hn : n ≤ cap) (hcap : cap ≤ 200) (hf : sb_Fit z) : Ct l G yJ4_setLength_d00df cJ4_setLength_d00df 2 none ({ frames := 5, cells := 1, slots := 200, locals := 125 } : Room) [.ref b, .int 0] M (fun ov M' => ov = none ∧ (∃ w cap' z' ml', SBx G M M' b v 0 ml' w cap' z')) := by
  refine Ct.of (by decide) rfl (Nat.le_of_ble_eq_true rfl) ?_
  intro X A C hl hin
  subst hl
  refine r_aload_n C dJ4_setLength_d00df_0 rfl ?_
  refine r_iload_n C dJ4_setLength_d00df_1 rfl ?_
  refine r_cSU (na := 1) C (j_J5_setLength_d00df _ G M b v n cap ml z h_b h_v hn hcap hf) aw_847 aw_25 aw_846 aw_1117 aw_276 aw_845 ⟨by decide, by decide +kernel⟩ h_b rfl rfl rfl (Nat.le_of_ble_eq_true rfl) rfl dJ4_setLength_d00df_2 (r_void fun M2 hp2 => ?_)
  refine r_return C rfl dJ4_setLength_d00df_5 ?_ rfl rfl
  exact ⟨rfl, hp2⟩
-- java/lang/AbstractStringBuilder.charAt
set_option maxHeartbeats 1000000 in
set_option maxRecDepth 20000 in
theorem j_J5_charAt_5068e (l : Launch) (G : GT) (M : Mem) (b v n cap i c : Nat) (ml : Int32) (z : Nat → Int32) (h_b : M b = some (.inr (0, [.ref v, .int 0, .int ml, .int ((nI n))]))) (h_v : M v = some (.inl (gc G 1, cap, .inl z))) (hn : n ≤ cap) (hcap : cap ≤ 200) (hi : i < n) (hz : z i = nI c) (hc : c < 128) : Ct l G yJ5_charAt_5068e cJ5_charAt_5068e 5 (some .char) ({ frames := 2, cells := 0, slots := 0, locals := 43 } : Room) [.ref b, .int ((nI i))] M (fun ov M' => ov = some (.int (nI c)) ∧ M' = M) := by
  refine Ct.of (by decide) rfl (Nat.le_of_ble_eq_true rfl) ?_
  intro X A C hl hin
  subst hl
  refine r_aload_n C dJ5_charAt_5068e_0 rfl ?_
  refine r_getf C fl_J5_22 h_b rfl dJ5_charAt_5068e_1 ?_
  refine r_istore_n C dJ5_charAt_5068e_4 (by decide) ?_
  refine r_aload_n C dJ5_charAt_5068e_5 rfl ?_
  refine r_getf C fl_J5_15 h_b rfl dJ5_charAt_5068e_6 ?_
  refine r_astore_n C dJ5_charAt_5068e_9 (by decide) ?_
  refine r_aload_n C dJ5_charAt_5068e_10 rfl ?_
  refine r_getf C fl_J5_79 h_b rfl dJ5_charAt_5068e_11 ?_
  refine r_aload_n C dJ5_charAt_5068e_14 rfl ?_
  refine r_alen C 1 rfl h_v dJ5_charAt_5068e_15 ?_
  refine r_iload_n C dJ5_charAt_5068e_16 rfl ?_
  refine r_ishr C dJ5_charAt_5068e_17 ?_
  refine r_conv (L' := [some (.ref b), some (.int ((nI i))), some (.int 0), some (.ref v), none]) (st' := [.int ((nI cap)), .int ((nI n))]) (rfl) (by rw [sb_shr0]) ?_
  refine r_min C aw_821 mm_min rfl rfl rfl rfl dJ5_charAt_5068e_18 ?_
  obtain ⟨m_18, e_18⟩ : ∃ v : Int32, v = (if (nI cap) < (nI n) then (nI cap) else (nI n)) := ⟨_, rfl⟩
  rw [← e_18]
  refine r_conv (L' := [some (.ref b), some (.int ((nI i))), some (.int 0), some (.ref v), none]) (st' := [.int ((nI n))]) (rfl) (by rw [e_18, nI_minN (by omega) (by omega), if_neg (by omega)]) ?_
  refine r_istore C dJ5_charAt_5068e_21 (by decide) ?_
  refine r_iload_n C dJ5_charAt_5068e_23 rfl ?_
  refine r_iload C dJ5_charAt_5068e_24 rfl ?_
  refine r_cS C (j_J0_checkIndex_df160 _ G M i n hi (by omega)) my_J0_checkIndex_df160 aw_822 rfl rfl (Nat.le_of_ble_eq_true rfl) rfl dJ5_charAt_5068e_26 (r_pureV ?_)
  refine r_iload_n C dJ5_charAt_5068e_29 rfl ?_
  refine r_if_ne (tgt := 42) C dJ5_charAt_5068e_30 (by decide) (fun h_ => absurd h_ (by decide)) (fun c_30 => ?_)
  refine r_aload_n C dJ5_charAt_5068e_33 rfl ?_
  refine r_iload_n C dJ5_charAt_5068e_34 rfl ?_
  refine r_bald C h_v (vp_in_nI (by omega) (by omega)) dJ5_charAt_5068e_35 ?_
  refine r_sipush (v := 255) C dJ5_charAt_5068e_36 (by decide) ?_
  refine r_iand C dJ5_charAt_5068e_39 ?_
  refine r_i2c C dJ5_charAt_5068e_40 ?_
  refine r_ireturn C rfl (by rw [nI_clamp (n := i) (by omega), hz, sc_c2, and255 c hc]; exact (pk_charN (by omega)).1) dJ5_charAt_5068e_41 ?_ rfl rfl
  exact ⟨by rw [nI_clamp (n := i) (by omega), hz, sc_c2, and255 c hc], rfl⟩
-- java/lang/StringBuilder.charAt
set_option maxHeartbeats 1000000 in
set_option maxRecDepth 20000 in
theorem j_J4_charAt_5068e (l : Launch) (G : GT) (M : Mem) (b v n cap i c : Nat) (ml : Int32) (z : Nat → Int32) (h_b : M b = some (.inr (0, [.ref v, .int 0, .int ml, .int ((nI n))]))) (h_v : M v = some (.inl (gc G 1, cap, .inl z))) (hn : n ≤ cap) (hcap : cap ≤ 200) (hi : i < n) (hz : z i = nI c) (hc : c < 128) : Ct l G yJ4_charAt_5068e cJ4_charAt_5068e 2 (some .char) ({ frames := 3, cells := 0, slots := 0, locals := 67 } : Room) [.ref b, .int ((nI i))] M (fun ov M' => ov = some (.int (nI c)) ∧ M' = M) := by
  refine Ct.of (by decide) rfl (Nat.le_of_ble_eq_true rfl) ?_
  intro X A C hl hin
  subst hl
  refine r_aload_n C dJ4_charAt_5068e_0 rfl ?_
  refine r_iload_n C dJ4_charAt_5068e_1 rfl ?_
  refine r_cSU (na := 1) C (j_J5_charAt_5068e _ G M b v n cap i c ml z h_b h_v hn hcap hi hz hc) aw_820 aw_25 aw_819 aw_1116 aw_276 aw_818 ⟨by decide, by decide +kernel⟩ h_b rfl rfl rfl (Nat.le_of_ble_eq_true rfl) rfl dJ4_charAt_5068e_2 (r_pureI ?_)
  refine r_ireturn C rfl ((pk_charN (by omega)).1) dJ4_charAt_5068e_5 ?_ rfl rfl
  exact ⟨rfl, rfl⟩
-- java/lang/AbstractStringBuilder.<init>
set_option maxHeartbeats 1000000 in
set_option maxRecDepth 20000 in
theorem j_J5_init_d00df (l : Launch) (G : GT) (M : Mem) (b v : Nat) (h_b : M b = some (.inr (0, [.null, .int 0, .int 0, .int 0])))  : Ct l G yJ5_init_d00df cJ5_init_d00df 2 none ({ frames := 2, cells := 1, slots := 16, locals := 40 } : Room) [.ref b, .int 16] M (fun ov M' => ov = none ∧ (∃ w, SBx G M M' b v 0 0 w 16 (fun _ => 0))) := by
  refine Ct.of (by decide) rfl (Nat.le_of_ble_eq_true rfl) ?_
  intro X A C hl hin
  subst hl
  refine r_aload_n C dJ5_init_d00df_0 rfl ?_
  refine r_objInit C aw_253 aw_46 aw_47 rfl rfl dJ5_init_d00df_1 ?_
  refine r_gets C C.ev.1 aw_254 dJ5_init_d00df_4 ?_
  refine r_if_eq (tgt := 25) C dJ5_init_d00df_7 (by decide) (fun h_ => absurd h_ (by decide)) (fun c_7 => ?_)
  refine r_aload_n C dJ5_init_d00df_10 rfl ?_
  refine r_iload_n C dJ5_init_d00df_11 rfl ?_
  refine r_newB C aw_277 (by decide) (show Int32.toNatClampNeg 16 = 16 by decide) (by omega) (Nat.le_of_ble_eq_true rfl) (Nat.le_of_ble_eq_true rfl) dJ5_init_d00df_12 (fun a12 hn12 => ?_)
  have ne12_b : b ≠ a12 := fun h_ => by have q_ := h_b; rw [h_] at q_; cases q_.symm.trans hn12
  refine r_named (e' := .inl (gc G 1, 16, .inl (fun _ => 0))) rfl (fun M12 hM12 => ?_)
  have f12_a12 : M12 a12 = some (.inl (gc G 1, 16, .inl (fun _ => 0))) := by rw [hM12]; exact mup_s
  have f12_b : M12 b = some (.inr (0, [.null, .int 0, .int 0, .int 0])) := by rw [hM12, mup_n (by first | assumption | exact Ne.symm (by assumption) | exact fun h_ => by rw [h_] at h_b; cases h_b.symm.trans hn12)]; exact h_b
  refine r_putf C fp_J5_15 f12_b (Nat.le_of_ble_eq_true rfl) rfl rfl dJ5_init_d00df_14 ?_
  refine r_named (e' := .inr (0, [.ref a12, .int 0, .int 0, .int 0])) rfl (fun M14 hM14 => ?_)
  have f14_b : M14 b = some (.inr (0, [.ref a12, .int 0, .int 0, .int 0])) := by rw [hM14]; exact mup_s
  have f14_a12 : M14 a12 = some (.inl (gc G 1, 16, .inl (fun _ => 0))) := by rw [hM14, mup_n (by first | assumption | exact Ne.symm (by assumption) | exact fun h_ => by rw [h_] at f12_a12; cases f12_a12.symm.trans f12_b)]; exact f12_a12
  refine r_aload_n C dJ5_init_d00df_17 rfl ?_
  refine r_iconst (v := 0) C dJ5_init_d00df_18 (by decide) ?_
  refine r_putf C fp_J5_22 f14_b (Nat.le_of_ble_eq_true rfl) rfl rfl dJ5_init_d00df_19 ?_
  refine r_named (e' := .inr (0, [.ref a12, .int 0, .int 0, .int 0])) rfl (fun M19 hM19 => ?_)
  have f19_b : M19 b = some (.inr (0, [.ref a12, .int 0, .int 0, .int 0])) := by rw [hM19]; exact mup_s
  have f19_a12 : M19 a12 = some (.inl (gc G 1, 16, .inl (fun _ => 0))) := by rw [hM19, mup_n (by first | assumption | exact Ne.symm (by assumption) | exact fun h_ => by rw [h_] at f14_a12; cases f14_a12.symm.trans f14_b)]; exact f14_a12
  refine r_goto (tgt := 38) C dJ5_init_d00df_22 (by decide) ?_
  refine r_return C rfl dJ5_init_d00df_38 ?_ rfl rfl
  exact ⟨rfl, a12, f19_b, f19_a12, by omega, sb_fit0, Or.inr hn12, fun x h1 h2 => by rw [hM19, mup_n h1, hM14, mup_n h1, hM12, mup_n h2]⟩
-- java/lang/StringBuilder.<init>
set_option maxHeartbeats 1000000 in
set_option maxRecDepth 20000 in
theorem j_J4_init_da8c8 (l : Launch) (G : GT) (M : Mem) (b v : Nat) (h_b : M b = some (.inr (0, [.null, .int 0, .int 0, .int 0])))  : Ct l G yJ4_init_da8c8 cJ4_init_da8c8 1 none ({ frames := 3, cells := 1, slots := 16, locals := 61 } : Room) [.ref b] M (fun ov M' => ov = none ∧ (∃ w, SBx G M M' b v 0 0 w 16 (fun _ => 0))) := by
  refine Ct.of (by decide) rfl (Nat.le_of_ble_eq_true rfl) ?_
  intro X A C hl hin
  subst hl
  refine r_aload_n C dJ4_init_da8c8_0 rfl ?_
  refine r_bipush (v := 16) C dJ4_init_da8c8_1 (by decide) ?_
  refine r_cI C (j_J5_init_d00df _ G M b v h_b) my_J5_init_d00df aw_250 rfl rfl (Nat.le_of_ble_eq_true rfl) rfl dJ4_init_da8c8_3 (r_void fun M3 hp3 => ?_)
  refine r_return C rfl dJ4_init_da8c8_6 ?_ rfl rfl
  exact ⟨rfl, hp3⟩
-- java/lang/Math.floorDiv
set_option maxHeartbeats 1000000 in
set_option maxRecDepth 20000 in
theorem j_J9_floorDiv_7cf53 (l : Launch) (G : GT) (M : Mem) (x : Int32)   : Ct l G yJ9_floorDiv_7cf53 cJ9_floorDiv_7cf53 3 (some .int) ({ frames := 0, cells := 0, slots := 0, locals := 0 } : Room) [.int x, .int 100] M (fun ov M' => ov = some (.int (if 0 ≤ x ^^^ 100 then x / 100 else if x / 100 * 100 = x then x / 100 else x / 100 - 1)) ∧ M' = M) := by
  refine Ct.ofF (by decide +kernel) rfl (Nat.le_of_ble_eq_true rfl) ?_
  intro X A C hl hin
  subst hl
  refine r_iload_n C dJ9_floorDiv_7cf53_0 rfl ?_
  refine r_iload_n C dJ9_floorDiv_7cf53_1 rfl ?_
  refine r_idiv C dJ9_floorDiv_7cf53_2 (by decide) ?_
  refine r_istore_n C dJ9_floorDiv_7cf53_3 (by decide) ?_
  refine r_iload_n C dJ9_floorDiv_7cf53_4 rfl ?_
  refine r_iload_n C dJ9_floorDiv_7cf53_5 rfl ?_
  refine r_ixor C dJ9_floorDiv_7cf53_6 ?_
  refine r_if_ge (tgt := 21) C dJ9_floorDiv_7cf53_7 (by decide) (fun c_7 => ?_) (fun c_7 => ?_)
  · refine r_iload_n C dJ9_floorDiv_7cf53_21 rfl ?_
    refine r_ireturn C rfl rfl dJ9_floorDiv_7cf53_22 ?_ rfl rfl
    exact ⟨by rw [if_pos c_7], rfl⟩
  · refine r_iload_n C dJ9_floorDiv_7cf53_10 rfl ?_
    refine r_iload_n C dJ9_floorDiv_7cf53_11 rfl ?_
    refine r_imul C dJ9_floorDiv_7cf53_12 ?_
    refine r_iload_n C dJ9_floorDiv_7cf53_13 rfl ?_
    refine r_ic_eq (tgt := 21) C dJ9_floorDiv_7cf53_14 (by decide) (fun c_14 => ?_) (fun c_14 => ?_)
    · refine r_iload_n C dJ9_floorDiv_7cf53_21 rfl ?_
      refine r_ireturn C rfl rfl dJ9_floorDiv_7cf53_22 ?_ rfl rfl
      exact ⟨by rw [if_neg c_7, if_pos c_14], rfl⟩
    · refine r_iload_n C dJ9_floorDiv_7cf53_17 rfl ?_
      refine r_iconst (v := 1) C dJ9_floorDiv_7cf53_18 (by decide) ?_
      refine r_isub C dJ9_floorDiv_7cf53_19 ?_
      refine r_ireturn C rfl rfl dJ9_floorDiv_7cf53_20 ?_ rfl rfl
      exact ⟨by rw [if_neg c_7, if_neg c_14], rfl⟩
-- java/lang/Enum.ordinal
set_option maxHeartbeats 1000000 in
set_option maxRecDepth 20000 in
theorem j_Jx29ce0_ordinal_8abf5 (l : Launch) (G : GT) (M : Mem) (i : Nat)  (hi : i < 9) : Ct l G yJx29ce0_ordinal_8abf5 cJx29ce0_ordinal_8abf5 1 (some .int) ({ frames := 0, cells := 0, slots := 0, locals := 0 } : Room) [.ref (gad G i)] M (fun ov M' => ov = some (.int (nI i)) ∧ M' = M) := by
  refine Ct.of (by decide) rfl (Nat.le_of_ble_eq_true rfl) ?_
  intro X A C hl hin
  subst hl
  refine r_aload_n C dJx29ce0_ordinal_8abf5_0 rfl ?_
  refine r_getF C (((C.ev.2.2.2.2.2.1).1 i hi).2.2 _ List.mem_cons_self) aw_1119 dJx29ce0_ordinal_8abf5_1 ?_
  refine r_ireturn C rfl rfl dJx29ce0_ordinal_8abf5_4 ?_ rfl rfl
  exact ⟨by rw [ord9 i hi], rfl⟩
