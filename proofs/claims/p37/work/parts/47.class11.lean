
/-! THE READER'S METHODS. -/
def dgF (T : Nat → Int32) (e i : Nat) : Int32 := if 48 ≤ hereT T e i ∧ hereT T e i ≤ 57 then hereT T e i - 48 else -1
theorem dgF_off {T : Nat → Int32} {e i : Nat} (h : dgF T e i < 0) : ¬ (48 ≤ hereT T e i ∧ hereT T e i ≤ 57) := fun z => by
  rw [dgF, if_pos z] at h
  obtain ⟨j, hj, hh⟩ := rng_nI (m := 57) (by decide) (by decide) z
  rw [hh] at h z
  have h48 : 48 ≤ j := nI_le_iff (n := 48) (by omega) (by decide) z.1
  rw [show (48 : Int32) = nI 48 from rfl, pk_sub h48] at h
  exact absurd h (nI_pos (by omega))
theorem dgF_on {T : Nat → Int32} {e i : Nat} (h : ¬ dgF T e i < 0) : 48 ≤ hereT T e i ∧ hereT T e i ≤ 57 := by
  by_cases z : 48 ≤ hereT T e i ∧ hereT T e i ≤ 57
  · exact z
  · rw [dgF, if_neg z] at h
    exact absurd (show (-1 : Int32) < 0 by decide) h
theorem ndF_dig {T : Nat → Int32} {e : Nat} : ∀ m sp j, j < ndF T e sp m → 48 ≤ hereT T e (sp + j) ∧ hereT T e (sp + j) ≤ 57
  | 0, _, j, h => absurd h (Nat.not_lt_zero j)
  | m + 1, sp, j, h => by
    rw [ndF] at h
    split at h
    · rename_i hd
      cases j with
      | zero => exact hd
      | succ j =>
        have := ndF_dig (T := T) (e := e) m (sp + 1) j (by omega)
        rw [show sp + (j + 1) = sp + 1 + j by omega]
        exact this
    · exact absurd h (Nat.not_lt_zero j)
theorem dgt_nI {c : Int32} (h : 49 ≤ c ∧ c ≤ 57) : c - 48 = nI (nn (c - 48)) ∧ nn (c - 48) ≤ 9 := by
  obtain ⟨j, hj, hh⟩ := rng_nI (m := 57) (by decide) (by decide) h
  rw [hh] at h ⊢
  have h49 : 49 ≤ j := nI_le_iff (n := 49) (by omega) (by decide) h.1
  rw [show (48 : Int32) = nI 48 from rfl, pk_sub (by omega), nn_nI (by omega)]
  exact ⟨rfl, by omega⟩
theorem add_sub32 (x h : Int32) : x + (h - 48) = x + h - 48 := by rw [Int32.sub_eq_add_neg, Int32.sub_eq_add_neg, Int32.add_assoc]
theorem pof (x : Int32) : -1 - (-1 - x) = x := by
  rw [Int32.sub_eq_add_neg, Int32.neg_sub, Int32.sub_eq_add_neg, Int32.add_comm x, ← Int32.add_assoc, Int32.add_right_neg, Int32.zero_add]
theorem m1_toI {p : Nat} (h : p < 2 ^ 30) : (-1 - nI p).toInt = -1 - (p : Int) := by
  rw [Int32.toInt_sub, nI_toInt (by omega), show (-1 : Int32).toInt = -1 by decide]
  exact Int.bmod_eq_of_le (by omega) (by omega)
theorem m1_neg {p : Nat} (h : p < 2 ^ 30) : -1 - nI p < 0 := by
  rw [Int32.lt_iff_toInt_lt, m1_toI h, Int32.toInt_zero]
  omega
theorem wl_facts : ∀ w, w < 9 → wlen w ≤ 10 ∧ 4 ≤ wlen w := by decide +kernel
theorem cnt_3 : ∀ w, w < 9 → ∀ i, i < 10 → (49 ≤ sch (10 + w) i ∧ sch (10 + w) i ≤ 57) → cntK (10 + w) i < 3 := by decide +kernel
theorem fm_len {T : Nat → Int32} {e k sp : Nat} {n0 : Nat → Int32} : ∀ i, (fmS T e k sp n0 i).2.1 = 0 → sp + i ≤ (fmS T e k sp n0 i).1
  | 0, _ => Nat.le_refl _
  | i + 1, h => by
    have ih := fm_len (T := T) (e := e) (k := k) (sp := sp) (n0 := n0) i
    rw [fmS] at h ⊢
    by_cases z : (fmS T e k sp n0 i).2.1 = 0
    · have g := ih z
      split at h
      · rename_i hd
        rw [if_pos hd]
        unfold numS at h ⊢
        rw [if_pos z] at h ⊢
        split at h
        · exact absurd h (show ¬ (1 : Int32) = 0 by decide)
        · rename_i hn
          rw [if_neg hn]
          show _ ≤ _ + _
          omega
      · rename_i hd
        rw [if_neg hd]
        unfold litS at h ⊢
        rw [if_pos z] at h ⊢
        split at h
        · rename_i hn
          rw [if_pos hn]
          show _ ≤ _ + _
          omega
        · exact absurd h (show ¬ (1 : Int32) = 0 by decide)
    · split at h
      · rw [numS_x z] at h
        exact absurd h z
      · rw [litS_x z] at h
        exact absurd h z
theorem s53 {k j : Nat} : ((5, 0, 0) : Id3) ≠ (3, k, j) := fun q => by injection q with q1; exact absurd q1 (by decide)
theorem in_TX5 : ∀ w ∈ u_ws RX5 TX5 2, w ∈ AW := List.forall_mem_cons.mpr ⟨aw_293, List.forall_mem_cons.mpr ⟨aw_295, fun _ h => absurd h List.not_mem_nil⟩⟩
theorem fl_X8_20 : FLK "KilnKeeper$Reader" 20 8 1 := ⟨RX8, TX8, 2, rfl, by decide, aw_299, in_TX8⟩
theorem fl_X8_94 : FLK "KilnKeeper$Reader" 94 5 1 := ⟨RX5, TX5, 2, rfl, by decide, aw_291, in_TX5⟩
theorem fp_X8_74 : FLP "KilnKeeper$Reader" 74 5 0 (.object "KilnKeeper$Word") false := ⟨RX5, TX5, 2, tyX5, rfl, by decide, aw_288, in_TX5, tyX5_ok, nmX5, rfl, rfl, fun h => by first | exact rfl | cases h⟩
theorem my_X8_digitAt : MV yX8_digitAt cX8_digitAt 3 (some .int) 1 := ⟨aw_813, aw_24, ⟨by decide, by decide, by decide +kernel⟩, aw_812, aw_7⟩
theorem my_X8_endOfDigits : MV yX8_endOfDigits cX8_endOfDigits 4 (some .int) 2 := ⟨aw_809, aw_24, ⟨by decide, by decide, by decide +kernel⟩, aw_808, aw_6⟩
theorem my_X8_faultAt : MS yX8_faultAt cX8_faultAt 1 (some .int) 1 := ⟨aw_803, aw_24, ⟨by decide, by decide, by decide +kernel⟩, aw_802⟩
theorem my_X8_isSignAt : MV yX8_isSignAt cX8_isSignAt 3 (some .boolean) 2 := ⟨aw_832, aw_24, ⟨by decide, by decide, by decide +kernel⟩, aw_831, aw_9⟩
theorem my_X8_numberFrom : MV yX8_numberFrom cX8_numberFrom 5 (some .int) 2 := ⟨aw_827, aw_24, ⟨by decide, by decide, by decide +kernel⟩, aw_826, aw_8⟩
theorem my_X8_placeOfFault : MS yX8_placeOfFault cX8_placeOfFault 1 (some .int) 1 := ⟨aw_835, aw_24, ⟨by decide, by decide, by decide +kernel⟩, aw_834⟩
theorem my_X8_readForm : MV yX8_readForm cX8_readForm 9 (some .int) 3 := ⟨aw_800, aw_24, ⟨by decide, by decide, by decide +kernel⟩, aw_799, aw_5⟩
-- KilnKeeper$Reader.digitAt 
set_option maxHeartbeats 1000000 in
set_option maxRecDepth 20000 in
theorem c_X8_digitAt (l : Launch) (G : GT) (a : Id3 → Nat) (Y : YT) (T : Nat → Int32) (e : Nat) (i : Nat)  (htl : Y (5, 0, 0) 0 = nI e) (he : e ≤ 60) (hT : ∀ j, j < e → Y (5, 0, 0) (1 + j) = T j) (hi6 : i ≤ 1000) : CtY l G a yX8_digitAt cX8_digitAt 3 (some .int) ({ frames := 4, cells := 0, slots := 0, locals := 88 } : Room) [.ref (a (2, 0, 5)), .int (nI i)] Y (PI (fun r Y' => r = dgF T e i ∧ Y' = Y)) := by
  refine CtY.of (by decide) rfl (Nat.le_of_ble_eq_true rfl) ?_
  intro X A C hl
  subst hl
  refine y_iload_n (pc' := 1) rfl C dX8_digitAt_0 rfl ?_
  refine y_if_lt (pc' := 4) rfl (tgt := 15) C dX8_digitAt_1 (by decide) (fun c_1 => ?_) (fun c_1 => ?_)
  · exact absurd c_1 (nI_pos (by omega))
  · refine y_iload_n (pc' := 5) rfl C dX8_digitAt_4 rfl ?_
    refine y_aload_n (pc' := 6) rfl C dX8_digitAt_5 rfl ?_
    refine y_get (pc' := 9) rfl (v := .ref (a (5, 0, 0))) C fl_X8_12 (v2 rfl) rfl rfl dX8_digitAt_6 rfl ?_
    refine y_cVg (na := 0) (pc' := 12) (k' := 0) (n' := 0) rfl C (c_J4_length_8abf5 _ G a Y 0 e (by decide) htl) ⟨aw_346, aw_26, ⟨by decide, by decide, by decide +kernel⟩, aw_344⟩ (C.ts _ aw_345) aw_343 (ry_sb C (by decide)) rfl rfl (Nat.le_of_ble_eq_true rfl) rfl dX8_digitAt_9 rfl rfl (k_PI fun r_9 Y_9 hp_9 => ?_)
    obtain ⟨hr_9, hY_9⟩ := hp_9
    have hY_9 := hY_9.symm; subst hY_9
    refine y_conv (L' := [some (.ref (a (2, 0, 5))), some (.int ((nI i))), none]) (st' := [.int ((nI e)), .int ((nI i))]) (rfl) (by rw [hr_9]) ?_
    refine y_ic_lt (pc' := 15) rfl (tgt := 17) C dX8_digitAt_12 (by decide) (fun c_12 => ?_) (fun c_12 => ?_)
    · have hie : i < e := (nI_ltI (by omega) (by omega)).mp c_12
      refine y_aload_n (pc' := 18) rfl C dX8_digitAt_17 rfl ?_
      refine y_get (pc' := 21) rfl (v := .ref (a (5, 0, 0))) C fl_X8_12 (v2 rfl) rfl rfl dX8_digitAt_18 rfl ?_
      refine y_iload_n (pc' := 22) rfl C dX8_digitAt_21 rfl ?_
      refine y_cVg (na := 1) (pc' := 25) (k' := 0) (n' := 0) rfl C (c_J4_charAt_5068e _ G a Y 0 e i (by decide) htl (by omega) hie) ⟨aw_817, aw_26, ⟨by decide, by decide, by decide +kernel⟩, aw_815⟩ (C.ts _ aw_816) aw_814 (ry_sb C (by decide)) rfl rfl (Nat.le_of_ble_eq_true rfl) rfl dX8_digitAt_22 rfl rfl (k_PI fun r_22 Y_22 hp_22 => ?_)
      obtain ⟨hr_22, hY_22⟩ := hp_22
      have hY_22 := hY_22.symm; subst hY_22
      have hh : hereT T e i = r_22 := by rw [hr_22, hT i hie]; exact if_pos hie
      refine y_istore_n (pc' := 26) rfl C dX8_digitAt_25 (by decide) ?_
      refine y_iload_n (pc' := 27) rfl C dX8_digitAt_26 rfl ?_
      refine y_bipush (pc' := 29) rfl (v := 48) C dX8_digitAt_27 (by decide) ?_
      refine y_ic_lt (pc' := 32) rfl (tgt := 45) C dX8_digitAt_29 (by decide) (fun c_29 => ?_) (fun c_29 => ?_)
      · refine y_iconst (pc' := 46) rfl (v := (-1)) C dX8_digitAt_45 (by decide) ?_
        refine y_ireturn C rfl rfl dX8_digitAt_46 rfl rfl ?_
        exact ⟨by rw [dgF, hh, if_neg (fun z => absurd z.1 (Int32.not_le.mpr c_29))], rfl⟩
      · refine y_iload_n (pc' := 33) rfl C dX8_digitAt_32 rfl ?_
        refine y_bipush (pc' := 35) rfl (v := 57) C dX8_digitAt_33 (by decide) ?_
        refine y_ic_gt (pc' := 38) rfl (tgt := 45) C dX8_digitAt_35 (by decide) (fun c_35 => ?_) (fun c_35 => ?_)
        · refine y_iconst (pc' := 46) rfl (v := (-1)) C dX8_digitAt_45 (by decide) ?_
          refine y_ireturn C rfl rfl dX8_digitAt_46 rfl rfl ?_
          exact ⟨by rw [dgF, hh, if_neg (fun z => absurd z.2 (Int32.not_le.mpr c_35))], rfl⟩
        · refine y_iload_n (pc' := 39) rfl C dX8_digitAt_38 rfl ?_
          refine y_bipush (pc' := 41) rfl (v := 48) C dX8_digitAt_39 (by decide) ?_
          refine y_isub (pc' := 42) rfl C dX8_digitAt_41 ?_
          refine y_goto (tgt := 46) C dX8_digitAt_42 (by decide) ?_
          refine y_ireturn C rfl rfl dX8_digitAt_46 rfl rfl ?_
          exact ⟨by rw [dgF, hh, if_pos ⟨Int32.not_lt.mp c_29, Int32.not_lt.mp c_35⟩], rfl⟩
    · have hie : ¬ i < e := fun z => c_12 (nI_lt z (by omega))
      refine y_iconst (pc' := 16) rfl (v := (-1)) C dX8_digitAt_15 (by decide) ?_
      refine y_ireturn C rfl rfl dX8_digitAt_16 rfl rfl ?_
      exact ⟨by rw [dgF, show hereT T e i = -10001 from if_neg hie, if_neg (by decide)], rfl⟩
-- KilnKeeper$Reader.isSignAt 
set_option maxHeartbeats 1000000 in
set_option maxRecDepth 20000 in
theorem c_X8_isSignAt (l : Launch) (G : GT) (a : Id3 → Nat) (Y : YT) (T : Nat → Int32) (e : Nat) (i : Nat) (c : Int32)  (htl : Y (5, 0, 0) 0 = nI e) (he : e ≤ 60) (hT : ∀ j, j < e → Y (5, 0, 0) (1 + j) = T j) (hi6 : i ≤ 1000) (hcn : c ≠ -10001) : CtY l G a yX8_isSignAt cX8_isSignAt 3 (some .boolean) ({ frames := 4, cells := 0, slots := 0, locals := 88 } : Room) [.ref (a (2, 0, 5)), .int (nI i), .int c] Y (PI (fun r Y' => r = bi (hereT T e i = c) ∧ Y' = Y)) := by
  refine CtY.of (by decide) rfl (Nat.le_of_ble_eq_true rfl) ?_
  intro X A C hl
  subst hl
  refine y_iload_n (pc' := 1) rfl C dX8_isSignAt_0 rfl ?_
  refine y_if_lt (pc' := 4) rfl (tgt := 31) C dX8_isSignAt_1 (by decide) (fun c_1 => ?_) (fun c_1 => ?_)
  · exact absurd c_1 (nI_pos (by omega))
  · refine y_iload_n (pc' := 5) rfl C dX8_isSignAt_4 rfl ?_
    refine y_aload_n (pc' := 6) rfl C dX8_isSignAt_5 rfl ?_
    refine y_get (pc' := 9) rfl (v := .ref (a (5, 0, 0))) C fl_X8_12 (v2 rfl) rfl rfl dX8_isSignAt_6 rfl ?_
    refine y_cVg (na := 0) (pc' := 12) (k' := 0) (n' := 0) rfl C (c_J4_length_8abf5 _ G a Y 0 e (by decide) htl) ⟨aw_346, aw_26, ⟨by decide, by decide, by decide +kernel⟩, aw_344⟩ (C.ts _ aw_345) aw_343 (ry_sb C (by decide)) rfl rfl (Nat.le_of_ble_eq_true rfl) rfl dX8_isSignAt_9 rfl rfl (k_PI fun r_9 Y_9 hp_9 => ?_)
    obtain ⟨hr_9, hY_9⟩ := hp_9
    have hY_9 := hY_9.symm; subst hY_9
    refine y_conv (L' := [some (.ref (a (2, 0, 5))), some (.int ((nI i))), some (.int c)]) (st' := [.int ((nI e)), .int ((nI i))]) (rfl) (by rw [hr_9]) ?_
    refine y_ic_ge (pc' := 15) rfl (tgt := 31) C dX8_isSignAt_12 (by decide) (fun c_12 => ?_) (fun c_12 => ?_)
    · have hie : ¬ i < e := fun z => absurd c_12 (Int32.not_le.mpr (nI_lt z (by omega)))
      refine y_iconst (pc' := 32) rfl (v := 0) C dX8_isSignAt_31 (by decide) ?_
      refine y_ireturn C rfl (by first | rfl | exact nb_narrow (by assumption)) dX8_isSignAt_32 rfl rfl ?_
      exact ⟨(bi_f (fun z => hcn (z.symm.trans (if_neg hie)))).symm, rfl⟩
    · have hie : i < e := nI_nle_iff (by omega) (by omega) c_12
      refine y_aload_n (pc' := 16) rfl C dX8_isSignAt_15 rfl ?_
      refine y_get (pc' := 19) rfl (v := .ref (a (5, 0, 0))) C fl_X8_12 (v2 rfl) rfl rfl dX8_isSignAt_16 rfl ?_
      refine y_iload_n (pc' := 20) rfl C dX8_isSignAt_19 rfl ?_
      refine y_cVg (na := 1) (pc' := 23) (k' := 0) (n' := 0) rfl C (c_J4_charAt_5068e _ G a Y 0 e i (by decide) htl (by omega) hie) ⟨aw_817, aw_26, ⟨by decide, by decide, by decide +kernel⟩, aw_815⟩ (C.ts _ aw_816) aw_814 (ry_sb C (by decide)) rfl rfl (Nat.le_of_ble_eq_true rfl) rfl dX8_isSignAt_20 rfl rfl (k_PI fun r_20 Y_20 hp_20 => ?_)
      obtain ⟨hr_20, hY_20⟩ := hp_20
      have hY_20 := hY_20.symm; subst hY_20
      have hh : hereT T e i = r_20 := by rw [hr_20, hT i hie]; exact if_pos hie
      refine y_iload_n (pc' := 24) rfl C dX8_isSignAt_23 rfl ?_
      refine y_ic_ne (pc' := 27) rfl (tgt := 31) C dX8_isSignAt_24 (by decide) (fun c_24 => ?_) (fun c_24 => ?_)
      · refine y_iconst (pc' := 32) rfl (v := 0) C dX8_isSignAt_31 (by decide) ?_
        refine y_ireturn C rfl (by first | rfl | exact nb_narrow (by assumption)) dX8_isSignAt_32 rfl rfl ?_
        exact ⟨(bi_f (fun z => c_24 (by rw [← hh]; exact z))).symm, rfl⟩
      · refine y_iconst (pc' := 28) rfl (v := 1) C dX8_isSignAt_27 (by decide) ?_
        refine y_goto (tgt := 32) C dX8_isSignAt_28 (by decide) ?_
        refine y_ireturn C rfl (by first | rfl | exact nb_narrow (by assumption)) dX8_isSignAt_32 rfl rfl ?_
        exact ⟨(bi_t (by rw [hh]; exact c_24)).symm, rfl⟩
-- KilnKeeper$Reader.endOfDigits 
set_option maxHeartbeats 1000000 in
set_option maxRecDepth 20000 in
theorem c_X8_endOfDigits (l : Launch) (G : GT) (a : Id3 → Nat) (Y : YT) (T : Nat → Int32) (e : Nat) (sp m : Nat)  (htl : Y (5, 0, 0) 0 = nI e) (he : e ≤ 60) (hT : ∀ j, j < e → Y (5, 0, 0) (1 + j) = T j) (hsp : sp ≤ 100) (hm9 : m ≤ 9) : CtY l G a yX8_endOfDigits cX8_endOfDigits 4 (some .int) ({ frames := 5, cells := 0, slots := 0, locals := 110 } : Room) [.ref (a (2, 0, 5)), .int (nI sp), .int (nI m)] Y (PI (fun r Y' => r = nI (sp + ndF T e sp m) ∧ Y' = Y)) := by
  refine CtY.of (by decide) rfl (Nat.le_of_ble_eq_true rfl) ?_
  intro X A C hl
  subst hl
  refine y_iload_n (pc' := 1) rfl C dX8_endOfDigits_0 rfl ?_
  refine y_istore_n (pc' := 2) rfl C dX8_endOfDigits_1 (by decide) ?_
  refine y_conv (L' := [some (.ref (a (2, 0, 5))), some (.int ((nI sp))), some (.int ((nI m))), some (.int ((nI (sp + 0))))]) (rfl) rfl ?_
  suffices K2 : ∀ (fu_ i2 : Nat) (Yl2 : YT), i2 ≤ m → m < fu_ + i2 → Yl2 = Y → ndF T e sp m = i2 + ndF T e (sp + i2) (m - i2) → WY X G A a Yl2 0 0 _ 2 [some (.ref (a (2, 0, 5))), some (.int ((nI sp))), some (.int ((nI m))), some (.int ((nI (sp + i2))))] [] from K2 (m + 1) 0 _ (by omega) (by omega) (rfl) (by rw [Nat.sub_zero, Nat.add_zero, Nat.zero_add])
  intro fu_
  induction fu_ with
  | zero => intro i2 Yl2 h1 h2; omega
  | succ fu_ ih2 =>
    intro i2 Yl2 hi2 hm2 hYl2 hx2
    refine y_iload_n (pc' := 3) rfl C dX8_endOfDigits_2 rfl ?_
    refine y_iload_n (pc' := 4) rfl C dX8_endOfDigits_3 rfl ?_
    refine y_iload_n (pc' := 5) rfl C dX8_endOfDigits_4 rfl ?_
    refine y_iadd (pc' := 6) rfl C dX8_endOfDigits_5 ?_
    refine y_ic_ge (pc' := 9) rfl (tgt := 34) C dX8_endOfDigits_6 (by decide) (fun c_6 => ?_) (fun c_6 => ?_)
    · have hb2 : m ≤ i2 := by have h_ := nI_le_iff (i := sp + i2) (n := sp + m) (by omega) (by omega) (by rw [← nI_add sp m]; exact c_6); omega
      refine y_iload_n (pc' := 35) rfl C dX8_endOfDigits_34 rfl ?_
      refine y_ireturn C rfl rfl dX8_endOfDigits_35 rfl rfl ?_
      have q : ndF T e sp m = i2 := by rw [hx2, show m - i2 = 0 by omega]; rfl
      exact ⟨by rw [q], hYl2⟩
    · have hb2 : i2 < m := by have h_ := nI_nle_iff (i := sp + i2) (n := sp + m) (by omega) (by omega) (by rw [← nI_add sp m]; exact c_6); omega
      refine y_iload_n (pc' := 10) rfl C dX8_endOfDigits_9 rfl ?_
      refine y_aload_n (pc' := 11) rfl C dX8_endOfDigits_10 rfl ?_
      refine y_get (pc' := 14) rfl (v := .ref (a (5, 0, 0))) C fl_X8_12 (v2 rfl) rfl rfl dX8_endOfDigits_11 rfl ?_
      refine y_cVg (na := 0) (pc' := 17) (k' := 0) (n' := 0) rfl C (c_J4_length_8abf5 _ G a Yl2 0 e (by decide) (by rw [hYl2]; exact htl)) ⟨aw_346, aw_26, ⟨by decide, by decide, by decide +kernel⟩, aw_344⟩ (C.ts _ aw_345) aw_343 (ry_sb C (by decide)) rfl rfl (Nat.le_of_ble_eq_true rfl) rfl dX8_endOfDigits_14 rfl rfl (k_PI fun r_14 Y_14 hp_14 => ?_)
      obtain ⟨hr_14, hY_14⟩ := hp_14
      have hY_14 := hY_14.symm; subst hY_14
      refine y_conv (L' := [some (.ref (a (2, 0, 5))), some (.int ((nI sp))), some (.int ((nI m))), some (.int ((nI (sp + i2))))]) (st' := [.int ((nI e)), .int ((nI (sp + i2)))]) (rfl) (by rw [hr_14]) ?_
      refine y_ic_ge (pc' := 20) rfl (tgt := 34) C dX8_endOfDigits_17 (by decide) (fun c_17 => ?_) (fun c_17 => ?_)
      · have hq : e ≤ sp + i2 := nI_le_iff (by omega) (by omega) c_17
        refine y_iload_n (pc' := 35) rfl C dX8_endOfDigits_34 rfl ?_
        refine y_ireturn C rfl rfl dX8_endOfDigits_35 rfl rfl ?_
        have q : ndF T e sp m = i2 := ndF_off hx2 (by rw [show hereT T e (sp + i2) = -10001 from if_neg (by omega)]; decide)
        exact ⟨by rw [q], hYl2⟩
      · have hq : sp + i2 < e := nI_nle_iff (by omega) (by omega) c_17
        refine y_aload_n (pc' := 21) rfl C dX8_endOfDigits_20 rfl ?_
        refine y_iload_n (pc' := 22) rfl C dX8_endOfDigits_21 rfl ?_
        refine y_cVi (pc' := 25) (k' := 0) (n' := 0) rfl C (c_X8_digitAt _ G a Yl2 T e (sp + i2) (by rw [hYl2]; exact htl) he (by rw [hYl2]; exact hT) (by omega)) my_X8_digitAt aw_810 (v2 rfl) rfl rfl rfl rfl rfl (Nat.le_of_ble_eq_true rfl) rfl dX8_endOfDigits_22 rfl rfl (fun r_22 Y_22 hp_22 => ?_)
        obtain ⟨rfl, hY_22⟩ := hp_22
        have hY_22 := hY_22.symm; subst hY_22
        refine y_if_lt (pc' := 28) rfl (tgt := 34) C dX8_endOfDigits_25 (by decide) (fun c_25 => ?_) (fun c_25 => ?_)
        · have hd := dgF_off c_25
          refine y_iload_n (pc' := 35) rfl C dX8_endOfDigits_34 rfl ?_
          refine y_ireturn C rfl rfl dX8_endOfDigits_35 rfl rfl ?_
          have q : ndF T e sp m = i2 := ndF_off hx2 hd
          exact ⟨by rw [q], hYl2⟩
        · have hd := dgF_on c_25
          refine y_iinc (pc' := 31) rfl (v := (nI (sp + (i2 + 1)))) C dX8_endOfDigits_28 rfl (nI_1 (sp + i2)) (by decide) ?_
          refine y_goto (tgt := 2) C dX8_endOfDigits_31 (by decide) ?_
          exact ih2 (i2 + 1) _ (by omega) (by omega) (hYl2) (ndF_on hb2 hx2 hd)
-- KilnKeeper$Reader.numberFrom 
set_option maxHeartbeats 1000000 in
set_option maxRecDepth 20000 in
theorem c_X8_numberFrom (l : Launch) (G : GT) (a : Id3 → Nat) (Y : YT) (T : Nat → Int32) (e : Nat) (sp en : Nat)  (htl : Y (5, 0, 0) 0 = nI e) (he : e ≤ 60) (hT : ∀ j, j < e → Y (5, 0, 0) (1 + j) = T j) (hse : sp ≤ en) (hen : en ≤ e) (hdg : ∀ j, j < en - sp → 48 ≤ hereT T e (sp + j) ∧ hereT T e (sp + j) ≤ 57) : CtY l G a yX8_numberFrom cX8_numberFrom 5 (some .int) ({ frames := 5, cells := 0, slots := 0, locals := 110 } : Room) [.ref (a (2, 0, 5)), .int (nI sp), .int (nI en)] Y (PI (fun r Y' => r = nvF T e sp (en - sp) ∧ Y' = Y)) := by
  refine CtY.of (by decide) rfl (Nat.le_of_ble_eq_true rfl) ?_
  intro X A C hl
  subst hl
  refine y_iconst (pc' := 1) rfl (v := 0) C dX8_numberFrom_0 (by decide) ?_
  refine y_istore_n (pc' := 2) rfl C dX8_numberFrom_1 (by decide) ?_
  refine y_iload_n (pc' := 3) rfl C dX8_numberFrom_2 rfl ?_
  refine y_istore (pc' := 5) rfl C dX8_numberFrom_3 (by decide) ?_
  refine y_conv (L' := [some (.ref (a (2, 0, 5))), some (.int ((nI sp))), some (.int ((nI en))), some (.int ((nvF T e sp 0))), some (.int ((nI (sp + 0))))]) (rfl) rfl ?_
  suffices K5 : ∀ (fu_ i5 : Nat) (Yl5 : YT), i5 ≤ (en - sp) → (en - sp) < fu_ + i5 → Yl5 = Y → WY X G A a Yl5 0 0 _ 5 [some (.ref (a (2, 0, 5))), some (.int ((nI sp))), some (.int ((nI en))), some (.int ((nvF T e sp i5))), some (.int ((nI (sp + i5))))] [] from K5 ((en - sp) + 1) 0 _ (by omega) (by omega) (rfl)
  intro fu_
  induction fu_ with
  | zero => intro i5 Yl5 h1 h2; omega
  | succ fu_ ih5 =>
    intro i5 Yl5 hi5 hm5 hYl5
    refine y_iload (pc' := 7) rfl C dX8_numberFrom_5 rfl ?_
    refine y_iload_n (pc' := 8) rfl C dX8_numberFrom_7 rfl ?_
    refine y_ic_ge (pc' := 11) rfl (tgt := 29) C dX8_numberFrom_8 (by decide) (fun c_8 => ?_) (fun c_8 => ?_)
    · have hb5 : en - sp ≤ i5 := by have h_ := nI_le_iff (i := sp + i5) (n := en) (by omega) (by omega) c_8; omega
      refine y_iload_n (pc' := 30) rfl C dX8_numberFrom_29 rfl ?_
      refine y_ireturn C rfl rfl dX8_numberFrom_30 rfl rfl ?_
      exact ⟨by rw [show en - sp = i5 by omega], hYl5⟩
    · have hb5 : i5 < en - sp := by have h_ := nI_nle_iff (i := sp + i5) (n := en) (by omega) (by omega) c_8; omega
      refine y_bipush (pc' := 13) rfl (v := 10) C dX8_numberFrom_11 (by decide) ?_
      refine y_iload_n (pc' := 14) rfl C dX8_numberFrom_13 rfl ?_
      refine y_imul (pc' := 15) rfl C dX8_numberFrom_14 ?_
      refine y_aload_n (pc' := 16) rfl C dX8_numberFrom_15 rfl ?_
      refine y_iload (pc' := 18) rfl C dX8_numberFrom_16 rfl ?_
      refine y_cVi (pc' := 21) (k' := 0) (n' := 0) rfl C (c_X8_digitAt _ G a Yl5 T e (sp + i5) (by rw [hYl5]; exact htl) he (by rw [hYl5]; exact hT) (by omega)) my_X8_digitAt aw_810 (v2 rfl) rfl rfl rfl rfl rfl (Nat.le_of_ble_eq_true rfl) rfl dX8_numberFrom_18 rfl rfl (fun r_18 Y_18 hp_18 => ?_)
      obtain ⟨rfl, hY_18⟩ := hp_18
      have hY_18 := hY_18.symm; subst hY_18
      refine y_iadd (pc' := 22) rfl C dX8_numberFrom_21 ?_
      refine y_istore_n (pc' := 23) rfl C dX8_numberFrom_22 (by decide) ?_
      refine y_iinc (pc' := 26) rfl (v := (nI (sp + (i5 + 1)))) C dX8_numberFrom_23 rfl (nI_1 (sp + i5)) (by decide) ?_
      refine y_goto (tgt := 5) C dX8_numberFrom_26 (by decide) ?_
      refine y_conv (L' := [some (.ref (a (2, 0, 5))), some (.int ((nI sp))), some (.int ((nI en))), some (.int ((nvF T e sp (i5 + 1)))), some (.int ((nI (sp + (i5 + 1)))))]) (by rw [show dgF T e (sp + i5) = hereT T e (sp + i5) - 48 from if_pos (hdg i5 hb5), add_sub32]; rfl) rfl ?_
      exact ih5 (i5 + 1) _ (by omega) (by omega) (hYl5)
-- KilnKeeper$Reader.faultAt 
set_option maxHeartbeats 1000000 in
set_option maxRecDepth 20000 in
theorem c_X8_faultAt (l : Launch) (G : GT) (a : Id3 → Nat) (Y : YT) (x : Int32)   : CtY l G a yX8_faultAt cX8_faultAt 1 (some .int) ({ frames := 0, cells := 0, slots := 0, locals := 0 } : Room) [.int x] Y (PI (fun r Y' => r = -1 - x ∧ Y' = Y)) := by
  refine CtY.of (by decide) rfl (Nat.le_of_ble_eq_true rfl) ?_
  intro X A C hl
  subst hl
  refine y_iconst (pc' := 1) rfl (v := (-1)) C dX8_faultAt_0 (by decide) ?_
  refine y_iload_n (pc' := 2) rfl C dX8_faultAt_1 rfl ?_
  refine y_isub (pc' := 3) rfl C dX8_faultAt_2 ?_
  refine y_ireturn C rfl rfl dX8_faultAt_3 rfl rfl ?_
  exact ⟨rfl, rfl⟩
-- KilnKeeper$Reader.placeOfFault 
set_option maxHeartbeats 1000000 in
set_option maxRecDepth 20000 in
theorem c_X8_placeOfFault (l : Launch) (G : GT) (a : Id3 → Nat) (Y : YT) (x : Int32)   : CtY l G a yX8_placeOfFault cX8_placeOfFault 1 (some .int) ({ frames := 0, cells := 0, slots := 0, locals := 0 } : Room) [.int x] Y (PI (fun r Y' => r = -1 - x ∧ Y' = Y)) := by
  refine CtY.of (by decide) rfl (Nat.le_of_ble_eq_true rfl) ?_
  intro X A C hl
  subst hl
  refine y_iconst (pc' := 1) rfl (v := (-1)) C dX8_placeOfFault_0 (by decide) ?_
  refine y_iload_n (pc' := 2) rfl C dX8_placeOfFault_1 rfl ?_
  refine y_isub (pc' := 3) rfl C dX8_placeOfFault_2 ?_
  refine y_ireturn C rfl rfl dX8_placeOfFault_3 rfl rfl ?_
  exact ⟨rfl, rfl⟩
-- KilnKeeper$Reader.orderAt 
set_option maxHeartbeats 1000000 in
set_option maxRecDepth 20000 in
theorem c_X8_orderAt (l : Launch) (G : GT) (a : Id3 → Nat) (Y : YT) (j : Nat)  (hj : j < 12) : CtY l G a yX8_orderAt cX8_orderAt 2 (some (.object "KilnKeeper$Order")) ({ frames := 0, cells := 0, slots := 0, locals := 0 } : Room) [.ref (a (2, 0, 5)), .int (nI j)] Y (PR (fun r Y' => r = .ref (a (3, j, 0)) ∧ Y' = Y)) := by
  refine CtY.of (by decide) rfl (Nat.le_of_ble_eq_true rfl) ?_
  intro X A C hl
  subst hl
  refine y_iload_n (pc' := 1) rfl C dX8_orderAt_0 rfl ?_
  refine y_if_lt (pc' := 4) rfl (tgt := 22) C dX8_orderAt_1 (by decide) (fun c_1 => ?_) (fun c_1 => ?_)
  · exact absurd c_1 (nI_pos (by omega))
  · refine y_iload_n (pc' := 5) rfl C dX8_orderAt_4 rfl ?_
    refine y_aload_n (pc' := 6) rfl C dX8_orderAt_5 rfl ?_
    refine y_get (pc' := 9) rfl (v := .ref (a (2, 0, 6))) C fl_X8_20 (v2 rfl) rfl rfl dX8_orderAt_6 rfl ?_
    refine y_alenQ (pc' := 10) rfl C (v2 rfl) rfl rfl rfl dX8_orderAt_9 ?_
    refine y_ic_ge (pc' := 13) rfl (tgt := 22) C dX8_orderAt_10 (by decide) (fun c_10 => ?_) (fun c_10 => ?_)
    · exact absurd c_10 (nI_ge (by omega) (by decide))
    · refine y_aload_n (pc' := 14) rfl C dX8_orderAt_13 rfl ?_
      refine y_get (pc' := 17) rfl (v := .ref (a (2, 0, 6))) C fl_X8_20 (v2 rfl) rfl rfl dX8_orderAt_14 rfl ?_
      refine y_iload_n (pc' := 18) rfl C dX8_orderAt_17 rfl ?_
      refine y_aaldN (pc' := 19) rfl C j rfl (v2 rfl) rfl rfl rfl hj rfl dX8_orderAt_18 ?_
      refine y_goto (tgt := 23) C dX8_orderAt_19 (by decide) ?_
      refine y_areturn C rfl (Or.inl ⟨_, rfl⟩) (Or.inr ⟨_, rfl⟩) dX8_orderAt_23 rfl rfl ?_
      exact ⟨rfl, rfl⟩
-- KilnKeeper$Reader.readForm 
set_option maxHeartbeats 1000000 in
set_option maxRecDepth 20000 in
theorem c_X8_readForm (l : Launch) (G : GT) (a : Id3 → Nat) (Y : YT) (T : Nat → Int32) (e : Nat) (w sp o : Nat)  (htl : Y (5, 0, 0) 0 = nI e) (he : e ≤ 60) (hT : ∀ j, j < e → Y (5, 0, 0) (1 + j) = T j) (hw9 : w < 9) (hsp : sp ≤ e) (ho : o < 12) : CtY l G a yX8_readForm cX8_readForm 9 (some .int) ({ frames := 6, cells := 0, slots := 0, locals := 134 } : Room) [.ref (a (2, 0, 5)), .ref (gad G w), .int (nI sp), .ref (a (3, o, 0))] Y (PI (fun r Y' => r = (if (fmS T e (10 + w) sp (Y (3, o, 1)) (wlen w)).2.1 = 0 then nI (fmS T e (10 + w) sp (Y (3, o, 1)) (wlen w)).1 else -1 - nI (fmS T e (10 + w) sp (Y (3, o, 1)) (wlen w)).1) ∧ Y' = setA (up Y (3, o, 0) 0 (nI w)) (3, o, 1) (fmS T e (10 + w) sp (Y (3, o, 1)) (wlen w)).2.2)) := by
  refine CtY.of (by decide) rfl (Nat.le_of_ble_eq_true rfl) ?_
  intro X A C hl
  subst hl
  obtain ⟨n0, hn0⟩ : ∃ n0, n0 = Y (3, o, 1) := ⟨_, rfl⟩
  have hwl := (wl_facts w hw9).1
  refine y_aload_n (pc' := 1) rfl C dX8_readForm_0 rfl ?_
  refine y_ifnull (pc' := 4) rfl C dX8_readForm_1 ?_
  refine y_aload_n (pc' := 5) rfl C dX8_readForm_4 rfl ?_
  refine y_ifnonnull (tgt := 13) C dX8_readForm_5 (by decide) ?_
  refine y_aload_n (pc' := 14) rfl C dX8_readForm_13 rfl ?_
  refine y_aload_n (pc' := 15) rfl C dX8_readForm_14 rfl ?_
  refine y_putE (pc' := 18) rfl C fp_X8_74 (v3 ho rfl) rfl rfl (show w < 100 by omega) dX8_readForm_15 rfl (fun Z15 hZ15 => ?_)
  refine y_iload_n (pc' := 19) rfl C dX8_readForm_18 rfl ?_
  refine y_istore (pc' := 21) rfl C dX8_readForm_19 (by decide) ?_
  refine y_iconst (pc' := 22) rfl (v := 0) C dX8_readForm_21 (by decide) ?_
  refine y_istore (pc' := 24) rfl C dX8_readForm_22 (by decide) ?_
  refine y_iconst (pc' := 25) rfl (v := 0) C dX8_readForm_24 (by decide) ?_
  refine y_istore (pc' := 27) rfl C dX8_readForm_25 (by decide) ?_
  refine y_conv (L' := [some (.ref (a (2, 0, 5))), some (.ref (gad G w)), some (.int ((nI sp))), some (.ref (a (3, o, 0))), some (.int ((nI (fmS T e (10 + w) sp n0 0).1))), some (.int ((nI (cntK (10 + w) 0)))), some (.int ((nI 0))), none, none]) (rfl) rfl ?_
  suffices K27 : ∀ (fu_ i27 : Nat) (Yl27 : YT), i27 ≤ (wlen w) → (wlen w) < fu_ + i27 → Yl27 = setA Z15 (3, o, 1) (fmS T e (10 + w) sp n0 i27).2.2 → (fmS T e (10 + w) sp n0 i27).2.1 = 0 → WY X G A a Yl27 0 0 _ 27 [some (.ref (a (2, 0, 5))), some (.ref (gad G w)), some (.int ((nI sp))), some (.ref (a (3, o, 0))), some (.int ((nI (fmS T e (10 + w) sp n0 i27).1))), some (.int ((nI (cntK (10 + w) i27)))), some (.int ((nI i27))), none, none] [] from K27 ((wlen w) + 1) 0 _ (by omega) (by omega) (by rw [show (fmS T e (10 + w) sp n0 0).2.2 = Z15 (3, o, 1) by rw [hZ15, up_n (nej (by decide)), ← hn0]; rfl, setA_self]) (rfl)
  intro fu_
  induction fu_ with
  | zero => intro i27 Yl27 h1 h2; omega
  | succ fu_ ih27 =>
    intro i27 Yl27 hi27 hm27 hYl27 hx27
    have t27 : Yl27 (5, 0, 0) = Y (5, 0, 0) := by rw [hYl27, setA_n s53, hZ15, up_n s53]
    have m27 := fmS_le (T := T) (e := e) (k := 10 + w) (n0 := n0) (by omega) hsp i27 (by omega)
    refine y_iload (pc' := 29) rfl C dX8_readForm_27 rfl ?_
    refine y_aload_n (pc' := 30) rfl C dX8_readForm_29 rfl ?_
    refine y_getF (pc' := 33) rfl C (C.ev.2.2.2.2.2.2.1 w hw9) aw_1118 dX8_readForm_30 ?_
    refine y_cVg (na := 0) (pc' := 36) (k' := 0) (n' := 0) rfl C (c_J0_length_8abf5 _ G a Yl27 (10 + w) (show 10 ≤ 10 + w ∧ 10 + w < 25 by omega)) ⟨aw_606, aw_27, ⟨by decide, by decide, by decide +kernel⟩, aw_604⟩ (C.ts _ aw_605) aw_804 (ry_str C (show 10 ≤ 10 + w ∧ 10 + w < 25 by omega)) rfl rfl (Nat.le_of_ble_eq_true rfl) rfl dX8_readForm_33 rfl rfl (k_PI fun r_33 Y_33 hp_33 => ?_)
    obtain ⟨rfl, hY_33⟩ := hp_33
    have hY_33 := hY_33.symm; subst hY_33
    refine y_ic_ge (pc' := 39) rfl (tgt := 146) C dX8_readForm_36 (by decide) (fun c_36 => ?_) (fun c_36 => ?_)
    · have hb27 : (wlen w) ≤ i27 := nI_le_iff (by omega) (by omega) c_36
      refine y_iload (pc' := 148) rfl C dX8_readForm_146 rfl ?_
      refine y_ireturn C rfl rfl dX8_readForm_148 rfl rfl ?_
      have e27 : i27 = wlen w := by omega
      subst e27
      exact ⟨by rw [← hn0, if_pos hx27], by rw [← hn0, hYl27, hZ15]⟩
    · have hb27 : i27 < (wlen w) := nI_nle_iff (by omega) (by omega) c_36
      refine y_aload_n (pc' := 40) rfl C dX8_readForm_39 rfl ?_
      refine y_getF (pc' := 43) rfl C (C.ev.2.2.2.2.2.2.1 w hw9) aw_1118 dX8_readForm_40 ?_
      refine y_iload (pc' := 45) rfl C dX8_readForm_43 rfl ?_
      refine y_cVg (na := 1) (pc' := 48) (k' := 0) (n' := 0) rfl C (c_J0_charAt_5068e _ G a Yl27 (10 + w) i27 (show 10 ≤ 10 + w ∧ 10 + w < 25 by omega) hb27) ⟨aw_736, aw_27, ⟨by decide, by decide, by decide +kernel⟩, aw_734⟩ (C.ts _ aw_735) aw_805 (ry_str C (show 10 ≤ 10 + w ∧ 10 + w < 25 by omega)) rfl rfl (Nat.le_of_ble_eq_true rfl) rfl dX8_readForm_45 rfl rfl (k_PI fun r_45 Y_45 hp_45 => ?_)
      obtain ⟨rfl, hY_45⟩ := hp_45
      have hY_45 := hY_45.symm; subst hY_45
      refine y_istore (pc' := 50) rfl C dX8_readForm_48 (by decide) ?_
      refine y_iload (pc' := 52) rfl C dX8_readForm_50 rfl ?_
      refine y_bipush (pc' := 54) rfl (v := 49) C dX8_readForm_52 (by decide) ?_
      refine y_ic_lt (pc' := 57) rfl (tgt := 117) C dX8_readForm_54 (by decide) (fun c_54 => ?_) (fun c_54 => ?_)
      · have hnd : ¬ (49 ≤ sch (10 + w) i27 ∧ sch (10 + w) i27 ≤ 57) := fun z => absurd z.1 (Int32.not_le.mpr c_54)
        refine y_aload_n (pc' := 118) rfl C dX8_readForm_117 rfl ?_
        refine y_iload (pc' := 120) rfl C dX8_readForm_118 rfl ?_
        refine y_iload (pc' := 122) rfl C dX8_readForm_120 rfl ?_
        refine y_cVi (pc' := 125) (k' := 0) (n' := 0) rfl C (c_X8_isSignAt _ G a Yl27 T e (fmS T e (10 + w) sp n0 i27).1 (sch (10 + w) i27) (by rw [t27]; exact htl) he (by rw [t27]; exact hT) (by omega) (sch_ne (10 + w) (by omega) i27 (by omega))) my_X8_isSignAt aw_829 (v2 rfl) rfl rfl rfl rfl rfl (Nat.le_of_ble_eq_true rfl) rfl dX8_readForm_122 rfl rfl (fun r_122 Y_122 hp_122 => ?_)
        obtain ⟨rfl, hY_122⟩ := hp_122
        have hY_122 := hY_122.symm; subst hY_122
        refine y_if_eq (pc' := 128) rfl (tgt := 134) C dX8_readForm_125 (by decide) (fun c_125 => ?_) (fun c_125 => ?_)
        · have h_125 := bi_0.mp c_125
          refine y_iload (pc' := 136) rfl C dX8_readForm_134 rfl ?_
          refine y_cSi (pc' := 139) (k' := 0) (n' := 0) rfl C (c_X8_faultAt _ G a Yl27 (nI (fmS T e (10 + w) sp n0 i27).1)) my_X8_faultAt aw_801 rfl rfl (Nat.le_of_ble_eq_true rfl) rfl dX8_readForm_136 rfl rfl (fun r_136 Y_136 hp_136 => ?_)
          obtain ⟨rfl, hY_136⟩ := hp_136
          have hY_136 := hY_136.symm; subst hY_136
          refine y_ireturn C rfl rfl dX8_readForm_139 rfl rfl ?_
          have hfs : (fmS T e (10 + w) sp n0 (i27 + 1)) = ((fmS T e (10 + w) sp n0 i27).1, 1, (fmS T e (10 + w) sp n0 i27).2.2) := by rw [fmS, if_neg hnd, litS, if_pos hx27, if_neg h_125]
          have hL : (fmS T e (10 + w) sp n0 (wlen w)) = ((fmS T e (10 + w) sp n0 i27).1, 1, (fmS T e (10 + w) sp n0 i27).2.2) := by have h_ := fmS_x (T := T) (e := e) (k := 10 + w) (sp := sp) (n0 := n0) (i := i27 + 1) (by rw [hfs]; exact (by decide : ¬ (1 : Int32) = 0)) (wlen w - (i27 + 1)); rw [show i27 + 1 + (wlen w - (i27 + 1)) = wlen w by omega, hfs] at h_; exact h_
          exact ⟨by rw [← hn0, hL, if_neg (show ¬ (1 : Int32) = 0 by decide)], by rw [← hn0, hL, hYl27, hZ15]⟩
        · have h_125 := bi_n0 c_125
          have hfs : (fmS T e (10 + w) sp n0 (i27 + 1)) = ((fmS T e (10 + w) sp n0 i27).1 + 1, 0, (fmS T e (10 + w) sp n0 i27).2.2) := by rw [fmS, if_neg hnd, litS, if_pos hx27, if_pos h_125]
          have hcs : cntK (10 + w) (i27 + 1) = cntK (10 + w) i27 := by rw [cntK, if_neg hnd]
          refine y_iinc (pc' := 131) rfl (v := (nI ((fmS T e (10 + w) sp n0 i27).1 + 1))) C dX8_readForm_128 rfl (nI_1 _) (by decide) ?_
          refine y_goto (tgt := 140) C dX8_readForm_131 (by decide) ?_
          refine y_iinc (pc' := 143) rfl (v := (nI (i27 + 1))) C dX8_readForm_140 rfl (nI_1 i27) (by decide) ?_
          refine y_goto (tgt := 27) C dX8_readForm_143 (by decide) ?_
          refine y_conv (L' := [some (.ref (a (2, 0, 5))), some (.ref (gad G w)), some (.int ((nI sp))), some (.ref (a (3, o, 0))), some (.int ((nI (fmS T e (10 + w) sp n0 (i27 + 1)).1))), some (.int ((nI (cntK (10 + w) (i27 + 1))))), some (.int ((nI (i27 + 1)))), some (.int ((sch (10 + w) i27))), none]) (by rw [hfs, hcs]; rfl) rfl ?_
          refine y_weak (L' := [some (.ref (a (2, 0, 5))), some (.ref (gad G w)), some (.int ((nI sp))), some (.ref (a (3, o, 0))), some (.int ((nI (fmS T e (10 + w) sp n0 (i27 + 1)).1))), some (.int ((nI (cntK (10 + w) (i27 + 1))))), some (.int ((nI (i27 + 1)))), none, none]) (wk_c (wk_c (wk_c (wk_c (wk_c (wk_c (wk_c (wk_n (wk_c wk_nil))))))))) ?_
          exact ih27 (i27 + 1) _ (by omega) (by omega) (by rw [hYl27, hfs]) (by rw [hfs])
      · refine y_iload (pc' := 59) rfl C dX8_readForm_57 rfl ?_
        refine y_bipush (pc' := 61) rfl (v := 57) C dX8_readForm_59 (by decide) ?_
        refine y_ic_gt (pc' := 64) rfl (tgt := 117) C dX8_readForm_61 (by decide) (fun c_61 => ?_) (fun c_61 => ?_)
        · have hnd : ¬ (49 ≤ sch (10 + w) i27 ∧ sch (10 + w) i27 ≤ 57) := fun z => absurd z.2 (Int32.not_le.mpr c_61)
          refine y_aload_n (pc' := 118) rfl C dX8_readForm_117 rfl ?_
          refine y_iload (pc' := 120) rfl C dX8_readForm_118 rfl ?_
          refine y_iload (pc' := 122) rfl C dX8_readForm_120 rfl ?_
          refine y_cVi (pc' := 125) (k' := 0) (n' := 0) rfl C (c_X8_isSignAt _ G a Yl27 T e (fmS T e (10 + w) sp n0 i27).1 (sch (10 + w) i27) (by rw [t27]; exact htl) he (by rw [t27]; exact hT) (by omega) (sch_ne (10 + w) (by omega) i27 (by omega))) my_X8_isSignAt aw_829 (v2 rfl) rfl rfl rfl rfl rfl (Nat.le_of_ble_eq_true rfl) rfl dX8_readForm_122 rfl rfl (fun r_122 Y_122 hp_122 => ?_)
          obtain ⟨rfl, hY_122⟩ := hp_122
          have hY_122 := hY_122.symm; subst hY_122
          refine y_if_eq (pc' := 128) rfl (tgt := 134) C dX8_readForm_125 (by decide) (fun c_125 => ?_) (fun c_125 => ?_)
          · have h_125 := bi_0.mp c_125
            refine y_iload (pc' := 136) rfl C dX8_readForm_134 rfl ?_
            refine y_cSi (pc' := 139) (k' := 0) (n' := 0) rfl C (c_X8_faultAt _ G a Yl27 (nI (fmS T e (10 + w) sp n0 i27).1)) my_X8_faultAt aw_801 rfl rfl (Nat.le_of_ble_eq_true rfl) rfl dX8_readForm_136 rfl rfl (fun r_136 Y_136 hp_136 => ?_)
            obtain ⟨rfl, hY_136⟩ := hp_136
            have hY_136 := hY_136.symm; subst hY_136
            refine y_ireturn C rfl rfl dX8_readForm_139 rfl rfl ?_
            have hfs : (fmS T e (10 + w) sp n0 (i27 + 1)) = ((fmS T e (10 + w) sp n0 i27).1, 1, (fmS T e (10 + w) sp n0 i27).2.2) := by rw [fmS, if_neg hnd, litS, if_pos hx27, if_neg h_125]
            have hL : (fmS T e (10 + w) sp n0 (wlen w)) = ((fmS T e (10 + w) sp n0 i27).1, 1, (fmS T e (10 + w) sp n0 i27).2.2) := by have h_ := fmS_x (T := T) (e := e) (k := 10 + w) (sp := sp) (n0 := n0) (i := i27 + 1) (by rw [hfs]; exact (by decide : ¬ (1 : Int32) = 0)) (wlen w - (i27 + 1)); rw [show i27 + 1 + (wlen w - (i27 + 1)) = wlen w by omega, hfs] at h_; exact h_
            exact ⟨by rw [← hn0, hL, if_neg (show ¬ (1 : Int32) = 0 by decide)], by rw [← hn0, hL, hYl27, hZ15]⟩
          · have h_125 := bi_n0 c_125
            have hfs : (fmS T e (10 + w) sp n0 (i27 + 1)) = ((fmS T e (10 + w) sp n0 i27).1 + 1, 0, (fmS T e (10 + w) sp n0 i27).2.2) := by rw [fmS, if_neg hnd, litS, if_pos hx27, if_pos h_125]
            have hcs : cntK (10 + w) (i27 + 1) = cntK (10 + w) i27 := by rw [cntK, if_neg hnd]
            refine y_iinc (pc' := 131) rfl (v := (nI ((fmS T e (10 + w) sp n0 i27).1 + 1))) C dX8_readForm_128 rfl (nI_1 _) (by decide) ?_
            refine y_goto (tgt := 140) C dX8_readForm_131 (by decide) ?_
            refine y_iinc (pc' := 143) rfl (v := (nI (i27 + 1))) C dX8_readForm_140 rfl (nI_1 i27) (by decide) ?_
            refine y_goto (tgt := 27) C dX8_readForm_143 (by decide) ?_
            refine y_conv (L' := [some (.ref (a (2, 0, 5))), some (.ref (gad G w)), some (.int ((nI sp))), some (.ref (a (3, o, 0))), some (.int ((nI (fmS T e (10 + w) sp n0 (i27 + 1)).1))), some (.int ((nI (cntK (10 + w) (i27 + 1))))), some (.int ((nI (i27 + 1)))), some (.int ((sch (10 + w) i27))), none]) (by rw [hfs, hcs]; rfl) rfl ?_
            refine y_weak (L' := [some (.ref (a (2, 0, 5))), some (.ref (gad G w)), some (.int ((nI sp))), some (.ref (a (3, o, 0))), some (.int ((nI (fmS T e (10 + w) sp n0 (i27 + 1)).1))), some (.int ((nI (cntK (10 + w) (i27 + 1))))), some (.int ((nI (i27 + 1)))), none, none]) (wk_c (wk_c (wk_c (wk_c (wk_c (wk_c (wk_c (wk_n (wk_c wk_nil))))))))) ?_
            exact ih27 (i27 + 1) _ (by omega) (by omega) (by rw [hYl27, hfs]) (by rw [hfs])
        · have hdg : 49 ≤ sch (10 + w) i27 ∧ sch (10 + w) i27 ≤ 57 := ⟨Int32.not_lt.mp c_54, Int32.not_lt.mp c_61⟩
          refine y_aload_n (pc' := 65) rfl C dX8_readForm_64 rfl ?_
          refine y_iload (pc' := 67) rfl C dX8_readForm_65 rfl ?_
          refine y_iload (pc' := 69) rfl C dX8_readForm_67 rfl ?_
          refine y_bipush (pc' := 71) rfl (v := 48) C dX8_readForm_69 (by decide) ?_
          refine y_isub (pc' := 72) rfl C dX8_readForm_71 ?_
          refine y_conv (L' := [some (.ref (a (2, 0, 5))), some (.ref (gad G w)), some (.int ((nI sp))), some (.ref (a (3, o, 0))), some (.int ((nI (fmS T e (10 + w) sp n0 i27).1))), some (.int ((nI (cntK (10 + w) i27)))), some (.int ((nI i27))), some (.int ((sch (10 + w) i27))), none]) (st' := [.int ((nI (nn (sch (10 + w) i27 - 48)))), .int ((nI (fmS T e (10 + w) sp n0 i27).1)), .ref (a (2, 0, 5))]) (rfl) (by rw [← (dgt_nI hdg).1]) ?_
          refine y_cVi (pc' := 75) (k' := 0) (n' := 0) rfl C (c_X8_endOfDigits _ G a Yl27 T e (fmS T e (10 + w) sp n0 i27).1 (nn (sch (10 + w) i27 - 48)) (by rw [t27]; exact htl) he (by rw [t27]; exact hT) (by omega) (dgt_nI hdg).2) my_X8_endOfDigits aw_806 (v2 rfl) rfl rfl rfl rfl rfl (Nat.le_of_ble_eq_true rfl) rfl dX8_readForm_72 rfl rfl (fun r_72 Y_72 hp_72 => ?_)
          obtain ⟨rfl, hY_72⟩ := hp_72
          have hY_72 := hY_72.symm; subst hY_72
          refine y_istore (pc' := 77) rfl C dX8_readForm_75 (by decide) ?_
          refine y_iload (pc' := 79) rfl C dX8_readForm_77 rfl ?_
          refine y_iload (pc' := 81) rfl C dX8_readForm_79 rfl ?_
          refine y_ic_ne (pc' := 84) rfl (tgt := 90) C dX8_readForm_81 (by decide) (fun c_81 => ?_) (fun c_81 => ?_)
          · have hd1 : ¬ ndF T e (fmS T e (10 + w) sp n0 i27).1 (nn (sch (10 + w) i27 - 48)) = 0 := fun z => c_81 (by rw [z, Nat.add_zero])
            refine y_aload_n (pc' := 91) rfl C dX8_readForm_90 rfl ?_
            refine y_get (pc' := 94) rfl (v := .ref (a (3, o, 1))) C fl_X8_94 (v3 ho rfl) rfl rfl dX8_readForm_91 rfl ?_
            refine y_iload (pc' := 96) rfl C dX8_readForm_94 rfl ?_
            refine y_aload_n (pc' := 97) rfl C dX8_readForm_96 rfl ?_
            refine y_iload (pc' := 99) rfl C dX8_readForm_97 rfl ?_
            refine y_iload (pc' := 101) rfl C dX8_readForm_99 rfl ?_
            refine y_cVi (pc' := 104) (k' := 0) (n' := 0) rfl C (c_X8_numberFrom _ G a Yl27 T e (fmS T e (10 + w) sp n0 i27).1 ((fmS T e (10 + w) sp n0 i27).1 + ndF T e (fmS T e (10 + w) sp n0 i27).1 (nn (sch (10 + w) i27 - 48))) (by rw [t27]; exact htl) he (by rw [t27]; exact hT) (by omega) (ndF_end T e _ _ m27) (fun j hj => ndF_dig _ _ j (by rw [Nat.add_sub_cancel_left] at hj; exact hj))) my_X8_numberFrom aw_824 (v2 rfl) rfl rfl rfl rfl rfl (Nat.le_of_ble_eq_true rfl) rfl dX8_readForm_101 rfl rfl (fun r_101 Y_101 hp_101 => ?_)
            obtain ⟨rfl, hY_101⟩ := hp_101
            have hY_101 := hY_101.symm; subst hY_101
            refine y_cSNv (pc' := 107) (k' := 0) (n' := 0) rfl C (c_X12_setNumberAt _ G a Yl27 (3, o, 1) 3 (nI (cntK (10 + w) i27)) (nvF T e (fmS T e (10 + w) sp n0 i27).1 (((fmS T e (10 + w) sp n0 i27).1 + ndF T e (fmS T e (10 + w) sp n0 i27).1 (nn (sch (10 + w) i27 - 48))) - (fmS T e (10 + w) sp n0 i27).1)) (v3 ho rfl) rfl rfl rfl) my_X12_setNumberAt (nw_828) rfl rfl (Nat.le_of_ble_eq_true rfl) rfl dX8_readForm_104 rfl rfl (fun Y_104 hY_104 => ?_)
            have hfs : (fmS T e (10 + w) sp n0 (i27 + 1)) = ((fmS T e (10 + w) sp n0 i27).1 + ndF T e (fmS T e (10 + w) sp n0 i27).1 (nn (sch (10 + w) i27 - 48)), 0, upd (fmS T e (10 + w) sp n0 i27).2.2 (cntK (10 + w) i27) (nvF T e (fmS T e (10 + w) sp n0 i27).1 (ndF T e (fmS T e (10 + w) sp n0 i27).1 (nn (sch (10 + w) i27 - 48))))) := by rw [fmS, if_pos hdg, numS, if_pos hx27, if_neg hd1]
            have hcs : cntK (10 + w) (i27 + 1) = cntK (10 + w) i27 + 1 := by rw [cntK, if_pos hdg]
            have hc3 : cntK (10 + w) i27 < 3 := cnt_3 w hw9 i27 (by omega) hdg
            rw [show (fmS T e (10 + w) sp n0 i27).1 + ndF T e (fmS T e (10 + w) sp n0 i27).1 (nn (sch (10 + w) i27 - 48)) - (fmS T e (10 + w) sp n0 i27).1 = ndF T e (fmS T e (10 + w) sp n0 i27).1 (nn (sch (10 + w) i27 - 48)) from Nat.add_sub_cancel_left _ _] at hY_104
            refine y_iinc (pc' := 110) rfl (v := (nI (cntK (10 + w) i27 + 1))) C dX8_readForm_107 rfl (nI_1 _) (by decide) ?_
            refine y_iload (pc' := 112) rfl C dX8_readForm_110 rfl ?_
            refine y_istore (pc' := 114) rfl C dX8_readForm_112 (by decide) ?_
            refine y_goto (tgt := 140) C dX8_readForm_114 (by decide) ?_
            refine y_iinc (pc' := 143) rfl (v := (nI (i27 + 1))) C dX8_readForm_140 rfl (nI_1 i27) (by decide) ?_
            refine y_goto (tgt := 27) C dX8_readForm_143 (by decide) ?_
            refine y_conv (L' := [some (.ref (a (2, 0, 5))), some (.ref (gad G w)), some (.int ((nI sp))), some (.ref (a (3, o, 0))), some (.int ((nI (fmS T e (10 + w) sp n0 (i27 + 1)).1))), some (.int ((nI (cntK (10 + w) (i27 + 1))))), some (.int ((nI (i27 + 1)))), some (.int ((sch (10 + w) i27))), some (.int ((nI ((fmS T e (10 + w) sp n0 i27).1 + ndF T e (fmS T e (10 + w) sp n0 i27).1 (nn (sch (10 + w) i27 - 48))))))]) (by rw [hfs, hcs]; rfl) rfl ?_
            refine y_weak (L' := [some (.ref (a (2, 0, 5))), some (.ref (gad G w)), some (.int ((nI sp))), some (.ref (a (3, o, 0))), some (.int ((nI (fmS T e (10 + w) sp n0 (i27 + 1)).1))), some (.int ((nI (cntK (10 + w) (i27 + 1))))), some (.int ((nI (i27 + 1)))), none, none]) (wk_c (wk_c (wk_c (wk_c (wk_c (wk_c (wk_c (wk_n (wk_n wk_nil))))))))) ?_
            exact ih27 (i27 + 1) _ (by omega) (by omega) (by rw [hY_104, hYl27, setF_in hc3 (by decide), up_setA, setA_setA, setA_s, hfs]) (by rw [hfs])
          · have hd0 : ndF T e (fmS T e (10 + w) sp n0 i27).1 (nn (sch (10 + w) i27 - 48)) = 0 := by have h_ := (nI_eq (by have := ndF_end T e (nn (sch (10 + w) i27 - 48)) _ m27; omega) (by omega)).mp c_81; omega
            refine y_iload (pc' := 86) rfl C dX8_readForm_84 rfl ?_
            refine y_cSi (pc' := 89) (k' := 0) (n' := 0) rfl C (c_X8_faultAt _ G a Yl27 (nI (fmS T e (10 + w) sp n0 i27).1)) my_X8_faultAt aw_801 rfl rfl (Nat.le_of_ble_eq_true rfl) rfl dX8_readForm_86 rfl rfl (fun r_86 Y_86 hp_86 => ?_)
            obtain ⟨rfl, hY_86⟩ := hp_86
            have hY_86 := hY_86.symm; subst hY_86
            refine y_ireturn C rfl rfl dX8_readForm_89 rfl rfl ?_
            have hfs : (fmS T e (10 + w) sp n0 (i27 + 1)) = ((fmS T e (10 + w) sp n0 i27).1, 1, (fmS T e (10 + w) sp n0 i27).2.2) := by rw [fmS, if_pos hdg, numS, if_pos hx27, if_pos hd0]
            have hL : (fmS T e (10 + w) sp n0 (wlen w)) = ((fmS T e (10 + w) sp n0 i27).1, 1, (fmS T e (10 + w) sp n0 i27).2.2) := by have h_ := fmS_x (T := T) (e := e) (k := 10 + w) (sp := sp) (n0 := n0) (i := i27 + 1) (by rw [hfs]; exact (by decide : ¬ (1 : Int32) = 0)) (wlen w - (i27 + 1)); rw [show i27 + 1 + (wlen w - (i27 + 1)) = wlen w by omega, hfs] at h_; exact h_
            exact ⟨by rw [← hn0, hL, if_neg (show ¬ (1 : Int32) = 0 by decide)], by rw [← hn0, hL, hYl27, hZ15]⟩
-- KilnKeeper$Reader.readOrder 
set_option maxHeartbeats 1000000 in
set_option maxRecDepth 20000 in
theorem c_X8_readOrder (l : Launch) (G : GT) (a : Id3 → Nat) (Y : YT) (T : Nat → Int32) (e : Nat) (sp o : Nat)  (htl : Y (5, 0, 0) 0 = nI e) (he : e ≤ 60) (hT : ∀ j, j < e → Y (5, 0, 0) (1 + j) = T j) (hsp : sp ≤ e) (ho : o < 12) : CtY l G a yX8_readOrder cX8_readOrder 9 (some .int) ({ frames := 7, cells := 0, slots := 0, locals := 162 } : Room) [.ref (a (2, 0, 5)), .int (nI sp), .ref (a (3, o, 0))] Y (PI (fun r Y' => (∃ (w : Nat) (n0 : Nat → Int32), w < 9 ∧ (fmS T e (10 + w) sp n0 (wlen w)).2.1 = 0 ∧ r = nI (fmS T e (10 + w) sp n0 (wlen w)).1 ∧ Y' (3, o, 0) 0 = nI w ∧ Y' (3, o, 1) = (fmS T e (10 + w) sp n0 (wlen w)).2.2 ∧ ∀ i : Id3, i ≠ (3, o, 0) → i ≠ (3, o, 1) → Y' i = Y i) ∨ ((∀ w, w < 9 → ¬ (fmS T e (10 + w) sp (fun _ => 0) (wlen w)).2.1 = 0) ∧ r = -1 - nI (fltW T e sp 9) ∧ ∀ i : Id3, i ≠ (3, o, 0) → i ≠ (3, o, 1) → Y' i = Y i))) := by
  refine CtY.of (by decide) rfl (Nat.le_of_ble_eq_true rfl) ?_
  intro X A C hl
  subst hl
  refine y_iload_n (pc' := 1) rfl C dX8_readOrder_0 rfl ?_
  refine y_istore_n (pc' := 2) rfl C dX8_readOrder_1 (by decide) ?_
  refine y_getsN (pc' := 5) rfl C C.ev.2.2.2.2.1.1 (List.mem_filter.mpr ⟨at_795, rfl⟩) dX8_readOrder_2 ?_
  refine y_astore (pc' := 7) rfl C dX8_readOrder_5 (by decide) ?_
  refine y_aload (pc' := 9) rfl C dX8_readOrder_7 rfl ?_
  refine y_lenT (pc' := 10) rfl C C.ev.2.2.2.2.1.2 dX8_readOrder_9 ?_
  refine y_istore (pc' := 12) rfl C dX8_readOrder_10 (by decide) ?_
  refine y_iconst (pc' := 13) rfl (v := 0) C dX8_readOrder_12 (by decide) ?_
  refine y_istore (pc' := 15) rfl C dX8_readOrder_13 (by decide) ?_
  refine y_conv (L' := [some (.ref (a (2, 0, 5))), some (.int ((nI sp))), some (.ref (a (3, o, 0))), some (.int ((nI (fltW T e sp 0)))), some (.ref (gst G 3)), some (.int ((nI 9))), some (.int ((nI 0))), none, none]) (rfl) rfl ?_
  suffices K15 : ∀ (fu_ i15 : Nat) (Yl15 : YT), i15 ≤ 9 → 9 < fu_ + i15 → Yl15 = Yl15 → ((∀ i : Id3, i ≠ (3, o, 0) → i ≠ (3, o, 1) → Yl15 i = Y i) ∧ ∀ j, j < i15 → ¬ (fmS T e (10 + j) sp (fun _ => 0) (wlen j)).2.1 = 0) → WY X G A a Yl15 0 0 _ 15 [some (.ref (a (2, 0, 5))), some (.int ((nI sp))), some (.ref (a (3, o, 0))), some (.int ((nI (fltW T e sp i15)))), some (.ref (gst G 3)), some (.int ((nI 9))), some (.int ((nI i15))), none, none] [] from K15 (9 + 1) 0 _ (by omega) (by omega) (rfl) (⟨fun _ _ _ => rfl, fun j hj => absurd hj (Nat.not_lt_zero j)⟩)
  intro fu_
  induction fu_ with
  | zero => intro i15 Yl15 h1 h2; omega
  | succ fu_ ih15 =>
    intro i15 Yl15 hi15 hm15 hYl15 hx15
    have t15 : Yl15 (5, 0, 0) = Y (5, 0, 0) := hx15.1 _ s53 s53
    have hwl := fun h => (wl_facts i15 h).1
    have mF : fltW T e sp i15 ≤ e := flt_le hsp i15 (fun j hj => fmS_le (by omega) hsp _ (by have := (wl_facts j (by omega)).1; omega))
    refine y_iload (pc' := 17) rfl C dX8_readOrder_15 rfl ?_
    refine y_iload (pc' := 19) rfl C dX8_readOrder_17 rfl ?_
    refine y_ic_ge (pc' := 22) rfl (tgt := 63) C dX8_readOrder_19 (by decide) (fun c_19 => ?_) (fun c_19 => ?_)
    · have hb15 : 9 ≤ i15 := nI_le_iff (by omega) (by omega) c_19
      refine y_iload_n (pc' := 64) rfl C dX8_readOrder_63 rfl ?_
      refine y_cSi (pc' := 67) (k' := 0) (n' := 0) rfl C (c_X8_faultAt _ G a Yl15 (nI (fltW T e sp i15))) my_X8_faultAt aw_801 rfl rfl (Nat.le_of_ble_eq_true rfl) rfl dX8_readOrder_64 rfl rfl (fun r_64 Y_64 hp_64 => ?_)
      obtain ⟨rfl, hY_64⟩ := hp_64
      have hY_64 := hY_64.symm; subst hY_64
      refine y_ireturn C rfl rfl dX8_readOrder_67 rfl rfl ?_
      have e15 : i15 = 9 := by omega
      subst e15
      exact Or.inr ⟨hx15.2, rfl, hx15.1⟩
    · have hb15 : i15 < 9 := nI_nle_iff (by omega) (by omega) c_19
      refine y_aload (pc' := 24) rfl C dX8_readOrder_22 rfl ?_
      refine y_iload (pc' := 26) rfl C dX8_readOrder_24 rfl ?_
      refine y_aaldT (pc' := 27) rfl C C.ev.2.2.2.2.1.2 (pk_in i15 9 hb15) (v := .ref (gad G i15)) (by rw [nI_clamp (by omega)]) dX8_readOrder_26 ?_
      refine y_astore (pc' := 29) rfl C dX8_readOrder_27 (by decide) ?_
      refine y_aload_n (pc' := 30) rfl C dX8_readOrder_29 rfl ?_
      refine y_aload (pc' := 32) rfl C dX8_readOrder_30 rfl ?_
      refine y_iload_n (pc' := 33) rfl C dX8_readOrder_32 rfl ?_
      refine y_aload_n (pc' := 34) rfl C dX8_readOrder_33 rfl ?_
      refine y_cVi (pc' := 37) (k' := 0) (n' := 0) rfl C (c_X8_readForm _ G a Yl15 T e i15 sp o (by rw [t15]; exact htl) he (by rw [t15]; exact hT) hb15 hsp ho) my_X8_readForm aw_797 (v2 rfl) rfl rfl rfl rfl rfl (Nat.le_of_ble_eq_true rfl) rfl dX8_readOrder_34 rfl rfl (fun r_34 Y_34 hp_34 => ?_)
      obtain ⟨hr_34, hY_34⟩ := hp_34
      have hfr : ∀ i : Id3, i ≠ (3, o, 0) → i ≠ (3, o, 1) → Y_34 i = Yl15 i := fun i h1 h2 => by rw [hY_34, setA_n h2, up_n h1]
      have mW := fmS_le (T := T) (e := e) (k := 10 + i15) (n0 := Yl15 (3, o, 1)) (by omega) hsp (wlen i15) (by have := hwl hb15; omega)
      refine y_istore (pc' := 39) rfl C dX8_readOrder_37 (by decide) ?_
      refine y_iload (pc' := 41) rfl C dX8_readOrder_39 rfl ?_
      refine y_if_lt (pc' := 44) rfl (tgt := 47) C dX8_readOrder_41 (by decide) (fun c_41 => ?_) (fun c_41 => ?_)
      · have hf : ¬ (fmS T e (10 + i15) sp (Yl15 (3, o, 1)) (wlen i15)).2.1 = 0 := fun z => absurd c_41 (by rw [hr_34, if_pos z]; exact nI_pos (by omega))
        refine y_iload_n (pc' := 48) rfl C dX8_readOrder_47 rfl ?_
        refine y_iload (pc' := 50) rfl C dX8_readOrder_48 rfl ?_
        refine y_cSi (pc' := 53) (k' := 0) (n' := 0) rfl C (c_X8_placeOfFault _ G a Y_34 r_34) my_X8_placeOfFault aw_833 rfl rfl (Nat.le_of_ble_eq_true rfl) rfl dX8_readOrder_50 rfl rfl (fun r_50 Y_50 hp_50 => ?_)
        obtain ⟨rfl, hY_50⟩ := hp_50
        have hY_50 := hY_50.symm; subst hY_50
        refine y_conv (L' := [some (.ref (a (2, 0, 5))), some (.int ((nI sp))), some (.ref (a (3, o, 0))), some (.int ((nI (fltW T e sp i15)))), some (.ref (gst G 3)), some (.int ((nI 9))), some (.int ((nI i15))), some (.ref (gad G i15)), some (.int r_34)]) (st' := [.int ((nI (fmS T e (10 + i15) sp (fun _ => 0) (wlen i15)).1)), .int ((nI (fltW T e sp i15)))]) (rfl) (by rw [hr_34, if_neg hf, pof, (fmS_p (n1 := fun _ => 0) _).1]) ?_
        refine y_max (pc' := 56) rfl C aw_836 mm_max rfl rfl rfl rfl dX8_readOrder_53 ?_
        obtain ⟨m_53, e_53⟩ : ∃ v : Int32, v = (if (nI (fltW T e sp i15)) < (nI (fmS T e (10 + i15) sp (fun _ => 0) (wlen i15)).1) then (nI (fmS T e (10 + i15) sp (fun _ => 0) (wlen i15)).1) else (nI (fltW T e sp i15))) := ⟨_, rfl⟩
        rw [← e_53]
        refine y_istore_n (pc' := 57) rfl C dX8_readOrder_56 (by decide) ?_
        refine y_iinc (pc' := 60) rfl (v := (nI (i15 + 1))) C dX8_readOrder_57 rfl (nI_1 i15) (by decide) ?_
        refine y_goto (tgt := 15) C dX8_readOrder_60 (by decide) ?_
        refine y_conv (L' := [some (.ref (a (2, 0, 5))), some (.int ((nI sp))), some (.ref (a (3, o, 0))), some (.int ((nI (fltW T e sp (i15 + 1))))), some (.ref (gst G 3)), some (.int ((nI 9))), some (.int ((nI (i15 + 1)))), some (.ref (gad G i15)), some (.int r_34)]) (by rw [e_53, nI_maxN (by omega) (by have := fmS_le (T := T) (e := e) (k := 10 + i15) (n0 := fun _ => 0) (by omega) hsp (wlen i15) (by have := hwl hb15; omega); omega)]; rfl) rfl ?_
        refine y_weak (L' := [some (.ref (a (2, 0, 5))), some (.int ((nI sp))), some (.ref (a (3, o, 0))), some (.int ((nI (fltW T e sp (i15 + 1))))), some (.ref (gst G 3)), some (.int ((nI 9))), some (.int ((nI (i15 + 1)))), none, none]) (wk_c (wk_c (wk_c (wk_c (wk_c (wk_c (wk_c (wk_n (wk_n wk_nil))))))))) ?_
        exact ih15 (i15 + 1) _ (by omega) (by omega) (rfl) (⟨fun i h1 h2 => (hfr i h1 h2).trans (hx15.1 i h1 h2), fun j hj => (Nat.lt_or_ge j i15).elim (fun z => hx15.2 j z) (fun z => by rw [show j = i15 by omega, (fmS_p (n1 := Yl15 (3, o, 1)) _).2]; exact hf)⟩)
      · have hf : (fmS T e (10 + i15) sp (Yl15 (3, o, 1)) (wlen i15)).2.1 = 0 := Classical.not_not.mp (fun z => c_41 (by rw [hr_34, if_neg z]; exact m1_neg (by omega)))
        refine y_iload (pc' := 46) rfl C dX8_readOrder_44 rfl ?_
        refine y_ireturn C rfl rfl dX8_readOrder_46 rfl rfl ?_
        exact Or.inl ⟨i15, Yl15 (3, o, 1), hb15, hf, by rw [hr_34, if_pos hf], by rw [hY_34, setA_n (nej (by decide)), up_s, upd_s], by rw [hY_34, setA_s], fun i h1 h2 => (hfr i h1 h2).trans (hx15.1 i h1 h2)⟩
