theorem my_X13_between : MS yX13_between cX13_between 3 (some .int) 3 := ⟨aw_1153, aw_71, ⟨by decide, by decide, by decide +kernel⟩, aw_1152⟩
theorem my_X13_error : MV yX13_error cX13_error 1 (some .int) 0 := ⟨aw_1189, aw_71, ⟨by decide, by decide, by decide +kernel⟩, aw_1188, aw_28⟩
theorem my_X13_sumThen : MV yX13_sumThen cX13_sumThen 1 (some .int) 0 := ⟨aw_1197, aw_71, ⟨by decide, by decide, by decide +kernel⟩, aw_1196, aw_30⟩
-- KilnKeeperModel.sumThen 
set_option maxHeartbeats 1000000 in
set_option maxRecDepth 20000 in
theorem c_X13_sumThen (l : Launch) (G : GT) (a : Id3 → Nat) (Y : YT)   : CtY l G a yX13_sumThen cX13_sumThen 1 (some .int) ({ frames := 1, cells := 0, slots := 0, locals := 22 } : Room) [.ref (a (4, 0, 8))] Y (PI (fun r Y' => r = mSum (Y (4, 0, 0)) ∧ Y' = Y)) := by
  refine CtY.of (by decide) rfl (Nat.le_of_ble_eq_true rfl) ?_
  intro X A C hl
  subst hl
  refine y_aload_n C dX13_sumThen_0 rfl ?_
  refine y_get (v := .ref (a (4, 0, 0))) C fl_X13_7 (v4 rfl) rfl rfl dX13_sumThen_1 rfl ?_
  refine y_iconst (v := 5) C dX13_sumThen_4 (by decide) ?_
  refine y_ialdN C 5 rfl (v4 rfl) rfl rfl (by decide) rfl dX13_sumThen_5 ?_
  refine y_aload_n C dX13_sumThen_6 rfl ?_
  refine y_cVi C (c_X13_error _ G a Y ) my_X13_error aw_1186 (v4 rfl) rfl rfl rfl rfl rfl (Nat.le_of_ble_eq_true rfl) rfl dX13_sumThen_7 (fun r_7 Y_7 hp_7 => ?_)
  obtain ⟨rfl, hY_7⟩ := hp_7
  have hY_7 := hY_7.symm; subst hY_7
  refine y_iadd C dX13_sumThen_10 ?_
  refine y_aload_n C dX13_sumThen_11 rfl ?_
  refine y_get (v := .ref (a (4, 0, 0))) C fl_X13_7 (v4 rfl) rfl rfl dX13_sumThen_12 rfl ?_
  refine y_bipush (v := 6) C dX13_sumThen_15 (by decide) ?_
  refine y_ialdN C 6 rfl (v4 rfl) rfl rfl (by decide) rfl dX13_sumThen_17 ?_
  refine y_ineg C dX13_sumThen_18 ?_
  refine y_aload_n C dX13_sumThen_19 rfl ?_
  refine y_get (v := .ref (a (4, 0, 0))) C fl_X13_7 (v4 rfl) rfl rfl dX13_sumThen_20 rfl ?_
  refine y_bipush (v := 6) C dX13_sumThen_23 (by decide) ?_
  refine y_ialdN C 6 rfl (v4 rfl) rfl rfl (by decide) rfl dX13_sumThen_25 ?_
  refine y_cSi C (c_X13_between _ G a Y ((Y (4, 0, 0) 5) + (mErr (Y (4, 0, 0)))) (-(Y (4, 0, 0) 6)) (Y (4, 0, 0) 6)) my_X13_between aw_1151 rfl rfl (Nat.le_of_ble_eq_true rfl) rfl dX13_sumThen_26 (fun r_26 Y_26 hp_26 => ?_)
  obtain ⟨rfl, hY_26⟩ := hp_26
  have hY_26 := hY_26.symm; subst hY_26
  refine y_ireturn C rfl rfl dX13_sumThen_29 rfl rfl ?_
  exact ⟨rfl, rfl⟩
-- KilnKeeperModel.wantedNow 
set_option maxHeartbeats 1000000 in
set_option maxRecDepth 20000 in
theorem c_X13_wantedNow (l : Launch) (G : GT) (a : Id3 → Nat) (Y : YT)   : CtY l G a yX13_wantedNow cX13_wantedNow 1 (some .int) ({ frames := 2, cells := 0, slots := 0, locals := 42 } : Room) [.ref (a (4, 0, 8))] Y (PI (fun r Y' => r = mWant (Y (4, 0, 0)) ∧ Y' = Y)) := by
  refine CtY.of (by decide) rfl (Nat.le_of_ble_eq_true rfl) ?_
  intro X A C hl
  subst hl
  refine y_bipush (v := 10) C dX13_wantedNow_0 (by decide) ?_
  refine y_aload_n C dX13_wantedNow_2 rfl ?_
  refine y_get (v := .ref (a (4, 0, 0))) C fl_X13_7 (v4 rfl) rfl rfl dX13_wantedNow_3 rfl ?_
  refine y_iconst (v := 2) C dX13_wantedNow_6 (by decide) ?_
  refine y_ialdN C 2 rfl (v4 rfl) rfl rfl (by decide) rfl dX13_wantedNow_7 ?_
  refine y_imul C dX13_wantedNow_8 ?_
  refine y_aload_n C dX13_wantedNow_9 rfl ?_
  refine y_cVi C (c_X13_error _ G a Y ) my_X13_error aw_1186 (v4 rfl) rfl rfl rfl rfl rfl (Nat.le_of_ble_eq_true rfl) rfl dX13_wantedNow_10 (fun r_10 Y_10 hp_10 => ?_)
  obtain ⟨rfl, hY_10⟩ := hp_10
  have hY_10 := hY_10.symm; subst hY_10
  refine y_imul C dX13_wantedNow_13 ?_
  refine y_aload_n C dX13_wantedNow_14 rfl ?_
  refine y_get (v := .ref (a (4, 0, 0))) C fl_X13_7 (v4 rfl) rfl rfl dX13_wantedNow_15 rfl ?_
  refine y_iconst (v := 3) C dX13_wantedNow_18 (by decide) ?_
  refine y_ialdN C 3 rfl (v4 rfl) rfl rfl (by decide) rfl dX13_wantedNow_19 ?_
  refine y_aload_n C dX13_wantedNow_20 rfl ?_
  refine y_cVi C (c_X13_sumThen _ G a Y ) my_X13_sumThen aw_1194 (v4 rfl) rfl rfl rfl rfl rfl (Nat.le_of_ble_eq_true rfl) rfl dX13_wantedNow_21 (fun r_21 Y_21 hp_21 => ?_)
  obtain ⟨rfl, hY_21⟩ := hp_21
  have hY_21 := hY_21.symm; subst hY_21
  refine y_imul C dX13_wantedNow_24 ?_
  refine y_iadd C dX13_wantedNow_25 ?_
  refine y_bipush (v := 10) C dX13_wantedNow_26 (by decide) ?_
  refine y_aload_n C dX13_wantedNow_28 rfl ?_
  refine y_get (v := .ref (a (4, 0, 0))) C fl_X13_7 (v4 rfl) rfl rfl dX13_wantedNow_29 rfl ?_
  refine y_iconst (v := 4) C dX13_wantedNow_32 (by decide) ?_
  refine y_ialdN C 4 rfl (v4 rfl) rfl rfl (by decide) rfl dX13_wantedNow_33 ?_
  refine y_imul C dX13_wantedNow_34 ?_
  refine y_aload_n C dX13_wantedNow_35 rfl ?_
  refine y_cVi C (c_X13_error _ G a Y ) my_X13_error aw_1186 (v4 rfl) rfl rfl rfl rfl rfl (Nat.le_of_ble_eq_true rfl) rfl dX13_wantedNow_36 (fun r_36 Y_36 hp_36 => ?_)
  obtain ⟨rfl, hY_36⟩ := hp_36
  have hY_36 := hY_36.symm; subst hY_36
  refine y_aload_n C dX13_wantedNow_39 rfl ?_
  refine y_get (v := .ref (a (4, 0, 0))) C fl_X13_7 (v4 rfl) rfl rfl dX13_wantedNow_40 rfl ?_
  refine y_bipush (v := 7) C dX13_wantedNow_43 (by decide) ?_
  refine y_ialdN C 7 rfl (v4 rfl) rfl rfl (by decide) rfl dX13_wantedNow_45 ?_
  refine y_isub C dX13_wantedNow_46 ?_
  refine y_imul C dX13_wantedNow_47 ?_
  refine y_iadd C dX13_wantedNow_48 ?_
  refine y_bipush (v := 100) C dX13_wantedNow_49 (by decide) ?_
  refine y_idiv C dX13_wantedNow_51 (by decide) ?_
  refine y_iconst (v := 0) C dX13_wantedNow_52 (by decide) ?_
  refine y_bipush (v := 100) C dX13_wantedNow_53 (by decide) ?_
  refine y_cSi C (c_X13_between _ G a Y (((((10 * (Y (4, 0, 0) 2)) * (mErr (Y (4, 0, 0)))) + ((Y (4, 0, 0) 3) * (mSum (Y (4, 0, 0))))) + ((10 * (Y (4, 0, 0) 4)) * ((mErr (Y (4, 0, 0))) - (Y (4, 0, 0) 7)))) / 100) 0 100) my_X13_between aw_1151 rfl rfl (Nat.le_of_ble_eq_true rfl) rfl dX13_wantedNow_55 (fun r_55 Y_55 hp_55 => ?_)
  obtain ⟨rfl, hY_55⟩ := hp_55
  have hY_55 := hY_55.symm; subst hY_55
  refine y_ireturn C rfl rfl dX13_wantedNow_58 rfl rfl ?_
  exact ⟨rfl, rfl⟩
-- KilnKeeperModel.lagged 
set_option maxHeartbeats 1000000 in
set_option maxRecDepth 20000 in
theorem c_X13_lagged (l : Launch) (G : GT) (a : Id3 → Nat) (Y : YT) (w : Int32) (lg : Nat) (h8 : Y (4, 0, 0) 8 = nI lg) (hlg : lg ≤ 5) : CtY l G a yX13_lagged cX13_lagged 4 (some .int) ({ frames := 0, cells := 0, slots := 0, locals := 0 } : Room) [.ref (a (4, 0, 8)), .int w] Y (PI (fun r Y' => r = lagR (Y (4, 0, 0)) w lg ∧ Y' = setA Y (4, 0, 0) (lagS (Y (4, 0, 0)) w lg))) := by
  refine CtY.of (by decide) rfl (Nat.le_of_ble_eq_true rfl) ?_
  intro X A C hl
  subst hl
  refine y_aload_n C dX13_lagged_0 rfl ?_
  refine y_get (v := .ref (a (4, 0, 0))) C fl_X13_7 (v4 rfl) rfl rfl dX13_lagged_1 rfl ?_
  refine y_bipush (v := 8) C dX13_lagged_4 (by decide) ?_
  refine y_ialdN C 8 rfl (v4 rfl) rfl rfl (by decide) rfl dX13_lagged_6 ?_
  refine y_if_ne (tgt := 12) C dX13_lagged_7 (by decide) (fun c_7 => ?_) (fun c_7 => ?_)
  · have hlg0 : lg ≠ 0 := fun h => c_7 (by rw [h8, h]; rfl)
    refine y_aload_n C dX13_lagged_12 rfl ?_
    refine y_get (v := .ref (a (4, 0, 0))) C fl_X13_7 (v4 rfl) rfl rfl dX13_lagged_13 rfl ?_
    refine y_bipush (v := 17) C dX13_lagged_16 (by decide) ?_
    refine y_ialdN C 17 rfl (v4 rfl) rfl rfl (by decide) rfl dX13_lagged_18 ?_
    refine y_istore_n C dX13_lagged_19 (by decide) ?_
    refine y_iconst (v := 0) C dX13_lagged_20 (by decide) ?_
    refine y_istore_n C dX13_lagged_21 (by decide) ?_
    suffices K22 : ∀ (m i22 : Nat) (Yl22 : YT), i22 ≤ (lg - 1) → (lg - 1) < m + i22 → Yl22 = setA Y (4, 0, 0) (shf (Y (4, 0, 0)) i22) → WY X G A a Yl22 0 0 _ 22 [some (.ref (a (4, 0, 8))), some (.int w), some (.int ((Y (4, 0, 0) 17))), some (.int ((nI i22)))] [] from K22 ((lg - 1) + 1) 0 _ (by omega) (by omega) (by rw [shf_0, setA_self])
    intro m
    induction m with
    | zero => intro i22 Yl22 h1 h2; omega
    | succ m ih22 =>
      intro i22 Yl22 hi22 hm22 hYl22
      have e8 : Yl22 (4, 0, 0) 8 = nI lg := by rw [hYl22, setA_s, shf_lo (by omega)]; exact h8
      refine y_iload_n C dX13_lagged_22 rfl ?_
      refine y_iconst (v := 1) C dX13_lagged_23 (by decide) ?_
      refine y_iadd C dX13_lagged_24 ?_
      refine y_aload_n C dX13_lagged_25 rfl ?_
      refine y_get (v := .ref (a (4, 0, 0))) C fl_X13_7 (v4 rfl) rfl rfl dX13_lagged_26 rfl ?_
      refine y_bipush (v := 8) C dX13_lagged_29 (by decide) ?_
      refine y_ialdN C 8 rfl (v4 rfl) rfl rfl (by decide) rfl dX13_lagged_31 ?_
      refine y_ic_ge (tgt := 61) C dX13_lagged_32 (by decide) (fun c_32 => ?_) (fun c_32 => ?_)
      · rw [e8, nI_1] at c_32
        have hb : lg ≤ i22 + 1 := nI_le_iff (by omega) (by omega) c_32
        refine y_aload_n C dX13_lagged_61 rfl ?_
        refine y_get (v := .ref (a (4, 0, 0))) C fl_X13_7 (v4 rfl) rfl rfl dX13_lagged_62 rfl ?_
        refine y_bipush (v := 17) C dX13_lagged_65 (by decide) ?_
        refine y_aload_n C dX13_lagged_67 rfl ?_
        refine y_get (v := .ref (a (4, 0, 0))) C fl_X13_7 (v4 rfl) rfl rfl dX13_lagged_68 rfl ?_
        refine y_bipush (v := 8) C dX13_lagged_71 (by decide) ?_
        refine y_ialdN C 8 rfl (v4 rfl) rfl rfl (by decide) rfl dX13_lagged_73 ?_
        refine y_iadd C dX13_lagged_74 ?_
        refine y_iconst (v := 1) C dX13_lagged_75 (by decide) ?_
        refine y_isub C dX13_lagged_76 ?_
        refine y_iload_n C dX13_lagged_77 rfl ?_
        refine y_iastN C ((17 + lg) - 1) (nsub (nadd (rfl : (17 : Int32) = nI 17) e8) (rfl : (1 : Int32) = nI 1) (by omega)) (v4 rfl) rfl rfl (show ((17 + lg) - 1) < 227 by omega) rfl dX13_lagged_78 (fun Z78 hZ78 => ?_)
        refine y_iload_n C dX13_lagged_79 rfl ?_
        refine y_ireturn C rfl rfl dX13_lagged_80 rfl rfl ?_
        refine ⟨by rw [lagR, if_neg hlg0], ?_⟩
        rw [hZ78, up_setA, hYl22, setA_setA, setA_s, show i22 = lg - 1 by omega, lagS_of hlg0]
      · rw [e8, nI_1] at c_32
        have hb : i22 + 1 < lg := nI_nle_iff (by omega) (by omega) c_32
        refine y_aload_n C dX13_lagged_35 rfl ?_
        refine y_get (v := .ref (a (4, 0, 0))) C fl_X13_7 (v4 rfl) rfl rfl dX13_lagged_36 rfl ?_
        refine y_bipush (v := 17) C dX13_lagged_39 (by decide) ?_
        refine y_iload_n C dX13_lagged_41 rfl ?_
        refine y_iadd C dX13_lagged_42 ?_
        refine y_aload_n C dX13_lagged_43 rfl ?_
        refine y_get (v := .ref (a (4, 0, 0))) C fl_X13_7 (v4 rfl) rfl rfl dX13_lagged_44 rfl ?_
        refine y_bipush (v := 17) C dX13_lagged_47 (by decide) ?_
        refine y_iload_n C dX13_lagged_49 rfl ?_
        refine y_iadd C dX13_lagged_50 ?_
        refine y_iconst (v := 1) C dX13_lagged_51 (by decide) ?_
        refine y_iadd C dX13_lagged_52 ?_
        refine y_ialdN C ((17 + i22) + 1) (nadd (nadd (rfl : (17 : Int32) = nI 17) rfl) (rfl : (1 : Int32) = nI 1)) (v4 rfl) rfl rfl (show ((17 + i22) + 1) < 227 by omega) rfl dX13_lagged_53 ?_
        refine y_iastN C (17 + i22) (nadd (rfl : (17 : Int32) = nI 17) rfl) (v4 rfl) rfl rfl (show (17 + i22) < 227 by omega) rfl dX13_lagged_54 (fun Z54 hZ54 => ?_)
        refine y_iinc (v := (nI (i22 + 1))) C dX13_lagged_55 rfl (nI_1 i22) (by decide) ?_
        refine y_goto (tgt := 22) C dX13_lagged_58 (by decide) ?_
        exact ih22 (i22 + 1) _ (by omega) (by omega) (by rw [hZ54, up_setA, hYl22, setA_setA, setA_s, shf_s])
  · refine y_iload_n C dX13_lagged_10 rfl ?_
    refine y_ireturn C rfl rfl dX13_lagged_11 rfl rfl ?_
    have h0 : lg = 0 := by rw [h8] at c_7; exact (nI_eq (by omega) (by decide)).mp c_7
    exact ⟨by rw [lagR, if_pos h0], by rw [lagS, if_pos h0, setA_self]⟩
-- KilnKeeperModel.notesMinute 
set_option maxHeartbeats 1000000 in
set_option maxRecDepth 20000 in
theorem c_X13_notesMinute (l : Launch) (G : GT) (a : Id3 → Nat) (Y : YT) (e b : Int32)  : CtY l G a yX13_notesMinute cX13_notesMinute 4 none ({ frames := 0, cells := 0, slots := 0, locals := 0 } : Room) [.ref (a (4, 0, 8)), .int e, .int b] Y (PV (fun Y' => Y' = setA Y (4, 0, 0) (nmS (Y (4, 0, 0)) e b))) := by
  refine CtY.of (by decide) rfl (Nat.le_of_ble_eq_true rfl) ?_
  intro X A C hl
  subst hl
  refine y_bipush (v := 47) C dX13_notesMinute_0 (by decide) ?_
  refine y_istore_n C dX13_notesMinute_2 (by decide) ?_
  suffices K3 : ∀ (m i3 : Nat) (Yl3 : YT), i3 ≤ 44 → 44 < m + i3 → Yl3 = setA Y (4, 0, 0) (nmL (Y (4, 0, 0)) i3) → WY X G A a Yl3 0 0 _ 3 [some (.ref (a (4, 0, 8))), some (.int e), some (.int b), some (.int ((nI (47 - i3))))] [] from K3 (44 + 1) 0 _ (by omega) (by omega) (by rw [nmL_0, setA_self])
  intro m
  induction m with
  | zero => intro i3 Yl3 h1 h2; omega
  | succ m ih3 =>
    intro i3 Yl3 hi3 hm3 hYl3
    refine y_iload_n C dX13_notesMinute_3 rfl ?_
    refine y_iconst (v := 3) C dX13_notesMinute_4 (by decide) ?_
    refine y_ic_le (tgt := 34) C dX13_notesMinute_5 (by decide) (fun c_5 => ?_) (fun c_5 => ?_)
    · have hb : 44 ≤ i3 := by have := (nI_leI (a := 47 - i3) (b := 3) (by omega) (by decide)).mp c_5; omega
      refine y_aload_n C dX13_notesMinute_34 rfl ?_
      refine y_get (v := .ref (a (4, 0, 0))) C fl_X13_7 (v4 rfl) rfl rfl dX13_notesMinute_35 rfl ?_
      refine y_bipush (v := 123) C dX13_notesMinute_38 (by decide) ?_
      refine y_aload_n C dX13_notesMinute_40 rfl ?_
      refine y_get (v := .ref (a (4, 0, 0))) C fl_X13_7 (v4 rfl) rfl rfl dX13_notesMinute_41 rfl ?_
      refine y_iconst (v := 0) C dX13_notesMinute_44 (by decide) ?_
      refine y_ialdN C 0 rfl (v4 rfl) rfl rfl (by decide) rfl dX13_notesMinute_45 ?_
      refine y_iastN C 123 rfl (v4 rfl) rfl rfl (by decide) rfl dX13_notesMinute_46 (fun Z46 hZ46 => ?_)
      refine y_aload_n C dX13_notesMinute_47 rfl ?_
      refine y_get (v := .ref (a (4, 0, 0))) C fl_X13_7 (v4 rfl) rfl rfl dX13_notesMinute_48 rfl ?_
      refine y_bipush (v := 124) C dX13_notesMinute_51 (by decide) ?_
      refine y_aload_n C dX13_notesMinute_53 rfl ?_
      refine y_get (v := .ref (a (4, 0, 0))) C fl_X13_7 (v4 rfl) rfl rfl dX13_notesMinute_54 rfl ?_
      refine y_bipush (v := 9) C dX13_notesMinute_57 (by decide) ?_
      refine y_ialdN C 9 rfl (v4 rfl) rfl rfl (by decide) rfl dX13_notesMinute_59 ?_
      refine y_iastN C 124 rfl (v4 rfl) rfl rfl (by decide) rfl dX13_notesMinute_60 (fun Z60 hZ60 => ?_)
      refine y_aload_n C dX13_notesMinute_61 rfl ?_
      refine y_get (v := .ref (a (4, 0, 0))) C fl_X13_7 (v4 rfl) rfl rfl dX13_notesMinute_62 rfl ?_
      refine y_bipush (v := 125) C dX13_notesMinute_65 (by decide) ?_
      refine y_iload_n C dX13_notesMinute_67 rfl ?_
      refine y_iastN C 125 rfl (v4 rfl) rfl rfl (by decide) rfl dX13_notesMinute_68 (fun Z68 hZ68 => ?_)
      refine y_aload_n C dX13_notesMinute_69 rfl ?_
      refine y_get (v := .ref (a (4, 0, 0))) C fl_X13_7 (v4 rfl) rfl rfl dX13_notesMinute_70 rfl ?_
      refine y_bipush (v := 126) C dX13_notesMinute_73 (by decide) ?_
      refine y_iload_n C dX13_notesMinute_75 rfl ?_
      refine y_iastN C 126 rfl (v4 rfl) rfl rfl (by decide) rfl dX13_notesMinute_76 (fun Z76 hZ76 => ?_)
      refine y_aload_n C dX13_notesMinute_77 rfl ?_
      refine y_get (v := .ref (a (4, 0, 0))) C fl_X13_7 (v4 rfl) rfl rfl dX13_notesMinute_78 rfl ?_
      refine y_bipush (v := 14) C dX13_notesMinute_81 (by decide) ?_
      refine y_dup2 C dX13_notesMinute_83 rfl rfl ?_
      refine y_ialdN C 14 rfl (v4 rfl) rfl rfl (by decide) rfl dX13_notesMinute_84 ?_
      refine y_aload_n C dX13_notesMinute_85 rfl ?_
      refine y_get (v := .ref (a (4, 0, 0))) C fl_X13_7 (v4 rfl) rfl rfl dX13_notesMinute_86 rfl ?_
      refine y_bipush (v := 14) C dX13_notesMinute_89 (by decide) ?_
      refine y_ialdN C 14 rfl (v4 rfl) rfl rfl (by decide) rfl dX13_notesMinute_91 ?_
      refine y_bipush (v := 12) C dX13_notesMinute_92 (by decide) ?_
      have K94 : ∀ (w_94 : Int32) (_ : w_94 = (if 12 ≤ (Z76 (4, 0, 0) 14) then 0 else 1)), WY X G A a Z76 0 0 (MEnd X G A ({ frames := 0, cells := 0, slots := 0, locals := 0 } : Room) (PY G a (PV (fun Y' => Y' = setA Y (4, 0, 0) (nmS (Y (4, 0, 0)) e b))))) 102 [some (.ref (a (4, 0, 8))), some (.int e), some (.int b), some (.int ((nI (47 - i3))))] [.int w_94, .int ((Z76 (4, 0, 0) 14)), .int 14, .ref (a (4, 0, 0))] := by
        intro w_94 ew_94
        refine y_iadd C dX13_notesMinute_102 ?_
        refine y_iastN C 14 rfl (v4 rfl) rfl rfl (by decide) rfl dX13_notesMinute_103 (fun Z103 hZ103 => ?_)
        refine y_return C rfl dX13_notesMinute_104 rfl rfl ?_
        subst hZ46 hZ60 hZ68 hZ76 ew_94 hZ103
        rw [hYl3, show i3 = 44 by omega]
        simp only [up_setA, setA_setA, setA_s]
        rw [← nmS_of]
        rfl
      refine y_ic_ge (tgt := 101) C dX13_notesMinute_94 (by decide) (fun c_94 => ?_) (fun c_94 => ?_)
      · refine y_iconst (v := 0) C dX13_notesMinute_101 (by decide) ?_
        exact K94 _ (by rw [if_pos c_94])
      · refine y_iconst (v := 1) C dX13_notesMinute_97 (by decide) ?_
        refine y_goto (tgt := 102) C dX13_notesMinute_98 (by decide) ?_
        exact K94 _ (by rw [if_neg c_94])
    · have hb : i3 < 44 := by rcases Nat.lt_or_ge i3 44 with q | q; exact q; exact absurd ((nI_leI (a := 47 - i3) (b := 3) (by omega) (by decide)).mpr (by omega)) c_5
      refine y_aload_n C dX13_notesMinute_8 rfl ?_
      refine y_get (v := .ref (a (4, 0, 0))) C fl_X13_7 (v4 rfl) rfl rfl dX13_notesMinute_9 rfl ?_
      refine y_bipush (v := 123) C dX13_notesMinute_12 (by decide) ?_
      refine y_iload_n C dX13_notesMinute_14 rfl ?_
      refine y_iadd C dX13_notesMinute_15 ?_
      refine y_aload_n C dX13_notesMinute_16 rfl ?_
      refine y_get (v := .ref (a (4, 0, 0))) C fl_X13_7 (v4 rfl) rfl rfl dX13_notesMinute_17 rfl ?_
      refine y_bipush (v := 123) C dX13_notesMinute_20 (by decide) ?_
      refine y_iload_n C dX13_notesMinute_22 rfl ?_
      refine y_iadd C dX13_notesMinute_23 ?_
      refine y_iconst (v := 4) C dX13_notesMinute_24 (by decide) ?_
      refine y_isub C dX13_notesMinute_25 ?_
      refine y_ialdN C ((123 + (47 - i3)) - 4) (nsub (nadd (rfl : (123 : Int32) = nI 123) rfl) (rfl : (4 : Int32) = nI 4) (by omega)) (v4 rfl) rfl rfl (show ((123 + (47 - i3)) - 4) < 227 by omega) rfl dX13_notesMinute_26 ?_
      refine y_iastN C (123 + (47 - i3)) (nadd (rfl : (123 : Int32) = nI 123) rfl) (v4 rfl) rfl rfl (show (123 + (47 - i3)) < 227 by omega) rfl dX13_notesMinute_27 (fun Z27 hZ27 => ?_)
      refine y_iinc (v := (nI (47 - (i3 + 1)))) C dX13_notesMinute_28 rfl (by rw [show 47 - i3 = 47 - (i3 + 1) + 1 by omega]; exact pk_m1 _) (by decide) ?_
      refine y_goto (tgt := 3) C dX13_notesMinute_31 (by decide) ?_
      exact ih3 (i3 + 1) _ (by omega) (by omega) (by rw [hZ27, up_setA, hYl3, setA_setA, setA_s, nmL_s _ _ hb])
