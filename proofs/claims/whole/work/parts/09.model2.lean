theorem my_X13_between : MS yX13_between cX13_between 3 (some .int) 3 := ⟨aw_1153, aw_71, ⟨by decide, by decide, by decide +kernel⟩, aw_1152⟩
theorem my_X13_error : MV yX13_error cX13_error 1 (some .int) 0 := ⟨aw_1189, aw_71, ⟨by decide, by decide, by decide +kernel⟩, aw_1188, aw_28⟩
theorem my_X13_heats : MV yX13_heats cX13_heats 3 none 2 := ⟨aw_1205, aw_71, ⟨by decide, by decide, by decide +kernel⟩, aw_1204, aw_32⟩
theorem my_X13_lagged : MV yX13_lagged cX13_lagged 4 (some .int) 1 := ⟨aw_1165, aw_71, ⟨by decide, by decide, by decide +kernel⟩, aw_1164, aw_24⟩
theorem my_X13_notesMinute : MV yX13_notesMinute cX13_notesMinute 4 none 2 := ⟨aw_1201, aw_71, ⟨by decide, by decide, by decide +kernel⟩, aw_1200, aw_31⟩
theorem my_X13_sumThen : MV yX13_sumThen cX13_sumThen 1 (some .int) 0 := ⟨aw_1197, aw_71, ⟨by decide, by decide, by decide +kernel⟩, aw_1196, aw_30⟩
theorem my_X13_wantedNow : MV yX13_wantedNow cX13_wantedNow 1 (some .int) 0 := ⟨aw_1193, aw_71, ⟨by decide, by decide, by decide +kernel⟩, aw_1192, aw_29⟩
-- KilnKeeperModel.sumThen 
set_option maxHeartbeats 1000000 in
set_option maxRecDepth 20000 in
theorem c_X13_sumThen (l : Launch) (G : GT) (a : Id3 → Nat) (Y : YT)    : CtY l G a yX13_sumThen cX13_sumThen 1 (some .int) ({ frames := 1, cells := 0, slots := 0, locals := 22 } : Room) [.ref (a (4, 0, 8))] Y (PI (fun r Y' => r = mSum (Y (4, 0, 0)) ∧ Y' = Y)) := by
  refine CtY.of (by decide) rfl (Nat.le_of_ble_eq_true rfl) ?_
  intro X A C hl
  subst hl
  refine y_aload_n (pc' := 1) rfl C dX13_sumThen_0 rfl ?_
  refine y_get (pc' := 4) rfl (v := .ref (a (4, 0, 0))) C fl_X13_7 (v4 rfl) rfl rfl dX13_sumThen_1 rfl ?_
  refine y_iconst (pc' := 5) rfl (v := 5) C dX13_sumThen_4 (by decide) ?_
  refine y_ialdN (pc' := 6) rfl C 5 rfl (v4 rfl) rfl rfl (by decide) rfl dX13_sumThen_5 ?_
  refine y_aload_n (pc' := 7) rfl C dX13_sumThen_6 rfl ?_
  refine y_cVi (pc' := 10) (k' := 0) (n' := 0) rfl C (c_X13_error _ G a Y ) my_X13_error aw_1186 (v4 rfl) rfl rfl rfl rfl rfl (Nat.le_of_ble_eq_true rfl) rfl dX13_sumThen_7 rfl rfl (fun r_7 Y_7 hp_7 => ?_)
  obtain ⟨rfl, hY_7⟩ := hp_7
  have hY_7 := hY_7.symm; subst hY_7
  refine y_iadd (pc' := 11) rfl C dX13_sumThen_10 ?_
  refine y_aload_n (pc' := 12) rfl C dX13_sumThen_11 rfl ?_
  refine y_get (pc' := 15) rfl (v := .ref (a (4, 0, 0))) C fl_X13_7 (v4 rfl) rfl rfl dX13_sumThen_12 rfl ?_
  refine y_bipush (pc' := 17) rfl (v := 6) C dX13_sumThen_15 (by decide) ?_
  refine y_ialdN (pc' := 18) rfl C 6 rfl (v4 rfl) rfl rfl (by decide) rfl dX13_sumThen_17 ?_
  refine y_ineg (pc' := 19) rfl C dX13_sumThen_18 ?_
  refine y_aload_n (pc' := 20) rfl C dX13_sumThen_19 rfl ?_
  refine y_get (pc' := 23) rfl (v := .ref (a (4, 0, 0))) C fl_X13_7 (v4 rfl) rfl rfl dX13_sumThen_20 rfl ?_
  refine y_bipush (pc' := 25) rfl (v := 6) C dX13_sumThen_23 (by decide) ?_
  refine y_ialdN (pc' := 26) rfl C 6 rfl (v4 rfl) rfl rfl (by decide) rfl dX13_sumThen_25 ?_
  refine y_cSi (pc' := 29) (k' := 0) (n' := 0) rfl C (c_X13_between _ G a Y ((Y (4, 0, 0) 5) + (mErr (Y (4, 0, 0)))) (-(Y (4, 0, 0) 6)) (Y (4, 0, 0) 6)) my_X13_between aw_1151 rfl rfl (Nat.le_of_ble_eq_true rfl) rfl dX13_sumThen_26 rfl rfl (fun r_26 Y_26 hp_26 => ?_)
  obtain ⟨rfl, hY_26⟩ := hp_26
  have hY_26 := hY_26.symm; subst hY_26
  refine y_ireturn C rfl rfl dX13_sumThen_29 rfl rfl ?_
  exact ⟨rfl, rfl⟩
-- KilnKeeperModel.wantedNow 
set_option maxHeartbeats 1000000 in
set_option maxRecDepth 20000 in
theorem c_X13_wantedNow (l : Launch) (G : GT) (a : Id3 → Nat) (Y : YT)    : CtY l G a yX13_wantedNow cX13_wantedNow 1 (some .int) ({ frames := 2, cells := 0, slots := 0, locals := 42 } : Room) [.ref (a (4, 0, 8))] Y (PI (fun r Y' => r = mWant (Y (4, 0, 0)) ∧ Y' = Y)) := by
  refine CtY.of (by decide) rfl (Nat.le_of_ble_eq_true rfl) ?_
  intro X A C hl
  subst hl
  refine y_bipush (pc' := 2) rfl (v := 10) C dX13_wantedNow_0 (by decide) ?_
  refine y_aload_n (pc' := 3) rfl C dX13_wantedNow_2 rfl ?_
  refine y_get (pc' := 6) rfl (v := .ref (a (4, 0, 0))) C fl_X13_7 (v4 rfl) rfl rfl dX13_wantedNow_3 rfl ?_
  refine y_iconst (pc' := 7) rfl (v := 2) C dX13_wantedNow_6 (by decide) ?_
  refine y_ialdN (pc' := 8) rfl C 2 rfl (v4 rfl) rfl rfl (by decide) rfl dX13_wantedNow_7 ?_
  refine y_imul (pc' := 9) rfl C dX13_wantedNow_8 ?_
  refine y_aload_n (pc' := 10) rfl C dX13_wantedNow_9 rfl ?_
  refine y_cVi (pc' := 13) (k' := 0) (n' := 0) rfl C (c_X13_error _ G a Y ) my_X13_error aw_1186 (v4 rfl) rfl rfl rfl rfl rfl (Nat.le_of_ble_eq_true rfl) rfl dX13_wantedNow_10 rfl rfl (fun r_10 Y_10 hp_10 => ?_)
  obtain ⟨rfl, hY_10⟩ := hp_10
  have hY_10 := hY_10.symm; subst hY_10
  refine y_imul (pc' := 14) rfl C dX13_wantedNow_13 ?_
  refine y_aload_n (pc' := 15) rfl C dX13_wantedNow_14 rfl ?_
  refine y_get (pc' := 18) rfl (v := .ref (a (4, 0, 0))) C fl_X13_7 (v4 rfl) rfl rfl dX13_wantedNow_15 rfl ?_
  refine y_iconst (pc' := 19) rfl (v := 3) C dX13_wantedNow_18 (by decide) ?_
  refine y_ialdN (pc' := 20) rfl C 3 rfl (v4 rfl) rfl rfl (by decide) rfl dX13_wantedNow_19 ?_
  refine y_aload_n (pc' := 21) rfl C dX13_wantedNow_20 rfl ?_
  refine y_cVi (pc' := 24) (k' := 0) (n' := 0) rfl C (c_X13_sumThen _ G a Y ) my_X13_sumThen aw_1194 (v4 rfl) rfl rfl rfl rfl rfl (Nat.le_of_ble_eq_true rfl) rfl dX13_wantedNow_21 rfl rfl (fun r_21 Y_21 hp_21 => ?_)
  obtain ⟨rfl, hY_21⟩ := hp_21
  have hY_21 := hY_21.symm; subst hY_21
  refine y_imul (pc' := 25) rfl C dX13_wantedNow_24 ?_
  refine y_iadd (pc' := 26) rfl C dX13_wantedNow_25 ?_
  refine y_bipush (pc' := 28) rfl (v := 10) C dX13_wantedNow_26 (by decide) ?_
  refine y_aload_n (pc' := 29) rfl C dX13_wantedNow_28 rfl ?_
  refine y_get (pc' := 32) rfl (v := .ref (a (4, 0, 0))) C fl_X13_7 (v4 rfl) rfl rfl dX13_wantedNow_29 rfl ?_
  refine y_iconst (pc' := 33) rfl (v := 4) C dX13_wantedNow_32 (by decide) ?_
  refine y_ialdN (pc' := 34) rfl C 4 rfl (v4 rfl) rfl rfl (by decide) rfl dX13_wantedNow_33 ?_
  refine y_imul (pc' := 35) rfl C dX13_wantedNow_34 ?_
  refine y_aload_n (pc' := 36) rfl C dX13_wantedNow_35 rfl ?_
  refine y_cVi (pc' := 39) (k' := 0) (n' := 0) rfl C (c_X13_error _ G a Y ) my_X13_error aw_1186 (v4 rfl) rfl rfl rfl rfl rfl (Nat.le_of_ble_eq_true rfl) rfl dX13_wantedNow_36 rfl rfl (fun r_36 Y_36 hp_36 => ?_)
  obtain ⟨rfl, hY_36⟩ := hp_36
  have hY_36 := hY_36.symm; subst hY_36
  refine y_aload_n (pc' := 40) rfl C dX13_wantedNow_39 rfl ?_
  refine y_get (pc' := 43) rfl (v := .ref (a (4, 0, 0))) C fl_X13_7 (v4 rfl) rfl rfl dX13_wantedNow_40 rfl ?_
  refine y_bipush (pc' := 45) rfl (v := 7) C dX13_wantedNow_43 (by decide) ?_
  refine y_ialdN (pc' := 46) rfl C 7 rfl (v4 rfl) rfl rfl (by decide) rfl dX13_wantedNow_45 ?_
  refine y_isub (pc' := 47) rfl C dX13_wantedNow_46 ?_
  refine y_imul (pc' := 48) rfl C dX13_wantedNow_47 ?_
  refine y_iadd (pc' := 49) rfl C dX13_wantedNow_48 ?_
  refine y_bipush (pc' := 51) rfl (v := 100) C dX13_wantedNow_49 (by decide) ?_
  refine y_idiv (pc' := 52) rfl C dX13_wantedNow_51 (by decide) ?_
  refine y_iconst (pc' := 53) rfl (v := 0) C dX13_wantedNow_52 (by decide) ?_
  refine y_bipush (pc' := 55) rfl (v := 100) C dX13_wantedNow_53 (by decide) ?_
  refine y_cSi (pc' := 58) (k' := 0) (n' := 0) rfl C (c_X13_between _ G a Y (((((10 * (Y (4, 0, 0) 2)) * (mErr (Y (4, 0, 0)))) + ((Y (4, 0, 0) 3) * (mSum (Y (4, 0, 0))))) + ((10 * (Y (4, 0, 0) 4)) * ((mErr (Y (4, 0, 0))) - (Y (4, 0, 0) 7)))) / 100) 0 100) my_X13_between aw_1151 rfl rfl (Nat.le_of_ble_eq_true rfl) rfl dX13_wantedNow_55 rfl rfl (fun r_55 Y_55 hp_55 => ?_)
  obtain ⟨rfl, hY_55⟩ := hp_55
  have hY_55 := hY_55.symm; subst hY_55
  refine y_ireturn C rfl rfl dX13_wantedNow_58 rfl rfl ?_
  exact ⟨rfl, rfl⟩
-- KilnKeeperModel.lagged 
set_option maxHeartbeats 1000000 in
set_option maxRecDepth 20000 in
theorem c_X13_lagged (l : Launch) (G : GT) (a : Id3 → Nat) (Y : YT) (w : Int32) (lg : Nat)  (h8 : Y (4, 0, 0) 8 = nI lg) (hlg : lg ≤ 5) : CtY l G a yX13_lagged cX13_lagged 4 (some .int) ({ frames := 0, cells := 0, slots := 0, locals := 0 } : Room) [.ref (a (4, 0, 8)), .int w] Y (PI (fun r Y' => r = lagR (Y (4, 0, 0)) w lg ∧ Y' = setA Y (4, 0, 0) (lagS (Y (4, 0, 0)) w lg))) := by
  refine CtY.of (by decide) rfl (Nat.le_of_ble_eq_true rfl) ?_
  intro X A C hl
  subst hl
  refine y_aload_n (pc' := 1) rfl C dX13_lagged_0 rfl ?_
  refine y_get (pc' := 4) rfl (v := .ref (a (4, 0, 0))) C fl_X13_7 (v4 rfl) rfl rfl dX13_lagged_1 rfl ?_
  refine y_bipush (pc' := 6) rfl (v := 8) C dX13_lagged_4 (by decide) ?_
  refine y_ialdN (pc' := 7) rfl C 8 rfl (v4 rfl) rfl rfl (by decide) rfl dX13_lagged_6 ?_
  refine y_if_ne (pc' := 10) rfl (tgt := 12) C dX13_lagged_7 (by decide) (fun c_7 => ?_) (fun c_7 => ?_)
  · have hlg0 : lg ≠ 0 := fun h => c_7 (by rw [h8, h]; rfl)
    refine y_aload_n (pc' := 13) rfl C dX13_lagged_12 rfl ?_
    refine y_get (pc' := 16) rfl (v := .ref (a (4, 0, 0))) C fl_X13_7 (v4 rfl) rfl rfl dX13_lagged_13 rfl ?_
    refine y_bipush (pc' := 18) rfl (v := 17) C dX13_lagged_16 (by decide) ?_
    refine y_ialdN (pc' := 19) rfl C 17 rfl (v4 rfl) rfl rfl (by decide) rfl dX13_lagged_18 ?_
    refine y_istore_n (pc' := 20) rfl C dX13_lagged_19 (by decide) ?_
    refine y_iconst (pc' := 21) rfl (v := 0) C dX13_lagged_20 (by decide) ?_
    refine y_istore_n (pc' := 22) rfl C dX13_lagged_21 (by decide) ?_
    suffices K22 : ∀ (fu_ i22 : Nat) (Yl22 : YT), i22 ≤ (lg - 1) → (lg - 1) < fu_ + i22 → Yl22 = setA Y (4, 0, 0) (shf (Y (4, 0, 0)) i22) → WY X G A a Yl22 0 0 _ 22 [some (.ref (a (4, 0, 8))), some (.int w), some (.int ((Y (4, 0, 0) 17))), some (.int ((nI i22)))] [] from K22 ((lg - 1) + 1) 0 _ (by omega) (by omega) (by rw [shf_0, setA_self])
    intro fu_
    induction fu_ with
    | zero => intro i22 Yl22 h1 h2; omega
    | succ fu_ ih22 =>
      intro i22 Yl22 hi22 hm22 hYl22
      have e8 : Yl22 (4, 0, 0) 8 = nI lg := by rw [hYl22, setA_s, shf_lo (by omega)]; exact h8
      refine y_iload_n (pc' := 23) rfl C dX13_lagged_22 rfl ?_
      refine y_iconst (pc' := 24) rfl (v := 1) C dX13_lagged_23 (by decide) ?_
      refine y_iadd (pc' := 25) rfl C dX13_lagged_24 ?_
      refine y_aload_n (pc' := 26) rfl C dX13_lagged_25 rfl ?_
      refine y_get (pc' := 29) rfl (v := .ref (a (4, 0, 0))) C fl_X13_7 (v4 rfl) rfl rfl dX13_lagged_26 rfl ?_
      refine y_bipush (pc' := 31) rfl (v := 8) C dX13_lagged_29 (by decide) ?_
      refine y_ialdN (pc' := 32) rfl C 8 rfl (v4 rfl) rfl rfl (by decide) rfl dX13_lagged_31 ?_
      refine y_ic_ge (pc' := 35) rfl (tgt := 61) C dX13_lagged_32 (by decide) (fun c_32 => ?_) (fun c_32 => ?_)
      · rw [e8, nI_1] at c_32
        have hb : lg ≤ i22 + 1 := nI_le_iff (by omega) (by omega) c_32
        refine y_aload_n (pc' := 62) rfl C dX13_lagged_61 rfl ?_
        refine y_get (pc' := 65) rfl (v := .ref (a (4, 0, 0))) C fl_X13_7 (v4 rfl) rfl rfl dX13_lagged_62 rfl ?_
        refine y_bipush (pc' := 67) rfl (v := 17) C dX13_lagged_65 (by decide) ?_
        refine y_aload_n (pc' := 68) rfl C dX13_lagged_67 rfl ?_
        refine y_get (pc' := 71) rfl (v := .ref (a (4, 0, 0))) C fl_X13_7 (v4 rfl) rfl rfl dX13_lagged_68 rfl ?_
        refine y_bipush (pc' := 73) rfl (v := 8) C dX13_lagged_71 (by decide) ?_
        refine y_ialdN (pc' := 74) rfl C 8 rfl (v4 rfl) rfl rfl (by decide) rfl dX13_lagged_73 ?_
        refine y_iadd (pc' := 75) rfl C dX13_lagged_74 ?_
        refine y_iconst (pc' := 76) rfl (v := 1) C dX13_lagged_75 (by decide) ?_
        refine y_isub (pc' := 77) rfl C dX13_lagged_76 ?_
        refine y_iload_n (pc' := 78) rfl C dX13_lagged_77 rfl ?_
        refine y_iastN (pc' := 79) rfl C ((17 + lg) - 1) (nsub (nadd (rfl : (17 : Int32) = nI 17) e8) (rfl : (1 : Int32) = nI 1) (by omega)) (v4 rfl) rfl rfl (show ((17 + lg) - 1) < 227 by omega) rfl dX13_lagged_78 (fun Z78 hZ78 => ?_)
        refine y_iload_n (pc' := 80) rfl C dX13_lagged_79 rfl ?_
        refine y_ireturn C rfl rfl dX13_lagged_80 rfl rfl ?_
        refine ⟨by rw [lagR, if_neg hlg0], ?_⟩
        rw [hZ78, up_setA, hYl22, setA_setA, setA_s, show i22 = lg - 1 by omega, lagS_of hlg0]
      · rw [e8, nI_1] at c_32
        have hb : i22 + 1 < lg := nI_nle_iff (by omega) (by omega) c_32
        refine y_aload_n (pc' := 36) rfl C dX13_lagged_35 rfl ?_
        refine y_get (pc' := 39) rfl (v := .ref (a (4, 0, 0))) C fl_X13_7 (v4 rfl) rfl rfl dX13_lagged_36 rfl ?_
        refine y_bipush (pc' := 41) rfl (v := 17) C dX13_lagged_39 (by decide) ?_
        refine y_iload_n (pc' := 42) rfl C dX13_lagged_41 rfl ?_
        refine y_iadd (pc' := 43) rfl C dX13_lagged_42 ?_
        refine y_aload_n (pc' := 44) rfl C dX13_lagged_43 rfl ?_
        refine y_get (pc' := 47) rfl (v := .ref (a (4, 0, 0))) C fl_X13_7 (v4 rfl) rfl rfl dX13_lagged_44 rfl ?_
        refine y_bipush (pc' := 49) rfl (v := 17) C dX13_lagged_47 (by decide) ?_
        refine y_iload_n (pc' := 50) rfl C dX13_lagged_49 rfl ?_
        refine y_iadd (pc' := 51) rfl C dX13_lagged_50 ?_
        refine y_iconst (pc' := 52) rfl (v := 1) C dX13_lagged_51 (by decide) ?_
        refine y_iadd (pc' := 53) rfl C dX13_lagged_52 ?_
        refine y_ialdN (pc' := 54) rfl C ((17 + i22) + 1) (nadd (nadd (rfl : (17 : Int32) = nI 17) rfl) (rfl : (1 : Int32) = nI 1)) (v4 rfl) rfl rfl (show ((17 + i22) + 1) < 227 by omega) rfl dX13_lagged_53 ?_
        refine y_iastN (pc' := 55) rfl C (17 + i22) (nadd (rfl : (17 : Int32) = nI 17) rfl) (v4 rfl) rfl rfl (show (17 + i22) < 227 by omega) rfl dX13_lagged_54 (fun Z54 hZ54 => ?_)
        refine y_iinc (pc' := 58) rfl (v := (nI (i22 + 1))) C dX13_lagged_55 rfl (nI_1 i22) (by decide) ?_
        refine y_goto (tgt := 22) C dX13_lagged_58 (by decide) ?_
        exact ih22 (i22 + 1) _ (by omega) (by omega) (by rw [hZ54, up_setA, hYl22, setA_setA, setA_s, shf_s])
  · refine y_iload_n (pc' := 11) rfl C dX13_lagged_10 rfl ?_
    refine y_ireturn C rfl rfl dX13_lagged_11 rfl rfl ?_
    have h0 : lg = 0 := by rw [h8] at c_7; exact (nI_eq (by omega) (by decide)).mp c_7
    exact ⟨by rw [lagR, if_pos h0], by rw [lagS, if_pos h0, setA_self]⟩
-- KilnKeeperModel.notesMinute 
set_option maxHeartbeats 1000000 in
set_option maxRecDepth 20000 in
theorem c_X13_notesMinute (l : Launch) (G : GT) (a : Id3 → Nat) (Y : YT) (e b : Int32)   : CtY l G a yX13_notesMinute cX13_notesMinute 4 none ({ frames := 0, cells := 0, slots := 0, locals := 0 } : Room) [.ref (a (4, 0, 8)), .int e, .int b] Y (PV (fun Y' => Y' = setA Y (4, 0, 0) (nmS (Y (4, 0, 0)) e b))) := by
  refine CtY.of (by decide) rfl (Nat.le_of_ble_eq_true rfl) ?_
  intro X A C hl
  subst hl
  refine y_bipush (pc' := 2) rfl (v := 47) C dX13_notesMinute_0 (by decide) ?_
  refine y_istore_n (pc' := 3) rfl C dX13_notesMinute_2 (by decide) ?_
  suffices K3 : ∀ (fu_ i3 : Nat) (Yl3 : YT), i3 ≤ 44 → 44 < fu_ + i3 → Yl3 = setA Y (4, 0, 0) (nmL (Y (4, 0, 0)) i3) → WY X G A a Yl3 0 0 _ 3 [some (.ref (a (4, 0, 8))), some (.int e), some (.int b), some (.int ((nI (47 - i3))))] [] from K3 (44 + 1) 0 _ (by omega) (by omega) (by rw [nmL_0, setA_self])
  intro fu_
  induction fu_ with
  | zero => intro i3 Yl3 h1 h2; omega
  | succ fu_ ih3 =>
    intro i3 Yl3 hi3 hm3 hYl3
    refine y_iload_n (pc' := 4) rfl C dX13_notesMinute_3 rfl ?_
    refine y_iconst (pc' := 5) rfl (v := 3) C dX13_notesMinute_4 (by decide) ?_
    refine y_ic_le (pc' := 8) rfl (tgt := 34) C dX13_notesMinute_5 (by decide) (fun c_5 => ?_) (fun c_5 => ?_)
    · have hb : 44 ≤ i3 := by have := (nI_leI (a := 47 - i3) (b := 3) (by omega) (by decide)).mp c_5; omega
      refine y_aload_n (pc' := 35) rfl C dX13_notesMinute_34 rfl ?_
      refine y_get (pc' := 38) rfl (v := .ref (a (4, 0, 0))) C fl_X13_7 (v4 rfl) rfl rfl dX13_notesMinute_35 rfl ?_
      refine y_bipush (pc' := 40) rfl (v := 123) C dX13_notesMinute_38 (by decide) ?_
      refine y_aload_n (pc' := 41) rfl C dX13_notesMinute_40 rfl ?_
      refine y_get (pc' := 44) rfl (v := .ref (a (4, 0, 0))) C fl_X13_7 (v4 rfl) rfl rfl dX13_notesMinute_41 rfl ?_
      refine y_iconst (pc' := 45) rfl (v := 0) C dX13_notesMinute_44 (by decide) ?_
      refine y_ialdN (pc' := 46) rfl C 0 rfl (v4 rfl) rfl rfl (by decide) rfl dX13_notesMinute_45 ?_
      refine y_iastN (pc' := 47) rfl C 123 rfl (v4 rfl) rfl rfl (by decide) rfl dX13_notesMinute_46 (fun Z46 hZ46 => ?_)
      refine y_aload_n (pc' := 48) rfl C dX13_notesMinute_47 rfl ?_
      refine y_get (pc' := 51) rfl (v := .ref (a (4, 0, 0))) C fl_X13_7 (v4 rfl) rfl rfl dX13_notesMinute_48 rfl ?_
      refine y_bipush (pc' := 53) rfl (v := 124) C dX13_notesMinute_51 (by decide) ?_
      refine y_aload_n (pc' := 54) rfl C dX13_notesMinute_53 rfl ?_
      refine y_get (pc' := 57) rfl (v := .ref (a (4, 0, 0))) C fl_X13_7 (v4 rfl) rfl rfl dX13_notesMinute_54 rfl ?_
      refine y_bipush (pc' := 59) rfl (v := 9) C dX13_notesMinute_57 (by decide) ?_
      refine y_ialdN (pc' := 60) rfl C 9 rfl (v4 rfl) rfl rfl (by decide) rfl dX13_notesMinute_59 ?_
      refine y_iastN (pc' := 61) rfl C 124 rfl (v4 rfl) rfl rfl (by decide) rfl dX13_notesMinute_60 (fun Z60 hZ60 => ?_)
      refine y_aload_n (pc' := 62) rfl C dX13_notesMinute_61 rfl ?_
      refine y_get (pc' := 65) rfl (v := .ref (a (4, 0, 0))) C fl_X13_7 (v4 rfl) rfl rfl dX13_notesMinute_62 rfl ?_
      refine y_bipush (pc' := 67) rfl (v := 125) C dX13_notesMinute_65 (by decide) ?_
      refine y_iload_n (pc' := 68) rfl C dX13_notesMinute_67 rfl ?_
      refine y_iastN (pc' := 69) rfl C 125 rfl (v4 rfl) rfl rfl (by decide) rfl dX13_notesMinute_68 (fun Z68 hZ68 => ?_)
      refine y_aload_n (pc' := 70) rfl C dX13_notesMinute_69 rfl ?_
      refine y_get (pc' := 73) rfl (v := .ref (a (4, 0, 0))) C fl_X13_7 (v4 rfl) rfl rfl dX13_notesMinute_70 rfl ?_
      refine y_bipush (pc' := 75) rfl (v := 126) C dX13_notesMinute_73 (by decide) ?_
      refine y_iload_n (pc' := 76) rfl C dX13_notesMinute_75 rfl ?_
      refine y_iastN (pc' := 77) rfl C 126 rfl (v4 rfl) rfl rfl (by decide) rfl dX13_notesMinute_76 (fun Z76 hZ76 => ?_)
      refine y_aload_n (pc' := 78) rfl C dX13_notesMinute_77 rfl ?_
      refine y_get (pc' := 81) rfl (v := .ref (a (4, 0, 0))) C fl_X13_7 (v4 rfl) rfl rfl dX13_notesMinute_78 rfl ?_
      refine y_bipush (pc' := 83) rfl (v := 14) C dX13_notesMinute_81 (by decide) ?_
      refine y_dup2 (pc' := 84) rfl C dX13_notesMinute_83 rfl rfl ?_
      refine y_ialdN (pc' := 85) rfl C 14 rfl (v4 rfl) rfl rfl (by decide) rfl dX13_notesMinute_84 ?_
      refine y_aload_n (pc' := 86) rfl C dX13_notesMinute_85 rfl ?_
      refine y_get (pc' := 89) rfl (v := .ref (a (4, 0, 0))) C fl_X13_7 (v4 rfl) rfl rfl dX13_notesMinute_86 rfl ?_
      refine y_bipush (pc' := 91) rfl (v := 14) C dX13_notesMinute_89 (by decide) ?_
      refine y_ialdN (pc' := 92) rfl C 14 rfl (v4 rfl) rfl rfl (by decide) rfl dX13_notesMinute_91 ?_
      refine y_bipush (pc' := 94) rfl (v := 12) C dX13_notesMinute_92 (by decide) ?_
      have K94 : ∀ (w_94 : Int32) (_ : w_94 = (if 12 ≤ (Z76 (4, 0, 0) 14) then 0 else 1)), WY X G A a Z76 0 0 (MEnd X G A ({ frames := 0, cells := 0, slots := 0, locals := 0 } : Room) (PY G a (PV (fun Y' => Y' = setA Y (4, 0, 0) (nmS (Y (4, 0, 0)) e b))))) 102 [some (.ref (a (4, 0, 8))), some (.int e), some (.int b), some (.int ((nI (47 - i3))))] [.int w_94, .int ((Z76 (4, 0, 0) 14)), .int 14, .ref (a (4, 0, 0))] := by
        intro w_94 ew_94
        refine y_iadd (pc' := 103) rfl C dX13_notesMinute_102 ?_
        refine y_iastN (pc' := 104) rfl C 14 rfl (v4 rfl) rfl rfl (by decide) rfl dX13_notesMinute_103 (fun Z103 hZ103 => ?_)
        refine y_return C rfl dX13_notesMinute_104 rfl rfl ?_
        subst hZ46 hZ60 hZ68 hZ76 ew_94 hZ103
        rw [hYl3, show i3 = 44 by omega]
        simp only [up_setA, setA_setA, setA_s]
        rw [← nmS_of]
        rfl
      refine y_ic_ge (pc' := 97) rfl (tgt := 101) C dX13_notesMinute_94 (by decide) (fun c_94 => ?_) (fun c_94 => ?_)
      · refine y_iconst (pc' := 102) rfl (v := 0) C dX13_notesMinute_101 (by decide) ?_
        exact K94 _ (by rw [if_pos c_94])
      · refine y_iconst (pc' := 98) rfl (v := 1) C dX13_notesMinute_97 (by decide) ?_
        refine y_goto (tgt := 102) C dX13_notesMinute_98 (by decide) ?_
        exact K94 _ (by rw [if_neg c_94])
    · have hb : i3 < 44 := by rcases Nat.lt_or_ge i3 44 with q | q; exact q; exact absurd ((nI_leI (a := 47 - i3) (b := 3) (by omega) (by decide)).mpr (by omega)) c_5
      refine y_aload_n (pc' := 9) rfl C dX13_notesMinute_8 rfl ?_
      refine y_get (pc' := 12) rfl (v := .ref (a (4, 0, 0))) C fl_X13_7 (v4 rfl) rfl rfl dX13_notesMinute_9 rfl ?_
      refine y_bipush (pc' := 14) rfl (v := 123) C dX13_notesMinute_12 (by decide) ?_
      refine y_iload_n (pc' := 15) rfl C dX13_notesMinute_14 rfl ?_
      refine y_iadd (pc' := 16) rfl C dX13_notesMinute_15 ?_
      refine y_aload_n (pc' := 17) rfl C dX13_notesMinute_16 rfl ?_
      refine y_get (pc' := 20) rfl (v := .ref (a (4, 0, 0))) C fl_X13_7 (v4 rfl) rfl rfl dX13_notesMinute_17 rfl ?_
      refine y_bipush (pc' := 22) rfl (v := 123) C dX13_notesMinute_20 (by decide) ?_
      refine y_iload_n (pc' := 23) rfl C dX13_notesMinute_22 rfl ?_
      refine y_iadd (pc' := 24) rfl C dX13_notesMinute_23 ?_
      refine y_iconst (pc' := 25) rfl (v := 4) C dX13_notesMinute_24 (by decide) ?_
      refine y_isub (pc' := 26) rfl C dX13_notesMinute_25 ?_
      refine y_ialdN (pc' := 27) rfl C ((123 + (47 - i3)) - 4) (nsub (nadd (rfl : (123 : Int32) = nI 123) rfl) (rfl : (4 : Int32) = nI 4) (by omega)) (v4 rfl) rfl rfl (show ((123 + (47 - i3)) - 4) < 227 by omega) rfl dX13_notesMinute_26 ?_
      refine y_iastN (pc' := 28) rfl C (123 + (47 - i3)) (nadd (rfl : (123 : Int32) = nI 123) rfl) (v4 rfl) rfl rfl (show (123 + (47 - i3)) < 227 by omega) rfl dX13_notesMinute_27 (fun Z27 hZ27 => ?_)
      refine y_iinc (pc' := 31) rfl (v := (nI (47 - (i3 + 1)))) C dX13_notesMinute_28 rfl (by rw [show 47 - i3 = 47 - (i3 + 1) + 1 by omega]; exact pk_m1 _) (by decide) ?_
      refine y_goto (tgt := 3) C dX13_notesMinute_31 (by decide) ?_
      exact ih3 (i3 + 1) _ (by omega) (by omega) (by rw [hZ27, up_setA, hYl3, setA_setA, setA_s, nmL_s _ _ hb])
-- KilnKeeperModel.heats 
set_option maxHeartbeats 1000000 in
set_option maxRecDepth 20000 in
theorem c_X13_heats (l : Launch) (G : GT) (a : Id3 → Nat) (Y : YT) (p : Nat) (b : Int32)  (hp : p < 8) : CtY l G a yX13_heats cX13_heats 3 none ({ frames := 0, cells := 0, slots := 0, locals := 0 } : Room) [.ref (a (4, 0, 8)), .int (nI p), .int b] Y (PV (fun Y' => Y' = setA Y (4, 0, 0) (ht (Y (4, 0, 0)) p b))) := by
  refine CtY.of (by decide) rfl (Nat.le_of_ble_eq_true rfl) ?_
  intro X A C hl
  subst hl
  refine y_aload_n (pc' := 1) rfl C dX13_heats_0 rfl ?_
  refine y_get (pc' := 4) rfl (v := .ref (a (4, 0, 0))) C fl_X13_7 (v4 rfl) rfl rfl dX13_heats_1 rfl ?_
  refine y_sipush (pc' := 7) rfl (v := 219) C dX13_heats_4 (by decide) ?_
  refine y_iload_n (pc' := 8) rfl C dX13_heats_7 rfl ?_
  refine y_iadd (pc' := 9) rfl C dX13_heats_8 ?_
  refine y_iload_n (pc' := 10) rfl C dX13_heats_9 rfl ?_
  refine y_aload_n (pc' := 11) rfl C dX13_heats_10 rfl ?_
  refine y_get (pc' := 14) rfl (v := .ref (a (4, 0, 0))) C fl_X13_7 (v4 rfl) rfl rfl dX13_heats_11 rfl ?_
  refine y_sipush (pc' := 17) rfl (v := 219) C dX13_heats_14 (by decide) ?_
  refine y_iload_n (pc' := 18) rfl C dX13_heats_17 rfl ?_
  refine y_iadd (pc' := 19) rfl C dX13_heats_18 ?_
  refine y_ialdN (pc' := 20) rfl C (219 + p) (nadd (rfl : (219 : Int32) = nI 219) rfl) (v4 rfl) rfl rfl (show (219 + p) < 227 by omega) rfl dX13_heats_19 ?_
  have K20 : ∀ (w_20 : Int32) (_ : w_20 = (if b ≤ (Y (4, 0, 0) (219 + p)) then (Y (4, 0, 0) (219 + p)) else b)), WY X G A a Y 0 0 (MEnd X G A ({ frames := 0, cells := 0, slots := 0, locals := 0 } : Room) (PY G a (PV (fun Y' => Y' = setA Y (4, 0, 0) (ht (Y (4, 0, 0)) p b))))) 37 [some (.ref (a (4, 0, 8))), some (.int ((nI p))), some (.int b)] [.int w_20, .int ((219 + (nI p))), .ref (a (4, 0, 0))] := by
    intro w_20 ew_20
    refine y_iastN (pc' := 38) rfl C (219 + p) (nadd (rfl : (219 : Int32) = nI 219) rfl) (v4 rfl) rfl rfl (show (219 + p) < 227 by omega) rfl dX13_heats_37 (fun Z37 hZ37 => ?_)
    have e1b : Z37 = setA Y (4, 0, 0) (ht1 (Y (4, 0, 0)) p b) := by rw [hZ37, up_setA, ew_20]; rfl
    have e1 : Z37 (4, 0, 0) = ht1 (Y (4, 0, 0)) p b := by rw [e1b, setA_s]
    refine y_iload_n (pc' := 39) rfl C dX13_heats_38 rfl ?_
    refine y_aload_n (pc' := 40) rfl C dX13_heats_39 rfl ?_
    refine y_get (pc' := 43) rfl (v := .ref (a (4, 0, 0))) C fl_X13_7 (v4 rfl) rfl rfl dX13_heats_40 rfl ?_
    refine y_sipush (pc' := 46) rfl (v := 171) C dX13_heats_43 (by decide) ?_
    refine y_iload_n (pc' := 47) rfl C dX13_heats_46 rfl ?_
    refine y_iadd (pc' := 48) rfl C dX13_heats_47 ?_
    refine y_ialdN (pc' := 49) rfl C (171 + p) (nadd (rfl : (171 : Int32) = nI 171) rfl) (v4 rfl) rfl rfl (show (171 + p) < 227 by omega) rfl dX13_heats_48 ?_
    refine y_ic_gt (pc' := 52) rfl (tgt := 74) C dX13_heats_49 (by decide) (fun c_49 => ?_) (fun c_49 => ?_)
    · refine y_aload_n (pc' := 75) rfl C dX13_heats_74 rfl ?_
      refine y_get (pc' := 78) rfl (v := .ref (a (4, 0, 0))) C fl_X13_7 (v4 rfl) rfl rfl dX13_heats_75 rfl ?_
      refine y_sipush (pc' := 81) rfl (v := 195) C dX13_heats_78 (by decide) ?_
      refine y_iload_n (pc' := 82) rfl C dX13_heats_81 rfl ?_
      refine y_iadd (pc' := 83) rfl C dX13_heats_82 ?_
      refine y_iconst (pc' := 84) rfl (v := 3) C dX13_heats_83 (by decide) ?_
      refine y_iastN (pc' := 85) rfl C (195 + p) (nadd (rfl : (195 : Int32) = nI 195) rfl) (v4 rfl) rfl rfl (show (195 + p) < 227 by omega) rfl dX13_heats_84 (fun Z84 hZ84 => ?_)
      refine y_return C rfl dX13_heats_85 rfl rfl ?_
      rw [hZ84, up_setA, e1b, setA_setA, setA_s, ht, if_pos (Or.inl (by rw [← e1]; exact c_49))]
    · refine y_aload_n (pc' := 53) rfl C dX13_heats_52 rfl ?_
      refine y_get (pc' := 56) rfl (v := .ref (a (4, 0, 0))) C fl_X13_7 (v4 rfl) rfl rfl dX13_heats_53 rfl ?_
      refine y_iconst (pc' := 57) rfl (v := 0) C dX13_heats_56 (by decide) ?_
      refine y_ialdN (pc' := 58) rfl C 0 rfl (v4 rfl) rfl rfl (by decide) rfl dX13_heats_57 ?_
      refine y_aload_n (pc' := 59) rfl C dX13_heats_58 rfl ?_
      refine y_get (pc' := 62) rfl (v := .ref (a (4, 0, 0))) C fl_X13_7 (v4 rfl) rfl rfl dX13_heats_59 rfl ?_
      refine y_sipush (pc' := 65) rfl (v := 179) C dX13_heats_62 (by decide) ?_
      refine y_iload_n (pc' := 66) rfl C dX13_heats_65 rfl ?_
      refine y_iadd (pc' := 67) rfl C dX13_heats_66 ?_
      refine y_ialdN (pc' := 68) rfl C (179 + p) (nadd (rfl : (179 : Int32) = nI 179) rfl) (v4 rfl) rfl rfl (show (179 + p) < 227 by omega) rfl dX13_heats_67 ?_
      refine y_bipush (pc' := 70) rfl (v := 80) C dX13_heats_68 (by decide) ?_
      refine y_iadd (pc' := 71) rfl C dX13_heats_70 ?_
      refine y_ic_le (pc' := 74) rfl (tgt := 86) C dX13_heats_71 (by decide) (fun c_71 => ?_) (fun c_71 => ?_)
      · refine y_aload_n (pc' := 87) rfl C dX13_heats_86 rfl ?_
        refine y_get (pc' := 90) rfl (v := .ref (a (4, 0, 0))) C fl_X13_7 (v4 rfl) rfl rfl dX13_heats_87 rfl ?_
        refine y_iconst (pc' := 91) rfl (v := 0) C dX13_heats_90 (by decide) ?_
        refine y_ialdN (pc' := 92) rfl C 0 rfl (v4 rfl) rfl rfl (by decide) rfl dX13_heats_91 ?_
        refine y_aload_n (pc' := 93) rfl C dX13_heats_92 rfl ?_
        refine y_get (pc' := 96) rfl (v := .ref (a (4, 0, 0))) C fl_X13_7 (v4 rfl) rfl rfl dX13_heats_93 rfl ?_
        refine y_sipush (pc' := 99) rfl (v := 179) C dX13_heats_96 (by decide) ?_
        refine y_iload_n (pc' := 100) rfl C dX13_heats_99 rfl ?_
        refine y_iadd (pc' := 101) rfl C dX13_heats_100 ?_
        refine y_ialdN (pc' := 102) rfl C (179 + p) (nadd (rfl : (179 : Int32) = nI 179) rfl) (v4 rfl) rfl rfl (show (179 + p) < 227 by omega) rfl dX13_heats_101 ?_
        refine y_ic_ge (pc' := 105) rfl (tgt := 106) C dX13_heats_102 (by decide) (fun c_102 => ?_) (fun c_102 => ?_)
        · refine y_aload_n (pc' := 107) rfl C dX13_heats_106 rfl ?_
          refine y_get (pc' := 110) rfl (v := .ref (a (4, 0, 0))) C fl_X13_7 (v4 rfl) rfl rfl dX13_heats_107 rfl ?_
          refine y_sipush (pc' := 113) rfl (v := 203) C dX13_heats_110 (by decide) ?_
          refine y_iload_n (pc' := 114) rfl C dX13_heats_113 rfl ?_
          refine y_iadd (pc' := 115) rfl C dX13_heats_114 ?_
          refine y_dup2 (pc' := 116) rfl C dX13_heats_115 rfl rfl ?_
          refine y_ialdN (pc' := 117) rfl C (203 + p) (nadd (rfl : (203 : Int32) = nI 203) rfl) (v4 rfl) rfl rfl (show (203 + p) < 227 by omega) rfl dX13_heats_116 ?_
          refine y_iconst (pc' := 118) rfl (v := 1) C dX13_heats_117 (by decide) ?_
          refine y_iadd (pc' := 119) rfl C dX13_heats_118 ?_
          refine y_iastN (pc' := 120) rfl C (203 + p) (nadd (rfl : (203 : Int32) = nI 203) rfl) (v4 rfl) rfl rfl (show (203 + p) < 227 by omega) rfl dX13_heats_119 (fun Z119 hZ119 => ?_)
          have e2b : Z119 = setA Y (4, 0, 0) (ht2 (ht1 (Y (4, 0, 0)) p b) p) := by rw [hZ119, up_setA, e1b, setA_setA, setA_s]; rfl
          have e2 : Z119 (4, 0, 0) = ht2 (ht1 (Y (4, 0, 0)) p b) p := by rw [e2b, setA_s]
          refine y_aload_n (pc' := 121) rfl C dX13_heats_120 rfl ?_
          refine y_get (pc' := 124) rfl (v := .ref (a (4, 0, 0))) C fl_X13_7 (v4 rfl) rfl rfl dX13_heats_121 rfl ?_
          refine y_sipush (pc' := 127) rfl (v := 203) C dX13_heats_124 (by decide) ?_
          refine y_iload_n (pc' := 128) rfl C dX13_heats_127 rfl ?_
          refine y_iadd (pc' := 129) rfl C dX13_heats_128 ?_
          refine y_ialdN (pc' := 130) rfl C (203 + p) (nadd (rfl : (203 : Int32) = nI 203) rfl) (v4 rfl) rfl rfl (show (203 + p) < 227 by omega) rfl dX13_heats_129 ?_
          refine y_aload_n (pc' := 131) rfl C dX13_heats_130 rfl ?_
          refine y_get (pc' := 134) rfl (v := .ref (a (4, 0, 0))) C fl_X13_7 (v4 rfl) rfl rfl dX13_heats_131 rfl ?_
          refine y_sipush (pc' := 137) rfl (v := 187) C dX13_heats_134 (by decide) ?_
          refine y_iload_n (pc' := 138) rfl C dX13_heats_137 rfl ?_
          refine y_iadd (pc' := 139) rfl C dX13_heats_138 ?_
          refine y_ialdN (pc' := 140) rfl C (187 + p) (nadd (rfl : (187 : Int32) = nI 187) rfl) (v4 rfl) rfl rfl (show (187 + p) < 227 by omega) rfl dX13_heats_139 ?_
          refine y_ic_ne (pc' := 143) rfl (tgt := 154) C dX13_heats_140 (by decide) (fun c_140 => ?_) (fun c_140 => ?_)
          · refine y_return C rfl dX13_heats_154 rfl rfl ?_
            rw [e2b, ht, if_neg (by rw [← e1]; exact fun h => h.elim c_49 (Int32.not_lt.mpr c_71)), if_neg (by rw [← e1]; exact Int32.not_lt.mpr c_102), if_neg (by rw [← e2]; exact c_140)]
          · refine y_aload_n (pc' := 144) rfl C dX13_heats_143 rfl ?_
            refine y_get (pc' := 147) rfl (v := .ref (a (4, 0, 0))) C fl_X13_7 (v4 rfl) rfl rfl dX13_heats_144 rfl ?_
            refine y_sipush (pc' := 150) rfl (v := 195) C dX13_heats_147 (by decide) ?_
            refine y_iload_n (pc' := 151) rfl C dX13_heats_150 rfl ?_
            refine y_iadd (pc' := 152) rfl C dX13_heats_151 ?_
            refine y_iconst (pc' := 153) rfl (v := 2) C dX13_heats_152 (by decide) ?_
            refine y_iastN (pc' := 154) rfl C (195 + p) (nadd (rfl : (195 : Int32) = nI 195) rfl) (v4 rfl) rfl rfl (show (195 + p) < 227 by omega) rfl dX13_heats_153 (fun Z153 hZ153 => ?_)
            refine y_return C rfl dX13_heats_154 rfl rfl ?_
            rw [hZ153, up_setA, e2b, setA_setA, setA_s, ht, if_neg (by rw [← e1]; exact fun h => h.elim c_49 (Int32.not_lt.mpr c_71)), if_neg (by rw [← e1]; exact Int32.not_lt.mpr c_102), if_pos (by rw [← e2]; exact c_140)]
        · refine y_return C rfl dX13_heats_105 rfl rfl ?_
          rw [e1b, ht, if_neg (by rw [← e1]; exact fun h => h.elim c_49 (Int32.not_lt.mpr c_71)), if_pos (by rw [← e1]; exact nle_lt c_102)]
      · refine y_aload_n (pc' := 75) rfl C dX13_heats_74 rfl ?_
        refine y_get (pc' := 78) rfl (v := .ref (a (4, 0, 0))) C fl_X13_7 (v4 rfl) rfl rfl dX13_heats_75 rfl ?_
        refine y_sipush (pc' := 81) rfl (v := 195) C dX13_heats_78 (by decide) ?_
        refine y_iload_n (pc' := 82) rfl C dX13_heats_81 rfl ?_
        refine y_iadd (pc' := 83) rfl C dX13_heats_82 ?_
        refine y_iconst (pc' := 84) rfl (v := 3) C dX13_heats_83 (by decide) ?_
        refine y_iastN (pc' := 85) rfl C (195 + p) (nadd (rfl : (195 : Int32) = nI 195) rfl) (v4 rfl) rfl rfl (show (195 + p) < 227 by omega) rfl dX13_heats_84 (fun Z84 hZ84 => ?_)
        refine y_return C rfl dX13_heats_85 rfl rfl ?_
        rw [hZ84, up_setA, e1b, setA_setA, setA_s, ht, if_pos (Or.inr (by rw [← e1]; exact nle_lt c_71))]
  refine y_ic_le (pc' := 23) rfl (tgt := 27) C dX13_heats_20 (by decide) (fun c_20 => ?_) (fun c_20 => ?_)
  · refine y_aload_n (pc' := 28) rfl C dX13_heats_27 rfl ?_
    refine y_get (pc' := 31) rfl (v := .ref (a (4, 0, 0))) C fl_X13_7 (v4 rfl) rfl rfl dX13_heats_28 rfl ?_
    refine y_sipush (pc' := 34) rfl (v := 219) C dX13_heats_31 (by decide) ?_
    refine y_iload_n (pc' := 35) rfl C dX13_heats_34 rfl ?_
    refine y_iadd (pc' := 36) rfl C dX13_heats_35 ?_
    refine y_ialdN (pc' := 37) rfl C (219 + p) (nadd (rfl : (219 : Int32) = nI 219) rfl) (v4 rfl) rfl rfl (show (219 + p) < 227 by omega) rfl dX13_heats_36 ?_
    exact K20 _ (by rw [if_pos c_20])
  · refine y_iload_n (pc' := 24) rfl C dX13_heats_23 rfl ?_
    refine y_goto (tgt := 37) C dX13_heats_24 (by decide) ?_
    exact K20 _ (by rw [if_neg c_20])
-- KilnKeeperModel.goesBy 
set_option maxHeartbeats 1000000 in
set_option maxRecDepth 20000 in
theorem c_X13_goesBy (l : Launch) (G : GT) (a : Id3 → Nat) (Y : YT)   (hok : MOK (Y (4, 0, 0))) : CtY l G a yX13_goesBy cX13_goesBy 7 none ({ frames := 3, cells := 0, slots := 0, locals := 62 } : Room) [.ref (a (4, 0, 8))] Y (PV (fun Y' => Y' = setA Y (4, 0, 0) (minute (Y (4, 0, 0))))) := by
  refine CtY.of (by decide) rfl (Nat.le_of_ble_eq_true rfl) ?_
  intro X A C hl
  subst hl
  obtain ⟨lg, np, d0, fu0, h8, hlg, h15, hnp, h9, hd0, h10, hfu0, hrow⟩ := id hok
  obtain ⟨bu, fu, hbl, hbu, -, -, -⟩ := mBurn_ok hok
  have hnl : nn (Y (4, 0, 0) 8) = lg := by rw [h8, nn_nI (by omega)]
  have hnpn : nn (Y (4, 0, 0) 15) = np := by rw [h15, nn_nI (by omega)]
  rw [hnl] at hbu
  refine y_aload_n (pc' := 1) rfl C dX13_goesBy_0 rfl ?_
  refine y_cVi (pc' := 4) (k' := 0) (n' := 0) rfl C (c_X13_error _ G a Y ) my_X13_error aw_1186 (v4 rfl) rfl rfl rfl rfl rfl (Nat.le_of_ble_eq_true rfl) rfl dX13_goesBy_1 rfl rfl (fun r_1 Y_1 hp_1 => ?_)
  obtain ⟨rfl, hY_1⟩ := hp_1
  have hY_1 := hY_1.symm; subst hY_1
  refine y_istore_n (pc' := 5) rfl C dX13_goesBy_4 (by decide) ?_
  refine y_aload_n (pc' := 6) rfl C dX13_goesBy_5 rfl ?_
  refine y_get (pc' := 9) rfl (v := .ref (a (4, 0, 0))) C fl_X13_7 (v4 rfl) rfl rfl dX13_goesBy_6 rfl ?_
  refine y_iconst (pc' := 10) rfl (v := 0) C dX13_goesBy_9 (by decide) ?_
  refine y_ialdN (pc' := 11) rfl C 0 rfl (v4 rfl) rfl rfl (by decide) rfl dX13_goesBy_10 ?_
  refine y_istore_n (pc' := 12) rfl C dX13_goesBy_11 (by decide) ?_
  refine y_aload_n (pc' := 13) rfl C dX13_goesBy_12 rfl ?_
  refine y_cVi (pc' := 16) (k' := 0) (n' := 0) rfl C (c_X13_wantedNow _ G a Y ) my_X13_wantedNow aw_1190 (v4 rfl) rfl rfl rfl rfl rfl (Nat.le_of_ble_eq_true rfl) rfl dX13_goesBy_13 rfl rfl (fun r_13 Y_13 hp_13 => ?_)
  obtain ⟨rfl, hY_13⟩ := hp_13
  have hY_13 := hY_13.symm; subst hY_13
  refine y_istore_n (pc' := 17) rfl C dX13_goesBy_16 (by decide) ?_
  refine y_aload_n (pc' := 18) rfl C dX13_goesBy_17 rfl ?_
  refine y_get (pc' := 21) rfl (v := .ref (a (4, 0, 0))) C fl_X13_7 (v4 rfl) rfl rfl dX13_goesBy_18 rfl ?_
  refine y_iconst (pc' := 22) rfl (v := 5) C dX13_goesBy_21 (by decide) ?_
  refine y_aload_n (pc' := 23) rfl C dX13_goesBy_22 rfl ?_
  refine y_cVi (pc' := 26) (k' := 0) (n' := 0) rfl C (c_X13_sumThen _ G a Y ) my_X13_sumThen aw_1194 (v4 rfl) rfl rfl rfl rfl rfl (Nat.le_of_ble_eq_true rfl) rfl dX13_goesBy_23 rfl rfl (fun r_23 Y_23 hp_23 => ?_)
  obtain ⟨rfl, hY_23⟩ := hp_23
  have hY_23 := hY_23.symm; subst hY_23
  refine y_iastN (pc' := 27) rfl C 5 rfl (v4 rfl) rfl rfl (by decide) rfl dX13_goesBy_26 (fun Z26 hZ26 => ?_)
  refine y_aload_n (pc' := 28) rfl C dX13_goesBy_27 rfl ?_
  refine y_get (pc' := 31) rfl (v := .ref (a (4, 0, 0))) C fl_X13_7 (v4 rfl) rfl rfl dX13_goesBy_28 rfl ?_
  refine y_bipush (pc' := 33) rfl (v := 7) C dX13_goesBy_31 (by decide) ?_
  refine y_iload_n (pc' := 34) rfl C dX13_goesBy_33 rfl ?_
  refine y_iastN (pc' := 35) rfl C 7 rfl (v4 rfl) rfl rfl (by decide) rfl dX13_goesBy_34 (fun Z34 hZ34 => ?_)
  refine y_aload_n (pc' := 36) rfl C dX13_goesBy_35 rfl ?_
  refine y_get (pc' := 39) rfl (v := .ref (a (4, 0, 0))) C fl_X13_7 (v4 rfl) rfl rfl dX13_goesBy_36 rfl ?_
  refine y_bipush (pc' := 41) rfl (v := 9) C dX13_goesBy_39 (by decide) ?_
  refine y_aload_n (pc' := 42) rfl C dX13_goesBy_41 rfl ?_
  refine y_iload_n (pc' := 43) rfl C dX13_goesBy_42 rfl ?_
  refine y_cVi (pc' := 46) (k' := 0) (n' := 0) rfl C (c_X13_lagged _ G a Z34 (mWant (Y (4, 0, 0))) lg (by rw [hZ34, up_setA, setA_s, upd_n (by decide), hZ26, up_setA, setA_s, upd_n (by decide)]; exact h8) hlg) my_X13_lagged aw_1162 (v4 rfl) rfl rfl rfl rfl rfl (Nat.le_of_ble_eq_true rfl) rfl dX13_goesBy_43 rfl rfl (fun r_43 Y_43 hp_43 => ?_)
  obtain ⟨rfl, hY_43⟩ := hp_43
  have e3 : Y_43 = setA Y (4, 0, 0) (mS3 (Y (4, 0, 0)) lg) := by rw [hY_43, hZ34, hZ26]; simp only [up_setA, setA_setA, setA_s]; rfl
  refine y_aload_n (pc' := 47) rfl C dX13_goesBy_46 rfl ?_
  refine y_get (pc' := 50) rfl (v := .ref (a (4, 0, 0))) C fl_X13_7 (v4 rfl) rfl rfl dX13_goesBy_47 rfl ?_
  refine y_bipush (pc' := 52) rfl (v := 9) C dX13_goesBy_50 (by decide) ?_
  refine y_ialdN (pc' := 53) rfl C 9 rfl (v4 rfl) rfl rfl (by decide) rfl dX13_goesBy_52 ?_
  refine y_bipush (pc' := 55) rfl (v := 20) C dX13_goesBy_53 (by decide) ?_
  refine y_isub (pc' := 56) rfl C dX13_goesBy_55 ?_
  refine y_aload_n (pc' := 57) rfl C dX13_goesBy_56 rfl ?_
  refine y_get (pc' := 60) rfl (v := .ref (a (4, 0, 0))) C fl_X13_7 (v4 rfl) rfl rfl dX13_goesBy_57 rfl ?_
  refine y_bipush (pc' := 62) rfl (v := 9) C dX13_goesBy_60 (by decide) ?_
  refine y_ialdN (pc' := 63) rfl C 9 rfl (v4 rfl) rfl rfl (by decide) rfl dX13_goesBy_62 ?_
  refine y_bipush (pc' := 65) rfl (v := 20) C dX13_goesBy_63 (by decide) ?_
  refine y_iadd (pc' := 66) rfl C dX13_goesBy_65 ?_
  refine y_cSi (pc' := 69) (k' := 0) (n' := 0) rfl C (c_X13_between _ G a Y_43 (lagR (Z34 (4, 0, 0)) (mWant (Y (4, 0, 0))) lg) ((Y_43 (4, 0, 0) 9) - 20) ((Y_43 (4, 0, 0) 9) + 20)) my_X13_between aw_1151 rfl rfl (Nat.le_of_ble_eq_true rfl) rfl dX13_goesBy_66 rfl rfl (fun r_66 Y_66 hp_66 => ?_)
  obtain ⟨rfl, hY_66⟩ := hp_66
  have hY_66 := hY_66.symm; subst hY_66
  refine y_iastN (pc' := 70) rfl C 9 rfl (v4 rfl) rfl rfl (by decide) rfl dX13_goesBy_69 (fun Z69 hZ69 => ?_)
  have e4 : Z69 = setA Y (4, 0, 0) (mS4 (Y (4, 0, 0)) lg) := by rw [hZ69, e3, hZ34, hZ26]; simp only [up_setA, setA_setA, setA_s]; rfl
  refine y_aload_n (pc' := 71) rfl C dX13_goesBy_70 rfl ?_
  refine y_get (pc' := 74) rfl (v := .ref (a (4, 0, 0))) C fl_X13_7 (v4 rfl) rfl rfl dX13_goesBy_71 rfl ?_
  refine y_bipush (pc' := 76) rfl (v := 9) C dX13_goesBy_74 (by decide) ?_
  refine y_ialdN (pc' := 77) rfl C 9 rfl (v4 rfl) rfl rfl (by decide) rfl dX13_goesBy_76 ?_
  refine y_aload_n (pc' := 78) rfl C dX13_goesBy_77 rfl ?_
  refine y_get (pc' := 81) rfl (v := .ref (a (4, 0, 0))) C fl_X13_7 (v4 rfl) rfl rfl dX13_goesBy_78 rfl ?_
  refine y_bipush (pc' := 83) rfl (v := 10) C dX13_goesBy_81 (by decide) ?_
  refine y_ialdN (pc' := 84) rfl C 10 rfl (v4 rfl) rfl rfl (by decide) rfl dX13_goesBy_83 ?_
  have K84 : ∀ (w_84 : Int32) (_ : w_84 = (if (Z69 (4, 0, 0) 10) ≤ (Z69 (4, 0, 0) 9) then (Z69 (4, 0, 0) 10) else (Z69 (4, 0, 0) 9))), WY X G A a Z69 0 0 (MEnd X G A ({ frames := 3, cells := 0, slots := 0, locals := 62 } : Room) (PY G a (PV (fun Y' => Y' = setA Y (4, 0, 0) (minute (Y (4, 0, 0))))))) 104 [some (.ref (a (4, 0, 8))), some (.int ((mErr (Y (4, 0, 0))))), some (.int ((Y (4, 0, 0) 0))), some (.int ((mWant (Y (4, 0, 0))))), none, none, none] [.int w_84] := by
    intro w_84 ew_84
    have ebu : w_84 = nI bu := by rw [ew_84, e4, setA_s]; exact hbu
    refine y_istore (pc' := 106) rfl C dX13_goesBy_104 (by decide) ?_
    refine y_aload_n (pc' := 107) rfl C dX13_goesBy_106 rfl ?_
    refine y_get (pc' := 110) rfl (v := .ref (a (4, 0, 0))) C fl_X13_7 (v4 rfl) rfl rfl dX13_goesBy_107 rfl ?_
    refine y_bipush (pc' := 112) rfl (v := 10) C dX13_goesBy_110 (by decide) ?_
    refine y_dup2 (pc' := 113) rfl C dX13_goesBy_112 rfl rfl ?_
    refine y_ialdN (pc' := 114) rfl C 10 rfl (v4 rfl) rfl rfl (by decide) rfl dX13_goesBy_113 ?_
    refine y_iload (pc' := 116) rfl C dX13_goesBy_114 rfl ?_
    refine y_isub (pc' := 117) rfl C dX13_goesBy_116 ?_
    refine y_iastN (pc' := 118) rfl C 10 rfl (v4 rfl) rfl rfl (by decide) rfl dX13_goesBy_117 (fun Z117 hZ117 => ?_)
    refine y_aload_n (pc' := 119) rfl C dX13_goesBy_118 rfl ?_
    refine y_get (pc' := 122) rfl (v := .ref (a (4, 0, 0))) C fl_X13_7 (v4 rfl) rfl rfl dX13_goesBy_119 rfl ?_
    refine y_bipush (pc' := 124) rfl (v := 16) C dX13_goesBy_122 (by decide) ?_
    refine y_dup2 (pc' := 125) rfl C dX13_goesBy_124 rfl rfl ?_
    refine y_ialdN (pc' := 126) rfl C 16 rfl (v4 rfl) rfl rfl (by decide) rfl dX13_goesBy_125 ?_
    refine y_iload (pc' := 128) rfl C dX13_goesBy_126 rfl ?_
    refine y_iadd (pc' := 129) rfl C dX13_goesBy_128 ?_
    refine y_iastN (pc' := 130) rfl C 16 rfl (v4 rfl) rfl rfl (by decide) rfl dX13_goesBy_129 (fun Z129 hZ129 => ?_)
    refine y_aload_n (pc' := 131) rfl C dX13_goesBy_130 rfl ?_
    refine y_get (pc' := 134) rfl (v := .ref (a (4, 0, 0))) C fl_X13_7 (v4 rfl) rfl rfl dX13_goesBy_131 rfl ?_
    refine y_bipush (pc' := 136) rfl (v := 22) C dX13_goesBy_134 (by decide) ?_
    refine y_iload (pc' := 138) rfl C dX13_goesBy_136 rfl ?_
    refine y_iadd (pc' := 139) rfl C dX13_goesBy_138 ?_
    refine y_dup2 (pc' := 140) rfl C dX13_goesBy_139 rfl rfl ?_
    refine y_ialdN (pc' := 141) rfl C (22 + bu) (nadd (rfl : (22 : Int32) = nI 22) ebu) (v4 rfl) rfl rfl (show (22 + bu) < 227 by omega) rfl dX13_goesBy_140 ?_
    refine y_iconst (pc' := 142) rfl (v := 1) C dX13_goesBy_141 (by decide) ?_
    refine y_iadd (pc' := 143) rfl C dX13_goesBy_142 ?_
    refine y_iastN (pc' := 144) rfl C (22 + bu) (nadd (rfl : (22 : Int32) = nI 22) ebu) (v4 rfl) rfl rfl (show (22 + bu) < 227 by omega) rfl dX13_goesBy_143 (fun Z143 hZ143 => ?_)
    refine y_aload_n (pc' := 145) rfl C dX13_goesBy_144 rfl ?_
    refine y_get (pc' := 148) rfl (v := .ref (a (4, 0, 0))) C fl_X13_7 (v4 rfl) rfl rfl dX13_goesBy_145 rfl ?_
    refine y_iconst (pc' := 149) rfl (v := 0) C dX13_goesBy_148 (by decide) ?_
    refine y_iload_n (pc' := 150) rfl C dX13_goesBy_149 rfl ?_
    refine y_iload (pc' := 152) rfl C dX13_goesBy_150 rfl ?_
    refine y_iconst (pc' := 153) rfl (v := 2) C dX13_goesBy_152 (by decide) ?_
    refine y_idiv (pc' := 154) rfl C dX13_goesBy_153 (by decide) ?_
    refine y_iadd (pc' := 155) rfl C dX13_goesBy_154 ?_
    refine y_iload_n (pc' := 156) rfl C dX13_goesBy_155 rfl ?_
    refine y_bipush (pc' := 158) rfl (v := 20) C dX13_goesBy_156 (by decide) ?_
    refine y_isub (pc' := 159) rfl C dX13_goesBy_158 ?_
    refine y_bipush (pc' := 161) rfl (v := 25) C dX13_goesBy_159 (by decide) ?_
    refine y_idiv (pc' := 162) rfl C dX13_goesBy_161 (by decide) ?_
    refine y_isub (pc' := 163) rfl C dX13_goesBy_162 ?_
    refine y_iastN (pc' := 164) rfl C 0 rfl (v4 rfl) rfl rfl (by decide) rfl dX13_goesBy_163 (fun Z163 hZ163 => ?_)
    have e8 : Z163 = setA Y (4, 0, 0) (upd (mS7 (mS6 (mS4 (Y (4, 0, 0)) lg) (nI bu)) bu) 0 (Y (4, 0, 0) 0 + nI bu / 2 - (Y (4, 0, 0) 0 - 20) / 25)) := by rw [hZ163, hZ143, hZ129, hZ117, e4, ebu]; simp only [up_setA, setA_setA, setA_s]; rfl
    refine y_aload_n (pc' := 165) rfl C dX13_goesBy_164 rfl ?_
    refine y_get (pc' := 168) rfl (v := .ref (a (4, 0, 0))) C fl_X13_7 (v4 rfl) rfl rfl dX13_goesBy_165 rfl ?_
    refine y_bipush (pc' := 170) rfl (v := 12) C dX13_goesBy_168 (by decide) ?_
    refine y_dup2 (pc' := 171) rfl C dX13_goesBy_170 rfl rfl ?_
    refine y_ialdN (pc' := 172) rfl C 12 rfl (v4 rfl) rfl rfl (by decide) rfl dX13_goesBy_171 ?_
    refine y_iconst (pc' := 173) rfl (v := 1) C dX13_goesBy_172 (by decide) ?_
    refine y_iadd (pc' := 174) rfl C dX13_goesBy_173 ?_
    refine y_iastN (pc' := 175) rfl C 12 rfl (v4 rfl) rfl rfl (by decide) rfl dX13_goesBy_174 (fun Z174 hZ174 => ?_)
    refine y_aload_n (pc' := 176) rfl C dX13_goesBy_175 rfl ?_
    refine y_get (pc' := 179) rfl (v := .ref (a (4, 0, 0))) C fl_X13_7 (v4 rfl) rfl rfl dX13_goesBy_176 rfl ?_
    refine y_bipush (pc' := 181) rfl (v := 13) C dX13_goesBy_179 (by decide) ?_
    refine y_aload_n (pc' := 182) rfl C dX13_goesBy_181 rfl ?_
    refine y_cVi (pc' := 185) (k' := 0) (n' := 0) rfl C (c_X13_error _ G a Z174 ) my_X13_error aw_1186 (v4 rfl) rfl rfl rfl rfl rfl (Nat.le_of_ble_eq_true rfl) rfl dX13_goesBy_182 rfl rfl (fun r_182 Y_182 hp_182 => ?_)
    obtain ⟨rfl, hY_182⟩ := hp_182
    have hY_182 := hY_182.symm; subst hY_182
    refine y_ineg (pc' := 186) rfl C dX13_goesBy_185 ?_
    refine y_aload_n (pc' := 187) rfl C dX13_goesBy_186 rfl ?_
    refine y_get (pc' := 190) rfl (v := .ref (a (4, 0, 0))) C fl_X13_7 (v4 rfl) rfl rfl dX13_goesBy_187 rfl ?_
    refine y_bipush (pc' := 192) rfl (v := 13) C dX13_goesBy_190 (by decide) ?_
    refine y_ialdN (pc' := 193) rfl C 13 rfl (v4 rfl) rfl rfl (by decide) rfl dX13_goesBy_192 ?_
    have K193 : ∀ (w_193 : Int32) (_ : w_193 = (if (-(mErr (Z174 (4, 0, 0)))) ≤ (Z174 (4, 0, 0) 13) then (Z174 (4, 0, 0) 13) else (-(mErr (Z174 (4, 0, 0)))))), WY X G A a Z174 0 0 (MEnd X G A ({ frames := 3, cells := 0, slots := 0, locals := 62 } : Room) (PY G a (PV (fun Y' => Y' = setA Y (4, 0, 0) (minute (Y (4, 0, 0))))))) 211 [some (.ref (a (4, 0, 8))), some (.int ((mErr (Y (4, 0, 0))))), some (.int ((Y (4, 0, 0) 0))), some (.int ((mWant (Y (4, 0, 0))))), some (.int w_84), none, none] [.int w_193, .int 13, .ref (a (4, 0, 0))] := by
      intro w_193 ew_193
      refine y_iastN (pc' := 212) rfl C 13 rfl (v4 rfl) rfl rfl (by decide) rfl dX13_goesBy_211 (fun Z211 hZ211 => ?_)
      refine y_aload_n (pc' := 213) rfl C dX13_goesBy_212 rfl ?_
      refine y_iload_n (pc' := 214) rfl C dX13_goesBy_213 rfl ?_
      refine y_iload (pc' := 216) rfl C dX13_goesBy_214 rfl ?_
      refine y_cVv (pc' := 219) (k' := 0) (n' := 0) rfl C (c_X13_notesMinute _ G a Z211 (mErr (Y (4, 0, 0))) w_84) my_X13_notesMinute aw_1198 (v4 rfl) rfl rfl rfl rfl rfl (Nat.le_of_ble_eq_true rfl) rfl dX13_goesBy_216 rfl rfl (fun Y_216 hY_216 => ?_)
      have e11 : Y_216 = setA Y (4, 0, 0) (mS11 (Y (4, 0, 0)) lg) := by rw [hY_216, hZ211, ew_193, hZ174, e8, ebu, mS11, hbu, nn_nI (by omega)]; simp only [up_setA, setA_setA, setA_s]; rfl
      refine y_aload_n (pc' := 220) rfl C dX13_goesBy_219 rfl ?_
      refine y_get (pc' := 223) rfl (v := .ref (a (4, 0, 0))) C fl_X13_7 (v4 rfl) rfl rfl dX13_goesBy_220 rfl ?_
      refine y_iconst (pc' := 224) rfl (v := 0) C dX13_goesBy_223 (by decide) ?_
      refine y_ialdN (pc' := 225) rfl C 0 rfl (v4 rfl) rfl rfl (by decide) rfl dX13_goesBy_224 ?_
      refine y_iload_n (pc' := 226) rfl C dX13_goesBy_225 rfl ?_
      have K226 : ∀ (w_226 : Int32) (_ : w_226 = (if (Y (4, 0, 0) 0) ≤ (Y_216 (4, 0, 0) 0) then ((Y_216 (4, 0, 0) 0) - (Y (4, 0, 0) 0)) else ((Y (4, 0, 0) 0) - (Y_216 (4, 0, 0) 0)))), WY X G A a Y_216 0 0 (MEnd X G A ({ frames := 3, cells := 0, slots := 0, locals := 62 } : Room) (PY G a (PV (fun Y' => Y' = setA Y (4, 0, 0) (minute (Y (4, 0, 0))))))) 248 [some (.ref (a (4, 0, 8))), some (.int ((mErr (Y (4, 0, 0))))), some (.int ((Y (4, 0, 0) 0))), some (.int ((mWant (Y (4, 0, 0))))), some (.int w_84), none, none] [.int w_226] := by
        intro w_226 ew_226
        refine y_istore (pc' := 250) rfl C dX13_goesBy_248 (by decide) ?_
        refine y_iconst (pc' := 251) rfl (v := 0) C dX13_goesBy_250 (by decide) ?_
        refine y_istore (pc' := 253) rfl C dX13_goesBy_251 (by decide) ?_
        suffices K253 : ∀ (fu_ i253 : Nat) (Yl253 : YT), i253 ≤ np → np < fu_ + i253 → Yl253 = setA Y (4, 0, 0) (htN w_226 i253 (mS11 (Y (4, 0, 0)) lg)) → WY X G A a Yl253 0 0 _ 253 [some (.ref (a (4, 0, 8))), some (.int ((mErr (Y (4, 0, 0))))), some (.int ((Y (4, 0, 0) 0))), some (.int ((mWant (Y (4, 0, 0))))), some (.int w_84), some (.int w_226), some (.int ((nI i253)))] [] from K253 (np + 1) 0 _ (by omega) (by omega) (by rw [htN]; exact e11)
        intro fu_
        induction fu_ with
        | zero => intro i253 Yl253 h1 h2; omega
        | succ fu_ ih253 =>
          intro i253 Yl253 hi253 hm253 hYl253
          have e15 : Yl253 (4, 0, 0) 15 = nI np := by rw [hYl253, setA_s, htN_lo (by decide), mS11_lo (by omega) hbu hbl (Or.inl (by decide))]; exact h15
          refine y_iload (pc' := 255) rfl C dX13_goesBy_253 rfl ?_
          refine y_aload_n (pc' := 256) rfl C dX13_goesBy_255 rfl ?_
          refine y_get (pc' := 259) rfl (v := .ref (a (4, 0, 0))) C fl_X13_7 (v4 rfl) rfl rfl dX13_goesBy_256 rfl ?_
          refine y_bipush (pc' := 261) rfl (v := 15) C dX13_goesBy_259 (by decide) ?_
          refine y_ialdN (pc' := 262) rfl C 15 rfl (v4 rfl) rfl rfl (by decide) rfl dX13_goesBy_261 ?_
          refine y_ic_ge (pc' := 265) rfl (tgt := 294) C dX13_goesBy_262 (by decide) (fun c_262 => ?_) (fun c_262 => ?_)
          · rw [e15] at c_262
            have hb : np ≤ i253 := nI_le_iff (by omega) (by omega) c_262
            refine y_return C rfl dX13_goesBy_294 rfl rfl ?_
            rw [hYl253, show i253 = np by omega, minute, hnl, hnpn]
            rw [e11, setA_s] at ew_226
            rw [ew_226]
            rfl
          · rw [e15] at c_262
            have hb : i253 < np := nI_nle_iff (by omega) (by omega) c_262
            refine y_aload_n (pc' := 266) rfl C dX13_goesBy_265 rfl ?_
            refine y_get (pc' := 269) rfl (v := .ref (a (4, 0, 0))) C fl_X13_7 (v4 rfl) rfl rfl dX13_goesBy_266 rfl ?_
            refine y_sipush (pc' := 272) rfl (v := 195) C dX13_goesBy_269 (by decide) ?_
            refine y_iload (pc' := 274) rfl C dX13_goesBy_272 rfl ?_
            refine y_iadd (pc' := 275) rfl C dX13_goesBy_274 ?_
            refine y_ialdN (pc' := 276) rfl C (195 + i253) (nadd (rfl : (195 : Int32) = nI 195) rfl) (v4 rfl) rfl rfl (show (195 + i253) < 227 by omega) rfl dX13_goesBy_275 ?_
            refine y_iconst (pc' := 277) rfl (v := 1) C dX13_goesBy_276 (by decide) ?_
            refine y_ic_ne (pc' := 280) rfl (tgt := 288) C dX13_goesBy_277 (by decide) (fun c_277 => ?_) (fun c_277 => ?_)
            · refine y_iinc (pc' := 291) rfl (v := (nI (i253 + 1))) C dX13_goesBy_288 rfl (nI_1 i253) (by decide) ?_
              refine y_goto (tgt := 253) C dX13_goesBy_291 (by decide) ?_
              exact ih253 (i253 + 1) _ (by omega) (by omega) (by rw [hYl253, setA_s] at c_277; rw [hYl253, htN, if_neg c_277])
            · refine y_aload_n (pc' := 281) rfl C dX13_goesBy_280 rfl ?_
              refine y_iload (pc' := 283) rfl C dX13_goesBy_281 rfl ?_
              refine y_iload (pc' := 285) rfl C dX13_goesBy_283 rfl ?_
              refine y_cVv (pc' := 288) (k' := 0) (n' := 0) rfl C (c_X13_heats _ G a Yl253 i253 w_226 (by omega)) my_X13_heats aw_1202 (v4 rfl) rfl rfl rfl rfl rfl (Nat.le_of_ble_eq_true rfl) rfl dX13_goesBy_285 rfl rfl (fun Y_285 hY_285 => ?_)
              refine y_iinc (pc' := 291) rfl (v := (nI (i253 + 1))) C dX13_goesBy_288 rfl (nI_1 i253) (by decide) ?_
              refine y_goto (tgt := 253) C dX13_goesBy_291 (by decide) ?_
              exact ih253 (i253 + 1) _ (by omega) (by omega) (by rw [hYl253, setA_s] at c_277; rw [hY_285, hYl253, setA_setA, setA_s, htN, if_pos c_277])
      refine y_ic_ge (pc' := 229) rfl (tgt := 240) C dX13_goesBy_226 (by decide) (fun c_226 => ?_) (fun c_226 => ?_)
      · refine y_aload_n (pc' := 241) rfl C dX13_goesBy_240 rfl ?_
        refine y_get (pc' := 244) rfl (v := .ref (a (4, 0, 0))) C fl_X13_7 (v4 rfl) rfl rfl dX13_goesBy_241 rfl ?_
        refine y_iconst (pc' := 245) rfl (v := 0) C dX13_goesBy_244 (by decide) ?_
        refine y_ialdN (pc' := 246) rfl C 0 rfl (v4 rfl) rfl rfl (by decide) rfl dX13_goesBy_245 ?_
        refine y_iload_n (pc' := 247) rfl C dX13_goesBy_246 rfl ?_
        refine y_isub (pc' := 248) rfl C dX13_goesBy_247 ?_
        exact K226 _ (by rw [if_pos c_226])
      · refine y_iload_n (pc' := 230) rfl C dX13_goesBy_229 rfl ?_
        refine y_aload_n (pc' := 231) rfl C dX13_goesBy_230 rfl ?_
        refine y_get (pc' := 234) rfl (v := .ref (a (4, 0, 0))) C fl_X13_7 (v4 rfl) rfl rfl dX13_goesBy_231 rfl ?_
        refine y_iconst (pc' := 235) rfl (v := 0) C dX13_goesBy_234 (by decide) ?_
        refine y_ialdN (pc' := 236) rfl C 0 rfl (v4 rfl) rfl rfl (by decide) rfl dX13_goesBy_235 ?_
        refine y_isub (pc' := 237) rfl C dX13_goesBy_236 ?_
        refine y_goto (tgt := 248) C dX13_goesBy_237 (by decide) ?_
        exact K226 _ (by rw [if_neg c_226])
    refine y_ic_le (pc' := 196) rfl (tgt := 204) C dX13_goesBy_193 (by decide) (fun c_193 => ?_) (fun c_193 => ?_)
    · refine y_aload_n (pc' := 205) rfl C dX13_goesBy_204 rfl ?_
      refine y_get (pc' := 208) rfl (v := .ref (a (4, 0, 0))) C fl_X13_7 (v4 rfl) rfl rfl dX13_goesBy_205 rfl ?_
      refine y_bipush (pc' := 210) rfl (v := 13) C dX13_goesBy_208 (by decide) ?_
      refine y_ialdN (pc' := 211) rfl C 13 rfl (v4 rfl) rfl rfl (by decide) rfl dX13_goesBy_210 ?_
      exact K193 _ (by rw [if_pos c_193])
    · refine y_aload_n (pc' := 197) rfl C dX13_goesBy_196 rfl ?_
      refine y_cVi (pc' := 200) (k' := 0) (n' := 0) rfl C (c_X13_error _ G a Z174 ) my_X13_error aw_1186 (v4 rfl) rfl rfl rfl rfl rfl (Nat.le_of_ble_eq_true rfl) rfl dX13_goesBy_197 rfl rfl (fun r_197 Y_197 hp_197 => ?_)
      obtain ⟨rfl, hY_197⟩ := hp_197
      have hY_197 := hY_197.symm; subst hY_197
      refine y_ineg (pc' := 201) rfl C dX13_goesBy_200 ?_
      refine y_goto (tgt := 211) C dX13_goesBy_201 (by decide) ?_
      exact K193 _ (by rw [if_neg c_193])
  refine y_ic_ge (pc' := 87) rfl (tgt := 97) C dX13_goesBy_84 (by decide) (fun c_84 => ?_) (fun c_84 => ?_)
  · refine y_aload_n (pc' := 98) rfl C dX13_goesBy_97 rfl ?_
    refine y_get (pc' := 101) rfl (v := .ref (a (4, 0, 0))) C fl_X13_7 (v4 rfl) rfl rfl dX13_goesBy_98 rfl ?_
    refine y_bipush (pc' := 103) rfl (v := 10) C dX13_goesBy_101 (by decide) ?_
    refine y_ialdN (pc' := 104) rfl C 10 rfl (v4 rfl) rfl rfl (by decide) rfl dX13_goesBy_103 ?_
    exact K84 _ (by rw [if_pos c_84])
  · refine y_aload_n (pc' := 88) rfl C dX13_goesBy_87 rfl ?_
    refine y_get (pc' := 91) rfl (v := .ref (a (4, 0, 0))) C fl_X13_7 (v4 rfl) rfl rfl dX13_goesBy_88 rfl ?_
    refine y_bipush (pc' := 93) rfl (v := 9) C dX13_goesBy_91 (by decide) ?_
    refine y_ialdN (pc' := 94) rfl C 9 rfl (v4 rfl) rfl rfl (by decide) rfl dX13_goesBy_93 ?_
    refine y_goto (tgt := 104) C dX13_goesBy_94 (by decide) ?_
    exact K84 _ (by rw [if_neg c_84])
