theorem my_X13_done : MV yX13_done cX13_done 2 (some .int) 1 := ⟨aw_1126, aw_71, ⟨by decide, by decide, by decide +kernel⟩, aw_1125, aw_18⟩
theorem my_X13_goesBy : MV yX13_goesBy cX13_goesBy 7 none 0 := ⟨aw_1185, aw_71, ⟨by decide, by decide, by decide +kernel⟩, aw_1184, aw_27⟩
theorem my_X13_in : MS yX13_in cX13_in 3 (some .boolean) 3 := ⟨aw_1118, aw_71, ⟨by decide, by decide, by decide +kernel⟩, aw_1117⟩
theorem my_X13_refused : MV yX13_refused cX13_refused 3 (some .int) 2 := ⟨aw_1122, aw_71, ⟨by decide, by decide, by decide +kernel⟩, aw_1121, aw_17⟩
-- KilnKeeperModel.isPot 
set_option maxHeartbeats 1000000 in
set_option maxRecDepth 20000 in
theorem c_X13_isPot (l : Launch) (G : GT) (a : Id3 → Nat) (Y : YT) (p : Int32)   : CtY l G a yX13_isPot cX13_isPot 2 (some .boolean) ({ frames := 1, cells := 0, slots := 0, locals := 22 } : Room) [.ref (a (4, 0, 8)), .int p] Y (PI (fun r Y' => r = bi (0 ≤ p ∧ p ≤ (Y (4, 0, 0) 15) - 1) ∧ Y' = Y)) := by
  refine CtY.of (by decide) rfl (Nat.le_of_ble_eq_true rfl) ?_
  intro X A C hl
  subst hl
  refine y_iload_n (pc' := 1) rfl C dX13_isPot_0 rfl ?_
  refine y_iconst (pc' := 2) rfl (v := 0) C dX13_isPot_1 (by decide) ?_
  refine y_aload_n (pc' := 3) rfl C dX13_isPot_2 rfl ?_
  refine y_get (pc' := 6) rfl (v := .ref (a (4, 0, 0))) C fl_X13_7 (v4 rfl) rfl rfl dX13_isPot_3 rfl ?_
  refine y_bipush (pc' := 8) rfl (v := 15) C dX13_isPot_6 (by decide) ?_
  refine y_ialdN (pc' := 9) rfl C 15 rfl (v4 rfl) rfl rfl (by decide) rfl dX13_isPot_8 ?_
  refine y_iconst (pc' := 10) rfl (v := 1) C dX13_isPot_9 (by decide) ?_
  refine y_isub (pc' := 11) rfl C dX13_isPot_10 ?_
  refine y_cSi (pc' := 14) (k' := 0) (n' := 0) rfl C (c_X13_in _ G a Y p 0 ((Y (4, 0, 0) 15) - 1)) my_X13_in aw_1116 rfl rfl (Nat.le_of_ble_eq_true rfl) rfl dX13_isPot_11 rfl rfl (fun r_11 Y_11 hp_11 => ?_)
  obtain ⟨rfl, hY_11⟩ := hp_11
  have hY_11 := hY_11.symm; subst hY_11
  refine y_ireturn C rfl (nb_narrow (bi_isb _)) dX13_isPot_14 rfl rfl ?_
  exact ⟨rfl, rfl⟩
-- KilnKeeperModel.aims 
set_option maxHeartbeats 1000000 in
set_option maxRecDepth 20000 in
theorem c_X13_aims (l : Launch) (G : GT) (a : Id3 → Nat) (Y : YT) (d : Int32)   : CtY l G a yX13_aims cX13_aims 3 (some .int) ({ frames := 1, cells := 0, slots := 0, locals := 22 } : Room) [.ref (a (4, 0, 8)), .int d] Y (PI (fun r Y' => r = (aimA (Y (4, 0, 0)) d).1 ∧ Y' = setAct Y (aimA (Y (4, 0, 0)) d))) := by
  refine CtY.of (by decide) rfl (Nat.le_of_ble_eq_true rfl) ?_
  intro X A C hl
  subst hl
  refine y_iload_n (pc' := 1) rfl C dX13_aims_0 rfl ?_
  refine y_bipush (pc' := 3) rfl (v := 20) C dX13_aims_1 (by decide) ?_
  refine y_sipush (pc' := 6) rfl (v := 1200) C dX13_aims_3 (by decide) ?_
  refine y_cSi (pc' := 9) (k' := 0) (n' := 0) rfl C (c_X13_in _ G a Y d 20 1200) my_X13_in aw_1116 rfl rfl (Nat.le_of_ble_eq_true rfl) rfl dX13_aims_6 rfl rfl (fun r_6 Y_6 hp_6 => ?_)
  obtain ⟨rfl, hY_6⟩ := hp_6
  have hY_6 := hY_6.symm; subst hY_6
  refine y_if_ne (pc' := 12) rfl (tgt := 16) C dX13_aims_9 (by decide) (fun c_9 => ?_) (fun c_9 => ?_)
  · have h_9 := bi_n0 c_9
    refine y_aload_n (pc' := 17) rfl C dX13_aims_16 rfl ?_
    refine y_get (pc' := 20) rfl (v := .ref (a (4, 0, 0))) C fl_X13_7 (v4 rfl) rfl rfl dX13_aims_17 rfl ?_
    refine y_iconst (pc' := 21) rfl (v := 1) C dX13_aims_20 (by decide) ?_
    refine y_ialdN (pc' := 22) rfl C 1 rfl (v4 rfl) rfl rfl (by decide) rfl dX13_aims_21 ?_
    refine y_istore_n (pc' := 23) rfl C dX13_aims_22 (by decide) ?_
    refine y_iload_n (pc' := 24) rfl C dX13_aims_23 rfl ?_
    refine y_iload_n (pc' := 25) rfl C dX13_aims_24 rfl ?_
    refine y_ic_ne (pc' := 28) rfl (tgt := 35) C dX13_aims_25 (by decide) (fun c_25 => ?_) (fun c_25 => ?_)
    · refine y_aload_n (pc' := 36) rfl C dX13_aims_35 rfl ?_
      refine y_get (pc' := 39) rfl (v := .ref (a (4, 0, 0))) C fl_X13_7 (v4 rfl) rfl rfl dX13_aims_36 rfl ?_
      refine y_iconst (pc' := 40) rfl (v := 1) C dX13_aims_39 (by decide) ?_
      refine y_iload_n (pc' := 41) rfl C dX13_aims_40 rfl ?_
      refine y_iastN (pc' := 42) rfl C 1 rfl (v4 rfl) rfl rfl (by decide) rfl dX13_aims_41 (fun Z41 hZ41 => ?_)
      refine y_aload_n (pc' := 43) rfl C dX13_aims_42 rfl ?_
      refine y_get (pc' := 46) rfl (v := .ref (a (4, 0, 0))) C fl_X13_7 (v4 rfl) rfl rfl dX13_aims_43 rfl ?_
      refine y_bipush (pc' := 48) rfl (v := 13) C dX13_aims_46 (by decide) ?_
      refine y_iconst (pc' := 49) rfl (v := 0) C dX13_aims_48 (by decide) ?_
      refine y_iastN (pc' := 50) rfl C 13 rfl (v4 rfl) rfl rfl (by decide) rfl dX13_aims_49 (fun Z49 hZ49 => ?_)
      refine y_aload_n (pc' := 51) rfl C dX13_aims_50 rfl ?_
      refine y_iload_n (pc' := 52) rfl C dX13_aims_51 rfl ?_
      refine y_cVi (pc' := 55) (k' := 0) (n' := 0) rfl C (c_X13_done _ G a Z49 (Y (4, 0, 0) 1)) my_X13_done aw_1123 (v4 rfl) rfl rfl rfl rfl rfl (Nat.le_of_ble_eq_true rfl) rfl dX13_aims_52 rfl rfl (fun r_52 Y_52 hp_52 => ?_)
      obtain ⟨rfl, hY_52⟩ := hp_52
      refine y_ireturn C rfl rfl dX13_aims_55 rfl rfl ?_
      refine ⟨?_, ?_⟩
      · rw [aimA, if_pos h_9, if_neg c_25]; try rfl
      · rw [aimA, if_pos h_9, if_neg c_25, setAct_d, hY_52, hZ49, hZ41]; simp only [up_setA, setA_setA, setA_s]
    · refine y_aload_n (pc' := 29) rfl C dX13_aims_28 rfl ?_
      refine y_iconst (pc' := 30) rfl (v := 5) C dX13_aims_29 (by decide) ?_
      refine y_iload_n (pc' := 31) rfl C dX13_aims_30 rfl ?_
      refine y_cVi (pc' := 34) (k' := 0) (n' := 0) rfl C (c_X13_refused _ G a Y 5 d) my_X13_refused aw_1119 (v4 rfl) rfl rfl rfl rfl rfl (Nat.le_of_ble_eq_true rfl) rfl dX13_aims_31 rfl rfl (fun r_31 Y_31 hp_31 => ?_)
      obtain ⟨rfl, hY_31⟩ := hp_31
      refine y_ireturn C rfl rfl dX13_aims_34 rfl rfl ?_
      refine ⟨?_, ?_⟩
      · rw [aimA, if_pos h_9, if_pos c_25]; try rfl
      · rw [aimA, if_pos h_9, if_pos c_25, setAct_r (by decide) (by decide)]; exact hY_31
  · have h_9 := bi_0.mp c_9
    refine y_sipush (pc' := 15) rfl (v := (-10002)) C dX13_aims_12 (by decide) ?_
    refine y_ireturn C rfl rfl dX13_aims_15 rfl rfl ?_
    refine ⟨?_, ?_⟩
    · rw [aimA, if_neg h_9]; try rfl
    · rw [aimA, if_neg h_9, sa_bad]
-- KilnKeeperModel.gainsOf 
set_option maxHeartbeats 1000000 in
set_option maxRecDepth 20000 in
theorem c_X13_gainsOf (l : Launch) (G : GT) (a : Id3 → Nat) (Y : YT) (e u c : Int32)   : CtY l G a yX13_gainsOf cX13_gainsOf 5 (some .int) ({ frames := 1, cells := 0, slots := 0, locals := 22 } : Room) [.ref (a (4, 0, 8)), .int e, .int u, .int c] Y (PI (fun r Y' => r = (gainA (Y (4, 0, 0)) e u c).1 ∧ Y' = setAct Y (gainA (Y (4, 0, 0)) e u c))) := by
  refine CtY.of (by decide) rfl (Nat.le_of_ble_eq_true rfl) ?_
  intro X A C hl
  subst hl
  refine y_iload_n (pc' := 1) rfl C dX13_gainsOf_0 rfl ?_
  refine y_iconst (pc' := 2) rfl (v := 0) C dX13_gainsOf_1 (by decide) ?_
  refine y_bipush (pc' := 4) rfl (v := 50) C dX13_gainsOf_2 (by decide) ?_
  refine y_cSi (pc' := 7) (k' := 0) (n' := 0) rfl C (c_X13_in _ G a Y e 0 50) my_X13_in aw_1116 rfl rfl (Nat.le_of_ble_eq_true rfl) rfl dX13_gainsOf_4 rfl rfl (fun r_4 Y_4 hp_4 => ?_)
  obtain ⟨rfl, hY_4⟩ := hp_4
  have hY_4 := hY_4.symm; subst hY_4
  refine y_if_eq (pc' := 10) rfl (tgt := 30) C dX13_gainsOf_7 (by decide) (fun c_7 => ?_) (fun c_7 => ?_)
  · have h_7 := bi_0.mp c_7
    refine y_sipush (pc' := 33) rfl (v := (-10002)) C dX13_gainsOf_30 (by decide) ?_
    refine y_ireturn C rfl rfl dX13_gainsOf_33 rfl rfl ?_
    refine ⟨?_, ?_⟩
    · rw [gainA, if_neg h_7]; try rfl
    · rw [gainA, if_neg h_7, sa_bad]
  · have h_7 := bi_n0 c_7
    refine y_iload_n (pc' := 11) rfl C dX13_gainsOf_10 rfl ?_
    refine y_iconst (pc' := 12) rfl (v := 0) C dX13_gainsOf_11 (by decide) ?_
    refine y_bipush (pc' := 14) rfl (v := 50) C dX13_gainsOf_12 (by decide) ?_
    refine y_cSi (pc' := 17) (k' := 0) (n' := 0) rfl C (c_X13_in _ G a Y u 0 50) my_X13_in aw_1116 rfl rfl (Nat.le_of_ble_eq_true rfl) rfl dX13_gainsOf_14 rfl rfl (fun r_14 Y_14 hp_14 => ?_)
    obtain ⟨rfl, hY_14⟩ := hp_14
    have hY_14 := hY_14.symm; subst hY_14
    refine y_if_eq (pc' := 20) rfl (tgt := 30) C dX13_gainsOf_17 (by decide) (fun c_17 => ?_) (fun c_17 => ?_)
    · have h_17 := bi_0.mp c_17
      refine y_sipush (pc' := 33) rfl (v := (-10002)) C dX13_gainsOf_30 (by decide) ?_
      refine y_ireturn C rfl rfl dX13_gainsOf_33 rfl rfl ?_
      refine ⟨?_, ?_⟩
      · rw [gainA, if_pos h_7, if_neg h_17]; try rfl
      · rw [gainA, if_pos h_7, if_neg h_17, sa_bad]
    · have h_17 := bi_n0 c_17
      refine y_iload_n (pc' := 21) rfl C dX13_gainsOf_20 rfl ?_
      refine y_iconst (pc' := 22) rfl (v := 0) C dX13_gainsOf_21 (by decide) ?_
      refine y_bipush (pc' := 24) rfl (v := 50) C dX13_gainsOf_22 (by decide) ?_
      refine y_cSi (pc' := 27) (k' := 0) (n' := 0) rfl C (c_X13_in _ G a Y c 0 50) my_X13_in aw_1116 rfl rfl (Nat.le_of_ble_eq_true rfl) rfl dX13_gainsOf_24 rfl rfl (fun r_24 Y_24 hp_24 => ?_)
      obtain ⟨rfl, hY_24⟩ := hp_24
      have hY_24 := hY_24.symm; subst hY_24
      refine y_if_ne (pc' := 30) rfl (tgt := 34) C dX13_gainsOf_27 (by decide) (fun c_27 => ?_) (fun c_27 => ?_)
      · have h_27 := bi_n0 c_27
        refine y_sipush (pc' := 37) rfl (v := 10000) C dX13_gainsOf_34 (by decide) ?_
        refine y_aload_n (pc' := 38) rfl C dX13_gainsOf_37 rfl ?_
        refine y_get (pc' := 41) rfl (v := .ref (a (4, 0, 0))) C fl_X13_7 (v4 rfl) rfl rfl dX13_gainsOf_38 rfl ?_
        refine y_iconst (pc' := 42) rfl (v := 2) C dX13_gainsOf_41 (by decide) ?_
        refine y_ialdN (pc' := 43) rfl C 2 rfl (v4 rfl) rfl rfl (by decide) rfl dX13_gainsOf_42 ?_
        refine y_imul (pc' := 44) rfl C dX13_gainsOf_43 ?_
        refine y_bipush (pc' := 46) rfl (v := 100) C dX13_gainsOf_44 (by decide) ?_
        refine y_aload_n (pc' := 47) rfl C dX13_gainsOf_46 rfl ?_
        refine y_get (pc' := 50) rfl (v := .ref (a (4, 0, 0))) C fl_X13_7 (v4 rfl) rfl rfl dX13_gainsOf_47 rfl ?_
        refine y_iconst (pc' := 51) rfl (v := 3) C dX13_gainsOf_50 (by decide) ?_
        refine y_ialdN (pc' := 52) rfl C 3 rfl (v4 rfl) rfl rfl (by decide) rfl dX13_gainsOf_51 ?_
        refine y_imul (pc' := 53) rfl C dX13_gainsOf_52 ?_
        refine y_iadd (pc' := 54) rfl C dX13_gainsOf_53 ?_
        refine y_aload_n (pc' := 55) rfl C dX13_gainsOf_54 rfl ?_
        refine y_get (pc' := 58) rfl (v := .ref (a (4, 0, 0))) C fl_X13_7 (v4 rfl) rfl rfl dX13_gainsOf_55 rfl ?_
        refine y_iconst (pc' := 59) rfl (v := 4) C dX13_gainsOf_58 (by decide) ?_
        refine y_ialdN (pc' := 60) rfl C 4 rfl (v4 rfl) rfl rfl (by decide) rfl dX13_gainsOf_59 ?_
        refine y_iadd (pc' := 61) rfl C dX13_gainsOf_60 ?_
        refine y_istore (pc' := 63) rfl C dX13_gainsOf_61 (by decide) ?_
        refine y_aload_n (pc' := 64) rfl C dX13_gainsOf_63 rfl ?_
        refine y_get (pc' := 67) rfl (v := .ref (a (4, 0, 0))) C fl_X13_7 (v4 rfl) rfl rfl dX13_gainsOf_64 rfl ?_
        refine y_iconst (pc' := 68) rfl (v := 2) C dX13_gainsOf_67 (by decide) ?_
        refine y_iload_n (pc' := 69) rfl C dX13_gainsOf_68 rfl ?_
        refine y_iastN (pc' := 70) rfl C 2 rfl (v4 rfl) rfl rfl (by decide) rfl dX13_gainsOf_69 (fun Z69 hZ69 => ?_)
        refine y_aload_n (pc' := 71) rfl C dX13_gainsOf_70 rfl ?_
        refine y_get (pc' := 74) rfl (v := .ref (a (4, 0, 0))) C fl_X13_7 (v4 rfl) rfl rfl dX13_gainsOf_71 rfl ?_
        refine y_iconst (pc' := 75) rfl (v := 3) C dX13_gainsOf_74 (by decide) ?_
        refine y_iload_n (pc' := 76) rfl C dX13_gainsOf_75 rfl ?_
        refine y_iastN (pc' := 77) rfl C 3 rfl (v4 rfl) rfl rfl (by decide) rfl dX13_gainsOf_76 (fun Z76 hZ76 => ?_)
        refine y_aload_n (pc' := 78) rfl C dX13_gainsOf_77 rfl ?_
        refine y_get (pc' := 81) rfl (v := .ref (a (4, 0, 0))) C fl_X13_7 (v4 rfl) rfl rfl dX13_gainsOf_78 rfl ?_
        refine y_iconst (pc' := 82) rfl (v := 4) C dX13_gainsOf_81 (by decide) ?_
        refine y_iload_n (pc' := 83) rfl C dX13_gainsOf_82 rfl ?_
        refine y_iastN (pc' := 84) rfl C 4 rfl (v4 rfl) rfl rfl (by decide) rfl dX13_gainsOf_83 (fun Z83 hZ83 => ?_)
        refine y_aload_n (pc' := 85) rfl C dX13_gainsOf_84 rfl ?_
        refine y_iload (pc' := 87) rfl C dX13_gainsOf_85 rfl ?_
        refine y_cVi (pc' := 90) (k' := 0) (n' := 0) rfl C (c_X13_done _ G a Z83 (((10000 * (Y (4, 0, 0) 2)) + (100 * (Y (4, 0, 0) 3))) + (Y (4, 0, 0) 4))) my_X13_done aw_1123 (v4 rfl) rfl rfl rfl rfl rfl (Nat.le_of_ble_eq_true rfl) rfl dX13_gainsOf_87 rfl rfl (fun r_87 Y_87 hp_87 => ?_)
        obtain ⟨rfl, hY_87⟩ := hp_87
        refine y_ireturn C rfl rfl dX13_gainsOf_90 rfl rfl ?_
        refine ⟨?_, ?_⟩
        · rw [gainA, if_pos h_7, if_pos h_17, if_pos h_27]; try rfl
        · rw [gainA, if_pos h_7, if_pos h_17, if_pos h_27, setAct_d, hY_87, hZ83, hZ76, hZ69]; simp only [up_setA, setA_setA, setA_s]
      · have h_27 := bi_0.mp c_27
        refine y_sipush (pc' := 33) rfl (v := (-10002)) C dX13_gainsOf_30 (by decide) ?_
        refine y_ireturn C rfl rfl dX13_gainsOf_33 rfl rfl ?_
        refine ⟨?_, ?_⟩
        · rw [gainA, if_pos h_7, if_pos h_17, if_neg h_27]; try rfl
        · rw [gainA, if_pos h_7, if_pos h_17, if_neg h_27, sa_bad]
-- KilnKeeperModel.caps 
set_option maxHeartbeats 1000000 in
set_option maxRecDepth 20000 in
theorem c_X13_caps (l : Launch) (G : GT) (a : Id3 → Nat) (Y : YT) (c : Int32)   : CtY l G a yX13_caps cX13_caps 3 (some .int) ({ frames := 1, cells := 0, slots := 0, locals := 22 } : Room) [.ref (a (4, 0, 8)), .int c] Y (PI (fun r Y' => r = (capA (Y (4, 0, 0)) c).1 ∧ Y' = setAct Y (capA (Y (4, 0, 0)) c))) := by
  refine CtY.of (by decide) rfl (Nat.le_of_ble_eq_true rfl) ?_
  intro X A C hl
  subst hl
  refine y_iload_n (pc' := 1) rfl C dX13_caps_0 rfl ?_
  refine y_iconst (pc' := 2) rfl (v := 0) C dX13_caps_1 (by decide) ?_
  refine y_sipush (pc' := 5) rfl (v := 9000) C dX13_caps_2 (by decide) ?_
  refine y_cSi (pc' := 8) (k' := 0) (n' := 0) rfl C (c_X13_in _ G a Y c 0 9000) my_X13_in aw_1116 rfl rfl (Nat.le_of_ble_eq_true rfl) rfl dX13_caps_5 rfl rfl (fun r_5 Y_5 hp_5 => ?_)
  obtain ⟨rfl, hY_5⟩ := hp_5
  have hY_5 := hY_5.symm; subst hY_5
  refine y_if_ne (pc' := 11) rfl (tgt := 15) C dX13_caps_8 (by decide) (fun c_8 => ?_) (fun c_8 => ?_)
  · have h_8 := bi_n0 c_8
    refine y_aload_n (pc' := 16) rfl C dX13_caps_15 rfl ?_
    refine y_get (pc' := 19) rfl (v := .ref (a (4, 0, 0))) C fl_X13_7 (v4 rfl) rfl rfl dX13_caps_16 rfl ?_
    refine y_bipush (pc' := 21) rfl (v := 6) C dX13_caps_19 (by decide) ?_
    refine y_ialdN (pc' := 22) rfl C 6 rfl (v4 rfl) rfl rfl (by decide) rfl dX13_caps_21 ?_
    refine y_istore_n (pc' := 23) rfl C dX13_caps_22 (by decide) ?_
    refine y_iload_n (pc' := 24) rfl C dX13_caps_23 rfl ?_
    refine y_iload_n (pc' := 25) rfl C dX13_caps_24 rfl ?_
    refine y_ic_ne (pc' := 28) rfl (tgt := 35) C dX13_caps_25 (by decide) (fun c_25 => ?_) (fun c_25 => ?_)
    · refine y_aload_n (pc' := 36) rfl C dX13_caps_35 rfl ?_
      refine y_get (pc' := 39) rfl (v := .ref (a (4, 0, 0))) C fl_X13_7 (v4 rfl) rfl rfl dX13_caps_36 rfl ?_
      refine y_bipush (pc' := 41) rfl (v := 6) C dX13_caps_39 (by decide) ?_
      refine y_iload_n (pc' := 42) rfl C dX13_caps_41 rfl ?_
      refine y_iastN (pc' := 43) rfl C 6 rfl (v4 rfl) rfl rfl (by decide) rfl dX13_caps_42 (fun Z42 hZ42 => ?_)
      refine y_aload_n (pc' := 44) rfl C dX13_caps_43 rfl ?_
      refine y_get (pc' := 47) rfl (v := .ref (a (4, 0, 0))) C fl_X13_7 (v4 rfl) rfl rfl dX13_caps_44 rfl ?_
      refine y_iconst (pc' := 48) rfl (v := 5) C dX13_caps_47 (by decide) ?_
      refine y_aload_n (pc' := 49) rfl C dX13_caps_48 rfl ?_
      refine y_get (pc' := 52) rfl (v := .ref (a (4, 0, 0))) C fl_X13_7 (v4 rfl) rfl rfl dX13_caps_49 rfl ?_
      refine y_iconst (pc' := 53) rfl (v := 5) C dX13_caps_52 (by decide) ?_
      refine y_ialdN (pc' := 54) rfl C 5 rfl (v4 rfl) rfl rfl (by decide) rfl dX13_caps_53 ?_
      refine y_iload_n (pc' := 55) rfl C dX13_caps_54 rfl ?_
      refine y_ineg (pc' := 56) rfl C dX13_caps_55 ?_
      refine y_iload_n (pc' := 57) rfl C dX13_caps_56 rfl ?_
      refine y_cSi (pc' := 60) (k' := 0) (n' := 0) rfl C (c_X13_between _ G a Z42 (Z42 (4, 0, 0) 5) (-c) c) my_X13_between aw_1151 rfl rfl (Nat.le_of_ble_eq_true rfl) rfl dX13_caps_57 rfl rfl (fun r_57 Y_57 hp_57 => ?_)
      obtain ⟨rfl, hY_57⟩ := hp_57
      have hY_57 := hY_57.symm; subst hY_57
      refine y_iastN (pc' := 61) rfl C 5 rfl (v4 rfl) rfl rfl (by decide) rfl dX13_caps_60 (fun Z60 hZ60 => ?_)
      refine y_aload_n (pc' := 62) rfl C dX13_caps_61 rfl ?_
      refine y_iload_n (pc' := 63) rfl C dX13_caps_62 rfl ?_
      refine y_cVi (pc' := 66) (k' := 0) (n' := 0) rfl C (c_X13_done _ G a Z60 (Y (4, 0, 0) 6)) my_X13_done aw_1123 (v4 rfl) rfl rfl rfl rfl rfl (Nat.le_of_ble_eq_true rfl) rfl dX13_caps_63 rfl rfl (fun r_63 Y_63 hp_63 => ?_)
      obtain ⟨rfl, hY_63⟩ := hp_63
      refine y_ireturn C rfl rfl dX13_caps_66 rfl rfl ?_
      refine ⟨?_, ?_⟩
      · rw [capA, if_pos h_8, if_neg c_25]; try rfl
      · rw [capA, if_pos h_8, if_neg c_25, setAct_d, hY_63, hZ60, hZ42]; simp only [up_setA, setA_setA, setA_s]; rw [upd_n (f := Y (4, 0, 0)) (show 5 ≠ 6 by decide)]
    · refine y_aload_n (pc' := 29) rfl C dX13_caps_28 rfl ?_
      refine y_iconst (pc' := 30) rfl (v := 5) C dX13_caps_29 (by decide) ?_
      refine y_iload_n (pc' := 31) rfl C dX13_caps_30 rfl ?_
      refine y_cVi (pc' := 34) (k' := 0) (n' := 0) rfl C (c_X13_refused _ G a Y 5 c) my_X13_refused aw_1119 (v4 rfl) rfl rfl rfl rfl rfl (Nat.le_of_ble_eq_true rfl) rfl dX13_caps_31 rfl rfl (fun r_31 Y_31 hp_31 => ?_)
      obtain ⟨rfl, hY_31⟩ := hp_31
      refine y_ireturn C rfl rfl dX13_caps_34 rfl rfl ?_
      refine ⟨?_, ?_⟩
      · rw [capA, if_pos h_8, if_pos c_25]; try rfl
      · rw [capA, if_pos h_8, if_pos c_25, setAct_r (by decide) (by decide)]; exact hY_31
  · have h_8 := bi_0.mp c_8
    refine y_sipush (pc' := 14) rfl (v := (-10002)) C dX13_caps_11 (by decide) ?_
    refine y_ireturn C rfl rfl dX13_caps_14 rfl rfl ?_
    refine ⟨?_, ?_⟩
    · rw [capA, if_neg h_8]; try rfl
    · rw [capA, if_neg h_8, sa_bad]
-- KilnKeeperModel.fuels 
set_option maxHeartbeats 1000000 in
set_option maxRecDepth 20000 in
theorem c_X13_fuels (l : Launch) (G : GT) (a : Id3 → Nat) (Y : YT) (f : Int32)   : CtY l G a yX13_fuels cX13_fuels 2 (some .int) ({ frames := 1, cells := 0, slots := 0, locals := 22 } : Room) [.ref (a (4, 0, 8)), .int f] Y (PI (fun r Y' => r = (fuelA (Y (4, 0, 0)) f).1 ∧ Y' = setAct Y (fuelA (Y (4, 0, 0)) f))) := by
  refine CtY.of (by decide) rfl (Nat.le_of_ble_eq_true rfl) ?_
  intro X A C hl
  subst hl
  refine y_iload_n (pc' := 1) rfl C dX13_fuels_0 rfl ?_
  refine y_iconst (pc' := 2) rfl (v := 1) C dX13_fuels_1 (by decide) ?_
  refine y_sipush (pc' := 5) rfl (v := 9999) C dX13_fuels_2 (by decide) ?_
  refine y_cSi (pc' := 8) (k' := 0) (n' := 0) rfl C (c_X13_in _ G a Y f 1 9999) my_X13_in aw_1116 rfl rfl (Nat.le_of_ble_eq_true rfl) rfl dX13_fuels_5 rfl rfl (fun r_5 Y_5 hp_5 => ?_)
  obtain ⟨rfl, hY_5⟩ := hp_5
  have hY_5 := hY_5.symm; subst hY_5
  refine y_if_ne (pc' := 11) rfl (tgt := 15) C dX13_fuels_8 (by decide) (fun c_8 => ?_) (fun c_8 => ?_)
  · have h_8 := bi_n0 c_8
    refine y_aload_n (pc' := 16) rfl C dX13_fuels_15 rfl ?_
    refine y_get (pc' := 19) rfl (v := .ref (a (4, 0, 0))) C fl_X13_7 (v4 rfl) rfl rfl dX13_fuels_16 rfl ?_
    refine y_bipush (pc' := 21) rfl (v := 10) C dX13_fuels_19 (by decide) ?_
    refine y_dup2 (pc' := 22) rfl C dX13_fuels_21 rfl rfl ?_
    refine y_ialdN (pc' := 23) rfl C 10 rfl (v4 rfl) rfl rfl (by decide) rfl dX13_fuels_22 ?_
    refine y_iload_n (pc' := 24) rfl C dX13_fuels_23 rfl ?_
    refine y_iadd (pc' := 25) rfl C dX13_fuels_24 ?_
    refine y_iastN (pc' := 26) rfl C 10 rfl (v4 rfl) rfl rfl (by decide) rfl dX13_fuels_25 (fun Z25 hZ25 => ?_)
    refine y_aload_n (pc' := 27) rfl C dX13_fuels_26 rfl ?_
    refine y_get (pc' := 30) rfl (v := .ref (a (4, 0, 0))) C fl_X13_7 (v4 rfl) rfl rfl dX13_fuels_27 rfl ?_
    refine y_bipush (pc' := 32) rfl (v := 11) C dX13_fuels_30 (by decide) ?_
    refine y_dup2 (pc' := 33) rfl C dX13_fuels_32 rfl rfl ?_
    refine y_ialdN (pc' := 34) rfl C 11 rfl (v4 rfl) rfl rfl (by decide) rfl dX13_fuels_33 ?_
    refine y_iload_n (pc' := 35) rfl C dX13_fuels_34 rfl ?_
    refine y_iadd (pc' := 36) rfl C dX13_fuels_35 ?_
    refine y_iastN (pc' := 37) rfl C 11 rfl (v4 rfl) rfl rfl (by decide) rfl dX13_fuels_36 (fun Z36 hZ36 => ?_)
    refine y_aload_n (pc' := 38) rfl C dX13_fuels_37 rfl ?_
    refine y_aload_n (pc' := 39) rfl C dX13_fuels_38 rfl ?_
    refine y_get (pc' := 42) rfl (v := .ref (a (4, 0, 0))) C fl_X13_7 (v4 rfl) rfl rfl dX13_fuels_39 rfl ?_
    refine y_bipush (pc' := 44) rfl (v := 10) C dX13_fuels_42 (by decide) ?_
    refine y_ialdN (pc' := 45) rfl C 10 rfl (v4 rfl) rfl rfl (by decide) rfl dX13_fuels_44 ?_
    refine y_cVi (pc' := 48) (k' := 0) (n' := 0) rfl C (c_X13_done _ G a Z36 (Z36 (4, 0, 0) 10)) my_X13_done aw_1123 (v4 rfl) rfl rfl rfl rfl rfl (Nat.le_of_ble_eq_true rfl) rfl dX13_fuels_45 rfl rfl (fun r_45 Y_45 hp_45 => ?_)
    obtain ⟨rfl, hY_45⟩ := hp_45
    refine y_ireturn C rfl rfl dX13_fuels_48 rfl rfl ?_
    refine ⟨?_, ?_⟩
    · rw [fuelA, if_pos h_8]; try rfl
    · rw [fuelA, if_pos h_8, setAct_d, hY_45, hZ36, hZ25]; simp only [up_setA, setA_setA, setA_s]; rw [upd_n (show 10 ≠ 11 by decide), upd_s, upd_n (show 11 ≠ 10 by decide)]
  · have h_8 := bi_0.mp c_8
    refine y_sipush (pc' := 14) rfl (v := (-10002)) C dX13_fuels_11 (by decide) ?_
    refine y_ireturn C rfl rfl dX13_fuels_14 rfl rfl ?_
    refine ⟨?_, ?_⟩
    · rw [fuelA, if_neg h_8]; try rfl
    · rw [fuelA, if_neg h_8, sa_bad]
-- KilnKeeperModel.thinks 
set_option maxHeartbeats 1000000 in
set_option maxRecDepth 20000 in
theorem c_X13_thinks (l : Launch) (G : GT) (a : Id3 → Nat) (Y : YT)  (m : Int32) (m_n : Nat) (m_h : m = nI m_n) (hm3 : m_n ≤ 300) (hok : MOK (Y (4, 0, 0))) : CtY l G a yX13_thinks cX13_thinks 3 none ({ frames := 4, cells := 0, slots := 0, locals := 88 } : Room) [.ref (a (4, 0, 8)), .int m] Y (PV (fun Y' => Y' = setA (setA Y (4, 0, 3) (Y (4, 0, 0))) (4, 0, 0) (mins m_n (Y (4, 0, 0))))) := by
  refine CtY.of (by decide) rfl (Nat.le_of_ble_eq_true rfl) ?_
  intro X A C hl
  subst hl
  refine y_iconst (pc' := 1) rfl (v := 0) C dX13_thinks_0 (by decide) ?_
  refine y_istore_n (pc' := 2) rfl C dX13_thinks_1 (by decide) ?_
  suffices K2 : ∀ (fu_ i2 : Nat) (Yl2 : YT), i2 ≤ 227 → 227 < fu_ + i2 → Yl2 = setA Y (4, 0, 3) (fil (Y (4, 0, 0)) (Y (4, 0, 3)) i2) → WY X G A a Yl2 0 0 _ 2 [some (.ref (a (4, 0, 8))), some (.int m), some (.int ((nI i2)))] [] from K2 (227 + 1) 0 _ (by omega) (by omega) (by rw [fil_0, setA_self])
  intro fu_
  induction fu_ with
  | zero => intro i2 Yl2 h1 h2; omega
  | succ fu_ ih2 =>
    intro i2 Yl2 hi2 hm2 hYl2
    refine y_iload_n (pc' := 3) rfl C dX13_thinks_2 rfl ?_
    refine y_sipush (pc' := 6) rfl (v := 227) C dX13_thinks_3 (by decide) ?_
    refine y_ic_ge (pc' := 9) rfl (tgt := 27) C dX13_thinks_6 (by decide) (fun c_6 => ?_) (fun c_6 => ?_)
    · have hb2 : 227 ≤ i2 := nI_le_iff (by omega) (by omega) c_6
      obtain rfl : i2 = 227 := by omega
      refine y_arr (4, 0, 3) (Y (4, 0, 0)) (v4 rfl) rfl rfl (fun f hf => by rw [hYl2, setA_s, fil_in (show f < 227 from hf)]) ?_
      obtain ⟨Yc, hYc⟩ : ∃ Yq, Yq = setA Y (4, 0, 3) (Y (4, 0, 0)) := ⟨_, rfl⟩
      rw [show setA Yl2 (4, 0, 3) (Y (4, 0, 0)) = Yc by rw [hYl2, setA_setA, hYc]]
      refine y_iconst (pc' := 28) rfl (v := 0) C dX13_thinks_27 (by decide) ?_
      refine y_istore_n (pc' := 29) rfl C dX13_thinks_28 (by decide) ?_
      suffices K29 : ∀ (fu_ i29 : Nat) (Yl29 : YT), i29 ≤ m_n → m_n < fu_ + i29 → Yl29 = setA Yc (4, 0, 0) (mins i29 (Yc (4, 0, 0))) → WY X G A a Yl29 0 0 _ 29 [some (.ref (a (4, 0, 8))), some (.int m), some (.int ((nI i29)))] [] from K29 (m_n + 1) 0 _ (by omega) (by omega) (by rw [mins, setA_self])
      intro fu_
      induction fu_ with
      | zero => intro i29 Yl29 h1 h2; omega
      | succ fu_ ih29 =>
        intro i29 Yl29 hi29 hm29 hYl29
        refine y_iload_n (pc' := 30) rfl C dX13_thinks_29 rfl ?_
        refine y_iload_n (pc' := 31) rfl C dX13_thinks_30 rfl ?_
        refine y_ic_ge (pc' := 34) rfl (tgt := 44) C dX13_thinks_31 (by decide) (fun c_31 => ?_) (fun c_31 => ?_)
        · rw [m_h] at c_31
          have hc29 : m_n ≤ i29 := nI_le_iff (by omega) (by omega) c_31
          refine y_return C rfl dX13_thinks_44 rfl rfl ?_
          rw [hYl29, show i29 = m_n by omega, hYc, setA_n (by decide)]
        · rw [m_h] at c_31
          have hc29 : i29 < m_n := nI_nle_iff (by omega) (by omega) c_31
          refine y_aload_n (pc' := 35) rfl C dX13_thinks_34 rfl ?_
          refine y_cVv (pc' := 38) (k' := 0) (n' := 0) rfl C (c_X13_goesBy _ G a Yl29 (by rw [hYl29, setA_s, hYc, setA_n (by decide)]; exact MOK_mins hok _)) my_X13_goesBy aw_1182 (v4 rfl) rfl rfl rfl rfl rfl (Nat.le_of_ble_eq_true rfl) rfl dX13_thinks_35 rfl rfl (fun Y_35 hY_35 => ?_)
          refine y_iinc (pc' := 41) rfl (v := (nI (i29 + 1))) C dX13_thinks_38 rfl (nI_1 i29) (by decide) ?_
          refine y_goto (tgt := 29) C dX13_thinks_41 (by decide) ?_
          exact ih29 (i29 + 1) _ (by omega) (by omega) (by rw [hY_35, hYl29, setA_setA, setA_s, mins])
    · have hb2 : i2 < 227 := nI_nle_iff (by omega) (by omega) c_6
      refine y_aload_n (pc' := 10) rfl C dX13_thinks_9 rfl ?_
      refine y_get (pc' := 13) rfl (v := .ref (a (4, 0, 3))) C fl_X13_19 (v4 rfl) rfl rfl dX13_thinks_10 rfl ?_
      refine y_iload_n (pc' := 14) rfl C dX13_thinks_13 rfl ?_
      refine y_aload_n (pc' := 15) rfl C dX13_thinks_14 rfl ?_
      refine y_get (pc' := 18) rfl (v := .ref (a (4, 0, 0))) C fl_X13_7 (v4 rfl) rfl rfl dX13_thinks_15 rfl ?_
      refine y_iload_n (pc' := 19) rfl C dX13_thinks_18 rfl ?_
      refine y_ialdN (pc' := 20) rfl C i2 rfl (v4 rfl) rfl rfl (show i2 < 227 by omega) rfl dX13_thinks_19 ?_
      refine y_iastN (pc' := 21) rfl C i2 rfl (v4 rfl) rfl rfl (show i2 < 227 by omega) rfl dX13_thinks_20 (fun Z20 hZ20 => ?_)
      refine y_iinc (pc' := 24) rfl (v := (nI (i2 + 1))) C dX13_thinks_21 rfl (nI_1 i2) (by decide) ?_
      refine y_goto (tgt := 2) C dX13_thinks_24 (by decide) ?_
      exact ih2 (i2 + 1) _ (by omega) (by omega) (by rw [hZ20, up_setA, hYl2, setA_setA, setA_s, setA_n (by decide), fil_s])
-- KilnKeeperModel.goesOn 
set_option maxHeartbeats 1000000 in
set_option maxRecDepth 20000 in
theorem c_X13_goesOn (l : Launch) (G : GT) (a : Id3 → Nat) (Y : YT) (m : Int32)  (hok : MOK (Y (4, 0, 0))) : CtY l G a yX13_goesOn cX13_goesOn 3 (some .int) ({ frames := 4, cells := 0, slots := 0, locals := 88 } : Room) [.ref (a (4, 0, 8)), .int m] Y (PI (fun r Y' => r = (goA (Y (4, 0, 0)) m).1 ∧ Y' = setAct Y (goA (Y (4, 0, 0)) m))) := by
  refine CtY.of (by decide) rfl (Nat.le_of_ble_eq_true rfl) ?_
  intro X A C hl
  subst hl
  refine y_iload_n (pc' := 1) rfl C dX13_goesOn_0 rfl ?_
  refine y_iconst (pc' := 2) rfl (v := 1) C dX13_goesOn_1 (by decide) ?_
  refine y_sipush (pc' := 5) rfl (v := 300) C dX13_goesOn_2 (by decide) ?_
  refine y_cSi (pc' := 8) (k' := 0) (n' := 0) rfl C (c_X13_in _ G a Y m 1 300) my_X13_in aw_1116 rfl rfl (Nat.le_of_ble_eq_true rfl) rfl dX13_goesOn_5 rfl rfl (fun r_5 Y_5 hp_5 => ?_)
  obtain ⟨rfl, hY_5⟩ := hp_5
  have hY_5 := hY_5.symm; subst hY_5
  refine y_if_ne (pc' := 11) rfl (tgt := 15) C dX13_goesOn_8 (by decide) (fun c_8 => ?_) (fun c_8 => ?_)
  · have h_8 := bi_n0 c_8
    obtain ⟨mq, hmq3, hmq⟩ := rng_nI (m := 300) (by decide) (by decide) h_8
    refine y_iconst (pc' := 16) rfl (v := 0) C dX13_goesOn_15 (by decide) ?_
    refine y_istore_n (pc' := 17) rfl C dX13_goesOn_16 (by decide) ?_
    suffices K17 : ∀ (fu_ i17 : Nat) (Yl17 : YT), i17 ≤ mq → mq < fu_ + i17 → Yl17 = setA Y (4, 0, 0) (mins i17 (Y (4, 0, 0))) → WY X G A a Yl17 0 0 _ 17 [some (.ref (a (4, 0, 8))), some (.int m), some (.int ((nI i17)))] [] from K17 (mq + 1) 0 _ (by omega) (by omega) (by rw [mins, setA_self])
    intro fu_
    induction fu_ with
    | zero => intro i17 Yl17 h1 h2; omega
    | succ fu_ ih17 =>
      intro i17 Yl17 hi17 hm17 hYl17
      refine y_iload_n (pc' := 18) rfl C dX13_goesOn_17 rfl ?_
      refine y_iload_n (pc' := 19) rfl C dX13_goesOn_18 rfl ?_
      refine y_ic_ge (pc' := 22) rfl (tgt := 32) C dX13_goesOn_19 (by decide) (fun c_19 => ?_) (fun c_19 => ?_)
      · rw [hmq] at c_19
        have hc17 : mq ≤ i17 := nI_le_iff (by omega) (by omega) c_19
        refine y_aload_n (pc' := 33) rfl C dX13_goesOn_32 rfl ?_
        refine y_aload_n (pc' := 34) rfl C dX13_goesOn_33 rfl ?_
        refine y_get (pc' := 37) rfl (v := .ref (a (4, 0, 0))) C fl_X13_7 (v4 rfl) rfl rfl dX13_goesOn_34 rfl ?_
        refine y_iconst (pc' := 38) rfl (v := 0) C dX13_goesOn_37 (by decide) ?_
        refine y_ialdN (pc' := 39) rfl C 0 rfl (v4 rfl) rfl rfl (by decide) rfl dX13_goesOn_38 ?_
        refine y_cVi (pc' := 42) (k' := 0) (n' := 0) rfl C (c_X13_done _ G a Yl17 (Yl17 (4, 0, 0) 0)) my_X13_done aw_1123 (v4 rfl) rfl rfl rfl rfl rfl (Nat.le_of_ble_eq_true rfl) rfl dX13_goesOn_39 rfl rfl (fun r_39 Y_39 hp_39 => ?_)
        obtain ⟨rfl, hY_39⟩ := hp_39
        refine y_ireturn C rfl rfl dX13_goesOn_42 rfl rfl ?_
        refine ⟨?_, ?_⟩
        · rw [goA, if_pos h_8]; try rfl
        · rw [goA, if_pos h_8, setAct_d, hY_39, hYl17, show i17 = mq by omega, setA_s, hmq, nn_nI (by omega)]
      · rw [hmq] at c_19
        have hc17 : i17 < mq := nI_nle_iff (by omega) (by omega) c_19
        refine y_aload_n (pc' := 23) rfl C dX13_goesOn_22 rfl ?_
        refine y_cVv (pc' := 26) (k' := 0) (n' := 0) rfl C (c_X13_goesBy _ G a Yl17 (by rw [hYl17, setA_s]; exact MOK_mins hok _)) my_X13_goesBy aw_1182 (v4 rfl) rfl rfl rfl rfl rfl (Nat.le_of_ble_eq_true rfl) rfl dX13_goesOn_23 rfl rfl (fun Y_23 hY_23 => ?_)
        refine y_iinc (pc' := 29) rfl (v := (nI (i17 + 1))) C dX13_goesOn_26 rfl (nI_1 i17) (by decide) ?_
        refine y_goto (tgt := 17) C dX13_goesOn_29 (by decide) ?_
        exact ih17 (i17 + 1) _ (by omega) (by omega) (by rw [hY_23, hYl17, setA_setA, setA_s, mins])
  · have h_8 := bi_0.mp c_8
    refine y_sipush (pc' := 14) rfl (v := (-10002)) C dX13_goesOn_11 (by decide) ?_
    refine y_ireturn C rfl rfl dX13_goesOn_14 rfl rfl ?_
    refine ⟨?_, ?_⟩
    · rw [goA, if_neg h_8]; try rfl
    · rw [goA, if_neg h_8, sa_bad]
-- KilnKeeperModel.comes 
set_option maxHeartbeats 1000000 in
set_option maxRecDepth 20000 in
theorem c_X13_comes (l : Launch) (G : GT) (a : Id3 → Nat) (Y : YT) (np : Nat) (sh de mi : Int32)  (hnp : np ≤ 8) (h15 : Y (4, 0, 0) 15 = nI np) : CtY l G a yX13_comes cX13_comes 5 (some .int) ({ frames := 1, cells := 0, slots := 0, locals := 22 } : Room) [.ref (a (4, 0, 8)), .int sh, .int de, .int mi] Y (PI (fun r Y' => r = (potA (Y (4, 0, 0)) sh de mi).1 ∧ Y' = setAct Y (potA (Y (4, 0, 0)) sh de mi))) := by
  refine CtY.of (by decide) rfl (Nat.le_of_ble_eq_true rfl) ?_
  intro X A C hl
  subst hl
  refine y_iload_n (pc' := 1) rfl C dX13_comes_0 rfl ?_
  refine y_iconst (pc' := 2) rfl (v := 1) C dX13_comes_1 (by decide) ?_
  refine y_bipush (pc' := 4) rfl (v := 60) C dX13_comes_2 (by decide) ?_
  refine y_cSi (pc' := 7) (k' := 0) (n' := 0) rfl C (c_X13_in _ G a Y sh 1 60) my_X13_in aw_1116 rfl rfl (Nat.le_of_ble_eq_true rfl) rfl dX13_comes_4 rfl rfl (fun r_4 Y_4 hp_4 => ?_)
  obtain ⟨rfl, hY_4⟩ := hp_4
  have hY_4 := hY_4.symm; subst hY_4
  refine y_if_eq (pc' := 10) rfl (tgt := 32) C dX13_comes_7 (by decide) (fun c_7 => ?_) (fun c_7 => ?_)
  · have h_7 := bi_0.mp c_7
    refine y_sipush (pc' := 35) rfl (v := (-10002)) C dX13_comes_32 (by decide) ?_
    refine y_ireturn C rfl rfl dX13_comes_35 rfl rfl ?_
    refine ⟨?_, ?_⟩
    · rw [potA, if_neg h_7]; try rfl
    · rw [potA, if_neg h_7, sa_bad]
  · have h_7 := bi_n0 c_7
    refine y_iload_n (pc' := 11) rfl C dX13_comes_10 rfl ?_
    refine y_bipush (pc' := 13) rfl (v := 100) C dX13_comes_11 (by decide) ?_
    refine y_sipush (pc' := 16) rfl (v := 1200) C dX13_comes_13 (by decide) ?_
    refine y_cSi (pc' := 19) (k' := 0) (n' := 0) rfl C (c_X13_in _ G a Y de 100 1200) my_X13_in aw_1116 rfl rfl (Nat.le_of_ble_eq_true rfl) rfl dX13_comes_16 rfl rfl (fun r_16 Y_16 hp_16 => ?_)
    obtain ⟨rfl, hY_16⟩ := hp_16
    have hY_16 := hY_16.symm; subst hY_16
    refine y_if_eq (pc' := 22) rfl (tgt := 32) C dX13_comes_19 (by decide) (fun c_19 => ?_) (fun c_19 => ?_)
    · have h_19 := bi_0.mp c_19
      refine y_sipush (pc' := 35) rfl (v := (-10002)) C dX13_comes_32 (by decide) ?_
      refine y_ireturn C rfl rfl dX13_comes_35 rfl rfl ?_
      refine ⟨?_, ?_⟩
      · rw [potA, if_pos h_7, if_neg h_19]; try rfl
      · rw [potA, if_pos h_7, if_neg h_19, sa_bad]
    · have h_19 := bi_n0 c_19
      refine y_iload_n (pc' := 23) rfl C dX13_comes_22 rfl ?_
      refine y_iconst (pc' := 24) rfl (v := 1) C dX13_comes_23 (by decide) ?_
      refine y_bipush (pc' := 26) rfl (v := 99) C dX13_comes_24 (by decide) ?_
      refine y_cSi (pc' := 29) (k' := 0) (n' := 0) rfl C (c_X13_in _ G a Y mi 1 99) my_X13_in aw_1116 rfl rfl (Nat.le_of_ble_eq_true rfl) rfl dX13_comes_26 rfl rfl (fun r_26 Y_26 hp_26 => ?_)
      obtain ⟨rfl, hY_26⟩ := hp_26
      have hY_26 := hY_26.symm; subst hY_26
      refine y_if_ne (pc' := 32) rfl (tgt := 36) C dX13_comes_29 (by decide) (fun c_29 => ?_) (fun c_29 => ?_)
      · have h_29 := bi_n0 c_29
        refine y_aload_n (pc' := 37) rfl C dX13_comes_36 rfl ?_
        refine y_get (pc' := 40) rfl (v := .ref (a (4, 0, 0))) C fl_X13_7 (v4 rfl) rfl rfl dX13_comes_37 rfl ?_
        refine y_bipush (pc' := 42) rfl (v := 15) C dX13_comes_40 (by decide) ?_
        refine y_ialdN (pc' := 43) rfl C 15 rfl (v4 rfl) rfl rfl (by decide) rfl dX13_comes_42 ?_
        refine y_istore (pc' := 45) rfl C dX13_comes_43 (by decide) ?_
        refine y_iload (pc' := 47) rfl C dX13_comes_45 rfl ?_
        refine y_bipush (pc' := 49) rfl (v := 8) C dX13_comes_47 (by decide) ?_
        refine y_ic_ne (pc' := 52) rfl (tgt := 60) C dX13_comes_49 (by decide) (fun c_49 => ?_) (fun c_49 => ?_)
        · have hn8 : np < 8 := by rcases Nat.lt_or_ge np 8 with q | q; exact q; exact absurd (by rw [h15, show np = 8 by omega]; rfl) c_49
          refine y_aload_n (pc' := 61) rfl C dX13_comes_60 rfl ?_
          refine y_get (pc' := 64) rfl (v := .ref (a (4, 0, 0))) C fl_X13_7 (v4 rfl) rfl rfl dX13_comes_61 rfl ?_
          refine y_sipush (pc' := 67) rfl (v := 171) C dX13_comes_64 (by decide) ?_
          refine y_iload (pc' := 69) rfl C dX13_comes_67 rfl ?_
          refine y_iadd (pc' := 70) rfl C dX13_comes_69 ?_
          refine y_iload_n (pc' := 71) rfl C dX13_comes_70 rfl ?_
          refine y_iastN (pc' := 72) rfl C (171 + np) (nadd (rfl : (171 : Int32) = nI 171) h15) (v4 rfl) rfl rfl (show (171 + np) < 227 by omega) rfl dX13_comes_71 (fun Z71 hZ71 => ?_)
          refine y_aload_n (pc' := 73) rfl C dX13_comes_72 rfl ?_
          refine y_get (pc' := 76) rfl (v := .ref (a (4, 0, 0))) C fl_X13_7 (v4 rfl) rfl rfl dX13_comes_73 rfl ?_
          refine y_sipush (pc' := 79) rfl (v := 179) C dX13_comes_76 (by decide) ?_
          refine y_iload (pc' := 81) rfl C dX13_comes_79 rfl ?_
          refine y_iadd (pc' := 82) rfl C dX13_comes_81 ?_
          refine y_iload_n (pc' := 83) rfl C dX13_comes_82 rfl ?_
          refine y_iastN (pc' := 84) rfl C (179 + np) (nadd (rfl : (179 : Int32) = nI 179) h15) (v4 rfl) rfl rfl (show (179 + np) < 227 by omega) rfl dX13_comes_83 (fun Z83 hZ83 => ?_)
          refine y_aload_n (pc' := 85) rfl C dX13_comes_84 rfl ?_
          refine y_get (pc' := 88) rfl (v := .ref (a (4, 0, 0))) C fl_X13_7 (v4 rfl) rfl rfl dX13_comes_85 rfl ?_
          refine y_sipush (pc' := 91) rfl (v := 187) C dX13_comes_88 (by decide) ?_
          refine y_iload (pc' := 93) rfl C dX13_comes_91 rfl ?_
          refine y_iadd (pc' := 94) rfl C dX13_comes_93 ?_
          refine y_iload_n (pc' := 95) rfl C dX13_comes_94 rfl ?_
          refine y_iastN (pc' := 96) rfl C (187 + np) (nadd (rfl : (187 : Int32) = nI 187) h15) (v4 rfl) rfl rfl (show (187 + np) < 227 by omega) rfl dX13_comes_95 (fun Z95 hZ95 => ?_)
          refine y_aload_n (pc' := 97) rfl C dX13_comes_96 rfl ?_
          refine y_get (pc' := 100) rfl (v := .ref (a (4, 0, 0))) C fl_X13_7 (v4 rfl) rfl rfl dX13_comes_97 rfl ?_
          refine y_bipush (pc' := 102) rfl (v := 15) C dX13_comes_100 (by decide) ?_
          refine y_iload (pc' := 104) rfl C dX13_comes_102 rfl ?_
          refine y_iconst (pc' := 105) rfl (v := 1) C dX13_comes_104 (by decide) ?_
          refine y_iadd (pc' := 106) rfl C dX13_comes_105 ?_
          refine y_iastN (pc' := 107) rfl C 15 rfl (v4 rfl) rfl rfl (by decide) rfl dX13_comes_106 (fun Z106 hZ106 => ?_)
          refine y_aload_n (pc' := 108) rfl C dX13_comes_107 rfl ?_
          refine y_iload (pc' := 110) rfl C dX13_comes_108 rfl ?_
          refine y_cVi (pc' := 113) (k' := 0) (n' := 0) rfl C (c_X13_done _ G a Z106 (Y (4, 0, 0) 15)) my_X13_done aw_1123 (v4 rfl) rfl rfl rfl rfl rfl (Nat.le_of_ble_eq_true rfl) rfl dX13_comes_110 rfl rfl (fun r_110 Y_110 hp_110 => ?_)
          obtain ⟨rfl, hY_110⟩ := hp_110
          refine y_ireturn C rfl rfl dX13_comes_113 rfl rfl ?_
          refine ⟨?_, ?_⟩
          · rw [potA, if_pos h_7, if_pos h_19, if_pos h_29, if_neg c_49]; try rfl
          · rw [potA, if_pos h_7, if_pos h_19, if_pos h_29, if_neg c_49, setAct_d, hY_110, hZ106, hZ95, hZ83, hZ71]; simp only [up_setA, setA_setA, setA_s]; rw [h15, nn_nI (by omega)]; rfl
        · refine y_aload_n (pc' := 53) rfl C dX13_comes_52 rfl ?_
          refine y_iconst (pc' := 54) rfl (v := 1) C dX13_comes_53 (by decide) ?_
          refine y_bipush (pc' := 56) rfl (v := 8) C dX13_comes_54 (by decide) ?_
          refine y_cVi (pc' := 59) (k' := 0) (n' := 0) rfl C (c_X13_refused _ G a Y 1 8) my_X13_refused aw_1119 (v4 rfl) rfl rfl rfl rfl rfl (Nat.le_of_ble_eq_true rfl) rfl dX13_comes_56 rfl rfl (fun r_56 Y_56 hp_56 => ?_)
          obtain ⟨rfl, hY_56⟩ := hp_56
          refine y_ireturn C rfl rfl dX13_comes_59 rfl rfl ?_
          refine ⟨?_, ?_⟩
          · rw [potA, if_pos h_7, if_pos h_19, if_pos h_29, if_pos c_49]; try rfl
          · rw [potA, if_pos h_7, if_pos h_19, if_pos h_29, if_pos c_49, setAct_r (by decide) (by decide)]; exact hY_56
      · have h_29 := bi_0.mp c_29
        refine y_sipush (pc' := 35) rfl (v := (-10002)) C dX13_comes_32 (by decide) ?_
        refine y_ireturn C rfl rfl dX13_comes_35 rfl rfl ?_
        refine ⟨?_, ?_⟩
        · rw [potA, if_pos h_7, if_pos h_19, if_neg h_29]; try rfl
        · rw [potA, if_pos h_7, if_pos h_19, if_neg h_29, sa_bad]
-- KilnKeeperModel.within 
set_option maxHeartbeats 1000000 in
set_option maxRecDepth 20000 in
theorem c_X13_within (l : Launch) (G : GT) (a : Id3 → Nat) (Y : YT) (np : Nat)  (hnp : np ≤ 8) (h15 : Y (4, 0, 0) 15 = nI np) : CtY l G a yX13_within cX13_within 3 (some .int) ({ frames := 0, cells := 0, slots := 0, locals := 0 } : Room) [.ref (a (4, 0, 8))] Y (PI (fun r Y' => r = wiN (Y (4, 0, 0)) np ∧ Y' = Y)) := by
  refine CtY.of (by decide) rfl (Nat.le_of_ble_eq_true rfl) ?_
  intro X A C hl
  subst hl
  refine y_iconst (pc' := 1) rfl (v := 0) C dX13_within_0 (by decide) ?_
  refine y_istore_n (pc' := 2) rfl C dX13_within_1 (by decide) ?_
  refine y_iconst (pc' := 3) rfl (v := 0) C dX13_within_2 (by decide) ?_
  refine y_istore_n (pc' := 4) rfl C dX13_within_3 (by decide) ?_
  suffices K4 : ∀ (fu_ i4 : Nat) (Yl4 : YT), i4 ≤ np → np < fu_ + i4 → Yl4 = Y → WY X G A a Yl4 0 0 _ 4 [some (.ref (a (4, 0, 8))), some (.int ((wiN (Y (4, 0, 0)) i4))), some (.int ((nI i4)))] [] from K4 (np + 1) 0 _ (by omega) (by omega) (rfl)
  intro fu_
  induction fu_ with
  | zero => intro i4 Yl4 h1 h2; omega
  | succ fu_ ih4 =>
    intro i4 Yl4 hi4 hm4 hYl4
    refine y_iload_n (pc' := 5) rfl C dX13_within_4 rfl ?_
    refine y_aload_n (pc' := 6) rfl C dX13_within_5 rfl ?_
    refine y_get (pc' := 9) rfl (v := .ref (a (4, 0, 0))) C fl_X13_7 (v4 rfl) rfl rfl dX13_within_6 rfl ?_
    refine y_bipush (pc' := 11) rfl (v := 15) C dX13_within_9 (by decide) ?_
    refine y_ialdN (pc' := 12) rfl C 15 rfl (v4 rfl) rfl rfl (by decide) rfl dX13_within_11 ?_
    refine y_ic_ge (pc' := 15) rfl (tgt := 34) C dX13_within_12 (by decide) (fun c_12 => ?_) (fun c_12 => ?_)
    · rw [hYl4, h15] at c_12
      have hb4 : np ≤ i4 := nI_le_iff (by omega) (by omega) c_12
      refine y_iload_n (pc' := 35) rfl C dX13_within_34 rfl ?_
      refine y_ireturn C rfl rfl dX13_within_35 rfl rfl ?_
      exact ⟨by rw [show i4 = np by omega], hYl4⟩
    · rw [hYl4, h15] at c_12
      have hb4 : i4 < np := nI_nle_iff (by omega) (by omega) c_12
      refine y_iload_n (pc' := 16) rfl C dX13_within_15 rfl ?_
      refine y_aload_n (pc' := 17) rfl C dX13_within_16 rfl ?_
      refine y_get (pc' := 20) rfl (v := .ref (a (4, 0, 0))) C fl_X13_7 (v4 rfl) rfl rfl dX13_within_17 rfl ?_
      refine y_sipush (pc' := 23) rfl (v := 211) C dX13_within_20 (by decide) ?_
      refine y_iload_n (pc' := 24) rfl C dX13_within_23 rfl ?_
      refine y_iadd (pc' := 25) rfl C dX13_within_24 ?_
      refine y_ialdN (pc' := 26) rfl C (211 + i4) (nadd (rfl : (211 : Int32) = nI 211) rfl) (v4 rfl) rfl rfl (show (211 + i4) < 227 by omega) rfl dX13_within_25 ?_
      refine y_iadd (pc' := 27) rfl C dX13_within_26 ?_
      refine y_istore_n (pc' := 28) rfl C dX13_within_27 (by decide) ?_
      refine y_iinc (pc' := 31) rfl (v := (nI (i4 + 1))) C dX13_within_28 rfl (nI_1 i4) (by decide) ?_
      refine y_goto (tgt := 4) C dX13_within_31 (by decide) ?_
      refine y_conv (L' := [some (.ref (a (4, 0, 8))), some (.int ((wiN (Y (4, 0, 0)) (i4 + 1)))), some (.int ((nI (i4 + 1))))]) (by rw [hYl4]; rfl) rfl ?_
      exact ih4 (i4 + 1) _ (by omega) (by omega) (hYl4)
