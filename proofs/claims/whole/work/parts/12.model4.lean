theorem fl_X13_22 : FLK "KilnKeeperModel" 22 12 4 := ⟨RX13, TX13, 20, rfl, by decide, aw_1047, in_TX13⟩
theorem fl_X13_34 : FLK "KilnKeeperModel" 34 12 5 := ⟨RX13, TX13, 20, rfl, by decide, aw_1048, in_TX13⟩
theorem fl_X13_38 : FLK "KilnKeeperModel" 38 12 14 := ⟨RX13, TX13, 20, rfl, by decide, aw_1057, in_TX13⟩
theorem fl_X13_41 : FLK "KilnKeeperModel" 41 12 15 := ⟨RX13, TX13, 20, rfl, by decide, aw_1058, in_TX13⟩
theorem fp_X13_34 : FLP "KilnKeeperModel" 34 12 5 .int false := ⟨RX13, TX13, 20, tyX13, rfl, by decide, aw_1048, in_TX13, tyX13_ok, nmX13, rfl, rfl, fun h => by first | exact rfl | cases h⟩
theorem fp_X13_48 : FLP "KilnKeeperModel" 48 12 12 .int false := ⟨RX13, TX13, 20, tyX13, rfl, by decide, aw_1055, in_TX13, tyX13_ok, nmX13, rfl, rfl, fun h => by first | exact rfl | cases h⟩
theorem fp_X13_51 : FLP "KilnKeeperModel" 51 12 13 .int false := ⟨RX13, TX13, 20, tyX13, rfl, by decide, aw_1056, in_TX13, tyX13_ok, nmX13, rfl, rfl, fun h => by first | exact rfl | cases h⟩
theorem my_X13_aims : MV yX13_aims cX13_aims 3 (some .int) 1 := ⟨aw_1115, aw_71, ⟨by decide, by decide, by decide +kernel⟩, aw_1114, aw_16⟩
theorem my_X13_caps : MV yX13_caps cX13_caps 3 (some .int) 1 := ⟨aw_1150, aw_71, ⟨by decide, by decide, by decide +kernel⟩, aw_1149, aw_22⟩
theorem my_X13_changed : MV yX13_changed cX13_changed 3 (some .int) 1 := ⟨aw_1134, aw_71, ⟨by decide, by decide, by decide +kernel⟩, aw_1133, aw_20⟩
theorem my_X13_comes : MV yX13_comes cX13_comes 5 (some .int) 3 := ⟨aw_1213, aw_71, ⟨by decide, by decide, by decide +kernel⟩, aw_1212, aw_33⟩
theorem my_X13_ends : MV yX13_ends cX13_ends 2 (some .int) 1 := ⟨aw_1130, aw_71, ⟨by decide, by decide, by decide +kernel⟩, aw_1129, aw_19⟩
theorem my_X13_fuels : MV yX13_fuels cX13_fuels 2 (some .int) 1 := ⟨aw_1173, aw_71, ⟨by decide, by decide, by decide +kernel⟩, aw_1172, aw_25⟩
theorem my_X13_gainsOf : MV yX13_gainsOf cX13_gainsOf 5 (some .int) 3 := ⟨aw_1142, aw_71, ⟨by decide, by decide, by decide +kernel⟩, aw_1141, aw_21⟩
theorem my_X13_goesOn : MV yX13_goesOn cX13_goesOn 3 (some .int) 1 := ⟨aw_1181, aw_71, ⟨by decide, by decide, by decide +kernel⟩, aw_1180, aw_26⟩
theorem my_X13_isPot : MV yX13_isPot cX13_isPot 2 (some .boolean) 1 := ⟨aw_1225, aw_71, ⟨by decide, by decide, by decide +kernel⟩, aw_1224, aw_35⟩
theorem my_X13_puts : MV yX13_puts cX13_puts 2 (some .int) 1 := ⟨aw_1221, aw_71, ⟨by decide, by decide, by decide +kernel⟩, aw_1220, aw_34⟩
theorem my_X13_remembers : MV yX13_remembers cX13_remembers 2 none 0 := ⟨aw_1111, aw_71, ⟨by decide, by decide, by decide +kernel⟩, aw_1110, aw_15⟩
theorem my_X13_takes : MV yX13_takes cX13_takes 2 (some .int) 1 := ⟨aw_1237, aw_71, ⟨by decide, by decide, by decide +kernel⟩, aw_1236, aw_37⟩
theorem my_X13_within : MV yX13_within cX13_within 3 (some .int) 0 := ⟨aw_1229, aw_71, ⟨by decide, by decide, by decide +kernel⟩, aw_1228, aw_36⟩
-- KilnKeeperModel.puts 
set_option maxHeartbeats 1000000 in
set_option maxRecDepth 20000 in
theorem c_X13_puts (l : Launch) (G : GT) (a : Id3 → Nat) (Y : YT) (np : Nat) (p : Int32)  (hnp : np ≤ 8) (h15 : Y (4, 0, 0) 15 = nI np) : CtY l G a yX13_puts cX13_puts 2 (some .int) ({ frames := 2, cells := 0, slots := 0, locals := 43 } : Room) [.ref (a (4, 0, 8)), .int p] Y (PI (fun r Y' => r = (putA (Y (4, 0, 0)) p).1 ∧ Y' = setAct Y (putA (Y (4, 0, 0)) p))) := by
  refine CtY.of (by decide) rfl (Nat.le_of_ble_eq_true rfl) ?_
  intro X A C hl
  subst hl
  refine y_aload_n (pc' := 1) rfl C dX13_puts_0 rfl ?_
  refine y_iload_n (pc' := 2) rfl C dX13_puts_1 rfl ?_
  refine y_cVi (pc' := 5) (k' := 0) (n' := 0) rfl C (c_X13_isPot _ G a Y p) my_X13_isPot aw_1222 (v4 rfl) rfl rfl rfl rfl rfl (Nat.le_of_ble_eq_true rfl) rfl dX13_puts_2 rfl rfl (fun r_2 Y_2 hp_2 => ?_)
  obtain ⟨rfl, hY_2⟩ := hp_2
  have hY_2 := hY_2.symm; subst hY_2
  refine y_if_ne (pc' := 8) rfl (tgt := 12) C dX13_puts_5 (by decide) (fun c_5 => ?_) (fun c_5 => ?_)
  · have h_5 := bi_n0 c_5
    obtain ⟨q, hq, hp⟩ := pot_nI h15 hnp h_5
    have hnq : nn p = q := by rw [hp, nn_nI (by omega)]
    have hnpn : nn (Y (4, 0, 0) 15) = np := by rw [h15, nn_nI (by omega)]
    refine y_aload_n (pc' := 13) rfl C dX13_puts_12 rfl ?_
    refine y_get (pc' := 16) rfl (v := .ref (a (4, 0, 0))) C fl_X13_7 (v4 rfl) rfl rfl dX13_puts_13 rfl ?_
    refine y_sipush (pc' := 19) rfl (v := 195) C dX13_puts_16 (by decide) ?_
    refine y_iload_n (pc' := 20) rfl C dX13_puts_19 rfl ?_
    refine y_iadd (pc' := 21) rfl C dX13_puts_20 ?_
    refine y_ialdN (pc' := 22) rfl C (195 + q) (nadd (rfl : (195 : Int32) = nI 195) hp) (v4 rfl) rfl rfl (show (195 + q) < 227 by omega) rfl dX13_puts_21 ?_
    refine y_if_eq (pc' := 25) rfl (tgt := 41) C dX13_puts_22 (by decide) (fun c_22 => ?_) (fun c_22 => ?_)
    · refine y_aload_n (pc' := 42) rfl C dX13_puts_41 rfl ?_
      refine y_get (pc' := 45) rfl (v := .ref (a (4, 0, 0))) C fl_X13_7 (v4 rfl) rfl rfl dX13_puts_42 rfl ?_
      refine y_iconst (pc' := 46) rfl (v := 0) C dX13_puts_45 (by decide) ?_
      refine y_ialdN (pc' := 47) rfl C 0 rfl (v4 rfl) rfl rfl (by decide) rfl dX13_puts_46 ?_
      refine y_bipush (pc' := 49) rfl (v := 60) C dX13_puts_47 (by decide) ?_
      refine y_ic_le (pc' := 52) rfl (tgt := 64) C dX13_puts_49 (by decide) (fun c_49 => ?_) (fun c_49 => ?_)
      · refine y_aload_n (pc' := 65) rfl C dX13_puts_64 rfl ?_
        refine y_cVi (pc' := 68) (k' := 0) (n' := 0) rfl C (c_X13_within _ G a Y np hnp h15) my_X13_within aw_1226 (v4 rfl) rfl rfl rfl rfl rfl (Nat.le_of_ble_eq_true rfl) rfl dX13_puts_65 rfl rfl (fun r_65 Y_65 hp_65 => ?_)
        obtain ⟨rfl, hY_65⟩ := hp_65
        have hY_65 := hY_65.symm; subst hY_65
        refine y_iconst (pc' := 69) rfl (v := 4) C dX13_puts_68 (by decide) ?_
        refine y_ic_ne (pc' := 72) rfl (tgt := 79) C dX13_puts_69 (by decide) (fun c_69 => ?_) (fun c_69 => ?_)
        · refine y_aload_n (pc' := 80) rfl C dX13_puts_79 rfl ?_
          refine y_get (pc' := 83) rfl (v := .ref (a (4, 0, 0))) C fl_X13_7 (v4 rfl) rfl rfl dX13_puts_80 rfl ?_
          refine y_sipush (pc' := 86) rfl (v := 195) C dX13_puts_83 (by decide) ?_
          refine y_iload_n (pc' := 87) rfl C dX13_puts_86 rfl ?_
          refine y_iadd (pc' := 88) rfl C dX13_puts_87 ?_
          refine y_iconst (pc' := 89) rfl (v := 1) C dX13_puts_88 (by decide) ?_
          refine y_iastN (pc' := 90) rfl C (195 + q) (nadd (rfl : (195 : Int32) = nI 195) hp) (v4 rfl) rfl rfl (show (195 + q) < 227 by omega) rfl dX13_puts_89 (fun Z89 hZ89 => ?_)
          refine y_aload_n (pc' := 91) rfl C dX13_puts_90 rfl ?_
          refine y_get (pc' := 94) rfl (v := .ref (a (4, 0, 0))) C fl_X13_7 (v4 rfl) rfl rfl dX13_puts_91 rfl ?_
          refine y_sipush (pc' := 97) rfl (v := 211) C dX13_puts_94 (by decide) ?_
          refine y_iload_n (pc' := 98) rfl C dX13_puts_97 rfl ?_
          refine y_iadd (pc' := 99) rfl C dX13_puts_98 ?_
          refine y_iconst (pc' := 100) rfl (v := 1) C dX13_puts_99 (by decide) ?_
          refine y_iastN (pc' := 101) rfl C (211 + q) (nadd (rfl : (211 : Int32) = nI 211) hp) (v4 rfl) rfl rfl (show (211 + q) < 227 by omega) rfl dX13_puts_100 (fun Z100 hZ100 => ?_)
          refine y_aload_n (pc' := 102) rfl C dX13_puts_101 rfl ?_
          refine y_aload_n (pc' := 103) rfl C dX13_puts_102 rfl ?_
          refine y_cVi (pc' := 106) (k' := 0) (n' := 0) rfl C (c_X13_within _ G a Z100 np hnp (by rw [hZ100, up_setA, setA_s, upd_n (by omega), hZ89, up_setA, setA_s, upd_n (by omega)]; exact h15)) my_X13_within aw_1226 (v4 rfl) rfl rfl rfl rfl rfl (Nat.le_of_ble_eq_true rfl) rfl dX13_puts_103 rfl rfl (fun r_103 Y_103 hp_103 => ?_)
          obtain ⟨rfl, hY_103⟩ := hp_103
          have hY_103 := hY_103.symm; subst hY_103
          refine y_cVi (pc' := 109) (k' := 0) (n' := 0) rfl C (c_X13_done _ G a Z100 (wiN (Z100 (4, 0, 0)) np)) my_X13_done aw_1123 (v4 rfl) rfl rfl rfl rfl rfl (Nat.le_of_ble_eq_true rfl) rfl dX13_puts_106 rfl rfl (fun r_106 Y_106 hp_106 => ?_)
          obtain ⟨rfl, hY_106⟩ := hp_106
          refine y_ireturn C rfl rfl dX13_puts_109 rfl rfl ?_
          refine ⟨?_, ?_⟩
          · rw [putA, if_pos h_5, hnq, if_pos c_22, if_pos c_49, hnpn, if_neg c_69]; try rfl
          · rw [putA, if_pos h_5, hnq, if_pos c_22, if_pos c_49, hnpn, if_neg c_69, setAct_d, hY_106, hZ100, hZ89]; simp only [up_setA, setA_setA, setA_s]; rfl
        · refine y_aload_n (pc' := 73) rfl C dX13_puts_72 rfl ?_
          refine y_iconst (pc' := 74) rfl (v := 1) C dX13_puts_73 (by decide) ?_
          refine y_iconst (pc' := 75) rfl (v := 4) C dX13_puts_74 (by decide) ?_
          refine y_cVi (pc' := 78) (k' := 0) (n' := 0) rfl C (c_X13_refused _ G a Y 1 4) my_X13_refused aw_1119 (v4 rfl) rfl rfl rfl rfl rfl (Nat.le_of_ble_eq_true rfl) rfl dX13_puts_75 rfl rfl (fun r_75 Y_75 hp_75 => ?_)
          obtain ⟨rfl, hY_75⟩ := hp_75
          refine y_ireturn C rfl rfl dX13_puts_78 rfl rfl ?_
          refine ⟨?_, ?_⟩
          · rw [putA, if_pos h_5, hnq, if_pos c_22, if_pos c_49, hnpn, if_pos c_69]; try rfl
          · rw [putA, if_pos h_5, hnq, if_pos c_22, if_pos c_49, hnpn, if_pos c_69, setAct_r (by decide) (by decide)]; exact hY_75
      · refine y_aload_n (pc' := 53) rfl C dX13_puts_52 rfl ?_
        refine y_iconst (pc' := 54) rfl (v := 4) C dX13_puts_53 (by decide) ?_
        refine y_aload_n (pc' := 55) rfl C dX13_puts_54 rfl ?_
        refine y_get (pc' := 58) rfl (v := .ref (a (4, 0, 0))) C fl_X13_7 (v4 rfl) rfl rfl dX13_puts_55 rfl ?_
        refine y_iconst (pc' := 59) rfl (v := 0) C dX13_puts_58 (by decide) ?_
        refine y_ialdN (pc' := 60) rfl C 0 rfl (v4 rfl) rfl rfl (by decide) rfl dX13_puts_59 ?_
        refine y_cVi (pc' := 63) (k' := 0) (n' := 0) rfl C (c_X13_refused _ G a Y 4 (Y (4, 0, 0) 0)) my_X13_refused aw_1119 (v4 rfl) rfl rfl rfl rfl rfl (Nat.le_of_ble_eq_true rfl) rfl dX13_puts_60 rfl rfl (fun r_60 Y_60 hp_60 => ?_)
        obtain ⟨rfl, hY_60⟩ := hp_60
        refine y_ireturn C rfl rfl dX13_puts_63 rfl rfl ?_
        refine ⟨?_, ?_⟩
        · rw [putA, if_pos h_5, hnq, if_pos c_22, if_neg c_49]; try rfl
        · rw [putA, if_pos h_5, hnq, if_pos c_22, if_neg c_49, setAct_r (by decide) (by decide)]; exact hY_60
    · refine y_aload_n (pc' := 26) rfl C dX13_puts_25 rfl ?_
      refine y_iconst (pc' := 27) rfl (v := 2) C dX13_puts_26 (by decide) ?_
      refine y_aload_n (pc' := 28) rfl C dX13_puts_27 rfl ?_
      refine y_get (pc' := 31) rfl (v := .ref (a (4, 0, 0))) C fl_X13_7 (v4 rfl) rfl rfl dX13_puts_28 rfl ?_
      refine y_sipush (pc' := 34) rfl (v := 195) C dX13_puts_31 (by decide) ?_
      refine y_iload_n (pc' := 35) rfl C dX13_puts_34 rfl ?_
      refine y_iadd (pc' := 36) rfl C dX13_puts_35 ?_
      refine y_ialdN (pc' := 37) rfl C (195 + q) (nadd (rfl : (195 : Int32) = nI 195) hp) (v4 rfl) rfl rfl (show (195 + q) < 227 by omega) rfl dX13_puts_36 ?_
      refine y_cVi (pc' := 40) (k' := 0) (n' := 0) rfl C (c_X13_refused _ G a Y 2 (Y (4, 0, 0) (195 + q))) my_X13_refused aw_1119 (v4 rfl) rfl rfl rfl rfl rfl (Nat.le_of_ble_eq_true rfl) rfl dX13_puts_37 rfl rfl (fun r_37 Y_37 hp_37 => ?_)
      obtain ⟨rfl, hY_37⟩ := hp_37
      refine y_ireturn C rfl rfl dX13_puts_40 rfl rfl ?_
      refine ⟨?_, ?_⟩
      · rw [putA, if_pos h_5, hnq, if_neg c_22]; try rfl
      · rw [putA, if_pos h_5, hnq, if_neg c_22, setAct_r (by decide) (by decide)]; exact hY_37
  · have h_5 := bi_0.mp c_5
    refine y_sipush (pc' := 11) rfl (v := (-10001)) C dX13_puts_8 (by decide) ?_
    refine y_ireturn C rfl rfl dX13_puts_11 rfl rfl ?_
    refine ⟨?_, ?_⟩
    · rw [putA, if_neg h_5]; try rfl
    · rw [putA, if_neg h_5, sa_none]
-- KilnKeeperModel.takes 
set_option maxHeartbeats 1000000 in
set_option maxRecDepth 20000 in
theorem c_X13_takes (l : Launch) (G : GT) (a : Id3 → Nat) (Y : YT) (np : Nat) (p : Int32)  (hnp : np ≤ 8) (h15 : Y (4, 0, 0) 15 = nI np) : CtY l G a yX13_takes cX13_takes 2 (some .int) ({ frames := 2, cells := 0, slots := 0, locals := 43 } : Room) [.ref (a (4, 0, 8)), .int p] Y (PI (fun r Y' => r = (takeA (Y (4, 0, 0)) p).1 ∧ Y' = setAct Y (takeA (Y (4, 0, 0)) p))) := by
  refine CtY.of (by decide) rfl (Nat.le_of_ble_eq_true rfl) ?_
  intro X A C hl
  subst hl
  refine y_aload_n (pc' := 1) rfl C dX13_takes_0 rfl ?_
  refine y_iload_n (pc' := 2) rfl C dX13_takes_1 rfl ?_
  refine y_cVi (pc' := 5) (k' := 0) (n' := 0) rfl C (c_X13_isPot _ G a Y p) my_X13_isPot aw_1222 (v4 rfl) rfl rfl rfl rfl rfl (Nat.le_of_ble_eq_true rfl) rfl dX13_takes_2 rfl rfl (fun r_2 Y_2 hp_2 => ?_)
  obtain ⟨rfl, hY_2⟩ := hp_2
  have hY_2 := hY_2.symm; subst hY_2
  refine y_if_ne (pc' := 8) rfl (tgt := 12) C dX13_takes_5 (by decide) (fun c_5 => ?_) (fun c_5 => ?_)
  · have h_5 := bi_n0 c_5
    obtain ⟨q, hq, hp⟩ := pot_nI h15 hnp h_5
    have hnq : nn p = q := by rw [hp, nn_nI (by omega)]
    have hnpn : nn (Y (4, 0, 0) 15) = np := by rw [h15, nn_nI (by omega)]
    refine y_aload_n (pc' := 13) rfl C dX13_takes_12 rfl ?_
    refine y_get (pc' := 16) rfl (v := .ref (a (4, 0, 0))) C fl_X13_7 (v4 rfl) rfl rfl dX13_takes_13 rfl ?_
    refine y_sipush (pc' := 19) rfl (v := 211) C dX13_takes_16 (by decide) ?_
    refine y_iload_n (pc' := 20) rfl C dX13_takes_19 rfl ?_
    refine y_iadd (pc' := 21) rfl C dX13_takes_20 ?_
    refine y_ialdN (pc' := 22) rfl C (211 + q) (nadd (rfl : (211 : Int32) = nI 211) hp) (v4 rfl) rfl rfl (show (211 + q) < 227 by omega) rfl dX13_takes_21 ?_
    refine y_if_ne (pc' := 25) rfl (tgt := 41) C dX13_takes_22 (by decide) (fun c_22 => ?_) (fun c_22 => ?_)
    · refine y_aload_n (pc' := 42) rfl C dX13_takes_41 rfl ?_
      refine y_get (pc' := 45) rfl (v := .ref (a (4, 0, 0))) C fl_X13_7 (v4 rfl) rfl rfl dX13_takes_42 rfl ?_
      refine y_iconst (pc' := 46) rfl (v := 0) C dX13_takes_45 (by decide) ?_
      refine y_ialdN (pc' := 47) rfl C 0 rfl (v4 rfl) rfl rfl (by decide) rfl dX13_takes_46 ?_
      refine y_bipush (pc' := 49) rfl (v := 60) C dX13_takes_47 (by decide) ?_
      refine y_ic_le (pc' := 52) rfl (tgt := 64) C dX13_takes_49 (by decide) (fun c_49 => ?_) (fun c_49 => ?_)
      · refine y_aload_n (pc' := 65) rfl C dX13_takes_64 rfl ?_
        refine y_get (pc' := 68) rfl (v := .ref (a (4, 0, 0))) C fl_X13_7 (v4 rfl) rfl rfl dX13_takes_65 rfl ?_
        refine y_sipush (pc' := 71) rfl (v := 211) C dX13_takes_68 (by decide) ?_
        refine y_iload_n (pc' := 72) rfl C dX13_takes_71 rfl ?_
        refine y_iadd (pc' := 73) rfl C dX13_takes_72 ?_
        refine y_iconst (pc' := 74) rfl (v := 0) C dX13_takes_73 (by decide) ?_
        refine y_iastN (pc' := 75) rfl C (211 + q) (nadd (rfl : (211 : Int32) = nI 211) hp) (v4 rfl) rfl rfl (show (211 + q) < 227 by omega) rfl dX13_takes_74 (fun Z74 hZ74 => ?_)
        refine y_aload_n (pc' := 76) rfl C dX13_takes_75 rfl ?_
        refine y_get (pc' := 79) rfl (v := .ref (a (4, 0, 0))) C fl_X13_7 (v4 rfl) rfl rfl dX13_takes_76 rfl ?_
        refine y_sipush (pc' := 82) rfl (v := 195) C dX13_takes_79 (by decide) ?_
        refine y_iload_n (pc' := 83) rfl C dX13_takes_82 rfl ?_
        refine y_iadd (pc' := 84) rfl C dX13_takes_83 ?_
        refine y_aload_n (pc' := 85) rfl C dX13_takes_84 rfl ?_
        refine y_get (pc' := 88) rfl (v := .ref (a (4, 0, 0))) C fl_X13_7 (v4 rfl) rfl rfl dX13_takes_85 rfl ?_
        refine y_sipush (pc' := 91) rfl (v := 195) C dX13_takes_88 (by decide) ?_
        refine y_iload_n (pc' := 92) rfl C dX13_takes_91 rfl ?_
        refine y_iadd (pc' := 93) rfl C dX13_takes_92 ?_
        refine y_ialdN (pc' := 94) rfl C (195 + q) (nadd (rfl : (195 : Int32) = nI 195) hp) (v4 rfl) rfl rfl (show (195 + q) < 227 by omega) rfl dX13_takes_93 ?_
        refine y_iconst (pc' := 95) rfl (v := 1) C dX13_takes_94 (by decide) ?_
        have K95 : ∀ (w_95 : Int32) (_ : w_95 = (if (Z74 (4, 0, 0) (195 + q)) = 1 then 0 else (Z74 (4, 0, 0) (195 + q)))), WY X G A a Z74 0 0 (MEnd X G A ({ frames := 2, cells := 0, slots := 0, locals := 43 } : Room) (PY G a (PI (fun r Y' => r = (takeA (Y (4, 0, 0)) p).1 ∧ Y' = setAct Y (takeA (Y (4, 0, 0)) p))))) 112 [some (.ref (a (4, 0, 8))), some (.int p)] [.int w_95, .int ((195 + p)), .ref (a (4, 0, 0))] := by
          intro w_95 ew_95
          refine y_iastN (pc' := 113) rfl C (195 + q) (nadd (rfl : (195 : Int32) = nI 195) hp) (v4 rfl) rfl rfl (show (195 + q) < 227 by omega) rfl dX13_takes_112 (fun Z112 hZ112 => ?_)
          refine y_aload_n (pc' := 114) rfl C dX13_takes_113 rfl ?_
          refine y_aload_n (pc' := 115) rfl C dX13_takes_114 rfl ?_
          refine y_get (pc' := 118) rfl (v := .ref (a (4, 0, 0))) C fl_X13_7 (v4 rfl) rfl rfl dX13_takes_115 rfl ?_
          refine y_sipush (pc' := 121) rfl (v := 195) C dX13_takes_118 (by decide) ?_
          refine y_iload_n (pc' := 122) rfl C dX13_takes_121 rfl ?_
          refine y_iadd (pc' := 123) rfl C dX13_takes_122 ?_
          refine y_ialdN (pc' := 124) rfl C (195 + q) (nadd (rfl : (195 : Int32) = nI 195) hp) (v4 rfl) rfl rfl (show (195 + q) < 227 by omega) rfl dX13_takes_123 ?_
          refine y_cVi (pc' := 127) (k' := 0) (n' := 0) rfl C (c_X13_done _ G a Z112 (Z112 (4, 0, 0) (195 + q))) my_X13_done aw_1123 (v4 rfl) rfl rfl rfl rfl rfl (Nat.le_of_ble_eq_true rfl) rfl dX13_takes_124 rfl rfl (fun r_124 Y_124 hp_124 => ?_)
          obtain ⟨rfl, hY_124⟩ := hp_124
          refine y_ireturn C rfl rfl dX13_takes_127 rfl rfl ?_
          have e1 : Z74 (4, 0, 0) (195 + q) = Y (4, 0, 0) (195 + q) := by rw [hZ74, up_setA, setA_s, upd_n (by omega)]
          rw [e1] at ew_95
          refine ⟨?_, ?_⟩
          · rw [takeA, if_pos h_5, hnq, if_neg c_22, if_pos c_49]; try rfl
          · rw [takeA, if_pos h_5, hnq, if_neg c_22, if_pos c_49, setAct_d, hY_124, hZ112, hZ74, ew_95]; simp only [up_setA, setA_setA, setA_s, upd_s]; rfl
        refine y_ic_ne (pc' := 98) rfl (tgt := 102) C dX13_takes_95 (by decide) (fun c_95 => ?_) (fun c_95 => ?_)
        · refine y_aload_n (pc' := 103) rfl C dX13_takes_102 rfl ?_
          refine y_get (pc' := 106) rfl (v := .ref (a (4, 0, 0))) C fl_X13_7 (v4 rfl) rfl rfl dX13_takes_103 rfl ?_
          refine y_sipush (pc' := 109) rfl (v := 195) C dX13_takes_106 (by decide) ?_
          refine y_iload_n (pc' := 110) rfl C dX13_takes_109 rfl ?_
          refine y_iadd (pc' := 111) rfl C dX13_takes_110 ?_
          refine y_ialdN (pc' := 112) rfl C (195 + q) (nadd (rfl : (195 : Int32) = nI 195) hp) (v4 rfl) rfl rfl (show (195 + q) < 227 by omega) rfl dX13_takes_111 ?_
          exact K95 _ (by rw [if_neg c_95])
        · refine y_iconst (pc' := 99) rfl (v := 0) C dX13_takes_98 (by decide) ?_
          refine y_goto (tgt := 112) C dX13_takes_99 (by decide) ?_
          exact K95 _ (by rw [if_pos c_95])
      · refine y_aload_n (pc' := 53) rfl C dX13_takes_52 rfl ?_
        refine y_iconst (pc' := 54) rfl (v := 4) C dX13_takes_53 (by decide) ?_
        refine y_aload_n (pc' := 55) rfl C dX13_takes_54 rfl ?_
        refine y_get (pc' := 58) rfl (v := .ref (a (4, 0, 0))) C fl_X13_7 (v4 rfl) rfl rfl dX13_takes_55 rfl ?_
        refine y_iconst (pc' := 59) rfl (v := 0) C dX13_takes_58 (by decide) ?_
        refine y_ialdN (pc' := 60) rfl C 0 rfl (v4 rfl) rfl rfl (by decide) rfl dX13_takes_59 ?_
        refine y_cVi (pc' := 63) (k' := 0) (n' := 0) rfl C (c_X13_refused _ G a Y 4 (Y (4, 0, 0) 0)) my_X13_refused aw_1119 (v4 rfl) rfl rfl rfl rfl rfl (Nat.le_of_ble_eq_true rfl) rfl dX13_takes_60 rfl rfl (fun r_60 Y_60 hp_60 => ?_)
        obtain ⟨rfl, hY_60⟩ := hp_60
        refine y_ireturn C rfl rfl dX13_takes_63 rfl rfl ?_
        refine ⟨?_, ?_⟩
        · rw [takeA, if_pos h_5, hnq, if_neg c_22, if_neg c_49]; try rfl
        · rw [takeA, if_pos h_5, hnq, if_neg c_22, if_neg c_49, setAct_r (by decide) (by decide)]; exact hY_60
    · refine y_aload_n (pc' := 26) rfl C dX13_takes_25 rfl ?_
      refine y_iconst (pc' := 27) rfl (v := 3) C dX13_takes_26 (by decide) ?_
      refine y_aload_n (pc' := 28) rfl C dX13_takes_27 rfl ?_
      refine y_get (pc' := 31) rfl (v := .ref (a (4, 0, 0))) C fl_X13_7 (v4 rfl) rfl rfl dX13_takes_28 rfl ?_
      refine y_sipush (pc' := 34) rfl (v := 195) C dX13_takes_31 (by decide) ?_
      refine y_iload_n (pc' := 35) rfl C dX13_takes_34 rfl ?_
      refine y_iadd (pc' := 36) rfl C dX13_takes_35 ?_
      refine y_ialdN (pc' := 37) rfl C (195 + q) (nadd (rfl : (195 : Int32) = nI 195) hp) (v4 rfl) rfl rfl (show (195 + q) < 227 by omega) rfl dX13_takes_36 ?_
      refine y_cVi (pc' := 40) (k' := 0) (n' := 0) rfl C (c_X13_refused _ G a Y 3 (Y (4, 0, 0) (195 + q))) my_X13_refused aw_1119 (v4 rfl) rfl rfl rfl rfl rfl (Nat.le_of_ble_eq_true rfl) rfl dX13_takes_37 rfl rfl (fun r_37 Y_37 hp_37 => ?_)
      obtain ⟨rfl, hY_37⟩ := hp_37
      refine y_ireturn C rfl rfl dX13_takes_40 rfl rfl ?_
      refine ⟨?_, ?_⟩
      · rw [takeA, if_pos h_5, hnq, if_pos c_22]; try rfl
      · rw [takeA, if_pos h_5, hnq, if_pos c_22, setAct_r (by decide) (by decide)]; exact hY_37
  · have h_5 := bi_0.mp c_5
    refine y_sipush (pc' := 11) rfl (v := (-10001)) C dX13_takes_8 (by decide) ?_
    refine y_ireturn C rfl rfl dX13_takes_11 rfl rfl ?_
    refine ⟨?_, ?_⟩
    · rw [takeA, if_neg h_5]; try rfl
    · rw [takeA, if_neg h_5, sa_none]
-- KilnKeeperModel.changed 
set_option maxHeartbeats 1000000 in
set_option maxRecDepth 20000 in
theorem c_X13_changed (l : Launch) (G : GT) (a : Id3 → Nat) (Y : YT) (kp : Nat) (x : Int32)  (hk : Y (4, 0, 8) 5 = nI kp) (hkp : kp ≤ 8) : CtY l G a yX13_changed cX13_changed 3 (some .int) ({ frames := 0, cells := 0, slots := 0, locals := 0 } : Room) [.ref (a (4, 0, 8)), .int x] Y (PI (fun r Y' => r = x ∧ Y' = hpush Y)) := by
  refine CtY.of (by decide) rfl (Nat.le_of_ble_eq_true rfl) ?_
  intro X A C hl
  subst hl
  refine y_aload_n (pc' := 1) rfl C dX13_changed_0 rfl ?_
  refine y_get (pc' := 4) rfl C fl_X13_34 (v4 rfl) rfl rfl dX13_changed_1 rfl ?_
  refine y_bipush (pc' := 6) rfl (v := 8) C dX13_changed_4 (by decide) ?_
  refine y_ic_ne (pc' := 9) rfl (tgt := 43) C dX13_changed_6 (by decide) (fun c_6 => ?_) (fun c_6 => ?_)
  · have hk8 : kp < 8 := by rcases Nat.lt_or_ge kp 8 with q | q; exact q; exact absurd (by rw [hk, show kp = 8 by omega]; rfl) c_6
    refine y_aload_n (pc' := 44) rfl C dX13_changed_43 rfl ?_
    refine y_dup (pc' := 45) rfl C dX13_changed_44 rfl ?_
    refine y_get (pc' := 48) rfl C fl_X13_34 (v4 rfl) rfl rfl dX13_changed_45 rfl ?_
    refine y_iconst (pc' := 49) rfl (v := 1) C dX13_changed_48 (by decide) ?_
    refine y_iadd (pc' := 50) rfl C dX13_changed_49 ?_
    refine y_put (pc' := 53) rfl C fp_X13_34 (v4 rfl) rfl rfl dX13_changed_50 rfl (fun Z50 hZ50 => ?_)
    have ek0 : Z50 (4, 0, 8) 5 = nI (kp + 1) := (by rw [hZ50, up_s, upd_s, hk]; exact nI_add kp 1)
    refine y_iconst (pc' := 54) rfl (v := 0) C dX13_changed_53 (by decide) ?_
    refine y_istore_n (pc' := 55) rfl C dX13_changed_54 (by decide) ?_
    suffices K55 : ∀ (fu_ i55 : Nat) (Yl55 : YT), i55 ≤ 227 → 227 < fu_ + i55 → Yl55 = setA Z50 (4, 0, 4) (lay (Z50 (4, 0, 4)) (Z50 (4, 0, 1)) (227 * ((kp + 1) - 1)) i55) → WY X G A a Yl55 0 0 _ 55 [some (.ref (a (4, 0, 8))), some (.int x), some (.int ((nI i55)))] [] from K55 (227 + 1) 0 _ (by omega) (by omega) (by rw [lay_0, setA_self])
    intro fu_
    induction fu_ with
    | zero => intro i55 Yl55 h1 h2; omega
    | succ fu_ ih55 =>
      intro i55 Yl55 hi55 hm55 hYl55
      have ek : Yl55 (4, 0, 8) 5 = nI (kp + 1) := by rw [hYl55, setA_n (by decide)]; exact ek0
      refine y_iload_n (pc' := 56) rfl C dX13_changed_55 rfl ?_
      refine y_sipush (pc' := 59) rfl (v := 227) C dX13_changed_56 (by decide) ?_
      refine y_ic_ge (pc' := 62) rfl (tgt := 91) C dX13_changed_59 (by decide) (fun c_59 => ?_) (fun c_59 => ?_)
      · have hb55 : 227 ≤ i55 := nI_le_iff (by omega) (by omega) c_59
        refine y_iload_n (pc' := 92) rfl C dX13_changed_91 rfl ?_
        refine y_ireturn C rfl rfl dX13_changed_92 rfl rfl ?_
        refine ⟨rfl, ?_⟩
        rw [hpush, if_neg c_6, hYl55, show i55 = 227 by omega, hZ50, up_n (by decide), up_n (by decide), hk, nn_nI (by omega)]
      · have hb55 : i55 < 227 := nI_nle_iff (by omega) (by omega) c_59
        refine y_aload_n (pc' := 63) rfl C dX13_changed_62 rfl ?_
        refine y_get (pc' := 66) rfl (v := .ref (a (4, 0, 4))) C fl_X13_22 (v4 rfl) rfl rfl dX13_changed_63 rfl ?_
        refine y_sipush (pc' := 69) rfl (v := 227) C dX13_changed_66 (by decide) ?_
        refine y_aload_n (pc' := 70) rfl C dX13_changed_69 rfl ?_
        refine y_get (pc' := 73) rfl C fl_X13_34 (v4 rfl) rfl rfl dX13_changed_70 rfl ?_
        refine y_iconst (pc' := 74) rfl (v := 1) C dX13_changed_73 (by decide) ?_
        refine y_isub (pc' := 75) rfl C dX13_changed_74 ?_
        refine y_imul (pc' := 76) rfl C dX13_changed_75 ?_
        refine y_iload_n (pc' := 77) rfl C dX13_changed_76 rfl ?_
        refine y_iadd (pc' := 78) rfl C dX13_changed_77 ?_
        refine y_aload_n (pc' := 79) rfl C dX13_changed_78 rfl ?_
        refine y_get (pc' := 82) rfl (v := .ref (a (4, 0, 1))) C fl_X13_13 (v4 rfl) rfl rfl dX13_changed_79 rfl ?_
        refine y_iload_n (pc' := 83) rfl C dX13_changed_82 rfl ?_
        refine y_ialdN (pc' := 84) rfl C i55 rfl (v4 rfl) rfl rfl (show i55 < 227 by omega) rfl dX13_changed_83 ?_
        refine y_iastN (pc' := 85) rfl C ((227 * ((kp + 1) - 1)) + i55) (nadd (nmul (rfl : (227 : Int32) = nI 227) (nsub ek (rfl : (1 : Int32) = nI 1) (by omega))) rfl) (v4 rfl) rfl rfl (show ((227 * ((kp + 1) - 1)) + i55) < 1816 by omega) rfl dX13_changed_84 (fun Z84 hZ84 => ?_)
        refine y_iinc (pc' := 88) rfl (v := (nI (i55 + 1))) C dX13_changed_85 rfl (nI_1 i55) (by decide) ?_
        refine y_goto (tgt := 55) C dX13_changed_88 (by decide) ?_
        exact ih55 (i55 + 1) _ (by omega) (by omega) (by rw [hZ84, up_setA, hYl55, setA_setA, setA_s, setA_n (by decide), lay_s])
  · refine y_iconst (pc' := 10) rfl (v := 0) C dX13_changed_9 (by decide) ?_
    refine y_istore_n (pc' := 11) rfl C dX13_changed_10 (by decide) ?_
    suffices K11 : ∀ (fu_ i11 : Nat) (Yl11 : YT), i11 ≤ 1589 → 1589 < fu_ + i11 → Yl11 = setA Y (4, 0, 4) (shl4 (Y (4, 0, 4)) i11) → WY X G A a Yl11 0 0 _ 11 [some (.ref (a (4, 0, 8))), some (.int x), some (.int ((nI i11)))] [] from K11 (1589 + 1) 0 _ (by omega) (by omega) (by rw [shl4_0, setA_self])
    intro fu_
    induction fu_ with
    | zero => intro i11 Yl11 h1 h2; omega
    | succ fu_ ih11 =>
      intro i11 Yl11 hi11 hm11 hYl11
      refine y_iload_n (pc' := 12) rfl C dX13_changed_11 rfl ?_
      refine y_sipush (pc' := 15) rfl (v := 1589) C dX13_changed_12 (by decide) ?_
      refine y_ic_ge (pc' := 18) rfl (tgt := 40) C dX13_changed_15 (by decide) (fun c_15 => ?_) (fun c_15 => ?_)
      · have hb11 : 1589 ≤ i11 := nI_le_iff (by omega) (by omega) c_15
        refine y_goto (tgt := 53) C dX13_changed_40 (by decide) ?_
        have ek0 : Yl11 (4, 0, 8) 5 = nI 8 := (by rw [hYl11, setA_n (by decide)]; exact c_6)
        refine y_iconst (pc' := 54) rfl (v := 0) C dX13_changed_53 (by decide) ?_
        refine y_istore_n (pc' := 55) rfl C dX13_changed_54 (by decide) ?_
        suffices K55 : ∀ (fu_ i55 : Nat) (Yl55 : YT), i55 ≤ 227 → 227 < fu_ + i55 → Yl55 = setA Yl11 (4, 0, 4) (lay (Yl11 (4, 0, 4)) (Yl11 (4, 0, 1)) (227 * (8 - 1)) i55) → WY X G A a Yl55 0 0 _ 55 [some (.ref (a (4, 0, 8))), some (.int x), some (.int ((nI i55)))] [] from K55 (227 + 1) 0 _ (by omega) (by omega) (by rw [lay_0, setA_self])
        intro fu_
        induction fu_ with
        | zero => intro i55 Yl55 h1 h2; omega
        | succ fu_ ih55 =>
          intro i55 Yl55 hi55 hm55 hYl55
          have ek : Yl55 (4, 0, 8) 5 = nI 8 := by rw [hYl55, setA_n (by decide)]; exact ek0
          refine y_iload_n (pc' := 56) rfl C dX13_changed_55 rfl ?_
          refine y_sipush (pc' := 59) rfl (v := 227) C dX13_changed_56 (by decide) ?_
          refine y_ic_ge (pc' := 62) rfl (tgt := 91) C dX13_changed_59 (by decide) (fun c_59 => ?_) (fun c_59 => ?_)
          · have hb55 : 227 ≤ i55 := nI_le_iff (by omega) (by omega) c_59
            refine y_iload_n (pc' := 92) rfl C dX13_changed_91 rfl ?_
            refine y_ireturn C rfl rfl dX13_changed_92 rfl rfl ?_
            refine ⟨rfl, ?_⟩
            rw [hpush, if_pos c_6, hYl55, show i55 = 227 by omega, hYl11, show i11 = 1589 by omega, setA_setA, setA_s, setA_n (by decide)]
          · have hb55 : i55 < 227 := nI_nle_iff (by omega) (by omega) c_59
            refine y_aload_n (pc' := 63) rfl C dX13_changed_62 rfl ?_
            refine y_get (pc' := 66) rfl (v := .ref (a (4, 0, 4))) C fl_X13_22 (v4 rfl) rfl rfl dX13_changed_63 rfl ?_
            refine y_sipush (pc' := 69) rfl (v := 227) C dX13_changed_66 (by decide) ?_
            refine y_aload_n (pc' := 70) rfl C dX13_changed_69 rfl ?_
            refine y_get (pc' := 73) rfl C fl_X13_34 (v4 rfl) rfl rfl dX13_changed_70 rfl ?_
            refine y_iconst (pc' := 74) rfl (v := 1) C dX13_changed_73 (by decide) ?_
            refine y_isub (pc' := 75) rfl C dX13_changed_74 ?_
            refine y_imul (pc' := 76) rfl C dX13_changed_75 ?_
            refine y_iload_n (pc' := 77) rfl C dX13_changed_76 rfl ?_
            refine y_iadd (pc' := 78) rfl C dX13_changed_77 ?_
            refine y_aload_n (pc' := 79) rfl C dX13_changed_78 rfl ?_
            refine y_get (pc' := 82) rfl (v := .ref (a (4, 0, 1))) C fl_X13_13 (v4 rfl) rfl rfl dX13_changed_79 rfl ?_
            refine y_iload_n (pc' := 83) rfl C dX13_changed_82 rfl ?_
            refine y_ialdN (pc' := 84) rfl C i55 rfl (v4 rfl) rfl rfl (show i55 < 227 by omega) rfl dX13_changed_83 ?_
            refine y_iastN (pc' := 85) rfl C ((227 * (8 - 1)) + i55) (nadd (nmul (rfl : (227 : Int32) = nI 227) (nsub ek (rfl : (1 : Int32) = nI 1) (by omega))) rfl) (v4 rfl) rfl rfl (show ((227 * (8 - 1)) + i55) < 1816 by omega) rfl dX13_changed_84 (fun Z84 hZ84 => ?_)
            refine y_iinc (pc' := 88) rfl (v := (nI (i55 + 1))) C dX13_changed_85 rfl (nI_1 i55) (by decide) ?_
            refine y_goto (tgt := 55) C dX13_changed_88 (by decide) ?_
            exact ih55 (i55 + 1) _ (by omega) (by omega) (by rw [hZ84, up_setA, hYl55, setA_setA, setA_s, setA_n (by decide), lay_s])
      · have hb11 : i11 < 1589 := nI_nle_iff (by omega) (by omega) c_15
        refine y_aload_n (pc' := 19) rfl C dX13_changed_18 rfl ?_
        refine y_get (pc' := 22) rfl (v := .ref (a (4, 0, 4))) C fl_X13_22 (v4 rfl) rfl rfl dX13_changed_19 rfl ?_
        refine y_iload_n (pc' := 23) rfl C dX13_changed_22 rfl ?_
        refine y_aload_n (pc' := 24) rfl C dX13_changed_23 rfl ?_
        refine y_get (pc' := 27) rfl (v := .ref (a (4, 0, 4))) C fl_X13_22 (v4 rfl) rfl rfl dX13_changed_24 rfl ?_
        refine y_iload_n (pc' := 28) rfl C dX13_changed_27 rfl ?_
        refine y_sipush (pc' := 31) rfl (v := 227) C dX13_changed_28 (by decide) ?_
        refine y_iadd (pc' := 32) rfl C dX13_changed_31 ?_
        refine y_ialdN (pc' := 33) rfl C (i11 + 227) (nadd rfl (rfl : (227 : Int32) = nI 227)) (v4 rfl) rfl rfl (show (i11 + 227) < 1816 by omega) rfl dX13_changed_32 ?_
        refine y_iastN (pc' := 34) rfl C i11 rfl (v4 rfl) rfl rfl (show i11 < 1816 by omega) rfl dX13_changed_33 (fun Z33 hZ33 => ?_)
        refine y_iinc (pc' := 37) rfl (v := (nI (i11 + 1))) C dX13_changed_34 rfl (nI_1 i11) (by decide) ?_
        refine y_goto (tgt := 11) C dX13_changed_37 (by decide) ?_
        exact ih11 (i11 + 1) _ (by omega) (by omega) (by rw [hZ33, up_setA, hYl11, setA_setA, setA_s, shl4_s])
-- KilnKeeperModel.ends 
set_option maxHeartbeats 1000000 in
set_option maxRecDepth 20000 in
theorem c_X13_ends (l : Launch) (G : GT) (a : Id3 → Nat) (Y : YT) (kp : Nat) (x : Int32)  (hk : Y (4, 0, 8) 5 = nI kp) (hkp : kp ≤ 8) : CtY l G a yX13_ends cX13_ends 2 (some .int) ({ frames := 1, cells := 0, slots := 0, locals := 22 } : Room) [.ref (a (4, 0, 8)), .int x] Y (PI (fun r Y' => r = endX Y x ∧ Y' = endY Y x)) := by
  refine CtY.of (by decide) rfl (Nat.le_of_ble_eq_true rfl) ?_
  intro X A C hl
  subst hl
  refine y_iload_n (pc' := 1) rfl C dX13_ends_0 rfl ?_
  refine y_if_ne (pc' := 4) rfl (tgt := 13) C dX13_ends_1 (by decide) (fun c_1 => ?_) (fun c_1 => ?_)
  · refine y_iload_n (pc' := 14) rfl C dX13_ends_13 rfl ?_
    refine y_if_ge (pc' := 17) rfl (tgt := 19) C dX13_ends_14 (by decide) (fun c_14 => ?_) (fun c_14 => ?_)
    · refine y_aload_n (pc' := 20) rfl C dX13_ends_19 rfl ?_
      refine y_iload_n (pc' := 21) rfl C dX13_ends_20 rfl ?_
      refine y_put (pc' := 24) rfl C fp_X13_48 (v4 rfl) rfl rfl dX13_ends_21 rfl (fun Z21 hZ21 => ?_)
      refine y_aload_n (pc' := 25) rfl C dX13_ends_24 rfl ?_
      refine y_aload_n (pc' := 26) rfl C dX13_ends_25 rfl ?_
      refine y_get (pc' := 29) rfl C fl_X13_38 (v4 rfl) rfl rfl dX13_ends_26 rfl ?_
      refine y_put (pc' := 32) rfl C fp_X13_51 (v4 rfl) rfl rfl dX13_ends_29 rfl (fun Z29 hZ29 => ?_)
      refine y_sipush (pc' := 35) rfl (v := (-10004)) C dX13_ends_32 (by decide) ?_
      refine y_ireturn C rfl rfl dX13_ends_35 rfl rfl ?_
      exact ⟨by rw [endX, if_neg c_1, if_neg (Int32.not_lt.mpr c_14)], by rw [endY, if_neg c_1, if_neg (Int32.not_lt.mpr c_14), hZ29, hZ21, up_s, upd_n (by decide)]⟩
    · refine y_iload_n (pc' := 18) rfl C dX13_ends_17 rfl ?_
      refine y_ireturn C rfl rfl dX13_ends_18 rfl rfl ?_
      exact ⟨by rw [endX, if_neg c_1, if_pos (nle_lt c_14)], by rw [endY, if_neg c_1, if_pos (nle_lt c_14)]⟩
  · refine y_aload_n (pc' := 5) rfl C dX13_ends_4 rfl ?_
    refine y_aload_n (pc' := 6) rfl C dX13_ends_5 rfl ?_
    refine y_get (pc' := 9) rfl C fl_X13_41 (v4 rfl) rfl rfl dX13_ends_6 rfl ?_
    refine y_cVi (pc' := 12) (k' := 0) (n' := 0) rfl C (c_X13_changed _ G a Y kp (Y (4, 0, 8) 15) hk hkp) my_X13_changed aw_1131 (v4 rfl) rfl rfl rfl rfl rfl (Nat.le_of_ble_eq_true rfl) rfl dX13_ends_9 rfl rfl (fun r_9 Y_9 hp_9 => ?_)
    obtain ⟨rfl, hY_9⟩ := hp_9
    refine y_ireturn C rfl rfl dX13_ends_12 rfl rfl ?_
    exact ⟨by rw [endX, if_pos c_1], by rw [endY, if_pos c_1]; exact hY_9⟩
-- KilnKeeperModel.aim 
set_option maxHeartbeats 1000000 in
set_option maxRecDepth 20000 in
theorem c_X13_aim (l : Launch) (G : GT) (a : Id3 → Nat) (Y : YT) (kp : Nat) (d : Int32)  (hk : Y (4, 0, 8) 5 = nI kp) (hkp : kp ≤ 8) : CtY l G a yX13_aim cX13_aim 2 (some .int) ({ frames := 2, cells := 0, slots := 0, locals := 44 } : Room) [.ref (a (4, 0, 8)), .int d] Y (PI (fun r Y' => r = doR Y (aimA (Y (4, 0, 0)) d) ∧ Y' = doY Y (aimA (Y (4, 0, 0)) d))) := by
  refine CtY.of (by decide) rfl (Nat.le_of_ble_eq_true rfl) ?_
  intro X A C hl
  subst hl
  refine y_aload_n (pc' := 1) rfl C dX13_aim_0 rfl ?_
  refine y_cVv (pc' := 4) (k' := 0) (n' := 0) rfl C (c_X13_remembers _ G a Y ) my_X13_remembers aw_1108 (v4 rfl) rfl rfl rfl rfl rfl (Nat.le_of_ble_eq_true rfl) rfl dX13_aim_1 rfl rfl (fun Y_1 hY_1 => ?_)
  refine y_aload_n (pc' := 5) rfl C dX13_aim_4 rfl ?_
  refine y_aload_n (pc' := 6) rfl C dX13_aim_5 rfl ?_
  refine y_iload_n (pc' := 7) rfl C dX13_aim_6 rfl ?_
  refine y_cVi (pc' := 10) (k' := 0) (n' := 0) rfl C (c_X13_aims _ G a Y_1 d ) my_X13_aims aw_1112 (v4 rfl) rfl rfl rfl rfl rfl (Nat.le_of_ble_eq_true rfl) rfl dX13_aim_7 rfl rfl (fun r_7 Y_7 hp_7 => ?_)
  obtain ⟨rfl, hY_7⟩ := hp_7
  refine y_cVi (pc' := 13) (k' := 0) (n' := 0) rfl C (c_X13_ends _ G a Y_7 kp ((aimA (Y_1 (4, 0, 0)) d).1) (by rw [hY_7, setAct_5, hY_1, setA_n (by decide)]; exact hk) hkp) my_X13_ends aw_1127 (v4 rfl) rfl rfl rfl rfl rfl (Nat.le_of_ble_eq_true rfl) rfl dX13_aim_10 rfl rfl (fun r_10 Y_10 hp_10 => ?_)
  obtain ⟨rfl, hY_10⟩ := hp_10
  refine y_ireturn C rfl rfl dX13_aim_13 rfl rfl ?_
  have e1 : Y_1 (4, 0, 0) = Y (4, 0, 0) := by rw [hY_1]; exact setA_n (by decide)
  have e2 : Y_7 = setAct (rem1 Y) (aimA (Y (4, 0, 0)) d) := by rw [hY_7, e1, hY_1]; rfl
  rw [e1, e2] at hY_10
  exact ⟨by rw [e1, e2]; rfl, hY_10⟩
-- KilnKeeperModel.gains 
set_option maxHeartbeats 1000000 in
set_option maxRecDepth 20000 in
theorem c_X13_gains (l : Launch) (G : GT) (a : Id3 → Nat) (Y : YT) (kp : Nat) (e u c : Int32)  (hk : Y (4, 0, 8) 5 = nI kp) (hkp : kp ≤ 8) : CtY l G a yX13_gains cX13_gains 4 (some .int) ({ frames := 2, cells := 0, slots := 0, locals := 46 } : Room) [.ref (a (4, 0, 8)), .int e, .int u, .int c] Y (PI (fun r Y' => r = doR Y (gainA (Y (4, 0, 0)) e u c) ∧ Y' = doY Y (gainA (Y (4, 0, 0)) e u c))) := by
  refine CtY.of (by decide) rfl (Nat.le_of_ble_eq_true rfl) ?_
  intro X A C hl
  subst hl
  refine y_aload_n (pc' := 1) rfl C dX13_gains_0 rfl ?_
  refine y_cVv (pc' := 4) (k' := 0) (n' := 0) rfl C (c_X13_remembers _ G a Y ) my_X13_remembers aw_1108 (v4 rfl) rfl rfl rfl rfl rfl (Nat.le_of_ble_eq_true rfl) rfl dX13_gains_1 rfl rfl (fun Y_1 hY_1 => ?_)
  refine y_aload_n (pc' := 5) rfl C dX13_gains_4 rfl ?_
  refine y_aload_n (pc' := 6) rfl C dX13_gains_5 rfl ?_
  refine y_iload_n (pc' := 7) rfl C dX13_gains_6 rfl ?_
  refine y_iload_n (pc' := 8) rfl C dX13_gains_7 rfl ?_
  refine y_iload_n (pc' := 9) rfl C dX13_gains_8 rfl ?_
  refine y_cVi (pc' := 12) (k' := 0) (n' := 0) rfl C (c_X13_gainsOf _ G a Y_1 e u c ) my_X13_gainsOf aw_1139 (v4 rfl) rfl rfl rfl rfl rfl (Nat.le_of_ble_eq_true rfl) rfl dX13_gains_9 rfl rfl (fun r_9 Y_9 hp_9 => ?_)
  obtain ⟨rfl, hY_9⟩ := hp_9
  refine y_cVi (pc' := 15) (k' := 0) (n' := 0) rfl C (c_X13_ends _ G a Y_9 kp ((gainA (Y_1 (4, 0, 0)) e u c).1) (by rw [hY_9, setAct_5, hY_1, setA_n (by decide)]; exact hk) hkp) my_X13_ends aw_1127 (v4 rfl) rfl rfl rfl rfl rfl (Nat.le_of_ble_eq_true rfl) rfl dX13_gains_12 rfl rfl (fun r_12 Y_12 hp_12 => ?_)
  obtain ⟨rfl, hY_12⟩ := hp_12
  refine y_ireturn C rfl rfl dX13_gains_15 rfl rfl ?_
  have e1 : Y_1 (4, 0, 0) = Y (4, 0, 0) := by rw [hY_1]; exact setA_n (by decide)
  have e2 : Y_9 = setAct (rem1 Y) (gainA (Y (4, 0, 0)) e u c) := by rw [hY_9, e1, hY_1]; rfl
  rw [e1, e2] at hY_12
  exact ⟨by rw [e1, e2]; rfl, hY_12⟩
-- KilnKeeperModel.cap 
set_option maxHeartbeats 1000000 in
set_option maxRecDepth 20000 in
theorem c_X13_cap (l : Launch) (G : GT) (a : Id3 → Nat) (Y : YT) (kp : Nat) (c : Int32)  (hk : Y (4, 0, 8) 5 = nI kp) (hkp : kp ≤ 8) : CtY l G a yX13_cap cX13_cap 2 (some .int) ({ frames := 2, cells := 0, slots := 0, locals := 44 } : Room) [.ref (a (4, 0, 8)), .int c] Y (PI (fun r Y' => r = doR Y (capA (Y (4, 0, 0)) c) ∧ Y' = doY Y (capA (Y (4, 0, 0)) c))) := by
  refine CtY.of (by decide) rfl (Nat.le_of_ble_eq_true rfl) ?_
  intro X A C hl
  subst hl
  refine y_aload_n (pc' := 1) rfl C dX13_cap_0 rfl ?_
  refine y_cVv (pc' := 4) (k' := 0) (n' := 0) rfl C (c_X13_remembers _ G a Y ) my_X13_remembers aw_1108 (v4 rfl) rfl rfl rfl rfl rfl (Nat.le_of_ble_eq_true rfl) rfl dX13_cap_1 rfl rfl (fun Y_1 hY_1 => ?_)
  refine y_aload_n (pc' := 5) rfl C dX13_cap_4 rfl ?_
  refine y_aload_n (pc' := 6) rfl C dX13_cap_5 rfl ?_
  refine y_iload_n (pc' := 7) rfl C dX13_cap_6 rfl ?_
  refine y_cVi (pc' := 10) (k' := 0) (n' := 0) rfl C (c_X13_caps _ G a Y_1 c ) my_X13_caps aw_1147 (v4 rfl) rfl rfl rfl rfl rfl (Nat.le_of_ble_eq_true rfl) rfl dX13_cap_7 rfl rfl (fun r_7 Y_7 hp_7 => ?_)
  obtain ⟨rfl, hY_7⟩ := hp_7
  refine y_cVi (pc' := 13) (k' := 0) (n' := 0) rfl C (c_X13_ends _ G a Y_7 kp ((capA (Y_1 (4, 0, 0)) c).1) (by rw [hY_7, setAct_5, hY_1, setA_n (by decide)]; exact hk) hkp) my_X13_ends aw_1127 (v4 rfl) rfl rfl rfl rfl rfl (Nat.le_of_ble_eq_true rfl) rfl dX13_cap_10 rfl rfl (fun r_10 Y_10 hp_10 => ?_)
  obtain ⟨rfl, hY_10⟩ := hp_10
  refine y_ireturn C rfl rfl dX13_cap_13 rfl rfl ?_
  have e1 : Y_1 (4, 0, 0) = Y (4, 0, 0) := by rw [hY_1]; exact setA_n (by decide)
  have e2 : Y_7 = setAct (rem1 Y) (capA (Y (4, 0, 0)) c) := by rw [hY_7, e1, hY_1]; rfl
  rw [e1, e2] at hY_10
  exact ⟨by rw [e1, e2]; rfl, hY_10⟩
-- KilnKeeperModel.fuel 
set_option maxHeartbeats 1000000 in
set_option maxRecDepth 20000 in
theorem c_X13_fuel (l : Launch) (G : GT) (a : Id3 → Nat) (Y : YT) (kp : Nat) (f : Int32)  (hk : Y (4, 0, 8) 5 = nI kp) (hkp : kp ≤ 8) : CtY l G a yX13_fuel cX13_fuel 2 (some .int) ({ frames := 2, cells := 0, slots := 0, locals := 43 } : Room) [.ref (a (4, 0, 8)), .int f] Y (PI (fun r Y' => r = doR Y (fuelA (Y (4, 0, 0)) f) ∧ Y' = doY Y (fuelA (Y (4, 0, 0)) f))) := by
  refine CtY.of (by decide) rfl (Nat.le_of_ble_eq_true rfl) ?_
  intro X A C hl
  subst hl
  refine y_aload_n (pc' := 1) rfl C dX13_fuel_0 rfl ?_
  refine y_cVv (pc' := 4) (k' := 0) (n' := 0) rfl C (c_X13_remembers _ G a Y ) my_X13_remembers aw_1108 (v4 rfl) rfl rfl rfl rfl rfl (Nat.le_of_ble_eq_true rfl) rfl dX13_fuel_1 rfl rfl (fun Y_1 hY_1 => ?_)
  refine y_aload_n (pc' := 5) rfl C dX13_fuel_4 rfl ?_
  refine y_aload_n (pc' := 6) rfl C dX13_fuel_5 rfl ?_
  refine y_iload_n (pc' := 7) rfl C dX13_fuel_6 rfl ?_
  refine y_cVi (pc' := 10) (k' := 0) (n' := 0) rfl C (c_X13_fuels _ G a Y_1 f ) my_X13_fuels aw_1170 (v4 rfl) rfl rfl rfl rfl rfl (Nat.le_of_ble_eq_true rfl) rfl dX13_fuel_7 rfl rfl (fun r_7 Y_7 hp_7 => ?_)
  obtain ⟨rfl, hY_7⟩ := hp_7
  refine y_cVi (pc' := 13) (k' := 0) (n' := 0) rfl C (c_X13_ends _ G a Y_7 kp ((fuelA (Y_1 (4, 0, 0)) f).1) (by rw [hY_7, setAct_5, hY_1, setA_n (by decide)]; exact hk) hkp) my_X13_ends aw_1127 (v4 rfl) rfl rfl rfl rfl rfl (Nat.le_of_ble_eq_true rfl) rfl dX13_fuel_10 rfl rfl (fun r_10 Y_10 hp_10 => ?_)
  obtain ⟨rfl, hY_10⟩ := hp_10
  refine y_ireturn C rfl rfl dX13_fuel_13 rfl rfl ?_
  have e1 : Y_1 (4, 0, 0) = Y (4, 0, 0) := by rw [hY_1]; exact setA_n (by decide)
  have e2 : Y_7 = setAct (rem1 Y) (fuelA (Y (4, 0, 0)) f) := by rw [hY_7, e1, hY_1]; rfl
  rw [e1, e2] at hY_10
  exact ⟨by rw [e1, e2]; rfl, hY_10⟩
-- KilnKeeperModel.go 
set_option maxHeartbeats 1000000 in
set_option maxRecDepth 20000 in
theorem c_X13_go (l : Launch) (G : GT) (a : Id3 → Nat) (Y : YT) (kp : Nat) (m : Int32)  (hk : Y (4, 0, 8) 5 = nI kp) (hkp : kp ≤ 8) (hok : MOK (Y (4, 0, 0))) : CtY l G a yX13_go cX13_go 2 (some .int) ({ frames := 5, cells := 0, slots := 0, locals := 110 } : Room) [.ref (a (4, 0, 8)), .int m] Y (PI (fun r Y' => r = doR Y (goA (Y (4, 0, 0)) m) ∧ Y' = doY Y (goA (Y (4, 0, 0)) m))) := by
  refine CtY.of (by decide) rfl (Nat.le_of_ble_eq_true rfl) ?_
  intro X A C hl
  subst hl
  refine y_aload_n (pc' := 1) rfl C dX13_go_0 rfl ?_
  refine y_cVv (pc' := 4) (k' := 0) (n' := 0) rfl C (c_X13_remembers _ G a Y ) my_X13_remembers aw_1108 (v4 rfl) rfl rfl rfl rfl rfl (Nat.le_of_ble_eq_true rfl) rfl dX13_go_1 rfl rfl (fun Y_1 hY_1 => ?_)
  refine y_aload_n (pc' := 5) rfl C dX13_go_4 rfl ?_
  refine y_aload_n (pc' := 6) rfl C dX13_go_5 rfl ?_
  refine y_iload_n (pc' := 7) rfl C dX13_go_6 rfl ?_
  refine y_cVi (pc' := 10) (k' := 0) (n' := 0) rfl C (c_X13_goesOn _ G a Y_1 m (by rw [hY_1, setA_n (by decide)]; exact hok)) my_X13_goesOn aw_1178 (v4 rfl) rfl rfl rfl rfl rfl (Nat.le_of_ble_eq_true rfl) rfl dX13_go_7 rfl rfl (fun r_7 Y_7 hp_7 => ?_)
  obtain ⟨rfl, hY_7⟩ := hp_7
  refine y_cVi (pc' := 13) (k' := 0) (n' := 0) rfl C (c_X13_ends _ G a Y_7 kp ((goA (Y_1 (4, 0, 0)) m).1) (by rw [hY_7, setAct_5, hY_1, setA_n (by decide)]; exact hk) hkp) my_X13_ends aw_1127 (v4 rfl) rfl rfl rfl rfl rfl (Nat.le_of_ble_eq_true rfl) rfl dX13_go_10 rfl rfl (fun r_10 Y_10 hp_10 => ?_)
  obtain ⟨rfl, hY_10⟩ := hp_10
  refine y_ireturn C rfl rfl dX13_go_13 rfl rfl ?_
  have e1 : Y_1 (4, 0, 0) = Y (4, 0, 0) := by rw [hY_1]; exact setA_n (by decide)
  have e2 : Y_7 = setAct (rem1 Y) (goA (Y (4, 0, 0)) m) := by rw [hY_7, e1, hY_1]; rfl
  rw [e1, e2] at hY_10
  exact ⟨by rw [e1, e2]; rfl, hY_10⟩
-- KilnKeeperModel.pot 
set_option maxHeartbeats 1000000 in
set_option maxRecDepth 20000 in
theorem c_X13_pot (l : Launch) (G : GT) (a : Id3 → Nat) (Y : YT) (kp : Nat) (np : Nat) (sh de mi : Int32)  (hk : Y (4, 0, 8) 5 = nI kp) (hkp : kp ≤ 8) (hnp : np ≤ 8) (h15 : Y (4, 0, 0) 15 = nI np) : CtY l G a yX13_pot cX13_pot 4 (some .int) ({ frames := 2, cells := 0, slots := 0, locals := 46 } : Room) [.ref (a (4, 0, 8)), .int sh, .int de, .int mi] Y (PI (fun r Y' => r = doR Y (potA (Y (4, 0, 0)) sh de mi) ∧ Y' = doY Y (potA (Y (4, 0, 0)) sh de mi))) := by
  refine CtY.of (by decide) rfl (Nat.le_of_ble_eq_true rfl) ?_
  intro X A C hl
  subst hl
  refine y_aload_n (pc' := 1) rfl C dX13_pot_0 rfl ?_
  refine y_cVv (pc' := 4) (k' := 0) (n' := 0) rfl C (c_X13_remembers _ G a Y ) my_X13_remembers aw_1108 (v4 rfl) rfl rfl rfl rfl rfl (Nat.le_of_ble_eq_true rfl) rfl dX13_pot_1 rfl rfl (fun Y_1 hY_1 => ?_)
  refine y_aload_n (pc' := 5) rfl C dX13_pot_4 rfl ?_
  refine y_aload_n (pc' := 6) rfl C dX13_pot_5 rfl ?_
  refine y_iload_n (pc' := 7) rfl C dX13_pot_6 rfl ?_
  refine y_iload_n (pc' := 8) rfl C dX13_pot_7 rfl ?_
  refine y_iload_n (pc' := 9) rfl C dX13_pot_8 rfl ?_
  refine y_cVi (pc' := 12) (k' := 0) (n' := 0) rfl C (c_X13_comes _ G a Y_1 np sh de mi hnp (by rw [hY_1, setA_n (by decide)]; exact h15)) my_X13_comes aw_1210 (v4 rfl) rfl rfl rfl rfl rfl (Nat.le_of_ble_eq_true rfl) rfl dX13_pot_9 rfl rfl (fun r_9 Y_9 hp_9 => ?_)
  obtain ⟨rfl, hY_9⟩ := hp_9
  refine y_cVi (pc' := 15) (k' := 0) (n' := 0) rfl C (c_X13_ends _ G a Y_9 kp ((potA (Y_1 (4, 0, 0)) sh de mi).1) (by rw [hY_9, setAct_5, hY_1, setA_n (by decide)]; exact hk) hkp) my_X13_ends aw_1127 (v4 rfl) rfl rfl rfl rfl rfl (Nat.le_of_ble_eq_true rfl) rfl dX13_pot_12 rfl rfl (fun r_12 Y_12 hp_12 => ?_)
  obtain ⟨rfl, hY_12⟩ := hp_12
  refine y_ireturn C rfl rfl dX13_pot_15 rfl rfl ?_
  have e1 : Y_1 (4, 0, 0) = Y (4, 0, 0) := by rw [hY_1]; exact setA_n (by decide)
  have e2 : Y_9 = setAct (rem1 Y) (potA (Y (4, 0, 0)) sh de mi) := by rw [hY_9, e1, hY_1]; rfl
  rw [e1, e2] at hY_12
  exact ⟨by rw [e1, e2]; rfl, hY_12⟩
-- KilnKeeperModel.put 
set_option maxHeartbeats 1000000 in
set_option maxRecDepth 20000 in
theorem c_X13_put (l : Launch) (G : GT) (a : Id3 → Nat) (Y : YT) (kp : Nat) (np : Nat) (p : Int32)  (hk : Y (4, 0, 8) 5 = nI kp) (hkp : kp ≤ 8) (hnp : np ≤ 8) (h15 : Y (4, 0, 0) 15 = nI np) : CtY l G a yX13_put cX13_put 2 (some .int) ({ frames := 3, cells := 0, slots := 0, locals := 64 } : Room) [.ref (a (4, 0, 8)), .int p] Y (PI (fun r Y' => r = doR Y (putA (Y (4, 0, 0)) p) ∧ Y' = doY Y (putA (Y (4, 0, 0)) p))) := by
  refine CtY.of (by decide) rfl (Nat.le_of_ble_eq_true rfl) ?_
  intro X A C hl
  subst hl
  refine y_aload_n (pc' := 1) rfl C dX13_put_0 rfl ?_
  refine y_cVv (pc' := 4) (k' := 0) (n' := 0) rfl C (c_X13_remembers _ G a Y ) my_X13_remembers aw_1108 (v4 rfl) rfl rfl rfl rfl rfl (Nat.le_of_ble_eq_true rfl) rfl dX13_put_1 rfl rfl (fun Y_1 hY_1 => ?_)
  refine y_aload_n (pc' := 5) rfl C dX13_put_4 rfl ?_
  refine y_aload_n (pc' := 6) rfl C dX13_put_5 rfl ?_
  refine y_iload_n (pc' := 7) rfl C dX13_put_6 rfl ?_
  refine y_cVi (pc' := 10) (k' := 0) (n' := 0) rfl C (c_X13_puts _ G a Y_1 np p hnp (by rw [hY_1, setA_n (by decide)]; exact h15)) my_X13_puts aw_1218 (v4 rfl) rfl rfl rfl rfl rfl (Nat.le_of_ble_eq_true rfl) rfl dX13_put_7 rfl rfl (fun r_7 Y_7 hp_7 => ?_)
  obtain ⟨rfl, hY_7⟩ := hp_7
  refine y_cVi (pc' := 13) (k' := 0) (n' := 0) rfl C (c_X13_ends _ G a Y_7 kp ((putA (Y_1 (4, 0, 0)) p).1) (by rw [hY_7, setAct_5, hY_1, setA_n (by decide)]; exact hk) hkp) my_X13_ends aw_1127 (v4 rfl) rfl rfl rfl rfl rfl (Nat.le_of_ble_eq_true rfl) rfl dX13_put_10 rfl rfl (fun r_10 Y_10 hp_10 => ?_)
  obtain ⟨rfl, hY_10⟩ := hp_10
  refine y_ireturn C rfl rfl dX13_put_13 rfl rfl ?_
  have e1 : Y_1 (4, 0, 0) = Y (4, 0, 0) := by rw [hY_1]; exact setA_n (by decide)
  have e2 : Y_7 = setAct (rem1 Y) (putA (Y (4, 0, 0)) p) := by rw [hY_7, e1, hY_1]; rfl
  rw [e1, e2] at hY_10
  exact ⟨by rw [e1, e2]; rfl, hY_10⟩
-- KilnKeeperModel.take 
set_option maxHeartbeats 1000000 in
set_option maxRecDepth 20000 in
theorem c_X13_take (l : Launch) (G : GT) (a : Id3 → Nat) (Y : YT) (kp : Nat) (np : Nat) (p : Int32)  (hk : Y (4, 0, 8) 5 = nI kp) (hkp : kp ≤ 8) (hnp : np ≤ 8) (h15 : Y (4, 0, 0) 15 = nI np) : CtY l G a yX13_take cX13_take 2 (some .int) ({ frames := 3, cells := 0, slots := 0, locals := 64 } : Room) [.ref (a (4, 0, 8)), .int p] Y (PI (fun r Y' => r = doR Y (takeA (Y (4, 0, 0)) p) ∧ Y' = doY Y (takeA (Y (4, 0, 0)) p))) := by
  refine CtY.of (by decide) rfl (Nat.le_of_ble_eq_true rfl) ?_
  intro X A C hl
  subst hl
  refine y_aload_n (pc' := 1) rfl C dX13_take_0 rfl ?_
  refine y_cVv (pc' := 4) (k' := 0) (n' := 0) rfl C (c_X13_remembers _ G a Y ) my_X13_remembers aw_1108 (v4 rfl) rfl rfl rfl rfl rfl (Nat.le_of_ble_eq_true rfl) rfl dX13_take_1 rfl rfl (fun Y_1 hY_1 => ?_)
  refine y_aload_n (pc' := 5) rfl C dX13_take_4 rfl ?_
  refine y_aload_n (pc' := 6) rfl C dX13_take_5 rfl ?_
  refine y_iload_n (pc' := 7) rfl C dX13_take_6 rfl ?_
  refine y_cVi (pc' := 10) (k' := 0) (n' := 0) rfl C (c_X13_takes _ G a Y_1 np p hnp (by rw [hY_1, setA_n (by decide)]; exact h15)) my_X13_takes aw_1234 (v4 rfl) rfl rfl rfl rfl rfl (Nat.le_of_ble_eq_true rfl) rfl dX13_take_7 rfl rfl (fun r_7 Y_7 hp_7 => ?_)
  obtain ⟨rfl, hY_7⟩ := hp_7
  refine y_cVi (pc' := 13) (k' := 0) (n' := 0) rfl C (c_X13_ends _ G a Y_7 kp ((takeA (Y_1 (4, 0, 0)) p).1) (by rw [hY_7, setAct_5, hY_1, setA_n (by decide)]; exact hk) hkp) my_X13_ends aw_1127 (v4 rfl) rfl rfl rfl rfl rfl (Nat.le_of_ble_eq_true rfl) rfl dX13_take_10 rfl rfl (fun r_10 Y_10 hp_10 => ?_)
  obtain ⟨rfl, hY_10⟩ := hp_10
  refine y_ireturn C rfl rfl dX13_take_13 rfl rfl ?_
  have e1 : Y_1 (4, 0, 0) = Y (4, 0, 0) := by rw [hY_1]; exact setA_n (by decide)
  have e2 : Y_7 = setAct (rem1 Y) (takeA (Y (4, 0, 0)) p) := by rw [hY_7, e1, hY_1]; rfl
  rw [e1, e2] at hY_10
  exact ⟨by rw [e1, e2]; rfl, hY_10⟩
