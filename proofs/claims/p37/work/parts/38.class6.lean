
theorem RKi.hl {Y : YT} {k n : Nat} {s : Nat → Int32} (h : RKi Y k s) (hm : MB s n) : Y (0, k, 2) 0 = nI (nn (s 8)) := h.2.2.1.1.trans hm.lg.1
theorem RKi.hc {Y : YT} {k n : Nat} {s : Nat → Int32} (h : RKi Y k s) (hm : MB s n) : Y (0, k, 7) 0 = nI (nn (s 15)) := h.2.2.2.2.2.2.1.trans hm.np.1
theorem RKi.hm {Y : YT} {k n t : Nat} {s : Nat → Int32} (h : RKi Y k s) (hI : Inv s n t) (hb : 300 * n + t < 2 ^ 28) : Y (0, k, 4) 0 = nI (nn (s 12)) ∧ nn (s 12) < 2 ^ 29 := ⟨h.2.2.2.1.1.trans (hI.mi (by omega)).1, by have := (hI.mi (by omega)).2; omega⟩
def accK (Y : YT) (k np : Nat) (w : Int32) : Int32 :=
  if w = 0 then Y (0, k, 4) 0 else if w = 1 then Y (0, k, 0) 0 else if w = 2 then Y (0, k, 0) 1 else if w = 3 then Y (0, k, 0) 1 - Y (0, k, 0) 0 else if w = 4 then Y (0, k, 1) 4 else if w = 5 then Y (0, k, 1) 5 else if w = 6 then Y (0, k, 0) 3 else if w = 7 then Y (0, k, 4) 1 else if w = 8 then Y (0, k, 4) 2 else if w = 9 then Y (0, k, 0) 2 else if w = 10 then Y (0, k, 7) 0 else if w = 11 then mnK Y k 0 np else if w = 12 then mnK Y k 1 np else if w = 13 then mnK Y k 2 np else if w = 14 then mnK Y k 3 np else if w = 15 then wiK Y k np else -10002
theorem in_TX3 : ∀ w ∈ u_ws RX3 TX3 8, w ∈ AW := List.forall_mem_cons.mpr ⟨aw_189, List.forall_mem_cons.mpr ⟨aw_191, List.forall_mem_cons.mpr ⟨aw_193, List.forall_mem_cons.mpr ⟨aw_195, List.forall_mem_cons.mpr ⟨aw_197, List.forall_mem_cons.mpr ⟨aw_199, List.forall_mem_cons.mpr ⟨aw_201, List.forall_mem_cons.mpr ⟨aw_203, fun _ h => absurd h List.not_mem_nil⟩⟩⟩⟩⟩⟩⟩⟩
theorem fl_X3_9 : FLK "KilnKeeper$Kiln" 9 3 0 := ⟨RX3, TX3, 8, rfl, by decide, aw_176, in_TX3⟩
theorem fl_X3_15 : FLK "KilnKeeper$Kiln" 15 3 1 := ⟨RX3, TX3, 8, rfl, by decide, aw_178, in_TX3⟩
theorem fl_X3_18 : FLK "KilnKeeper$Kiln" 18 3 2 := ⟨RX3, TX3, 8, rfl, by decide, aw_179, in_TX3⟩
theorem fl_X3_21 : FLK "KilnKeeper$Kiln" 21 3 3 := ⟨RX3, TX3, 8, rfl, by decide, aw_181, in_TX3⟩
theorem fl_X3_27 : FLK "KilnKeeper$Kiln" 27 3 4 := ⟨RX3, TX3, 8, rfl, by decide, aw_182, in_TX3⟩
theorem fl_X3_34 : FLK "KilnKeeper$Kiln" 34 3 5 := ⟨RX3, TX3, 8, rfl, by decide, aw_184, in_TX3⟩
theorem fl_X3_41 : FLK "KilnKeeper$Kiln" 41 3 6 := ⟨RX3, TX3, 8, rfl, by decide, aw_185, in_TX3⟩
theorem fl_X3_48 : FLK "KilnKeeper$Kiln" 48 3 7 := ⟨RX3, TX3, 8, rfl, by decide, aw_187, in_TX3⟩
theorem fl_X3_75 : FLK "KilnKeeper$Kiln" 75 4 0 := ⟨RX4, TX4, 2, rfl, by decide, aw_88, in_TX4⟩
theorem fl_X3_130 : FLK "KilnKeeper$Kiln" 130 1 1 := ⟨RX1, TX1, 6, rfl, by decide, aw_106, in_TX1⟩
theorem fl_X3_137 : FLK "KilnKeeper$Kiln" 137 1 0 := ⟨RX1, TX1, 6, rfl, by decide, aw_103, in_TX1⟩
theorem fl_X3_140 : FLK "KilnKeeper$Kiln" 140 10 4 := ⟨RX10, TX10, 6, rfl, by decide, aw_65, in_TX10⟩
theorem fl_X3_143 : FLK "KilnKeeper$Kiln" 143 10 5 := ⟨RX10, TX10, 6, rfl, by decide, aw_67, in_TX10⟩
theorem fl_X3_146 : FLK "KilnKeeper$Kiln" 146 1 2 := ⟨RX1, TX1, 6, rfl, by decide, aw_108, in_TX1⟩
theorem fl_X3_149 : FLK "KilnKeeper$Kiln" 149 7 0 := ⟨RX7, TX7, 2, rfl, by decide, aw_168, in_TX7⟩
theorem fp_X3_9 : FLP "KilnKeeper$Kiln" 9 3 0 .int false := ⟨RX3, TX3, 8, tyX3, rfl, by decide, aw_176, in_TX3, tyX3_ok, nmX3, rfl, rfl, fun h => by first | exact rfl | cases h⟩
theorem fp_X3_15 : FLP "KilnKeeper$Kiln" 15 3 1 .int false := ⟨RX3, TX3, 8, tyX3, rfl, by decide, aw_178, in_TX3, tyX3_ok, nmX3, rfl, rfl, fun h => by first | exact rfl | cases h⟩
theorem fp_X3_18 : FLP "KilnKeeper$Kiln" 18 3 2 .int false := ⟨RX3, TX3, 8, tyX3, rfl, by decide, aw_179, in_TX3, tyX3_ok, nmX3, rfl, rfl, fun h => by first | exact rfl | cases h⟩
theorem fp_X3_21 : FLP "KilnKeeper$Kiln" 21 3 3 .int false := ⟨RX3, TX3, 8, tyX3, rfl, by decide, aw_181, in_TX3, tyX3_ok, nmX3, rfl, rfl, fun h => by first | exact rfl | cases h⟩
theorem my_X10_copyFrom : MV yX10_copyFrom cX10_copyFrom 2 none 1 := ⟨aw_395, aw_17, ⟨by decide, by decide, by decide +kernel⟩, aw_393, aw_394⟩
theorem my_X10_noteError : MV yX10_noteError cX10_noteError 2 none 1 := ⟨aw_901, aw_17, ⟨by decide, by decide, by decide +kernel⟩, aw_899, aw_900⟩
theorem my_X10_wantedDamper : MV yX10_wantedDamper cX10_wantedDamper 3 (some .int) 1 := ⟨aw_886, aw_17, ⟨by decide, by decide, by decide +kernel⟩, aw_884, aw_885⟩
theorem my_X1_burn : MV yX1_burn cX1_burn 3 (some .int) 1 := ⟨aw_906, aw_19, ⟨by decide, by decide, by decide +kernel⟩, aw_904, aw_905⟩
theorem my_X1_copyFrom : MV yX1_copyFrom cX1_copyFrom 2 none 1 := ⟨aw_406, aw_19, ⟨by decide, by decide, by decide +kernel⟩, aw_404, aw_405⟩
theorem my_X1_logMinute : MV yX1_logMinute cX1_logMinute 6 none 4 := ⟨aw_914, aw_19, ⟨by decide, by decide, by decide +kernel⟩, aw_912, aw_913⟩
theorem my_X3_error : MV yX3_error cX3_error 1 (some .int) 0 := ⟨aw_357, aw_16, ⟨by decide, by decide, by decide +kernel⟩, aw_355, aw_356⟩
theorem my_X3_passMinute : MV yX3_passMinute cX3_passMinute 5 none 0 := ⟨aw_882, aw_16, ⟨by decide, by decide, by decide +kernel⟩, aw_880, aw_881⟩
theorem my_X4_copyFrom : MV yX4_copyFrom cX4_copyFrom 2 none 1 := ⟨aw_399, aw_18, ⟨by decide, by decide, by decide +kernel⟩, aw_397, aw_398⟩
theorem my_X4_passThrough : MV yX4_passThrough cX4_passThrough 3 (some .int) 1 := ⟨aw_897, aw_18, ⟨by decide, by decide, by decide +kernel⟩, aw_895, aw_896⟩
theorem my_X4_resize : MV yX4_resize cX4_resize 5 none 2 := ⟨aw_472, aw_18, ⟨by decide, by decide, by decide +kernel⟩, aw_470, aw_471⟩
theorem my_X7_copyFrom : MV yX7_copyFrom cX7_copyFrom 5 none 1 := ⟨aw_411, aw_20, ⟨by decide, by decide, by decide +kernel⟩, aw_409, aw_410⟩
theorem my_X7_countOf : MV yX7_countOf cX7_countOf 5 (some .int) 1 := ⟨aw_361, aw_20, ⟨by decide, by decide, by decide +kernel⟩, aw_359, aw_360⟩
theorem my_X7_passMinute : MV yX7_passMinute cX7_passMinute 5 none 2 := ⟨aw_924, aw_20, ⟨by decide, by decide, by decide +kernel⟩, aw_922, aw_923⟩
-- KilnKeeper$Kiln.error 
set_option maxHeartbeats 1000000 in
set_option maxRecDepth 20000 in
theorem c_X3_error (l : Launch) (G : GT) (a : Id3 → Nat) (Y : YT) (k : Nat)  (hk : k < 11) : CtY l G a yX3_error cX3_error 1 (some .int) ({ frames := 0, cells := 0, slots := 0, locals := 0 } : Room) [.ref (a (0, k, 0))] Y (PI (fun r Y' => r = Y (0, k, 0) 1 - Y (0, k, 0) 0 ∧ Y' = Y)) := by
  refine CtY.of (by decide) rfl (Nat.le_of_ble_eq_true rfl) ?_
  intro X A C hl
  subst hl
  refine y_aload_n (pc' := 1) rfl C dX3_error_0 rfl ?_
  refine y_get (pc' := 4) rfl C fl_X3_15 (v0 hk rfl) rfl rfl dX3_error_1 rfl ?_
  refine y_aload_n (pc' := 5) rfl C dX3_error_4 rfl ?_
  refine y_get (pc' := 8) rfl C fl_X3_9 (v0 hk rfl) rfl rfl dX3_error_5 rfl ?_
  refine y_isub (pc' := 9) rfl C dX3_error_8 ?_
  refine y_ireturn C rfl rfl dX3_error_9 rfl rfl ?_
  exact ⟨rfl, rfl⟩
-- KilnKeeper$Kiln.passMinute 
set_option maxHeartbeats 1000000 in
set_option maxRecDepth 20000 in
theorem c_X3_passMinute (l : Launch) (G : GT) (a : Id3 → Nat) (Y : YT) (k n t : Nat) (s : Nat → Int32)  (hk : k < 11) (hR : RKi Y k s) (hI : Inv s n t) (hn : n ≤ 100000) (ht : 300 * n + t < 2 ^ 28) : CtY l G a yX3_passMinute cX3_passMinute 5 none ({ frames := 3, cells := 0, slots := 0, locals := 67 } : Room) [.ref (a (0, k, 0))] Y (PV (fun Y' => RKi Y' k (minute s) ∧ FrK Y Y' k)) := by
  refine CtY.of (by decide) rfl (Nat.le_of_ble_eq_true rfl) ?_
  intro X A C hl
  subst hl
  have hl := hR.hl hI.mb
  have hlg := hI.mb.lg.2
  have hc := hR.hc hI.mb
  have hnp := hI.mb.np.2
  obtain ⟨hmi, hmi2⟩ := hR.hm hI ht
  refine y_aload_n (pc' := 1) rfl C dX3_passMinute_0 rfl ?_
  refine y_cVi (pc' := 4) (k' := 0) (n' := 0) rfl C (c_X3_error _ G a Y k hk) my_X3_error aw_354 (v0 hk rfl) rfl rfl rfl rfl rfl (Nat.le_of_ble_eq_true rfl) rfl dX3_passMinute_1 rfl rfl (fun r_1 Y_1 hp_1 => ?_)
  obtain ⟨rfl, hY_1⟩ := hp_1
  have hY_1 := hY_1.symm; subst hY_1
  refine y_istore_n (pc' := 5) rfl C dX3_passMinute_4 (by decide) ?_
  refine y_aload_n (pc' := 6) rfl C dX3_passMinute_5 rfl ?_
  refine y_get (pc' := 9) rfl C fl_X3_9 (v0 hk rfl) rfl rfl dX3_passMinute_6 rfl ?_
  refine y_istore_n (pc' := 10) rfl C dX3_passMinute_9 (by decide) ?_
  refine y_aload_n (pc' := 11) rfl C dX3_passMinute_10 rfl ?_
  refine y_get (pc' := 14) rfl (v := .ref (a (0, k, 2))) C fl_X3_34 (v0 hk rfl) rfl rfl dX3_passMinute_11 rfl ?_
  refine y_aload_n (pc' := 15) rfl C dX3_passMinute_14 rfl ?_
  refine y_get (pc' := 18) rfl (v := .ref (a (0, k, 1))) C fl_X3_27 (v0 hk rfl) rfl rfl dX3_passMinute_15 rfl ?_
  refine y_iload_n (pc' := 19) rfl C dX3_passMinute_18 rfl ?_
  refine y_cVi (pc' := 22) (k' := 0) (n' := 0) rfl C (c_X10_wantedDamper _ G a Y k ((Y (0, k, 0) 1) - (Y (0, k, 0) 0)) hk) my_X10_wantedDamper aw_883 (v0 hk rfl) rfl rfl rfl rfl rfl (Nat.le_of_ble_eq_true rfl) rfl dX3_passMinute_19 rfl rfl (fun r_19 Y_19 hp_19 => ?_)
  obtain ⟨hr_19, hY_19⟩ := hp_19
  have hY_19 := hY_19.symm; subst hY_19
  refine y_cVi (pc' := 25) (k' := 0) (n' := 0) rfl C (c_X4_passThrough _ G a Y k (nn (s 8)) r_19 hk hl hlg) my_X4_passThrough aw_894 (v0 hk rfl) rfl rfl rfl rfl rfl (Nat.le_of_ble_eq_true rfl) rfl dX3_passMinute_22 rfl rfl (fun r_22 Y_22 hp_22 => ?_)
  obtain ⟨hr_22, hY_22⟩ := hp_22
  refine y_istore_n (pc' := 26) rfl C dX3_passMinute_25 (by decide) ?_
  refine y_aload_n (pc' := 27) rfl C dX3_passMinute_26 rfl ?_
  refine y_get (pc' := 30) rfl (v := .ref (a (0, k, 1))) C fl_X3_27 (v0 hk rfl) rfl rfl dX3_passMinute_27 rfl ?_
  refine y_iload_n (pc' := 31) rfl C dX3_passMinute_30 rfl ?_
  refine y_cVv (pc' := 34) (k' := 0) (n' := 0) rfl C (c_X10_noteError _ G a Y_22 k ((Y (0, k, 0) 1) - (Y (0, k, 0) 0)) hk) my_X10_noteError aw_898 (v0 hk rfl) rfl rfl rfl rfl rfl (Nat.le_of_ble_eq_true rfl) rfl dX3_passMinute_31 rfl rfl (fun Y_31 hY_31 => ?_)
  refine y_aload_n (pc' := 35) rfl C dX3_passMinute_34 rfl ?_
  refine y_aload_n (pc' := 36) rfl C dX3_passMinute_35 rfl ?_
  refine y_get (pc' := 39) rfl C fl_X3_21 (v0 hk rfl) rfl rfl dX3_passMinute_36 rfl ?_
  refine y_bipush (pc' := 41) rfl (v := 20) C dX3_passMinute_39 (by decide) ?_
  refine y_isub (pc' := 42) rfl C dX3_passMinute_41 ?_
  refine y_iload_n (pc' := 43) rfl C dX3_passMinute_42 rfl ?_
  refine y_aload_n (pc' := 44) rfl C dX3_passMinute_43 rfl ?_
  refine y_get (pc' := 47) rfl C fl_X3_21 (v0 hk rfl) rfl rfl dX3_passMinute_44 rfl ?_
  refine y_bipush (pc' := 49) rfl (v := 20) C dX3_passMinute_47 (by decide) ?_
  refine y_iadd (pc' := 50) rfl C dX3_passMinute_49 ?_
  refine y_cSNi (pc' := 53) (k' := 0) (n' := 0) rfl C (c_X12_between _ G a Y_31 ((Y_31 (0, k, 0) 3) - 20) r_22 ((Y_31 (0, k, 0) 3) + 20)) my_X12_between (nw_902) rfl rfl (Nat.le_of_ble_eq_true rfl) rfl dX3_passMinute_50 rfl rfl (fun r_50 Y_50 hp_50 => ?_)
  obtain ⟨rfl, hY_50⟩ := hp_50
  have hY_50 := hY_50.symm; subst hY_50
  refine y_put (pc' := 56) rfl C fp_X3_21 (v0 hk rfl) rfl rfl dX3_passMinute_53 rfl (fun Z53 hZ53 => ?_)
  refine y_aload_n (pc' := 57) rfl C dX3_passMinute_56 rfl ?_
  refine y_get (pc' := 60) rfl (v := .ref (a (0, k, 4))) C fl_X3_41 (v0 hk rfl) rfl rfl dX3_passMinute_57 rfl ?_
  refine y_aload_n (pc' := 61) rfl C dX3_passMinute_60 rfl ?_
  refine y_get (pc' := 64) rfl C fl_X3_21 (v0 hk rfl) rfl rfl dX3_passMinute_61 rfl ?_
  refine y_cVi (pc' := 67) (k' := 0) (n' := 0) rfl C (c_X1_burn _ G a Z53 k (Z53 (0, k, 0) 3) hk) my_X1_burn aw_903 (v0 hk rfl) rfl rfl rfl rfl rfl (Nat.le_of_ble_eq_true rfl) rfl dX3_passMinute_64 rfl rfl (fun r_64 Y_64 hp_64 => ?_)
  obtain ⟨hr_64, hY_64⟩ := hp_64
  refine y_istore (pc' := 69) rfl C dX3_passMinute_67 (by decide) ?_
  refine y_aload_n (pc' := 70) rfl C dX3_passMinute_69 rfl ?_
  refine y_bipush (pc' := 72) rfl (v := 20) C dX3_passMinute_70 (by decide) ?_
  refine y_iload_n (pc' := 73) rfl C dX3_passMinute_72 rfl ?_
  refine y_iload (pc' := 75) rfl C dX3_passMinute_73 rfl ?_
  refine y_iconst (pc' := 76) rfl (v := 2) C dX3_passMinute_75 (by decide) ?_
  refine y_idiv (pc' := 77) rfl C dX3_passMinute_76 (by decide) ?_
  refine y_iadd (pc' := 78) rfl C dX3_passMinute_77 ?_
  refine y_iload_n (pc' := 79) rfl C dX3_passMinute_78 rfl ?_
  refine y_bipush (pc' := 81) rfl (v := 20) C dX3_passMinute_79 (by decide) ?_
  refine y_isub (pc' := 82) rfl C dX3_passMinute_81 ?_
  refine y_bipush (pc' := 84) rfl (v := 25) C dX3_passMinute_82 (by decide) ?_
  refine y_idiv (pc' := 85) rfl C dX3_passMinute_84 (by decide) ?_
  refine y_isub (pc' := 86) rfl C dX3_passMinute_85 ?_
  refine y_max (pc' := 89) rfl C aw_910 mm_max rfl rfl rfl rfl dX3_passMinute_86 ?_
  obtain ⟨m_86, e_86⟩ : ∃ v : Int32, v = (if 20 < (((Y (0, k, 0) 0) + (r_64 / 2)) - (((Y (0, k, 0) 0) - 20) / 25)) then (((Y (0, k, 0) 0) + (r_64 / 2)) - (((Y (0, k, 0) 0) - 20) / 25)) else 20) := ⟨_, rfl⟩
  rw [← e_86]
  refine y_put (pc' := 92) rfl C fp_X3_9 (v0 hk rfl) rfl rfl dX3_passMinute_89 rfl (fun Z89 hZ89 => ?_)
  refine y_aload_n (pc' := 93) rfl C dX3_passMinute_92 rfl ?_
  refine y_aload_n (pc' := 94) rfl C dX3_passMinute_93 rfl ?_
  refine y_get (pc' := 97) rfl C fl_X3_18 (v0 hk rfl) rfl rfl dX3_passMinute_94 rfl ?_
  refine y_aload_n (pc' := 98) rfl C dX3_passMinute_97 rfl ?_
  refine y_get (pc' := 101) rfl C fl_X3_9 (v0 hk rfl) rfl rfl dX3_passMinute_98 rfl ?_
  refine y_aload_n (pc' := 102) rfl C dX3_passMinute_101 rfl ?_
  refine y_get (pc' := 105) rfl C fl_X3_15 (v0 hk rfl) rfl rfl dX3_passMinute_102 rfl ?_
  refine y_isub (pc' := 106) rfl C dX3_passMinute_105 ?_
  refine y_max (pc' := 109) rfl C aw_910 mm_max rfl rfl rfl rfl dX3_passMinute_106 ?_
  obtain ⟨m_106, e_106⟩ : ∃ v : Int32, v = (if (Z89 (0, k, 0) 2) < ((Z89 (0, k, 0) 0) - (Z89 (0, k, 0) 1)) then ((Z89 (0, k, 0) 0) - (Z89 (0, k, 0) 1)) else (Z89 (0, k, 0) 2)) := ⟨_, rfl⟩
  rw [← e_106]
  refine y_put (pc' := 112) rfl C fp_X3_18 (v0 hk rfl) rfl rfl dX3_passMinute_109 rfl (fun Z109 hZ109 => ?_)
  have hm6 : Z109 (0, k, 4) 0 = nI (nn (s 12)) := by rw [hZ109, up_n (nej (by decide)), hZ89, up_n (nej (by decide)), hY_64, setF_n (nej (by decide)), setA_s, upd_n (by decide), upd_n (by decide), hZ53, up_n (nej (by decide)), hY_31, setA_n (nej (by decide)), hY_22]; split; exact hmi; rw [setA_n (nej (by decide))]; exact hmi
  refine y_aload_n (pc' := 113) rfl C dX3_passMinute_112 rfl ?_
  refine y_get (pc' := 116) rfl (v := .ref (a (0, k, 4))) C fl_X3_41 (v0 hk rfl) rfl rfl dX3_passMinute_113 rfl ?_
  refine y_aload_n (pc' := 117) rfl C dX3_passMinute_116 rfl ?_
  refine y_get (pc' := 120) rfl C fl_X3_9 (v0 hk rfl) rfl rfl dX3_passMinute_117 rfl ?_
  refine y_aload_n (pc' := 121) rfl C dX3_passMinute_120 rfl ?_
  refine y_get (pc' := 124) rfl C fl_X3_21 (v0 hk rfl) rfl rfl dX3_passMinute_121 rfl ?_
  refine y_iload_n (pc' := 125) rfl C dX3_passMinute_124 rfl ?_
  refine y_iload (pc' := 127) rfl C dX3_passMinute_125 rfl ?_
  refine y_cVv (pc' := 130) (k' := 0) (n' := 0) rfl C (c_X1_logMinute _ G a Z109 k (nn (s 12)) (Z109 (0, k, 0) 0) (Z109 (0, k, 0) 3) ((Y (0, k, 0) 1) - (Y (0, k, 0) 0)) r_64 hk hm6 hmi2) my_X1_logMinute aw_911 (v0 hk rfl) rfl rfl rfl rfl rfl (Nat.le_of_ble_eq_true rfl) rfl dX3_passMinute_127 rfl rfl (fun Y_127 hY_127 => ?_)
  have hc7 : Y_127 (0, k, 7) 0 = nI (nn (s 15)) := by rw [hY_127, up_n (nej (by decide)), up_n (nej (by decide)), up_n (nej (by decide)), up_n (nej (by decide)), up_n (nej (by decide)), hZ109, up_n (nej (by decide)), hZ89, up_n (nej (by decide)), hY_64, setF_n (nej (by decide)), setA_n (nej (by decide)), hZ53, up_n (nej (by decide)), hY_31, setA_n (nej (by decide)), hY_22]; split; exact hc; rw [setA_n (nej (by decide))]; exact hc
  refine y_aload_n (pc' := 131) rfl C dX3_passMinute_130 rfl ?_
  refine y_get (pc' := 134) rfl (v := .ref (a (0, k, 7))) C fl_X3_48 (v0 hk rfl) rfl rfl dX3_passMinute_131 rfl ?_
  refine y_aload_n (pc' := 135) rfl C dX3_passMinute_134 rfl ?_
  refine y_get (pc' := 138) rfl C fl_X3_9 (v0 hk rfl) rfl rfl dX3_passMinute_135 rfl ?_
  refine y_aload_n (pc' := 139) rfl C dX3_passMinute_138 rfl ?_
  refine y_get (pc' := 142) rfl C fl_X3_9 (v0 hk rfl) rfl rfl dX3_passMinute_139 rfl ?_
  refine y_iload_n (pc' := 143) rfl C dX3_passMinute_142 rfl ?_
  refine y_isub (pc' := 144) rfl C dX3_passMinute_143 ?_
  refine y_abs (pc' := 147) rfl C aw_918 mm_abs rfl rfl rfl rfl dX3_passMinute_144 ?_
  obtain ⟨m_144, e_144⟩ : ∃ v : Int32, v = (if 0 ≤ ((Y_127 (0, k, 0) 0) - (Y (0, k, 0) 0)) then ((Y_127 (0, k, 0) 0) - (Y (0, k, 0) 0)) else 0 - ((Y_127 (0, k, 0) 0) - (Y (0, k, 0) 0))) := ⟨_, rfl⟩
  rw [← e_144]
  refine y_cVv (pc' := 150) (k' := 0) (n' := 0) rfl C (c_X7_passMinute _ G a Y_127 k (nn (s 15)) (Y_127 (0, k, 0) 0) m_144 hk hc7 hnp) my_X7_passMinute aw_921 (v0 hk rfl) rfl rfl rfl rfl rfl (Nat.le_of_ble_eq_true rfl) rfl dX3_passMinute_147 rfl rfl (fun Y_147 hY_147 => ?_)
  refine y_return C rfl dX3_passMinute_150 rfl rfl ?_
  exact kmin_ok hR hI hn ht hr_19 hr_22 hY_22 hY_31 hZ53 hr_64 hY_64 e_86 hZ89 e_106 hZ109 hY_127 e_144 hY_147
-- KilnKeeper$Kiln.letGo 
set_option maxHeartbeats 1000000 in
set_option maxRecDepth 20000 in
theorem c_X3_letGo (l : Launch) (G : GT) (a : Id3 → Nat) (Y : YT) (k n : Nat) (s : Nat → Int32) (m : Int32)  (hk : k < 11) (hR : RKi Y k s) (hI : Inv s n 0) (hn : n ≤ 100000) : CtY l G a yX3_letGo cX3_letGo 3 (some .int) ({ frames := 4, cells := 0, slots := 0, locals := 91 } : Room) [.ref (a (0, k, 0)), .int m] Y (PI (fun r Y' => ((1 ≤ m ∧ m ≤ 300) → r = mins (nn m) s 0 ∧ RKi Y' k (mins (nn m) s) ∧ FrK Y Y' k) ∧ (¬ (1 ≤ m ∧ m ≤ 300) → r = -10002 ∧ Y' = Y))) := by
  refine CtY.of (by decide) rfl (Nat.le_of_ble_eq_true rfl) ?_
  intro X A C hl
  subst hl
  refine y_iconst (pc' := 1) rfl (v := 1) C dX3_letGo_0 (by decide) ?_
  refine y_iload_n (pc' := 2) rfl C dX3_letGo_1 rfl ?_
  refine y_sipush (pc' := 5) rfl (v := 300) C dX3_letGo_2 (by decide) ?_
  refine y_cSNi (pc' := 8) (k' := 0) (n' := 0) rfl C (c_X12_isFrom _ G a Y 1 m 300) my_X12_isFrom (nw_420) rfl rfl (Nat.le_of_ble_eq_true rfl) rfl dX3_letGo_5 rfl rfl (fun r_5 Y_5 hp_5 => ?_)
  obtain ⟨rfl, hY_5⟩ := hp_5
  have hY_5 := hY_5.symm; subst hY_5
  refine y_if_ne (pc' := 11) rfl (tgt := 15) C dX3_letGo_8 (by decide) (fun c_8 => ?_) (fun c_8 => ?_)
  · have h_8 := bi_n0 c_8
    obtain ⟨mq, hmq3, hmq⟩ := rng_nI (m := 300) (by decide) (by decide) h_8
    have hmn : nn m = mq := by rw [hmq, nn_nI (by omega)]
    refine y_iconst (pc' := 16) rfl (v := 0) C dX3_letGo_15 (by decide) ?_
    refine y_istore_n (pc' := 17) rfl C dX3_letGo_16 (by decide) ?_
    suffices K17 : ∀ (fu_ i17 : Nat) (Yl17 : YT), i17 ≤ mq → mq < fu_ + i17 → Yl17 = Yl17 → (RKi Yl17 k (mins i17 s) ∧ FrK Y Yl17 k) → WY X G A a Yl17 0 0 _ 17 [some (.ref (a (0, k, 0))), some (.int m), some (.int ((nI i17)))] [] from K17 (mq + 1) 0 _ (by omega) (by omega) (rfl) (⟨hR, FrK.rf Y k⟩)
    intro fu_
    induction fu_ with
    | zero => intro i17 Yl17 h1 h2; omega
    | succ fu_ ih17 =>
      intro i17 Yl17 hi17 hm17 hYl17 hx17
      refine y_iload_n (pc' := 18) rfl C dX3_letGo_17 rfl ?_
      refine y_iload_n (pc' := 19) rfl C dX3_letGo_18 rfl ?_
      refine y_ic_ge (pc' := 22) rfl (tgt := 32) C dX3_letGo_19 (by decide) (fun c_19 => ?_) (fun c_19 => ?_)
      · rw [hmq] at c_19
        have hb17 : mq ≤ i17 := nI_le_iff (by omega) (by omega) c_19
        refine y_aload_n (pc' := 33) rfl C dX3_letGo_32 rfl ?_
        refine y_get (pc' := 36) rfl C fl_X3_9 (v0 hk rfl) rfl rfl dX3_letGo_33 rfl ?_
        refine y_ireturn C rfl rfl dX3_letGo_36 rfl rfl ?_
        have e17 : i17 = mq := by omega
        subst e17
        exact ⟨fun _ => ⟨by rw [hmn]; exact hx17.1.1.1, by rw [hmn]; exact hx17.1, hx17.2⟩, fun q => absurd h_8 q⟩
      · rw [hmq] at c_19
        have hb17 : i17 < mq := nI_nle_iff (by omega) (by omega) c_19
        refine y_aload_n (pc' := 23) rfl C dX3_letGo_22 rfl ?_
        refine y_cVv (pc' := 26) (k' := 0) (n' := 0) rfl C (c_X3_passMinute _ G a Yl17 k n (0 + i17) (mins i17 s) hk hx17.1 (Inv_mins hI hn i17 (by omega)) hn (by omega)) my_X3_passMinute aw_879 (v0 hk rfl) rfl rfl rfl rfl rfl (Nat.le_of_ble_eq_true rfl) rfl dX3_letGo_23 rfl rfl (fun Y_23 hY_23 => ?_)
        refine y_iinc (pc' := 29) rfl (v := (nI (i17 + 1))) C dX3_letGo_26 rfl (nI_1 i17) (by decide) ?_
        refine y_goto (tgt := 17) C dX3_letGo_29 (by decide) ?_
        exact ih17 (i17 + 1) _ (by omega) (by omega) (rfl) (⟨hY_23.1, hx17.2.tr hY_23.2⟩)
  · have h_8 := bi_0.mp c_8
    refine y_sipush (pc' := 14) rfl (v := (-10002)) C dX3_letGo_11 (by decide) ?_
    refine y_ireturn C rfl rfl dX3_letGo_14 rfl rfl ?_
    exact ⟨fun q => absurd q h_8, fun _ => ⟨rfl, rfl⟩⟩
-- KilnKeeper$Kiln.aimAt 
set_option maxHeartbeats 1000000 in
set_option maxRecDepth 20000 in
theorem c_X3_aimAt (l : Launch) (G : GT) (a : Id3 → Nat) (Y : YT) (k rf : Nat) (d : Int32)  (hk : k < 11) (hrf : rf = 3 ∨ rf = 4) : CtY l G a yX3_aimAt cX3_aimAt 4 (some .int) ({ frames := 1, cells := 0, slots := 0, locals := 22 } : Room) [.ref (a (0, k, 0)), .int d, .ref (a (2, 0, rf))] Y (PI (fun r Y' => r = (if 20 ≤ d ∧ d ≤ 1200 then (if d = Y (0, k, 0) 1 then -10004 else Y (0, k, 0) 1) else -10002) ∧ Y' = if 20 ≤ d ∧ d ≤ 1200 then (if d = Y (0, k, 0) 1 then up (up Y (2, 0, rf) 0 5) (2, 0, rf) 1 (Y (0, k, 0) 1) else setA Y (0, k, 0) (upd (upd (Y (0, k, 0)) 1 d) 2 0)) else Y)) := by
  refine CtY.of (by decide) rfl (Nat.le_of_ble_eq_true rfl) ?_
  intro X A C hl
  subst hl
  refine y_bipush (pc' := 2) rfl (v := 20) C dX3_aimAt_0 (by decide) ?_
  refine y_iload_n (pc' := 3) rfl C dX3_aimAt_2 rfl ?_
  refine y_sipush (pc' := 6) rfl (v := 1200) C dX3_aimAt_3 (by decide) ?_
  refine y_cSNi (pc' := 9) (k' := 0) (n' := 0) rfl C (c_X12_isFrom _ G a Y 20 d 1200) my_X12_isFrom (nw_420) rfl rfl (Nat.le_of_ble_eq_true rfl) rfl dX3_aimAt_6 rfl rfl (fun r_6 Y_6 hp_6 => ?_)
  obtain ⟨rfl, hY_6⟩ := hp_6
  have hY_6 := hY_6.symm; subst hY_6
  refine y_if_ne (pc' := 12) rfl (tgt := 16) C dX3_aimAt_9 (by decide) (fun c_9 => ?_) (fun c_9 => ?_)
  · have h_9 := bi_n0 c_9
    refine y_iload_n (pc' := 17) rfl C dX3_aimAt_16 rfl ?_
    refine y_aload_n (pc' := 18) rfl C dX3_aimAt_17 rfl ?_
    refine y_get (pc' := 21) rfl C fl_X3_15 (v0 hk rfl) rfl rfl dX3_aimAt_18 rfl ?_
    refine y_ic_ne (pc' := 24) rfl (tgt := 34) C dX3_aimAt_21 (by decide) (fun c_21 => ?_) (fun c_21 => ?_)
    · refine y_aload_n (pc' := 35) rfl C dX3_aimAt_34 rfl ?_
      refine y_get (pc' := 38) rfl C fl_X3_15 (v0 hk rfl) rfl rfl dX3_aimAt_35 rfl ?_
      refine y_istore_n (pc' := 39) rfl C dX3_aimAt_38 (by decide) ?_
      refine y_aload_n (pc' := 40) rfl C dX3_aimAt_39 rfl ?_
      refine y_iload_n (pc' := 41) rfl C dX3_aimAt_40 rfl ?_
      refine y_put (pc' := 44) rfl C fp_X3_15 (v0 hk rfl) rfl rfl dX3_aimAt_41 rfl (fun Z41 hZ41 => ?_)
      refine y_aload_n (pc' := 45) rfl C dX3_aimAt_44 rfl ?_
      refine y_iconst (pc' := 46) rfl (v := 0) C dX3_aimAt_45 (by decide) ?_
      refine y_put (pc' := 49) rfl C fp_X3_18 (v0 hk rfl) rfl rfl dX3_aimAt_46 rfl (fun Z46 hZ46 => ?_)
      refine y_iload_n (pc' := 50) rfl C dX3_aimAt_49 rfl ?_
      refine y_ireturn C rfl rfl dX3_aimAt_50 rfl rfl ?_
      exact ⟨by rw [if_pos h_9, if_neg c_21], by rw [if_pos h_9, if_neg c_21, hZ46, hZ41, up_setA, up_setA, setA_setA, setA_s]⟩
    · refine y_aload_n (pc' := 25) rfl C dX3_aimAt_24 rfl ?_
      refine y_iconst (pc' := 26) rfl (v := 5) C dX3_aimAt_25 (by decide) ?_
      refine y_aload_n (pc' := 27) rfl C dX3_aimAt_26 rfl ?_
      refine y_get (pc' := 30) rfl C fl_X3_15 (v0 hk rfl) rfl rfl dX3_aimAt_27 rfl ?_
      refine y_cVi (pc' := 33) (k' := 0) (n' := 0) rfl C (c_X9_because _ G a Y rf 5 (Y (0, k, 0) 1) hrf) my_X9_because aw_423 (vrf hrf) (trf hrf) rfl rfl rfl rfl (Nat.le_of_ble_eq_true rfl) rfl dX3_aimAt_30 rfl rfl (fun r_30 Y_30 hp_30 => ?_)
      obtain ⟨rfl, hY_30⟩ := hp_30
      refine y_ireturn C rfl rfl dX3_aimAt_33 rfl rfl ?_
      exact ⟨by rw [if_pos h_9, if_pos c_21], by rw [if_pos h_9, if_pos c_21, hY_30]⟩
  · have h_9 := bi_0.mp c_9
    refine y_sipush (pc' := 15) rfl (v := (-10002)) C dX3_aimAt_12 (by decide) ?_
    refine y_ireturn C rfl rfl dX3_aimAt_15 rfl rfl ?_
    exact ⟨by rw [if_neg h_9], by rw [if_neg h_9]⟩
-- KilnKeeper$Kiln.tellLag 
set_option maxHeartbeats 1000000 in
set_option maxRecDepth 20000 in
theorem c_X3_tellLag (l : Launch) (G : GT) (a : Id3 → Nat) (Y : YT) (k lg rf : Nat) (m : Int32)  (hk : k < 11) (hl : Y (0, k, 2) 0 = nI lg) (hlg : lg ≤ 5) (hrf : rf = 3 ∨ rf = 4) : CtY l G a yX3_tellLag cX3_tellLag 4 (some .int) ({ frames := 3, cells := 0, slots := 0, locals := 68 } : Room) [.ref (a (0, k, 0)), .int m, .ref (a (2, 0, rf))] Y (PI (fun r Y' => r = (if 0 ≤ m ∧ m ≤ 5 then (if m = Y (0, k, 2) 0 then -10004 else Y (0, k, 2) 0) else -10002) ∧ Y' = if 0 ≤ m ∧ m ≤ 5 then (if m = Y (0, k, 2) 0 then up (up Y (2, 0, rf) 0 5) (2, 0, rf) 1 (Y (0, k, 2) 0) else setA (up Y (0, k, 2) 0 (nI (nn m))) (0, k, 3) (rsz (Y (0, k, 3)) (nn m) lg (Y (0, k, 0) 3) (nn m - lg))) else Y)) := by
  refine CtY.of (by decide) rfl (Nat.le_of_ble_eq_true rfl) ?_
  intro X A C hl
  subst hl
  refine y_iconst (pc' := 1) rfl (v := 0) C dX3_tellLag_0 (by decide) ?_
  refine y_iload_n (pc' := 2) rfl C dX3_tellLag_1 rfl ?_
  refine y_iconst (pc' := 3) rfl (v := 5) C dX3_tellLag_2 (by decide) ?_
  refine y_cSNi (pc' := 6) (k' := 0) (n' := 0) rfl C (c_X12_isFrom _ G a Y 0 m 5) my_X12_isFrom (nw_420) rfl rfl (Nat.le_of_ble_eq_true rfl) rfl dX3_tellLag_3 rfl rfl (fun r_3 Y_3 hp_3 => ?_)
  obtain ⟨rfl, hY_3⟩ := hp_3
  have hY_3 := hY_3.symm; subst hY_3
  refine y_if_ne (pc' := 9) rfl (tgt := 13) C dX3_tellLag_6 (by decide) (fun c_6 => ?_) (fun c_6 => ?_)
  · have h_6 := bi_n0 c_6
    obtain ⟨mq, hmq5, hmq⟩ := rng_nI (m := 5) (by decide) (by decide) h_6
    have hmn : nn m = mq := by rw [hmq, nn_nI (by omega)]
    refine y_aload_n (pc' := 14) rfl C dX3_tellLag_13 rfl ?_
    refine y_get (pc' := 17) rfl (v := .ref (a (0, k, 2))) C fl_X3_34 (v0 hk rfl) rfl rfl dX3_tellLag_14 rfl ?_
    refine y_get (pc' := 20) rfl C fl_X3_75 (v0 hk rfl) rfl rfl dX3_tellLag_17 rfl ?_
    refine y_istore_n (pc' := 21) rfl C dX3_tellLag_20 (by decide) ?_
    refine y_iload_n (pc' := 22) rfl C dX3_tellLag_21 rfl ?_
    refine y_iload_n (pc' := 23) rfl C dX3_tellLag_22 rfl ?_
    refine y_ic_ne (pc' := 26) rfl (tgt := 33) C dX3_tellLag_23 (by decide) (fun c_23 => ?_) (fun c_23 => ?_)
    · refine y_aload_n (pc' := 34) rfl C dX3_tellLag_33 rfl ?_
      refine y_get (pc' := 37) rfl (v := .ref (a (0, k, 2))) C fl_X3_34 (v0 hk rfl) rfl rfl dX3_tellLag_34 rfl ?_
      refine y_iload_n (pc' := 38) rfl C dX3_tellLag_37 rfl ?_
      refine y_aload_n (pc' := 39) rfl C dX3_tellLag_38 rfl ?_
      refine y_get (pc' := 42) rfl C fl_X3_21 (v0 hk rfl) rfl rfl dX3_tellLag_39 rfl ?_
      refine y_conv (L' := [some (.ref (a (0, k, 0))), some (.int m), some (.ref (a (2, 0, rf))), some (.int ((Y (0, k, 2) 0)))]) (st' := [.int ((Y (0, k, 0) 3)), .int ((nI mq)), .ref (a (0, k, 2))]) (rfl) (by rw [hmq]; rfl) ?_
      refine y_cVv (pc' := 45) (k' := 0) (n' := 0) rfl C (c_X4_resize _ G a Y k mq lg (Y (0, k, 0) 3) hk hl hmq5 hlg) my_X4_resize aw_469 (v0 hk rfl) rfl rfl rfl rfl rfl (Nat.le_of_ble_eq_true rfl) rfl dX3_tellLag_42 rfl rfl (fun Y_42 hY_42 => ?_)
      refine y_iload_n (pc' := 46) rfl C dX3_tellLag_45 rfl ?_
      refine y_ireturn C rfl rfl dX3_tellLag_46 rfl rfl ?_
      exact ⟨by rw [if_pos h_6, if_neg c_23], by rw [if_pos h_6, if_neg c_23, hmn, hY_42]⟩
    · refine y_aload_n (pc' := 27) rfl C dX3_tellLag_26 rfl ?_
      refine y_iconst (pc' := 28) rfl (v := 5) C dX3_tellLag_27 (by decide) ?_
      refine y_iload_n (pc' := 29) rfl C dX3_tellLag_28 rfl ?_
      refine y_cVi (pc' := 32) (k' := 0) (n' := 0) rfl C (c_X9_because _ G a Y rf 5 (Y (0, k, 2) 0) hrf) my_X9_because aw_423 (vrf hrf) (trf hrf) rfl rfl rfl rfl (Nat.le_of_ble_eq_true rfl) rfl dX3_tellLag_29 rfl rfl (fun r_29 Y_29 hp_29 => ?_)
      obtain ⟨rfl, hY_29⟩ := hp_29
      refine y_ireturn C rfl rfl dX3_tellLag_32 rfl rfl ?_
      exact ⟨by rw [if_pos h_6, if_pos c_23], by rw [if_pos h_6, if_pos c_23, hY_29]⟩
  · have h_6 := bi_0.mp c_6
    refine y_sipush (pc' := 12) rfl (v := (-10002)) C dX3_tellLag_9 (by decide) ?_
    refine y_ireturn C rfl rfl dX3_tellLag_12 rfl rfl ?_
    exact ⟨by rw [if_neg h_6], by rw [if_neg h_6]⟩
-- KilnKeeper$Kiln.copyFrom 
set_option maxHeartbeats 1000000 in
set_option maxRecDepth 20000 in
theorem c_X3_copyFrom (l : Launch) (G : GT) (a : Id3 → Nat) (Y : YT) (k k2 n : Nat) (s : Nat → Int32)  (hk : k < 11) (hk2 : k2 < 11) (hkk : k ≠ k2) (hR : RKi Y k2 s) (hI : MB s n) : CtY l G a yX3_copyFrom cX3_copyFrom 2 none ({ frames := 2, cells := 0, slots := 0, locals := 45 } : Room) [.ref (a (0, k, 0)), .ref (a (0, k2, 0))] Y (PV (fun Y' => RKi Y' k s ∧ FrK Y Y' k)) := by
  refine CtY.of (by decide) rfl (Nat.le_of_ble_eq_true rfl) ?_
  intro X A C hl
  subst hl
  refine y_aload_n (pc' := 1) rfl C dX3_copyFrom_0 rfl ?_
  refine y_aload_n (pc' := 2) rfl C dX3_copyFrom_1 rfl ?_
  refine y_get (pc' := 5) rfl C fl_X3_9 (v0 hk2 rfl) rfl rfl dX3_copyFrom_2 rfl ?_
  refine y_put (pc' := 8) rfl C fp_X3_9 (v0 hk rfl) rfl rfl dX3_copyFrom_5 rfl (fun Z5 hZ5 => ?_)
  refine y_aload_n (pc' := 9) rfl C dX3_copyFrom_8 rfl ?_
  refine y_aload_n (pc' := 10) rfl C dX3_copyFrom_9 rfl ?_
  refine y_get (pc' := 13) rfl C fl_X3_15 (v0 hk2 rfl) rfl rfl dX3_copyFrom_10 rfl ?_
  refine y_put (pc' := 16) rfl C fp_X3_15 (v0 hk rfl) rfl rfl dX3_copyFrom_13 rfl (fun Z13 hZ13 => ?_)
  refine y_aload_n (pc' := 17) rfl C dX3_copyFrom_16 rfl ?_
  refine y_aload_n (pc' := 18) rfl C dX3_copyFrom_17 rfl ?_
  refine y_get (pc' := 21) rfl C fl_X3_18 (v0 hk2 rfl) rfl rfl dX3_copyFrom_18 rfl ?_
  refine y_put (pc' := 24) rfl C fp_X3_18 (v0 hk rfl) rfl rfl dX3_copyFrom_21 rfl (fun Z21 hZ21 => ?_)
  refine y_aload_n (pc' := 25) rfl C dX3_copyFrom_24 rfl ?_
  refine y_aload_n (pc' := 26) rfl C dX3_copyFrom_25 rfl ?_
  refine y_get (pc' := 29) rfl C fl_X3_21 (v0 hk2 rfl) rfl rfl dX3_copyFrom_26 rfl ?_
  refine y_put (pc' := 32) rfl C fp_X3_21 (v0 hk rfl) rfl rfl dX3_copyFrom_29 rfl (fun Z29 hZ29 => ?_)
  refine y_aload_n (pc' := 33) rfl C dX3_copyFrom_32 rfl ?_
  refine y_get (pc' := 36) rfl (v := .ref (a (0, k, 1))) C fl_X3_27 (v0 hk rfl) rfl rfl dX3_copyFrom_33 rfl ?_
  refine y_aload_n (pc' := 37) rfl C dX3_copyFrom_36 rfl ?_
  refine y_get (pc' := 40) rfl (v := .ref (a (0, k2, 1))) C fl_X3_27 (v0 hk2 rfl) rfl rfl dX3_copyFrom_37 rfl ?_
  refine y_cVv (pc' := 43) (k' := 0) (n' := 0) rfl C (c_X10_copyFrom _ G a Z29 k k2 hk hk2 hkk) my_X10_copyFrom aw_392 (v0 hk rfl) rfl rfl rfl rfl rfl (Nat.le_of_ble_eq_true rfl) rfl dX3_copyFrom_40 rfl rfl (fun Y_40 hY_40 => ?_)
  refine y_aload_n (pc' := 44) rfl C dX3_copyFrom_43 rfl ?_
  refine y_get (pc' := 47) rfl (v := .ref (a (0, k, 2))) C fl_X3_34 (v0 hk rfl) rfl rfl dX3_copyFrom_44 rfl ?_
  refine y_aload_n (pc' := 48) rfl C dX3_copyFrom_47 rfl ?_
  refine y_get (pc' := 51) rfl (v := .ref (a (0, k2, 2))) C fl_X3_34 (v0 hk2 rfl) rfl rfl dX3_copyFrom_48 rfl ?_
  refine y_cVv (pc' := 54) (k' := 0) (n' := 0) rfl C (c_X4_copyFrom _ G a Y_40 k k2 hk hk2 hkk) my_X4_copyFrom aw_396 (v0 hk rfl) rfl rfl rfl rfl rfl (Nat.le_of_ble_eq_true rfl) rfl dX3_copyFrom_51 rfl rfl (fun Y_51 hY_51 => ?_)
  refine y_aload_n (pc' := 55) rfl C dX3_copyFrom_54 rfl ?_
  refine y_get (pc' := 58) rfl (v := .ref (a (0, k, 4))) C fl_X3_41 (v0 hk rfl) rfl rfl dX3_copyFrom_55 rfl ?_
  refine y_aload_n (pc' := 59) rfl C dX3_copyFrom_58 rfl ?_
  refine y_get (pc' := 62) rfl (v := .ref (a (0, k2, 4))) C fl_X3_41 (v0 hk2 rfl) rfl rfl dX3_copyFrom_59 rfl ?_
  refine y_cVv (pc' := 65) (k' := 0) (n' := 0) rfl C (c_X1_copyFrom _ G a Y_51 k k2 hk hk2 hkk) my_X1_copyFrom aw_403 (v0 hk rfl) rfl rfl rfl rfl rfl (Nat.le_of_ble_eq_true rfl) rfl dX3_copyFrom_62 rfl rfl (fun Y_62 hY_62 => ?_)
  have hc7 : Y_62 (0, k2, 7) 0 = nI (nn (s 15)) := by rw [hY_62, setA_n (nek (Ne.symm hkk)), setA_n (nek (Ne.symm hkk)), setA_n (nek (Ne.symm hkk)), hY_51, setA_n (nek (Ne.symm hkk)), setA_n (nek (Ne.symm hkk)), hY_40, setA_n (nek (Ne.symm hkk)), hZ29, up_n (nek (Ne.symm hkk)), hZ21, up_n (nek (Ne.symm hkk)), hZ13, up_n (nek (Ne.symm hkk)), hZ5, up_n (nek (Ne.symm hkk))]; exact hR.hc hI
  refine y_aload_n (pc' := 66) rfl C dX3_copyFrom_65 rfl ?_
  refine y_get (pc' := 69) rfl (v := .ref (a (0, k, 7))) C fl_X3_48 (v0 hk rfl) rfl rfl dX3_copyFrom_66 rfl ?_
  refine y_aload_n (pc' := 70) rfl C dX3_copyFrom_69 rfl ?_
  refine y_get (pc' := 73) rfl (v := .ref (a (0, k2, 7))) C fl_X3_48 (v0 hk2 rfl) rfl rfl dX3_copyFrom_70 rfl ?_
  refine y_cVv (pc' := 76) (k' := 0) (n' := 0) rfl C (c_X7_copyFrom _ G a Y_62 k k2 (nn (s 15)) hk hk2 hkk hc7 hI.np.2) my_X7_copyFrom aw_408 (v0 hk rfl) rfl rfl rfl rfl rfl (Nat.le_of_ble_eq_true rfl) rfl dX3_copyFrom_73 rfl rfl (fun Y_73 hY_73 => ?_)
  refine y_return C rfl dX3_copyFrom_76 rfl rfl ?_
  have z : ∀ j j', ((0, k2, j) : Id3) ≠ (0, k, j') := fun j j' => nek (Ne.symm hkk)
  have zp : ∀ p j', ((1, k2, p) : Id3) ≠ (0, k, j') := fun j j' => nek (Ne.symm hkk)
  have zq : ∀ p j', ((1, k, p) : Id3) ≠ (0, k, j') := fun p j' q => by injection q with q1; exact absurd q1 (by decide)
  have g4 : ∀ i : Id3, i ≠ (0, k, 0) → Z29 i = Y i := fun i hi => by rw [hZ29, up_n hi, hZ21, up_n hi, hZ13, up_n hi, hZ5, up_n hi]
  have e0 : Z29 (0, k, 0) = fil (Y (0, k2, 0)) (Y (0, k, 0)) 4 := by rw [← fil4, hZ29, hZ21, hZ13, hZ5]; simp only [up_setA, setA_setA, setA_s, setA_n (z 0 0)]
  have g1 : ∀ i : Id3, i ≠ (0, k, 1) → Y_40 i = Z29 i := fun i hi => by rw [hY_40, setA_n hi]
  have g2 : ∀ i : Id3, i ≠ (0, k, 2) → i ≠ (0, k, 3) → Y_51 i = Y_40 i := fun i h2 h3 => by rw [hY_51, setA_n h3, setA_n h2]
  have g3 : ∀ i : Id3, i ≠ (0, k, 4) → i ≠ (0, k, 5) → i ≠ (0, k, 6) → Y_62 i = Y_51 i := fun i h2 h3 h4 => by rw [hY_62, setA_n h4, setA_n h3, setA_n h2]
  have p0 : ∀ j, Y_73 (0, k, j) = setA Y_62 (0, k, 7) (fil (Y_62 (0, k2, 7)) (Y_62 (0, k, 7)) 1) (0, k, j) := fun j => by rw [hY_73, potG_n (fun q => absurd q.1 (show ¬ (0 : Nat) = 1 by decide))]
  have o : ∀ j, Y_62 (0, k2, j) = Y (0, k2, j) := fun j => by rw [g3 _ (z j 4) (z j 5) (z j 6), g2 _ (z j 2) (z j 3), g1 _ (z j 1), g4 _ (z j 0)]
  have o1 : ∀ j, Y_51 (0, k2, j) = Y (0, k2, j) := fun j => by rw [g2 _ (z j 2) (z j 3), g1 _ (z j 1), g4 _ (z j 0)]
  have o2 : ∀ j, Y_40 (0, k2, j) = Y (0, k2, j) := fun j => by rw [g1 _ (z j 1), g4 _ (z j 0)]
  have o3 : ∀ j, Z29 (0, k2, j) = Y (0, k2, j) := fun j => by rw [g4 _ (z j 0)]
  refine ⟨copy_ok hR ?_ ?_ ?_ ?_ ?_ ?_ ?_ ?_ ?_ hI.lg.2, fun i hi => ?_⟩
  · intro f hf; rw [p0, setA_n (nej (by decide)), g3 _ (nej (by decide)) (nej (by decide)) (nej (by decide)), g2 _ (nej (by decide)) (nej (by decide)), g1 _ (nej (by decide)), e0, fil_in hf]
  · intro f hf; rw [p0, setA_n (nej (by decide)), g3 _ (nej (by decide)) (nej (by decide)) (nej (by decide)), g2 _ (nej (by decide)) (nej (by decide)), hY_40, setA_s, fil_in hf, o3]
  · rw [p0, setA_n (nej (by decide)), g3 _ (nej (by decide)) (nej (by decide)) (nej (by decide)), hY_51, setA_n (nej (by decide)), setA_s, fil_in (by decide), o2]
  · intro f hf; rw [p0, setA_n (nej (by decide)), g3 _ (nej (by decide)) (nej (by decide)) (nej (by decide)), hY_51, setA_s, fil_in hf, o2]
  · intro f hf; rw [p0, setA_n (nej (by decide)), hY_62, setA_n (nej (by decide)), setA_n (nej (by decide)), setA_s, fil_in hf, o1]
  · intro f hf; rw [p0, setA_n (nej (by decide)), hY_62, setA_n (nej (by decide)), setA_s, fil_in hf, o1]
  · intro f hf; rw [p0, setA_n (nej (by decide)), hY_62, setA_s, fil_in hf, o1]
  · rw [p0, setA_s, fil_in (by decide), o]
  · intro p hp f hf
    rw [hY_73, potG_lt hp]
    show fil (Y_62 (1, k2, p)) (Y_62 (1, k, p)) 7 f = _
    rw [fil_in hf, g3 _ (zp p 4) (zp p 5) (zp p 6), g2 _ (zp p 2) (zp p 3), g1 _ (zp p 1), g4 _ (zp p 0)]
  · have y : ∀ j, i ≠ (0, k, j) := fun j q => hi (by rw [q]; exact ⟨Nat.zero_le 1, rfl⟩)
    rw [hY_73, potG_n (fun q => hi ⟨by omega, q.2⟩), setA_n (y 7), g3 _ (y 4) (y 5) (y 6), g2 _ (y 2) (y 3), g1 _ (y 1), g4 _ (y 0)]
-- KilnKeeper$Kiln.accountOf 
set_option maxHeartbeats 1000000 in
set_option maxRecDepth 20000 in
theorem c_X3_accountOf (l : Launch) (G : GT) (a : Id3 → Nat) (Y : YT) (k np : Nat) (w : Int32)  (hk : k < 11) (hc : Y (0, k, 7) 0 = nI np) (hnp : np ≤ 8) : CtY l G a yX3_accountOf cX3_accountOf 2 (some .int) ({ frames := 2, cells := 0, slots := 0, locals := 45 } : Room) [.ref (a (0, k, 0)), .int w] Y (PI (fun r Y' => r = accK Y k np w ∧ Y' = Y)) := by
  refine CtY.of (by decide) rfl (Nat.le_of_ble_eq_true rfl) ?_
  intro X A C hl
  subst hl
  refine y_iload_n (pc' := 1) rfl C dX3_accountOf_0 rfl ?_
  by_cases s_1_0 : w = 0
  · refine y_tabC (v := 0) (tgt := 80) C s_1_0 dX3_accountOf_1 (by decide) (by decide) rfl (by decide) ?_
    refine y_aload_n (pc' := 81) rfl C dX3_accountOf_80 rfl ?_
    refine y_get (pc' := 84) rfl (v := .ref (a (0, k, 4))) C fl_X3_41 (v0 hk rfl) rfl rfl dX3_accountOf_81 rfl ?_
    refine y_get (pc' := 87) rfl C fl_X3_137 (v0 hk rfl) rfl rfl dX3_accountOf_84 rfl ?_
    refine y_ireturn C rfl rfl dX3_accountOf_87 rfl rfl ?_
    exact ⟨by rw [accK, if_pos s_1_0], rfl⟩
  by_cases s_1_1 : w = 1
  · refine y_tabC (v := 1) (tgt := 88) C s_1_1 dX3_accountOf_1 (by decide) (by decide) rfl (by decide) ?_
    refine y_aload_n (pc' := 89) rfl C dX3_accountOf_88 rfl ?_
    refine y_get (pc' := 92) rfl C fl_X3_9 (v0 hk rfl) rfl rfl dX3_accountOf_89 rfl ?_
    refine y_ireturn C rfl rfl dX3_accountOf_92 rfl rfl ?_
    exact ⟨by rw [accK, if_neg s_1_0, if_pos s_1_1], rfl⟩
  by_cases s_1_2 : w = 2
  · refine y_tabC (v := 2) (tgt := 93) C s_1_2 dX3_accountOf_1 (by decide) (by decide) rfl (by decide) ?_
    refine y_aload_n (pc' := 94) rfl C dX3_accountOf_93 rfl ?_
    refine y_get (pc' := 97) rfl C fl_X3_15 (v0 hk rfl) rfl rfl dX3_accountOf_94 rfl ?_
    refine y_ireturn C rfl rfl dX3_accountOf_97 rfl rfl ?_
    exact ⟨by rw [accK, if_neg s_1_0, if_neg s_1_1, if_pos s_1_2], rfl⟩
  by_cases s_1_3 : w = 3
  · refine y_tabC (v := 3) (tgt := 98) C s_1_3 dX3_accountOf_1 (by decide) (by decide) rfl (by decide) ?_
    refine y_aload_n (pc' := 99) rfl C dX3_accountOf_98 rfl ?_
    refine y_cVi (pc' := 102) (k' := 0) (n' := 0) rfl C (c_X3_error _ G a Y k hk) my_X3_error aw_354 (v0 hk rfl) rfl rfl rfl rfl rfl (Nat.le_of_ble_eq_true rfl) rfl dX3_accountOf_99 rfl rfl (fun r_99 Y_99 hp_99 => ?_)
    obtain ⟨rfl, hY_99⟩ := hp_99
    have hY_99 := hY_99.symm; subst hY_99
    refine y_ireturn C rfl rfl dX3_accountOf_102 rfl rfl ?_
    exact ⟨by rw [accK, if_neg s_1_0, if_neg s_1_1, if_neg s_1_2, if_pos s_1_3], rfl⟩
  by_cases s_1_4 : w = 4
  · refine y_tabC (v := 4) (tgt := 103) C s_1_4 dX3_accountOf_1 (by decide) (by decide) rfl (by decide) ?_
    refine y_aload_n (pc' := 104) rfl C dX3_accountOf_103 rfl ?_
    refine y_get (pc' := 107) rfl (v := .ref (a (0, k, 1))) C fl_X3_27 (v0 hk rfl) rfl rfl dX3_accountOf_104 rfl ?_
    refine y_get (pc' := 110) rfl C fl_X3_140 (v0 hk rfl) rfl rfl dX3_accountOf_107 rfl ?_
    refine y_ireturn C rfl rfl dX3_accountOf_110 rfl rfl ?_
    exact ⟨by rw [accK, if_neg s_1_0, if_neg s_1_1, if_neg s_1_2, if_neg s_1_3, if_pos s_1_4], rfl⟩
  by_cases s_1_5 : w = 5
  · refine y_tabC (v := 5) (tgt := 111) C s_1_5 dX3_accountOf_1 (by decide) (by decide) rfl (by decide) ?_
    refine y_aload_n (pc' := 112) rfl C dX3_accountOf_111 rfl ?_
    refine y_get (pc' := 115) rfl (v := .ref (a (0, k, 1))) C fl_X3_27 (v0 hk rfl) rfl rfl dX3_accountOf_112 rfl ?_
    refine y_get (pc' := 118) rfl C fl_X3_143 (v0 hk rfl) rfl rfl dX3_accountOf_115 rfl ?_
    refine y_ireturn C rfl rfl dX3_accountOf_118 rfl rfl ?_
    exact ⟨by rw [accK, if_neg s_1_0, if_neg s_1_1, if_neg s_1_2, if_neg s_1_3, if_neg s_1_4, if_pos s_1_5], rfl⟩
  by_cases s_1_6 : w = 6
  · refine y_tabC (v := 6) (tgt := 119) C s_1_6 dX3_accountOf_1 (by decide) (by decide) rfl (by decide) ?_
    refine y_aload_n (pc' := 120) rfl C dX3_accountOf_119 rfl ?_
    refine y_get (pc' := 123) rfl C fl_X3_21 (v0 hk rfl) rfl rfl dX3_accountOf_120 rfl ?_
    refine y_ireturn C rfl rfl dX3_accountOf_123 rfl rfl ?_
    exact ⟨by rw [accK, if_neg s_1_0, if_neg s_1_1, if_neg s_1_2, if_neg s_1_3, if_neg s_1_4, if_neg s_1_5, if_pos s_1_6], rfl⟩
  by_cases s_1_7 : w = 7
  · refine y_tabC (v := 7) (tgt := 124) C s_1_7 dX3_accountOf_1 (by decide) (by decide) rfl (by decide) ?_
    refine y_aload_n (pc' := 125) rfl C dX3_accountOf_124 rfl ?_
    refine y_get (pc' := 128) rfl (v := .ref (a (0, k, 4))) C fl_X3_41 (v0 hk rfl) rfl rfl dX3_accountOf_125 rfl ?_
    refine y_get (pc' := 131) rfl C fl_X3_130 (v0 hk rfl) rfl rfl dX3_accountOf_128 rfl ?_
    refine y_ireturn C rfl rfl dX3_accountOf_131 rfl rfl ?_
    exact ⟨by rw [accK, if_neg s_1_0, if_neg s_1_1, if_neg s_1_2, if_neg s_1_3, if_neg s_1_4, if_neg s_1_5, if_neg s_1_6, if_pos s_1_7], rfl⟩
  by_cases s_1_8 : w = 8
  · refine y_tabC (v := 8) (tgt := 132) C s_1_8 dX3_accountOf_1 (by decide) (by decide) rfl (by decide) ?_
    refine y_aload_n (pc' := 133) rfl C dX3_accountOf_132 rfl ?_
    refine y_get (pc' := 136) rfl (v := .ref (a (0, k, 4))) C fl_X3_41 (v0 hk rfl) rfl rfl dX3_accountOf_133 rfl ?_
    refine y_get (pc' := 139) rfl C fl_X3_146 (v0 hk rfl) rfl rfl dX3_accountOf_136 rfl ?_
    refine y_ireturn C rfl rfl dX3_accountOf_139 rfl rfl ?_
    exact ⟨by rw [accK, if_neg s_1_0, if_neg s_1_1, if_neg s_1_2, if_neg s_1_3, if_neg s_1_4, if_neg s_1_5, if_neg s_1_6, if_neg s_1_7, if_pos s_1_8], rfl⟩
  by_cases s_1_9 : w = 9
  · refine y_tabC (v := 9) (tgt := 140) C s_1_9 dX3_accountOf_1 (by decide) (by decide) rfl (by decide) ?_
    refine y_aload_n (pc' := 141) rfl C dX3_accountOf_140 rfl ?_
    refine y_get (pc' := 144) rfl C fl_X3_18 (v0 hk rfl) rfl rfl dX3_accountOf_141 rfl ?_
    refine y_ireturn C rfl rfl dX3_accountOf_144 rfl rfl ?_
    exact ⟨by rw [accK, if_neg s_1_0, if_neg s_1_1, if_neg s_1_2, if_neg s_1_3, if_neg s_1_4, if_neg s_1_5, if_neg s_1_6, if_neg s_1_7, if_neg s_1_8, if_pos s_1_9], rfl⟩
  by_cases s_1_10 : w = 10
  · refine y_tabC (v := 10) (tgt := 145) C s_1_10 dX3_accountOf_1 (by decide) (by decide) rfl (by decide) ?_
    refine y_aload_n (pc' := 146) rfl C dX3_accountOf_145 rfl ?_
    refine y_get (pc' := 149) rfl (v := .ref (a (0, k, 7))) C fl_X3_48 (v0 hk rfl) rfl rfl dX3_accountOf_146 rfl ?_
    refine y_get (pc' := 152) rfl C fl_X3_149 (v0 hk rfl) rfl rfl dX3_accountOf_149 rfl ?_
    refine y_ireturn C rfl rfl dX3_accountOf_152 rfl rfl ?_
    exact ⟨by rw [accK, if_neg s_1_0, if_neg s_1_1, if_neg s_1_2, if_neg s_1_3, if_neg s_1_4, if_neg s_1_5, if_neg s_1_6, if_neg s_1_7, if_neg s_1_8, if_neg s_1_9, if_pos s_1_10], rfl⟩
  by_cases s_1_11 : w = 11
  · refine y_tabC (v := 11) (tgt := 153) C s_1_11 dX3_accountOf_1 (by decide) (by decide) rfl (by decide) ?_
    refine y_aload_n (pc' := 154) rfl C dX3_accountOf_153 rfl ?_
    refine y_get (pc' := 157) rfl (v := .ref (a (0, k, 7))) C fl_X3_48 (v0 hk rfl) rfl rfl dX3_accountOf_154 rfl ?_
    refine y_iconst (pc' := 158) rfl (v := 0) C dX3_accountOf_157 (by decide) ?_
    refine y_cVi (pc' := 161) (k' := 0) (n' := 0) rfl C (c_X7_countOf _ G a Y k np 0 hk hc hnp) my_X7_countOf aw_358 (v0 hk rfl) rfl rfl rfl rfl rfl (Nat.le_of_ble_eq_true rfl) rfl dX3_accountOf_158 rfl rfl (fun r_158 Y_158 hp_158 => ?_)
    obtain ⟨rfl, hY_158⟩ := hp_158
    have hY_158 := hY_158.symm; subst hY_158
    refine y_ireturn C rfl rfl dX3_accountOf_161 rfl rfl ?_
    exact ⟨by rw [accK, if_neg s_1_0, if_neg s_1_1, if_neg s_1_2, if_neg s_1_3, if_neg s_1_4, if_neg s_1_5, if_neg s_1_6, if_neg s_1_7, if_neg s_1_8, if_neg s_1_9, if_neg s_1_10, if_pos s_1_11], rfl⟩
  by_cases s_1_12 : w = 12
  · refine y_tabC (v := 12) (tgt := 162) C s_1_12 dX3_accountOf_1 (by decide) (by decide) rfl (by decide) ?_
    refine y_aload_n (pc' := 163) rfl C dX3_accountOf_162 rfl ?_
    refine y_get (pc' := 166) rfl (v := .ref (a (0, k, 7))) C fl_X3_48 (v0 hk rfl) rfl rfl dX3_accountOf_163 rfl ?_
    refine y_iconst (pc' := 167) rfl (v := 1) C dX3_accountOf_166 (by decide) ?_
    refine y_cVi (pc' := 170) (k' := 0) (n' := 0) rfl C (c_X7_countOf _ G a Y k np 1 hk hc hnp) my_X7_countOf aw_358 (v0 hk rfl) rfl rfl rfl rfl rfl (Nat.le_of_ble_eq_true rfl) rfl dX3_accountOf_167 rfl rfl (fun r_167 Y_167 hp_167 => ?_)
    obtain ⟨rfl, hY_167⟩ := hp_167
    have hY_167 := hY_167.symm; subst hY_167
    refine y_ireturn C rfl rfl dX3_accountOf_170 rfl rfl ?_
    exact ⟨by rw [accK, if_neg s_1_0, if_neg s_1_1, if_neg s_1_2, if_neg s_1_3, if_neg s_1_4, if_neg s_1_5, if_neg s_1_6, if_neg s_1_7, if_neg s_1_8, if_neg s_1_9, if_neg s_1_10, if_neg s_1_11, if_pos s_1_12], rfl⟩
  by_cases s_1_13 : w = 13
  · refine y_tabC (v := 13) (tgt := 171) C s_1_13 dX3_accountOf_1 (by decide) (by decide) rfl (by decide) ?_
    refine y_aload_n (pc' := 172) rfl C dX3_accountOf_171 rfl ?_
    refine y_get (pc' := 175) rfl (v := .ref (a (0, k, 7))) C fl_X3_48 (v0 hk rfl) rfl rfl dX3_accountOf_172 rfl ?_
    refine y_iconst (pc' := 176) rfl (v := 2) C dX3_accountOf_175 (by decide) ?_
    refine y_cVi (pc' := 179) (k' := 0) (n' := 0) rfl C (c_X7_countOf _ G a Y k np 2 hk hc hnp) my_X7_countOf aw_358 (v0 hk rfl) rfl rfl rfl rfl rfl (Nat.le_of_ble_eq_true rfl) rfl dX3_accountOf_176 rfl rfl (fun r_176 Y_176 hp_176 => ?_)
    obtain ⟨rfl, hY_176⟩ := hp_176
    have hY_176 := hY_176.symm; subst hY_176
    refine y_ireturn C rfl rfl dX3_accountOf_179 rfl rfl ?_
    exact ⟨by rw [accK, if_neg s_1_0, if_neg s_1_1, if_neg s_1_2, if_neg s_1_3, if_neg s_1_4, if_neg s_1_5, if_neg s_1_6, if_neg s_1_7, if_neg s_1_8, if_neg s_1_9, if_neg s_1_10, if_neg s_1_11, if_neg s_1_12, if_pos s_1_13], rfl⟩
  by_cases s_1_14 : w = 14
  · refine y_tabC (v := 14) (tgt := 180) C s_1_14 dX3_accountOf_1 (by decide) (by decide) rfl (by decide) ?_
    refine y_aload_n (pc' := 181) rfl C dX3_accountOf_180 rfl ?_
    refine y_get (pc' := 184) rfl (v := .ref (a (0, k, 7))) C fl_X3_48 (v0 hk rfl) rfl rfl dX3_accountOf_181 rfl ?_
    refine y_iconst (pc' := 185) rfl (v := 3) C dX3_accountOf_184 (by decide) ?_
    refine y_cVi (pc' := 188) (k' := 0) (n' := 0) rfl C (c_X7_countOf _ G a Y k np 3 hk hc hnp) my_X7_countOf aw_358 (v0 hk rfl) rfl rfl rfl rfl rfl (Nat.le_of_ble_eq_true rfl) rfl dX3_accountOf_185 rfl rfl (fun r_185 Y_185 hp_185 => ?_)
    obtain ⟨rfl, hY_185⟩ := hp_185
    have hY_185 := hY_185.symm; subst hY_185
    refine y_ireturn C rfl rfl dX3_accountOf_188 rfl rfl ?_
    exact ⟨by rw [accK, if_neg s_1_0, if_neg s_1_1, if_neg s_1_2, if_neg s_1_3, if_neg s_1_4, if_neg s_1_5, if_neg s_1_6, if_neg s_1_7, if_neg s_1_8, if_neg s_1_9, if_neg s_1_10, if_neg s_1_11, if_neg s_1_12, if_neg s_1_13, if_pos s_1_14], rfl⟩
  by_cases s_1_15 : w = 15
  · refine y_tabC (v := 15) (tgt := 189) C s_1_15 dX3_accountOf_1 (by decide) (by decide) rfl (by decide) ?_
    refine y_aload_n (pc' := 190) rfl C dX3_accountOf_189 rfl ?_
    refine y_get (pc' := 193) rfl (v := .ref (a (0, k, 7))) C fl_X3_48 (v0 hk rfl) rfl rfl dX3_accountOf_190 rfl ?_
    refine y_cVi (pc' := 196) (k' := 0) (n' := 0) rfl C (c_X7_countWithin _ G a Y k np hk hc hnp) my_X7_countWithin aw_366 (v0 hk rfl) rfl rfl rfl rfl rfl (Nat.le_of_ble_eq_true rfl) rfl dX3_accountOf_193 rfl rfl (fun r_193 Y_193 hp_193 => ?_)
    obtain ⟨rfl, hY_193⟩ := hp_193
    have hY_193 := hY_193.symm; subst hY_193
    refine y_ireturn C rfl rfl dX3_accountOf_196 rfl rfl ?_
    exact ⟨by rw [accK, if_neg s_1_0, if_neg s_1_1, if_neg s_1_2, if_neg s_1_3, if_neg s_1_4, if_neg s_1_5, if_neg s_1_6, if_neg s_1_7, if_neg s_1_8, if_neg s_1_9, if_neg s_1_10, if_neg s_1_11, if_neg s_1_12, if_neg s_1_13, if_neg s_1_14, if_pos s_1_15], rfl⟩
  refine y_tabD (tgt := 197) C [0, 1, 2, 3, 4, 5, 6, 7, 8, 9, 10, 11, 12, 13, 14, 15] dX3_accountOf_1 (List.forall_mem_cons.mpr ⟨tne s_1_0 rfl, (List.forall_mem_cons.mpr ⟨tne s_1_1 rfl, (List.forall_mem_cons.mpr ⟨tne s_1_2 rfl, (List.forall_mem_cons.mpr ⟨tne s_1_3 rfl, (List.forall_mem_cons.mpr ⟨tne s_1_4 rfl, (List.forall_mem_cons.mpr ⟨tne s_1_5 rfl, (List.forall_mem_cons.mpr ⟨tne s_1_6 rfl, (List.forall_mem_cons.mpr ⟨tne s_1_7 rfl, (List.forall_mem_cons.mpr ⟨tne s_1_8 rfl, (List.forall_mem_cons.mpr ⟨tne s_1_9 rfl, (List.forall_mem_cons.mpr ⟨tne s_1_10 rfl, (List.forall_mem_cons.mpr ⟨tne s_1_11 rfl, (List.forall_mem_cons.mpr ⟨tne s_1_12 rfl, (List.forall_mem_cons.mpr ⟨tne s_1_13 rfl, (List.forall_mem_cons.mpr ⟨tne s_1_14 rfl, (List.forall_mem_cons.mpr ⟨tne s_1_15 rfl, (fun _ h => absurd h List.not_mem_nil)⟩)⟩)⟩)⟩)⟩)⟩)⟩)⟩)⟩)⟩)⟩)⟩)⟩)⟩)⟩)⟩) rfl (by decide) ?_
  refine y_sipush (pc' := 200) rfl (v := (-10002)) C dX3_accountOf_197 (by decide) ?_
  refine y_ireturn C rfl rfl dX3_accountOf_200 rfl rfl ?_
  exact ⟨by rw [accK, if_neg s_1_0, if_neg s_1_1, if_neg s_1_2, if_neg s_1_3, if_neg s_1_4, if_neg s_1_5, if_neg s_1_6, if_neg s_1_7, if_neg s_1_8, if_neg s_1_9, if_neg s_1_10, if_neg s_1_11, if_neg s_1_12, if_neg s_1_13, if_neg s_1_14, if_neg s_1_15], rfl⟩
