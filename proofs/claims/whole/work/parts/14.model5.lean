theorem my_X13_forgets : MV yX13_forgets cX13_forgets 2 none 0 := ⟨aw_1253, aw_71, ⟨by decide, by decide, by decide +kernel⟩, aw_1252, aw_39⟩
theorem my_X13_isAhead : MV yX13_isAhead cX13_isAhead 3 (some .boolean) 2 := ⟨aw_1265, aw_71, ⟨by decide, by decide, by decide +kernel⟩, aw_1264, aw_40⟩
theorem my_X13_left : MV yX13_left cX13_left 2 (some .int) 1 := ⟨aw_1269, aw_71, ⟨by decide, by decide, by decide +kernel⟩, aw_1268, aw_41⟩
theorem my_X13_thinks : MV yX13_thinks cX13_thinks 3 none 1 := ⟨aw_1249, aw_71, ⟨by decide, by decide, by decide +kernel⟩, aw_1248, aw_38⟩
-- KilnKeeperModel.left 
set_option maxHeartbeats 1000000 in
set_option maxRecDepth 20000 in
theorem c_X13_left (l : Launch) (G : GT) (a : Id3 → Nat) (Y : YT)  (p : Int32) (p_n : Nat) (p_h : p = nI p_n) (hp8 : p_n < 8) : CtY l G a yX13_left cX13_left 2 (some .int) ({ frames := 0, cells := 0, slots := 0, locals := 0 } : Room) [.ref (a (4, 0, 8)), .int p] Y (PI (fun r Y' => r = lf (Y (4, 0, 0)) p_n ∧ Y' = Y)) := by
  refine CtY.of (by decide) rfl (Nat.le_of_ble_eq_true rfl) ?_
  intro X A C hl
  subst hl
  refine y_aload_n (pc' := 1) rfl C dX13_left_0 rfl ?_
  refine y_get (pc' := 4) rfl (v := .ref (a (4, 0, 0))) C fl_X13_7 (v4 rfl) rfl rfl dX13_left_1 rfl ?_
  refine y_sipush (pc' := 7) rfl (v := 187) C dX13_left_4 (by decide) ?_
  refine y_iload_n (pc' := 8) rfl C dX13_left_7 rfl ?_
  refine y_iadd (pc' := 9) rfl C dX13_left_8 ?_
  refine y_ialdN (pc' := 10) rfl C (187 + p_n) (nadd (rfl : (187 : Int32) = nI 187) p_h) (v4 rfl) rfl rfl (show (187 + p_n) < 227 by omega) rfl dX13_left_9 ?_
  refine y_aload_n (pc' := 11) rfl C dX13_left_10 rfl ?_
  refine y_get (pc' := 14) rfl (v := .ref (a (4, 0, 0))) C fl_X13_7 (v4 rfl) rfl rfl dX13_left_11 rfl ?_
  refine y_sipush (pc' := 17) rfl (v := 203) C dX13_left_14 (by decide) ?_
  refine y_iload_n (pc' := 18) rfl C dX13_left_17 rfl ?_
  refine y_iadd (pc' := 19) rfl C dX13_left_18 ?_
  refine y_ialdN (pc' := 20) rfl C (203 + p_n) (nadd (rfl : (203 : Int32) = nI 203) p_h) (v4 rfl) rfl rfl (show (203 + p_n) < 227 by omega) rfl dX13_left_19 ?_
  refine y_isub (pc' := 21) rfl C dX13_left_20 ?_
  refine y_ireturn C rfl rfl dX13_left_21 rfl rfl ?_
  exact ⟨rfl, rfl⟩
-- KilnKeeperModel.isAhead 
set_option maxHeartbeats 1000000 in
set_option maxRecDepth 20000 in
theorem c_X13_isAhead (l : Launch) (G : GT) (a : Id3 → Nat) (Y : YT)  (x : Int32) (x_n : Nat) (y : Int32) (y_n : Nat) (x_h : x = nI x_n) (y_h : y = nI y_n) (hx8 : x_n < 8) (hy8 : y_n < 8) : CtY l G a yX13_isAhead cX13_isAhead 3 (some .boolean) ({ frames := 1, cells := 0, slots := 0, locals := 21 } : Room) [.ref (a (4, 0, 8)), .int x, .int y] Y (PI (fun r Y' => r = aheadI (Y (4, 0, 0)) x_n y_n ∧ Y' = Y)) := by
  refine CtY.of (by decide) rfl (Nat.le_of_ble_eq_true rfl) ?_
  intro X A C hl
  subst hl
  refine y_aload_n (pc' := 1) rfl C dX13_isAhead_0 rfl ?_
  refine y_iload_n (pc' := 2) rfl C dX13_isAhead_1 rfl ?_
  refine y_cVi (pc' := 5) (k' := 0) (n' := 0) rfl C (c_X13_left _ G a Y x x_n x_h (by assumption)) my_X13_left aw_1266 (v4 rfl) rfl rfl rfl rfl rfl (Nat.le_of_ble_eq_true rfl) rfl dX13_isAhead_2 rfl rfl (fun r_2 Y_2 hp_2 => ?_)
  obtain ⟨rfl, hY_2⟩ := hp_2
  have hY_2 := hY_2.symm; subst hY_2
  refine y_aload_n (pc' := 6) rfl C dX13_isAhead_5 rfl ?_
  refine y_iload_n (pc' := 7) rfl C dX13_isAhead_6 rfl ?_
  refine y_cVi (pc' := 10) (k' := 0) (n' := 0) rfl C (c_X13_left _ G a Y y y_n y_h (by assumption)) my_X13_left aw_1266 (v4 rfl) rfl rfl rfl rfl rfl (Nat.le_of_ble_eq_true rfl) rfl dX13_isAhead_7 rfl rfl (fun r_7 Y_7 hp_7 => ?_)
  obtain ⟨rfl, hY_7⟩ := hp_7
  have hY_7 := hY_7.symm; subst hY_7
  refine y_ic_eq (pc' := 13) rfl (tgt := 32) C dX13_isAhead_10 (by decide) (fun c_10 => ?_) (fun c_10 => ?_)
  · refine y_aload_n (pc' := 33) rfl C dX13_isAhead_32 rfl ?_
    refine y_get (pc' := 36) rfl (v := .ref (a (4, 0, 0))) C fl_X13_7 (v4 rfl) rfl rfl dX13_isAhead_33 rfl ?_
    refine y_sipush (pc' := 39) rfl (v := 179) C dX13_isAhead_36 (by decide) ?_
    refine y_iload_n (pc' := 40) rfl C dX13_isAhead_39 rfl ?_
    refine y_iadd (pc' := 41) rfl C dX13_isAhead_40 ?_
    refine y_ialdN (pc' := 42) rfl C (179 + x_n) (nadd (rfl : (179 : Int32) = nI 179) x_h) (v4 rfl) rfl rfl (show (179 + x_n) < 227 by omega) rfl dX13_isAhead_41 ?_
    refine y_aload_n (pc' := 43) rfl C dX13_isAhead_42 rfl ?_
    refine y_get (pc' := 46) rfl (v := .ref (a (4, 0, 0))) C fl_X13_7 (v4 rfl) rfl rfl dX13_isAhead_43 rfl ?_
    refine y_sipush (pc' := 49) rfl (v := 179) C dX13_isAhead_46 (by decide) ?_
    refine y_iload_n (pc' := 50) rfl C dX13_isAhead_49 rfl ?_
    refine y_iadd (pc' := 51) rfl C dX13_isAhead_50 ?_
    refine y_ialdN (pc' := 52) rfl C (179 + y_n) (nadd (rfl : (179 : Int32) = nI 179) y_h) (v4 rfl) rfl rfl (show (179 + y_n) < 227 by omega) rfl dX13_isAhead_51 ?_
    refine y_ic_gt (pc' := 55) rfl (tgt := 83) C dX13_isAhead_52 (by decide) (fun c_52 => ?_) (fun c_52 => ?_)
    · refine y_iconst (pc' := 84) rfl (v := 1) C dX13_isAhead_83 (by decide) ?_
      refine y_goto (tgt := 88) C dX13_isAhead_84 (by decide) ?_
      refine y_ireturn C rfl (by first | rfl | exact nb_narrow (aheadI_b _ _ _)) dX13_isAhead_88 rfl rfl ?_
      exact ⟨by rw [aheadI, if_pos c_10, if_pos c_52], rfl⟩
    · refine y_aload_n (pc' := 56) rfl C dX13_isAhead_55 rfl ?_
      refine y_get (pc' := 59) rfl (v := .ref (a (4, 0, 0))) C fl_X13_7 (v4 rfl) rfl rfl dX13_isAhead_56 rfl ?_
      refine y_sipush (pc' := 62) rfl (v := 179) C dX13_isAhead_59 (by decide) ?_
      refine y_iload_n (pc' := 63) rfl C dX13_isAhead_62 rfl ?_
      refine y_iadd (pc' := 64) rfl C dX13_isAhead_63 ?_
      refine y_ialdN (pc' := 65) rfl C (179 + x_n) (nadd (rfl : (179 : Int32) = nI 179) x_h) (v4 rfl) rfl rfl (show (179 + x_n) < 227 by omega) rfl dX13_isAhead_64 ?_
      refine y_aload_n (pc' := 66) rfl C dX13_isAhead_65 rfl ?_
      refine y_get (pc' := 69) rfl (v := .ref (a (4, 0, 0))) C fl_X13_7 (v4 rfl) rfl rfl dX13_isAhead_66 rfl ?_
      refine y_sipush (pc' := 72) rfl (v := 179) C dX13_isAhead_69 (by decide) ?_
      refine y_iload_n (pc' := 73) rfl C dX13_isAhead_72 rfl ?_
      refine y_iadd (pc' := 74) rfl C dX13_isAhead_73 ?_
      refine y_ialdN (pc' := 75) rfl C (179 + y_n) (nadd (rfl : (179 : Int32) = nI 179) y_h) (v4 rfl) rfl rfl (show (179 + y_n) < 227 by omega) rfl dX13_isAhead_74 ?_
      refine y_ic_ne (pc' := 78) rfl (tgt := 87) C dX13_isAhead_75 (by decide) (fun c_75 => ?_) (fun c_75 => ?_)
      · refine y_iconst (pc' := 88) rfl (v := 0) C dX13_isAhead_87 (by decide) ?_
        refine y_ireturn C rfl (by first | rfl | exact nb_narrow (aheadI_b _ _ _)) dX13_isAhead_88 rfl rfl ?_
        exact ⟨by rw [aheadI, if_pos c_10, if_neg c_52, if_neg c_75], rfl⟩
      · refine y_iload_n (pc' := 79) rfl C dX13_isAhead_78 rfl ?_
        refine y_iload_n (pc' := 80) rfl C dX13_isAhead_79 rfl ?_
        refine y_ic_ge (pc' := 83) rfl (tgt := 87) C dX13_isAhead_80 (by decide) (fun c_80 => ?_) (fun c_80 => ?_)
        · refine y_iconst (pc' := 88) rfl (v := 0) C dX13_isAhead_87 (by decide) ?_
          refine y_ireturn C rfl (by first | rfl | exact nb_narrow (aheadI_b _ _ _)) dX13_isAhead_88 rfl rfl ?_
          exact ⟨by rw [aheadI, if_pos c_10, if_neg c_52, if_pos c_75, if_pos (by rw [← x_h, ← y_h]; exact c_80)], rfl⟩
        · refine y_iconst (pc' := 84) rfl (v := 1) C dX13_isAhead_83 (by decide) ?_
          refine y_goto (tgt := 88) C dX13_isAhead_84 (by decide) ?_
          refine y_ireturn C rfl (by first | rfl | exact nb_narrow (aheadI_b _ _ _)) dX13_isAhead_88 rfl rfl ?_
          exact ⟨by rw [aheadI, if_pos c_10, if_neg c_52, if_pos c_75, if_neg (by rw [← x_h, ← y_h]; exact c_80)], rfl⟩
  · refine y_aload_n (pc' := 14) rfl C dX13_isAhead_13 rfl ?_
    refine y_iload_n (pc' := 15) rfl C dX13_isAhead_14 rfl ?_
    refine y_cVi (pc' := 18) (k' := 0) (n' := 0) rfl C (c_X13_left _ G a Y x x_n x_h (by assumption)) my_X13_left aw_1266 (v4 rfl) rfl rfl rfl rfl rfl (Nat.le_of_ble_eq_true rfl) rfl dX13_isAhead_15 rfl rfl (fun r_15 Y_15 hp_15 => ?_)
    obtain ⟨rfl, hY_15⟩ := hp_15
    have hY_15 := hY_15.symm; subst hY_15
    refine y_aload_n (pc' := 19) rfl C dX13_isAhead_18 rfl ?_
    refine y_iload_n (pc' := 20) rfl C dX13_isAhead_19 rfl ?_
    refine y_cVi (pc' := 23) (k' := 0) (n' := 0) rfl C (c_X13_left _ G a Y y y_n y_h (by assumption)) my_X13_left aw_1266 (v4 rfl) rfl rfl rfl rfl rfl (Nat.le_of_ble_eq_true rfl) rfl dX13_isAhead_20 rfl rfl (fun r_20 Y_20 hp_20 => ?_)
    obtain ⟨rfl, hY_20⟩ := hp_20
    have hY_20 := hY_20.symm; subst hY_20
    refine y_ic_ge (pc' := 26) rfl (tgt := 30) C dX13_isAhead_23 (by decide) (fun c_23 => ?_) (fun c_23 => ?_)
    · refine y_iconst (pc' := 31) rfl (v := 0) C dX13_isAhead_30 (by decide) ?_
      refine y_ireturn C rfl (by first | rfl | exact nb_narrow (aheadI_b _ _ _)) dX13_isAhead_31 rfl rfl ?_
      exact ⟨by rw [aheadI, if_neg c_10, if_pos c_23], rfl⟩
    · refine y_iconst (pc' := 27) rfl (v := 1) C dX13_isAhead_26 (by decide) ?_
      refine y_goto (tgt := 31) C dX13_isAhead_27 (by decide) ?_
      refine y_ireturn C rfl (by first | rfl | exact nb_narrow (aheadI_b _ _ _)) dX13_isAhead_31 rfl rfl ?_
      exact ⟨by rw [aheadI, if_neg c_10, if_neg c_23], rfl⟩
-- KilnKeeperModel.ranked 
set_option maxHeartbeats 1000000 in
set_option maxRecDepth 20000 in
theorem c_X13_ranked (l : Launch) (G : GT) (a : Id3 → Nat) (Y : YT) (np : Nat) (place : Int32)  (hnp : np ≤ 8) (h15 : Y (4, 0, 0) 15 = nI np) : CtY l G a yX13_ranked cX13_ranked 5 (some .int) ({ frames := 2, cells := 0, slots := 0, locals := 43 } : Room) [.ref (a (4, 0, 8)), .int place] Y (PI (fun r Y' => r = rankL (Y (4, 0, 0)) np place np ∧ Y' = Y)) := by
  refine CtY.of (by decide) rfl (Nat.le_of_ble_eq_true rfl) ?_
  intro X A C hl
  subst hl
  refine y_iconst (pc' := 1) rfl (v := 0) C dX13_ranked_0 (by decide) ?_
  refine y_istore_n (pc' := 2) rfl C dX13_ranked_1 (by decide) ?_
  suffices K2 : ∀ (fu_ i2 : Nat) (Yl2 : YT), i2 ≤ np → np < fu_ + i2 → Yl2 = Y → rankL (Y (4, 0, 0)) np place np = rankL (Y (4, 0, 0)) np place (np - i2) → WY X G A a Yl2 0 0 _ 2 [some (.ref (a (4, 0, 8))), some (.int place), some (.int ((nI i2))), none, none] [] from K2 (np + 1) 0 _ (by omega) (by omega) (rfl) (by rw [Nat.sub_zero])
  intro fu_
  induction fu_ with
  | zero => intro i2 Yl2 h1 h2; omega
  | succ fu_ ih2 =>
    intro i2 Yl2 hi2 hm2 hYl2 hx2
    refine y_iload_n (pc' := 3) rfl C dX13_ranked_2 rfl ?_
    refine y_aload_n (pc' := 4) rfl C dX13_ranked_3 rfl ?_
    refine y_get (pc' := 7) rfl (v := .ref (a (4, 0, 0))) C fl_X13_7 (v4 rfl) rfl rfl dX13_ranked_4 rfl ?_
    refine y_bipush (pc' := 9) rfl (v := 15) C dX13_ranked_7 (by decide) ?_
    refine y_ialdN (pc' := 10) rfl C 15 rfl (v4 rfl) rfl rfl (by decide) rfl dX13_ranked_9 ?_
    refine y_ic_ge (pc' := 13) rfl (tgt := 73) C dX13_ranked_10 (by decide) (fun c_10 => ?_) (fun c_10 => ?_)
    · rw [hYl2, h15] at c_10
      have hb2 : np ≤ i2 := nI_le_iff (by omega) (by omega) c_10
      refine y_sipush (pc' := 76) rfl (v := (-10001)) C dX13_ranked_73 (by decide) ?_
      refine y_ireturn C rfl rfl dX13_ranked_76 rfl rfl ?_
      exact ⟨by rw [hx2, show np - i2 = 0 by omega, rankL], hYl2⟩
    · rw [hYl2, h15] at c_10
      have hb2 : i2 < np := nI_nle_iff (by omega) (by omega) c_10
      refine y_iconst (pc' := 14) rfl (v := 0) C dX13_ranked_13 (by decide) ?_
      refine y_istore_n (pc' := 15) rfl C dX13_ranked_14 (by decide) ?_
      refine y_iconst (pc' := 16) rfl (v := 0) C dX13_ranked_15 (by decide) ?_
      refine y_istore (pc' := 18) rfl C dX13_ranked_16 (by decide) ?_
      suffices K18 : ∀ (fu_ i18 : Nat) (Yl18 : YT), i18 ≤ np → np < fu_ + i18 → Yl18 = Y → WY X G A a Yl18 0 0 _ 18 [some (.ref (a (4, 0, 8))), some (.int place), some (.int ((nI i2))), some (.int ((aheadC (Y (4, 0, 0)) i2 i18))), some (.int ((nI i18)))] [] from K18 (np + 1) 0 _ (by omega) (by omega) (hYl2)
      intro fu_
      induction fu_ with
      | zero => intro i18 Yl18 h1 h2; omega
      | succ fu_ ih18 =>
        intro i18 Yl18 hi18 hm18 hYl18
        refine y_iload (pc' := 20) rfl C dX13_ranked_18 rfl ?_
        refine y_aload_n (pc' := 21) rfl C dX13_ranked_20 rfl ?_
        refine y_get (pc' := 24) rfl (v := .ref (a (4, 0, 0))) C fl_X13_7 (v4 rfl) rfl rfl dX13_ranked_21 rfl ?_
        refine y_bipush (pc' := 26) rfl (v := 15) C dX13_ranked_24 (by decide) ?_
        refine y_ialdN (pc' := 27) rfl C 15 rfl (v4 rfl) rfl rfl (by decide) rfl dX13_ranked_26 ?_
        refine y_ic_ge (pc' := 30) rfl (tgt := 60) C dX13_ranked_27 (by decide) (fun c_27 => ?_) (fun c_27 => ?_)
        · rw [hYl18, h15] at c_27
          have hb18 : np ≤ i18 := nI_le_iff (by omega) (by omega) c_27
          refine y_iload_n (pc' := 61) rfl C dX13_ranked_60 rfl ?_
          refine y_iload_n (pc' := 62) rfl C dX13_ranked_61 rfl ?_
          refine y_ic_ne (pc' := 65) rfl (tgt := 67) C dX13_ranked_62 (by decide) (fun c_62 => ?_) (fun c_62 => ?_)
          · refine y_iinc (pc' := 70) rfl (v := (nI (i2 + 1))) C dX13_ranked_67 rfl (nI_1 i2) (by decide) ?_
            refine y_goto (tgt := 2) C dX13_ranked_70 (by decide) ?_
            refine y_weak (L' := [some (.ref (a (4, 0, 8))), some (.int place), some (.int ((nI (i2 + 1)))), none, none]) (wk_c (wk_c (wk_c (wk_n (wk_n wk_nil))))) ?_
            exact ih2 (i2 + 1) _ (by omega) (by omega) (hYl18) (by rw [hx2, rankL_step (by omega) (by rw [show np = i18 by omega]; exact c_62)])
          · refine y_iload_n (pc' := 66) rfl C dX13_ranked_65 rfl ?_
            refine y_ireturn C rfl rfl dX13_ranked_66 rfl rfl ?_
            exact ⟨by rw [hx2, rankL_hit (by omega) (by rw [show np = i18 by omega]; exact c_62)], hYl18⟩
        · rw [hYl18, h15] at c_27
          have hb18 : i18 < np := nI_nle_iff (by omega) (by omega) c_27
          refine y_iload_n (pc' := 31) rfl C dX13_ranked_30 rfl ?_
          refine y_iload (pc' := 33) rfl C dX13_ranked_31 rfl ?_
          refine y_iload_n (pc' := 34) rfl C dX13_ranked_33 rfl ?_
          have K34 : ∀ (w_34 : Int32) (_ : w_34 = (if (nI i18) = (nI i2) then 0 else (if (aheadI (Yl18 (4, 0, 0)) i18 i2) = 0 then 0 else 1))), WY X G A a Yl18 0 0 (MEnd X G A ({ frames := 2, cells := 0, slots := 0, locals := 43 } : Room) (PY G a (PI (fun r Y' => r = rankL (Y (4, 0, 0)) np place np ∧ Y' = Y)))) 52 [some (.ref (a (4, 0, 8))), some (.int place), some (.int ((nI i2))), some (.int ((aheadC (Y (4, 0, 0)) i2 i18))), some (.int ((nI i18)))] [.int w_34, .int ((aheadC (Y (4, 0, 0)) i2 i18))] := by
            intro w_34 ew_34
            refine y_iadd (pc' := 53) rfl C dX13_ranked_52 ?_
            refine y_istore_n (pc' := 54) rfl C dX13_ranked_53 (by decide) ?_
            refine y_iinc (pc' := 57) rfl (v := (nI (i18 + 1))) C dX13_ranked_54 rfl (nI_1 i18) (by decide) ?_
            refine y_goto (tgt := 18) C dX13_ranked_57 (by decide) ?_
            refine y_conv (L' := [some (.ref (a (4, 0, 8))), some (.int place), some (.int ((nI i2))), some (.int ((aheadC (Y (4, 0, 0)) i2 (i18 + 1)))), some (.int ((nI (i18 + 1))))]) (by rw [aheadC, ew_34, hYl18]; rfl) rfl ?_
            exact ih18 (i18 + 1) _ (by omega) (by omega) (hYl18)
          refine y_ic_eq (pc' := 37) rfl (tgt := 51) C dX13_ranked_34 (by decide) (fun c_34 => ?_) (fun c_34 => ?_)
          · refine y_iconst (pc' := 52) rfl (v := 0) C dX13_ranked_51 (by decide) ?_
            exact K34 _ (by rw [if_pos c_34])
          · refine y_aload_n (pc' := 38) rfl C dX13_ranked_37 rfl ?_
            refine y_iload (pc' := 40) rfl C dX13_ranked_38 rfl ?_
            refine y_iload_n (pc' := 41) rfl C dX13_ranked_40 rfl ?_
            refine y_cVi (pc' := 44) (k' := 0) (n' := 0) rfl C (c_X13_isAhead _ G a Yl18 (nI i18) i18 (nI i2) i2 rfl rfl (by omega) (by omega)) my_X13_isAhead aw_1262 (v4 rfl) rfl rfl rfl rfl rfl (Nat.le_of_ble_eq_true rfl) rfl dX13_ranked_41 rfl rfl (fun r_41 Y_41 hp_41 => ?_)
            obtain ⟨rfl, hY_41⟩ := hp_41
            have hY_41 := hY_41.symm; subst hY_41
            refine y_if_eq (pc' := 47) rfl (tgt := 51) C dX13_ranked_44 (by decide) (fun c_44 => ?_) (fun c_44 => ?_)
            · refine y_iconst (pc' := 52) rfl (v := 0) C dX13_ranked_51 (by decide) ?_
              exact K34 _ (by rw [if_neg c_34, if_pos c_44])
            · refine y_iconst (pc' := 48) rfl (v := 1) C dX13_ranked_47 (by decide) ?_
              refine y_goto (tgt := 52) C dX13_ranked_48 (by decide) ?_
              exact K34 _ (by rw [if_neg c_34, if_neg c_44])
-- KilnKeeperModel.wanted 
set_option maxHeartbeats 1000000 in
set_option maxRecDepth 20000 in
theorem c_X13_wanted (l : Launch) (G : GT) (a : Id3 → Nat) (Y : YT)    : CtY l G a yX13_wanted cX13_wanted 1 (some .int) ({ frames := 3, cells := 0, slots := 0, locals := 62 } : Room) [.ref (a (4, 0, 8))] Y (PI (fun r Y' => r = mWant (Y (4, 0, 0)) ∧ Y' = Y)) := by
  refine CtY.of (by decide) rfl (Nat.le_of_ble_eq_true rfl) ?_
  intro X A C hl
  subst hl
  refine y_aload_n (pc' := 1) rfl C dX13_wanted_0 rfl ?_
  refine y_cVi (pc' := 4) (k' := 0) (n' := 0) rfl C (c_X13_wantedNow _ G a Y ) my_X13_wantedNow aw_1190 (v4 rfl) rfl rfl rfl rfl rfl (Nat.le_of_ble_eq_true rfl) rfl dX13_wanted_1 rfl rfl (fun r_1 Y_1 hp_1 => ?_)
  obtain ⟨rfl, hY_1⟩ := hp_1
  have hY_1 := hY_1.symm; subst hY_1
  refine y_ireturn C rfl rfl dX13_wanted_4 rfl rfl ?_
  exact ⟨rfl, rfl⟩
-- KilnKeeperModel.burnt 
set_option maxHeartbeats 1000000 in
set_option maxRecDepth 20000 in
theorem c_X13_burnt (l : Launch) (G : GT) (a : Id3 → Nat) (Y : YT)    : CtY l G a yX13_burnt cX13_burnt 1 (some .int) ({ frames := 0, cells := 0, slots := 0, locals := 0 } : Room) [.ref (a (4, 0, 8))] Y (PI (fun r Y' => r = Y (4, 0, 0) 16 ∧ Y' = Y)) := by
  refine CtY.of (by decide) rfl (Nat.le_of_ble_eq_true rfl) ?_
  intro X A C hl
  subst hl
  refine y_aload_n (pc' := 1) rfl C dX13_burnt_0 rfl ?_
  refine y_get (pc' := 4) rfl (v := .ref (a (4, 0, 0))) C fl_X13_7 (v4 rfl) rfl rfl dX13_burnt_1 rfl ?_
  refine y_bipush (pc' := 6) rfl (v := 16) C dX13_burnt_4 (by decide) ?_
  refine y_ialdN (pc' := 7) rfl C 16 rfl (v4 rfl) rfl rfl (by decide) rfl dX13_burnt_6 ?_
  refine y_ireturn C rfl rfl dX13_burnt_7 rfl rfl ?_
  exact ⟨rfl, rfl⟩
-- KilnKeeperModel.burntAgain 
set_option maxHeartbeats 1000000 in
set_option maxRecDepth 20000 in
theorem c_X13_burntAgain (l : Launch) (G : GT) (a : Id3 → Nat) (Y : YT)    : CtY l G a yX13_burntAgain cX13_burntAgain 3 (some .int) ({ frames := 0, cells := 0, slots := 0, locals := 0 } : Room) [.ref (a (4, 0, 8))] Y (PI (fun r Y' => r = baN (Y (4, 0, 0)) 101 ∧ Y' = Y)) := by
  refine CtY.of (by decide) rfl (Nat.le_of_ble_eq_true rfl) ?_
  intro X A C hl
  subst hl
  refine y_iconst (pc' := 1) rfl (v := 0) C dX13_burntAgain_0 (by decide) ?_
  refine y_istore_n (pc' := 2) rfl C dX13_burntAgain_1 (by decide) ?_
  refine y_iconst (pc' := 3) rfl (v := 0) C dX13_burntAgain_2 (by decide) ?_
  refine y_istore_n (pc' := 4) rfl C dX13_burntAgain_3 (by decide) ?_
  suffices K4 : ∀ (fu_ i4 : Nat) (Yl4 : YT), i4 ≤ 101 → 101 < fu_ + i4 → Yl4 = Y → WY X G A a Yl4 0 0 _ 4 [some (.ref (a (4, 0, 8))), some (.int ((baN (Y (4, 0, 0)) i4))), some (.int ((nI i4)))] [] from K4 (101 + 1) 0 _ (by omega) (by omega) (rfl)
  intro fu_
  induction fu_ with
  | zero => intro i4 Yl4 h1 h2; omega
  | succ fu_ ih4 =>
    intro i4 Yl4 hi4 hm4 hYl4
    refine y_iload_n (pc' := 5) rfl C dX13_burntAgain_4 rfl ?_
    refine y_bipush (pc' := 7) rfl (v := 100) C dX13_burntAgain_5 (by decide) ?_
    refine y_ic_gt (pc' := 10) rfl (tgt := 30) C dX13_burntAgain_7 (by decide) (fun c_7 => ?_) (fun c_7 => ?_)
    · have hb4 : 101 ≤ i4 := nI_lt_iff (by omega) (by omega) c_7
      refine y_iload_n (pc' := 31) rfl C dX13_burntAgain_30 rfl ?_
      refine y_ireturn C rfl rfl dX13_burntAgain_31 rfl rfl ?_
      exact ⟨by rw [show i4 = 101 by omega], hYl4⟩
    · have hb4 : i4 < 101 := nI_nlt_iff (by omega) (by omega) c_7
      refine y_iload_n (pc' := 11) rfl C dX13_burntAgain_10 rfl ?_
      refine y_iload_n (pc' := 12) rfl C dX13_burntAgain_11 rfl ?_
      refine y_aload_n (pc' := 13) rfl C dX13_burntAgain_12 rfl ?_
      refine y_get (pc' := 16) rfl (v := .ref (a (4, 0, 0))) C fl_X13_7 (v4 rfl) rfl rfl dX13_burntAgain_13 rfl ?_
      refine y_bipush (pc' := 18) rfl (v := 22) C dX13_burntAgain_16 (by decide) ?_
      refine y_iload_n (pc' := 19) rfl C dX13_burntAgain_18 rfl ?_
      refine y_iadd (pc' := 20) rfl C dX13_burntAgain_19 ?_
      refine y_ialdN (pc' := 21) rfl C (22 + i4) (nadd (rfl : (22 : Int32) = nI 22) rfl) (v4 rfl) rfl rfl (show (22 + i4) < 227 by omega) rfl dX13_burntAgain_20 ?_
      refine y_imul (pc' := 22) rfl C dX13_burntAgain_21 ?_
      refine y_iadd (pc' := 23) rfl C dX13_burntAgain_22 ?_
      refine y_istore_n (pc' := 24) rfl C dX13_burntAgain_23 (by decide) ?_
      refine y_iinc (pc' := 27) rfl (v := (nI (i4 + 1))) C dX13_burntAgain_24 rfl (nI_1 i4) (by decide) ?_
      refine y_goto (tgt := 4) C dX13_burntAgain_27 (by decide) ?_
      refine y_conv (L' := [some (.ref (a (4, 0, 8))), some (.int ((baN (Y (4, 0, 0)) (i4 + 1)))), some (.int ((nI (i4 + 1))))]) (by rw [baN, hYl4]; rfl) rfl ?_
      exact ih4 (i4 + 1) _ (by omega) (by omega) (hYl4)
-- KilnKeeperModel.manyThat 
set_option maxHeartbeats 1000000 in
set_option maxRecDepth 20000 in
theorem c_X13_manyThat (l : Launch) (G : GT) (a : Id3 → Nat) (Y : YT) (np : Nat) (h : Int32)  (hnp : np ≤ 8) (h15 : Y (4, 0, 0) 15 = nI np) : CtY l G a yX13_manyThat cX13_manyThat 4 (some .int) ({ frames := 0, cells := 0, slots := 0, locals := 0 } : Room) [.ref (a (4, 0, 8)), .int h] Y (PI (fun r Y' => r = manyN (Y (4, 0, 0)) h np ∧ Y' = Y)) := by
  refine CtY.of (by decide) rfl (Nat.le_of_ble_eq_true rfl) ?_
  intro X A C hl
  subst hl
  refine y_iconst (pc' := 1) rfl (v := 0) C dX13_manyThat_0 (by decide) ?_
  refine y_istore_n (pc' := 2) rfl C dX13_manyThat_1 (by decide) ?_
  refine y_iconst (pc' := 3) rfl (v := 0) C dX13_manyThat_2 (by decide) ?_
  refine y_istore_n (pc' := 4) rfl C dX13_manyThat_3 (by decide) ?_
  suffices K4 : ∀ (fu_ i4 : Nat) (Yl4 : YT), i4 ≤ np → np < fu_ + i4 → Yl4 = Y → WY X G A a Yl4 0 0 _ 4 [some (.ref (a (4, 0, 8))), some (.int h), some (.int ((manyN (Y (4, 0, 0)) h i4))), some (.int ((nI i4)))] [] from K4 (np + 1) 0 _ (by omega) (by omega) (rfl)
  intro fu_
  induction fu_ with
  | zero => intro i4 Yl4 h1 h2; omega
  | succ fu_ ih4 =>
    intro i4 Yl4 hi4 hm4 hYl4
    refine y_iload_n (pc' := 5) rfl C dX13_manyThat_4 rfl ?_
    refine y_aload_n (pc' := 6) rfl C dX13_manyThat_5 rfl ?_
    refine y_get (pc' := 9) rfl (v := .ref (a (4, 0, 0))) C fl_X13_7 (v4 rfl) rfl rfl dX13_manyThat_6 rfl ?_
    refine y_bipush (pc' := 11) rfl (v := 15) C dX13_manyThat_9 (by decide) ?_
    refine y_ialdN (pc' := 12) rfl C 15 rfl (v4 rfl) rfl rfl (by decide) rfl dX13_manyThat_11 ?_
    refine y_ic_ge (pc' := 15) rfl (tgt := 43) C dX13_manyThat_12 (by decide) (fun c_12 => ?_) (fun c_12 => ?_)
    · rw [hYl4, h15] at c_12
      have hb4 : np ≤ i4 := nI_le_iff (by omega) (by omega) c_12
      refine y_iload_n (pc' := 44) rfl C dX13_manyThat_43 rfl ?_
      refine y_ireturn C rfl rfl dX13_manyThat_44 rfl rfl ?_
      exact ⟨by rw [show i4 = np by omega], hYl4⟩
    · rw [hYl4, h15] at c_12
      have hb4 : i4 < np := nI_nle_iff (by omega) (by omega) c_12
      refine y_iload_n (pc' := 16) rfl C dX13_manyThat_15 rfl ?_
      refine y_aload_n (pc' := 17) rfl C dX13_manyThat_16 rfl ?_
      refine y_get (pc' := 20) rfl (v := .ref (a (4, 0, 0))) C fl_X13_7 (v4 rfl) rfl rfl dX13_manyThat_17 rfl ?_
      refine y_sipush (pc' := 23) rfl (v := 195) C dX13_manyThat_20 (by decide) ?_
      refine y_iload_n (pc' := 24) rfl C dX13_manyThat_23 rfl ?_
      refine y_iadd (pc' := 25) rfl C dX13_manyThat_24 ?_
      refine y_ialdN (pc' := 26) rfl C (195 + i4) (nadd (rfl : (195 : Int32) = nI 195) rfl) (v4 rfl) rfl rfl (show (195 + i4) < 227 by omega) rfl dX13_manyThat_25 ?_
      refine y_iload_n (pc' := 27) rfl C dX13_manyThat_26 rfl ?_
      have K27 : ∀ (w_27 : Int32) (_ : w_27 = (if (Yl4 (4, 0, 0) (195 + i4)) = h then 1 else 0)), WY X G A a Yl4 0 0 (MEnd X G A ({ frames := 0, cells := 0, slots := 0, locals := 0 } : Room) (PY G a (PI (fun r Y' => r = manyN (Y (4, 0, 0)) h np ∧ Y' = Y)))) 35 [some (.ref (a (4, 0, 8))), some (.int h), some (.int ((manyN (Y (4, 0, 0)) h i4))), some (.int ((nI i4)))] [.int w_27, .int ((manyN (Y (4, 0, 0)) h i4))] := by
        intro w_27 ew_27
        refine y_iadd (pc' := 36) rfl C dX13_manyThat_35 ?_
        refine y_istore_n (pc' := 37) rfl C dX13_manyThat_36 (by decide) ?_
        refine y_iinc (pc' := 40) rfl (v := (nI (i4 + 1))) C dX13_manyThat_37 rfl (nI_1 i4) (by decide) ?_
        refine y_goto (tgt := 4) C dX13_manyThat_40 (by decide) ?_
        refine y_conv (L' := [some (.ref (a (4, 0, 8))), some (.int h), some (.int ((manyN (Y (4, 0, 0)) h (i4 + 1)))), some (.int ((nI (i4 + 1))))]) (by rw [manyN, ← hYl4, ← ew_27]; rfl) rfl ?_
        exact ih4 (i4 + 1) _ (by omega) (by omega) (hYl4)
      refine y_ic_ne (pc' := 30) rfl (tgt := 34) C dX13_manyThat_27 (by decide) (fun c_27 => ?_) (fun c_27 => ?_)
      · refine y_iconst (pc' := 35) rfl (v := 0) C dX13_manyThat_34 (by decide) ?_
        exact K27 _ (by rw [if_neg c_27])
      · refine y_iconst (pc' := 31) rfl (v := 1) C dX13_manyThat_30 (by decide) ?_
        refine y_goto (tgt := 35) C dX13_manyThat_31 (by decide) ?_
        exact K27 _ (by rw [if_pos c_27])
-- KilnKeeperModel.degreesIn 
set_option maxHeartbeats 1000000 in
set_option maxRecDepth 20000 in
theorem c_X13_degreesIn (l : Launch) (G : GT) (a : Id3 → Nat) (Y : YT) (m : Int32)  (hok : MOK (Y (4, 0, 0))) : CtY l G a yX13_degreesIn cX13_degreesIn 3 (some .int) ({ frames := 5, cells := 0, slots := 0, locals := 110 } : Room) [.ref (a (4, 0, 8)), .int m] Y (PI (fun r Y' => r = (if 0 ≤ m ∧ m ≤ 300 then mins (nn m) (Y (4, 0, 0)) 0 else -10002) ∧ Y' = if 0 ≤ m ∧ m ≤ 300 then setA Y (4, 0, 3) (Y (4, 0, 0)) else Y)) := by
  refine CtY.of (by decide) rfl (Nat.le_of_ble_eq_true rfl) ?_
  intro X A C hl
  subst hl
  refine y_iload_n (pc' := 1) rfl C dX13_degreesIn_0 rfl ?_
  refine y_iconst (pc' := 2) rfl (v := 0) C dX13_degreesIn_1 (by decide) ?_
  refine y_sipush (pc' := 5) rfl (v := 300) C dX13_degreesIn_2 (by decide) ?_
  refine y_cSi (pc' := 8) (k' := 0) (n' := 0) rfl C (c_X13_in _ G a Y m 0 300) my_X13_in aw_1116 rfl rfl (Nat.le_of_ble_eq_true rfl) rfl dX13_degreesIn_5 rfl rfl (fun r_5 Y_5 hp_5 => ?_)
  obtain ⟨rfl, hY_5⟩ := hp_5
  have hY_5 := hY_5.symm; subst hY_5
  refine y_if_ne (pc' := 11) rfl (tgt := 15) C dX13_degreesIn_8 (by decide) (fun c_8 => ?_) (fun c_8 => ?_)
  · have h_8 := bi_n0 c_8
    obtain ⟨mq, hmq3, hmq⟩ := rng_nI (m := 300) (by decide) (by decide) h_8
    have hnm : nn m = mq := by rw [hmq, nn_nI (by omega)]
    refine y_aload_n (pc' := 16) rfl C dX13_degreesIn_15 rfl ?_
    refine y_iload_n (pc' := 17) rfl C dX13_degreesIn_16 rfl ?_
    refine y_cVv (pc' := 20) (k' := 0) (n' := 0) rfl C (c_X13_thinks _ G a Y m mq hmq (by omega) hok) my_X13_thinks aw_1246 (v4 rfl) rfl rfl rfl rfl rfl (Nat.le_of_ble_eq_true rfl) rfl dX13_degreesIn_17 rfl rfl (fun Y_17 hY_17 => ?_)
    refine y_aload_n (pc' := 21) rfl C dX13_degreesIn_20 rfl ?_
    refine y_get (pc' := 24) rfl (v := .ref (a (4, 0, 0))) C fl_X13_7 (v4 rfl) rfl rfl dX13_degreesIn_21 rfl ?_
    refine y_iconst (pc' := 25) rfl (v := 0) C dX13_degreesIn_24 (by decide) ?_
    refine y_ialdN (pc' := 26) rfl C 0 rfl (v4 rfl) rfl rfl (by decide) rfl dX13_degreesIn_25 ?_
    refine y_istore_n (pc' := 27) rfl C dX13_degreesIn_26 (by decide) ?_
    refine y_aload_n (pc' := 28) rfl C dX13_degreesIn_27 rfl ?_
    refine y_cVv (pc' := 31) (k' := 0) (n' := 0) rfl C (c_X13_forgets _ G a Y_17 ) my_X13_forgets aw_1250 (v4 rfl) rfl rfl rfl rfl rfl (Nat.le_of_ble_eq_true rfl) rfl dX13_degreesIn_28 rfl rfl (fun Y_28 hY_28 => ?_)
    refine y_iload_n (pc' := 32) rfl C dX13_degreesIn_31 rfl ?_
    refine y_ireturn C rfl rfl dX13_degreesIn_32 rfl rfl ?_
    refine ⟨by rw [if_pos h_8, hY_17, setA_s, hnm], ?_⟩
    rw [if_pos h_8, hY_28, hY_17, fg_back]
  · have h_8 := bi_0.mp c_8
    refine y_sipush (pc' := 14) rfl (v := (-10002)) C dX13_degreesIn_11 (by decide) ?_
    refine y_ireturn C rfl rfl dX13_degreesIn_14 rfl rfl ?_
    exact ⟨by rw [if_neg h_8], by rw [if_neg h_8]⟩
-- KilnKeeperModel.wouldOvershoot 
set_option maxHeartbeats 1000000 in
set_option maxRecDepth 20000 in
theorem c_X13_wouldOvershoot (l : Launch) (G : GT) (a : Id3 → Nat) (Y : YT) (m : Int32)  (hok : MOK (Y (4, 0, 0))) : CtY l G a yX13_wouldOvershoot cX13_wouldOvershoot 3 (some .int) ({ frames := 5, cells := 0, slots := 0, locals := 110 } : Room) [.ref (a (4, 0, 8)), .int m] Y (PI (fun r Y' => r = (if 0 ≤ m ∧ m ≤ 300 then mins (nn m) (Y (4, 0, 0)) 13 else -10002) ∧ Y' = if 0 ≤ m ∧ m ≤ 300 then setA Y (4, 0, 3) (Y (4, 0, 0)) else Y)) := by
  refine CtY.of (by decide) rfl (Nat.le_of_ble_eq_true rfl) ?_
  intro X A C hl
  subst hl
  refine y_iload_n (pc' := 1) rfl C dX13_wouldOvershoot_0 rfl ?_
  refine y_iconst (pc' := 2) rfl (v := 0) C dX13_wouldOvershoot_1 (by decide) ?_
  refine y_sipush (pc' := 5) rfl (v := 300) C dX13_wouldOvershoot_2 (by decide) ?_
  refine y_cSi (pc' := 8) (k' := 0) (n' := 0) rfl C (c_X13_in _ G a Y m 0 300) my_X13_in aw_1116 rfl rfl (Nat.le_of_ble_eq_true rfl) rfl dX13_wouldOvershoot_5 rfl rfl (fun r_5 Y_5 hp_5 => ?_)
  obtain ⟨rfl, hY_5⟩ := hp_5
  have hY_5 := hY_5.symm; subst hY_5
  refine y_if_ne (pc' := 11) rfl (tgt := 15) C dX13_wouldOvershoot_8 (by decide) (fun c_8 => ?_) (fun c_8 => ?_)
  · have h_8 := bi_n0 c_8
    obtain ⟨mq, hmq3, hmq⟩ := rng_nI (m := 300) (by decide) (by decide) h_8
    have hnm : nn m = mq := by rw [hmq, nn_nI (by omega)]
    refine y_aload_n (pc' := 16) rfl C dX13_wouldOvershoot_15 rfl ?_
    refine y_iload_n (pc' := 17) rfl C dX13_wouldOvershoot_16 rfl ?_
    refine y_cVv (pc' := 20) (k' := 0) (n' := 0) rfl C (c_X13_thinks _ G a Y m mq hmq (by omega) hok) my_X13_thinks aw_1246 (v4 rfl) rfl rfl rfl rfl rfl (Nat.le_of_ble_eq_true rfl) rfl dX13_wouldOvershoot_17 rfl rfl (fun Y_17 hY_17 => ?_)
    refine y_aload_n (pc' := 21) rfl C dX13_wouldOvershoot_20 rfl ?_
    refine y_get (pc' := 24) rfl (v := .ref (a (4, 0, 0))) C fl_X13_7 (v4 rfl) rfl rfl dX13_wouldOvershoot_21 rfl ?_
    refine y_bipush (pc' := 26) rfl (v := 13) C dX13_wouldOvershoot_24 (by decide) ?_
    refine y_ialdN (pc' := 27) rfl C 13 rfl (v4 rfl) rfl rfl (by decide) rfl dX13_wouldOvershoot_26 ?_
    refine y_istore_n (pc' := 28) rfl C dX13_wouldOvershoot_27 (by decide) ?_
    refine y_aload_n (pc' := 29) rfl C dX13_wouldOvershoot_28 rfl ?_
    refine y_cVv (pc' := 32) (k' := 0) (n' := 0) rfl C (c_X13_forgets _ G a Y_17 ) my_X13_forgets aw_1250 (v4 rfl) rfl rfl rfl rfl rfl (Nat.le_of_ble_eq_true rfl) rfl dX13_wouldOvershoot_29 rfl rfl (fun Y_29 hY_29 => ?_)
    refine y_iload_n (pc' := 33) rfl C dX13_wouldOvershoot_32 rfl ?_
    refine y_ireturn C rfl rfl dX13_wouldOvershoot_33 rfl rfl ?_
    refine ⟨by rw [if_pos h_8, hY_17, setA_s, hnm], ?_⟩
    rw [if_pos h_8, hY_29, hY_17, fg_back]
  · have h_8 := bi_0.mp c_8
    refine y_sipush (pc' := 14) rfl (v := (-10002)) C dX13_wouldOvershoot_11 (by decide) ?_
    refine y_ireturn C rfl rfl dX13_wouldOvershoot_14 rfl rfl ?_
    exact ⟨by rw [if_neg h_8], by rw [if_neg h_8]⟩
-- KilnKeeperModel.wouldCrack 
set_option maxHeartbeats 1000000 in
set_option maxRecDepth 20000 in
theorem c_X13_wouldCrack (l : Launch) (G : GT) (a : Id3 → Nat) (Y : YT) (np : Nat) (m : Int32)  (hnp : np ≤ 8) (h15 : Y (4, 0, 0) 15 = nI np) (hok : MOK (Y (4, 0, 0))) : CtY l G a yX13_wouldCrack cX13_wouldCrack 4 (some .int) ({ frames := 5, cells := 0, slots := 0, locals := 110 } : Room) [.ref (a (4, 0, 8)), .int m] Y (PI (fun r Y' => r = (if 0 ≤ m ∧ m ≤ 300 then crackN (Y (4, 0, 0)) (mins (nn m) (Y (4, 0, 0))) np else -10002) ∧ Y' = if 0 ≤ m ∧ m ≤ 300 then setA Y (4, 0, 3) (Y (4, 0, 0)) else Y)) := by
  refine CtY.of (by decide) rfl (Nat.le_of_ble_eq_true rfl) ?_
  intro X A C hl
  subst hl
  refine y_iload_n (pc' := 1) rfl C dX13_wouldCrack_0 rfl ?_
  refine y_iconst (pc' := 2) rfl (v := 0) C dX13_wouldCrack_1 (by decide) ?_
  refine y_sipush (pc' := 5) rfl (v := 300) C dX13_wouldCrack_2 (by decide) ?_
  refine y_cSi (pc' := 8) (k' := 0) (n' := 0) rfl C (c_X13_in _ G a Y m 0 300) my_X13_in aw_1116 rfl rfl (Nat.le_of_ble_eq_true rfl) rfl dX13_wouldCrack_5 rfl rfl (fun r_5 Y_5 hp_5 => ?_)
  obtain ⟨rfl, hY_5⟩ := hp_5
  have hY_5 := hY_5.symm; subst hY_5
  refine y_if_ne (pc' := 11) rfl (tgt := 15) C dX13_wouldCrack_8 (by decide) (fun c_8 => ?_) (fun c_8 => ?_)
  · have h_8 := bi_n0 c_8
    obtain ⟨mq, hmq3, hmq⟩ := rng_nI (m := 300) (by decide) (by decide) h_8
    have hnm : nn m = mq := by rw [hmq, nn_nI (by omega)]
    refine y_aload_n (pc' := 16) rfl C dX13_wouldCrack_15 rfl ?_
    refine y_iload_n (pc' := 17) rfl C dX13_wouldCrack_16 rfl ?_
    refine y_cVv (pc' := 20) (k' := 0) (n' := 0) rfl C (c_X13_thinks _ G a Y m mq hmq (by omega) hok) my_X13_thinks aw_1246 (v4 rfl) rfl rfl rfl rfl rfl (Nat.le_of_ble_eq_true rfl) rfl dX13_wouldCrack_17 rfl rfl (fun Y_17 hY_17 => ?_)
    have e15 : mins mq (Y (4, 0, 0)) 15 = nI np := by rw [mins_15 hok]; exact h15
    refine y_iconst (pc' := 21) rfl (v := 0) C dX13_wouldCrack_20 (by decide) ?_
    refine y_istore_n (pc' := 22) rfl C dX13_wouldCrack_21 (by decide) ?_
    refine y_iconst (pc' := 23) rfl (v := 0) C dX13_wouldCrack_22 (by decide) ?_
    refine y_istore_n (pc' := 24) rfl C dX13_wouldCrack_23 (by decide) ?_
    suffices K24 : ∀ (fu_ i24 : Nat) (Yl24 : YT), i24 ≤ np → np < fu_ + i24 → Yl24 = Y_17 → WY X G A a Yl24 0 0 _ 24 [some (.ref (a (4, 0, 8))), some (.int m), some (.int ((crackN (Y (4, 0, 0)) (mins mq (Y (4, 0, 0))) i24))), some (.int ((nI i24)))] [] from K24 (np + 1) 0 _ (by omega) (by omega) (rfl)
    intro fu_
    induction fu_ with
    | zero => intro i24 Yl24 h1 h2; omega
    | succ fu_ ih24 =>
      intro i24 Yl24 hi24 hm24 hYl24
      refine y_iload_n (pc' := 25) rfl C dX13_wouldCrack_24 rfl ?_
      refine y_aload_n (pc' := 26) rfl C dX13_wouldCrack_25 rfl ?_
      refine y_get (pc' := 29) rfl (v := .ref (a (4, 0, 0))) C fl_X13_7 (v4 rfl) rfl rfl dX13_wouldCrack_26 rfl ?_
      refine y_bipush (pc' := 31) rfl (v := 15) C dX13_wouldCrack_29 (by decide) ?_
      refine y_ialdN (pc' := 32) rfl C 15 rfl (v4 rfl) rfl rfl (by decide) rfl dX13_wouldCrack_31 ?_
      refine y_ic_ge (pc' := 35) rfl (tgt := 79) C dX13_wouldCrack_32 (by decide) (fun c_32 => ?_) (fun c_32 => ?_)
      · rw [hYl24, hY_17, setA_s, e15] at c_32
        have hb24 : np ≤ i24 := nI_le_iff (by omega) (by omega) c_32
        refine y_aload_n (pc' := 80) rfl C dX13_wouldCrack_79 rfl ?_
        refine y_cVv (pc' := 83) (k' := 0) (n' := 0) rfl C (c_X13_forgets _ G a Yl24 ) my_X13_forgets aw_1250 (v4 rfl) rfl rfl rfl rfl rfl (Nat.le_of_ble_eq_true rfl) rfl dX13_wouldCrack_80 rfl rfl (fun Y_80 hY_80 => ?_)
        refine y_iload_n (pc' := 84) rfl C dX13_wouldCrack_83 rfl ?_
        refine y_ireturn C rfl rfl dX13_wouldCrack_84 rfl rfl ?_
        refine ⟨by rw [if_pos h_8, hnm, show i24 = np by omega], ?_⟩
        rw [if_pos h_8, hY_80, hYl24, hY_17, fg_back]
      · rw [hYl24, hY_17, setA_s, e15] at c_32
        have hb24 : i24 < np := nI_nle_iff (by omega) (by omega) c_32
        refine y_iload_n (pc' := 36) rfl C dX13_wouldCrack_35 rfl ?_
        refine y_aload_n (pc' := 37) rfl C dX13_wouldCrack_36 rfl ?_
        refine y_get (pc' := 40) rfl (v := .ref (a (4, 0, 0))) C fl_X13_7 (v4 rfl) rfl rfl dX13_wouldCrack_37 rfl ?_
        refine y_sipush (pc' := 43) rfl (v := 195) C dX13_wouldCrack_40 (by decide) ?_
        refine y_iload_n (pc' := 44) rfl C dX13_wouldCrack_43 rfl ?_
        refine y_iadd (pc' := 45) rfl C dX13_wouldCrack_44 ?_
        refine y_ialdN (pc' := 46) rfl C (195 + i24) (nadd (rfl : (195 : Int32) = nI 195) rfl) (v4 rfl) rfl rfl (show (195 + i24) < 227 by omega) rfl dX13_wouldCrack_45 ?_
        refine y_iconst (pc' := 47) rfl (v := 3) C dX13_wouldCrack_46 (by decide) ?_
        have K47 : ∀ (w_47 : Int32) (_ : w_47 = (if (Yl24 (4, 0, 0) (195 + i24)) = 3 then (if (Yl24 (4, 0, 3) (195 + i24)) = 3 then 0 else ((1 : Int32) <<< ((nI i24) &&& 31))) else 0)), WY X G A a Yl24 0 0 (MEnd X G A ({ frames := 5, cells := 0, slots := 0, locals := 110 } : Room) (PY G a (PI (fun r Y' => r = (if 0 ≤ m ∧ m ≤ 300 then crackN (Y (4, 0, 0)) (mins (nn m) (Y (4, 0, 0))) np else -10002) ∧ Y' = if 0 ≤ m ∧ m ≤ 300 then setA Y (4, 0, 3) (Y (4, 0, 0)) else Y)))) 71 [some (.ref (a (4, 0, 8))), some (.int m), some (.int ((crackN (Y (4, 0, 0)) (mins mq (Y (4, 0, 0))) i24))), some (.int ((nI i24)))] [.int w_47, .int ((crackN (Y (4, 0, 0)) (mins mq (Y (4, 0, 0))) i24))] := by
          intro w_47 ew_47
          refine y_ior (pc' := 72) rfl C dX13_wouldCrack_71 ?_
          refine y_istore_n (pc' := 73) rfl C dX13_wouldCrack_72 (by decide) ?_
          refine y_iinc (pc' := 76) rfl (v := (nI (i24 + 1))) C dX13_wouldCrack_73 rfl (nI_1 i24) (by decide) ?_
          refine y_goto (tgt := 24) C dX13_wouldCrack_76 (by decide) ?_
          refine y_conv (L' := [some (.ref (a (4, 0, 8))), some (.int m), some (.int ((crackN (Y (4, 0, 0)) (mins mq (Y (4, 0, 0))) (i24 + 1)))), some (.int ((nI (i24 + 1))))]) (by rw [crackN, ew_47, hYl24, hY_17, setA_s, setA_n (show ((4, 0, 3) : Id3) ≠ (4, 0, 0) by decide), setA_s]; rfl) rfl ?_
          exact ih24 (i24 + 1) _ (by omega) (by omega) (hYl24)
        refine y_ic_ne (pc' := 50) rfl (tgt := 70) C dX13_wouldCrack_47 (by decide) (fun c_47 => ?_) (fun c_47 => ?_)
        · refine y_iconst (pc' := 71) rfl (v := 0) C dX13_wouldCrack_70 (by decide) ?_
          exact K47 _ (by rw [if_neg c_47])
        · refine y_aload_n (pc' := 51) rfl C dX13_wouldCrack_50 rfl ?_
          refine y_get (pc' := 54) rfl (v := .ref (a (4, 0, 3))) C fl_X13_19 (v4 rfl) rfl rfl dX13_wouldCrack_51 rfl ?_
          refine y_sipush (pc' := 57) rfl (v := 195) C dX13_wouldCrack_54 (by decide) ?_
          refine y_iload_n (pc' := 58) rfl C dX13_wouldCrack_57 rfl ?_
          refine y_iadd (pc' := 59) rfl C dX13_wouldCrack_58 ?_
          refine y_ialdN (pc' := 60) rfl C (195 + i24) (nadd (rfl : (195 : Int32) = nI 195) rfl) (v4 rfl) rfl rfl (show (195 + i24) < 227 by omega) rfl dX13_wouldCrack_59 ?_
          refine y_iconst (pc' := 61) rfl (v := 3) C dX13_wouldCrack_60 (by decide) ?_
          refine y_ic_eq (pc' := 64) rfl (tgt := 70) C dX13_wouldCrack_61 (by decide) (fun c_61 => ?_) (fun c_61 => ?_)
          · refine y_iconst (pc' := 71) rfl (v := 0) C dX13_wouldCrack_70 (by decide) ?_
            exact K47 _ (by rw [if_pos c_47, if_pos c_61])
          · refine y_iconst (pc' := 65) rfl (v := 1) C dX13_wouldCrack_64 (by decide) ?_
            refine y_iload_n (pc' := 66) rfl C dX13_wouldCrack_65 rfl ?_
            refine y_ishl (pc' := 67) rfl C dX13_wouldCrack_66 ?_
            refine y_goto (tgt := 71) C dX13_wouldCrack_67 (by decide) ?_
            exact K47 _ (by rw [if_pos c_47, if_neg c_61])
  · have h_8 := bi_0.mp c_8
    refine y_sipush (pc' := 14) rfl (v := (-10002)) C dX13_wouldCrack_11 (by decide) ?_
    refine y_ireturn C rfl rfl dX13_wouldCrack_14 rfl rfl ?_
    exact ⟨by rw [if_neg h_8], by rw [if_neg h_8]⟩
