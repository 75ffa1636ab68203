theorem fl_X13_16 : FLK "KilnKeeperModel" 16 12 2 := ⟨RX13, TX13, 20, rfl, by decide, aw_1045, in_TX13⟩
theorem fl_X13_25 : FLK "KilnKeeperModel" 25 12 7 := ⟨RX13, TX13, 20, rfl, by decide, aw_1050, in_TX13⟩
theorem fl_X13_31 : FLK "KilnKeeperModel" 31 12 9 := ⟨RX13, TX13, 20, rfl, by decide, aw_1052, in_TX13⟩
theorem fl_X13_48 : FLK "KilnKeeperModel" 48 12 12 := ⟨RX13, TX13, 20, rfl, by decide, aw_1055, in_TX13⟩
theorem fl_X13_51 : FLK "KilnKeeperModel" 51 12 13 := ⟨RX13, TX13, 20, rfl, by decide, aw_1056, in_TX13⟩
theorem fl_X13_146 : FLK "KilnKeeperModel" 146 12 10 := ⟨RX13, TX13, 20, rfl, by decide, aw_1053, in_TX13⟩
theorem fl_X13_213 : FLK "KilnKeeperModel" 213 12 11 := ⟨RX13, TX13, 20, rfl, by decide, aw_1054, in_TX13⟩
theorem fl_X13_231 : FLK "KilnKeeperModel" 231 12 6 := ⟨RX13, TX13, 20, rfl, by decide, aw_1049, in_TX13⟩
theorem fp_X13_146 : FLP "KilnKeeperModel" 146 12 10 .int false := ⟨RX13, TX13, 20, tyX13, rfl, by decide, aw_1053, in_TX13, tyX13_ok, nmX13, rfl, rfl, fun h => by first | exact rfl | cases h⟩
theorem fp_X13_231 : FLP "KilnKeeperModel" 231 12 6 .boolean false := ⟨RX13, TX13, 20, tyX13, rfl, by decide, aw_1049, in_TX13, tyX13_ok, nmX13, rfl, rfl, fun h => by first | exact rfl | cases h⟩
theorem my_X13_burntAgain : MV yX13_burntAgain cX13_burntAgain 3 (some .int) 0 := ⟨aw_1297, aw_71, ⟨by decide, by decide, by decide +kernel⟩, aw_1295, aw_1296⟩
theorem my_X13_lags : MV yX13_lags cX13_lags 4 (some .int) 1 := ⟨aw_1161, aw_71, ⟨by decide, by decide, by decide +kernel⟩, aw_1160, aw_23⟩
theorem my_X13_manyThat : MV yX13_manyThat cX13_manyThat 4 (some .int) 1 := ⟨aw_1385, aw_71, ⟨by decide, by decide, by decide +kernel⟩, aw_1384, aw_52⟩
-- KilnKeeperModel.lags 
set_option maxHeartbeats 1000000 in
set_option maxRecDepth 20000 in
theorem c_X13_lags (l : Launch) (G : GT) (a : Id3 → Nat) (Y : YT) (lg : Nat) (m : Int32)  (h8 : Y (4, 0, 0) 8 = nI lg) (hlg : lg ≤ 5) : CtY l G a yX13_lags cX13_lags 4 (some .int) ({ frames := 1, cells := 0, slots := 0, locals := 23 } : Room) [.ref (a (4, 0, 8)), .int m] Y (PI (fun r Y' => r = (lagA (Y (4, 0, 0)) m).1 ∧ Y' = setAct Y (lagA (Y (4, 0, 0)) m))) := by
  refine CtY.of (by decide) rfl (Nat.le_of_ble_eq_true rfl) ?_
  intro X A C hl
  subst hl
  refine y_iload_n (pc' := 1) rfl C dX13_lags_0 rfl ?_
  refine y_iconst (pc' := 2) rfl (v := 0) C dX13_lags_1 (by decide) ?_
  refine y_iconst (pc' := 3) rfl (v := 5) C dX13_lags_2 (by decide) ?_
  refine y_cSi (pc' := 6) (k' := 0) (n' := 0) rfl C (c_X13_in _ G a Y m 0 5) my_X13_in aw_1116 rfl rfl (Nat.le_of_ble_eq_true rfl) rfl dX13_lags_3 rfl rfl (fun r_3 Y_3 hp_3 => ?_)
  obtain ⟨rfl, hY_3⟩ := hp_3
  have hY_3 := hY_3.symm; subst hY_3
  refine y_if_ne (pc' := 9) rfl (tgt := 13) C dX13_lags_6 (by decide) (fun c_6 => ?_) (fun c_6 => ?_)
  · have h_6 := bi_n0 c_6
    obtain ⟨mq, hmq5, hmq⟩ := rng_nI (m := 5) (by decide) (by decide) h_6
    refine y_aload_n (pc' := 14) rfl C dX13_lags_13 rfl ?_
    refine y_get (pc' := 17) rfl (v := .ref (a (4, 0, 0))) C fl_X13_7 (v4 rfl) rfl rfl dX13_lags_14 rfl ?_
    refine y_bipush (pc' := 19) rfl (v := 8) C dX13_lags_17 (by decide) ?_
    refine y_ialdN (pc' := 20) rfl C 8 rfl (v4 rfl) rfl rfl (by decide) rfl dX13_lags_19 ?_
    refine y_istore_n (pc' := 21) rfl C dX13_lags_20 (by decide) ?_
    refine y_iload_n (pc' := 22) rfl C dX13_lags_21 rfl ?_
    refine y_iload_n (pc' := 23) rfl C dX13_lags_22 rfl ?_
    refine y_ic_ne (pc' := 26) rfl (tgt := 33) C dX13_lags_23 (by decide) (fun c_23 => ?_) (fun c_23 => ?_)
    · suffices K33 : ∀ (fu_ i33 : Nat) (Yl33 : YT), i33 ≤ (lg - mq) → (lg - mq) < fu_ + i33 → Yl33 = setA Y (4, 0, 0) (lDn (Y (4, 0, 0)) lg i33) → WY X G A a Yl33 0 0 _ 33 [some (.ref (a (4, 0, 8))), some (.int m), some (.int ((Y (4, 0, 0) 8))), none] [] from K33 ((lg - mq) + 1) 0 _ (by omega) (by omega) (by rw [lDn, setA_self])
      intro fu_
      induction fu_ with
      | zero => intro i33 Yl33 h1 h2; omega
      | succ fu_ ih33 =>
        intro i33 Yl33 hi33 hm33 hYl33
        have e8 : Yl33 (4, 0, 0) 8 = nI (lg - i33) := by rw [hYl33, setA_s]; exact lDn_8 h8 _ (by omega)
        refine y_aload_n (pc' := 34) rfl C dX13_lags_33 rfl ?_
        refine y_get (pc' := 37) rfl (v := .ref (a (4, 0, 0))) C fl_X13_7 (v4 rfl) rfl rfl dX13_lags_34 rfl ?_
        refine y_bipush (pc' := 39) rfl (v := 8) C dX13_lags_37 (by decide) ?_
        refine y_ialdN (pc' := 40) rfl C 8 rfl (v4 rfl) rfl rfl (by decide) rfl dX13_lags_39 ?_
        refine y_iload_n (pc' := 41) rfl C dX13_lags_40 rfl ?_
        refine y_ic_le (pc' := 44) rfl (tgt := 80) C dX13_lags_41 (by decide) (fun c_41 => ?_) (fun c_41 => ?_)
        · rw [e8, hmq] at c_41
          have hb33 : lg - mq ≤ i33 := by have := nI_le_iff (by omega) (by omega) c_41; omega
          obtain ⟨l1, hl1⟩ : ∃ q, q = lg - i33 := ⟨_, rfl⟩
          rw [← hl1] at e8
          suffices K80 : ∀ (fu_ i80 : Nat) (Yl80 : YT), i80 ≤ (mq - l1) → (mq - l1) < fu_ + i80 → Yl80 = setA Yl33 (4, 0, 0) (lUn (Yl33 (4, 0, 0)) l1 i80) → WY X G A a Yl80 0 0 _ 80 [some (.ref (a (4, 0, 8))), some (.int m), some (.int ((Y (4, 0, 0) 8))), none] [] from K80 ((mq - l1) + 1) 0 _ (by omega) (by omega) (by rw [lUn, setA_self])
          intro fu_
          induction fu_ with
          | zero => intro i80 Yl80 h1 h2; omega
          | succ fu_ ih80 =>
            intro i80 Yl80 hi80 hm80 hYl80
            have e8y : Yl80 (4, 0, 0) 8 = nI (l1 + i80) := by rw [hYl80, setA_s]; exact lUn_8 e8 _
            refine y_aload_n (pc' := 81) rfl C dX13_lags_80 rfl ?_
            refine y_get (pc' := 84) rfl (v := .ref (a (4, 0, 0))) C fl_X13_7 (v4 rfl) rfl rfl dX13_lags_81 rfl ?_
            refine y_bipush (pc' := 86) rfl (v := 8) C dX13_lags_84 (by decide) ?_
            refine y_ialdN (pc' := 87) rfl C 8 rfl (v4 rfl) rfl rfl (by decide) rfl dX13_lags_86 ?_
            refine y_iload_n (pc' := 88) rfl C dX13_lags_87 rfl ?_
            refine y_ic_ge (pc' := 91) rfl (tgt := 157) C dX13_lags_88 (by decide) (fun c_88 => ?_) (fun c_88 => ?_)
            · rw [e8y, hmq] at c_88
              have hb80 : mq - l1 ≤ i80 := by have := nI_le_iff (by omega) (by omega) c_88; omega
              refine y_aload_n (pc' := 158) rfl C dX13_lags_157 rfl ?_
              refine y_iload_n (pc' := 159) rfl C dX13_lags_158 rfl ?_
              refine y_cVi (pc' := 162) (k' := 0) (n' := 0) rfl C (c_X13_done _ G a Yl80 (Y (4, 0, 0) 8)) my_X13_done aw_1123 (v4 rfl) rfl rfl rfl rfl rfl (Nat.le_of_ble_eq_true rfl) rfl dX13_lags_159 rfl rfl (fun r_159 Y_159 hp_159 => ?_)
              obtain ⟨rfl, hY_159⟩ := hp_159
              refine y_ireturn C rfl rfl dX13_lags_162 rfl rfl ?_
              refine ⟨?_, ?_⟩
              · rw [lagA, if_pos h_6, if_neg c_23]; try rfl
              · rw [lagA, if_pos h_6, if_neg c_23, setAct_d, hY_159, hYl80, hYl33]; simp only [setA_setA, setA_s]; rw [h8, nn_nI (by omega), hmq, nn_nI (by omega), lagSet, show i80 = mq - l1 by omega, hl1, show i33 = lg - mq by omega]
            · rw [e8y, hmq] at c_88
              have hb80 : i80 < mq - l1 := by have := nI_nle_iff (by omega) (by omega) c_88; omega
              refine y_aload_n (pc' := 92) rfl C dX13_lags_91 rfl ?_
              refine y_get (pc' := 95) rfl (v := .ref (a (4, 0, 0))) C fl_X13_7 (v4 rfl) rfl rfl dX13_lags_92 rfl ?_
              refine y_bipush (pc' := 97) rfl (v := 8) C dX13_lags_95 (by decide) ?_
              refine y_ialdN (pc' := 98) rfl C 8 rfl (v4 rfl) rfl rfl (by decide) rfl dX13_lags_97 ?_
              refine y_istore_n (pc' := 99) rfl C dX13_lags_98 (by decide) ?_
              refine y_conv (L' := [some (.ref (a (4, 0, 8))), some (.int m), some (.int ((Y (4, 0, 0) 8))), some (.int ((nI (l1 + i80 - 0))))]) (by rw [e8y]; rfl) rfl ?_
              suffices K99 : ∀ (fu_ i99 : Nat) (Yl99 : YT), i99 ≤ (l1 + i80) → (l1 + i80) < fu_ + i99 → Yl99 = setA Yl80 (4, 0, 0) (shU (Yl80 (4, 0, 0)) (l1 + i80) i99) → WY X G A a Yl99 0 0 _ 99 [some (.ref (a (4, 0, 8))), some (.int m), some (.int ((Y (4, 0, 0) 8))), some (.int ((nI (l1 + i80 - i99))))] [] from K99 ((l1 + i80) + 1) 0 _ (by omega) (by omega) (by rw [shU_0, setA_self])
              intro fu_
              induction fu_ with
              | zero => intro i99 Yl99 h1 h2; omega
              | succ fu_ ih99 =>
                intro i99 Yl99 hi99 hm99 hYl99
                refine y_iload_n (pc' := 100) rfl C dX13_lags_99 rfl ?_
                refine y_if_le (pc' := 103) rfl (tgt := 129) C dX13_lags_100 (by decide) (fun c_100 => ?_) (fun c_100 => ?_)
                · have hb99 : l1 + i80 ≤ i99 := by have := nI_le_iff (i := 0) (by omega) (by omega) c_100; omega
                  refine y_aload_n (pc' := 130) rfl C dX13_lags_129 rfl ?_
                  refine y_get (pc' := 133) rfl (v := .ref (a (4, 0, 0))) C fl_X13_7 (v4 rfl) rfl rfl dX13_lags_130 rfl ?_
                  refine y_bipush (pc' := 135) rfl (v := 17) C dX13_lags_133 (by decide) ?_
                  refine y_aload_n (pc' := 136) rfl C dX13_lags_135 rfl ?_
                  refine y_get (pc' := 139) rfl (v := .ref (a (4, 0, 0))) C fl_X13_7 (v4 rfl) rfl rfl dX13_lags_136 rfl ?_
                  refine y_bipush (pc' := 141) rfl (v := 9) C dX13_lags_139 (by decide) ?_
                  refine y_ialdN (pc' := 142) rfl C 9 rfl (v4 rfl) rfl rfl (by decide) rfl dX13_lags_141 ?_
                  refine y_iastN (pc' := 143) rfl C 17 rfl (v4 rfl) rfl rfl (by decide) rfl dX13_lags_142 (fun Z142 hZ142 => ?_)
                  refine y_aload_n (pc' := 144) rfl C dX13_lags_143 rfl ?_
                  refine y_get (pc' := 147) rfl (v := .ref (a (4, 0, 0))) C fl_X13_7 (v4 rfl) rfl rfl dX13_lags_144 rfl ?_
                  refine y_bipush (pc' := 149) rfl (v := 8) C dX13_lags_147 (by decide) ?_
                  refine y_dup2 (pc' := 150) rfl C dX13_lags_149 rfl rfl ?_
                  refine y_ialdN (pc' := 151) rfl C 8 rfl (v4 rfl) rfl rfl (by decide) rfl dX13_lags_150 ?_
                  refine y_iconst (pc' := 152) rfl (v := 1) C dX13_lags_151 (by decide) ?_
                  refine y_iadd (pc' := 153) rfl C dX13_lags_152 ?_
                  refine y_iastN (pc' := 154) rfl C 8 rfl (v4 rfl) rfl rfl (by decide) rfl dX13_lags_153 (fun Z153 hZ153 => ?_)
                  refine y_goto (tgt := 80) C dX13_lags_154 (by decide) ?_
                  refine y_weak (L' := [some (.ref (a (4, 0, 8))), some (.int m), some (.int ((Y (4, 0, 0) 8))), none]) (wk_c (wk_c (wk_c (wk_n wk_nil)))) ?_
                  exact ih80 (i80 + 1) _ (by omega) (by omega) (by rw [hZ153, up_setA, hZ142, up_setA, hYl99, show i99 = l1 + i80 by omega, hYl80]; simp only [setA_setA, setA_s]; rfl)
                · have hb99 : i99 < l1 + i80 := by have := nI_nle_iff (i := 0) (by omega) (by omega) c_100; omega
                  refine y_aload_n (pc' := 104) rfl C dX13_lags_103 rfl ?_
                  refine y_get (pc' := 107) rfl (v := .ref (a (4, 0, 0))) C fl_X13_7 (v4 rfl) rfl rfl dX13_lags_104 rfl ?_
                  refine y_bipush (pc' := 109) rfl (v := 17) C dX13_lags_107 (by decide) ?_
                  refine y_iload_n (pc' := 110) rfl C dX13_lags_109 rfl ?_
                  refine y_iadd (pc' := 111) rfl C dX13_lags_110 ?_
                  refine y_aload_n (pc' := 112) rfl C dX13_lags_111 rfl ?_
                  refine y_get (pc' := 115) rfl (v := .ref (a (4, 0, 0))) C fl_X13_7 (v4 rfl) rfl rfl dX13_lags_112 rfl ?_
                  refine y_bipush (pc' := 117) rfl (v := 17) C dX13_lags_115 (by decide) ?_
                  refine y_iload_n (pc' := 118) rfl C dX13_lags_117 rfl ?_
                  refine y_iadd (pc' := 119) rfl C dX13_lags_118 ?_
                  refine y_iconst (pc' := 120) rfl (v := 1) C dX13_lags_119 (by decide) ?_
                  refine y_isub (pc' := 121) rfl C dX13_lags_120 ?_
                  refine y_ialdN (pc' := 122) rfl C ((17 + (l1 + i80 - i99)) - 1) (nsub (nadd (rfl : (17 : Int32) = nI 17) rfl) (rfl : (1 : Int32) = nI 1) (by omega)) (v4 rfl) rfl rfl (show ((17 + (l1 + i80 - i99)) - 1) < 227 by omega) rfl dX13_lags_121 ?_
                  refine y_iastN (pc' := 123) rfl C (17 + (l1 + i80 - i99)) (nadd (rfl : (17 : Int32) = nI 17) rfl) (v4 rfl) rfl rfl (show (17 + (l1 + i80 - i99)) < 227 by omega) rfl dX13_lags_122 (fun Z122 hZ122 => ?_)
                  refine y_iinc (pc' := 126) rfl (v := (nI (l1 + i80 - (i99 + 1)))) C dX13_lags_123 rfl (by rw [show l1 + i80 - i99 = l1 + i80 - (i99 + 1) + 1 by omega]; exact pk_m1 _) (by decide) ?_
                  refine y_goto (tgt := 99) C dX13_lags_126 (by decide) ?_
                  exact ih99 (i99 + 1) _ (by omega) (by omega) (by rw [hZ122, up_setA, hYl99, setA_setA, setA_s, shU_s _ _ _ hb99])
        · rw [e8, hmq] at c_41
          have hb33 : i33 < lg - mq := by have := nI_nle_iff (by omega) (by omega) c_41; omega
          refine y_aload_n (pc' := 45) rfl C dX13_lags_44 rfl ?_
          refine y_iconst (pc' := 46) rfl (v := 0) C dX13_lags_45 (by decide) ?_
          refine y_cVi (pc' := 49) (k' := 0) (n' := 0) rfl C (c_X13_lagged _ G a Yl33 0 (lg - i33) e8 (by omega)) my_X13_lagged aw_1162 (v4 rfl) rfl rfl rfl rfl rfl (Nat.le_of_ble_eq_true rfl) rfl dX13_lags_46 rfl rfl (fun r_46 Y_46 hp_46 => ?_)
          obtain ⟨rfl, hY_46⟩ := hp_46
          refine y_istore_n (pc' := 50) rfl C dX13_lags_49 (by decide) ?_
          refine y_aload_n (pc' := 51) rfl C dX13_lags_50 rfl ?_
          refine y_get (pc' := 54) rfl (v := .ref (a (4, 0, 0))) C fl_X13_7 (v4 rfl) rfl rfl dX13_lags_51 rfl ?_
          refine y_bipush (pc' := 56) rfl (v := 8) C dX13_lags_54 (by decide) ?_
          refine y_dup2 (pc' := 57) rfl C dX13_lags_56 rfl rfl ?_
          refine y_ialdN (pc' := 58) rfl C 8 rfl (v4 rfl) rfl rfl (by decide) rfl dX13_lags_57 ?_
          refine y_iconst (pc' := 59) rfl (v := 1) C dX13_lags_58 (by decide) ?_
          refine y_isub (pc' := 60) rfl C dX13_lags_59 ?_
          refine y_iastN (pc' := 61) rfl C 8 rfl (v4 rfl) rfl rfl (by decide) rfl dX13_lags_60 (fun Z60 hZ60 => ?_)
          have e8b : Z60 (4, 0, 0) 8 = nI (lg - i33 - 1) := by rw [hZ60, up_setA, setA_s, upd_s, hY_46, setA_s, lagS_lo (by omega), e8]; exact pk_sub (b := 1) (by omega)
          refine y_aload_n (pc' := 62) rfl C dX13_lags_61 rfl ?_
          refine y_get (pc' := 65) rfl (v := .ref (a (4, 0, 0))) C fl_X13_7 (v4 rfl) rfl rfl dX13_lags_62 rfl ?_
          refine y_bipush (pc' := 67) rfl (v := 17) C dX13_lags_65 (by decide) ?_
          refine y_aload_n (pc' := 68) rfl C dX13_lags_67 rfl ?_
          refine y_get (pc' := 71) rfl (v := .ref (a (4, 0, 0))) C fl_X13_7 (v4 rfl) rfl rfl dX13_lags_68 rfl ?_
          refine y_bipush (pc' := 73) rfl (v := 8) C dX13_lags_71 (by decide) ?_
          refine y_ialdN (pc' := 74) rfl C 8 rfl (v4 rfl) rfl rfl (by decide) rfl dX13_lags_73 ?_
          refine y_iadd (pc' := 75) rfl C dX13_lags_74 ?_
          refine y_iconst (pc' := 76) rfl (v := 0) C dX13_lags_75 (by decide) ?_
          refine y_iastN (pc' := 77) rfl C (17 + (lg - i33 - 1)) (nadd (rfl : (17 : Int32) = nI 17) e8b) (v4 rfl) rfl rfl (show (17 + (lg - i33 - 1)) < 227 by omega) rfl dX13_lags_76 (fun Z76 hZ76 => ?_)
          refine y_goto (tgt := 33) C dX13_lags_77 (by decide) ?_
          refine y_weak (L' := [some (.ref (a (4, 0, 8))), some (.int m), some (.int ((Y (4, 0, 0) 8))), none]) (wk_c (wk_c (wk_c (wk_n wk_nil)))) ?_
          exact ih33 (i33 + 1) _ (by omega) (by omega) (by rw [hZ76, up_setA, hZ60, up_setA, hY_46, hYl33]; simp only [setA_setA, setA_s]; rfl)
    · refine y_aload_n (pc' := 27) rfl C dX13_lags_26 rfl ?_
      refine y_iconst (pc' := 28) rfl (v := 5) C dX13_lags_27 (by decide) ?_
      refine y_iload_n (pc' := 29) rfl C dX13_lags_28 rfl ?_
      refine y_cVi (pc' := 32) (k' := 0) (n' := 0) rfl C (c_X13_refused _ G a Y 5 m) my_X13_refused aw_1119 (v4 rfl) rfl rfl rfl rfl rfl (Nat.le_of_ble_eq_true rfl) rfl dX13_lags_29 rfl rfl (fun r_29 Y_29 hp_29 => ?_)
      obtain ⟨rfl, hY_29⟩ := hp_29
      refine y_ireturn C rfl rfl dX13_lags_32 rfl rfl ?_
      refine ⟨?_, ?_⟩
      · rw [lagA, if_pos h_6, if_pos c_23]; try rfl
      · rw [lagA, if_pos h_6, if_pos c_23, setAct_r (by decide) (by decide)]; exact hY_29
  · have h_6 := bi_0.mp c_6
    refine y_sipush (pc' := 12) rfl (v := (-10002)) C dX13_lags_9 (by decide) ?_
    refine y_ireturn C rfl rfl dX13_lags_12 rfl rfl ?_
    refine ⟨?_, ?_⟩
    · rw [lagA, if_neg h_6]; try rfl
    · rw [lagA, if_neg h_6, sa_bad]
-- KilnKeeperModel.potOf 
set_option maxHeartbeats 1000000 in
set_option maxRecDepth 20000 in
theorem c_X13_potOf (l : Launch) (G : GT) (a : Id3 → Nat) (Y : YT) (np : Nat) (p w : Int32)  (hnp : np ≤ 8) (h15 : Y (4, 0, 0) 15 = nI np) : CtY l G a yX13_potOf cX13_potOf 3 (some .int) ({ frames := 2, cells := 0, slots := 0, locals := 43 } : Room) [.ref (a (4, 0, 8)), .int p, .int w] Y (PI (fun r Y' => r = potF (Y (4, 0, 0)) p w ∧ Y' = Y)) := by
  refine CtY.of (by decide) rfl (Nat.le_of_ble_eq_true rfl) ?_
  intro X A C hl
  subst hl
  refine y_aload_n (pc' := 1) rfl C dX13_potOf_0 rfl ?_
  refine y_iload_n (pc' := 2) rfl C dX13_potOf_1 rfl ?_
  refine y_cVi (pc' := 5) (k' := 0) (n' := 0) rfl C (c_X13_isPot _ G a Y p) my_X13_isPot aw_1222 (v4 rfl) rfl rfl rfl rfl rfl (Nat.le_of_ble_eq_true rfl) rfl dX13_potOf_2 rfl rfl (fun r_2 Y_2 hp_2 => ?_)
  obtain ⟨rfl, hY_2⟩ := hp_2
  have hY_2 := hY_2.symm; subst hY_2
  refine y_if_ne (pc' := 8) rfl (tgt := 12) C dX13_potOf_5 (by decide) (fun c_5 => ?_) (fun c_5 => ?_)
  · have h_5 := bi_n0 c_5
    obtain ⟨q, hq, hp⟩ := pot_nI h15 hnp h_5
    have hnq : nn p = q := by rw [hp, nn_nI (by omega)]
    have hnpn : nn (Y (4, 0, 0) 15) = np := by rw [h15, nn_nI (by omega)]
    refine y_iload_n (pc' := 13) rfl C dX13_potOf_12 rfl ?_
    by_cases s_13_0 : w = 0
    · refine y_tabC (v := 0) (tgt := 56) C s_13_0 dX13_potOf_13 (by decide) (by decide) rfl (by decide) ?_
      refine y_aload_n (pc' := 57) rfl C dX13_potOf_56 rfl ?_
      refine y_get (pc' := 60) rfl (v := .ref (a (4, 0, 0))) C fl_X13_7 (v4 rfl) rfl rfl dX13_potOf_57 rfl ?_
      refine y_sipush (pc' := 63) rfl (v := 171) C dX13_potOf_60 (by decide) ?_
      refine y_iload_n (pc' := 64) rfl C dX13_potOf_63 rfl ?_
      refine y_iadd (pc' := 65) rfl C dX13_potOf_64 ?_
      refine y_ialdN (pc' := 66) rfl C (171 + q) (nadd (rfl : (171 : Int32) = nI 171) hp) (v4 rfl) rfl rfl (show (171 + q) < 227 by omega) rfl dX13_potOf_65 ?_
      refine y_ireturn C rfl rfl dX13_potOf_66 rfl rfl ?_
      exact ⟨by rw [potF, if_pos h_5, hnq, if_pos s_13_0], rfl⟩
    by_cases s_13_1 : w = 1
    · refine y_tabC (v := 1) (tgt := 67) C s_13_1 dX13_potOf_13 (by decide) (by decide) rfl (by decide) ?_
      refine y_aload_n (pc' := 68) rfl C dX13_potOf_67 rfl ?_
      refine y_get (pc' := 71) rfl (v := .ref (a (4, 0, 0))) C fl_X13_7 (v4 rfl) rfl rfl dX13_potOf_68 rfl ?_
      refine y_sipush (pc' := 74) rfl (v := 179) C dX13_potOf_71 (by decide) ?_
      refine y_iload_n (pc' := 75) rfl C dX13_potOf_74 rfl ?_
      refine y_iadd (pc' := 76) rfl C dX13_potOf_75 ?_
      refine y_ialdN (pc' := 77) rfl C (179 + q) (nadd (rfl : (179 : Int32) = nI 179) hp) (v4 rfl) rfl rfl (show (179 + q) < 227 by omega) rfl dX13_potOf_76 ?_
      refine y_ireturn C rfl rfl dX13_potOf_77 rfl rfl ?_
      exact ⟨by rw [potF, if_pos h_5, hnq, if_neg s_13_0, if_pos s_13_1], rfl⟩
    by_cases s_13_2 : w = 2
    · refine y_tabC (v := 2) (tgt := 78) C s_13_2 dX13_potOf_13 (by decide) (by decide) rfl (by decide) ?_
      refine y_aload_n (pc' := 79) rfl C dX13_potOf_78 rfl ?_
      refine y_get (pc' := 82) rfl (v := .ref (a (4, 0, 0))) C fl_X13_7 (v4 rfl) rfl rfl dX13_potOf_79 rfl ?_
      refine y_sipush (pc' := 85) rfl (v := 187) C dX13_potOf_82 (by decide) ?_
      refine y_iload_n (pc' := 86) rfl C dX13_potOf_85 rfl ?_
      refine y_iadd (pc' := 87) rfl C dX13_potOf_86 ?_
      refine y_ialdN (pc' := 88) rfl C (187 + q) (nadd (rfl : (187 : Int32) = nI 187) hp) (v4 rfl) rfl rfl (show (187 + q) < 227 by omega) rfl dX13_potOf_87 ?_
      refine y_ireturn C rfl rfl dX13_potOf_88 rfl rfl ?_
      exact ⟨by rw [potF, if_pos h_5, hnq, if_neg s_13_0, if_neg s_13_1, if_pos s_13_2], rfl⟩
    by_cases s_13_3 : w = 3
    · refine y_tabC (v := 3) (tgt := 89) C s_13_3 dX13_potOf_13 (by decide) (by decide) rfl (by decide) ?_
      refine y_aload_n (pc' := 90) rfl C dX13_potOf_89 rfl ?_
      refine y_get (pc' := 93) rfl (v := .ref (a (4, 0, 0))) C fl_X13_7 (v4 rfl) rfl rfl dX13_potOf_90 rfl ?_
      refine y_sipush (pc' := 96) rfl (v := 195) C dX13_potOf_93 (by decide) ?_
      refine y_iload_n (pc' := 97) rfl C dX13_potOf_96 rfl ?_
      refine y_iadd (pc' := 98) rfl C dX13_potOf_97 ?_
      refine y_ialdN (pc' := 99) rfl C (195 + q) (nadd (rfl : (195 : Int32) = nI 195) hp) (v4 rfl) rfl rfl (show (195 + q) < 227 by omega) rfl dX13_potOf_98 ?_
      refine y_ireturn C rfl rfl dX13_potOf_99 rfl rfl ?_
      exact ⟨by rw [potF, if_pos h_5, hnq, if_neg s_13_0, if_neg s_13_1, if_neg s_13_2, if_pos s_13_3], rfl⟩
    by_cases s_13_4 : w = 4
    · refine y_tabC (v := 4) (tgt := 100) C s_13_4 dX13_potOf_13 (by decide) (by decide) rfl (by decide) ?_
      refine y_aload_n (pc' := 101) rfl C dX13_potOf_100 rfl ?_
      refine y_get (pc' := 104) rfl (v := .ref (a (4, 0, 0))) C fl_X13_7 (v4 rfl) rfl rfl dX13_potOf_101 rfl ?_
      refine y_sipush (pc' := 107) rfl (v := 203) C dX13_potOf_104 (by decide) ?_
      refine y_iload_n (pc' := 108) rfl C dX13_potOf_107 rfl ?_
      refine y_iadd (pc' := 109) rfl C dX13_potOf_108 ?_
      refine y_ialdN (pc' := 110) rfl C (203 + q) (nadd (rfl : (203 : Int32) = nI 203) hp) (v4 rfl) rfl rfl (show (203 + q) < 227 by omega) rfl dX13_potOf_109 ?_
      refine y_ireturn C rfl rfl dX13_potOf_110 rfl rfl ?_
      exact ⟨by rw [potF, if_pos h_5, hnq, if_neg s_13_0, if_neg s_13_1, if_neg s_13_2, if_neg s_13_3, if_pos s_13_4], rfl⟩
    by_cases s_13_5 : w = 5
    · refine y_tabC (v := 5) (tgt := 111) C s_13_5 dX13_potOf_13 (by decide) (by decide) rfl (by decide) ?_
      refine y_aload_n (pc' := 112) rfl C dX13_potOf_111 rfl ?_
      refine y_get (pc' := 115) rfl (v := .ref (a (4, 0, 0))) C fl_X13_7 (v4 rfl) rfl rfl dX13_potOf_112 rfl ?_
      refine y_sipush (pc' := 118) rfl (v := 211) C dX13_potOf_115 (by decide) ?_
      refine y_iload_n (pc' := 119) rfl C dX13_potOf_118 rfl ?_
      refine y_iadd (pc' := 120) rfl C dX13_potOf_119 ?_
      refine y_ialdN (pc' := 121) rfl C (211 + q) (nadd (rfl : (211 : Int32) = nI 211) hp) (v4 rfl) rfl rfl (show (211 + q) < 227 by omega) rfl dX13_potOf_120 ?_
      refine y_ireturn C rfl rfl dX13_potOf_121 rfl rfl ?_
      exact ⟨by rw [potF, if_pos h_5, hnq, if_neg s_13_0, if_neg s_13_1, if_neg s_13_2, if_neg s_13_3, if_neg s_13_4, if_pos s_13_5], rfl⟩
    by_cases s_13_6 : w = 6
    · refine y_tabC (v := 6) (tgt := 122) C s_13_6 dX13_potOf_13 (by decide) (by decide) rfl (by decide) ?_
      refine y_aload_n (pc' := 123) rfl C dX13_potOf_122 rfl ?_
      refine y_get (pc' := 126) rfl (v := .ref (a (4, 0, 0))) C fl_X13_7 (v4 rfl) rfl rfl dX13_potOf_123 rfl ?_
      refine y_sipush (pc' := 129) rfl (v := 219) C dX13_potOf_126 (by decide) ?_
      refine y_iload_n (pc' := 130) rfl C dX13_potOf_129 rfl ?_
      refine y_iadd (pc' := 131) rfl C dX13_potOf_130 ?_
      refine y_ialdN (pc' := 132) rfl C (219 + q) (nadd (rfl : (219 : Int32) = nI 219) hp) (v4 rfl) rfl rfl (show (219 + q) < 227 by omega) rfl dX13_potOf_131 ?_
      refine y_ireturn C rfl rfl dX13_potOf_132 rfl rfl ?_
      exact ⟨by rw [potF, if_pos h_5, hnq, if_neg s_13_0, if_neg s_13_1, if_neg s_13_2, if_neg s_13_3, if_neg s_13_4, if_neg s_13_5, if_pos s_13_6], rfl⟩
    refine y_tabD (tgt := 133) C [0, 1, 2, 3, 4, 5, 6] dX13_potOf_13 (List.forall_mem_cons.mpr ⟨tne s_13_0 rfl, (List.forall_mem_cons.mpr ⟨tne s_13_1 rfl, (List.forall_mem_cons.mpr ⟨tne s_13_2 rfl, (List.forall_mem_cons.mpr ⟨tne s_13_3 rfl, (List.forall_mem_cons.mpr ⟨tne s_13_4 rfl, (List.forall_mem_cons.mpr ⟨tne s_13_5 rfl, (List.forall_mem_cons.mpr ⟨tne s_13_6 rfl, (fun _ h => absurd h List.not_mem_nil)⟩)⟩)⟩)⟩)⟩)⟩)⟩) rfl (by decide) ?_
    refine y_sipush (pc' := 136) rfl (v := (-10002)) C dX13_potOf_133 (by decide) ?_
    refine y_ireturn C rfl rfl dX13_potOf_136 rfl rfl ?_
    exact ⟨by rw [potF, if_pos h_5, hnq, if_neg s_13_0, if_neg s_13_1, if_neg s_13_2, if_neg s_13_3, if_neg s_13_4, if_neg s_13_5, if_neg s_13_6], rfl⟩
  · have h_5 := bi_0.mp c_5
    refine y_sipush (pc' := 11) rfl (v := (-10001)) C dX13_potOf_8 (by decide) ?_
    refine y_ireturn C rfl rfl dX13_potOf_11 rfl rfl ?_
    exact ⟨by rw [potF, if_neg h_5], rfl⟩
-- KilnKeeperModel.firedIn 
set_option maxHeartbeats 1000000 in
set_option maxRecDepth 20000 in
theorem c_X13_firedIn (l : Launch) (G : GT) (a : Id3 → Nat) (Y : YT) (np : Nat) (p : Int32)  (hnp : np ≤ 8) (h15 : Y (4, 0, 0) 15 = nI np) (hok : MOK (Y (4, 0, 0))) : CtY l G a yX13_firedIn cX13_firedIn 4 (some .int) ({ frames := 5, cells := 0, slots := 0, locals := 110 } : Room) [.ref (a (4, 0, 8)), .int p] Y (PI (fun r Y' => r = firedA (Y (4, 0, 0)) p ∧ Y' = if 0 ≤ p ∧ p ≤ Y (4, 0, 0) 15 - 1 then setA Y (4, 0, 3) (Y (4, 0, 0)) else Y)) := by
  refine CtY.of (by decide) rfl (Nat.le_of_ble_eq_true rfl) ?_
  intro X A C hl
  subst hl
  refine y_aload_n (pc' := 1) rfl C dX13_firedIn_0 rfl ?_
  refine y_iload_n (pc' := 2) rfl C dX13_firedIn_1 rfl ?_
  refine y_cVi (pc' := 5) (k' := 0) (n' := 0) rfl C (c_X13_isPot _ G a Y p) my_X13_isPot aw_1222 (v4 rfl) rfl rfl rfl rfl rfl (Nat.le_of_ble_eq_true rfl) rfl dX13_firedIn_2 rfl rfl (fun r_2 Y_2 hp_2 => ?_)
  obtain ⟨rfl, hY_2⟩ := hp_2
  have hY_2 := hY_2.symm; subst hY_2
  refine y_if_ne (pc' := 8) rfl (tgt := 12) C dX13_firedIn_5 (by decide) (fun c_5 => ?_) (fun c_5 => ?_)
  · have h_5 := bi_n0 c_5
    obtain ⟨q, hq, hp⟩ := pot_nI h15 hnp h_5
    have hnq : nn p = q := by rw [hp, nn_nI (by omega)]
    have hnpn : nn (Y (4, 0, 0) 15) = np := by rw [h15, nn_nI (by omega)]
    refine y_aload_n (pc' := 13) rfl C dX13_firedIn_12 rfl ?_
    refine y_iconst (pc' := 14) rfl (v := 0) C dX13_firedIn_13 (by decide) ?_
    refine y_cVv (pc' := 17) (k' := 0) (n' := 0) rfl C (c_X13_thinks _ G a Y 0 0 (rfl : (0 : Int32) = nI 0) (by omega) hok) my_X13_thinks aw_1246 (v4 rfl) rfl rfl rfl rfl rfl (Nat.le_of_ble_eq_true rfl) rfl dX13_firedIn_14 rfl rfl (fun Y_14 hY_14 => ?_)
    refine y_iconst (pc' := 18) rfl (v := 0) C dX13_firedIn_17 (by decide) ?_
    have e14 : Y_14 (4, 0, 0) = Y (4, 0, 0) := by rw [hY_14, setA_s, mins]
    refine y_istore_n (pc' := 19) rfl C dX13_firedIn_18 (by decide) ?_
    suffices K19 : ∀ (fu_ i19 : Nat) (Yl19 : YT), i19 ≤ 300 → 300 < fu_ + i19 → Yl19 = setA Y_14 (4, 0, 0) (mins i19 (Y (4, 0, 0))) → runU (Y (4, 0, 0)) q 300 0 = runU (Y (4, 0, 0)) q (300 - i19) i19 → WY X G A a Yl19 0 0 _ 19 [some (.ref (a (4, 0, 8))), some (.int p), some (.int ((nI i19))), none] [] from K19 (300 + 1) 0 _ (by omega) (by omega) (by rw [mins, ← e14, setA_self]) (rfl)
    intro fu_
    induction fu_ with
    | zero => intro i19 Yl19 h1 h2; omega
    | succ fu_ ih19 =>
      intro i19 Yl19 hi19 hm19 hYl19 hx19
      refine y_iload_n (pc' := 20) rfl C dX13_firedIn_19 rfl ?_
      refine y_sipush (pc' := 23) rfl (v := 300) C dX13_firedIn_20 (by decide) ?_
      refine y_ic_ge (pc' := 26) rfl (tgt := 50) C dX13_firedIn_23 (by decide) (fun c_23 => ?_) (fun c_23 => ?_)
      · have hb19 : 300 ≤ i19 := nI_le_iff (by omega) (by omega) c_23
        have eru : runU (Y (4, 0, 0)) q 300 0 = i19 := by rw [hx19, show 300 - i19 = 0 by omega, runU]
        refine y_aload_n (pc' := 51) rfl C dX13_firedIn_50 rfl ?_
        refine y_get (pc' := 54) rfl (v := .ref (a (4, 0, 0))) C fl_X13_7 (v4 rfl) rfl rfl dX13_firedIn_51 rfl ?_
        refine y_sipush (pc' := 57) rfl (v := 195) C dX13_firedIn_54 (by decide) ?_
        refine y_iload_n (pc' := 58) rfl C dX13_firedIn_57 rfl ?_
        refine y_iadd (pc' := 59) rfl C dX13_firedIn_58 ?_
        refine y_ialdN (pc' := 60) rfl C (195 + q) (nadd (rfl : (195 : Int32) = nI 195) hp) (v4 rfl) rfl rfl (show (195 + q) < 227 by omega) rfl dX13_firedIn_59 ?_
        refine y_iconst (pc' := 61) rfl (v := 2) C dX13_firedIn_60 (by decide) ?_
        have K61 : ∀ (w_61 : Int32) (_ : w_61 = (if (Yl19 (4, 0, 0) (195 + q)) = 2 then 1 else 0)), WY X G A a Yl19 0 0 (MEnd X G A ({ frames := 5, cells := 0, slots := 0, locals := 110 } : Room) (PY G a (PI (fun r Y' => r = firedA (Y (4, 0, 0)) p ∧ Y' = if 0 ≤ p ∧ p ≤ Y (4, 0, 0) 15 - 1 then setA Y (4, 0, 3) (Y (4, 0, 0)) else Y)))) 69 [some (.ref (a (4, 0, 8))), some (.int p), some (.int ((nI i19))), none] [.int w_61] := by
          intro w_61 ew_61
          refine y_istore_n (pc' := 70) rfl C dX13_firedIn_69 (by decide) ?_
          refine y_aload_n (pc' := 71) rfl C dX13_firedIn_70 rfl ?_
          refine y_cVv (pc' := 74) (k' := 0) (n' := 0) rfl C (c_X13_forgets _ G a Yl19 ) my_X13_forgets aw_1250 (v4 rfl) rfl rfl rfl rfl rfl (Nat.le_of_ble_eq_true rfl) rfl dX13_firedIn_71 rfl rfl (fun Y_71 hY_71 => ?_)
          refine y_iload_n (pc' := 75) rfl C dX13_firedIn_74 rfl ?_
          refine y_if_eq (pc' := 78) rfl (tgt := 82) C dX13_firedIn_75 (by decide) (fun c_75 => ?_) (fun c_75 => ?_)
          · refine y_sipush (pc' := 85) rfl (v := (-10005)) C dX13_firedIn_82 (by decide) ?_
            refine y_ireturn C rfl rfl dX13_firedIn_85 rfl rfl ?_
            have eY : Y_71 = setA Y (4, 0, 3) (Y (4, 0, 0)) := by rw [hY_71, hYl19, hY_14, mins]; have qf := fg_back Y (mins i19 (Y (4, 0, 0))); simp only [setA_setA] at qf ⊢; exact qf
            rw [hYl19, setA_s] at ew_61
            have en : ¬ mins i19 (Y (4, 0, 0)) (195 + q) = 2 := fun h => by rw [c_75, if_pos h] at ew_61; exact absurd ew_61 (by decide)
            exact ⟨by rw [firedA, if_pos h_5, hnq, firedF, eru, if_neg en], by rw [if_pos h_5]; exact eY⟩
          · refine y_iload_n (pc' := 79) rfl C dX13_firedIn_78 rfl ?_
            refine y_goto (tgt := 85) C dX13_firedIn_79 (by decide) ?_
            refine y_ireturn C rfl rfl dX13_firedIn_85 rfl rfl ?_
            have eY : Y_71 = setA Y (4, 0, 3) (Y (4, 0, 0)) := by rw [hY_71, hYl19, hY_14, mins]; have qf := fg_back Y (mins i19 (Y (4, 0, 0))); simp only [setA_setA] at qf ⊢; exact qf
            rw [hYl19, setA_s] at ew_61
            have en : mins i19 (Y (4, 0, 0)) (195 + q) = 2 := Classical.not_not.mp (fun h => c_75 (by rw [ew_61, if_neg h]))
            exact ⟨by rw [firedA, if_pos h_5, hnq, firedF, eru, if_pos en], by rw [if_pos h_5]; exact eY⟩
        refine y_ic_ne (pc' := 64) rfl (tgt := 68) C dX13_firedIn_61 (by decide) (fun c_61 => ?_) (fun c_61 => ?_)
        · refine y_iconst (pc' := 69) rfl (v := 0) C dX13_firedIn_68 (by decide) ?_
          exact K61 _ (by rw [if_neg c_61])
        · refine y_iconst (pc' := 65) rfl (v := 1) C dX13_firedIn_64 (by decide) ?_
          refine y_goto (tgt := 69) C dX13_firedIn_65 (by decide) ?_
          exact K61 _ (by rw [if_pos c_61])
      · have hb19 : i19 < 300 := nI_nle_iff (by omega) (by omega) c_23
        refine y_aload_n (pc' := 27) rfl C dX13_firedIn_26 rfl ?_
        refine y_get (pc' := 30) rfl (v := .ref (a (4, 0, 0))) C fl_X13_7 (v4 rfl) rfl rfl dX13_firedIn_27 rfl ?_
        refine y_sipush (pc' := 33) rfl (v := 195) C dX13_firedIn_30 (by decide) ?_
        refine y_iload_n (pc' := 34) rfl C dX13_firedIn_33 rfl ?_
        refine y_iadd (pc' := 35) rfl C dX13_firedIn_34 ?_
        refine y_ialdN (pc' := 36) rfl C (195 + q) (nadd (rfl : (195 : Int32) = nI 195) hp) (v4 rfl) rfl rfl (show (195 + q) < 227 by omega) rfl dX13_firedIn_35 ?_
        refine y_iconst (pc' := 37) rfl (v := 1) C dX13_firedIn_36 (by decide) ?_
        refine y_ic_ne (pc' := 40) rfl (tgt := 50) C dX13_firedIn_37 (by decide) (fun c_37 => ?_) (fun c_37 => ?_)
        · have ehow : ¬ mins i19 (Y (4, 0, 0)) (195 + q) = 1 := by rw [hYl19, setA_s] at c_37; exact c_37
          have eru : runU (Y (4, 0, 0)) q 300 0 = i19 := by rw [hx19, runU_off ehow]
          refine y_aload_n (pc' := 51) rfl C dX13_firedIn_50 rfl ?_
          refine y_get (pc' := 54) rfl (v := .ref (a (4, 0, 0))) C fl_X13_7 (v4 rfl) rfl rfl dX13_firedIn_51 rfl ?_
          refine y_sipush (pc' := 57) rfl (v := 195) C dX13_firedIn_54 (by decide) ?_
          refine y_iload_n (pc' := 58) rfl C dX13_firedIn_57 rfl ?_
          refine y_iadd (pc' := 59) rfl C dX13_firedIn_58 ?_
          refine y_ialdN (pc' := 60) rfl C (195 + q) (nadd (rfl : (195 : Int32) = nI 195) hp) (v4 rfl) rfl rfl (show (195 + q) < 227 by omega) rfl dX13_firedIn_59 ?_
          refine y_iconst (pc' := 61) rfl (v := 2) C dX13_firedIn_60 (by decide) ?_
          have K61 : ∀ (w_61 : Int32) (_ : w_61 = (if (Yl19 (4, 0, 0) (195 + q)) = 2 then 1 else 0)), WY X G A a Yl19 0 0 (MEnd X G A ({ frames := 5, cells := 0, slots := 0, locals := 110 } : Room) (PY G a (PI (fun r Y' => r = firedA (Y (4, 0, 0)) p ∧ Y' = if 0 ≤ p ∧ p ≤ Y (4, 0, 0) 15 - 1 then setA Y (4, 0, 3) (Y (4, 0, 0)) else Y)))) 69 [some (.ref (a (4, 0, 8))), some (.int p), some (.int ((nI i19))), none] [.int w_61] := by
            intro w_61 ew_61
            refine y_istore_n (pc' := 70) rfl C dX13_firedIn_69 (by decide) ?_
            refine y_aload_n (pc' := 71) rfl C dX13_firedIn_70 rfl ?_
            refine y_cVv (pc' := 74) (k' := 0) (n' := 0) rfl C (c_X13_forgets _ G a Yl19 ) my_X13_forgets aw_1250 (v4 rfl) rfl rfl rfl rfl rfl (Nat.le_of_ble_eq_true rfl) rfl dX13_firedIn_71 rfl rfl (fun Y_71 hY_71 => ?_)
            refine y_iload_n (pc' := 75) rfl C dX13_firedIn_74 rfl ?_
            refine y_if_eq (pc' := 78) rfl (tgt := 82) C dX13_firedIn_75 (by decide) (fun c_75 => ?_) (fun c_75 => ?_)
            · refine y_sipush (pc' := 85) rfl (v := (-10005)) C dX13_firedIn_82 (by decide) ?_
              refine y_ireturn C rfl rfl dX13_firedIn_85 rfl rfl ?_
              have eY : Y_71 = setA Y (4, 0, 3) (Y (4, 0, 0)) := by rw [hY_71, hYl19, hY_14, mins]; have qf := fg_back Y (mins i19 (Y (4, 0, 0))); simp only [setA_setA] at qf ⊢; exact qf
              rw [hYl19, setA_s] at ew_61
              have en : ¬ mins i19 (Y (4, 0, 0)) (195 + q) = 2 := fun h => by rw [c_75, if_pos h] at ew_61; exact absurd ew_61 (by decide)
              exact ⟨by rw [firedA, if_pos h_5, hnq, firedF, eru, if_neg en], by rw [if_pos h_5]; exact eY⟩
            · refine y_iload_n (pc' := 79) rfl C dX13_firedIn_78 rfl ?_
              refine y_goto (tgt := 85) C dX13_firedIn_79 (by decide) ?_
              refine y_ireturn C rfl rfl dX13_firedIn_85 rfl rfl ?_
              have eY : Y_71 = setA Y (4, 0, 3) (Y (4, 0, 0)) := by rw [hY_71, hYl19, hY_14, mins]; have qf := fg_back Y (mins i19 (Y (4, 0, 0))); simp only [setA_setA] at qf ⊢; exact qf
              rw [hYl19, setA_s] at ew_61
              have en : mins i19 (Y (4, 0, 0)) (195 + q) = 2 := Classical.not_not.mp (fun h => c_75 (by rw [ew_61, if_neg h]))
              exact ⟨by rw [firedA, if_pos h_5, hnq, firedF, eru, if_pos en], by rw [if_pos h_5]; exact eY⟩
          refine y_ic_ne (pc' := 64) rfl (tgt := 68) C dX13_firedIn_61 (by decide) (fun c_61 => ?_) (fun c_61 => ?_)
          · refine y_iconst (pc' := 69) rfl (v := 0) C dX13_firedIn_68 (by decide) ?_
            exact K61 _ (by rw [if_neg c_61])
          · refine y_iconst (pc' := 65) rfl (v := 1) C dX13_firedIn_64 (by decide) ?_
            refine y_goto (tgt := 69) C dX13_firedIn_65 (by decide) ?_
            exact K61 _ (by rw [if_pos c_61])
        · have ehow : mins i19 (Y (4, 0, 0)) (195 + q) = 1 := by rw [hYl19, setA_s] at c_37; exact c_37
          refine y_aload_n (pc' := 41) rfl C dX13_firedIn_40 rfl ?_
          refine y_cVv (pc' := 44) (k' := 0) (n' := 0) rfl C (c_X13_goesBy _ G a Yl19 (by rw [hYl19, setA_s]; exact MOK_mins hok _)) my_X13_goesBy aw_1182 (v4 rfl) rfl rfl rfl rfl rfl (Nat.le_of_ble_eq_true rfl) rfl dX13_firedIn_41 rfl rfl (fun Y_41 hY_41 => ?_)
          refine y_iinc (pc' := 47) rfl (v := (nI (i19 + 1))) C dX13_firedIn_44 rfl (nI_1 i19) (by decide) ?_
          refine y_goto (tgt := 19) C dX13_firedIn_47 (by decide) ?_
          exact ih19 (i19 + 1) _ (by omega) (by omega) (by rw [hY_41, hYl19, setA_setA, setA_s, mins]) (by rw [hx19, runU_on (by omega) ehow])
  · have h_5 := bi_0.mp c_5
    refine y_sipush (pc' := 11) rfl (v := (-10001)) C dX13_firedIn_8 (by decide) ?_
    refine y_ireturn C rfl rfl dX13_firedIn_11 rfl rfl ?_
    exact ⟨by rw [firedA, if_neg h_5], by rw [if_neg h_5]⟩
-- KilnKeeperModel.settlesIn 
set_option maxHeartbeats 1000000 in
set_option maxRecDepth 20000 in
theorem c_X13_settlesIn (l : Launch) (G : GT) (a : Id3 → Nat) (Y : YT)   (hok : MOK (Y (4, 0, 0))) : CtY l G a yX13_settlesIn cX13_settlesIn 3 (some .int) ({ frames := 5, cells := 0, slots := 0, locals := 110 } : Room) [.ref (a (4, 0, 8))] Y (PI (fun r Y' => r = settleF (Y (4, 0, 0)) ∧ Y' = setA Y (4, 0, 3) (Y (4, 0, 0)))) := by
  refine CtY.of (by decide) rfl (Nat.le_of_ble_eq_true rfl) ?_
  intro X A C hl
  subst hl
  refine y_aload_n (pc' := 1) rfl C dX13_settlesIn_0 rfl ?_
  refine y_iconst (pc' := 2) rfl (v := 0) C dX13_settlesIn_1 (by decide) ?_
  refine y_cVv (pc' := 5) (k' := 0) (n' := 0) rfl C (c_X13_thinks _ G a Y 0 0 (rfl : (0 : Int32) = nI 0) (by omega) hok) my_X13_thinks aw_1246 (v4 rfl) rfl rfl rfl rfl rfl (Nat.le_of_ble_eq_true rfl) rfl dX13_settlesIn_2 rfl rfl (fun Y_2 hY_2 => ?_)
  refine y_iconst (pc' := 6) rfl (v := 0) C dX13_settlesIn_5 (by decide) ?_
  have e2 : Y_2 (4, 0, 0) = Y (4, 0, 0) := by rw [hY_2, setA_s, mins]
  refine y_istore_n (pc' := 7) rfl C dX13_settlesIn_6 (by decide) ?_
  refine y_iconst (pc' := 8) rfl (v := 0) C dX13_settlesIn_7 (by decide) ?_
  refine y_istore_n (pc' := 9) rfl C dX13_settlesIn_8 (by decide) ?_
  suffices K9 : ∀ (fu_ i9 : Nat) (Yl9 : YT), i9 ≤ 300 → 300 < fu_ + i9 → Yl9 = setA Y_2 (4, 0, 0) (mins i9 (Y (4, 0, 0))) → setU (Y (4, 0, 0)) 300 0 = setU (Y (4, 0, 0)) (300 - i9) i9 → WY X G A a Yl9 0 0 _ 9 [some (.ref (a (4, 0, 8))), some (.int ((near (Y (4, 0, 0)) i9))), some (.int ((nI i9)))] [] from K9 (300 + 1) 0 _ (by omega) (by omega) (by rw [mins, ← e2, setA_self]) (rfl)
  intro fu_
  induction fu_ with
  | zero => intro i9 Yl9 h1 h2; omega
  | succ fu_ ih9 =>
    intro i9 Yl9 hi9 hm9 hYl9 hx9
    refine y_iload_n (pc' := 10) rfl C dX13_settlesIn_9 rfl ?_
    refine y_sipush (pc' := 13) rfl (v := 300) C dX13_settlesIn_10 (by decide) ?_
    refine y_ic_ge (pc' := 16) rfl (tgt := 53) C dX13_settlesIn_13 (by decide) (fun c_13 => ?_) (fun c_13 => ?_)
    · have hb9 : 300 ≤ i9 := nI_le_iff (by omega) (by omega) c_13
      have eru : setU (Y (4, 0, 0)) 300 0 = i9 := by rw [hx9, show 300 - i9 = 0 by omega, setU]
      refine y_aload_n (pc' := 54) rfl C dX13_settlesIn_53 rfl ?_
      refine y_cVv (pc' := 57) (k' := 0) (n' := 0) rfl C (c_X13_forgets _ G a Yl9 ) my_X13_forgets aw_1250 (v4 rfl) rfl rfl rfl rfl rfl (Nat.le_of_ble_eq_true rfl) rfl dX13_settlesIn_54 rfl rfl (fun Y_54 hY_54 => ?_)
      refine y_iload_n (pc' := 58) rfl C dX13_settlesIn_57 rfl ?_
      refine y_bipush (pc' := 60) rfl (v := 10) C dX13_settlesIn_58 (by decide) ?_
      refine y_ic_ne (pc' := 63) rfl (tgt := 67) C dX13_settlesIn_60 (by decide) (fun c_60 => ?_) (fun c_60 => ?_)
      · refine y_sipush (pc' := 70) rfl (v := (-10005)) C dX13_settlesIn_67 (by decide) ?_
        refine y_ireturn C rfl rfl dX13_settlesIn_70 rfl rfl ?_
        have eY : Y_54 = setA Y (4, 0, 3) (Y (4, 0, 0)) := by rw [hY_54, hYl9, hY_2, mins]; have qf := fg_back Y (mins i9 (Y (4, 0, 0))); simp only [setA_setA] at qf ⊢; exact qf
        exact ⟨by rw [settleF, eru, if_neg c_60], eY⟩
      · refine y_iload_n (pc' := 64) rfl C dX13_settlesIn_63 rfl ?_
        refine y_goto (tgt := 70) C dX13_settlesIn_64 (by decide) ?_
        refine y_ireturn C rfl rfl dX13_settlesIn_70 rfl rfl ?_
        have eY : Y_54 = setA Y (4, 0, 3) (Y (4, 0, 0)) := by rw [hY_54, hYl9, hY_2, mins]; have qf := fg_back Y (mins i9 (Y (4, 0, 0))); simp only [setA_setA] at qf ⊢; exact qf
        exact ⟨by rw [settleF, eru, if_pos c_60], eY⟩
    · have hb9 : i9 < 300 := nI_nle_iff (by omega) (by omega) c_13
      refine y_iload_n (pc' := 17) rfl C dX13_settlesIn_16 rfl ?_
      refine y_bipush (pc' := 19) rfl (v := 10) C dX13_settlesIn_17 (by decide) ?_
      refine y_ic_ge (pc' := 22) rfl (tgt := 53) C dX13_settlesIn_19 (by decide) (fun c_19 => ?_) (fun c_19 => ?_)
      · have eru : setU (Y (4, 0, 0)) 300 0 = i9 := by rw [hx9, setU_off c_19]
        refine y_aload_n (pc' := 54) rfl C dX13_settlesIn_53 rfl ?_
        refine y_cVv (pc' := 57) (k' := 0) (n' := 0) rfl C (c_X13_forgets _ G a Yl9 ) my_X13_forgets aw_1250 (v4 rfl) rfl rfl rfl rfl rfl (Nat.le_of_ble_eq_true rfl) rfl dX13_settlesIn_54 rfl rfl (fun Y_54 hY_54 => ?_)
        refine y_iload_n (pc' := 58) rfl C dX13_settlesIn_57 rfl ?_
        refine y_bipush (pc' := 60) rfl (v := 10) C dX13_settlesIn_58 (by decide) ?_
        refine y_ic_ne (pc' := 63) rfl (tgt := 67) C dX13_settlesIn_60 (by decide) (fun c_60 => ?_) (fun c_60 => ?_)
        · refine y_sipush (pc' := 70) rfl (v := (-10005)) C dX13_settlesIn_67 (by decide) ?_
          refine y_ireturn C rfl rfl dX13_settlesIn_70 rfl rfl ?_
          have eY : Y_54 = setA Y (4, 0, 3) (Y (4, 0, 0)) := by rw [hY_54, hYl9, hY_2, mins]; have qf := fg_back Y (mins i9 (Y (4, 0, 0))); simp only [setA_setA] at qf ⊢; exact qf
          exact ⟨by rw [settleF, eru, if_neg c_60], eY⟩
        · refine y_iload_n (pc' := 64) rfl C dX13_settlesIn_63 rfl ?_
          refine y_goto (tgt := 70) C dX13_settlesIn_64 (by decide) ?_
          refine y_ireturn C rfl rfl dX13_settlesIn_70 rfl rfl ?_
          have eY : Y_54 = setA Y (4, 0, 3) (Y (4, 0, 0)) := by rw [hY_54, hYl9, hY_2, mins]; have qf := fg_back Y (mins i9 (Y (4, 0, 0))); simp only [setA_setA] at qf ⊢; exact qf
          exact ⟨by rw [settleF, eru, if_pos c_60], eY⟩
      · refine y_aload_n (pc' := 23) rfl C dX13_settlesIn_22 rfl ?_
        refine y_cVv (pc' := 26) (k' := 0) (n' := 0) rfl C (c_X13_goesBy _ G a Yl9 (by rw [hYl9, setA_s]; exact MOK_mins hok _)) my_X13_goesBy aw_1182 (v4 rfl) rfl rfl rfl rfl rfl (Nat.le_of_ble_eq_true rfl) rfl dX13_settlesIn_23 rfl rfl (fun Y_23 hY_23 => ?_)
        refine y_aload_n (pc' := 27) rfl C dX13_settlesIn_26 rfl ?_
        refine y_cVi (pc' := 30) (k' := 0) (n' := 0) rfl C (c_X13_error _ G a Y_23 ) my_X13_error aw_1186 (v4 rfl) rfl rfl rfl rfl rfl (Nat.le_of_ble_eq_true rfl) rfl dX13_settlesIn_27 rfl rfl (fun r_27 Y_27 hp_27 => ?_)
        obtain ⟨rfl, hY_27⟩ := hp_27
        have hY_27 := hY_27.symm; subst hY_27
        refine y_bipush (pc' := 32) rfl (v := (-5)) C dX13_settlesIn_30 (by decide) ?_
        refine y_iconst (pc' := 33) rfl (v := 5) C dX13_settlesIn_32 (by decide) ?_
        refine y_cSi (pc' := 36) (k' := 0) (n' := 0) rfl C (c_X13_in _ G a Y_23 (mErr (Y_23 (4, 0, 0))) (-5) 5) my_X13_in aw_1116 rfl rfl (Nat.le_of_ble_eq_true rfl) rfl dX13_settlesIn_33 rfl rfl (fun r_33 Y_33 hp_33 => ?_)
        obtain ⟨rfl, hY_33⟩ := hp_33
        have hY_33 := hY_33.symm; subst hY_33
        have K36 : ∀ (w_36 : Int32) (_ : w_36 = (if (bi ((-5) ≤ (mErr (Y_23 (4, 0, 0))) ∧ (mErr (Y_23 (4, 0, 0))) ≤ 5)) = 0 then 0 else ((near (Y (4, 0, 0)) i9) + 1))), WY X G A a Y_23 0 0 (MEnd X G A ({ frames := 5, cells := 0, slots := 0, locals := 110 } : Room) (PY G a (PI (fun r Y' => r = settleF (Y (4, 0, 0)) ∧ Y' = setA Y (4, 0, 3) (Y (4, 0, 0)))))) 46 [some (.ref (a (4, 0, 8))), some (.int ((near (Y (4, 0, 0)) i9))), some (.int ((nI i9)))] [.int w_36] := by
          intro w_36 ew_36
          refine y_istore_n (pc' := 47) rfl C dX13_settlesIn_46 (by decide) ?_
          refine y_iinc (pc' := 50) rfl (v := (nI (i9 + 1))) C dX13_settlesIn_47 rfl (nI_1 i9) (by decide) ?_
          refine y_goto (tgt := 9) C dX13_settlesIn_50 (by decide) ?_
          refine y_conv (L' := [some (.ref (a (4, 0, 8))), some (.int ((near (Y (4, 0, 0)) (i9 + 1)))), some (.int ((nI (i9 + 1))))]) (by rw [near, ew_36, hY_23, setA_s, hYl9, setA_s, mins]; rfl) rfl ?_
          exact ih9 (i9 + 1) _ (by omega) (by omega) (by rw [hY_23, hYl9, setA_setA, setA_s, mins]) (by rw [hx9, setU_on (by omega) c_19])
        refine y_if_eq (pc' := 39) rfl (tgt := 45) C dX13_settlesIn_36 (by decide) (fun c_36 => ?_) (fun c_36 => ?_)
        · have h_36 := bi_0.mp c_36
          refine y_iconst (pc' := 46) rfl (v := 0) C dX13_settlesIn_45 (by decide) ?_
          exact K36 _ (by rw [if_pos c_36])
        · have h_36 := bi_n0 c_36
          refine y_iload_n (pc' := 40) rfl C dX13_settlesIn_39 rfl ?_
          refine y_iconst (pc' := 41) rfl (v := 1) C dX13_settlesIn_40 (by decide) ?_
          refine y_iadd (pc' := 42) rfl C dX13_settlesIn_41 ?_
          refine y_goto (tgt := 46) C dX13_settlesIn_42 (by decide) ?_
          exact K36 _ (by rw [if_neg c_36])
-- KilnKeeperModel.logged 
set_option maxHeartbeats 1000000 in
set_option maxRecDepth 20000 in
theorem c_X13_logged (l : Launch) (G : GT) (a : Id3 → Nat) (Y : YT) (ln : Nat) (p w : Int32)  (hln : ln ≤ 12) (h14 : Y (4, 0, 0) 14 = nI ln) : CtY l G a yX13_logged cX13_logged 3 (some .int) ({ frames := 1, cells := 0, slots := 0, locals := 22 } : Room) [.ref (a (4, 0, 8)), .int p, .int w] Y (PI (fun r Y' => r = loggedF (Y (4, 0, 0)) p w ∧ Y' = Y)) := by
  refine CtY.of (by decide) rfl (Nat.le_of_ble_eq_true rfl) ?_
  intro X A C hl
  subst hl
  refine y_iload_n (pc' := 1) rfl C dX13_logged_0 rfl ?_
  refine y_iconst (pc' := 2) rfl (v := 0) C dX13_logged_1 (by decide) ?_
  refine y_aload_n (pc' := 3) rfl C dX13_logged_2 rfl ?_
  refine y_get (pc' := 6) rfl (v := .ref (a (4, 0, 0))) C fl_X13_7 (v4 rfl) rfl rfl dX13_logged_3 rfl ?_
  refine y_bipush (pc' := 8) rfl (v := 14) C dX13_logged_6 (by decide) ?_
  refine y_ialdN (pc' := 9) rfl C 14 rfl (v4 rfl) rfl rfl (by decide) rfl dX13_logged_8 ?_
  refine y_iconst (pc' := 10) rfl (v := 1) C dX13_logged_9 (by decide) ?_
  refine y_isub (pc' := 11) rfl C dX13_logged_10 ?_
  refine y_cSi (pc' := 14) (k' := 0) (n' := 0) rfl C (c_X13_in _ G a Y p 0 ((Y (4, 0, 0) 14) - 1)) my_X13_in aw_1116 rfl rfl (Nat.le_of_ble_eq_true rfl) rfl dX13_logged_11 rfl rfl (fun r_11 Y_11 hp_11 => ?_)
  obtain ⟨rfl, hY_11⟩ := hp_11
  have hY_11 := hY_11.symm; subst hY_11
  refine y_if_ne (pc' := 17) rfl (tgt := 21) C dX13_logged_14 (by decide) (fun c_14 => ?_) (fun c_14 => ?_)
  · have h_14 := bi_n0 c_14
    obtain ⟨q, hq, hp⟩ := cnt_nI h14 (by omega) h_14
    have hnq : nn p = q := by rw [hp, nn_nI (by omega)]
    refine y_iload_n (pc' := 22) rfl C dX13_logged_21 rfl ?_
    refine y_iconst (pc' := 23) rfl (v := 0) C dX13_logged_22 (by decide) ?_
    refine y_iconst (pc' := 24) rfl (v := 3) C dX13_logged_23 (by decide) ?_
    refine y_cSi (pc' := 27) (k' := 0) (n' := 0) rfl C (c_X13_in _ G a Y w 0 3) my_X13_in aw_1116 rfl rfl (Nat.le_of_ble_eq_true rfl) rfl dX13_logged_24 rfl rfl (fun r_24 Y_24 hp_24 => ?_)
    obtain ⟨rfl, hY_24⟩ := hp_24
    have hY_24 := hY_24.symm; subst hY_24
    refine y_if_eq (pc' := 30) rfl (tgt := 46) C dX13_logged_27 (by decide) (fun c_27 => ?_) (fun c_27 => ?_)
    · have h_27 := bi_0.mp c_27
      refine y_sipush (pc' := 49) rfl (v := (-10002)) C dX13_logged_46 (by decide) ?_
      refine y_ireturn C rfl rfl dX13_logged_49 rfl rfl ?_
      exact ⟨by rw [loggedF, if_pos h_14, if_neg h_27], rfl⟩
    · have h_27 := bi_n0 c_27
      obtain ⟨t, ht, hw⟩ := rng_nI (m := 3) (by decide) (by decide) h_27
      have hnw : nn w = t := by rw [hw, nn_nI (by omega)]
      refine y_aload_n (pc' := 31) rfl C dX13_logged_30 rfl ?_
      refine y_get (pc' := 34) rfl (v := .ref (a (4, 0, 0))) C fl_X13_7 (v4 rfl) rfl rfl dX13_logged_31 rfl ?_
      refine y_bipush (pc' := 36) rfl (v := 123) C dX13_logged_34 (by decide) ?_
      refine y_iconst (pc' := 37) rfl (v := 4) C dX13_logged_36 (by decide) ?_
      refine y_iload_n (pc' := 38) rfl C dX13_logged_37 rfl ?_
      refine y_imul (pc' := 39) rfl C dX13_logged_38 ?_
      refine y_iadd (pc' := 40) rfl C dX13_logged_39 ?_
      refine y_iload_n (pc' := 41) rfl C dX13_logged_40 rfl ?_
      refine y_iadd (pc' := 42) rfl C dX13_logged_41 ?_
      refine y_ialdN (pc' := 43) rfl C ((123 + (4 * q)) + t) (nadd (nadd (rfl : (123 : Int32) = nI 123) (nmul (rfl : (4 : Int32) = nI 4) hp)) hw) (v4 rfl) rfl rfl (show ((123 + (4 * q)) + t) < 227 by omega) rfl dX13_logged_42 ?_
      refine y_goto (tgt := 49) C dX13_logged_43 (by decide) ?_
      refine y_ireturn C rfl rfl dX13_logged_49 rfl rfl ?_
      exact ⟨by rw [loggedF, if_pos h_14, if_pos h_27, hnq, hnw], rfl⟩
  · have h_14 := bi_0.mp c_14
    refine y_sipush (pc' := 20) rfl (v := (-10001)) C dX13_logged_17 (by decide) ?_
    refine y_ireturn C rfl rfl dX13_logged_20 rfl rfl ?_
    exact ⟨by rw [loggedF, if_neg h_14], rfl⟩
-- KilnKeeperModel.minutesWith 
set_option maxHeartbeats 1000000 in
set_option maxRecDepth 20000 in
theorem c_X13_minutesWith (l : Launch) (G : GT) (a : Id3 → Nat) (Y : YT) (f : Int32)   : CtY l G a yX13_minutesWith cX13_minutesWith 2 (some .int) ({ frames := 1, cells := 0, slots := 0, locals := 22 } : Room) [.ref (a (4, 0, 8)), .int f] Y (PI (fun r Y' => r = mwF (Y (4, 0, 0)) f ∧ Y' = Y)) := by
  refine CtY.of (by decide) rfl (Nat.le_of_ble_eq_true rfl) ?_
  intro X A C hl
  subst hl
  refine y_iload_n (pc' := 1) rfl C dX13_minutesWith_0 rfl ?_
  refine y_iconst (pc' := 2) rfl (v := 0) C dX13_minutesWith_1 (by decide) ?_
  refine y_bipush (pc' := 4) rfl (v := 100) C dX13_minutesWith_2 (by decide) ?_
  refine y_cSi (pc' := 7) (k' := 0) (n' := 0) rfl C (c_X13_in _ G a Y f 0 100) my_X13_in aw_1116 rfl rfl (Nat.le_of_ble_eq_true rfl) rfl dX13_minutesWith_4 rfl rfl (fun r_4 Y_4 hp_4 => ?_)
  obtain ⟨rfl, hY_4⟩ := hp_4
  have hY_4 := hY_4.symm; subst hY_4
  refine y_if_eq (pc' := 10) rfl (tgt := 22) C dX13_minutesWith_7 (by decide) (fun c_7 => ?_) (fun c_7 => ?_)
  · have h_7 := bi_0.mp c_7
    refine y_sipush (pc' := 25) rfl (v := (-10002)) C dX13_minutesWith_22 (by decide) ?_
    refine y_ireturn C rfl rfl dX13_minutesWith_25 rfl rfl ?_
    exact ⟨by rw [mwF, if_neg h_7], rfl⟩
  · have h_7 := bi_n0 c_7
    obtain ⟨q, hq, hp⟩ := rng_nI (m := 100) (by decide) (by decide) h_7
    have hnq : nn f = q := by rw [hp, nn_nI (by omega)]
    refine y_aload_n (pc' := 11) rfl C dX13_minutesWith_10 rfl ?_
    refine y_get (pc' := 14) rfl (v := .ref (a (4, 0, 0))) C fl_X13_7 (v4 rfl) rfl rfl dX13_minutesWith_11 rfl ?_
    refine y_bipush (pc' := 16) rfl (v := 22) C dX13_minutesWith_14 (by decide) ?_
    refine y_iload_n (pc' := 17) rfl C dX13_minutesWith_16 rfl ?_
    refine y_iadd (pc' := 18) rfl C dX13_minutesWith_17 ?_
    refine y_ialdN (pc' := 19) rfl C (22 + q) (nadd (rfl : (22 : Int32) = nI 22) hp) (v4 rfl) rfl rfl (show (22 + q) < 227 by omega) rfl dX13_minutesWith_18 ?_
    refine y_goto (tgt := 25) C dX13_minutesWith_19 (by decide) ?_
    refine y_ireturn C rfl rfl dX13_minutesWith_25 rfl rfl ?_
    exact ⟨by rw [mwF, if_pos h_7, hnq], rfl⟩
-- KilnKeeperModel.append 
set_option maxHeartbeats 1000000 in
set_option maxRecDepth 20000 in
theorem c_X13_append (l : Launch) (G : GT) (a : Id3 → Nat) (Y : YT) (tl : Nat) (c : Int32)  (htl : Y (4, 0, 8) 10 = nI tl) (htl6 : tl ≤ 60) : CtY l G a yX13_append cX13_append 2 (some .int) ({ frames := 1, cells := 0, slots := 0, locals := 22 } : Room) [.ref (a (4, 0, 8)), .int c] Y (PI (fun r Y' => r = appR Y c ∧ Y' = appY Y c)) := by
  refine CtY.of (by decide) rfl (Nat.le_of_ble_eq_true rfl) ?_
  intro X A C hl
  subst hl
  refine y_iload_n (pc' := 1) rfl C dX13_append_0 rfl ?_
  refine y_bipush (pc' := 3) rfl (v := 32) C dX13_append_1 (by decide) ?_
  refine y_bipush (pc' := 5) rfl (v := 126) C dX13_append_3 (by decide) ?_
  refine y_cSi (pc' := 8) (k' := 0) (n' := 0) rfl C (c_X13_in _ G a Y c 32 126) my_X13_in aw_1116 rfl rfl (Nat.le_of_ble_eq_true rfl) rfl dX13_append_5 rfl rfl (fun r_5 Y_5 hp_5 => ?_)
  obtain ⟨rfl, hY_5⟩ := hp_5
  have hY_5 := hY_5.symm; subst hY_5
  refine y_if_ne (pc' := 11) rfl (tgt := 15) C dX13_append_8 (by decide) (fun c_8 => ?_) (fun c_8 => ?_)
  · have h_8 := bi_n0 c_8
    refine y_aload_n (pc' := 16) rfl C dX13_append_15 rfl ?_
    refine y_get (pc' := 19) rfl C fl_X13_146 (v4 rfl) rfl rfl dX13_append_16 rfl ?_
    refine y_bipush (pc' := 21) rfl (v := 60) C dX13_append_19 (by decide) ?_
    refine y_ic_ne (pc' := 24) rfl (tgt := 28) C dX13_append_21 (by decide) (fun c_21 => ?_) (fun c_21 => ?_)
    · have htl7 : tl < 60 := by rcases Nat.lt_or_ge tl 60 with q | q; exact q; exact absurd (by rw [htl, show tl = 60 by omega]; rfl) c_21
      refine y_aload_n (pc' := 29) rfl C dX13_append_28 rfl ?_
      refine y_get (pc' := 32) rfl (v := .ref (a (4, 0, 5))) C fl_X13_25 (v4 rfl) rfl rfl dX13_append_29 rfl ?_
      refine y_aload_n (pc' := 33) rfl C dX13_append_32 rfl ?_
      refine y_get (pc' := 36) rfl C fl_X13_146 (v4 rfl) rfl rfl dX13_append_33 rfl ?_
      refine y_iload_n (pc' := 37) rfl C dX13_append_36 rfl ?_
      refine y_iastN (pc' := 38) rfl C tl htl (v4 rfl) rfl rfl (show tl < 60 by omega) rfl dX13_append_37 (fun Z37 hZ37 => ?_)
      refine y_aload_n (pc' := 39) rfl C dX13_append_38 rfl ?_
      refine y_dup (pc' := 40) rfl C dX13_append_39 rfl ?_
      refine y_get (pc' := 43) rfl C fl_X13_146 (v4 rfl) rfl rfl dX13_append_40 rfl ?_
      refine y_iconst (pc' := 44) rfl (v := 1) C dX13_append_43 (by decide) ?_
      refine y_iadd (pc' := 45) rfl C dX13_append_44 ?_
      refine y_put (pc' := 48) rfl C fp_X13_146 (v4 rfl) rfl rfl dX13_append_45 rfl (fun Z45 hZ45 => ?_)
      refine y_aload_n (pc' := 49) rfl C dX13_append_48 rfl ?_
      refine y_get (pc' := 52) rfl C fl_X13_146 (v4 rfl) rfl rfl dX13_append_49 rfl ?_
      refine y_ireturn C rfl rfl dX13_append_52 rfl rfl ?_
      refine ⟨?_, ?_⟩
      · rw [appR, if_pos h_8, if_neg c_21, hZ45, up_s, upd_s, hZ37, up_n (by decide)]
      · rw [appY, if_pos h_8, if_neg c_21, hZ45, hZ37, up_n (show ((4, 0, 8) : Id3) ≠ (4, 0, 5) by decide), htl, nn_nI (by omega)]
    · refine y_sipush (pc' := 27) rfl (v := (-10003)) C dX13_append_24 (by decide) ?_
      refine y_ireturn C rfl rfl dX13_append_27 rfl rfl ?_
      exact ⟨by rw [appR, if_pos h_8, if_pos c_21], by rw [appY, if_pos h_8, if_pos c_21]⟩
  · have h_8 := bi_0.mp c_8
    refine y_sipush (pc' := 14) rfl (v := (-10002)) C dX13_append_11 (by decide) ?_
    refine y_ireturn C rfl rfl dX13_append_14 rfl rfl ?_
    exact ⟨by rw [appR, if_neg h_8], by rw [appY, if_neg h_8]⟩
-- KilnKeeperModel.character 
set_option maxHeartbeats 1000000 in
set_option maxRecDepth 20000 in
theorem c_X13_character (l : Launch) (G : GT) (a : Id3 → Nat) (Y : YT) (ll : Nat) (i : Int32)  (hll : Y (4, 0, 8) 11 = nI ll) (hll8 : ll ≤ 80) : CtY l G a yX13_character cX13_character 2 (some .int) ({ frames := 1, cells := 0, slots := 0, locals := 22 } : Room) [.ref (a (4, 0, 8)), .int i] Y (PI (fun r Y' => r = charF Y i ∧ Y' = Y)) := by
  refine CtY.of (by decide) rfl (Nat.le_of_ble_eq_true rfl) ?_
  intro X A C hl
  subst hl
  refine y_iload_n (pc' := 1) rfl C dX13_character_0 rfl ?_
  refine y_iconst (pc' := 2) rfl (v := 0) C dX13_character_1 (by decide) ?_
  refine y_aload_n (pc' := 3) rfl C dX13_character_2 rfl ?_
  refine y_get (pc' := 6) rfl C fl_X13_213 (v4 rfl) rfl rfl dX13_character_3 rfl ?_
  refine y_iconst (pc' := 7) rfl (v := 1) C dX13_character_6 (by decide) ?_
  refine y_isub (pc' := 8) rfl C dX13_character_7 ?_
  refine y_cSi (pc' := 11) (k' := 0) (n' := 0) rfl C (c_X13_in _ G a Y i 0 ((Y (4, 0, 8) 11) - 1)) my_X13_in aw_1116 rfl rfl (Nat.le_of_ble_eq_true rfl) rfl dX13_character_8 rfl rfl (fun r_8 Y_8 hp_8 => ?_)
  obtain ⟨rfl, hY_8⟩ := hp_8
  have hY_8 := hY_8.symm; subst hY_8
  refine y_if_eq (pc' := 14) rfl (tgt := 23) C dX13_character_11 (by decide) (fun c_11 => ?_) (fun c_11 => ?_)
  · have h_11 := bi_0.mp c_11
    refine y_sipush (pc' := 26) rfl (v := (-10001)) C dX13_character_23 (by decide) ?_
    refine y_ireturn C rfl rfl dX13_character_26 rfl rfl ?_
    exact ⟨by rw [charF, if_neg h_11], rfl⟩
  · have h_11 := bi_n0 c_11
    obtain ⟨q, hq, hp⟩ := cnt_nI hll (by omega) h_11
    have hnq : nn i = q := by rw [hp, nn_nI (by omega)]
    refine y_aload_n (pc' := 15) rfl C dX13_character_14 rfl ?_
    refine y_get (pc' := 18) rfl (v := .ref (a (4, 0, 7))) C fl_X13_31 (v4 rfl) rfl rfl dX13_character_15 rfl ?_
    refine y_iload_n (pc' := 19) rfl C dX13_character_18 rfl ?_
    refine y_ialdN (pc' := 20) rfl C q hp (v4 rfl) rfl rfl (show q < 80 by omega) rfl dX13_character_19 ?_
    refine y_goto (tgt := 26) C dX13_character_20 (by decide) ?_
    refine y_ireturn C rfl rfl dX13_character_26 rfl rfl ?_
    exact ⟨by rw [charF, if_pos h_11, hnq], rfl⟩
-- KilnKeeperModel.reason 
set_option maxHeartbeats 1000000 in
set_option maxRecDepth 20000 in
theorem c_X13_reason (l : Launch) (G : GT) (a : Id3 → Nat) (Y : YT) (b : Int32)   : CtY l G a yX13_reason cX13_reason 2 (some .int) ({ frames := 0, cells := 0, slots := 0, locals := 0 } : Room) [.ref (a (4, 0, 8)), .int b] Y (PI (fun r Y' => r = reasF Y b ∧ Y' = Y)) := by
  refine CtY.of (by decide) rfl (Nat.le_of_ble_eq_true rfl) ?_
  intro X A C hl
  subst hl
  refine y_aload_n (pc' := 1) rfl C dX13_reason_0 rfl ?_
  refine y_get (pc' := 4) rfl C fl_X13_48 (v4 rfl) rfl rfl dX13_reason_1 rfl ?_
  refine y_if_ne (pc' := 7) rfl (tgt := 13) C dX13_reason_4 (by decide) (fun c_4 => ?_) (fun c_4 => ?_)
  · refine y_iload_n (pc' := 14) rfl C dX13_reason_13 rfl ?_
    refine y_if_eq (pc' := 17) rfl (tgt := 24) C dX13_reason_14 (by decide) (fun c_14 => ?_) (fun c_14 => ?_)
    · refine y_aload_n (pc' := 25) rfl C dX13_reason_24 rfl ?_
      refine y_get (pc' := 28) rfl C fl_X13_48 (v4 rfl) rfl rfl dX13_reason_25 rfl ?_
      refine y_ireturn C rfl rfl dX13_reason_28 rfl rfl ?_
      exact ⟨by rw [reasF, if_neg c_4, if_pos c_14], rfl⟩
    · refine y_aload_n (pc' := 18) rfl C dX13_reason_17 rfl ?_
      refine y_get (pc' := 21) rfl C fl_X13_51 (v4 rfl) rfl rfl dX13_reason_18 rfl ?_
      refine y_goto (tgt := 28) C dX13_reason_21 (by decide) ?_
      refine y_ireturn C rfl rfl dX13_reason_28 rfl rfl ?_
      exact ⟨by rw [reasF, if_neg c_4, if_neg c_14], rfl⟩
  · refine y_sipush (pc' := 10) rfl (v := (-10005)) C dX13_reason_7 (by decide) ?_
    refine y_goto (tgt := 28) C dX13_reason_10 (by decide) ?_
    refine y_ireturn C rfl rfl dX13_reason_28 rfl rfl ?_
    exact ⟨by rw [reasF, if_pos c_4], rfl⟩
-- KilnKeeperModel.account 
set_option maxHeartbeats 1000000 in
set_option maxRecDepth 20000 in
theorem c_X13_account (l : Launch) (G : GT) (a : Id3 → Nat) (Y : YT) (np : Nat) (w : Int32)  (hnp : np ≤ 8) (h15 : Y (4, 0, 0) 15 = nI np) : CtY l G a yX13_account cX13_account 2 (some .int) ({ frames := 1, cells := 0, slots := 0, locals := 23 } : Room) [.ref (a (4, 0, 8)), .int w] Y (PI (fun r Y' => r = accF Y np w ∧ Y' = Y)) := by
  refine CtY.of (by decide) rfl (Nat.le_of_ble_eq_true rfl) ?_
  intro X A C hl
  subst hl
  refine y_iload_n (pc' := 1) rfl C dX13_account_0 rfl ?_
  refine y_bipush (pc' := 3) rfl (v := 11) C dX13_account_1 (by decide) ?_
  refine y_bipush (pc' := 5) rfl (v := 14) C dX13_account_3 (by decide) ?_
  refine y_cSi (pc' := 8) (k' := 0) (n' := 0) rfl C (c_X13_in _ G a Y w 11 14) my_X13_in aw_1116 rfl rfl (Nat.le_of_ble_eq_true rfl) rfl dX13_account_5 rfl rfl (fun r_5 Y_5 hp_5 => ?_)
  obtain ⟨rfl, hY_5⟩ := hp_5
  have hY_5 := hY_5.symm; subst hY_5
  refine y_if_eq (pc' := 11) rfl (tgt := 20) C dX13_account_8 (by decide) (fun c_8 => ?_) (fun c_8 => ?_)
  · have h_8 := bi_0.mp c_8
    refine y_iload_n (pc' := 21) rfl C dX13_account_20 rfl ?_
    by_cases s_21_0 : w = 0
    · refine y_tabC (v := 0) (tgt := 108) C s_21_0 dX13_account_21 (by decide) (by decide) rfl (by decide) ?_
      refine y_aload_n (pc' := 109) rfl C dX13_account_108 rfl ?_
      refine y_get (pc' := 112) rfl (v := .ref (a (4, 0, 0))) C fl_X13_7 (v4 rfl) rfl rfl dX13_account_109 rfl ?_
      refine y_bipush (pc' := 114) rfl (v := 12) C dX13_account_112 (by decide) ?_
      refine y_ialdN (pc' := 115) rfl C 12 rfl (v4 rfl) rfl rfl (by decide) rfl dX13_account_114 ?_
      refine y_ireturn C rfl rfl dX13_account_115 rfl rfl ?_
      exact ⟨by rw [accF, if_neg h_8, if_pos s_21_0], rfl⟩
    by_cases s_21_1 : w = 1
    · refine y_tabC (v := 1) (tgt := 116) C s_21_1 dX13_account_21 (by decide) (by decide) rfl (by decide) ?_
      refine y_aload_n (pc' := 117) rfl C dX13_account_116 rfl ?_
      refine y_get (pc' := 120) rfl (v := .ref (a (4, 0, 0))) C fl_X13_7 (v4 rfl) rfl rfl dX13_account_117 rfl ?_
      refine y_iconst (pc' := 121) rfl (v := 0) C dX13_account_120 (by decide) ?_
      refine y_ialdN (pc' := 122) rfl C 0 rfl (v4 rfl) rfl rfl (by decide) rfl dX13_account_121 ?_
      refine y_ireturn C rfl rfl dX13_account_122 rfl rfl ?_
      exact ⟨by rw [accF, if_neg h_8, if_neg s_21_0, if_pos s_21_1], rfl⟩
    by_cases s_21_2 : w = 2
    · refine y_tabC (v := 2) (tgt := 123) C s_21_2 dX13_account_21 (by decide) (by decide) rfl (by decide) ?_
      refine y_aload_n (pc' := 124) rfl C dX13_account_123 rfl ?_
      refine y_get (pc' := 127) rfl (v := .ref (a (4, 0, 0))) C fl_X13_7 (v4 rfl) rfl rfl dX13_account_124 rfl ?_
      refine y_iconst (pc' := 128) rfl (v := 1) C dX13_account_127 (by decide) ?_
      refine y_ialdN (pc' := 129) rfl C 1 rfl (v4 rfl) rfl rfl (by decide) rfl dX13_account_128 ?_
      refine y_ireturn C rfl rfl dX13_account_129 rfl rfl ?_
      exact ⟨by rw [accF, if_neg h_8, if_neg s_21_0, if_neg s_21_1, if_pos s_21_2], rfl⟩
    by_cases s_21_3 : w = 3
    · refine y_tabC (v := 3) (tgt := 130) C s_21_3 dX13_account_21 (by decide) (by decide) rfl (by decide) ?_
      refine y_aload_n (pc' := 131) rfl C dX13_account_130 rfl ?_
      refine y_cVi (pc' := 134) (k' := 0) (n' := 0) rfl C (c_X13_error _ G a Y ) my_X13_error aw_1186 (v4 rfl) rfl rfl rfl rfl rfl (Nat.le_of_ble_eq_true rfl) rfl dX13_account_131 rfl rfl (fun r_131 Y_131 hp_131 => ?_)
      obtain ⟨rfl, hY_131⟩ := hp_131
      have hY_131 := hY_131.symm; subst hY_131
      refine y_ireturn C rfl rfl dX13_account_134 rfl rfl ?_
      exact ⟨by rw [accF, if_neg h_8, if_neg s_21_0, if_neg s_21_1, if_neg s_21_2, if_pos s_21_3], rfl⟩
    by_cases s_21_4 : w = 4
    · refine y_tabC (v := 4) (tgt := 135) C s_21_4 dX13_account_21 (by decide) (by decide) rfl (by decide) ?_
      refine y_aload_n (pc' := 136) rfl C dX13_account_135 rfl ?_
      refine y_get (pc' := 139) rfl (v := .ref (a (4, 0, 0))) C fl_X13_7 (v4 rfl) rfl rfl dX13_account_136 rfl ?_
      refine y_iconst (pc' := 140) rfl (v := 5) C dX13_account_139 (by decide) ?_
      refine y_ialdN (pc' := 141) rfl C 5 rfl (v4 rfl) rfl rfl (by decide) rfl dX13_account_140 ?_
      refine y_ireturn C rfl rfl dX13_account_141 rfl rfl ?_
      exact ⟨by rw [accF, if_neg h_8, if_neg s_21_0, if_neg s_21_1, if_neg s_21_2, if_neg s_21_3, if_pos s_21_4], rfl⟩
    by_cases s_21_5 : w = 5
    · refine y_tabC (v := 5) (tgt := 142) C s_21_5 dX13_account_21 (by decide) (by decide) rfl (by decide) ?_
      refine y_aload_n (pc' := 143) rfl C dX13_account_142 rfl ?_
      refine y_get (pc' := 146) rfl (v := .ref (a (4, 0, 0))) C fl_X13_7 (v4 rfl) rfl rfl dX13_account_143 rfl ?_
      refine y_bipush (pc' := 148) rfl (v := 7) C dX13_account_146 (by decide) ?_
      refine y_ialdN (pc' := 149) rfl C 7 rfl (v4 rfl) rfl rfl (by decide) rfl dX13_account_148 ?_
      refine y_ireturn C rfl rfl dX13_account_149 rfl rfl ?_
      exact ⟨by rw [accF, if_neg h_8, if_neg s_21_0, if_neg s_21_1, if_neg s_21_2, if_neg s_21_3, if_neg s_21_4, if_pos s_21_5], rfl⟩
    by_cases s_21_6 : w = 6
    · refine y_tabC (v := 6) (tgt := 150) C s_21_6 dX13_account_21 (by decide) (by decide) rfl (by decide) ?_
      refine y_aload_n (pc' := 151) rfl C dX13_account_150 rfl ?_
      refine y_get (pc' := 154) rfl (v := .ref (a (4, 0, 0))) C fl_X13_7 (v4 rfl) rfl rfl dX13_account_151 rfl ?_
      refine y_bipush (pc' := 156) rfl (v := 9) C dX13_account_154 (by decide) ?_
      refine y_ialdN (pc' := 157) rfl C 9 rfl (v4 rfl) rfl rfl (by decide) rfl dX13_account_156 ?_
      refine y_ireturn C rfl rfl dX13_account_157 rfl rfl ?_
      exact ⟨by rw [accF, if_neg h_8, if_neg s_21_0, if_neg s_21_1, if_neg s_21_2, if_neg s_21_3, if_neg s_21_4, if_neg s_21_5, if_pos s_21_6], rfl⟩
    by_cases s_21_7 : w = 7
    · refine y_tabC (v := 7) (tgt := 158) C s_21_7 dX13_account_21 (by decide) (by decide) rfl (by decide) ?_
      refine y_aload_n (pc' := 159) rfl C dX13_account_158 rfl ?_
      refine y_get (pc' := 162) rfl (v := .ref (a (4, 0, 0))) C fl_X13_7 (v4 rfl) rfl rfl dX13_account_159 rfl ?_
      refine y_bipush (pc' := 164) rfl (v := 10) C dX13_account_162 (by decide) ?_
      refine y_ialdN (pc' := 165) rfl C 10 rfl (v4 rfl) rfl rfl (by decide) rfl dX13_account_164 ?_
      refine y_ireturn C rfl rfl dX13_account_165 rfl rfl ?_
      exact ⟨by rw [accF, if_neg h_8, if_neg s_21_0, if_neg s_21_1, if_neg s_21_2, if_neg s_21_3, if_neg s_21_4, if_neg s_21_5, if_neg s_21_6, if_pos s_21_7], rfl⟩
    by_cases s_21_8 : w = 8
    · refine y_tabC (v := 8) (tgt := 166) C s_21_8 dX13_account_21 (by decide) (by decide) rfl (by decide) ?_
      refine y_aload_n (pc' := 167) rfl C dX13_account_166 rfl ?_
      refine y_get (pc' := 170) rfl (v := .ref (a (4, 0, 0))) C fl_X13_7 (v4 rfl) rfl rfl dX13_account_167 rfl ?_
      refine y_bipush (pc' := 172) rfl (v := 11) C dX13_account_170 (by decide) ?_
      refine y_ialdN (pc' := 173) rfl C 11 rfl (v4 rfl) rfl rfl (by decide) rfl dX13_account_172 ?_
      refine y_ireturn C rfl rfl dX13_account_173 rfl rfl ?_
      exact ⟨by rw [accF, if_neg h_8, if_neg s_21_0, if_neg s_21_1, if_neg s_21_2, if_neg s_21_3, if_neg s_21_4, if_neg s_21_5, if_neg s_21_6, if_neg s_21_7, if_pos s_21_8], rfl⟩
    by_cases s_21_9 : w = 9
    · refine y_tabC (v := 9) (tgt := 174) C s_21_9 dX13_account_21 (by decide) (by decide) rfl (by decide) ?_
      refine y_aload_n (pc' := 175) rfl C dX13_account_174 rfl ?_
      refine y_get (pc' := 178) rfl (v := .ref (a (4, 0, 0))) C fl_X13_7 (v4 rfl) rfl rfl dX13_account_175 rfl ?_
      refine y_bipush (pc' := 180) rfl (v := 13) C dX13_account_178 (by decide) ?_
      refine y_ialdN (pc' := 181) rfl C 13 rfl (v4 rfl) rfl rfl (by decide) rfl dX13_account_180 ?_
      refine y_ireturn C rfl rfl dX13_account_181 rfl rfl ?_
      exact ⟨by rw [accF, if_neg h_8, if_neg s_21_0, if_neg s_21_1, if_neg s_21_2, if_neg s_21_3, if_neg s_21_4, if_neg s_21_5, if_neg s_21_6, if_neg s_21_7, if_neg s_21_8, if_pos s_21_9], rfl⟩
    by_cases s_21_10 : w = 10
    · refine y_tabC (v := 10) (tgt := 182) C s_21_10 dX13_account_21 (by decide) (by decide) rfl (by decide) ?_
      refine y_aload_n (pc' := 183) rfl C dX13_account_182 rfl ?_
      refine y_get (pc' := 186) rfl (v := .ref (a (4, 0, 0))) C fl_X13_7 (v4 rfl) rfl rfl dX13_account_183 rfl ?_
      refine y_bipush (pc' := 188) rfl (v := 15) C dX13_account_186 (by decide) ?_
      refine y_ialdN (pc' := 189) rfl C 15 rfl (v4 rfl) rfl rfl (by decide) rfl dX13_account_188 ?_
      refine y_ireturn C rfl rfl dX13_account_189 rfl rfl ?_
      exact ⟨by rw [accF, if_neg h_8, if_neg s_21_0, if_neg s_21_1, if_neg s_21_2, if_neg s_21_3, if_neg s_21_4, if_neg s_21_5, if_neg s_21_6, if_neg s_21_7, if_neg s_21_8, if_neg s_21_9, if_pos s_21_10], rfl⟩
    by_cases s_21_15 : w = 15
    · refine y_tabC (v := 15) (tgt := 190) C s_21_15 dX13_account_21 (by decide) (by decide) rfl (by decide) ?_
      refine y_aload_n (pc' := 191) rfl C dX13_account_190 rfl ?_
      refine y_cVi (pc' := 194) (k' := 0) (n' := 0) rfl C (c_X13_within _ G a Y np hnp h15) my_X13_within aw_1226 (v4 rfl) rfl rfl rfl rfl rfl (Nat.le_of_ble_eq_true rfl) rfl dX13_account_191 rfl rfl (fun r_191 Y_191 hp_191 => ?_)
      obtain ⟨rfl, hY_191⟩ := hp_191
      have hY_191 := hY_191.symm; subst hY_191
      refine y_ireturn C rfl rfl dX13_account_194 rfl rfl ?_
      exact ⟨by rw [accF, if_neg h_8, if_neg s_21_0, if_neg s_21_1, if_neg s_21_2, if_neg s_21_3, if_neg s_21_4, if_neg s_21_5, if_neg s_21_6, if_neg s_21_7, if_neg s_21_8, if_neg s_21_9, if_neg s_21_10, if_pos s_21_15], rfl⟩
    by_cases s_21_16 : w = 16
    · refine y_tabC (v := 16) (tgt := 195) C s_21_16 dX13_account_21 (by decide) (by decide) rfl (by decide) ?_
      refine y_aload_n (pc' := 196) rfl C dX13_account_195 rfl ?_
      refine y_get (pc' := 199) rfl C fl_X13_146 (v4 rfl) rfl rfl dX13_account_196 rfl ?_
      refine y_ireturn C rfl rfl dX13_account_199 rfl rfl ?_
      exact ⟨by rw [accF, if_neg h_8, if_neg s_21_0, if_neg s_21_1, if_neg s_21_2, if_neg s_21_3, if_neg s_21_4, if_neg s_21_5, if_neg s_21_6, if_neg s_21_7, if_neg s_21_8, if_neg s_21_9, if_neg s_21_10, if_neg s_21_15, if_pos s_21_16], rfl⟩
    by_cases s_21_17 : w = 17
    · refine y_tabC (v := 17) (tgt := 200) C s_21_17 dX13_account_21 (by decide) (by decide) rfl (by decide) ?_
      refine y_aload_n (pc' := 201) rfl C dX13_account_200 rfl ?_
      refine y_get (pc' := 204) rfl C fl_X13_34 (v4 rfl) rfl rfl dX13_account_201 rfl ?_
      refine y_ireturn C rfl rfl dX13_account_204 rfl rfl ?_
      exact ⟨by rw [accF, if_neg h_8, if_neg s_21_0, if_neg s_21_1, if_neg s_21_2, if_neg s_21_3, if_neg s_21_4, if_neg s_21_5, if_neg s_21_6, if_neg s_21_7, if_neg s_21_8, if_neg s_21_9, if_neg s_21_10, if_neg s_21_15, if_neg s_21_16, if_pos s_21_17], rfl⟩
    refine y_tabD (tgt := 205) C [0, 1, 2, 3, 4, 5, 6, 7, 8, 9, 10, 15, 16, 17] dX13_account_21 (List.forall_mem_cons.mpr ⟨tne s_21_0 rfl, (List.forall_mem_cons.mpr ⟨tne s_21_1 rfl, (List.forall_mem_cons.mpr ⟨tne s_21_2 rfl, (List.forall_mem_cons.mpr ⟨tne s_21_3 rfl, (List.forall_mem_cons.mpr ⟨tne s_21_4 rfl, (List.forall_mem_cons.mpr ⟨tne s_21_5 rfl, (List.forall_mem_cons.mpr ⟨tne s_21_6 rfl, (List.forall_mem_cons.mpr ⟨tne s_21_7 rfl, (List.forall_mem_cons.mpr ⟨tne s_21_8 rfl, (List.forall_mem_cons.mpr ⟨tne s_21_9 rfl, (List.forall_mem_cons.mpr ⟨tne s_21_10 rfl, (List.forall_mem_cons.mpr ⟨tne s_21_15 rfl, (List.forall_mem_cons.mpr ⟨tne s_21_16 rfl, (List.forall_mem_cons.mpr ⟨tne s_21_17 rfl, (fun _ h => absurd h List.not_mem_nil)⟩)⟩)⟩)⟩)⟩)⟩)⟩)⟩)⟩)⟩)⟩)⟩)⟩)⟩) rfl (by decide) ?_
    refine y_sipush (pc' := 208) rfl (v := (-10002)) C dX13_account_205 (by decide) ?_
    refine y_ireturn C rfl rfl dX13_account_208 rfl rfl ?_
    exact ⟨by rw [accF, if_neg h_8, if_neg s_21_0, if_neg s_21_1, if_neg s_21_2, if_neg s_21_3, if_neg s_21_4, if_neg s_21_5, if_neg s_21_6, if_neg s_21_7, if_neg s_21_8, if_neg s_21_9, if_neg s_21_10, if_neg s_21_15, if_neg s_21_16, if_neg s_21_17], rfl⟩
  · have h_8 := bi_n0 c_8
    refine y_aload_n (pc' := 12) rfl C dX13_account_11 rfl ?_
    refine y_iload_n (pc' := 13) rfl C dX13_account_12 rfl ?_
    refine y_bipush (pc' := 15) rfl (v := 11) C dX13_account_13 (by decide) ?_
    refine y_isub (pc' := 16) rfl C dX13_account_15 ?_
    refine y_cVi (pc' := 19) (k' := 0) (n' := 0) rfl C (c_X13_manyThat _ G a Y np (w - 11) hnp h15) my_X13_manyThat aw_1382 (v4 rfl) rfl rfl rfl rfl rfl (Nat.le_of_ble_eq_true rfl) rfl dX13_account_16 rfl rfl (fun r_16 Y_16 hp_16 => ?_)
    obtain ⟨rfl, hY_16⟩ := hp_16
    have hY_16 := hY_16.symm; subst hY_16
    refine y_ireturn C rfl rfl dX13_account_19 rfl rfl ?_
    exact ⟨by rw [accF, if_pos h_8], rfl⟩
-- KilnKeeperModel.isBalanced 
set_option maxHeartbeats 1000000 in
set_option maxRecDepth 20000 in
theorem c_X13_isBalanced (l : Launch) (G : GT) (a : Id3 → Nat) (Y : YT) (np : Nat)  (hnp : np ≤ 8) (h15 : Y (4, 0, 0) 15 = nI np) : CtY l G a yX13_isBalanced cX13_isBalanced 4 (some .int) ({ frames := 1, cells := 0, slots := 0, locals := 22 } : Room) [.ref (a (4, 0, 8))] Y (PI (fun r Y' => r = balF (Y (4, 0, 0)) np ∧ Y' = Y)) := by
  refine CtY.of (by decide) rfl (Nat.le_of_ble_eq_true rfl) ?_
  intro X A C hl
  subst hl
  refine y_iconst (pc' := 1) rfl (v := 0) C dX13_isBalanced_0 (by decide) ?_
  refine y_istore_n (pc' := 2) rfl C dX13_isBalanced_1 (by decide) ?_
  refine y_iconst (pc' := 3) rfl (v := 0) C dX13_isBalanced_2 (by decide) ?_
  refine y_istore_n (pc' := 4) rfl C dX13_isBalanced_3 (by decide) ?_
  suffices K4 : ∀ (fu_ i4 : Nat) (Yl4 : YT), i4 ≤ 101 → 101 < fu_ + i4 → Yl4 = Y → WY X G A a Yl4 0 0 _ 4 [some (.ref (a (4, 0, 8))), some (.int ((bsN (Y (4, 0, 0)) i4))), some (.int ((nI i4))), none] [] from K4 (101 + 1) 0 _ (by omega) (by omega) (rfl)
  intro fu_
  induction fu_ with
  | zero => intro i4 Yl4 h1 h2; omega
  | succ fu_ ih4 =>
    intro i4 Yl4 hi4 hm4 hYl4
    refine y_iload_n (pc' := 5) rfl C dX13_isBalanced_4 rfl ?_
    refine y_bipush (pc' := 7) rfl (v := 100) C dX13_isBalanced_5 (by decide) ?_
    refine y_ic_gt (pc' := 10) rfl (tgt := 28) C dX13_isBalanced_7 (by decide) (fun c_7 => ?_) (fun c_7 => ?_)
    · have hb4 : 101 ≤ i4 := nI_lt_iff (by omega) (by omega) c_7
      have e4 : i4 = 101 := by omega
      have hYl4 := hYl4.symm
      subst hYl4
      refine y_aload_n (pc' := 29) rfl C dX13_isBalanced_28 rfl ?_
      refine y_get (pc' := 32) rfl (v := .ref (a (4, 0, 0))) C fl_X13_7 (v4 rfl) rfl rfl dX13_isBalanced_29 rfl ?_
      refine y_bipush (pc' := 34) rfl (v := 11) C dX13_isBalanced_32 (by decide) ?_
      refine y_ialdN (pc' := 35) rfl C 11 rfl (v4 rfl) rfl rfl (by decide) rfl dX13_isBalanced_34 ?_
      refine y_aload_n (pc' := 36) rfl C dX13_isBalanced_35 rfl ?_
      refine y_get (pc' := 39) rfl (v := .ref (a (4, 0, 0))) C fl_X13_7 (v4 rfl) rfl rfl dX13_isBalanced_36 rfl ?_
      refine y_bipush (pc' := 41) rfl (v := 10) C dX13_isBalanced_39 (by decide) ?_
      refine y_ialdN (pc' := 42) rfl C 10 rfl (v4 rfl) rfl rfl (by decide) rfl dX13_isBalanced_41 ?_
      refine y_aload_n (pc' := 43) rfl C dX13_isBalanced_42 rfl ?_
      refine y_get (pc' := 46) rfl (v := .ref (a (4, 0, 0))) C fl_X13_7 (v4 rfl) rfl rfl dX13_isBalanced_43 rfl ?_
      refine y_bipush (pc' := 48) rfl (v := 16) C dX13_isBalanced_46 (by decide) ?_
      refine y_ialdN (pc' := 49) rfl C 16 rfl (v4 rfl) rfl rfl (by decide) rfl dX13_isBalanced_48 ?_
      refine y_iadd (pc' := 50) rfl C dX13_isBalanced_49 ?_
      have K50 : ∀ (w_50 : Int32) (_ : w_50 = (if (Y (4, 0, 0) 11) = ((Y (4, 0, 0) 10) + (Y (4, 0, 0) 16)) then (if (Y (4, 0, 0) 16) = (baN (Y (4, 0, 0)) 101) then (if (bsN (Y (4, 0, 0)) i4) = (Y (4, 0, 0) 12) then 1 else 0) else 0) else 0)), WY X G A a Y 0 0 (MEnd X G A ({ frames := 1, cells := 0, slots := 0, locals := 22 } : Room) (PY G a (PI (fun r Y' => r = balF (Y (4, 0, 0)) np ∧ Y' = Y)))) 83 [some (.ref (a (4, 0, 8))), some (.int ((bsN (Y (4, 0, 0)) i4))), some (.int ((nI i4))), none] [.int w_50] := by
        intro w_50 ew_50
        refine y_istore_n (pc' := 84) rfl C dX13_isBalanced_83 (by decide) ?_
        refine y_iconst (pc' := 85) rfl (v := 0) C dX13_isBalanced_84 (by decide) ?_
        refine y_istore_n (pc' := 86) rfl C dX13_isBalanced_85 (by decide) ?_
        refine y_conv (L' := [some (.ref (a (4, 0, 8))), some (.int ((bsN (Y (4, 0, 0)) i4))), some (.int ((balN (Y (4, 0, 0)) 0))), some (.int ((nI 0)))]) (by rw [balN, balW, ew_50, e4]; rfl) rfl ?_
        suffices K86 : ∀ (fu_ i86 : Nat) (Yl86 : YT), i86 ≤ np → np < fu_ + i86 → Yl86 = Y → WY X G A a Yl86 0 0 _ 86 [some (.ref (a (4, 0, 8))), some (.int ((bsN (Y (4, 0, 0)) i4))), some (.int ((balN (Y (4, 0, 0)) i86))), some (.int ((nI i86)))] [] from K86 (np + 1) 0 _ (by omega) (by omega) (rfl)
        intro fu_
        induction fu_ with
        | zero => intro i86 Yl86 h1 h2; omega
        | succ fu_ ih86 =>
          intro i86 Yl86 hi86 hm86 hYl86
          refine y_iload_n (pc' := 87) rfl C dX13_isBalanced_86 rfl ?_
          refine y_aload_n (pc' := 88) rfl C dX13_isBalanced_87 rfl ?_
          refine y_get (pc' := 91) rfl (v := .ref (a (4, 0, 0))) C fl_X13_7 (v4 rfl) rfl rfl dX13_isBalanced_88 rfl ?_
          refine y_bipush (pc' := 93) rfl (v := 15) C dX13_isBalanced_91 (by decide) ?_
          refine y_ialdN (pc' := 94) rfl C 15 rfl (v4 rfl) rfl rfl (by decide) rfl dX13_isBalanced_93 ?_
          refine y_ic_ge (pc' := 97) rfl (tgt := 121) C dX13_isBalanced_94 (by decide) (fun c_94 => ?_) (fun c_94 => ?_)
          · rw [hYl86, h15] at c_94
            have hb86 : np ≤ i86 := nI_le_iff (by omega) (by omega) c_94
            refine y_iload_n (pc' := 122) rfl C dX13_isBalanced_121 rfl ?_
            refine y_if_eq (pc' := 125) rfl (tgt := 129) C dX13_isBalanced_122 (by decide) (fun c_122 => ?_) (fun c_122 => ?_)
            · refine y_iconst (pc' := 130) rfl (v := 0) C dX13_isBalanced_129 (by decide) ?_
              refine y_ireturn C rfl rfl dX13_isBalanced_130 rfl rfl ?_
              rw [show i86 = np by omega] at c_122
              exact ⟨by rw [balF, if_pos c_122], hYl86⟩
            · refine y_iconst (pc' := 126) rfl (v := 1) C dX13_isBalanced_125 (by decide) ?_
              refine y_goto (tgt := 130) C dX13_isBalanced_126 (by decide) ?_
              refine y_ireturn C rfl rfl dX13_isBalanced_130 rfl rfl ?_
              rw [show i86 = np by omega] at c_122
              exact ⟨by rw [balF, if_neg c_122], hYl86⟩
          · rw [hYl86, h15] at c_94
            have hb86 : i86 < np := nI_nle_iff (by omega) (by omega) c_94
            refine y_iload_n (pc' := 98) rfl C dX13_isBalanced_97 rfl ?_
            have K98 : ∀ (w_98 : Int32) (_ : w_98 = (if (balN (Y (4, 0, 0)) i86) = 0 then 0 else (if (lf (Yl86 (4, 0, 0)) i86) < 0 then 0 else 1))), WY X G A a Yl86 0 0 (MEnd X G A ({ frames := 1, cells := 0, slots := 0, locals := 22 } : Room) (PY G a (PI (fun r Y' => r = balF (Y (4, 0, 0)) np ∧ Y' = Y)))) 114 [some (.ref (a (4, 0, 8))), some (.int ((bsN (Y (4, 0, 0)) i4))), some (.int ((balN (Y (4, 0, 0)) i86))), some (.int ((nI i86)))] [.int w_98] := by
              intro w_98 ew_98
              refine y_istore_n (pc' := 115) rfl C dX13_isBalanced_114 (by decide) ?_
              refine y_iinc (pc' := 118) rfl (v := (nI (i86 + 1))) C dX13_isBalanced_115 rfl (nI_1 i86) (by decide) ?_
              refine y_goto (tgt := 86) C dX13_isBalanced_118 (by decide) ?_
              refine y_conv (L' := [some (.ref (a (4, 0, 8))), some (.int ((bsN (Y (4, 0, 0)) i4))), some (.int ((balN (Y (4, 0, 0)) (i86 + 1)))), some (.int ((nI (i86 + 1))))]) (by rw [balN, ew_98, hYl86]; rfl) rfl ?_
              exact ih86 (i86 + 1) _ (by omega) (by omega) (hYl86)
            refine y_if_eq (pc' := 101) rfl (tgt := 113) C dX13_isBalanced_98 (by decide) (fun c_98 => ?_) (fun c_98 => ?_)
            · refine y_iconst (pc' := 114) rfl (v := 0) C dX13_isBalanced_113 (by decide) ?_
              exact K98 _ (by rw [if_pos c_98])
            · refine y_aload_n (pc' := 102) rfl C dX13_isBalanced_101 rfl ?_
              refine y_iload_n (pc' := 103) rfl C dX13_isBalanced_102 rfl ?_
              refine y_cVi (pc' := 106) (k' := 0) (n' := 0) rfl C (c_X13_left _ G a Yl86 (nI i86) i86 rfl (by omega)) my_X13_left aw_1266 (v4 rfl) rfl rfl rfl rfl rfl (Nat.le_of_ble_eq_true rfl) rfl dX13_isBalanced_103 rfl rfl (fun r_103 Y_103 hp_103 => ?_)
              obtain ⟨rfl, hY_103⟩ := hp_103
              have hY_103 := hY_103.symm; subst hY_103
              refine y_if_lt (pc' := 109) rfl (tgt := 113) C dX13_isBalanced_106 (by decide) (fun c_106 => ?_) (fun c_106 => ?_)
              · refine y_iconst (pc' := 114) rfl (v := 0) C dX13_isBalanced_113 (by decide) ?_
                exact K98 _ (by rw [if_neg c_98, if_pos c_106])
              · refine y_iconst (pc' := 110) rfl (v := 1) C dX13_isBalanced_109 (by decide) ?_
                refine y_goto (tgt := 114) C dX13_isBalanced_110 (by decide) ?_
                exact K98 _ (by rw [if_neg c_98, if_neg c_106])
      refine y_ic_ne (pc' := 53) rfl (tgt := 82) C dX13_isBalanced_50 (by decide) (fun c_50 => ?_) (fun c_50 => ?_)
      · refine y_iconst (pc' := 83) rfl (v := 0) C dX13_isBalanced_82 (by decide) ?_
        exact K50 _ (by rw [if_neg c_50])
      · refine y_aload_n (pc' := 54) rfl C dX13_isBalanced_53 rfl ?_
        refine y_get (pc' := 57) rfl (v := .ref (a (4, 0, 0))) C fl_X13_7 (v4 rfl) rfl rfl dX13_isBalanced_54 rfl ?_
        refine y_bipush (pc' := 59) rfl (v := 16) C dX13_isBalanced_57 (by decide) ?_
        refine y_ialdN (pc' := 60) rfl C 16 rfl (v4 rfl) rfl rfl (by decide) rfl dX13_isBalanced_59 ?_
        refine y_aload_n (pc' := 61) rfl C dX13_isBalanced_60 rfl ?_
        refine y_cVi (pc' := 64) (k' := 0) (n' := 0) rfl C (c_X13_burntAgain _ G a Y ) my_X13_burntAgain aw_1390 (v4 rfl) rfl rfl rfl rfl rfl (Nat.le_of_ble_eq_true rfl) rfl dX13_isBalanced_61 rfl rfl (fun r_61 Y_61 hp_61 => ?_)
        obtain ⟨rfl, hY_61⟩ := hp_61
        have hY_61 := hY_61.symm; subst hY_61
        refine y_ic_ne (pc' := 67) rfl (tgt := 82) C dX13_isBalanced_64 (by decide) (fun c_64 => ?_) (fun c_64 => ?_)
        · refine y_iconst (pc' := 83) rfl (v := 0) C dX13_isBalanced_82 (by decide) ?_
          exact K50 _ (by rw [if_pos c_50, if_neg c_64])
        · refine y_iload_n (pc' := 68) rfl C dX13_isBalanced_67 rfl ?_
          refine y_aload_n (pc' := 69) rfl C dX13_isBalanced_68 rfl ?_
          refine y_get (pc' := 72) rfl (v := .ref (a (4, 0, 0))) C fl_X13_7 (v4 rfl) rfl rfl dX13_isBalanced_69 rfl ?_
          refine y_bipush (pc' := 74) rfl (v := 12) C dX13_isBalanced_72 (by decide) ?_
          refine y_ialdN (pc' := 75) rfl C 12 rfl (v4 rfl) rfl rfl (by decide) rfl dX13_isBalanced_74 ?_
          refine y_ic_ne (pc' := 78) rfl (tgt := 82) C dX13_isBalanced_75 (by decide) (fun c_75 => ?_) (fun c_75 => ?_)
          · refine y_iconst (pc' := 83) rfl (v := 0) C dX13_isBalanced_82 (by decide) ?_
            exact K50 _ (by rw [if_pos c_50, if_pos c_64, if_neg c_75])
          · refine y_iconst (pc' := 79) rfl (v := 1) C dX13_isBalanced_78 (by decide) ?_
            refine y_goto (tgt := 83) C dX13_isBalanced_79 (by decide) ?_
            exact K50 _ (by rw [if_pos c_50, if_pos c_64, if_pos c_75])
    · have hb4 : i4 < 101 := nI_nlt_iff (by omega) (by omega) c_7
      refine y_iload_n (pc' := 11) rfl C dX13_isBalanced_10 rfl ?_
      refine y_aload_n (pc' := 12) rfl C dX13_isBalanced_11 rfl ?_
      refine y_get (pc' := 15) rfl (v := .ref (a (4, 0, 0))) C fl_X13_7 (v4 rfl) rfl rfl dX13_isBalanced_12 rfl ?_
      refine y_bipush (pc' := 17) rfl (v := 22) C dX13_isBalanced_15 (by decide) ?_
      refine y_iload_n (pc' := 18) rfl C dX13_isBalanced_17 rfl ?_
      refine y_iadd (pc' := 19) rfl C dX13_isBalanced_18 ?_
      refine y_ialdN (pc' := 20) rfl C (22 + i4) (nadd (rfl : (22 : Int32) = nI 22) rfl) (v4 rfl) rfl rfl (show (22 + i4) < 227 by omega) rfl dX13_isBalanced_19 ?_
      refine y_iadd (pc' := 21) rfl C dX13_isBalanced_20 ?_
      refine y_istore_n (pc' := 22) rfl C dX13_isBalanced_21 (by decide) ?_
      refine y_iinc (pc' := 25) rfl (v := (nI (i4 + 1))) C dX13_isBalanced_22 rfl (nI_1 i4) (by decide) ?_
      refine y_goto (tgt := 4) C dX13_isBalanced_25 (by decide) ?_
      refine y_conv (L' := [some (.ref (a (4, 0, 8))), some (.int ((bsN (Y (4, 0, 0)) (i4 + 1)))), some (.int ((nI (i4 + 1)))), none]) (by rw [bsN, hYl4]; rfl) rfl ?_
      exact ih4 (i4 + 1) _ (by omega) (by omega) (hYl4)
-- KilnKeeperModel.undo 
set_option maxHeartbeats 1000000 in
set_option maxRecDepth 20000 in
theorem c_X13_undo (l : Launch) (G : GT) (a : Id3 → Nat) (Y : YT) (kp : Nat)  (hk : Y (4, 0, 8) 5 = nI kp) (hkp : kp ≤ 8) : CtY l G a yX13_undo cX13_undo 2 (some .int) ({ frames := 0, cells := 0, slots := 0, locals := 0 } : Room) [.ref (a (4, 0, 8))] Y (PI (fun r Y' => r = undoR Y ∧ Y' = undoY Y)) := by
  refine CtY.of (by decide) rfl (Nat.le_of_ble_eq_true rfl) ?_
  intro X A C hl
  subst hl
  refine y_aload_n (pc' := 1) rfl C dX13_undo_0 rfl ?_
  refine y_get (pc' := 4) rfl C fl_X13_34 (v4 rfl) rfl rfl dX13_undo_1 rfl ?_
  refine y_if_ne (pc' := 7) rfl (tgt := 11) C dX13_undo_4 (by decide) (fun c_4 => ?_) (fun c_4 => ?_)
  · have hk0 : 0 < kp := Nat.pos_of_ne_zero (fun q => c_4 (by rw [hk, q]; rfl))
    refine y_aload_n (pc' := 12) rfl C dX13_undo_11 rfl ?_
    refine y_dup (pc' := 13) rfl C dX13_undo_12 rfl ?_
    refine y_get (pc' := 16) rfl C fl_X13_34 (v4 rfl) rfl rfl dX13_undo_13 rfl ?_
    refine y_iconst (pc' := 17) rfl (v := 1) C dX13_undo_16 (by decide) ?_
    refine y_isub (pc' := 18) rfl C dX13_undo_17 ?_
    refine y_put (pc' := 21) rfl C fp_X13_34 (v4 rfl) rfl rfl dX13_undo_18 rfl (fun Z18 hZ18 => ?_)
    have ek0 : Z18 (4, 0, 8) 5 = nI (kp - 1) := by rw [hZ18, up_s, upd_s, hk]; exact pk_sub (b := 1) hk0
    have e0 : Z18 (4, 0, 0) = Y (4, 0, 0) := by rw [hZ18, up_n (by decide)]
    have e4 : Z18 (4, 0, 4) = Y (4, 0, 4) := by rw [hZ18, up_n (by decide)]
    refine y_iconst (pc' := 22) rfl (v := 0) C dX13_undo_21 (by decide) ?_
    refine y_istore_n (pc' := 23) rfl C dX13_undo_22 (by decide) ?_
    suffices K23 : ∀ (fu_ i23 : Nat) (Yl23 : YT), i23 ≤ 227 → 227 < fu_ + i23 → Yl23 = setA Z18 (4, 0, 0) (fil (hisF (Y (4, 0, 4)) (kp - 1)) (Y (4, 0, 0)) i23) → WY X G A a Yl23 0 0 _ 23 [some (.ref (a (4, 0, 8))), some (.int ((nI i23)))] [] from K23 (227 + 1) 0 _ (by omega) (by omega) (by rw [fil_0, ← e0, setA_self])
    intro fu_
    induction fu_ with
    | zero => intro i23 Yl23 h1 h2; omega
    | succ fu_ ih23 =>
      intro i23 Yl23 hi23 hm23 hYl23
      have ek : Yl23 (4, 0, 8) 5 = nI (kp - 1) := by rw [hYl23, setA_n (by decide)]; exact ek0
      refine y_iload_n (pc' := 24) rfl C dX13_undo_23 rfl ?_
      refine y_sipush (pc' := 27) rfl (v := 227) C dX13_undo_24 (by decide) ?_
      refine y_ic_ge (pc' := 30) rfl (tgt := 57) C dX13_undo_27 (by decide) (fun c_27 => ?_) (fun c_27 => ?_)
      · have hb23 : 227 ≤ i23 := nI_le_iff (by omega) (by omega) c_27
        obtain rfl : i23 = 227 := by omega
        refine y_arr (4, 0, 0) (hisF (Y (4, 0, 4)) (kp - 1)) (v4 rfl) rfl rfl (fun f hf => by rw [hYl23, setA_s, fil_in (show f < 227 from hf)]) ?_
        obtain ⟨Yc, hYc⟩ : ∃ Yq, Yq = setA Z18 (4, 0, 0) (hisF (Y (4, 0, 4)) (kp - 1)) := ⟨_, rfl⟩
        rw [show setA Yl23 (4, 0, 0) (hisF (Y (4, 0, 4)) (kp - 1)) = Yc by rw [hYl23, setA_setA, hYc]]
        refine y_aload_n (pc' := 58) rfl C dX13_undo_57 rfl ?_
        refine y_get (pc' := 61) rfl C fl_X13_34 (v4 rfl) rfl rfl dX13_undo_58 rfl ?_
        refine y_ireturn C rfl rfl dX13_undo_61 rfl rfl ?_
        refine ⟨?_, ?_⟩
        · rw [undoR, if_neg c_4, hYc, setA_n (by decide), hZ18, up_s, upd_s]
        · rw [undoY, if_neg c_4, hYc, hZ18, hk, nn_nI (by omega)]
      · have hb23 : i23 < 227 := nI_nle_iff (by omega) (by omega) c_27
        refine y_aload_n (pc' := 31) rfl C dX13_undo_30 rfl ?_
        refine y_get (pc' := 34) rfl (v := .ref (a (4, 0, 0))) C fl_X13_7 (v4 rfl) rfl rfl dX13_undo_31 rfl ?_
        refine y_iload_n (pc' := 35) rfl C dX13_undo_34 rfl ?_
        refine y_aload_n (pc' := 36) rfl C dX13_undo_35 rfl ?_
        refine y_get (pc' := 39) rfl (v := .ref (a (4, 0, 4))) C fl_X13_22 (v4 rfl) rfl rfl dX13_undo_36 rfl ?_
        refine y_sipush (pc' := 42) rfl (v := 227) C dX13_undo_39 (by decide) ?_
        refine y_aload_n (pc' := 43) rfl C dX13_undo_42 rfl ?_
        refine y_get (pc' := 46) rfl C fl_X13_34 (v4 rfl) rfl rfl dX13_undo_43 rfl ?_
        refine y_imul (pc' := 47) rfl C dX13_undo_46 ?_
        refine y_iload_n (pc' := 48) rfl C dX13_undo_47 rfl ?_
        refine y_iadd (pc' := 49) rfl C dX13_undo_48 ?_
        refine y_ialdN (pc' := 50) rfl C ((227 * (kp - 1)) + i23) (nadd (nmul (rfl : (227 : Int32) = nI 227) ek) rfl) (v4 rfl) rfl rfl (show ((227 * (kp - 1)) + i23) < 1816 by omega) rfl dX13_undo_49 ?_
        refine y_iastN (pc' := 51) rfl C i23 rfl (v4 rfl) rfl rfl (show i23 < 227 by omega) rfl dX13_undo_50 (fun Z50 hZ50 => ?_)
        refine y_iinc (pc' := 54) rfl (v := (nI (i23 + 1))) C dX13_undo_51 rfl (nI_1 i23) (by decide) ?_
        refine y_goto (tgt := 23) C dX13_undo_54 (by decide) ?_
        exact ih23 (i23 + 1) _ (by omega) (by omega) (by rw [hZ50, up_setA, hYl23, setA_setA, setA_s, setA_n (show ((4, 0, 4) : Id3) ≠ (4, 0, 0) by decide), e4, ← fil_s]; rfl)
  · refine y_sipush (pc' := 10) rfl (v := (-10005)) C dX13_undo_7 (by decide) ?_
    refine y_ireturn C rfl rfl dX13_undo_10 rfl rfl ?_
    exact ⟨by rw [undoR, if_pos c_4], by rw [undoY, if_pos c_4]⟩
-- KilnKeeperModel.save 
set_option maxHeartbeats 1000000 in
set_option maxRecDepth 20000 in
theorem c_X13_save (l : Launch) (G : GT) (a : Id3 → Nat) (Y : YT)    : CtY l G a yX13_save cX13_save 2 (some .int) ({ frames := 0, cells := 0, slots := 0, locals := 0 } : Room) [.ref (a (4, 0, 8))] Y (PI (fun r Y' => r = Y (4, 0, 0) 12 ∧ Y' = saveY Y)) := by
  refine CtY.of (by decide) rfl (Nat.le_of_ble_eq_true rfl) ?_
  intro X A C hl
  subst hl
  refine y_iconst (pc' := 1) rfl (v := 0) C dX13_save_0 (by decide) ?_
  refine y_istore_n (pc' := 2) rfl C dX13_save_1 (by decide) ?_
  suffices K2 : ∀ (fu_ i2 : Nat) (Yl2 : YT), i2 ≤ 227 → 227 < fu_ + i2 → Yl2 = setA Y (4, 0, 2) (fil (Y (4, 0, 0)) (Y (4, 0, 2)) i2) → WY X G A a Yl2 0 0 _ 2 [some (.ref (a (4, 0, 8))), some (.int ((nI i2)))] [] from K2 (227 + 1) 0 _ (by omega) (by omega) (by rw [fil_0, setA_self])
  intro fu_
  induction fu_ with
  | zero => intro i2 Yl2 h1 h2; omega
  | succ fu_ ih2 =>
    intro i2 Yl2 hi2 hm2 hYl2
    refine y_iload_n (pc' := 3) rfl C dX13_save_2 rfl ?_
    refine y_sipush (pc' := 6) rfl (v := 227) C dX13_save_3 (by decide) ?_
    refine y_ic_ge (pc' := 9) rfl (tgt := 27) C dX13_save_6 (by decide) (fun c_6 => ?_) (fun c_6 => ?_)
    · have hb2 : 227 ≤ i2 := nI_le_iff (by omega) (by omega) c_6
      obtain rfl : i2 = 227 := by omega
      refine y_arr (4, 0, 2) (Y (4, 0, 0)) (v4 rfl) rfl rfl (fun f hf => by rw [hYl2, setA_s, fil_in (show f < 227 from hf)]) ?_
      obtain ⟨Yc, hYc⟩ : ∃ Yq, Yq = setA Y (4, 0, 2) (Y (4, 0, 0)) := ⟨_, rfl⟩
      rw [show setA Yl2 (4, 0, 2) (Y (4, 0, 0)) = Yc by rw [hYl2, setA_setA, hYc]]
      refine y_aload_n (pc' := 28) rfl C dX13_save_27 rfl ?_
      refine y_iconst (pc' := 29) rfl (v := 1) C dX13_save_28 (by decide) ?_
      refine y_putB (pc' := 32) rfl C fp_X13_231 (v4 rfl) rfl rfl (by first | exact Or.inl rfl | exact Or.inr rfl | assumption) dX13_save_29 rfl (fun Z29 hZ29 => ?_)
      refine y_aload_n (pc' := 33) rfl C dX13_save_32 rfl ?_
      refine y_get (pc' := 36) rfl (v := .ref (a (4, 0, 0))) C fl_X13_7 (v4 rfl) rfl rfl dX13_save_33 rfl ?_
      refine y_bipush (pc' := 38) rfl (v := 12) C dX13_save_36 (by decide) ?_
      refine y_ialdN (pc' := 39) rfl C 12 rfl (v4 rfl) rfl rfl (by decide) rfl dX13_save_38 ?_
      refine y_ireturn C rfl rfl dX13_save_39 rfl rfl ?_
      refine ⟨?_, ?_⟩
      · rw [hZ29, up_n (by decide), hYc, setA_n (by decide)]
      · rw [hZ29, hYc, saveY]
    · have hb2 : i2 < 227 := nI_nle_iff (by omega) (by omega) c_6
      refine y_aload_n (pc' := 10) rfl C dX13_save_9 rfl ?_
      refine y_get (pc' := 13) rfl (v := .ref (a (4, 0, 2))) C fl_X13_16 (v4 rfl) rfl rfl dX13_save_10 rfl ?_
      refine y_iload_n (pc' := 14) rfl C dX13_save_13 rfl ?_
      refine y_aload_n (pc' := 15) rfl C dX13_save_14 rfl ?_
      refine y_get (pc' := 18) rfl (v := .ref (a (4, 0, 0))) C fl_X13_7 (v4 rfl) rfl rfl dX13_save_15 rfl ?_
      refine y_iload_n (pc' := 19) rfl C dX13_save_18 rfl ?_
      refine y_ialdN (pc' := 20) rfl C i2 rfl (v4 rfl) rfl rfl (show i2 < 227 by omega) rfl dX13_save_19 ?_
      refine y_iastN (pc' := 21) rfl C i2 rfl (v4 rfl) rfl rfl (show i2 < 227 by omega) rfl dX13_save_20 (fun Z20 hZ20 => ?_)
      refine y_iinc (pc' := 24) rfl (v := (nI (i2 + 1))) C dX13_save_21 rfl (nI_1 i2) (by decide) ?_
      refine y_goto (tgt := 2) C dX13_save_24 (by decide) ?_
      exact ih2 (i2 + 1) _ (by omega) (by omega) (by rw [hZ20, up_setA, hYl2, setA_setA, setA_s, setA_n (by decide), fil_s])
-- KilnKeeperModel.restore 
set_option maxHeartbeats 1000000 in
set_option maxRecDepth 20000 in
theorem c_X13_restore (l : Launch) (G : GT) (a : Id3 → Nat) (Y : YT)    : CtY l G a yX13_restore cX13_restore 2 (some .int) ({ frames := 0, cells := 0, slots := 0, locals := 0 } : Room) [.ref (a (4, 0, 8))] Y (PI (fun r Y' => r = restR Y ∧ Y' = restY Y)) := by
  refine CtY.of (by decide) rfl (Nat.le_of_ble_eq_true rfl) ?_
  intro X A C hl
  subst hl
  refine y_aload_n (pc' := 1) rfl C dX13_restore_0 rfl ?_
  refine y_getB (pc' := 4) rfl C fl_X13_231 (v4 rfl) rfl rfl dX13_restore_1 rfl (fun hb_1 => ?_)
  refine y_if_ne (pc' := 7) rfl (tgt := 11) C dX13_restore_4 (by decide) (fun c_4 => ?_) (fun c_4 => ?_)
  · refine y_iconst (pc' := 12) rfl (v := 0) C dX13_restore_11 (by decide) ?_
    refine y_istore_n (pc' := 13) rfl C dX13_restore_12 (by decide) ?_
    suffices K13 : ∀ (fu_ i13 : Nat) (Yl13 : YT), i13 ≤ 227 → 227 < fu_ + i13 → Yl13 = setA Y (4, 0, 0) (fil (Y (4, 0, 2)) (Y (4, 0, 0)) i13) → WY X G A a Yl13 0 0 _ 13 [some (.ref (a (4, 0, 8))), some (.int ((nI i13)))] [] from K13 (227 + 1) 0 _ (by omega) (by omega) (by rw [fil_0, setA_self])
    intro fu_
    induction fu_ with
    | zero => intro i13 Yl13 h1 h2; omega
    | succ fu_ ih13 =>
      intro i13 Yl13 hi13 hm13 hYl13
      refine y_iload_n (pc' := 14) rfl C dX13_restore_13 rfl ?_
      refine y_sipush (pc' := 17) rfl (v := 227) C dX13_restore_14 (by decide) ?_
      refine y_ic_ge (pc' := 20) rfl (tgt := 38) C dX13_restore_17 (by decide) (fun c_17 => ?_) (fun c_17 => ?_)
      · have hb13 : 227 ≤ i13 := nI_le_iff (by omega) (by omega) c_17
        obtain rfl : i13 = 227 := by omega
        refine y_arr (4, 0, 0) (Y (4, 0, 2)) (v4 rfl) rfl rfl (fun f hf => by rw [hYl13, setA_s, fil_in (show f < 227 from hf)]) ?_
        obtain ⟨Yc, hYc⟩ : ∃ Yq, Yq = setA Y (4, 0, 0) (Y (4, 0, 2)) := ⟨_, rfl⟩
        rw [show setA Yl13 (4, 0, 0) (Y (4, 0, 2)) = Yc by rw [hYl13, setA_setA, hYc]]
        refine y_aload_n (pc' := 39) rfl C dX13_restore_38 rfl ?_
        refine y_iconst (pc' := 40) rfl (v := 0) C dX13_restore_39 (by decide) ?_
        refine y_put (pc' := 43) rfl C fp_X13_34 (v4 rfl) rfl rfl dX13_restore_40 rfl (fun Z40 hZ40 => ?_)
        refine y_aload_n (pc' := 44) rfl C dX13_restore_43 rfl ?_
        refine y_get (pc' := 47) rfl (v := .ref (a (4, 0, 0))) C fl_X13_7 (v4 rfl) rfl rfl dX13_restore_44 rfl ?_
        refine y_bipush (pc' := 49) rfl (v := 12) C dX13_restore_47 (by decide) ?_
        refine y_ialdN (pc' := 50) rfl C 12 rfl (v4 rfl) rfl rfl (by decide) rfl dX13_restore_49 ?_
        refine y_ireturn C rfl rfl dX13_restore_50 rfl rfl ?_
        refine ⟨?_, ?_⟩
        · rw [restR, if_neg c_4, hZ40, up_n (by decide), hYc, setA_s]
        · rw [restY, if_neg c_4, hZ40, hYc]
      · have hb13 : i13 < 227 := nI_nle_iff (by omega) (by omega) c_17
        refine y_aload_n (pc' := 21) rfl C dX13_restore_20 rfl ?_
        refine y_get (pc' := 24) rfl (v := .ref (a (4, 0, 0))) C fl_X13_7 (v4 rfl) rfl rfl dX13_restore_21 rfl ?_
        refine y_iload_n (pc' := 25) rfl C dX13_restore_24 rfl ?_
        refine y_aload_n (pc' := 26) rfl C dX13_restore_25 rfl ?_
        refine y_get (pc' := 29) rfl (v := .ref (a (4, 0, 2))) C fl_X13_16 (v4 rfl) rfl rfl dX13_restore_26 rfl ?_
        refine y_iload_n (pc' := 30) rfl C dX13_restore_29 rfl ?_
        refine y_ialdN (pc' := 31) rfl C i13 rfl (v4 rfl) rfl rfl (show i13 < 227 by omega) rfl dX13_restore_30 ?_
        refine y_iastN (pc' := 32) rfl C i13 rfl (v4 rfl) rfl rfl (show i13 < 227 by omega) rfl dX13_restore_31 (fun Z31 hZ31 => ?_)
        refine y_iinc (pc' := 35) rfl (v := (nI (i13 + 1))) C dX13_restore_32 rfl (nI_1 i13) (by decide) ?_
        refine y_goto (tgt := 13) C dX13_restore_35 (by decide) ?_
        exact ih13 (i13 + 1) _ (by omega) (by omega) (by rw [hZ31, up_setA, hYl13, setA_setA, setA_s, setA_n (by decide), fil_s])
  · refine y_sipush (pc' := 10) rfl (v := (-10005)) C dX13_restore_7 (by decide) ?_
    refine y_ireturn C rfl rfl dX13_restore_10 rfl rfl ?_
    exact ⟨by rw [restR, if_pos c_4], by rw [restY, if_pos c_4]⟩
