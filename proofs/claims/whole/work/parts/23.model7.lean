theorem fl_X13_149 : FLK "KilnKeeperModel" 149 12 16 := ⟨RX13, TX13, 20, rfl, by decide, aw_1059, in_TX13⟩
theorem fl_X13_152 : FLK "KilnKeeperModel" 152 12 17 := ⟨RX13, TX13, 20, rfl, by decide, aw_1060, in_TX13⟩
theorem fl_X13_159 : FLK "KilnKeeperModel" 159 12 19 := ⟨RX13, TX13, 20, rfl, by decide, aw_1062, in_TX13⟩
theorem fp_X13_149 : FLP "KilnKeeperModel" 149 12 16 .int false := ⟨RX13, TX13, 20, tyX13, rfl, by decide, aw_1059, in_TX13, tyX13_ok, nmX13, rfl, rfl, fun h => by first | exact rfl | cases h⟩
theorem fp_X13_159 : FLP "KilnKeeperModel" 159 12 19 .boolean false := ⟨RX13, TX13, 20, tyX13, rfl, by decide, aw_1062, in_TX13, tyX13_ok, nmX13, rfl, rfl, fun h => by first | exact rfl | cases h⟩
theorem my_X13_here : MV yX13_here cX13_here 2 (some .int) 1 := ⟨aw_1321, aw_71, ⟨by decide, by decide, by decide +kernel⟩, aw_1320, aw_44⟩
-- KilnKeeperModel.here 
set_option maxHeartbeats 1000000 in
set_option maxRecDepth 20000 in
theorem c_X13_here (l : Launch) (G : GT) (a : Id3 → Nat) (Y : YT) (sp e m : Nat)  (h16 : Y (4, 0, 8) 16 = nI sp) (h17 : Y (4, 0, 8) 17 = nI e) (he : e ≤ 60) (hm : sp + m ≤ 1000) : CtY l G a yX13_here cX13_here 2 (some .int) ({ frames := 0, cells := 0, slots := 0, locals := 0 } : Room) [.ref (a (4, 0, 8)), .int (nI m)] Y (PI (fun r Y' => r = hereT (Y (4, 0, 5)) e (sp + m) ∧ Y' = Y)) := by
  refine CtY.of (by decide) rfl (Nat.le_of_ble_eq_true rfl) ?_
  intro X A C hl
  subst hl
  refine y_aload_n (pc' := 1) rfl C dX13_here_0 rfl ?_
  refine y_get (pc' := 4) rfl C fl_X13_149 (v4 rfl) rfl rfl dX13_here_1 rfl ?_
  refine y_iload_n (pc' := 5) rfl C dX13_here_4 rfl ?_
  refine y_iadd (pc' := 6) rfl C dX13_here_5 ?_
  refine y_aload_n (pc' := 7) rfl C dX13_here_6 rfl ?_
  refine y_get (pc' := 10) rfl C fl_X13_152 (v4 rfl) rfl rfl dX13_here_7 rfl ?_
  refine y_ic_ge (pc' := 13) rfl (tgt := 27) C dX13_here_10 (by decide) (fun c_10 => ?_) (fun c_10 => ?_)
  · rw [h16, h17, nI_add] at c_10
    have hb : e ≤ sp + m := nI_le_iff (by omega) (by omega) c_10
    refine y_sipush (pc' := 30) rfl (v := (-10001)) C dX13_here_27 (by decide) ?_
    refine y_ireturn C rfl rfl dX13_here_30 rfl rfl ?_
    exact ⟨by rw [hereT, if_neg (by omega)], rfl⟩
  · rw [h16, h17, nI_add] at c_10
    have hb : sp + m < e := nI_nle_iff (by omega) (by omega) c_10
    refine y_aload_n (pc' := 14) rfl C dX13_here_13 rfl ?_
    refine y_get (pc' := 17) rfl (v := .ref (a (4, 0, 5))) C fl_X13_25 (v4 rfl) rfl rfl dX13_here_14 rfl ?_
    refine y_aload_n (pc' := 18) rfl C dX13_here_17 rfl ?_
    refine y_get (pc' := 21) rfl C fl_X13_149 (v4 rfl) rfl rfl dX13_here_18 rfl ?_
    refine y_iload_n (pc' := 22) rfl C dX13_here_21 rfl ?_
    refine y_iadd (pc' := 23) rfl C dX13_here_22 ?_
    refine y_ialdN (pc' := 24) rfl C (sp + m) (nadd h16 rfl) (v4 rfl) rfl rfl (show (sp + m) < 60 by omega) rfl dX13_here_23 ?_
    refine y_goto (tgt := 30) C dX13_here_24 (by decide) ?_
    refine y_ireturn C rfl rfl dX13_here_30 rfl rfl ?_
    exact ⟨by rw [hereT, if_pos hb], rfl⟩
-- KilnKeeperModel.word 
set_option maxHeartbeats 1000000 in
set_option maxRecDepth 20000 in
theorem c_X13_word (l : Launch) (G : GT) (a : Id3 → Nat) (Y : YT) (e : Nat) (p : PSt) (k : Nat)  (hat : atP Y p) (h17 : Y (4, 0, 8) 17 = nI e) (he : e ≤ 60) (hp : p.1 ≤ e) (hk : k < 19) : CtY l G a yX13_word cX13_word 3 none ({ frames := 5, cells := 0, slots := 0, locals := 106 } : Room) [.ref (a (4, 0, 8)), .ref (gK G k)] Y (PV (fun Y' => Y' = setP Y (wordP (Y (4, 0, 5)) e k p))) := by
  refine CtY.of (by decide) rfl (Nat.le_of_ble_eq_true rfl) ?_
  intro X A C hl
  subst hl
  have hsl := slen_lt k
  refine y_iconst (pc' := 1) rfl (v := 0) C dX13_word_0 (by decide) ?_
  refine y_istore_n (pc' := 2) rfl C dX13_word_1 (by decide) ?_
  suffices K2 : ∀ (fu_ i2 : Nat) (Yl2 : YT), i2 ≤ (slen.getD k 0) → (slen.getD k 0) < fu_ + i2 → Yl2 = setP Y ((wdS (Y (4, 0, 5)) e k p.1 p.2.1 i2).1, (wdS (Y (4, 0, 5)) e k p.1 p.2.1 i2).2, p.2.2) → WY X G A a Yl2 0 0 _ 2 [some (.ref (a (4, 0, 8))), some (.ref (gK G k)), some (.int ((nI i2)))] [] from K2 ((slen.getD k 0) + 1) 0 _ (by omega) (by omega) ((setP_self hat.1 hat.2.1 hat.2.2).symm)
  intro fu_
  induction fu_ with
  | zero => intro i2 Yl2 h1 h2; omega
  | succ fu_ ih2 =>
    intro i2 Yl2 hi2 hm2 hYl2
    have a16 : Yl2 (4, 0, 8) 16 = nI (wdS (Y (4, 0, 5)) e k p.1 p.2.1 i2).1 := by rw [hYl2, setP_8, pst_16]
    have a17 : Yl2 (4, 0, 8) 17 = nI e := by rw [hYl2, setP_8, pst_n (by decide) (by decide)]; exact h17
    have a5 : Yl2 (4, 0, 5) = Y (4, 0, 5) := by rw [hYl2, setP_n (by decide) (by decide)]
    have ale : (wdS (Y (4, 0, 5)) e k p.1 p.2.1 i2).1 ≤ e := wdS_le hk hp i2 hi2
    refine y_iload_n (pc' := 3) rfl C dX13_word_2 rfl ?_
    refine y_aload_n (pc' := 4) rfl C dX13_word_3 rfl ?_
    refine y_cVg (na := 0) (pc' := 7) (k' := 0) (n' := 0) rfl C (c_J0_length_8abf5 _ G a Yl2 k hk) ⟨aw_814, aw_66, ⟨by decide, by decide, by decide +kernel⟩, aw_812⟩ (C.ts _ aw_813) aw_1331 (ry_str C hk) rfl rfl (Nat.le_of_ble_eq_true rfl) rfl dX13_word_4 rfl rfl (k_PI fun r_4 Y_4 hp_4 => ?_)
    obtain ⟨rfl, hY_4⟩ := hp_4
    have hY_4 := hY_4.symm; subst hY_4
    refine y_ic_ge (pc' := 10) rfl (tgt := 66) C dX13_word_7 (by decide) (fun c_7 => ?_) (fun c_7 => ?_)
    · have hb2 : (slen.getD k 0) ≤ i2 := nI_le_iff (by omega) (by omega) c_7
      have hfin : Yl2 = setP Y (wordP (Y (4, 0, 5)) e k p) := by rw [hYl2, show i2 = slen.getD k 0 by omega]; rfl
      refine y_return C rfl dX13_word_66 rfl rfl ?_
      exact hfin
    · have hb2 : i2 < (slen.getD k 0) := nI_nle_iff (by omega) (by omega) c_7
      refine y_aload_n (pc' := 11) rfl C dX13_word_10 rfl ?_
      refine y_getB (pc' := 14) rfl C fl_X13_159 (v4 rfl) rfl rfl dX13_word_11 rfl (fun hb_11 => ?_)
      refine y_if_ne (pc' := 17) rfl (tgt := 66) C dX13_word_14 (by decide) (fun c_14 => ?_) (fun c_14 => ?_)
      · have hw0 : ¬ (wdS (Y (4, 0, 5)) e k p.1 p.2.1 i2).2 = 0 := by rw [hYl2, setP_8, pst_19] at c_14; exact c_14
        have hfin : Yl2 = setP Y (wordP (Y (4, 0, 5)) e k p) := by rw [hYl2, wordP, show slen.getD k 0 = i2 + (slen.getD k 0 - i2) by omega, wdS_stop hw0]
        refine y_return C rfl dX13_word_66 rfl rfl ?_
        exact hfin
      · have hw1 : (wdS (Y (4, 0, 5)) e k p.1 p.2.1 i2).2 = 0 := by rw [hYl2, setP_8, pst_19] at c_14; exact c_14
        refine y_aload_n (pc' := 18) rfl C dX13_word_17 rfl ?_
        refine y_aload_n (pc' := 19) rfl C dX13_word_18 rfl ?_
        refine y_iconst (pc' := 20) rfl (v := 0) C dX13_word_19 (by decide) ?_
        refine y_cVi (pc' := 23) (k' := 0) (n' := 0) rfl C (c_X13_here _ G a Yl2 (wdS (Y (4, 0, 5)) e k p.1 p.2.1 i2).1 e 0 a16 a17 he (by omega)) my_X13_here aw_1318 (v4 rfl) rfl rfl rfl rfl rfl (Nat.le_of_ble_eq_true rfl) rfl dX13_word_20 rfl rfl (fun r_20 Y_20 hp_20 => ?_)
        obtain ⟨rfl, hY_20⟩ := hp_20
        have hY_20 := hY_20.symm; subst hY_20
        refine y_aload_n (pc' := 24) rfl C dX13_word_23 rfl ?_
        refine y_iload_n (pc' := 25) rfl C dX13_word_24 rfl ?_
        refine y_cVg (na := 1) (pc' := 28) (k' := 0) (n' := 0) rfl C (c_J0_charAt_5068e _ G a Yl2 k i2 hk hb2) ⟨aw_823, aw_66, ⟨by decide, by decide, by decide +kernel⟩, aw_821⟩ (C.ts _ aw_822) aw_1332 (ry_str C hk) rfl rfl (Nat.le_of_ble_eq_true rfl) rfl dX13_word_25 rfl rfl (k_PI fun r_25 Y_25 hp_25 => ?_)
        obtain ⟨rfl, hY_25⟩ := hp_25
        have hY_25 := hY_25.symm; subst hY_25
        have K28 : ∀ (w_28 : Int32) (_ : w_28 = (if (hereT (Yl2 (4, 0, 5)) e ((wdS (Y (4, 0, 5)) e k p.1 p.2.1 i2).1 + 0)) = (sch k i2) then 0 else 1)), WY X G A a Yl2 0 0 (MEnd X G A ({ frames := 5, cells := 0, slots := 0, locals := 106 } : Room) (PY G a (PV (fun Y' => Y' = setP Y (wordP (Y (4, 0, 5)) e k p))))) 36 [some (.ref (a (4, 0, 8))), some (.ref (gK G k)), some (.int ((nI i2)))] [.int w_28, .ref (a (4, 0, 8))] := by
          intro w_28 ew_28
          refine y_putB (pc' := 39) rfl C fp_X13_159 (v4 rfl) rfl rfl (by rw [ew_28]; split; exact Or.inl rfl; exact Or.inr rfl) dX13_word_36 rfl (fun Z36 hZ36 => ?_)
          refine y_aload_n (pc' := 40) rfl C dX13_word_39 rfl ?_
          refine y_dup (pc' := 41) rfl C dX13_word_40 rfl ?_
          refine y_get (pc' := 44) rfl C fl_X13_149 (v4 rfl) rfl rfl dX13_word_41 rfl ?_
          refine y_aload_n (pc' := 45) rfl C dX13_word_44 rfl ?_
          refine y_getB (pc' := 48) rfl C fl_X13_159 (v4 rfl) rfl rfl dX13_word_45 rfl (fun hb_45 => ?_)
          have K48 : ∀ (w_48 : Int32) (_ : w_48 = (if (Z36 (4, 0, 8) 19) = 0 then 1 else 0)), WY X G A a Z36 0 0 (MEnd X G A ({ frames := 5, cells := 0, slots := 0, locals := 106 } : Room) (PY G a (PV (fun Y' => Y' = setP Y (wordP (Y (4, 0, 5)) e k p))))) 56 [some (.ref (a (4, 0, 8))), some (.ref (gK G k)), some (.int ((nI i2)))] [.int w_48, .int ((Z36 (4, 0, 8) 16)), .ref (a (4, 0, 8))] := by
            intro w_48 ew_48
            refine y_iadd (pc' := 57) rfl C dX13_word_56 ?_
            refine y_put (pc' := 60) rfl C fp_X13_149 (v4 rfl) rfl rfl dX13_word_57 rfl (fun Z57 hZ57 => ?_)
            refine y_iinc (pc' := 63) rfl (v := (nI (i2 + 1))) C dX13_word_60 rfl (nI_1 i2) (by decide) ?_
            refine y_goto (tgt := 2) C dX13_word_63 (by decide) ?_
            exact ih2 (i2 + 1) _ (by omega) (by omega) (by rw [a5, Nat.add_zero] at ew_28; rw [hZ57, hZ36, hYl2, up_setP8, up_setPs (s' := (wdS (Y (4, 0, 5)) e k p.1 p.2.1 (i2 + 1)).1) (by rw [setP_8, pst_16, ew_48, hZ36, up_s, upd_s, ew_28, wdS, if_pos hw1]; by_cases hq : hereT (Y (4, 0, 5)) e (wdS (Y (4, 0, 5)) e k p.1 p.2.1 i2).1 = sch k i2 <;> simp only [if_pos, if_neg, hq, not_false_eq_true] <;> first | exact nI_add _ 1 | exact nI_add _ 0)]; rw [wdS, if_pos hw1, ew_28]; by_cases hq : hereT (Y (4, 0, 5)) e (wdS (Y (4, 0, 5)) e k p.1 p.2.1 i2).1 = sch k i2 <;> simp only [if_pos, if_neg, hq, not_false_eq_true])
          refine y_if_eq (pc' := 51) rfl (tgt := 55) C dX13_word_48 (by decide) (fun c_48 => ?_) (fun c_48 => ?_)
          · refine y_iconst (pc' := 56) rfl (v := 1) C dX13_word_55 (by decide) ?_
            exact K48 _ (by rw [if_pos c_48])
          · refine y_iconst (pc' := 52) rfl (v := 0) C dX13_word_51 (by decide) ?_
            refine y_goto (tgt := 56) C dX13_word_52 (by decide) ?_
            exact K48 _ (by rw [if_neg c_48])
        refine y_ic_eq (pc' := 31) rfl (tgt := 35) C dX13_word_28 (by decide) (fun c_28 => ?_) (fun c_28 => ?_)
        · refine y_iconst (pc' := 36) rfl (v := 0) C dX13_word_35 (by decide) ?_
          exact K28 _ (by rw [if_pos c_28])
        · refine y_iconst (pc' := 32) rfl (v := 1) C dX13_word_31 (by decide) ?_
          refine y_goto (tgt := 36) C dX13_word_32 (by decide) ?_
          exact K28 _ (by rw [if_neg c_28])
