theorem fl_X13_28 : FLK "KilnKeeperModel" 28 12 8 := ⟨RX13, TX13, 20, rfl, by decide, aw_1051, in_TX13⟩
theorem fl_X13_149 : FLK "KilnKeeperModel" 149 12 16 := ⟨RX13, TX13, 20, rfl, by decide, aw_1059, in_TX13⟩
theorem fl_X13_152 : FLK "KilnKeeperModel" 152 12 17 := ⟨RX13, TX13, 20, rfl, by decide, aw_1060, in_TX13⟩
theorem fl_X13_159 : FLK "KilnKeeperModel" 159 12 19 := ⟨RX13, TX13, 20, rfl, by decide, aw_1062, in_TX13⟩
theorem fl_X13_176 : FLK "KilnKeeperModel" 176 12 18 := ⟨RX13, TX13, 20, rfl, by decide, aw_1061, in_TX13⟩
theorem fp_X13_149 : FLP "KilnKeeperModel" 149 12 16 .int false := ⟨RX13, TX13, 20, tyX13, rfl, by decide, aw_1059, in_TX13, tyX13_ok, nmX13, rfl, rfl, fun h => by first | exact rfl | cases h⟩
theorem fp_X13_159 : FLP "KilnKeeperModel" 159 12 19 .boolean false := ⟨RX13, TX13, 20, tyX13, rfl, by decide, aw_1062, in_TX13, tyX13_ok, nmX13, rfl, rfl, fun h => by first | exact rfl | cases h⟩
theorem fp_X13_176 : FLP "KilnKeeperModel" 176 12 18 .int false := ⟨RX13, TX13, 20, tyX13, rfl, by decide, aw_1061, in_TX13, tyX13_ok, nmX13, rfl, rfl, fun h => by first | exact rfl | cases h⟩
theorem my_X13_here : MV yX13_here cX13_here 2 (some .int) 1 := ⟨aw_1321, aw_71, ⟨by decide, by decide, by decide +kernel⟩, aw_1320, aw_44⟩
theorem my_X13_number : MV yX13_number cX13_number 5 none 2 := ⟨aw_1336, aw_71, ⟨by decide, by decide, by decide +kernel⟩, aw_1335, aw_47⟩
theorem my_X13_reads : MV yX13_reads cX13_reads 3 none 2 := ⟨aw_1326, aw_71, ⟨by decide, by decide, by decide +kernel⟩, aw_1325, aw_45⟩
theorem my_X13_sort : MV yX13_sort cX13_sort 2 (some .int) 0 := ⟨aw_1317, aw_71, ⟨by decide, by decide, by decide +kernel⟩, aw_1316, aw_43⟩
theorem my_X13_word : MV yX13_word cX13_word 3 none 1 := ⟨aw_1330, aw_71, ⟨by decide, by decide, by decide +kernel⟩, aw_1329, aw_46⟩
-- KilnKeeperModel.here 
set_option maxHeartbeats 1000000 in
set_option maxRecDepth 20000 in
theorem c_X13_here (l : Launch) (G : GT) (a : Id3 → Nat) (Y : YT) (sp e m : Nat)  (h16 : Y (4, 0, 8) 16 = nI sp) (h17 : Y (4, 0, 8) 17 = nI e) (he : e ≤ 60) (hm : sp + m ≤ 1000) : CtY l G a yX13_here cX13_here 2 (some .int) ({ frames := 0, cells := 0, slots := 0, locals := 0 } : Room) [.ref (a (4, 0, 8)), .int (nI m)] Y (PI (fun r Y' => r = hereT (Y (4, 0, 5)) e (sp + m) ∧ Y' = Y)) := by
  refine CtY.of (by decide) rfl (Nat.le_of_ble_eq_true rfl) ?_
  intro X A C hl
  subst hl
  refine y_aload_n (pc' := 1) rfl C dX13_here_0 rfl ?_
  refine y_get (pc' := 4) rfl C fl_X13_149 (v4 rfl) rfl rfl dX13_here_1 rfl ?_
  refine y_iload_n (pc' := 5) rfl C dX13_here_4 rfl ?_
  refine y_iadd (pc' := 6) rfl C dX13_here_5 ?_
  refine y_aload_n (pc' := 7) rfl C dX13_here_6 rfl ?_
  refine y_get (pc' := 10) rfl C fl_X13_152 (v4 rfl) rfl rfl dX13_here_7 rfl ?_
  refine y_ic_ge (pc' := 13) rfl (tgt := 27) C dX13_here_10 (by decide) (fun c_10 => ?_) (fun c_10 => ?_)
  · rw [h16, h17, nI_add] at c_10
    have hb : e ≤ sp + m := nI_le_iff (by omega) (by omega) c_10
    refine y_sipush (pc' := 30) rfl (v := (-10001)) C dX13_here_27 (by decide) ?_
    refine y_ireturn C rfl rfl dX13_here_30 rfl rfl ?_
    exact ⟨by rw [hereT, if_neg (by omega)], rfl⟩
  · rw [h16, h17, nI_add] at c_10
    have hb : sp + m < e := nI_nle_iff (by omega) (by omega) c_10
    refine y_aload_n (pc' := 14) rfl C dX13_here_13 rfl ?_
    refine y_get (pc' := 17) rfl (v := .ref (a (4, 0, 5))) C fl_X13_25 (v4 rfl) rfl rfl dX13_here_14 rfl ?_
    refine y_aload_n (pc' := 18) rfl C dX13_here_17 rfl ?_
    refine y_get (pc' := 21) rfl C fl_X13_149 (v4 rfl) rfl rfl dX13_here_18 rfl ?_
    refine y_iload_n (pc' := 22) rfl C dX13_here_21 rfl ?_
    refine y_iadd (pc' := 23) rfl C dX13_here_22 ?_
    refine y_ialdN (pc' := 24) rfl C (sp + m) (nadd h16 rfl) (v4 rfl) rfl rfl (show (sp + m) < 60 by omega) rfl dX13_here_23 ?_
    refine y_goto (tgt := 30) C dX13_here_24 (by decide) ?_
    refine y_ireturn C rfl rfl dX13_here_30 rfl rfl ?_
    exact ⟨by rw [hereT, if_pos hb], rfl⟩
-- KilnKeeperModel.word 
set_option maxHeartbeats 1000000 in
set_option maxRecDepth 20000 in
theorem c_X13_word (l : Launch) (G : GT) (a : Id3 → Nat) (Y : YT) (e : Nat) (p : PSt) (k : Nat)  (hat : atP Y p) (h17 : Y (4, 0, 8) 17 = nI e) (he : e ≤ 60) (hp : p.1 ≤ e) (hk : k < 19) : CtY l G a yX13_word cX13_word 3 none ({ frames := 5, cells := 0, slots := 0, locals := 106 } : Room) [.ref (a (4, 0, 8)), .ref (gK G k)] Y (PV (fun Y' => Y' = setP Y (wordP (Y (4, 0, 5)) e k p))) := by
  refine CtY.of (by decide) rfl (Nat.le_of_ble_eq_true rfl) ?_
  intro X A C hl
  subst hl
  have hsl := slen_lt k
  refine y_iconst (pc' := 1) rfl (v := 0) C dX13_word_0 (by decide) ?_
  refine y_istore_n (pc' := 2) rfl C dX13_word_1 (by decide) ?_
  suffices K2 : ∀ (fu_ i2 : Nat) (Yl2 : YT), i2 ≤ (slen.getD k 0) → (slen.getD k 0) < fu_ + i2 → Yl2 = setP Y ((wdS (Y (4, 0, 5)) e k p.1 p.2.1 i2).1, (wdS (Y (4, 0, 5)) e k p.1 p.2.1 i2).2, p.2.2) → WY X G A a Yl2 0 0 _ 2 [some (.ref (a (4, 0, 8))), some (.ref (gK G k)), some (.int ((nI i2)))] [] from K2 ((slen.getD k 0) + 1) 0 _ (by omega) (by omega) ((setP_self hat.1 hat.2.1 hat.2.2).symm)
  intro fu_
  induction fu_ with
  | zero => intro i2 Yl2 h1 h2; omega
  | succ fu_ ih2 =>
    intro i2 Yl2 hi2 hm2 hYl2
    have a16 : Yl2 (4, 0, 8) 16 = nI (wdS (Y (4, 0, 5)) e k p.1 p.2.1 i2).1 := by rw [hYl2, setP_8, pst_16]
    have a17 : Yl2 (4, 0, 8) 17 = nI e := by rw [hYl2, setP_8, pst_n (by decide) (by decide)]; exact h17
    have a5 : Yl2 (4, 0, 5) = Y (4, 0, 5) := by rw [hYl2, setP_n (by decide) (by decide)]
    have ale : (wdS (Y (4, 0, 5)) e k p.1 p.2.1 i2).1 ≤ e := wdS_le hk hp i2 hi2
    refine y_iload_n (pc' := 3) rfl C dX13_word_2 rfl ?_
    refine y_aload_n (pc' := 4) rfl C dX13_word_3 rfl ?_
    refine y_cVg (na := 0) (pc' := 7) (k' := 0) (n' := 0) rfl C (c_J0_length_8abf5 _ G a Yl2 k hk) ⟨aw_814, aw_66, ⟨by decide, by decide, by decide +kernel⟩, aw_812⟩ (C.ts _ aw_813) aw_1331 (ry_str C hk) rfl rfl (Nat.le_of_ble_eq_true rfl) rfl dX13_word_4 rfl rfl (k_PI fun r_4 Y_4 hp_4 => ?_)
    obtain ⟨rfl, hY_4⟩ := hp_4
    have hY_4 := hY_4.symm; subst hY_4
    refine y_ic_ge (pc' := 10) rfl (tgt := 66) C dX13_word_7 (by decide) (fun c_7 => ?_) (fun c_7 => ?_)
    · have hb2 : (slen.getD k 0) ≤ i2 := nI_le_iff (by omega) (by omega) c_7
      have hfin : Yl2 = setP Y (wordP (Y (4, 0, 5)) e k p) := by rw [hYl2, show i2 = slen.getD k 0 by omega]; rfl
      refine y_return C rfl dX13_word_66 rfl rfl ?_
      exact hfin
    · have hb2 : i2 < (slen.getD k 0) := nI_nle_iff (by omega) (by omega) c_7
      refine y_aload_n (pc' := 11) rfl C dX13_word_10 rfl ?_
      refine y_getB (pc' := 14) rfl C fl_X13_159 (v4 rfl) rfl rfl dX13_word_11 rfl (fun hb_11 => ?_)
      refine y_if_ne (pc' := 17) rfl (tgt := 66) C dX13_word_14 (by decide) (fun c_14 => ?_) (fun c_14 => ?_)
      · have hw0 : ¬ (wdS (Y (4, 0, 5)) e k p.1 p.2.1 i2).2 = 0 := by rw [hYl2, setP_8, pst_19] at c_14; exact c_14
        have hfin : Yl2 = setP Y (wordP (Y (4, 0, 5)) e k p) := by rw [hYl2, wordP, show slen.getD k 0 = i2 + (slen.getD k 0 - i2) by omega, wdS_stop hw0]
        refine y_return C rfl dX13_word_66 rfl rfl ?_
        exact hfin
      · have hw1 : (wdS (Y (4, 0, 5)) e k p.1 p.2.1 i2).2 = 0 := by rw [hYl2, setP_8, pst_19] at c_14; exact c_14
        refine y_aload_n (pc' := 18) rfl C dX13_word_17 rfl ?_
        refine y_aload_n (pc' := 19) rfl C dX13_word_18 rfl ?_
        refine y_iconst (pc' := 20) rfl (v := 0) C dX13_word_19 (by decide) ?_
        refine y_cVi (pc' := 23) (k' := 0) (n' := 0) rfl C (c_X13_here _ G a Yl2 (wdS (Y (4, 0, 5)) e k p.1 p.2.1 i2).1 e 0 a16 a17 he (by omega)) my_X13_here aw_1318 (v4 rfl) rfl rfl rfl rfl rfl (Nat.le_of_ble_eq_true rfl) rfl dX13_word_20 rfl rfl (fun r_20 Y_20 hp_20 => ?_)
        obtain ⟨rfl, hY_20⟩ := hp_20
        have hY_20 := hY_20.symm; subst hY_20
        refine y_aload_n (pc' := 24) rfl C dX13_word_23 rfl ?_
        refine y_iload_n (pc' := 25) rfl C dX13_word_24 rfl ?_
        refine y_cVg (na := 1) (pc' := 28) (k' := 0) (n' := 0) rfl C (c_J0_charAt_5068e _ G a Yl2 k i2 hk hb2) ⟨aw_823, aw_66, ⟨by decide, by decide, by decide +kernel⟩, aw_821⟩ (C.ts _ aw_822) aw_1332 (ry_str C hk) rfl rfl (Nat.le_of_ble_eq_true rfl) rfl dX13_word_25 rfl rfl (k_PI fun r_25 Y_25 hp_25 => ?_)
        obtain ⟨rfl, hY_25⟩ := hp_25
        have hY_25 := hY_25.symm; subst hY_25
        have K28 : ∀ (w_28 : Int32) (_ : w_28 = (if (hereT (Yl2 (4, 0, 5)) e ((wdS (Y (4, 0, 5)) e k p.1 p.2.1 i2).1 + 0)) = (sch k i2) then 0 else 1)), WY X G A a Yl2 0 0 (MEnd X G A ({ frames := 5, cells := 0, slots := 0, locals := 106 } : Room) (PY G a (PV (fun Y' => Y' = setP Y (wordP (Y (4, 0, 5)) e k p))))) 36 [some (.ref (a (4, 0, 8))), some (.ref (gK G k)), some (.int ((nI i2)))] [.int w_28, .ref (a (4, 0, 8))] := by
          intro w_28 ew_28
          refine y_putB (pc' := 39) rfl C fp_X13_159 (v4 rfl) rfl rfl (by rw [ew_28]; split; exact Or.inl rfl; exact Or.inr rfl) dX13_word_36 rfl (fun Z36 hZ36 => ?_)
          refine y_aload_n (pc' := 40) rfl C dX13_word_39 rfl ?_
          refine y_dup (pc' := 41) rfl C dX13_word_40 rfl ?_
          refine y_get (pc' := 44) rfl C fl_X13_149 (v4 rfl) rfl rfl dX13_word_41 rfl ?_
          refine y_aload_n (pc' := 45) rfl C dX13_word_44 rfl ?_
          refine y_getB (pc' := 48) rfl C fl_X13_159 (v4 rfl) rfl rfl dX13_word_45 rfl (fun hb_45 => ?_)
          have K48 : ∀ (w_48 : Int32) (_ : w_48 = (if (Z36 (4, 0, 8) 19) = 0 then 1 else 0)), WY X G A a Z36 0 0 (MEnd X G A ({ frames := 5, cells := 0, slots := 0, locals := 106 } : Room) (PY G a (PV (fun Y' => Y' = setP Y (wordP (Y (4, 0, 5)) e k p))))) 56 [some (.ref (a (4, 0, 8))), some (.ref (gK G k)), some (.int ((nI i2)))] [.int w_48, .int ((Z36 (4, 0, 8) 16)), .ref (a (4, 0, 8))] := by
            intro w_48 ew_48
            refine y_iadd (pc' := 57) rfl C dX13_word_56 ?_
            refine y_put (pc' := 60) rfl C fp_X13_149 (v4 rfl) rfl rfl dX13_word_57 rfl (fun Z57 hZ57 => ?_)
            refine y_iinc (pc' := 63) rfl (v := (nI (i2 + 1))) C dX13_word_60 rfl (nI_1 i2) (by decide) ?_
            refine y_goto (tgt := 2) C dX13_word_63 (by decide) ?_
            exact ih2 (i2 + 1) _ (by omega) (by omega) (by rw [a5, Nat.add_zero] at ew_28; rw [hZ57, hZ36, hYl2, up_setP8, up_setPs (s' := (wdS (Y (4, 0, 5)) e k p.1 p.2.1 (i2 + 1)).1) (by rw [setP_8, pst_16, ew_48, hZ36, up_s, upd_s, ew_28, wdS, if_pos hw1]; by_cases hq : hereT (Y (4, 0, 5)) e (wdS (Y (4, 0, 5)) e k p.1 p.2.1 i2).1 = sch k i2 <;> simp only [if_pos, if_neg, hq, not_false_eq_true] <;> first | exact nI_add _ 1 | exact nI_add _ 0)]; rw [wdS, if_pos hw1, ew_28]; by_cases hq : hereT (Y (4, 0, 5)) e (wdS (Y (4, 0, 5)) e k p.1 p.2.1 i2).1 = sch k i2 <;> simp only [if_pos, if_neg, hq, not_false_eq_true])
          refine y_if_eq (pc' := 51) rfl (tgt := 55) C dX13_word_48 (by decide) (fun c_48 => ?_) (fun c_48 => ?_)
          · refine y_iconst (pc' := 56) rfl (v := 1) C dX13_word_55 (by decide) ?_
            exact K48 _ (by rw [if_pos c_48])
          · refine y_iconst (pc' := 52) rfl (v := 0) C dX13_word_51 (by decide) ?_
            refine y_goto (tgt := 56) C dX13_word_52 (by decide) ?_
            exact K48 _ (by rw [if_neg c_48])
        refine y_ic_eq (pc' := 31) rfl (tgt := 35) C dX13_word_28 (by decide) (fun c_28 => ?_) (fun c_28 => ?_)
        · refine y_iconst (pc' := 36) rfl (v := 0) C dX13_word_35 (by decide) ?_
          exact K28 _ (by rw [if_pos c_28])
        · refine y_iconst (pc' := 32) rfl (v := 1) C dX13_word_31 (by decide) ?_
          refine y_goto (tgt := 36) C dX13_word_32 (by decide) ?_
          exact K28 _ (by rw [if_neg c_28])
-- KilnKeeperModel.number 
set_option maxHeartbeats 1000000 in
set_option maxRecDepth 20000 in
theorem c_X13_number (l : Launch) (G : GT) (a : Id3 → Nat) (Y : YT) (e o : Nat) (p : PSt) (j most : Nat)  (hat : atP Y p) (h17 : Y (4, 0, 8) 17 = nI e) (he : e ≤ 60) (hp : p.1 ≤ e) (hb : isb p.2.1) (h18 : Y (4, 0, 8) 18 = nI o) (ho : o ≤ 30) (hj : j ≤ 3) (hm : most ≤ 4) : CtY l G a yX13_number cX13_number 5 none ({ frames := 6, cells := 0, slots := 0, locals := 128 } : Room) [.ref (a (4, 0, 8)), .int (nI j), .int (nI most)] Y (PV (fun Y' => Y' = setP Y (numP (Y (4, 0, 5)) e o j most p))) := by
  refine CtY.of (by decide) rfl (Nat.le_of_ble_eq_true rfl) ?_
  intro X A C hl
  subst hl
  refine y_aload_n (pc' := 1) rfl C dX13_number_0 rfl ?_
  refine y_ldcS (pc' := 3) rfl (i := 1) C (by decide) rfl rfl dX13_number_1 ?_
  refine y_cVv (pc' := 6) (k' := 0) (n' := 0) rfl C (c_X13_word _ G a Y e p 1 hat h17 he hp (by decide)) my_X13_word aw_1327 (v4 rfl) rfl rfl rfl rfl rfl (Nat.le_of_ble_eq_true rfl) rfl dX13_number_3 rfl rfl (fun Y_3 hY_3 => ?_)
  obtain ⟨q, hq⟩ : ∃ q : PSt, q = wordP (Y (4, 0, 5)) e 1 p := ⟨_, rfl⟩
  rw [← hq] at hY_3
  have hqe : q.1 ≤ e := by rw [hq]; exact wordP_le (by decide) hp
  have hqb : isb q.2.1 := by rw [hq]; exact wdS_b hb _
  refine y_iconst (pc' := 7) rfl (v := 0) C dX13_number_6 (by decide) ?_
  refine y_istore_n (pc' := 8) rfl C dX13_number_7 (by decide) ?_
  refine y_iconst (pc' := 9) rfl (v := 0) C dX13_number_8 (by decide) ?_
  refine y_istore (pc' := 11) rfl C dX13_number_9 (by decide) ?_
  suffices K11 : ∀ (fu_ i11 : Nat) (Yl11 : YT), i11 ≤ most → most < fu_ + i11 → Yl11 = setP Y (q.1 + i11, q.2.1, q.2.2) → ((q.2.1 = 0 → ndF (Y (4, 0, 5)) e q.1 most = i11 + ndF (Y (4, 0, 5)) e (q.1 + i11) (most - i11)) ∧ (¬ q.2.1 = 0 → i11 = 0)) → WY X G A a Yl11 0 0 _ 11 [some (.ref (a (4, 0, 8))), some (.int ((nI j))), some (.int ((nI most))), some (.int ((nvF (Y (4, 0, 5)) e q.1 i11))), some (.int ((nI i11)))] [] from K11 (most + 1) 0 _ (by omega) (by omega) (hY_3) (⟨fun _ => by rw [Nat.sub_zero, Nat.zero_add, Nat.add_zero], fun _ => rfl⟩)
  intro fu_
  induction fu_ with
  | zero => intro i11 Yl11 h1 h2; omega
  | succ fu_ ih11 =>
    intro i11 Yl11 hi11 hm11 hYl11 hx11
    have a16 : Yl11 (4, 0, 8) 16 = nI (q.1 + i11) := by rw [hYl11, setP_8, pst_16]
    have a17 : Yl11 (4, 0, 8) 17 = nI e := by rw [hYl11, setP_8, pst_n (by decide) (by decide)]; exact h17
    have a19 : Yl11 (4, 0, 8) 19 = q.2.1 := by rw [hYl11, setP_8, pst_19]
    have a5 : Yl11 (4, 0, 5) = Y (4, 0, 5) := by rw [hYl11, setP_n (by decide) (by decide)]
    have ale : q.1 + i11 ≤ e ∨ ¬ q.2.1 = 0 := by rcases Classical.em (q.2.1 = 0) with h_ | h_; exact Or.inl (by have := hx11.1 h_; have := ndF_end (Y (4, 0, 5)) e most q.1 hqe; have := hx11.1 h_; omega); exact Or.inr h_
    refine y_aload_n (pc' := 12) rfl C dX13_number_11 rfl ?_
    refine y_getB (pc' := 15) rfl C fl_X13_159 (v4 rfl) rfl rfl dX13_number_12 rfl (fun hb_12 => ?_)
    refine y_if_ne (pc' := 18) rfl (tgt := 69) C dX13_number_15 (by decide) (fun c_15 => ?_) (fun c_15 => ?_)
    · have hw0 : ¬ q.2.1 = 0 := by rw [a19] at c_15; exact c_15
      have hnd : numD (Y (4, 0, 5)) e most q = i11 := by rw [numD, if_neg hw0, hx11.2 hw0]
      refine y_aload_n (pc' := 70) rfl C dX13_number_69 rfl ?_
      refine y_aload_n (pc' := 71) rfl C dX13_number_70 rfl ?_
      refine y_getB (pc' := 74) rfl C fl_X13_159 (v4 rfl) rfl rfl dX13_number_71 rfl (fun hb_71 => ?_)
      have K74 : ∀ (w_74 : Int32) (_ : w_74 = (if (Yl11 (4, 0, 8) 19) = 0 then (if (nI i11) = 0 then 1 else 0) else 1)), WY X G A a Yl11 0 0 (MEnd X G A ({ frames := 6, cells := 0, slots := 0, locals := 128 } : Room) (PY G a (PV (fun Y' => Y' = setP Y (numP (Y (4, 0, 5)) e o j most p))))) 87 [some (.ref (a (4, 0, 8))), some (.int ((nI j))), some (.int ((nI most))), some (.int ((nvF (Y (4, 0, 5)) e q.1 i11))), some (.int ((nI i11)))] [.int w_74, .ref (a (4, 0, 8))] := by
        intro w_74 ew_74
        refine y_putB (pc' := 90) rfl C fp_X13_159 (v4 rfl) rfl rfl (by rw [ew_74]; exact w74_b) dX13_number_87 rfl (fun Z87 hZ87 => ?_)
        refine y_aload_n (pc' := 91) rfl C dX13_number_90 rfl ?_
        refine y_get (pc' := 94) rfl (v := .ref (a (4, 0, 6))) C fl_X13_28 (v4 rfl) rfl rfl dX13_number_91 rfl ?_
        refine y_iconst (pc' := 95) rfl (v := 4) C dX13_number_94 (by decide) ?_
        refine y_aload_n (pc' := 96) rfl C dX13_number_95 rfl ?_
        refine y_get (pc' := 99) rfl C fl_X13_176 (v4 rfl) rfl rfl dX13_number_96 rfl ?_
        refine y_imul (pc' := 100) rfl C dX13_number_99 ?_
        refine y_iload_n (pc' := 101) rfl C dX13_number_100 rfl ?_
        refine y_iadd (pc' := 102) rfl C dX13_number_101 ?_
        refine y_iload_n (pc' := 103) rfl C dX13_number_102 rfl ?_
        refine y_iastN (pc' := 104) rfl C ((4 * o) + j) (nadd (nmul (rfl : (4 : Int32) = nI 4) (show Z87 (4, 0, 8) 18 = nI o by rw [hZ87, up_s, upd_n (by decide), hYl11, setP_8, pst_n (by decide) (by decide)]; exact h18)) rfl) (v4 rfl) rfl rfl (show ((4 * o) + j) < 160 by omega) rfl dX13_number_103 (fun Z103 hZ103 => ?_)
        refine y_return C rfl dX13_number_104 rfl rfl ?_
        refine (?_ : Z103 = _)
        rw [hZ103, hZ87, hYl11, up_setP8, up_setP6, numP, ← hq, numQ, hnd]
        have e74 : w_74 = if q.2.1 = 0 then (if i11 = 0 then 1 else 0) else 1 := by rw [ew_74, a19]; exact e74_of (by omega)
        rw [e74]
      refine y_if_ne (pc' := 77) rfl (tgt := 82) C dX13_number_74 (by decide) (fun c_74 => ?_) (fun c_74 => ?_)
      · refine y_iconst (pc' := 83) rfl (v := 1) C dX13_number_82 (by decide) ?_
        refine y_goto (tgt := 87) C dX13_number_83 (by decide) ?_
        exact K74 _ (by rw [if_neg c_74])
      · refine y_iload (pc' := 79) rfl C dX13_number_77 rfl ?_
        refine y_if_ne (pc' := 82) rfl (tgt := 86) C dX13_number_79 (by decide) (fun c_79 => ?_) (fun c_79 => ?_)
        · refine y_iconst (pc' := 87) rfl (v := 0) C dX13_number_86 (by decide) ?_
          exact K74 _ (by rw [if_pos c_74, if_neg c_79])
        · refine y_iconst (pc' := 83) rfl (v := 1) C dX13_number_82 (by decide) ?_
          refine y_goto (tgt := 87) C dX13_number_83 (by decide) ?_
          exact K74 _ (by rw [if_pos c_74, if_pos c_79])
    · have hw1 : q.2.1 = 0 := by rw [a19] at c_15; exact c_15
      refine y_iload (pc' := 20) rfl C dX13_number_18 rfl ?_
      refine y_iload_n (pc' := 21) rfl C dX13_number_20 rfl ?_
      refine y_ic_ge (pc' := 24) rfl (tgt := 69) C dX13_number_21 (by decide) (fun c_21 => ?_) (fun c_21 => ?_)
      · have hb11 : most ≤ i11 := nI_le_iff (by omega) (by omega) c_21
        have hnd : numD (Y (4, 0, 5)) e most q = i11 := by rw [numD, if_pos hw1, hx11.1 hw1, show most - i11 = 0 by omega]; rfl
        refine y_aload_n (pc' := 70) rfl C dX13_number_69 rfl ?_
        refine y_aload_n (pc' := 71) rfl C dX13_number_70 rfl ?_
        refine y_getB (pc' := 74) rfl C fl_X13_159 (v4 rfl) rfl rfl dX13_number_71 rfl (fun hb_71 => ?_)
        have K74 : ∀ (w_74 : Int32) (_ : w_74 = (if (Yl11 (4, 0, 8) 19) = 0 then (if (nI i11) = 0 then 1 else 0) else 1)), WY X G A a Yl11 0 0 (MEnd X G A ({ frames := 6, cells := 0, slots := 0, locals := 128 } : Room) (PY G a (PV (fun Y' => Y' = setP Y (numP (Y (4, 0, 5)) e o j most p))))) 87 [some (.ref (a (4, 0, 8))), some (.int ((nI j))), some (.int ((nI most))), some (.int ((nvF (Y (4, 0, 5)) e q.1 i11))), some (.int ((nI i11)))] [.int w_74, .ref (a (4, 0, 8))] := by
          intro w_74 ew_74
          refine y_putB (pc' := 90) rfl C fp_X13_159 (v4 rfl) rfl rfl (by rw [ew_74]; exact w74_b) dX13_number_87 rfl (fun Z87 hZ87 => ?_)
          refine y_aload_n (pc' := 91) rfl C dX13_number_90 rfl ?_
          refine y_get (pc' := 94) rfl (v := .ref (a (4, 0, 6))) C fl_X13_28 (v4 rfl) rfl rfl dX13_number_91 rfl ?_
          refine y_iconst (pc' := 95) rfl (v := 4) C dX13_number_94 (by decide) ?_
          refine y_aload_n (pc' := 96) rfl C dX13_number_95 rfl ?_
          refine y_get (pc' := 99) rfl C fl_X13_176 (v4 rfl) rfl rfl dX13_number_96 rfl ?_
          refine y_imul (pc' := 100) rfl C dX13_number_99 ?_
          refine y_iload_n (pc' := 101) rfl C dX13_number_100 rfl ?_
          refine y_iadd (pc' := 102) rfl C dX13_number_101 ?_
          refine y_iload_n (pc' := 103) rfl C dX13_number_102 rfl ?_
          refine y_iastN (pc' := 104) rfl C ((4 * o) + j) (nadd (nmul (rfl : (4 : Int32) = nI 4) (show Z87 (4, 0, 8) 18 = nI o by rw [hZ87, up_s, upd_n (by decide), hYl11, setP_8, pst_n (by decide) (by decide)]; exact h18)) rfl) (v4 rfl) rfl rfl (show ((4 * o) + j) < 160 by omega) rfl dX13_number_103 (fun Z103 hZ103 => ?_)
          refine y_return C rfl dX13_number_104 rfl rfl ?_
          refine (?_ : Z103 = _)
          rw [hZ103, hZ87, hYl11, up_setP8, up_setP6, numP, ← hq, numQ, hnd]
          have e74 : w_74 = if q.2.1 = 0 then (if i11 = 0 then 1 else 0) else 1 := by rw [ew_74, a19]; exact e74_of (by omega)
          rw [e74]
        refine y_if_ne (pc' := 77) rfl (tgt := 82) C dX13_number_74 (by decide) (fun c_74 => ?_) (fun c_74 => ?_)
        · refine y_iconst (pc' := 83) rfl (v := 1) C dX13_number_82 (by decide) ?_
          refine y_goto (tgt := 87) C dX13_number_83 (by decide) ?_
          exact K74 _ (by rw [if_neg c_74])
        · refine y_iload (pc' := 79) rfl C dX13_number_77 rfl ?_
          refine y_if_ne (pc' := 82) rfl (tgt := 86) C dX13_number_79 (by decide) (fun c_79 => ?_) (fun c_79 => ?_)
          · refine y_iconst (pc' := 87) rfl (v := 0) C dX13_number_86 (by decide) ?_
            exact K74 _ (by rw [if_pos c_74, if_neg c_79])
          · refine y_iconst (pc' := 83) rfl (v := 1) C dX13_number_82 (by decide) ?_
            refine y_goto (tgt := 87) C dX13_number_83 (by decide) ?_
            exact K74 _ (by rw [if_pos c_74, if_pos c_79])
      · have hb11 : i11 < most := nI_nle_iff (by omega) (by omega) c_21
        refine y_aload_n (pc' := 25) rfl C dX13_number_24 rfl ?_
        refine y_iconst (pc' := 26) rfl (v := 0) C dX13_number_25 (by decide) ?_
        refine y_cVi (pc' := 29) (k' := 0) (n' := 0) rfl C (c_X13_here _ G a Yl11 (q.1 + i11) e 0 a16 a17 he (by have := hx11.2; omega)) my_X13_here aw_1318 (v4 rfl) rfl rfl rfl rfl rfl (Nat.le_of_ble_eq_true rfl) rfl dX13_number_26 rfl rfl (fun r_26 Y_26 hp_26 => ?_)
        obtain ⟨rfl, hY_26⟩ := hp_26
        have hY_26 := hY_26.symm; subst hY_26
        refine y_bipush (pc' := 31) rfl (v := 48) C dX13_number_29 (by decide) ?_
        refine y_bipush (pc' := 33) rfl (v := 57) C dX13_number_31 (by decide) ?_
        refine y_cSi (pc' := 36) (k' := 0) (n' := 0) rfl C (c_X13_in _ G a Yl11 (hereT (Yl11 (4, 0, 5)) e (q.1 + i11 + 0)) 48 57) my_X13_in aw_1116 rfl rfl (Nat.le_of_ble_eq_true rfl) rfl dX13_number_33 rfl rfl (fun r_33 Y_33 hp_33 => ?_)
        obtain ⟨rfl, hY_33⟩ := hp_33
        have hY_33 := hY_33.symm; subst hY_33
        refine y_if_eq (pc' := 39) rfl (tgt := 69) C dX13_number_36 (by decide) (fun c_36 => ?_) (fun c_36 => ?_)
        · have h_36 := bi_0.mp c_36
          have hnd : numD (Y (4, 0, 5)) e most q = i11 := by rw [numD, if_pos hw1]; exact ndF_off (hx11.1 hw1) (by rw [a5, Nat.add_zero] at h_36; exact h_36)
          refine y_aload_n (pc' := 70) rfl C dX13_number_69 rfl ?_
          refine y_aload_n (pc' := 71) rfl C dX13_number_70 rfl ?_
          refine y_getB (pc' := 74) rfl C fl_X13_159 (v4 rfl) rfl rfl dX13_number_71 rfl (fun hb_71 => ?_)
          have K74 : ∀ (w_74 : Int32) (_ : w_74 = (if (Yl11 (4, 0, 8) 19) = 0 then (if (nI i11) = 0 then 1 else 0) else 1)), WY X G A a Yl11 0 0 (MEnd X G A ({ frames := 6, cells := 0, slots := 0, locals := 128 } : Room) (PY G a (PV (fun Y' => Y' = setP Y (numP (Y (4, 0, 5)) e o j most p))))) 87 [some (.ref (a (4, 0, 8))), some (.int ((nI j))), some (.int ((nI most))), some (.int ((nvF (Y (4, 0, 5)) e q.1 i11))), some (.int ((nI i11)))] [.int w_74, .ref (a (4, 0, 8))] := by
            intro w_74 ew_74
            refine y_putB (pc' := 90) rfl C fp_X13_159 (v4 rfl) rfl rfl (by rw [ew_74]; exact w74_b) dX13_number_87 rfl (fun Z87 hZ87 => ?_)
            refine y_aload_n (pc' := 91) rfl C dX13_number_90 rfl ?_
            refine y_get (pc' := 94) rfl (v := .ref (a (4, 0, 6))) C fl_X13_28 (v4 rfl) rfl rfl dX13_number_91 rfl ?_
            refine y_iconst (pc' := 95) rfl (v := 4) C dX13_number_94 (by decide) ?_
            refine y_aload_n (pc' := 96) rfl C dX13_number_95 rfl ?_
            refine y_get (pc' := 99) rfl C fl_X13_176 (v4 rfl) rfl rfl dX13_number_96 rfl ?_
            refine y_imul (pc' := 100) rfl C dX13_number_99 ?_
            refine y_iload_n (pc' := 101) rfl C dX13_number_100 rfl ?_
            refine y_iadd (pc' := 102) rfl C dX13_number_101 ?_
            refine y_iload_n (pc' := 103) rfl C dX13_number_102 rfl ?_
            refine y_iastN (pc' := 104) rfl C ((4 * o) + j) (nadd (nmul (rfl : (4 : Int32) = nI 4) (show Z87 (4, 0, 8) 18 = nI o by rw [hZ87, up_s, upd_n (by decide), hYl11, setP_8, pst_n (by decide) (by decide)]; exact h18)) rfl) (v4 rfl) rfl rfl (show ((4 * o) + j) < 160 by omega) rfl dX13_number_103 (fun Z103 hZ103 => ?_)
            refine y_return C rfl dX13_number_104 rfl rfl ?_
            refine (?_ : Z103 = _)
            rw [hZ103, hZ87, hYl11, up_setP8, up_setP6, numP, ← hq, numQ, hnd]
            have e74 : w_74 = if q.2.1 = 0 then (if i11 = 0 then 1 else 0) else 1 := by rw [ew_74, a19]; exact e74_of (by omega)
            rw [e74]
          refine y_if_ne (pc' := 77) rfl (tgt := 82) C dX13_number_74 (by decide) (fun c_74 => ?_) (fun c_74 => ?_)
          · refine y_iconst (pc' := 83) rfl (v := 1) C dX13_number_82 (by decide) ?_
            refine y_goto (tgt := 87) C dX13_number_83 (by decide) ?_
            exact K74 _ (by rw [if_neg c_74])
          · refine y_iload (pc' := 79) rfl C dX13_number_77 rfl ?_
            refine y_if_ne (pc' := 82) rfl (tgt := 86) C dX13_number_79 (by decide) (fun c_79 => ?_) (fun c_79 => ?_)
            · refine y_iconst (pc' := 87) rfl (v := 0) C dX13_number_86 (by decide) ?_
              exact K74 _ (by rw [if_pos c_74, if_neg c_79])
            · refine y_iconst (pc' := 83) rfl (v := 1) C dX13_number_82 (by decide) ?_
              refine y_goto (tgt := 87) C dX13_number_83 (by decide) ?_
              exact K74 _ (by rw [if_pos c_74, if_pos c_79])
        · have h_36 := bi_n0 c_36
          have hdig : 48 ≤ hereT (Y (4, 0, 5)) e (q.1 + i11) ∧ hereT (Y (4, 0, 5)) e (q.1 + i11) ≤ 57 := by rw [a5, Nat.add_zero] at h_36; exact h_36
          refine y_bipush (pc' := 41) rfl (v := 10) C dX13_number_39 (by decide) ?_
          refine y_iload_n (pc' := 42) rfl C dX13_number_41 rfl ?_
          refine y_imul (pc' := 43) rfl C dX13_number_42 ?_
          refine y_aload_n (pc' := 44) rfl C dX13_number_43 rfl ?_
          refine y_iconst (pc' := 45) rfl (v := 0) C dX13_number_44 (by decide) ?_
          refine y_cVi (pc' := 48) (k' := 0) (n' := 0) rfl C (c_X13_here _ G a Yl11 (q.1 + i11) e 0 a16 a17 he (by omega)) my_X13_here aw_1318 (v4 rfl) rfl rfl rfl rfl rfl (Nat.le_of_ble_eq_true rfl) rfl dX13_number_45 rfl rfl (fun r_45 Y_45 hp_45 => ?_)
          obtain ⟨rfl, hY_45⟩ := hp_45
          have hY_45 := hY_45.symm; subst hY_45
          refine y_iadd (pc' := 49) rfl C dX13_number_48 ?_
          refine y_bipush (pc' := 51) rfl (v := 48) C dX13_number_49 (by decide) ?_
          refine y_isub (pc' := 52) rfl C dX13_number_51 ?_
          refine y_istore_n (pc' := 53) rfl C dX13_number_52 (by decide) ?_
          refine y_aload_n (pc' := 54) rfl C dX13_number_53 rfl ?_
          refine y_dup (pc' := 55) rfl C dX13_number_54 rfl ?_
          refine y_get (pc' := 58) rfl C fl_X13_149 (v4 rfl) rfl rfl dX13_number_55 rfl ?_
          refine y_iconst (pc' := 59) rfl (v := 1) C dX13_number_58 (by decide) ?_
          refine y_iadd (pc' := 60) rfl C dX13_number_59 ?_
          refine y_put (pc' := 63) rfl C fp_X13_149 (v4 rfl) rfl rfl dX13_number_60 rfl (fun Z60 hZ60 => ?_)
          refine y_iinc (pc' := 66) rfl (v := (nI (i11 + 1))) C dX13_number_63 rfl (nI_1 i11) (by decide) ?_
          refine y_goto (tgt := 11) C dX13_number_66 (by decide) ?_
          refine y_conv (L' := [some (.ref (a (4, 0, 8))), some (.int ((nI j))), some (.int ((nI most))), some (.int ((nvF (Y (4, 0, 5)) e q.1 (i11 + 1)))), some (.int ((nI (i11 + 1))))]) (by rw [nvF, a5, Nat.add_zero]; rfl) rfl ?_
          exact ih11 (i11 + 1) _ (by omega) (by omega) (by rw [hZ60, hYl11, up_setPs (s' := q.1 + (i11 + 1)) (by rw [setP_8, pst_16]; exact nI_add _ 1)]) (⟨fun h_ => ndF_on hb11 (hx11.1 h_) hdig, fun h_ => absurd hw1 h_⟩)
-- KilnKeeperModel.reads 
set_option maxHeartbeats 1000000 in
set_option maxRecDepth 20000 in
theorem c_X13_reads (l : Launch) (G : GT) (a : Id3 → Nat) (Y : YT) (e o : Nat) (p : PSt) (k m : Nat)  (hat : atP Y p) (h17 : Y (4, 0, 8) 17 = nI e) (he : e ≤ 60) (hp : p.1 ≤ e) (hb : isb p.2.1) (h18 : Y (4, 0, 8) 18 = nI o) (ho : o ≤ 30) (hk : k < 19) (hm : m ≤ 4) : CtY l G a yX13_reads cX13_reads 3 none ({ frames := 7, cells := 0, slots := 0, locals := 152 } : Room) [.ref (a (4, 0, 8)), .ref (gK G k), .int (nI m)] Y (PV (fun Y' => Y' = setP Y (readsP (Y (4, 0, 5)) e o k m p))) := by
  refine CtY.of (by decide) rfl (Nat.le_of_ble_eq_true rfl) ?_
  intro X A C hl
  subst hl
  refine y_aload_n (pc' := 1) rfl C dX13_reads_0 rfl ?_
  refine y_aload_n (pc' := 2) rfl C dX13_reads_1 rfl ?_
  refine y_cVv (pc' := 5) (k' := 0) (n' := 0) rfl C (c_X13_word _ G a Y e p k hat h17 he hp hk) my_X13_word aw_1327 (v4 rfl) rfl rfl rfl rfl rfl (Nat.le_of_ble_eq_true rfl) rfl dX13_reads_2 rfl rfl (fun Y_2 hY_2 => ?_)
  refine y_aload_n (pc' := 6) rfl C dX13_reads_5 rfl ?_
  refine y_iconst (pc' := 7) rfl (v := 1) C dX13_reads_6 (by decide) ?_
  refine y_iload_n (pc' := 8) rfl C dX13_reads_7 rfl ?_
  refine y_cVv (pc' := 11) (k' := 0) (n' := 0) rfl C (c_X13_number _ G a Y_2 e o (wordP (Y (4, 0, 5)) e k p) 1 m (by rw [hY_2]; exact atP_set _ _) (by rw [hY_2, setP_8, pst_n (by decide) (by decide)]; exact h17) he (wordP_le hk hp) (wdS_b hb _) (by rw [hY_2, setP_8, pst_n (by decide) (by decide)]; exact h18) ho (by decide) hm) my_X13_number aw_1333 (v4 rfl) rfl rfl rfl rfl rfl (Nat.le_of_ble_eq_true rfl) rfl dX13_reads_8 rfl rfl (fun Y_8 hY_8 => ?_)
  refine y_return C rfl dX13_reads_11 rfl rfl ?_
  rw [hY_8, hY_2, setP_setP, setP_n (by decide) (by decide)]; rfl
-- KilnKeeperModel.sort 
set_option maxHeartbeats 1000000 in
set_option maxRecDepth 20000 in
theorem c_X13_sort (l : Launch) (G : GT) (a : Id3 → Nat) (Y : YT) (e sp : Nat)  (h16 : Y (4, 0, 8) 16 = nI sp) (h17 : Y (4, 0, 8) 17 = nI e) (he : e ≤ 60) (hp : sp ≤ e) : CtY l G a yX13_sort cX13_sort 2 (some .int) ({ frames := 1, cells := 0, slots := 0, locals := 21 } : Room) [.ref (a (4, 0, 8))] Y (PI (fun r Y' => r = sortF (Y (4, 0, 5)) e sp ∧ Y' = Y)) := by
  refine CtY.of (by decide) rfl (Nat.le_of_ble_eq_true rfl) ?_
  intro X A C hl
  subst hl
  refine y_aload_n (pc' := 1) rfl C dX13_sort_0 rfl ?_
  refine y_iconst (pc' := 2) rfl (v := 0) C dX13_sort_1 (by decide) ?_
  refine y_cVi (pc' := 5) (k' := 0) (n' := 0) rfl C (c_X13_here _ G a Y sp e 0 h16 h17 he (by omega)) my_X13_here aw_1318 (v4 rfl) rfl rfl rfl rfl rfl (Nat.le_of_ble_eq_true rfl) rfl dX13_sort_2 rfl rfl (fun r_2 Y_2 hp_2 => ?_)
  obtain ⟨rfl, hY_2⟩ := hp_2
  have hY_2 := hY_2.symm; subst hY_2
  refine y_istore_n (pc' := 6) rfl C dX13_sort_5 (by decide) ?_
  refine y_iload_n (pc' := 7) rfl C dX13_sort_6 rfl ?_
  refine y_bipush (pc' := 9) rfl (v := 103) C dX13_sort_7 (by decide) ?_
  refine y_ic_ne (pc' := 12) rfl (tgt := 30) C dX13_sort_9 (by decide) (fun c_9 => ?_) (fun c_9 => ?_)
  · refine y_iload_n (pc' := 31) rfl C dX13_sort_30 rfl ?_
    refine y_bipush (pc' := 33) rfl (v := 112) C dX13_sort_31 (by decide) ?_
    refine y_ic_ne (pc' := 36) rfl (tgt := 54) C dX13_sort_33 (by decide) (fun c_33 => ?_) (fun c_33 => ?_)
    · refine y_iload_n (pc' := 55) rfl C dX13_sort_54 rfl ?_
      refine y_ireturn C rfl rfl dX13_sort_55 rfl rfl ?_
      refine ⟨?_, rfl⟩
      simp only [Nat.add_zero] at *
      rw [sortF, if_neg c_9, if_neg c_33]
    · refine y_aload_n (pc' := 37) rfl C dX13_sort_36 rfl ?_
      refine y_iconst (pc' := 38) rfl (v := 1) C dX13_sort_37 (by decide) ?_
      refine y_cVi (pc' := 41) (k' := 0) (n' := 0) rfl C (c_X13_here _ G a Y sp e 1 h16 h17 he (by omega)) my_X13_here aw_1318 (v4 rfl) rfl rfl rfl rfl rfl (Nat.le_of_ble_eq_true rfl) rfl dX13_sort_38 rfl rfl (fun r_38 Y_38 hp_38 => ?_)
      obtain ⟨rfl, hY_38⟩ := hp_38
      have hY_38 := hY_38.symm; subst hY_38
      refine y_bipush (pc' := 43) rfl (v := 117) C dX13_sort_41 (by decide) ?_
      refine y_ic_ne (pc' := 46) rfl (tgt := 51) C dX13_sort_43 (by decide) (fun c_43 => ?_) (fun c_43 => ?_)
      · refine y_bipush (pc' := 53) rfl (v := 112) C dX13_sort_51 (by decide) ?_
        refine y_ireturn C rfl rfl dX13_sort_53 rfl rfl ?_
        refine ⟨?_, rfl⟩
        simp only [Nat.add_zero] at *
        rw [sortF, if_neg c_9, if_pos c_33, if_neg c_43]
      · refine y_bipush (pc' := 48) rfl (v := 117) C dX13_sort_46 (by decide) ?_
        refine y_goto (tgt := 53) C dX13_sort_48 (by decide) ?_
        refine y_ireturn C rfl rfl dX13_sort_53 rfl rfl ?_
        refine ⟨?_, rfl⟩
        simp only [Nat.add_zero] at *
        rw [sortF, if_neg c_9, if_pos c_33, if_pos c_43]
  · refine y_aload_n (pc' := 13) rfl C dX13_sort_12 rfl ?_
    refine y_iconst (pc' := 14) rfl (v := 1) C dX13_sort_13 (by decide) ?_
    refine y_cVi (pc' := 17) (k' := 0) (n' := 0) rfl C (c_X13_here _ G a Y sp e 1 h16 h17 he (by omega)) my_X13_here aw_1318 (v4 rfl) rfl rfl rfl rfl rfl (Nat.le_of_ble_eq_true rfl) rfl dX13_sort_14 rfl rfl (fun r_14 Y_14 hp_14 => ?_)
    obtain ⟨rfl, hY_14⟩ := hp_14
    have hY_14 := hY_14.symm; subst hY_14
    refine y_bipush (pc' := 19) rfl (v := 97) C dX13_sort_17 (by decide) ?_
    refine y_ic_ne (pc' := 22) rfl (tgt := 27) C dX13_sort_19 (by decide) (fun c_19 => ?_) (fun c_19 => ?_)
    · refine y_bipush (pc' := 29) rfl (v := 103) C dX13_sort_27 (by decide) ?_
      refine y_ireturn C rfl rfl dX13_sort_29 rfl rfl ?_
      refine ⟨?_, rfl⟩
      simp only [Nat.add_zero] at *
      rw [sortF, if_pos c_9, if_neg c_19]
    · refine y_bipush (pc' := 24) rfl (v := 110) C dX13_sort_22 (by decide) ?_
      refine y_goto (tgt := 29) C dX13_sort_24 (by decide) ?_
      refine y_ireturn C rfl rfl dX13_sort_29 rfl rfl ?_
      refine ⟨?_, rfl⟩
      simp only [Nat.add_zero] at *
      rw [sortF, if_pos c_9, if_pos c_19]
-- KilnKeeperModel.readsOne 
set_option maxHeartbeats 1000000 in
set_option maxRecDepth 20000 in
theorem c_X13_readsOne (l : Launch) (G : GT) (a : Id3 → Nat) (Y : YT) (e o : Nat) (p : PSt)  (hat : atP Y p) (h17 : Y (4, 0, 8) 17 = nI e) (he : e ≤ 60) (hp : p.1 ≤ e) (hb : isb p.2.1) (h18 : Y (4, 0, 8) 18 = nI o) (ho : o ≤ 30) : CtY l G a yX13_readsOne cX13_readsOne 2 none ({ frames := 8, cells := 0, slots := 0, locals := 174 } : Room) [.ref (a (4, 0, 8))] Y (PV (fun Y' => Y' = up (setP Y (oneP (Y (4, 0, 5)) e o p)) (4, 0, 8) 18 (nI (o + 1)))) := by
  refine CtY.of (by decide) rfl (Nat.le_of_ble_eq_true rfl) ?_
  intro X A C hl
  subst hl
  refine y_aload_n (pc' := 1) rfl C dX13_readsOne_0 rfl ?_
  refine y_cVi (pc' := 4) (k' := 0) (n' := 0) rfl C (c_X13_sort _ G a Y e p.1 hat.1 h17 he hp) my_X13_sort aw_1314 (v4 rfl) rfl rfl rfl rfl rfl (Nat.le_of_ble_eq_true rfl) rfl dX13_readsOne_1 rfl rfl (fun r_1 Y_1 hp_1 => ?_)
  obtain ⟨rfl, hY_1⟩ := hp_1
  have hY_1 := hY_1.symm; subst hY_1
  refine y_istore_n (pc' := 5) rfl C dX13_readsOne_4 (by decide) ?_
  refine y_aload_n (pc' := 6) rfl C dX13_readsOne_5 rfl ?_
  refine y_get (pc' := 9) rfl (v := .ref (a (4, 0, 6))) C fl_X13_28 (v4 rfl) rfl rfl dX13_readsOne_6 rfl ?_
  refine y_iconst (pc' := 10) rfl (v := 4) C dX13_readsOne_9 (by decide) ?_
  refine y_aload_n (pc' := 11) rfl C dX13_readsOne_10 rfl ?_
  refine y_get (pc' := 14) rfl C fl_X13_176 (v4 rfl) rfl rfl dX13_readsOne_11 rfl ?_
  refine y_imul (pc' := 15) rfl C dX13_readsOne_14 ?_
  refine y_iload_n (pc' := 16) rfl C dX13_readsOne_15 rfl ?_
  refine y_iastN (pc' := 17) rfl C (4 * o) (nmul (rfl : (4 : Int32) = nI 4) h18) (v4 rfl) rfl rfl (show (4 * o) < 160 by omega) rfl dX13_readsOne_16 (fun Z16 hZ16 => ?_)
  have eZ : Z16 = setP Y (toldP o (sortF (Y (4, 0, 5)) e p.1) p) := by rw [hZ16]; exact told_up hat _ _
  refine y_iload_n (pc' := 18) rfl C dX13_readsOne_17 rfl ?_
  by_cases s_18_97 : (sortF (Y (4, 0, 5)) e p.1) = 97
  · refine y_tabC (v := 97) (tgt := 116) C s_18_97 dX13_readsOne_18 (by decide) (by decide) rfl (by decide) ?_
    refine y_aload_n (pc' := 117) rfl C dX13_readsOne_116 rfl ?_
    refine y_ldcS (pc' := 119) rfl (i := 0) C (by decide) rfl rfl dX13_readsOne_117 ?_
    refine y_iconst (pc' := 120) rfl (v := 4) C dX13_readsOne_119 (by decide) ?_
    refine y_cVv (pc' := 123) (k' := 0) (n' := 0) rfl C (c_X13_reads _ G a Z16 e o (toldP o (sortF (Y (4, 0, 5)) e p.1) p) 0 4 (by rw [eZ]; exact atP_set _ _) (by rw [eZ, setP_8, pst_n (by decide) (by decide)]; exact h17) he hp hb (by rw [eZ, setP_8, pst_n (by decide) (by decide)]; exact h18) ho (by decide) (by decide)) my_X13_reads aw_1323 (v4 rfl) rfl rfl rfl rfl rfl (Nat.le_of_ble_eq_true rfl) rfl dX13_readsOne_120 rfl rfl (fun Y_120 hY_120 => ?_)
    refine y_goto (tgt := 235) C dX13_readsOne_123 (by decide) ?_
    have eF : Y_120 = setP Y (oneP (Y (4, 0, 5)) e o p) := by rw [oneP, caseP, if_pos s_18_97, hY_120, eZ]; simp only [setP_setP]; simp only [setP_n (show ((4, 0, 5) : Id3) ≠ (4, 0, 8) by decide) (show ((4, 0, 5) : Id3) ≠ (4, 0, 6) by decide)]; try rfl
    refine y_aload_n (pc' := 236) rfl C dX13_readsOne_235 rfl ?_
    refine y_dup (pc' := 237) rfl C dX13_readsOne_236 rfl ?_
    refine y_get (pc' := 240) rfl C fl_X13_176 (v4 rfl) rfl rfl dX13_readsOne_237 rfl ?_
    refine y_iconst (pc' := 241) rfl (v := 1) C dX13_readsOne_240 (by decide) ?_
    refine y_iadd (pc' := 242) rfl C dX13_readsOne_241 ?_
    refine y_put (pc' := 245) rfl C fp_X13_176 (v4 rfl) rfl rfl dX13_readsOne_242 rfl (fun Z242 hZ242 => ?_)
    refine y_return C rfl dX13_readsOne_245 rfl rfl ?_
    refine (?_ : Z242 = _)
    rw [hZ242, eF]; rw [show up (setP Y (oneP (Y (4, 0, 5)) e o p)) (4, 0, 8) 18 (nI (o + 1)) = up (setP Y (oneP (Y (4, 0, 5)) e o p)) (4, 0, 8) 18 (setP Y (oneP (Y (4, 0, 5)) e o p) (4, 0, 8) 18 + 1) by rw [setP_8, pst_n (by decide) (by decide), h18]; congr 1; exact (nI_add o 1).symm]
  by_cases s_18_99 : (sortF (Y (4, 0, 5)) e p.1) = 99
  · refine y_tabC (v := 99) (tgt := 148) C s_18_99 dX13_readsOne_18 (by decide) (by decide) rfl (by decide) ?_
    refine y_aload_n (pc' := 149) rfl C dX13_readsOne_148 rfl ?_
    refine y_ldcS (pc' := 151) rfl (i := 3) C (by decide) rfl rfl dX13_readsOne_149 ?_
    refine y_iconst (pc' := 152) rfl (v := 4) C dX13_readsOne_151 (by decide) ?_
    refine y_cVv (pc' := 155) (k' := 0) (n' := 0) rfl C (c_X13_reads _ G a Z16 e o (toldP o (sortF (Y (4, 0, 5)) e p.1) p) 3 4 (by rw [eZ]; exact atP_set _ _) (by rw [eZ, setP_8, pst_n (by decide) (by decide)]; exact h17) he hp hb (by rw [eZ, setP_8, pst_n (by decide) (by decide)]; exact h18) ho (by decide) (by decide)) my_X13_reads aw_1323 (v4 rfl) rfl rfl rfl rfl rfl (Nat.le_of_ble_eq_true rfl) rfl dX13_readsOne_152 rfl rfl (fun Y_152 hY_152 => ?_)
    refine y_goto (tgt := 235) C dX13_readsOne_155 (by decide) ?_
    have eF : Y_152 = setP Y (oneP (Y (4, 0, 5)) e o p) := by rw [oneP, caseP, if_neg s_18_97, if_pos s_18_99, hY_152, eZ]; simp only [setP_setP]; simp only [setP_n (show ((4, 0, 5) : Id3) ≠ (4, 0, 8) by decide) (show ((4, 0, 5) : Id3) ≠ (4, 0, 6) by decide)]; try rfl
    refine y_aload_n (pc' := 236) rfl C dX13_readsOne_235 rfl ?_
    refine y_dup (pc' := 237) rfl C dX13_readsOne_236 rfl ?_
    refine y_get (pc' := 240) rfl C fl_X13_176 (v4 rfl) rfl rfl dX13_readsOne_237 rfl ?_
    refine y_iconst (pc' := 241) rfl (v := 1) C dX13_readsOne_240 (by decide) ?_
    refine y_iadd (pc' := 242) rfl C dX13_readsOne_241 ?_
    refine y_put (pc' := 245) rfl C fp_X13_176 (v4 rfl) rfl rfl dX13_readsOne_242 rfl (fun Z242 hZ242 => ?_)
    refine y_return C rfl dX13_readsOne_245 rfl rfl ?_
    refine (?_ : Z242 = _)
    rw [hZ242, eF]; rw [show up (setP Y (oneP (Y (4, 0, 5)) e o p)) (4, 0, 8) 18 (nI (o + 1)) = up (setP Y (oneP (Y (4, 0, 5)) e o p)) (4, 0, 8) 18 (setP Y (oneP (Y (4, 0, 5)) e o p) (4, 0, 8) 18 + 1) by rw [setP_8, pst_n (by decide) (by decide), h18]; congr 1; exact (nI_add o 1).symm]
  by_cases s_18_102 : (sortF (Y (4, 0, 5)) e p.1) = 102
  · refine y_tabC (v := 102) (tgt := 210) C s_18_102 dX13_readsOne_18 (by decide) (by decide) rfl (by decide) ?_
    refine y_aload_n (pc' := 211) rfl C dX13_readsOne_210 rfl ?_
    refine y_ldcS (pc' := 213) rfl (i := 8) C (by decide) rfl rfl dX13_readsOne_211 ?_
    refine y_iconst (pc' := 214) rfl (v := 4) C dX13_readsOne_213 (by decide) ?_
    refine y_cVv (pc' := 217) (k' := 0) (n' := 0) rfl C (c_X13_reads _ G a Z16 e o (toldP o (sortF (Y (4, 0, 5)) e p.1) p) 8 4 (by rw [eZ]; exact atP_set _ _) (by rw [eZ, setP_8, pst_n (by decide) (by decide)]; exact h17) he hp hb (by rw [eZ, setP_8, pst_n (by decide) (by decide)]; exact h18) ho (by decide) (by decide)) my_X13_reads aw_1323 (v4 rfl) rfl rfl rfl rfl rfl (Nat.le_of_ble_eq_true rfl) rfl dX13_readsOne_214 rfl rfl (fun Y_214 hY_214 => ?_)
    refine y_goto (tgt := 235) C dX13_readsOne_217 (by decide) ?_
    have eF : Y_214 = setP Y (oneP (Y (4, 0, 5)) e o p) := by rw [oneP, caseP, if_neg s_18_97, if_neg s_18_99, if_pos s_18_102, hY_214, eZ]; simp only [setP_setP]; simp only [setP_n (show ((4, 0, 5) : Id3) ≠ (4, 0, 8) by decide) (show ((4, 0, 5) : Id3) ≠ (4, 0, 6) by decide)]; try rfl
    refine y_aload_n (pc' := 236) rfl C dX13_readsOne_235 rfl ?_
    refine y_dup (pc' := 237) rfl C dX13_readsOne_236 rfl ?_
    refine y_get (pc' := 240) rfl C fl_X13_176 (v4 rfl) rfl rfl dX13_readsOne_237 rfl ?_
    refine y_iconst (pc' := 241) rfl (v := 1) C dX13_readsOne_240 (by decide) ?_
    refine y_iadd (pc' := 242) rfl C dX13_readsOne_241 ?_
    refine y_put (pc' := 245) rfl C fp_X13_176 (v4 rfl) rfl rfl dX13_readsOne_242 rfl (fun Z242 hZ242 => ?_)
    refine y_return C rfl dX13_readsOne_245 rfl rfl ?_
    refine (?_ : Z242 = _)
    rw [hZ242, eF]; rw [show up (setP Y (oneP (Y (4, 0, 5)) e o p)) (4, 0, 8) 18 (nI (o + 1)) = up (setP Y (oneP (Y (4, 0, 5)) e o p)) (4, 0, 8) 18 (setP Y (oneP (Y (4, 0, 5)) e o p) (4, 0, 8) 18 + 1) by rw [setP_8, pst_n (by decide) (by decide), h18]; congr 1; exact (nI_add o 1).symm]
  by_cases s_18_103 : (sortF (Y (4, 0, 5)) e p.1) = 103
  · refine y_tabC (v := 103) (tgt := 220) C s_18_103 dX13_readsOne_18 (by decide) (by decide) rfl (by decide) ?_
    refine y_aload_n (pc' := 221) rfl C dX13_readsOne_220 rfl ?_
    refine y_ldcS (pc' := 223) rfl (i := 9) C (by decide) rfl rfl dX13_readsOne_221 ?_
    refine y_iconst (pc' := 224) rfl (v := 3) C dX13_readsOne_223 (by decide) ?_
    refine y_cVv (pc' := 227) (k' := 0) (n' := 0) rfl C (c_X13_reads _ G a Z16 e o (toldP o (sortF (Y (4, 0, 5)) e p.1) p) 9 3 (by rw [eZ]; exact atP_set _ _) (by rw [eZ, setP_8, pst_n (by decide) (by decide)]; exact h17) he hp hb (by rw [eZ, setP_8, pst_n (by decide) (by decide)]; exact h18) ho (by decide) (by decide)) my_X13_reads aw_1323 (v4 rfl) rfl rfl rfl rfl rfl (Nat.le_of_ble_eq_true rfl) rfl dX13_readsOne_224 rfl rfl (fun Y_224 hY_224 => ?_)
    refine y_goto (tgt := 235) C dX13_readsOne_227 (by decide) ?_
    have eF : Y_224 = setP Y (oneP (Y (4, 0, 5)) e o p) := by rw [oneP, caseP, if_neg s_18_97, if_neg s_18_99, if_neg s_18_102, if_pos s_18_103, hY_224, eZ]; simp only [setP_setP]; simp only [setP_n (show ((4, 0, 5) : Id3) ≠ (4, 0, 8) by decide) (show ((4, 0, 5) : Id3) ≠ (4, 0, 6) by decide)]; try rfl
    refine y_aload_n (pc' := 236) rfl C dX13_readsOne_235 rfl ?_
    refine y_dup (pc' := 237) rfl C dX13_readsOne_236 rfl ?_
    refine y_get (pc' := 240) rfl C fl_X13_176 (v4 rfl) rfl rfl dX13_readsOne_237 rfl ?_
    refine y_iconst (pc' := 241) rfl (v := 1) C dX13_readsOne_240 (by decide) ?_
    refine y_iadd (pc' := 242) rfl C dX13_readsOne_241 ?_
    refine y_put (pc' := 245) rfl C fp_X13_176 (v4 rfl) rfl rfl dX13_readsOne_242 rfl (fun Z242 hZ242 => ?_)
    refine y_return C rfl dX13_readsOne_245 rfl rfl ?_
    refine (?_ : Z242 = _)
    rw [hZ242, eF]; rw [show up (setP Y (oneP (Y (4, 0, 5)) e o p)) (4, 0, 8) 18 (nI (o + 1)) = up (setP Y (oneP (Y (4, 0, 5)) e o p)) (4, 0, 8) 18 (setP Y (oneP (Y (4, 0, 5)) e o p) (4, 0, 8) 18 + 1) by rw [setP_8, pst_n (by decide) (by decide), h18]; congr 1; exact (nI_add o 1).symm]
  by_cases s_18_108 : (sortF (Y (4, 0, 5)) e p.1) = 108
  · refine y_tabC (v := 108) (tgt := 158) C s_18_108 dX13_readsOne_18 (by decide) (by decide) rfl (by decide) ?_
    refine y_aload_n (pc' := 159) rfl C dX13_readsOne_158 rfl ?_
    refine y_ldcS (pc' := 161) rfl (i := 4) C (by decide) rfl rfl dX13_readsOne_159 ?_
    refine y_iconst (pc' := 162) rfl (v := 1) C dX13_readsOne_161 (by decide) ?_
    refine y_cVv (pc' := 165) (k' := 0) (n' := 0) rfl C (c_X13_reads _ G a Z16 e o (toldP o (sortF (Y (4, 0, 5)) e p.1) p) 4 1 (by rw [eZ]; exact atP_set _ _) (by rw [eZ, setP_8, pst_n (by decide) (by decide)]; exact h17) he hp hb (by rw [eZ, setP_8, pst_n (by decide) (by decide)]; exact h18) ho (by decide) (by decide)) my_X13_reads aw_1323 (v4 rfl) rfl rfl rfl rfl rfl (Nat.le_of_ble_eq_true rfl) rfl dX13_readsOne_162 rfl rfl (fun Y_162 hY_162 => ?_)
    refine y_goto (tgt := 235) C dX13_readsOne_165 (by decide) ?_
    have eF : Y_162 = setP Y (oneP (Y (4, 0, 5)) e o p) := by rw [oneP, caseP, if_neg s_18_97, if_neg s_18_99, if_neg s_18_102, if_neg s_18_103, if_pos s_18_108, hY_162, eZ]; simp only [setP_setP]; simp only [setP_n (show ((4, 0, 5) : Id3) ≠ (4, 0, 8) by decide) (show ((4, 0, 5) : Id3) ≠ (4, 0, 6) by decide)]; try rfl
    refine y_aload_n (pc' := 236) rfl C dX13_readsOne_235 rfl ?_
    refine y_dup (pc' := 237) rfl C dX13_readsOne_236 rfl ?_
    refine y_get (pc' := 240) rfl C fl_X13_176 (v4 rfl) rfl rfl dX13_readsOne_237 rfl ?_
    refine y_iconst (pc' := 241) rfl (v := 1) C dX13_readsOne_240 (by decide) ?_
    refine y_iadd (pc' := 242) rfl C dX13_readsOne_241 ?_
    refine y_put (pc' := 245) rfl C fp_X13_176 (v4 rfl) rfl rfl dX13_readsOne_242 rfl (fun Z242 hZ242 => ?_)
    refine y_return C rfl dX13_readsOne_245 rfl rfl ?_
    refine (?_ : Z242 = _)
    rw [hZ242, eF]; rw [show up (setP Y (oneP (Y (4, 0, 5)) e o p)) (4, 0, 8) 18 (nI (o + 1)) = up (setP Y (oneP (Y (4, 0, 5)) e o p)) (4, 0, 8) 18 (setP Y (oneP (Y (4, 0, 5)) e o p) (4, 0, 8) 18 + 1) by rw [setP_8, pst_n (by decide) (by decide), h18]; congr 1; exact (nI_add o 1).symm]
  by_cases s_18_110 : (sortF (Y (4, 0, 5)) e p.1) = 110
  · refine y_tabC (v := 110) (tgt := 126) C s_18_110 dX13_readsOne_18 (by decide) (by decide) rfl (by decide) ?_
    refine y_aload_n (pc' := 127) rfl C dX13_readsOne_126 rfl ?_
    refine y_ldcS (pc' := 129) rfl (i := 2) C (by decide) rfl rfl dX13_readsOne_127 ?_
    refine y_iconst (pc' := 130) rfl (v := 2) C dX13_readsOne_129 (by decide) ?_
    refine y_cVv (pc' := 133) (k' := 0) (n' := 0) rfl C (c_X13_reads _ G a Z16 e o (toldP o (sortF (Y (4, 0, 5)) e p.1) p) 2 2 (by rw [eZ]; exact atP_set _ _) (by rw [eZ, setP_8, pst_n (by decide) (by decide)]; exact h17) he hp hb (by rw [eZ, setP_8, pst_n (by decide) (by decide)]; exact h18) ho (by decide) (by decide)) my_X13_reads aw_1323 (v4 rfl) rfl rfl rfl rfl rfl (Nat.le_of_ble_eq_true rfl) rfl dX13_readsOne_130 rfl rfl (fun Y_130 hY_130 => ?_)
    have f5 : Z16 (4, 0, 5) = Y (4, 0, 5) := by rw [eZ, setP_n (by decide) (by decide)]
    have g130 : Y_130 = setP Y (readsP (Y (4, 0, 5)) e o 2 2 (toldP o (sortF (Y (4, 0, 5)) e p.1) p)) := by rw [hY_130, eZ, setP_setP, setP_n (by decide) (by decide)]
    refine y_aload_n (pc' := 134) rfl C dX13_readsOne_133 rfl ?_
    refine y_iconst (pc' := 135) rfl (v := 2) C dX13_readsOne_134 (by decide) ?_
    refine y_iconst (pc' := 136) rfl (v := 2) C dX13_readsOne_135 (by decide) ?_
    refine y_cVv (pc' := 139) (k' := 0) (n' := 0) rfl C (c_X13_number _ G a Y_130 e o (readsP (Y (4, 0, 5)) e o 2 2 (toldP o (sortF (Y (4, 0, 5)) e p.1) p)) 2 2 (by rw [g130]; exact atP_set _ _) (by rw [g130, setP_8, pst_n (by decide) (by decide)]; exact h17) he (readsP_le (by decide) hp) (numP_b _ _ _ _ _ _) (by rw [g130, setP_8, pst_n (by decide) (by decide)]; exact h18) ho (by decide) (by decide)) my_X13_number aw_1333 (v4 rfl) rfl rfl rfl rfl rfl (Nat.le_of_ble_eq_true rfl) rfl dX13_readsOne_136 rfl rfl (fun Y_136 hY_136 => ?_)
    have g136 : Y_136 = setP Y (numP (Y (4, 0, 5)) e o 2 2 (readsP (Y (4, 0, 5)) e o 2 2 (toldP o (sortF (Y (4, 0, 5)) e p.1) p))) := by rw [hY_136, g130, setP_setP, setP_n (by decide) (by decide)]
    refine y_aload_n (pc' := 140) rfl C dX13_readsOne_139 rfl ?_
    refine y_iconst (pc' := 141) rfl (v := 3) C dX13_readsOne_140 (by decide) ?_
    refine y_iconst (pc' := 142) rfl (v := 2) C dX13_readsOne_141 (by decide) ?_
    refine y_cVv (pc' := 145) (k' := 0) (n' := 0) rfl C (c_X13_number _ G a Y_136 e o (numP (Y (4, 0, 5)) e o 2 2 (readsP (Y (4, 0, 5)) e o 2 2 (toldP o (sortF (Y (4, 0, 5)) e p.1) p))) 3 2 (by rw [g136]; exact atP_set _ _) (by rw [g136, setP_8, pst_n (by decide) (by decide)]; exact h17) he (numP_le (readsP_le (by decide) hp)) (numP_b _ _ _ _ _ _) (by rw [g136, setP_8, pst_n (by decide) (by decide)]; exact h18) ho (by decide) (by decide)) my_X13_number aw_1333 (v4 rfl) rfl rfl rfl rfl rfl (Nat.le_of_ble_eq_true rfl) rfl dX13_readsOne_142 rfl rfl (fun Y_142 hY_142 => ?_)
    refine y_goto (tgt := 235) C dX13_readsOne_145 (by decide) ?_
    have eF : Y_142 = setP Y (oneP (Y (4, 0, 5)) e o p) := by rw [oneP, caseP, if_neg s_18_97, if_neg s_18_99, if_neg s_18_102, if_neg s_18_103, if_neg s_18_108, if_pos s_18_110, hY_142, hY_136, hY_130, eZ]; simp only [setP_setP]; simp only [setP_n (show ((4, 0, 5) : Id3) ≠ (4, 0, 8) by decide) (show ((4, 0, 5) : Id3) ≠ (4, 0, 6) by decide)]; try rfl
    refine y_aload_n (pc' := 236) rfl C dX13_readsOne_235 rfl ?_
    refine y_dup (pc' := 237) rfl C dX13_readsOne_236 rfl ?_
    refine y_get (pc' := 240) rfl C fl_X13_176 (v4 rfl) rfl rfl dX13_readsOne_237 rfl ?_
    refine y_iconst (pc' := 241) rfl (v := 1) C dX13_readsOne_240 (by decide) ?_
    refine y_iadd (pc' := 242) rfl C dX13_readsOne_241 ?_
    refine y_put (pc' := 245) rfl C fp_X13_176 (v4 rfl) rfl rfl dX13_readsOne_242 rfl (fun Z242 hZ242 => ?_)
    refine y_return C rfl dX13_readsOne_245 rfl rfl ?_
    refine (?_ : Z242 = _)
    rw [hZ242, eF]; rw [show up (setP Y (oneP (Y (4, 0, 5)) e o p)) (4, 0, 8) 18 (nI (o + 1)) = up (setP Y (oneP (Y (4, 0, 5)) e o p)) (4, 0, 8) 18 (setP Y (oneP (Y (4, 0, 5)) e o p) (4, 0, 8) 18 + 1) by rw [setP_8, pst_n (by decide) (by decide), h18]; congr 1; exact (nI_add o 1).symm]
  by_cases s_18_112 : (sortF (Y (4, 0, 5)) e p.1) = 112
  · refine y_tabC (v := 112) (tgt := 168) C s_18_112 dX13_readsOne_18 (by decide) (by decide) rfl (by decide) ?_
    refine y_aload_n (pc' := 169) rfl C dX13_readsOne_168 rfl ?_
    refine y_ldcS (pc' := 171) rfl (i := 5) C (by decide) rfl rfl dX13_readsOne_169 ?_
    refine y_iconst (pc' := 172) rfl (v := 2) C dX13_readsOne_171 (by decide) ?_
    refine y_cVv (pc' := 175) (k' := 0) (n' := 0) rfl C (c_X13_reads _ G a Z16 e o (toldP o (sortF (Y (4, 0, 5)) e p.1) p) 5 2 (by rw [eZ]; exact atP_set _ _) (by rw [eZ, setP_8, pst_n (by decide) (by decide)]; exact h17) he hp hb (by rw [eZ, setP_8, pst_n (by decide) (by decide)]; exact h18) ho (by decide) (by decide)) my_X13_reads aw_1323 (v4 rfl) rfl rfl rfl rfl rfl (Nat.le_of_ble_eq_true rfl) rfl dX13_readsOne_172 rfl rfl (fun Y_172 hY_172 => ?_)
    have f5 : Z16 (4, 0, 5) = Y (4, 0, 5) := by rw [eZ, setP_n (by decide) (by decide)]
    have g172 : Y_172 = setP Y (readsP (Y (4, 0, 5)) e o 5 2 (toldP o (sortF (Y (4, 0, 5)) e p.1) p)) := by rw [hY_172, eZ, setP_setP, setP_n (by decide) (by decide)]
    refine y_aload_n (pc' := 176) rfl C dX13_readsOne_175 rfl ?_
    refine y_iconst (pc' := 177) rfl (v := 2) C dX13_readsOne_176 (by decide) ?_
    refine y_iconst (pc' := 178) rfl (v := 4) C dX13_readsOne_177 (by decide) ?_
    refine y_cVv (pc' := 181) (k' := 0) (n' := 0) rfl C (c_X13_number _ G a Y_172 e o (readsP (Y (4, 0, 5)) e o 5 2 (toldP o (sortF (Y (4, 0, 5)) e p.1) p)) 2 4 (by rw [g172]; exact atP_set _ _) (by rw [g172, setP_8, pst_n (by decide) (by decide)]; exact h17) he (readsP_le (by decide) hp) (numP_b _ _ _ _ _ _) (by rw [g172, setP_8, pst_n (by decide) (by decide)]; exact h18) ho (by decide) (by decide)) my_X13_number aw_1333 (v4 rfl) rfl rfl rfl rfl rfl (Nat.le_of_ble_eq_true rfl) rfl dX13_readsOne_178 rfl rfl (fun Y_178 hY_178 => ?_)
    have g178 : Y_178 = setP Y (numP (Y (4, 0, 5)) e o 2 4 (readsP (Y (4, 0, 5)) e o 5 2 (toldP o (sortF (Y (4, 0, 5)) e p.1) p))) := by rw [hY_178, g172, setP_setP, setP_n (by decide) (by decide)]
    refine y_aload_n (pc' := 182) rfl C dX13_readsOne_181 rfl ?_
    refine y_iconst (pc' := 183) rfl (v := 3) C dX13_readsOne_182 (by decide) ?_
    refine y_iconst (pc' := 184) rfl (v := 2) C dX13_readsOne_183 (by decide) ?_
    refine y_cVv (pc' := 187) (k' := 0) (n' := 0) rfl C (c_X13_number _ G a Y_178 e o (numP (Y (4, 0, 5)) e o 2 4 (readsP (Y (4, 0, 5)) e o 5 2 (toldP o (sortF (Y (4, 0, 5)) e p.1) p))) 3 2 (by rw [g178]; exact atP_set _ _) (by rw [g178, setP_8, pst_n (by decide) (by decide)]; exact h17) he (numP_le (readsP_le (by decide) hp)) (numP_b _ _ _ _ _ _) (by rw [g178, setP_8, pst_n (by decide) (by decide)]; exact h18) ho (by decide) (by decide)) my_X13_number aw_1333 (v4 rfl) rfl rfl rfl rfl rfl (Nat.le_of_ble_eq_true rfl) rfl dX13_readsOne_184 rfl rfl (fun Y_184 hY_184 => ?_)
    refine y_goto (tgt := 235) C dX13_readsOne_187 (by decide) ?_
    have eF : Y_184 = setP Y (oneP (Y (4, 0, 5)) e o p) := by rw [oneP, caseP, if_neg s_18_97, if_neg s_18_99, if_neg s_18_102, if_neg s_18_103, if_neg s_18_108, if_neg s_18_110, if_pos s_18_112, hY_184, hY_178, hY_172, eZ]; simp only [setP_setP]; simp only [setP_n (show ((4, 0, 5) : Id3) ≠ (4, 0, 8) by decide) (show ((4, 0, 5) : Id3) ≠ (4, 0, 6) by decide)]; try rfl
    refine y_aload_n (pc' := 236) rfl C dX13_readsOne_235 rfl ?_
    refine y_dup (pc' := 237) rfl C dX13_readsOne_236 rfl ?_
    refine y_get (pc' := 240) rfl C fl_X13_176 (v4 rfl) rfl rfl dX13_readsOne_237 rfl ?_
    refine y_iconst (pc' := 241) rfl (v := 1) C dX13_readsOne_240 (by decide) ?_
    refine y_iadd (pc' := 242) rfl C dX13_readsOne_241 ?_
    refine y_put (pc' := 245) rfl C fp_X13_176 (v4 rfl) rfl rfl dX13_readsOne_242 rfl (fun Z242 hZ242 => ?_)
    refine y_return C rfl dX13_readsOne_245 rfl rfl ?_
    refine (?_ : Z242 = _)
    rw [hZ242, eF]; rw [show up (setP Y (oneP (Y (4, 0, 5)) e o p)) (4, 0, 8) 18 (nI (o + 1)) = up (setP Y (oneP (Y (4, 0, 5)) e o p)) (4, 0, 8) 18 (setP Y (oneP (Y (4, 0, 5)) e o p) (4, 0, 8) 18 + 1) by rw [setP_8, pst_n (by decide) (by decide), h18]; congr 1; exact (nI_add o 1).symm]
  by_cases s_18_116 : (sortF (Y (4, 0, 5)) e p.1) = 116
  · refine y_tabC (v := 116) (tgt := 200) C s_18_116 dX13_readsOne_18 (by decide) (by decide) rfl (by decide) ?_
    refine y_aload_n (pc' := 201) rfl C dX13_readsOne_200 rfl ?_
    refine y_ldcS (pc' := 203) rfl (i := 7) C (by decide) rfl rfl dX13_readsOne_201 ?_
    refine y_iconst (pc' := 204) rfl (v := 1) C dX13_readsOne_203 (by decide) ?_
    refine y_cVv (pc' := 207) (k' := 0) (n' := 0) rfl C (c_X13_reads _ G a Z16 e o (toldP o (sortF (Y (4, 0, 5)) e p.1) p) 7 1 (by rw [eZ]; exact atP_set _ _) (by rw [eZ, setP_8, pst_n (by decide) (by decide)]; exact h17) he hp hb (by rw [eZ, setP_8, pst_n (by decide) (by decide)]; exact h18) ho (by decide) (by decide)) my_X13_reads aw_1323 (v4 rfl) rfl rfl rfl rfl rfl (Nat.le_of_ble_eq_true rfl) rfl dX13_readsOne_204 rfl rfl (fun Y_204 hY_204 => ?_)
    refine y_goto (tgt := 235) C dX13_readsOne_207 (by decide) ?_
    have eF : Y_204 = setP Y (oneP (Y (4, 0, 5)) e o p) := by rw [oneP, caseP, if_neg s_18_97, if_neg s_18_99, if_neg s_18_102, if_neg s_18_103, if_neg s_18_108, if_neg s_18_110, if_neg s_18_112, if_pos s_18_116, hY_204, eZ]; simp only [setP_setP]; simp only [setP_n (show ((4, 0, 5) : Id3) ≠ (4, 0, 8) by decide) (show ((4, 0, 5) : Id3) ≠ (4, 0, 6) by decide)]; try rfl
    refine y_aload_n (pc' := 236) rfl C dX13_readsOne_235 rfl ?_
    refine y_dup (pc' := 237) rfl C dX13_readsOne_236 rfl ?_
    refine y_get (pc' := 240) rfl C fl_X13_176 (v4 rfl) rfl rfl dX13_readsOne_237 rfl ?_
    refine y_iconst (pc' := 241) rfl (v := 1) C dX13_readsOne_240 (by decide) ?_
    refine y_iadd (pc' := 242) rfl C dX13_readsOne_241 ?_
    refine y_put (pc' := 245) rfl C fp_X13_176 (v4 rfl) rfl rfl dX13_readsOne_242 rfl (fun Z242 hZ242 => ?_)
    refine y_return C rfl dX13_readsOne_245 rfl rfl ?_
    refine (?_ : Z242 = _)
    rw [hZ242, eF]; rw [show up (setP Y (oneP (Y (4, 0, 5)) e o p)) (4, 0, 8) 18 (nI (o + 1)) = up (setP Y (oneP (Y (4, 0, 5)) e o p)) (4, 0, 8) 18 (setP Y (oneP (Y (4, 0, 5)) e o p) (4, 0, 8) 18 + 1) by rw [setP_8, pst_n (by decide) (by decide), h18]; congr 1; exact (nI_add o 1).symm]
  by_cases s_18_117 : (sortF (Y (4, 0, 5)) e p.1) = 117
  · refine y_tabC (v := 117) (tgt := 190) C s_18_117 dX13_readsOne_18 (by decide) (by decide) rfl (by decide) ?_
    refine y_aload_n (pc' := 191) rfl C dX13_readsOne_190 rfl ?_
    refine y_ldcS (pc' := 193) rfl (i := 6) C (by decide) rfl rfl dX13_readsOne_191 ?_
    refine y_iconst (pc' := 194) rfl (v := 1) C dX13_readsOne_193 (by decide) ?_
    refine y_cVv (pc' := 197) (k' := 0) (n' := 0) rfl C (c_X13_reads _ G a Z16 e o (toldP o (sortF (Y (4, 0, 5)) e p.1) p) 6 1 (by rw [eZ]; exact atP_set _ _) (by rw [eZ, setP_8, pst_n (by decide) (by decide)]; exact h17) he hp hb (by rw [eZ, setP_8, pst_n (by decide) (by decide)]; exact h18) ho (by decide) (by decide)) my_X13_reads aw_1323 (v4 rfl) rfl rfl rfl rfl rfl (Nat.le_of_ble_eq_true rfl) rfl dX13_readsOne_194 rfl rfl (fun Y_194 hY_194 => ?_)
    refine y_goto (tgt := 235) C dX13_readsOne_197 (by decide) ?_
    have eF : Y_194 = setP Y (oneP (Y (4, 0, 5)) e o p) := by rw [oneP, caseP, if_neg s_18_97, if_neg s_18_99, if_neg s_18_102, if_neg s_18_103, if_neg s_18_108, if_neg s_18_110, if_neg s_18_112, if_neg s_18_116, if_pos s_18_117, hY_194, eZ]; simp only [setP_setP]; simp only [setP_n (show ((4, 0, 5) : Id3) ≠ (4, 0, 8) by decide) (show ((4, 0, 5) : Id3) ≠ (4, 0, 6) by decide)]; try rfl
    refine y_aload_n (pc' := 236) rfl C dX13_readsOne_235 rfl ?_
    refine y_dup (pc' := 237) rfl C dX13_readsOne_236 rfl ?_
    refine y_get (pc' := 240) rfl C fl_X13_176 (v4 rfl) rfl rfl dX13_readsOne_237 rfl ?_
    refine y_iconst (pc' := 241) rfl (v := 1) C dX13_readsOne_240 (by decide) ?_
    refine y_iadd (pc' := 242) rfl C dX13_readsOne_241 ?_
    refine y_put (pc' := 245) rfl C fp_X13_176 (v4 rfl) rfl rfl dX13_readsOne_242 rfl (fun Z242 hZ242 => ?_)
    refine y_return C rfl dX13_readsOne_245 rfl rfl ?_
    refine (?_ : Z242 = _)
    rw [hZ242, eF]; rw [show up (setP Y (oneP (Y (4, 0, 5)) e o p)) (4, 0, 8) 18 (nI (o + 1)) = up (setP Y (oneP (Y (4, 0, 5)) e o p)) (4, 0, 8) 18 (setP Y (oneP (Y (4, 0, 5)) e o p) (4, 0, 8) 18 + 1) by rw [setP_8, pst_n (by decide) (by decide), h18]; congr 1; exact (nI_add o 1).symm]
  refine y_tabD (tgt := 230) C [97, 99, 102, 103, 108, 110, 112, 116, 117] dX13_readsOne_18 (List.forall_mem_cons.mpr ⟨tne s_18_97 rfl, (List.forall_mem_cons.mpr ⟨tne s_18_99 rfl, (List.forall_mem_cons.mpr ⟨tne s_18_102 rfl, (List.forall_mem_cons.mpr ⟨tne s_18_103 rfl, (List.forall_mem_cons.mpr ⟨tne s_18_108 rfl, (List.forall_mem_cons.mpr ⟨tne s_18_110 rfl, (List.forall_mem_cons.mpr ⟨tne s_18_112 rfl, (List.forall_mem_cons.mpr ⟨tne s_18_116 rfl, (List.forall_mem_cons.mpr ⟨tne s_18_117 rfl, (fun _ h => absurd h List.not_mem_nil)⟩)⟩)⟩)⟩)⟩)⟩)⟩)⟩)⟩) rfl (by decide) ?_
  refine y_aload_n (pc' := 231) rfl C dX13_readsOne_230 rfl ?_
  refine y_iconst (pc' := 232) rfl (v := 1) C dX13_readsOne_231 (by decide) ?_
  refine y_putB (pc' := 235) rfl C fp_X13_159 (v4 rfl) rfl rfl (by first | exact Or.inl rfl | exact Or.inr rfl | assumption) dX13_readsOne_232 rfl (fun Z232 hZ232 => ?_)
  have eF : Z232 = setP Y (oneP (Y (4, 0, 5)) e o p) := by rw [oneP, caseP, if_neg s_18_97, if_neg s_18_99, if_neg s_18_102, if_neg s_18_103, if_neg s_18_108, if_neg s_18_110, if_neg s_18_112, if_neg s_18_116, if_neg s_18_117, hZ232, eZ, up_setP8]; try rfl
  refine y_aload_n (pc' := 236) rfl C dX13_readsOne_235 rfl ?_
  refine y_dup (pc' := 237) rfl C dX13_readsOne_236 rfl ?_
  refine y_get (pc' := 240) rfl C fl_X13_176 (v4 rfl) rfl rfl dX13_readsOne_237 rfl ?_
  refine y_iconst (pc' := 241) rfl (v := 1) C dX13_readsOne_240 (by decide) ?_
  refine y_iadd (pc' := 242) rfl C dX13_readsOne_241 ?_
  refine y_put (pc' := 245) rfl C fp_X13_176 (v4 rfl) rfl rfl dX13_readsOne_242 rfl (fun Z242 hZ242 => ?_)
  refine y_return C rfl dX13_readsOne_245 rfl rfl ?_
  refine (?_ : Z242 = _)
  rw [hZ242, eF]; rw [show up (setP Y (oneP (Y (4, 0, 5)) e o p)) (4, 0, 8) 18 (nI (o + 1)) = up (setP Y (oneP (Y (4, 0, 5)) e o p)) (4, 0, 8) 18 (setP Y (oneP (Y (4, 0, 5)) e o p) (4, 0, 8) 18 + 1) by rw [setP_8, pst_n (by decide) (by decide), h18]; congr 1; exact (nI_add o 1).symm]
