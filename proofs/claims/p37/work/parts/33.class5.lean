
def acK (Y : YT) (k q : Nat) : Nat → Int32
  | 0 => 0
  | n + 1 => if nI n = nI q then acK Y k q n else if ahP (Y (1, k, n)) (Y (1, k, q)) = 0 then (if ahP (Y (1, k, q)) (Y (1, k, n)) = 0 then (if nI q ≤ nI n then acK Y k q n else acK Y k q n + 1) else acK Y k q n) else acK Y k q n + 1
def rkK (Y : YT) (k np : Nat) (place : Int32) : Nat → Int32
  | 0 => -10001
  | m + 1 => if acK Y k (np - (m + 1)) np = place then nI (np - (m + 1)) else rkK Y k np place m
theorem rkK_step {Y : YT} {k np i : Nat} {place : Int32} (hi : i < np) (h : ¬ acK Y k i np = place) : rkK Y k np place (np - i) = rkK Y k np place (np - (i + 1)) := by
  rw [show np - i = (np - (i + 1)) + 1 by omega, rkK, show np - (np - (i + 1) + 1) = i by omega, if_neg h]
theorem rkK_hit {Y : YT} {k np i : Nat} {place : Int32} (hi : i < np) (h : acK Y k i np = place) : rkK Y k np place (np - i) = nI i := by
  rw [show np - i = (np - (i + 1)) + 1 by omega, rkK, show np - (np - (i + 1) + 1) = i by omega, if_pos h]
theorem soK_z {Y : YT} {k i : Nat} (h : ¬ Y (1, k, i) 4 ≤ Y (1, k, i) 2) : ∀ n, soK Y k (i + 1 + n) = 0
  | 0 => by rw [Nat.add_zero, soK, if_neg h]
  | n + 1 => by
    rw [show i + 1 + (n + 1) = (i + 1 + n) + 1 by omega, soK, soK_z h n]
    split <;> rfl
theorem fl_X7_67 : FLK "KilnKeeper$Rack" 67 6 4 := ⟨RX6, TX6, 7, rfl, by decide, aw_148, in_TX6⟩
theorem fl_X7_70 : FLK "KilnKeeper$Rack" 70 6 2 := ⟨RX6, TX6, 7, rfl, by decide, aw_143, in_TX6⟩
theorem fp_X7_9 : FLP "KilnKeeper$Rack" 9 7 0 .int false := ⟨RX7, TX7, 2, tyX7, rfl, by decide, aw_167, in_TX7, tyX7_ok, nmX7, rfl, rfl, fun h => by first | exact rfl | cases h⟩
theorem fp_X7_44 : FLP "KilnKeeper$Rack" 44 6 3 .int false := ⟨RX6, TX6, 7, tyX6, rfl, by decide, aw_145, in_TX6, tyX6_ok, nmX6, rfl, rfl, fun h => by first | exact rfl | cases h⟩
theorem fp_X7_51 : FLP "KilnKeeper$Rack" 51 6 5 .boolean false := ⟨RX6, TX6, 7, tyX6, rfl, by decide, aw_150, in_TX6, tyX6_ok, nmX6, rfl, rfl, fun h => by first | exact rfl | cases h⟩
theorem my_X6_begin : MV yX6_begin cX6_begin 4 none 3 := ⟨aw_505, aw_21, ⟨by decide, by decide, by decide +kernel⟩, aw_503, aw_504⟩
theorem my_X6_copyFrom : MV yX6_copyFrom cX6_copyFrom 2 none 1 := ⟨aw_415, aw_21, ⟨by decide, by decide, by decide +kernel⟩, aw_413, aw_414⟩
theorem my_X6_isAheadOf : MV yX6_isAheadOf cX6_isAheadOf 4 (some .boolean) 1 := ⟨aw_1050, aw_21, ⟨by decide, by decide, by decide +kernel⟩, aw_1048, aw_1049⟩
theorem my_X6_passMinute : MV yX6_passMinute cX6_passMinute 3 none 2 := ⟨aw_928, aw_21, ⟨by decide, by decide, by decide +kernel⟩, aw_926, aw_927⟩
theorem my_X7_countAheadOf : MV yX7_countAheadOf cX7_countAheadOf 6 (some .int) 1 := ⟨aw_1046, aw_20, ⟨by decide, by decide, by decide +kernel⟩, aw_1045, aw_13⟩
theorem my_X7_countWithin : MV yX7_countWithin cX7_countWithin 4 (some .int) 0 := ⟨aw_369, aw_20, ⟨by decide, by decide, by decide +kernel⟩, aw_367, aw_368⟩
-- KilnKeeper$Rack.isNoneSoakedTooLong 
set_option maxHeartbeats 1000000 in
set_option maxRecDepth 20000 in
theorem c_X7_isNoneSoakedTooLong (l : Launch) (G : GT) (a : Id3 → Nat) (Y : YT) (k np : Nat)  (hk : k < 11) (hc : Y (0, k, 7) 0 = nI np) (hnp : np ≤ 8) : CtY l G a yX7_isNoneSoakedTooLong cX7_isNoneSoakedTooLong 3 (some .boolean) ({ frames := 1, cells := 0, slots := 0, locals := 21 } : Room) [.ref (a (0, k, 7))] Y (PI (fun r Y' => r = soK Y k np ∧ Y' = Y)) := by
  refine CtY.of (by decide) rfl (Nat.le_of_ble_eq_true rfl) ?_
  intro X A C hl
  subst hl
  refine y_iconst (pc' := 1) rfl (v := 0) C dX7_isNoneSoakedTooLong_0 (by decide) ?_
  refine y_istore_n (pc' := 2) rfl C dX7_isNoneSoakedTooLong_1 (by decide) ?_
  suffices K2 : ∀ (fu_ i2 : Nat) (Yl2 : YT), i2 ≤ np → np < fu_ + i2 → Yl2 = Y → soK Y k i2 = 1 → WY X G A a Yl2 0 0 _ 2 [some (.ref (a (0, k, 7))), some (.int ((nI i2))), none] [] from K2 (np + 1) 0 _ (by omega) (by omega) (rfl) (rfl)
  intro fu_
  induction fu_ with
  | zero => intro i2 Yl2 h1 h2; omega
  | succ fu_ ih2 =>
    intro i2 Yl2 hi2 hm2 hYl2 hx2
    have hcl : Yl2 (0, k, 7) 0 = nI np := by rw [hYl2]; exact hc
    refine y_iload_n (pc' := 3) rfl C dX7_isNoneSoakedTooLong_2 rfl ?_
    refine y_aload_n (pc' := 4) rfl C dX7_isNoneSoakedTooLong_3 rfl ?_
    refine y_get (pc' := 7) rfl C fl_X7_9 (v0 hk rfl) rfl rfl dX7_isNoneSoakedTooLong_4 rfl ?_
    refine y_ic_ge (pc' := 10) rfl (tgt := 39) C dX7_isNoneSoakedTooLong_7 (by decide) (fun c_7 => ?_) (fun c_7 => ?_)
    · rw [hYl2, hc] at c_7
      have hb2 : np ≤ i2 := nI_le_iff (by omega) (by omega) c_7
      refine y_iconst (pc' := 40) rfl (v := 1) C dX7_isNoneSoakedTooLong_39 (by decide) ?_
      refine y_ireturn C rfl (by first | rfl | exact nb_narrow (by assumption)) dX7_isNoneSoakedTooLong_40 rfl rfl ?_
      exact ⟨by rw [← hx2, show i2 = np by omega], hYl2⟩
    · rw [hYl2, hc] at c_7
      have hb2 : i2 < np := nI_nle_iff (by omega) (by omega) c_7
      refine y_aload_n (pc' := 11) rfl C dX7_isNoneSoakedTooLong_10 rfl ?_
      refine y_iload_n (pc' := 12) rfl C dX7_isNoneSoakedTooLong_11 rfl ?_
      refine y_cVr (pc' := 15) (k' := 0) (n' := 0) rfl C (c_X7_find_in _ G a Yl2 k np i2 hk hcl hnp hb2) my_X7_find aw_362 (v0 hk rfl) rfl rfl rfl rfl rfl (Nat.le_of_ble_eq_true rfl) rfl dX7_isNoneSoakedTooLong_12 rfl rfl (fun r_12 Y_12 hp_12 => ?_)
      obtain ⟨rfl, hY_12⟩ := hp_12
      have hY_12 := hY_12.symm; subst hY_12
      refine y_astore_n (pc' := 16) rfl C dX7_isNoneSoakedTooLong_15 (by decide) ?_
      refine y_aload_n (pc' := 17) rfl C dX7_isNoneSoakedTooLong_16 rfl ?_
      refine y_ifnull (pc' := 20) rfl C dX7_isNoneSoakedTooLong_17 ?_
      refine y_aload_n (pc' := 21) rfl C dX7_isNoneSoakedTooLong_20 rfl ?_
      refine y_get (pc' := 24) rfl C fl_X7_67 (v1 hk (show i2 < 8 by omega)) rfl rfl dX7_isNoneSoakedTooLong_21 rfl ?_
      refine y_aload_n (pc' := 25) rfl C dX7_isNoneSoakedTooLong_24 rfl ?_
      refine y_get (pc' := 28) rfl C fl_X7_70 (v1 hk (show i2 < 8 by omega)) rfl rfl dX7_isNoneSoakedTooLong_25 rfl ?_
      refine y_ic_le (pc' := 31) rfl (tgt := 33) C dX7_isNoneSoakedTooLong_28 (by decide) (fun c_28 => ?_) (fun c_28 => ?_)
      · refine y_iinc (pc' := 36) rfl (v := (nI (i2 + 1))) C dX7_isNoneSoakedTooLong_33 rfl (nI_1 i2) (by decide) ?_
        refine y_goto (tgt := 2) C dX7_isNoneSoakedTooLong_36 (by decide) ?_
        refine y_weak (L' := [some (.ref (a (0, k, 7))), some (.int ((nI (i2 + 1)))), none]) (wk_c (wk_c (wk_n wk_nil))) ?_
        exact ih2 (i2 + 1) _ (by omega) (by omega) (hYl2) (by rw [soK, if_pos (by rw [← hYl2]; exact c_28)]; exact hx2)
      · refine y_iconst (pc' := 32) rfl (v := 0) C dX7_isNoneSoakedTooLong_31 (by decide) ?_
        refine y_ireturn C rfl (by first | rfl | exact nb_narrow (by assumption)) dX7_isNoneSoakedTooLong_32 rfl rfl ?_
        exact ⟨by rw [show np = i2 + 1 + (np - (i2 + 1)) by omega, soK_z (by rw [← hYl2]; exact c_28)], hYl2⟩
-- KilnKeeper$Rack.countAheadOf 
set_option maxHeartbeats 1000000 in
set_option maxRecDepth 20000 in
theorem c_X7_countAheadOf (l : Launch) (G : GT) (a : Id3 → Nat) (Y : YT) (k np q : Nat)  (hk : k < 11) (hc : Y (0, k, 7) 0 = nI np) (hnp : np ≤ 8) (hq : q < np) : CtY l G a yX7_countAheadOf cX7_countAheadOf 6 (some .int) ({ frames := 1, cells := 0, slots := 0, locals := 23 } : Room) [.ref (a (0, k, 7)), .int (nI q)] Y (PI (fun r Y' => r = acK Y k q np ∧ Y' = Y)) := by
  refine CtY.of (by decide) rfl (Nat.le_of_ble_eq_true rfl) ?_
  intro X A C hl
  subst hl
  refine y_aload_n (pc' := 1) rfl C dX7_countAheadOf_0 rfl ?_
  refine y_iload_n (pc' := 2) rfl C dX7_countAheadOf_1 rfl ?_
  refine y_cVr (pc' := 5) (k' := 0) (n' := 0) rfl C (c_X7_find_in _ G a Y k np q hk hc hnp hq) my_X7_find aw_362 (v0 hk rfl) rfl rfl rfl rfl rfl (Nat.le_of_ble_eq_true rfl) rfl dX7_countAheadOf_2 rfl rfl (fun r_2 Y_2 hp_2 => ?_)
  obtain ⟨rfl, hY_2⟩ := hp_2
  have hY_2 := hY_2.symm; subst hY_2
  refine y_astore_n (pc' := 6) rfl C dX7_countAheadOf_5 (by decide) ?_
  refine y_iconst (pc' := 7) rfl (v := 0) C dX7_countAheadOf_6 (by decide) ?_
  refine y_istore_n (pc' := 8) rfl C dX7_countAheadOf_7 (by decide) ?_
  refine y_iconst (pc' := 9) rfl (v := 0) C dX7_countAheadOf_8 (by decide) ?_
  refine y_istore (pc' := 11) rfl C dX7_countAheadOf_9 (by decide) ?_
  suffices K11 : ∀ (fu_ i11 : Nat) (Yl11 : YT), i11 ≤ np → np < fu_ + i11 → Yl11 = Y → WY X G A a Yl11 0 0 _ 11 [some (.ref (a (0, k, 7))), some (.int ((nI q))), some (.ref (a (1, k, q))), some (.int ((acK Y k q i11))), some (.int ((nI i11))), none] [] from K11 (np + 1) 0 _ (by omega) (by omega) (rfl)
  intro fu_
  induction fu_ with
  | zero => intro i11 Yl11 h1 h2; omega
  | succ fu_ ih11 =>
    intro i11 Yl11 hi11 hm11 hYl11
    have hcl : Yl11 (0, k, 7) 0 = nI np := by rw [hYl11]; exact hc
    refine y_iload (pc' := 13) rfl C dX7_countAheadOf_11 rfl ?_
    refine y_aload_n (pc' := 14) rfl C dX7_countAheadOf_13 rfl ?_
    refine y_get (pc' := 17) rfl C fl_X7_9 (v0 hk rfl) rfl rfl dX7_countAheadOf_14 rfl ?_
    refine y_ic_ge (pc' := 20) rfl (tgt := 76) C dX7_countAheadOf_17 (by decide) (fun c_17 => ?_) (fun c_17 => ?_)
    · rw [hYl11, hc] at c_17
      have hb11 : np ≤ i11 := nI_le_iff (by omega) (by omega) c_17
      refine y_iload_n (pc' := 77) rfl C dX7_countAheadOf_76 rfl ?_
      refine y_ireturn C rfl rfl dX7_countAheadOf_77 rfl rfl ?_
      exact ⟨by rw [show i11 = np by omega], hYl11⟩
    · rw [hYl11, hc] at c_17
      have hb11 : i11 < np := nI_nle_iff (by omega) (by omega) c_17
      refine y_aload_n (pc' := 21) rfl C dX7_countAheadOf_20 rfl ?_
      refine y_iload (pc' := 23) rfl C dX7_countAheadOf_21 rfl ?_
      refine y_cVr (pc' := 26) (k' := 0) (n' := 0) rfl C (c_X7_find_in _ G a Yl11 k np i11 hk hcl hnp hb11) my_X7_find aw_362 (v0 hk rfl) rfl rfl rfl rfl rfl (Nat.le_of_ble_eq_true rfl) rfl dX7_countAheadOf_23 rfl rfl (fun r_23 Y_23 hp_23 => ?_)
      obtain ⟨rfl, hY_23⟩ := hp_23
      have hY_23 := hY_23.symm; subst hY_23
      refine y_astore (pc' := 28) rfl C dX7_countAheadOf_26 (by decide) ?_
      refine y_aload_n (pc' := 29) rfl C dX7_countAheadOf_28 rfl ?_
      refine y_ifnull (pc' := 32) rfl C dX7_countAheadOf_29 ?_
      refine y_aload (pc' := 34) rfl C dX7_countAheadOf_32 rfl ?_
      refine y_ifnull (pc' := 37) rfl C dX7_countAheadOf_34 ?_
      refine y_iload (pc' := 39) rfl C dX7_countAheadOf_37 rfl ?_
      refine y_iload_n (pc' := 40) rfl C dX7_countAheadOf_39 rfl ?_
      have K40 : ∀ (x3_40 : Int32) (_ : x3_40 = (if (nI i11) = (nI q) then (acK Y k q i11) else (if (ahP (Yl11 (1, k, i11)) (Yl11 (1, k, q))) = 0 then (if (ahP (Yl11 (1, k, q)) (Yl11 (1, k, i11))) = 0 then (if (nI q) ≤ (nI i11) then (acK Y k q i11) else ((acK Y k q i11) + 1)) else (acK Y k q i11)) else ((acK Y k q i11) + 1)))), WY X G A a Yl11 0 0 (MEnd X G A ({ frames := 1, cells := 0, slots := 0, locals := 23 } : Room) (PY G a (PI (fun r Y' => r = acK Y k q np ∧ Y' = Y)))) 70 [some (.ref (a (0, k, 7))), some (.int ((nI q))), some (.ref (a (1, k, q))), some (.int x3_40), some (.int ((nI i11))), some (.ref (a (1, k, i11)))] [] := by
        intro x3_40 ex3_40
        refine y_iinc (pc' := 73) rfl (v := (nI (i11 + 1))) C dX7_countAheadOf_70 rfl (nI_1 i11) (by decide) ?_
        refine y_goto (tgt := 11) C dX7_countAheadOf_73 (by decide) ?_
        refine y_conv (L' := [some (.ref (a (0, k, 7))), some (.int ((nI q))), some (.ref (a (1, k, q))), some (.int ((acK Y k q (i11 + 1)))), some (.int ((nI (i11 + 1)))), some (.ref (a (1, k, i11)))]) (by rw [acK, ex3_40, hYl11]; rfl) rfl ?_
        refine y_weak (L' := [some (.ref (a (0, k, 7))), some (.int ((nI q))), some (.ref (a (1, k, q))), some (.int ((acK Y k q (i11 + 1)))), some (.int ((nI (i11 + 1)))), none]) (wk_c (wk_c (wk_c (wk_c (wk_c (wk_n wk_nil)))))) ?_
        exact ih11 (i11 + 1) _ (by omega) (by omega) (hYl11)
      refine y_ic_eq (pc' := 43) rfl (tgt := 70) C dX7_countAheadOf_40 (by decide) (fun c_40 => ?_) (fun c_40 => ?_)
      · exact K40 _ (by rw [if_pos c_40])
      · refine y_aload (pc' := 45) rfl C dX7_countAheadOf_43 rfl ?_
        refine y_aload_n (pc' := 46) rfl C dX7_countAheadOf_45 rfl ?_
        refine y_cVi (pc' := 49) (k' := 0) (n' := 0) rfl C (c_X6_isAheadOf _ G a Yl11 k i11 q hk (show i11 < 8 by omega) (show q < 8 by omega)) my_X6_isAheadOf aw_1047 (v1 hk (show i11 < 8 by omega)) rfl rfl rfl rfl rfl (Nat.le_of_ble_eq_true rfl) rfl dX7_countAheadOf_46 rfl rfl (fun r_46 Y_46 hp_46 => ?_)
        obtain ⟨rfl, hY_46⟩ := hp_46
        have hY_46 := hY_46.symm; subst hY_46
        refine y_if_ne (pc' := 52) rfl (tgt := 67) C dX7_countAheadOf_49 (by decide) (fun c_49 => ?_) (fun c_49 => ?_)
        · refine y_iinc (pc' := 70) rfl (v := ((acK Y k q i11) + 1)) C dX7_countAheadOf_67 rfl rfl (by decide) ?_
          exact K40 _ (by rw [if_neg c_40, if_neg c_49])
        · refine y_aload_n (pc' := 53) rfl C dX7_countAheadOf_52 rfl ?_
          refine y_aload (pc' := 55) rfl C dX7_countAheadOf_53 rfl ?_
          refine y_cVi (pc' := 58) (k' := 0) (n' := 0) rfl C (c_X6_isAheadOf _ G a Yl11 k q i11 hk (show q < 8 by omega) (show i11 < 8 by omega)) my_X6_isAheadOf aw_1047 (v1 hk (show q < 8 by omega)) rfl rfl rfl rfl rfl (Nat.le_of_ble_eq_true rfl) rfl dX7_countAheadOf_55 rfl rfl (fun r_55 Y_55 hp_55 => ?_)
          obtain ⟨rfl, hY_55⟩ := hp_55
          have hY_55 := hY_55.symm; subst hY_55
          refine y_if_ne (pc' := 61) rfl (tgt := 70) C dX7_countAheadOf_58 (by decide) (fun c_58 => ?_) (fun c_58 => ?_)
          · exact K40 _ (by rw [if_neg c_40, if_pos c_49, if_neg c_58])
          · refine y_iload (pc' := 63) rfl C dX7_countAheadOf_61 rfl ?_
            refine y_iload_n (pc' := 64) rfl C dX7_countAheadOf_63 rfl ?_
            refine y_ic_ge (pc' := 67) rfl (tgt := 70) C dX7_countAheadOf_64 (by decide) (fun c_64 => ?_) (fun c_64 => ?_)
            · exact K40 _ (by rw [if_neg c_40, if_pos c_49, if_pos c_58, if_pos c_64])
            · refine y_iinc (pc' := 70) rfl (v := ((acK Y k q i11) + 1)) C dX7_countAheadOf_67 rfl rfl (by decide) ?_
              exact K40 _ (by rw [if_neg c_40, if_pos c_49, if_pos c_58, if_neg c_64])
-- KilnKeeper$Rack.potAtPlace 
set_option maxHeartbeats 1000000 in
set_option maxRecDepth 20000 in
theorem c_X7_potAtPlace (l : Launch) (G : GT) (a : Id3 → Nat) (Y : YT) (k np : Nat) (place : Int32)  (hk : k < 11) (hc : Y (0, k, 7) 0 = nI np) (hnp : np ≤ 8) : CtY l G a yX7_potAtPlace cX7_potAtPlace 3 (some .int) ({ frames := 2, cells := 0, slots := 0, locals := 48 } : Room) [.ref (a (0, k, 7)), .int place] Y (PI (fun r Y' => r = rkK Y k np place np ∧ Y' = Y)) := by
  refine CtY.of (by decide) rfl (Nat.le_of_ble_eq_true rfl) ?_
  intro X A C hl
  subst hl
  refine y_iconst (pc' := 1) rfl (v := 0) C dX7_potAtPlace_0 (by decide) ?_
  refine y_istore_n (pc' := 2) rfl C dX7_potAtPlace_1 (by decide) ?_
  suffices K2 : ∀ (fu_ i2 : Nat) (Yl2 : YT), i2 ≤ np → np < fu_ + i2 → Yl2 = Y → rkK Y k np place np = rkK Y k np place (np - i2) → WY X G A a Yl2 0 0 _ 2 [some (.ref (a (0, k, 7))), some (.int place), some (.int ((nI i2)))] [] from K2 (np + 1) 0 _ (by omega) (by omega) (rfl) (by rw [Nat.sub_zero])
  intro fu_
  induction fu_ with
  | zero => intro i2 Yl2 h1 h2; omega
  | succ fu_ ih2 =>
    intro i2 Yl2 hi2 hm2 hYl2 hx2
    have hcl : Yl2 (0, k, 7) 0 = nI np := by rw [hYl2]; exact hc
    refine y_iload_n (pc' := 3) rfl C dX7_potAtPlace_2 rfl ?_
    refine y_aload_n (pc' := 4) rfl C dX7_potAtPlace_3 rfl ?_
    refine y_get (pc' := 7) rfl C fl_X7_9 (v0 hk rfl) rfl rfl dX7_potAtPlace_4 rfl ?_
    refine y_ic_ge (pc' := 10) rfl (tgt := 27) C dX7_potAtPlace_7 (by decide) (fun c_7 => ?_) (fun c_7 => ?_)
    · rw [hYl2, hc] at c_7
      have hb2 : np ≤ i2 := nI_le_iff (by omega) (by omega) c_7
      refine y_sipush (pc' := 30) rfl (v := (-10001)) C dX7_potAtPlace_27 (by decide) ?_
      refine y_ireturn C rfl rfl dX7_potAtPlace_30 rfl rfl ?_
      exact ⟨by rw [hx2, show np - i2 = 0 by omega, rkK], hYl2⟩
    · rw [hYl2, hc] at c_7
      have hb2 : i2 < np := nI_nle_iff (by omega) (by omega) c_7
      refine y_aload_n (pc' := 11) rfl C dX7_potAtPlace_10 rfl ?_
      refine y_iload_n (pc' := 12) rfl C dX7_potAtPlace_11 rfl ?_
      refine y_cVi (pc' := 15) (k' := 0) (n' := 0) rfl C (c_X7_countAheadOf _ G a Yl2 k np i2 hk hcl hnp hb2) my_X7_countAheadOf aw_1043 (v0 hk rfl) rfl rfl rfl rfl rfl (Nat.le_of_ble_eq_true rfl) rfl dX7_potAtPlace_12 rfl rfl (fun r_12 Y_12 hp_12 => ?_)
      obtain ⟨rfl, hY_12⟩ := hp_12
      have hY_12 := hY_12.symm; subst hY_12
      refine y_iload_n (pc' := 16) rfl C dX7_potAtPlace_15 rfl ?_
      refine y_ic_ne (pc' := 19) rfl (tgt := 21) C dX7_potAtPlace_16 (by decide) (fun c_16 => ?_) (fun c_16 => ?_)
      · refine y_iinc (pc' := 24) rfl (v := (nI (i2 + 1))) C dX7_potAtPlace_21 rfl (nI_1 i2) (by decide) ?_
        refine y_goto (tgt := 2) C dX7_potAtPlace_24 (by decide) ?_
        exact ih2 (i2 + 1) _ (by omega) (by omega) (hYl2) (by rw [hx2, rkK_step hb2 (by rw [← hYl2]; exact c_16)])
      · refine y_iload_n (pc' := 20) rfl C dX7_potAtPlace_19 rfl ?_
        refine y_ireturn C rfl rfl dX7_potAtPlace_20 rfl rfl ?_
        exact ⟨by rw [hx2, rkK_hit hb2 (by rw [← hYl2]; exact c_16)], hYl2⟩
-- KilnKeeper$Rack.passMinute 
set_option maxHeartbeats 1000000 in
set_option maxRecDepth 20000 in
theorem c_X7_passMinute (l : Launch) (G : GT) (a : Id3 → Nat) (Y : YT) (k np : Nat) (d jm : Int32)  (hk : k < 11) (hc : Y (0, k, 7) 0 = nI np) (hnp : np ≤ 8) : CtY l G a yX7_passMinute cX7_passMinute 5 none ({ frames := 2, cells := 0, slots := 0, locals := 43 } : Room) [.ref (a (0, k, 7)), .int d, .int jm] Y (PV (fun Y' => Y' = potG (fun i => pMin (Y (1, k, i)) d jm) Y k np)) := by
  refine CtY.of (by decide) rfl (Nat.le_of_ble_eq_true rfl) ?_
  intro X A C hl
  subst hl
  refine y_iconst (pc' := 1) rfl (v := 0) C dX7_passMinute_0 (by decide) ?_
  refine y_istore_n (pc' := 2) rfl C dX7_passMinute_1 (by decide) ?_
  suffices K2 : ∀ (fu_ i2 : Nat) (Yl2 : YT), i2 ≤ np → np < fu_ + i2 → Yl2 = potG (fun i => pMin (Y (1, k, i)) d jm) Y k i2 → WY X G A a Yl2 0 0 _ 2 [some (.ref (a (0, k, 7))), some (.int d), some (.int jm), some (.int ((nI i2))), none] [] from K2 (np + 1) 0 _ (by omega) (by omega) ((potG_0 _ _ _).symm)
  intro fu_
  induction fu_ with
  | zero => intro i2 Yl2 h1 h2; omega
  | succ fu_ ih2 =>
    intro i2 Yl2 hi2 hm2 hYl2
    have hcl : Yl2 (0, k, 7) 0 = nI np := by rw [hYl2, potG_n (by simp)]; exact hc
    refine y_iload_n (pc' := 3) rfl C dX7_passMinute_2 rfl ?_
    refine y_aload_n (pc' := 4) rfl C dX7_passMinute_3 rfl ?_
    refine y_get (pc' := 7) rfl C fl_X7_9 (v0 hk rfl) rfl rfl dX7_passMinute_4 rfl ?_
    refine y_ic_ge (pc' := 10) rfl (tgt := 35) C dX7_passMinute_7 (by decide) (fun c_7 => ?_) (fun c_7 => ?_)
    · rw [hcl] at c_7
      have hb2 : np ≤ i2 := nI_le_iff (by omega) (by omega) c_7
      refine y_return C rfl dX7_passMinute_35 rfl rfl ?_
      rw [hYl2, show i2 = np by omega]
    · rw [hcl] at c_7
      have hb2 : i2 < np := nI_nle_iff (by omega) (by omega) c_7
      refine y_aload_n (pc' := 11) rfl C dX7_passMinute_10 rfl ?_
      refine y_iload_n (pc' := 12) rfl C dX7_passMinute_11 rfl ?_
      refine y_cVr (pc' := 15) (k' := 0) (n' := 0) rfl C (c_X7_find_in _ G a Yl2 k np i2 hk hcl hnp hb2) my_X7_find aw_362 (v0 hk rfl) rfl rfl rfl rfl rfl (Nat.le_of_ble_eq_true rfl) rfl dX7_passMinute_12 rfl rfl (fun r_12 Y_12 hp_12 => ?_)
      obtain ⟨rfl, hY_12⟩ := hp_12
      have hY_12 := hY_12.symm; subst hY_12
      refine y_astore (pc' := 17) rfl C dX7_passMinute_15 (by decide) ?_
      refine y_aload (pc' := 19) rfl C dX7_passMinute_17 rfl ?_
      refine y_ifnull (pc' := 22) rfl C dX7_passMinute_19 ?_
      refine y_aload (pc' := 24) rfl C dX7_passMinute_22 rfl ?_
      refine y_iload_n (pc' := 25) rfl C dX7_passMinute_24 rfl ?_
      refine y_iload_n (pc' := 26) rfl C dX7_passMinute_25 rfl ?_
      refine y_cVv (pc' := 29) (k' := 0) (n' := 0) rfl C (c_X6_passMinute _ G a Yl2 k i2 d jm hk (show i2 < 8 by omega)) my_X6_passMinute aw_925 (v1 hk (show i2 < 8 by omega)) rfl rfl rfl rfl rfl (Nat.le_of_ble_eq_true rfl) rfl dX7_passMinute_26 rfl rfl (fun Y_26 hY_26 => ?_)
      refine y_iinc (pc' := 32) rfl (v := (nI (i2 + 1))) C dX7_passMinute_29 rfl (nI_1 i2) (by decide) ?_
      refine y_goto (tgt := 2) C dX7_passMinute_32 (by decide) ?_
      refine y_weak (L' := [some (.ref (a (0, k, 7))), some (.int d), some (.int jm), some (.int ((nI (i2 + 1)))), none]) (wk_c (wk_c (wk_c (wk_c (wk_n wk_nil))))) ?_
      exact ih2 (i2 + 1) _ (by omega) (by omega) (by rw [hY_26, hYl2, potG_ge (Nat.le_refl _), potG_s (fun i => pMin (Y (1, k, i)) d jm)])
-- KilnKeeper$Rack.copyFrom 
set_option maxHeartbeats 1000000 in
set_option maxRecDepth 20000 in
theorem c_X7_copyFrom (l : Launch) (G : GT) (a : Id3 → Nat) (Y : YT) (k k2 np : Nat)  (hk : k < 11) (hk2 : k2 < 11) (hkk : k ≠ k2) (hc2 : Y (0, k2, 7) 0 = nI np) (hnp : np ≤ 8) : CtY l G a yX7_copyFrom cX7_copyFrom 5 none ({ frames := 1, cells := 0, slots := 0, locals := 21 } : Room) [.ref (a (0, k, 7)), .ref (a (0, k2, 7))] Y (PV (fun Y' => Y' = potG (fun i => fil (Y (1, k2, i)) (Y (1, k, i)) 7) (setA Y (0, k, 7) (fil (Y (0, k2, 7)) (Y (0, k, 7)) 1)) k np)) := by
  refine CtY.of (by decide) rfl (Nat.le_of_ble_eq_true rfl) ?_
  intro X A C hl
  subst hl
  refine y_aload_n (pc' := 1) rfl C dX7_copyFrom_0 rfl ?_
  refine y_aload_n (pc' := 2) rfl C dX7_copyFrom_1 rfl ?_
  refine y_get (pc' := 5) rfl C fl_X7_9 (v0 hk2 rfl) rfl rfl dX7_copyFrom_2 rfl ?_
  refine y_put (pc' := 8) rfl C fp_X7_9 (v0 hk rfl) rfl rfl dX7_copyFrom_5 rfl (fun Z5 hZ5 => ?_)
  refine y_iconst (pc' := 9) rfl (v := 0) C dX7_copyFrom_8 (by decide) ?_
  refine y_istore_n (pc' := 10) rfl C dX7_copyFrom_9 (by decide) ?_
  suffices K10 : ∀ (fu_ i10 : Nat) (Yl10 : YT), i10 ≤ np → np < fu_ + i10 → Yl10 = potG (fun i => fil (Y (1, k2, i)) (Y (1, k, i)) 7) (setA Y (0, k, 7) (fil (Y (0, k2, 7)) (Y (0, k, 7)) 1)) k i10 → WY X G A a Yl10 0 0 _ 10 [some (.ref (a (0, k, 7))), some (.ref (a (0, k2, 7))), some (.int ((nI i10))), none, none] [] from K10 (np + 1) 0 _ (by omega) (by omega) (by rw [potG_0, hZ5, up_setA, fil1])
  intro fu_
  induction fu_ with
  | zero => intro i10 Yl10 h1 h2; omega
  | succ fu_ ih10 =>
    intro i10 Yl10 hi10 hm10 hYl10
    have hcl : Yl10 (0, k, 7) 0 = nI np := by rw [hYl10, potG_n (by simp), setA_s, fil_in (by decide)]; exact hc2
    have hcl2 : Yl10 (0, k2, 7) 0 = nI np := by rw [hYl10, potG_n (by simp), setA_n (nek (Ne.symm hkk))]; exact hc2
    refine y_iload_n (pc' := 11) rfl C dX7_copyFrom_10 rfl ?_
    refine y_aload_n (pc' := 12) rfl C dX7_copyFrom_11 rfl ?_
    refine y_get (pc' := 15) rfl C fl_X7_9 (v0 hk rfl) rfl rfl dX7_copyFrom_12 rfl ?_
    refine y_ic_ge (pc' := 18) rfl (tgt := 52) C dX7_copyFrom_15 (by decide) (fun c_15 => ?_) (fun c_15 => ?_)
    · rw [hcl] at c_15
      have hb10 : np ≤ i10 := nI_le_iff (by omega) (by omega) c_15
      refine y_return C rfl dX7_copyFrom_52 rfl rfl ?_
      rw [hYl10, show i10 = np by omega]
    · rw [hcl] at c_15
      have hb10 : i10 < np := nI_nle_iff (by omega) (by omega) c_15
      refine y_aload_n (pc' := 19) rfl C dX7_copyFrom_18 rfl ?_
      refine y_iload_n (pc' := 20) rfl C dX7_copyFrom_19 rfl ?_
      refine y_cVr (pc' := 23) (k' := 0) (n' := 0) rfl C (c_X7_find_in _ G a Yl10 k2 np i10 hk2 hcl2 hnp hb10) my_X7_find aw_362 (v0 hk2 rfl) rfl rfl rfl rfl rfl (Nat.le_of_ble_eq_true rfl) rfl dX7_copyFrom_20 rfl rfl (fun r_20 Y_20 hp_20 => ?_)
      obtain ⟨rfl, hY_20⟩ := hp_20
      have hY_20 := hY_20.symm; subst hY_20
      refine y_astore_n (pc' := 24) rfl C dX7_copyFrom_23 (by decide) ?_
      refine y_aload_n (pc' := 25) rfl C dX7_copyFrom_24 rfl ?_
      refine y_iload_n (pc' := 26) rfl C dX7_copyFrom_25 rfl ?_
      refine y_cVr (pc' := 29) (k' := 0) (n' := 0) rfl C (c_X7_find_in _ G a Yl10 k np i10 hk hcl hnp hb10) my_X7_find aw_362 (v0 hk rfl) rfl rfl rfl rfl rfl (Nat.le_of_ble_eq_true rfl) rfl dX7_copyFrom_26 rfl rfl (fun r_26 Y_26 hp_26 => ?_)
      obtain ⟨rfl, hY_26⟩ := hp_26
      have hY_26 := hY_26.symm; subst hY_26
      refine y_astore (pc' := 31) rfl C dX7_copyFrom_29 (by decide) ?_
      refine y_aload_n (pc' := 32) rfl C dX7_copyFrom_31 rfl ?_
      refine y_ifnull (pc' := 35) rfl C dX7_copyFrom_32 ?_
      refine y_aload (pc' := 37) rfl C dX7_copyFrom_35 rfl ?_
      refine y_ifnull (pc' := 40) rfl C dX7_copyFrom_37 ?_
      refine y_aload (pc' := 42) rfl C dX7_copyFrom_40 rfl ?_
      refine y_aload_n (pc' := 43) rfl C dX7_copyFrom_42 rfl ?_
      refine y_cVv (pc' := 46) (k' := 0) (n' := 0) rfl C (c_X6_copyFrom _ G a Yl10 k i10 k2 hk (show i10 < 8 by omega) hk2 hkk) my_X6_copyFrom aw_412 (v1 hk (show i10 < 8 by omega)) rfl rfl rfl rfl rfl (Nat.le_of_ble_eq_true rfl) rfl dX7_copyFrom_43 rfl rfl (fun Y_43 hY_43 => ?_)
      refine y_iinc (pc' := 49) rfl (v := (nI (i10 + 1))) C dX7_copyFrom_46 rfl (nI_1 i10) (by decide) ?_
      refine y_goto (tgt := 10) C dX7_copyFrom_49 (by decide) ?_
      refine y_weak (L' := [some (.ref (a (0, k, 7))), some (.ref (a (0, k2, 7))), some (.int ((nI (i10 + 1)))), none, none]) (wk_c (wk_c (wk_c (wk_n (wk_n wk_nil))))) ?_
      exact ih10 (i10 + 1) _ (by omega) (by omega) (by rw [hY_43, hYl10, potG_ge (Nat.le_refl _), potG_n (show ¬ (((1, k2, i10) : Id3).1 = 1 ∧ ((1, k2, i10) : Id3).2.1 = k) from fun q => hkk q.2.symm), setA_n (by simp), setA_n (by simp), potG_s (fun i => fil (Y (1, k2, i)) (Y (1, k, i)) 7)])
-- KilnKeeper$Rack.addPot 
set_option maxHeartbeats 1000000 in
set_option maxRecDepth 20000 in
theorem c_X7_addPot (l : Launch) (G : GT) (a : Id3 → Nat) (Y : YT) (k np rf : Nat) (sh ne so : Int32)  (hk : k < 11) (hc : Y (0, k, 7) 0 = nI np) (hnp : np ≤ 8) (hrf : rf = 3 ∨ rf = 4) : CtY l G a yX7_addPot cX7_addPot 7 (some .int) ({ frames := 1, cells := 0, slots := 0, locals := 23 } : Room) [.ref (a (0, k, 7)), .int sh, .int ne, .int so, .ref (a (2, 0, rf))] Y (PI (fun r Y' => r = (if (1 ≤ sh ∧ sh ≤ 60) ∧ (100 ≤ ne ∧ ne ≤ 1200) ∧ (1 ≤ so ∧ so ≤ 99) then (if Y (0, k, 7) 0 < 8 then Y (0, k, 7) 0 else -10004) else -10002) ∧ Y' = if (1 ≤ sh ∧ sh ≤ 60) ∧ (100 ≤ ne ∧ ne ≤ 1200) ∧ (1 ≤ so ∧ so ≤ 99) then (if Y (0, k, 7) 0 < 8 then setA (up Y (0, k, 7) 0 (nI (np + 1))) (1, k, np) (pot0 (Y (1, k, np)) sh ne so) else up (up Y (2, 0, rf) 0 1) (2, 0, rf) 1 (Y (0, k, 7) 0)) else Y)) := by
  refine CtY.of (by decide) rfl (Nat.le_of_ble_eq_true rfl) ?_
  intro X A C hl
  subst hl
  refine y_iconst (pc' := 1) rfl (v := 1) C dX7_addPot_0 (by decide) ?_
  refine y_iload_n (pc' := 2) rfl C dX7_addPot_1 rfl ?_
  refine y_bipush (pc' := 4) rfl (v := 60) C dX7_addPot_2 (by decide) ?_
  refine y_cSNi (pc' := 7) (k' := 0) (n' := 0) rfl C (c_X12_isFrom _ G a Y 1 sh 60) my_X12_isFrom (nw_500) rfl rfl (Nat.le_of_ble_eq_true rfl) rfl dX7_addPot_4 rfl rfl (fun r_4 Y_4 hp_4 => ?_)
  obtain ⟨rfl, hY_4⟩ := hp_4
  have hY_4 := hY_4.symm; subst hY_4
  refine y_if_eq (pc' := 10) rfl (tgt := 32) C dX7_addPot_7 (by decide) (fun c_7 => ?_) (fun c_7 => ?_)
  · have h_7 := bi_0.mp c_7
    refine y_sipush (pc' := 35) rfl (v := (-10002)) C dX7_addPot_32 (by decide) ?_
    refine y_ireturn C rfl rfl dX7_addPot_35 rfl rfl ?_
    refine ⟨?_, ?_⟩ <;> rw [if_neg (fun q => h_7 q.1)]
  · have h_7 := bi_n0 c_7
    refine y_bipush (pc' := 12) rfl (v := 100) C dX7_addPot_10 (by decide) ?_
    refine y_iload_n (pc' := 13) rfl C dX7_addPot_12 rfl ?_
    refine y_sipush (pc' := 16) rfl (v := 1200) C dX7_addPot_13 (by decide) ?_
    refine y_cSNi (pc' := 19) (k' := 0) (n' := 0) rfl C (c_X12_isFrom _ G a Y 100 ne 1200) my_X12_isFrom (nw_500) rfl rfl (Nat.le_of_ble_eq_true rfl) rfl dX7_addPot_16 rfl rfl (fun r_16 Y_16 hp_16 => ?_)
    obtain ⟨rfl, hY_16⟩ := hp_16
    have hY_16 := hY_16.symm; subst hY_16
    refine y_if_eq (pc' := 22) rfl (tgt := 32) C dX7_addPot_19 (by decide) (fun c_19 => ?_) (fun c_19 => ?_)
    · have h_19 := bi_0.mp c_19
      refine y_sipush (pc' := 35) rfl (v := (-10002)) C dX7_addPot_32 (by decide) ?_
      refine y_ireturn C rfl rfl dX7_addPot_35 rfl rfl ?_
      refine ⟨?_, ?_⟩ <;> rw [if_neg (fun q => h_19 q.2.1)]
    · have h_19 := bi_n0 c_19
      refine y_iconst (pc' := 23) rfl (v := 1) C dX7_addPot_22 (by decide) ?_
      refine y_iload_n (pc' := 24) rfl C dX7_addPot_23 rfl ?_
      refine y_bipush (pc' := 26) rfl (v := 99) C dX7_addPot_24 (by decide) ?_
      refine y_cSNi (pc' := 29) (k' := 0) (n' := 0) rfl C (c_X12_isFrom _ G a Y 1 so 99) my_X12_isFrom (nw_500) rfl rfl (Nat.le_of_ble_eq_true rfl) rfl dX7_addPot_26 rfl rfl (fun r_26 Y_26 hp_26 => ?_)
      obtain ⟨rfl, hY_26⟩ := hp_26
      have hY_26 := hY_26.symm; subst hY_26
      refine y_if_ne (pc' := 32) rfl (tgt := 36) C dX7_addPot_29 (by decide) (fun c_29 => ?_) (fun c_29 => ?_)
      · have h_29 := bi_n0 c_29
        refine y_aload_n (pc' := 37) rfl C dX7_addPot_36 rfl ?_
        refine y_get (pc' := 40) rfl C fl_X7_9 (v0 hk rfl) rfl rfl dX7_addPot_37 rfl ?_
        refine y_bipush (pc' := 42) rfl (v := 8) C dX7_addPot_40 (by decide) ?_
        refine y_ic_lt (pc' := 45) rfl (tgt := 56) C dX7_addPot_42 (by decide) (fun c_42 => ?_) (fun c_42 => ?_)
        · have hn8 : np < 8 := by rw [hc] at c_42; exact (nI_ltI (by omega) (by decide)).mp c_42
          refine y_aload_n (pc' := 57) rfl C dX7_addPot_56 rfl ?_
          refine y_get (pc' := 60) rfl C fl_X7_9 (v0 hk rfl) rfl rfl dX7_addPot_57 rfl ?_
          refine y_istore (pc' := 62) rfl C dX7_addPot_60 (by decide) ?_
          refine y_aload_n (pc' := 63) rfl C dX7_addPot_62 rfl ?_
          refine y_dup (pc' := 64) rfl C dX7_addPot_63 rfl ?_
          refine y_get (pc' := 67) rfl C fl_X7_9 (v0 hk rfl) rfl rfl dX7_addPot_64 rfl ?_
          refine y_iconst (pc' := 68) rfl (v := 1) C dX7_addPot_67 (by decide) ?_
          refine y_iadd (pc' := 69) rfl C dX7_addPot_68 ?_
          refine y_put (pc' := 72) rfl C fp_X7_9 (v0 hk rfl) rfl rfl dX7_addPot_69 rfl (fun Z69 hZ69 => ?_)
          have hc1 : Z69 (0, k, 7) 0 = nI (np + 1) := by rw [hZ69, up_s, upd_s, hc]; exact nI_add np 1
          refine y_aload_n (pc' := 73) rfl C dX7_addPot_72 rfl ?_
          refine y_iload (pc' := 75) rfl C dX7_addPot_73 rfl ?_
          refine y_conv (L' := [some (.ref (a (0, k, 7))), some (.int sh), some (.int ne), some (.int so), some (.ref (a (2, 0, rf))), some (.int ((Y (0, k, 7) 0))), none]) (st' := [.int ((nI np)), .ref (a (0, k, 7))]) (rfl) (by rw [hc]) ?_
          refine y_cVr (pc' := 78) (k' := 0) (n' := 0) rfl C (c_X7_find_in _ G a Z69 k (np + 1) np hk hc1 (by omega) (by omega)) my_X7_find aw_362 (v0 hk rfl) rfl rfl rfl rfl rfl (Nat.le_of_ble_eq_true rfl) rfl dX7_addPot_75 rfl rfl (fun r_75 Y_75 hp_75 => ?_)
          obtain ⟨rfl, hY_75⟩ := hp_75
          have hY_75 := hY_75.symm; subst hY_75
          refine y_astore (pc' := 80) rfl C dX7_addPot_78 (by decide) ?_
          refine y_aload (pc' := 82) rfl C dX7_addPot_80 rfl ?_
          refine y_ifnull (pc' := 85) rfl C dX7_addPot_82 ?_
          refine y_aload (pc' := 87) rfl C dX7_addPot_85 rfl ?_
          refine y_iload_n (pc' := 88) rfl C dX7_addPot_87 rfl ?_
          refine y_iload_n (pc' := 89) rfl C dX7_addPot_88 rfl ?_
          refine y_iload_n (pc' := 90) rfl C dX7_addPot_89 rfl ?_
          refine y_cVv (pc' := 93) (k' := 0) (n' := 0) rfl C (c_X6_begin _ G a Z69 k np sh ne so hk (show np < 8 by omega)) my_X6_begin aw_502 (v1 hk (show np < 8 by omega)) rfl rfl rfl rfl rfl (Nat.le_of_ble_eq_true rfl) rfl dX7_addPot_90 rfl rfl (fun Y_90 hY_90 => ?_)
          refine y_iload (pc' := 95) rfl C dX7_addPot_93 rfl ?_
          refine y_ireturn C rfl rfl dX7_addPot_95 rfl rfl ?_
          refine ⟨by rw [if_pos ⟨h_7, h_19, h_29⟩, if_pos c_42], ?_⟩
          rw [if_pos ⟨h_7, h_19, h_29⟩, if_pos c_42, hY_90, hZ69, hc, up_n (by simp), show nI np + 1 = nI (np + 1) from nI_add np 1]
        · refine y_aload (pc' := 47) rfl C dX7_addPot_45 rfl ?_
          refine y_iconst (pc' := 48) rfl (v := 1) C dX7_addPot_47 (by decide) ?_
          refine y_aload_n (pc' := 49) rfl C dX7_addPot_48 rfl ?_
          refine y_get (pc' := 52) rfl C fl_X7_9 (v0 hk rfl) rfl rfl dX7_addPot_49 rfl ?_
          refine y_cVi (pc' := 55) (k' := 0) (n' := 0) rfl C (c_X9_because _ G a Y rf 1 (Y (0, k, 7) 0) hrf) my_X9_because aw_501 (vrf hrf) (trf hrf) rfl rfl rfl rfl (Nat.le_of_ble_eq_true rfl) rfl dX7_addPot_52 rfl rfl (fun r_52 Y_52 hp_52 => ?_)
          obtain ⟨rfl, hY_52⟩ := hp_52
          refine y_ireturn C rfl rfl dX7_addPot_55 rfl rfl ?_
          exact ⟨by rw [if_pos ⟨h_7, h_19, h_29⟩, if_neg c_42], by rw [if_pos ⟨h_7, h_19, h_29⟩, if_neg c_42, hY_52]⟩
      · have h_29 := bi_0.mp c_29
        refine y_sipush (pc' := 35) rfl (v := (-10002)) C dX7_addPot_32 (by decide) ?_
        refine y_ireturn C rfl rfl dX7_addPot_35 rfl rfl ?_
        refine ⟨?_, ?_⟩ <;> rw [if_neg (fun q => h_29 q.2.2)]
-- KilnKeeper$Rack.bringIn 
set_option maxHeartbeats 1000000 in
set_option maxRecDepth 20000 in
theorem c_X7_bringIn (l : Launch) (G : GT) (a : Id3 → Nat) (Y : YT) (k np rf : Nat) (p d : Int32)  (hk : k < 11) (hc : Y (0, k, 7) 0 = nI np) (hnp : np ≤ 8) (hrf : rf = 3 ∨ rf = 4) : CtY l G a yX7_bringIn cX7_bringIn 6 (some .int) ({ frames := 2, cells := 0, slots := 0, locals := 44 } : Room) [.ref (a (0, k, 7)), .int p, .int d, .ref (a (2, 0, rf))] Y (PI (fun r Y' => r = (if 0 ≤ p ∧ p < nI np then (if Y (1, k, nn p) 3 = 0 then (if d ≤ 60 then (if wiK Y k np < 4 then wiK Y k np + 1 else -10004) else -10004) else -10004) else -10001) ∧ Y' = if 0 ≤ p ∧ p < nI np then (if Y (1, k, nn p) 3 = 0 then (if d ≤ 60 then (if wiK Y k np < 4 then up (up Y (1, k, nn p) 3 1) (1, k, nn p) 5 1 else up (up Y (2, 0, rf) 0 1) (2, 0, rf) 1 (wiK Y k np)) else up (up Y (2, 0, rf) 0 4) (2, 0, rf) 1 d) else up (up Y (2, 0, rf) 0 2) (2, 0, rf) 1 (Y (1, k, nn p) 3)) else Y)) := by
  refine CtY.of (by decide) rfl (Nat.le_of_ble_eq_true rfl) ?_
  intro X A C hl
  subst hl
  refine y_aload_n (pc' := 1) rfl C dX7_bringIn_0 rfl ?_
  refine y_iload_n (pc' := 2) rfl C dX7_bringIn_1 rfl ?_
  by_cases hin : 0 ≤ p ∧ p < nI np
  · obtain ⟨q, hq9, hq⟩ := nI_of (Int32.not_lt.mpr hin.1)
    have hqn : q < np := by have := hin.2; rw [hq] at this; exact (nI_ltI hq9 (by omega)).mp this
    have hnq : nn p = q := by rw [hq, nn_nI hq9]
    refine y_conv (L' := [some (.ref (a (0, k, 7))), some (.int p), some (.int d), some (.ref (a (2, 0, rf))), none, none]) (st' := [.int ((nI q)), .ref (a (0, k, 7))]) rfl (by rw [hq]) ?_
    refine y_cVr (pc' := 5) (k' := 0) (n' := 0) rfl C (c_X7_find_in _ G a Y k np q hk hc hnp hqn) my_X7_find aw_362 (v0 hk rfl) rfl rfl rfl rfl rfl (Nat.le_of_ble_eq_true rfl) rfl dX7_bringIn_2 rfl rfl (fun r_2 Y_2 hp_2 => ?_)
    obtain ⟨rfl, hY_2⟩ := hp_2
    have hY_2 := hY_2.symm; subst hY_2
    refine y_astore (pc' := 7) rfl C dX7_bringIn_5 (by decide) ?_
    refine y_aload (pc' := 9) rfl C dX7_bringIn_7 rfl ?_
    refine y_ifnonnull (tgt := 16) C dX7_bringIn_9 (by decide) ?_
    refine y_aload (pc' := 18) rfl C dX7_bringIn_16 rfl ?_
    refine y_get (pc' := 21) rfl C fl_X7_44 (v1 hk (show q < 8 by omega)) rfl rfl dX7_bringIn_18 rfl ?_
    refine y_if_eq (pc' := 24) rfl (tgt := 35) C dX7_bringIn_21 (by decide) (fun c_21 => ?_) (fun c_21 => ?_)
    · refine y_iload_n (pc' := 36) rfl C dX7_bringIn_35 rfl ?_
      refine y_bipush (pc' := 38) rfl (v := 60) C dX7_bringIn_36 (by decide) ?_
      refine y_ic_le (pc' := 41) rfl (tgt := 48) C dX7_bringIn_38 (by decide) (fun c_38 => ?_) (fun c_38 => ?_)
      · refine y_aload_n (pc' := 49) rfl C dX7_bringIn_48 rfl ?_
        refine y_cVi (pc' := 52) (k' := 0) (n' := 0) rfl C (c_X7_countWithin _ G a Y k np hk hc hnp) my_X7_countWithin aw_514 (v0 hk rfl) rfl rfl rfl rfl rfl (Nat.le_of_ble_eq_true rfl) rfl dX7_bringIn_49 rfl rfl (fun r_49 Y_49 hp_49 => ?_)
        obtain ⟨rfl, hY_49⟩ := hp_49
        have hY_49 := hY_49.symm; subst hY_49
        refine y_istore (pc' := 54) rfl C dX7_bringIn_52 (by decide) ?_
        refine y_iload (pc' := 56) rfl C dX7_bringIn_54 rfl ?_
        refine y_iconst (pc' := 57) rfl (v := 4) C dX7_bringIn_56 (by decide) ?_
        refine y_ic_lt (pc' := 60) rfl (tgt := 68) C dX7_bringIn_57 (by decide) (fun c_57 => ?_) (fun c_57 => ?_)
        · refine y_aload (pc' := 70) rfl C dX7_bringIn_68 rfl ?_
          refine y_iconst (pc' := 71) rfl (v := 1) C dX7_bringIn_70 (by decide) ?_
          refine y_put (pc' := 74) rfl C fp_X7_44 (v1 hk (show q < 8 by omega)) rfl rfl dX7_bringIn_71 rfl (fun Z71 hZ71 => ?_)
          refine y_aload (pc' := 76) rfl C dX7_bringIn_74 rfl ?_
          refine y_iconst (pc' := 77) rfl (v := 1) C dX7_bringIn_76 (by decide) ?_
          refine y_putB (pc' := 80) rfl C fp_X7_51 (v1 hk (show q < 8 by omega)) rfl rfl (by first | exact Or.inl rfl | exact Or.inr rfl | assumption) dX7_bringIn_77 rfl (fun Z77 hZ77 => ?_)
          refine y_iload (pc' := 82) rfl C dX7_bringIn_80 rfl ?_
          refine y_iconst (pc' := 83) rfl (v := 1) C dX7_bringIn_82 (by decide) ?_
          refine y_iadd (pc' := 84) rfl C dX7_bringIn_83 ?_
          refine y_ireturn C rfl rfl dX7_bringIn_84 rfl rfl ?_
          exact ⟨by rw [if_pos hin, hnq, if_pos c_21, if_pos c_38, if_pos c_57], by rw [if_pos hin, hnq, if_pos c_21, if_pos c_38, if_pos c_57, hZ77, hZ71]⟩
        · refine y_aload_n (pc' := 61) rfl C dX7_bringIn_60 rfl ?_
          refine y_iconst (pc' := 62) rfl (v := 1) C dX7_bringIn_61 (by decide) ?_
          refine y_iload (pc' := 64) rfl C dX7_bringIn_62 rfl ?_
          refine y_cVi (pc' := 67) (k' := 0) (n' := 0) rfl C (c_X9_because _ G a Y rf 1 (wiK Y k np) hrf) my_X9_because aw_501 (vrf hrf) (trf hrf) rfl rfl rfl rfl (Nat.le_of_ble_eq_true rfl) rfl dX7_bringIn_64 rfl rfl (fun r_64 Y_64 hp_64 => ?_)
          obtain ⟨rfl, hY_64⟩ := hp_64
          refine y_ireturn C rfl rfl dX7_bringIn_67 rfl rfl ?_
          exact ⟨by rw [if_pos hin, hnq, if_pos c_21, if_pos c_38, if_neg c_57], by rw [if_pos hin, hnq, if_pos c_21, if_pos c_38, if_neg c_57, hY_64]⟩
      · refine y_aload_n (pc' := 42) rfl C dX7_bringIn_41 rfl ?_
        refine y_iconst (pc' := 43) rfl (v := 4) C dX7_bringIn_42 (by decide) ?_
        refine y_iload_n (pc' := 44) rfl C dX7_bringIn_43 rfl ?_
        refine y_cVi (pc' := 47) (k' := 0) (n' := 0) rfl C (c_X9_because _ G a Y rf 4 d hrf) my_X9_because aw_501 (vrf hrf) (trf hrf) rfl rfl rfl rfl (Nat.le_of_ble_eq_true rfl) rfl dX7_bringIn_44 rfl rfl (fun r_44 Y_44 hp_44 => ?_)
        obtain ⟨rfl, hY_44⟩ := hp_44
        refine y_ireturn C rfl rfl dX7_bringIn_47 rfl rfl ?_
        exact ⟨by rw [if_pos hin, hnq, if_pos c_21, if_neg c_38], by rw [if_pos hin, hnq, if_pos c_21, if_neg c_38, hY_44]⟩
    · refine y_aload_n (pc' := 25) rfl C dX7_bringIn_24 rfl ?_
      refine y_iconst (pc' := 26) rfl (v := 2) C dX7_bringIn_25 (by decide) ?_
      refine y_aload (pc' := 28) rfl C dX7_bringIn_26 rfl ?_
      refine y_get (pc' := 31) rfl C fl_X7_44 (v1 hk (show q < 8 by omega)) rfl rfl dX7_bringIn_28 rfl ?_
      refine y_cVi (pc' := 34) (k' := 0) (n' := 0) rfl C (c_X9_because _ G a Y rf 2 (Y (1, k, q) 3) hrf) my_X9_because aw_501 (vrf hrf) (trf hrf) rfl rfl rfl rfl (Nat.le_of_ble_eq_true rfl) rfl dX7_bringIn_31 rfl rfl (fun r_31 Y_31 hp_31 => ?_)
      obtain ⟨rfl, hY_31⟩ := hp_31
      refine y_ireturn C rfl rfl dX7_bringIn_34 rfl rfl ?_
      exact ⟨by rw [if_pos hin, hnq, if_neg c_21], by rw [if_pos hin, hnq, if_neg c_21, hY_31]⟩
  · refine y_cVr (pc' := 5) (k' := 0) (n' := 0) rfl C (c_X7_find_out _ G a Y k np p hk hc hnp hin) my_X7_find aw_362 (v0 hk rfl) rfl rfl rfl rfl rfl (Nat.le_of_ble_eq_true rfl) rfl dX7_bringIn_2 rfl rfl (fun r_2 Y_2 hp_2 => ?_)
    obtain ⟨rfl, hY_2⟩ := hp_2
    have hY_2 := hY_2.symm; subst hY_2
    refine y_astoreN (pc' := 7) rfl C dX7_bringIn_5 (by decide) ?_
    refine y_aloadN (pc' := 9) rfl C dX7_bringIn_7 rfl ?_
    refine y_ifnonnullN (pc' := 12) rfl C dX7_bringIn_9 ?_
    refine y_sipush (pc' := 15) rfl (v := (-10001)) C dX7_bringIn_12 (by decide) ?_
    refine y_ireturn C rfl rfl dX7_bringIn_15 rfl rfl ?_
    exact ⟨by rw [if_neg hin], by rw [if_neg hin]⟩
-- KilnKeeper$Rack.bringOut 
set_option maxHeartbeats 1000000 in
set_option maxRecDepth 20000 in
theorem c_X7_bringOut (l : Launch) (G : GT) (a : Id3 → Nat) (Y : YT) (k np rf : Nat) (p d : Int32)  (hk : k < 11) (hc : Y (0, k, 7) 0 = nI np) (hnp : np ≤ 8) (hrf : rf = 3 ∨ rf = 4) : CtY l G a yX7_bringOut cX7_bringOut 5 (some .int) ({ frames := 1, cells := 0, slots := 0, locals := 22 } : Room) [.ref (a (0, k, 7)), .int p, .int d, .ref (a (2, 0, rf))] Y (PI (fun r Y' => r = (if 0 ≤ p ∧ p < nI np then (if Y (1, k, nn p) 5 = 0 then -10004 else if d ≤ 60 then (if Y (1, k, nn p) 3 = 1 then 0 else Y (1, k, nn p) 3) else -10004) else -10001) ∧ Y' = if 0 ≤ p ∧ p < nI np then (if Y (1, k, nn p) 5 = 0 then up (up Y (2, 0, rf) 0 3) (2, 0, rf) 1 (Y (1, k, nn p) 3) else if d ≤ 60 then (if Y (1, k, nn p) 3 = 1 then up (up Y (1, k, nn p) 5 0) (1, k, nn p) 3 0 else up Y (1, k, nn p) 5 0) else up (up Y (2, 0, rf) 0 4) (2, 0, rf) 1 d) else Y)) := by
  refine CtY.of (by decide) rfl (Nat.le_of_ble_eq_true rfl) ?_
  intro X A C hl
  subst hl
  refine y_aload_n (pc' := 1) rfl C dX7_bringOut_0 rfl ?_
  refine y_iload_n (pc' := 2) rfl C dX7_bringOut_1 rfl ?_
  by_cases hin : 0 ≤ p ∧ p < nI np
  · obtain ⟨q, hq9, hq⟩ := nI_of (Int32.not_lt.mpr hin.1)
    have hqn : q < np := by have := hin.2; rw [hq] at this; exact (nI_ltI hq9 (by omega)).mp this
    have hnq : nn p = q := by rw [hq, nn_nI hq9]
    refine y_conv (L' := [some (.ref (a (0, k, 7))), some (.int p), some (.int d), some (.ref (a (2, 0, rf))), none]) (st' := [.int ((nI q)), .ref (a (0, k, 7))]) rfl (by rw [hq]) ?_
    refine y_cVr (pc' := 5) (k' := 0) (n' := 0) rfl C (c_X7_find_in _ G a Y k np q hk hc hnp hqn) my_X7_find aw_362 (v0 hk rfl) rfl rfl rfl rfl rfl (Nat.le_of_ble_eq_true rfl) rfl dX7_bringOut_2 rfl rfl (fun r_2 Y_2 hp_2 => ?_)
    obtain ⟨rfl, hY_2⟩ := hp_2
    have hY_2 := hY_2.symm; subst hY_2
    refine y_astore (pc' := 7) rfl C dX7_bringOut_5 (by decide) ?_
    refine y_aload (pc' := 9) rfl C dX7_bringOut_7 rfl ?_
    refine y_ifnonnull (tgt := 16) C dX7_bringOut_9 (by decide) ?_
    refine y_aload (pc' := 18) rfl C dX7_bringOut_16 rfl ?_
    refine y_getB (pc' := 21) rfl C fl_X7_51 (v1 hk (show q < 8 by omega)) rfl rfl dX7_bringOut_18 rfl (fun hb_18 => ?_)
    refine y_if_ne (pc' := 24) rfl (tgt := 35) C dX7_bringOut_21 (by decide) (fun c_21 => ?_) (fun c_21 => ?_)
    · refine y_iload_n (pc' := 36) rfl C dX7_bringOut_35 rfl ?_
      refine y_bipush (pc' := 38) rfl (v := 60) C dX7_bringOut_36 (by decide) ?_
      refine y_ic_le (pc' := 41) rfl (tgt := 48) C dX7_bringOut_38 (by decide) (fun c_38 => ?_) (fun c_38 => ?_)
      · refine y_aload (pc' := 50) rfl C dX7_bringOut_48 rfl ?_
        refine y_iconst (pc' := 51) rfl (v := 0) C dX7_bringOut_50 (by decide) ?_
        refine y_putB (pc' := 54) rfl C fp_X7_51 (v1 hk (show q < 8 by omega)) rfl rfl (by first | exact Or.inl rfl | exact Or.inr rfl | assumption) dX7_bringOut_51 rfl (fun Z51 hZ51 => ?_)
        refine y_aload (pc' := 56) rfl C dX7_bringOut_54 rfl ?_
        refine y_get (pc' := 59) rfl C fl_X7_44 (v1 hk (show q < 8 by omega)) rfl rfl dX7_bringOut_56 rfl ?_
        refine y_iconst (pc' := 60) rfl (v := 1) C dX7_bringOut_59 (by decide) ?_
        refine y_ic_ne (pc' := 63) rfl (tgt := 69) C dX7_bringOut_60 (by decide) (fun c_60 => ?_) (fun c_60 => ?_)
        · refine y_aload (pc' := 71) rfl C dX7_bringOut_69 rfl ?_
          refine y_get (pc' := 74) rfl C fl_X7_44 (v1 hk (show q < 8 by omega)) rfl rfl dX7_bringOut_71 rfl ?_
          refine y_ireturn C rfl rfl dX7_bringOut_74 rfl rfl ?_
          have e3 : Z51 (1, k, q) 3 = Y (1, k, q) 3 := by rw [hZ51, up_s, upd_n (by decide)]
          exact ⟨by rw [if_pos hin, hnq, if_neg c_21, if_pos c_38, if_neg (by rw [← e3]; exact c_60), e3], by rw [if_pos hin, hnq, if_neg c_21, if_pos c_38, if_neg (by rw [← e3]; exact c_60), hZ51]⟩
        · refine y_aload (pc' := 65) rfl C dX7_bringOut_63 rfl ?_
          refine y_iconst (pc' := 66) rfl (v := 0) C dX7_bringOut_65 (by decide) ?_
          refine y_put (pc' := 69) rfl C fp_X7_44 (v1 hk (show q < 8 by omega)) rfl rfl dX7_bringOut_66 rfl (fun Z66 hZ66 => ?_)
          refine y_aload (pc' := 71) rfl C dX7_bringOut_69 rfl ?_
          refine y_get (pc' := 74) rfl C fl_X7_44 (v1 hk (show q < 8 by omega)) rfl rfl dX7_bringOut_71 rfl ?_
          refine y_ireturn C rfl rfl dX7_bringOut_74 rfl rfl ?_
          have e3 : Z51 (1, k, q) 3 = Y (1, k, q) 3 := by rw [hZ51, up_s, upd_n (by decide)]
          exact ⟨by rw [if_pos hin, hnq, if_neg c_21, if_pos c_38, if_pos (by rw [← e3]; exact c_60), hZ66, up_s, upd_s], by rw [if_pos hin, hnq, if_neg c_21, if_pos c_38, if_pos (by rw [← e3]; exact c_60), hZ66, hZ51]⟩
      · refine y_aload_n (pc' := 42) rfl C dX7_bringOut_41 rfl ?_
        refine y_iconst (pc' := 43) rfl (v := 4) C dX7_bringOut_42 (by decide) ?_
        refine y_iload_n (pc' := 44) rfl C dX7_bringOut_43 rfl ?_
        refine y_cVi (pc' := 47) (k' := 0) (n' := 0) rfl C (c_X9_because _ G a Y rf 4 d hrf) my_X9_because aw_501 (vrf hrf) (trf hrf) rfl rfl rfl rfl (Nat.le_of_ble_eq_true rfl) rfl dX7_bringOut_44 rfl rfl (fun r_44 Y_44 hp_44 => ?_)
        obtain ⟨rfl, hY_44⟩ := hp_44
        refine y_ireturn C rfl rfl dX7_bringOut_47 rfl rfl ?_
        exact ⟨by rw [if_pos hin, hnq, if_neg c_21, if_neg c_38], by rw [if_pos hin, hnq, if_neg c_21, if_neg c_38, hY_44]⟩
    · refine y_aload_n (pc' := 25) rfl C dX7_bringOut_24 rfl ?_
      refine y_iconst (pc' := 26) rfl (v := 3) C dX7_bringOut_25 (by decide) ?_
      refine y_aload (pc' := 28) rfl C dX7_bringOut_26 rfl ?_
      refine y_get (pc' := 31) rfl C fl_X7_44 (v1 hk (show q < 8 by omega)) rfl rfl dX7_bringOut_28 rfl ?_
      refine y_cVi (pc' := 34) (k' := 0) (n' := 0) rfl C (c_X9_because _ G a Y rf 3 (Y (1, k, q) 3) hrf) my_X9_because aw_501 (vrf hrf) (trf hrf) rfl rfl rfl rfl (Nat.le_of_ble_eq_true rfl) rfl dX7_bringOut_31 rfl rfl (fun r_31 Y_31 hp_31 => ?_)
      obtain ⟨rfl, hY_31⟩ := hp_31
      refine y_ireturn C rfl rfl dX7_bringOut_34 rfl rfl ?_
      exact ⟨by rw [if_pos hin, hnq, if_pos c_21], by rw [if_pos hin, hnq, if_pos c_21, hY_31]⟩
  · refine y_cVr (pc' := 5) (k' := 0) (n' := 0) rfl C (c_X7_find_out _ G a Y k np p hk hc hnp hin) my_X7_find aw_362 (v0 hk rfl) rfl rfl rfl rfl rfl (Nat.le_of_ble_eq_true rfl) rfl dX7_bringOut_2 rfl rfl (fun r_2 Y_2 hp_2 => ?_)
    obtain ⟨rfl, hY_2⟩ := hp_2
    have hY_2 := hY_2.symm; subst hY_2
    refine y_astoreN (pc' := 7) rfl C dX7_bringOut_5 (by decide) ?_
    refine y_aloadN (pc' := 9) rfl C dX7_bringOut_7 rfl ?_
    refine y_ifnonnullN (pc' := 12) rfl C dX7_bringOut_9 ?_
    refine y_sipush (pc' := 15) rfl (v := (-10001)) C dX7_bringOut_12 (by decide) ?_
    refine y_ireturn C rfl rfl dX7_bringOut_15 rfl rfl ?_
    exact ⟨by rw [if_neg hin], by rw [if_neg hin]⟩
