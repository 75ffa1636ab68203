theorem fp_X13_213 : FLP "KilnKeeperModel" 213 12 11 .int false := ⟨RX13, TX13, 20, tyX13, rfl, by decide, aw_1054, in_TX13, tyX13_ok, nmX13, rfl, rfl, fun h => by first | exact rfl | cases h⟩
theorem my_X13_writes : MV yX13_writes cX13_writes 2 none 1 := ⟨aw_1361, aw_71, ⟨by decide, by decide, by decide +kernel⟩, aw_1360, aw_50⟩
theorem my_X13_writesNumber : MV yX13_writesNumber cX13_writesNumber 4 none 1 := ⟨aw_1357, aw_71, ⟨by decide, by decide, by decide +kernel⟩, aw_1356, aw_49⟩
theorem my_X13_writesPart : MV yX13_writesPart cX13_writesPart 3 none 2 := ⟨aw_1365, aw_71, ⟨by decide, by decide, by decide +kernel⟩, aw_1364, aw_51⟩
-- KilnKeeperModel.writes 
set_option maxHeartbeats 1000000 in
set_option maxRecDepth 20000 in
theorem c_X13_writes (l : Launch) (G : GT) (a : Id3 → Nat) (Y : YT) (ll : Nat) (c : Int32)  (h11 : Y (4, 0, 8) 11 = nI ll) (hl8 : ll < 80) : CtY l G a yX13_writes cX13_writes 2 none ({ frames := 0, cells := 0, slots := 0, locals := 0 } : Room) [.ref (a (4, 0, 8)), .int c] Y (PV (fun Y' => Y' = lnP Y (wC c (ll, Y (4, 0, 7))))) := by
  refine CtY.of (by decide) rfl (Nat.le_of_ble_eq_true rfl) ?_
  intro X A C hl
  subst hl
  refine y_aload_n (pc' := 1) rfl C dX13_writes_0 rfl ?_
  refine y_get (pc' := 4) rfl (v := .ref (a (4, 0, 7))) C fl_X13_31 (v4 rfl) rfl rfl dX13_writes_1 rfl ?_
  refine y_aload_n (pc' := 5) rfl C dX13_writes_4 rfl ?_
  refine y_get (pc' := 8) rfl C fl_X13_213 (v4 rfl) rfl rfl dX13_writes_5 rfl ?_
  refine y_iload_n (pc' := 9) rfl C dX13_writes_8 rfl ?_
  refine y_iastN (pc' := 10) rfl C ll h11 (v4 rfl) rfl rfl (show ll < 80 by omega) rfl dX13_writes_9 (fun Z9 hZ9 => ?_)
  refine y_aload_n (pc' := 11) rfl C dX13_writes_10 rfl ?_
  refine y_dup (pc' := 12) rfl C dX13_writes_11 rfl ?_
  refine y_get (pc' := 15) rfl C fl_X13_213 (v4 rfl) rfl rfl dX13_writes_12 rfl ?_
  refine y_iconst (pc' := 16) rfl (v := 1) C dX13_writes_15 (by decide) ?_
  refine y_iadd (pc' := 17) rfl C dX13_writes_16 ?_
  refine y_put (pc' := 20) rfl C fp_X13_213 (v4 rfl) rfl rfl dX13_writes_17 rfl (fun Z17 hZ17 => ?_)
  refine y_return C rfl dX13_writes_20 rfl rfl ?_
  exact lnP_wr h11 hZ9 hZ17 (by rw [hZ9, up_n (by decide), h11]; exact nI_add ll 1)
-- KilnKeeperModel.writesNumber 
set_option maxHeartbeats 1000000 in
set_option maxRecDepth 20000 in
theorem c_X13_writesNumber (l : Launch) (G : GT) (a : Id3 → Nat) (Y : YT) (ll v : Nat)  (h11 : Y (4, 0, 8) 11 = nI ll) (hl8 : ll + sb_dg v ≤ 80) (hv : v < 1000000000) : CtY l G a yX13_writesNumber cX13_writesNumber 4 none ({ frames := 1, cells := 0, slots := 0, locals := 21 } : Room) [.ref (a (4, 0, 8)), .int (nI v)] Y (PV (fun Y' => Y' = lnP Y (wN v (ll, Y (4, 0, 7))))) := by
  refine CtY.of (by decide) rfl (Nat.le_of_ble_eq_true rfl) ?_
  intro X A C hl
  subst hl
  have hd1 := (sb_dg_in v).1
  have hd9 := dg9 hv
  refine y_iconst (pc' := 1) rfl (v := 1) C dX13_writesNumber_0 (by decide) ?_
  refine y_istore_n (pc' := 2) rfl C dX13_writesNumber_1 (by decide) ?_
  refine y_conv (L' := [some (.ref (a (4, 0, 8))), some (.int ((nI v))), some (.int ((nI (10 ^ 0)))), none]) (rfl) rfl ?_
  suffices K2 : ∀ (fu_ i2 : Nat) (Yl2 : YT), i2 ≤ (sb_dg v - 1) → (sb_dg v - 1) < fu_ + i2 → Yl2 = Y → WY X G A a Yl2 0 0 _ 2 [some (.ref (a (4, 0, 8))), some (.int ((nI v))), some (.int ((nI (10 ^ i2)))), none] [] from K2 ((sb_dg v - 1) + 1) 0 _ (by omega) (by omega) (rfl)
  intro fu_
  induction fu_ with
  | zero => intro i2 Yl2 h1 h2; omega
  | succ fu_ ih2 =>
    intro i2 Yl2 hi2 hm2 hYl2
    refine y_iload_n (pc' := 3) rfl C dX13_writesNumber_2 rfl ?_
    refine y_iload_n (pc' := 4) rfl C dX13_writesNumber_3 rfl ?_
    refine y_idiv (pc' := 5) rfl C dX13_writesNumber_4 (nI_ne0 (Nat.pow_pos (by decide)) (p10 _ (by omega))) ?_
    refine y_bipush (pc' := 7) rfl (v := 9) C dX13_writesNumber_5 (by decide) ?_
    refine y_ic_le (pc' := 10) rfl (tgt := 18) C dX13_writesNumber_7 (by decide) (fun c_7 => ?_) (fun c_7 => ?_)
    · rw [pk_div (by omega) (Nat.pow_pos (by decide)) (p10 _ (by omega))] at c_7
      have hb2 : sb_dg v - 1 ≤ i2 := by have h_ := nI_leI (a := v / 10 ^ i2) (b := 9) (Nat.lt_of_le_of_lt (Nat.div_le_self _ _) (by omega)) (by decide) |>.mp c_7; have := (dgl hv (by omega)).mp h_; omega
      refine y_iload_n (pc' := 19) rfl C dX13_writesNumber_18 rfl ?_
      refine y_istore_n (pc' := 20) rfl C dX13_writesNumber_19 (by decide) ?_
      refine y_conv (L' := [some (.ref (a (4, 0, 8))), some (.int ((nI v))), some (.int ((nI (10 ^ i2)))), some (.int ((nI (10 ^ (sb_dg v - 1) / 10 ^ 0))))]) (by rw [show i2 = sb_dg v - 1 by omega, Nat.pow_zero, Nat.div_one]; rfl) rfl ?_
      suffices K20 : ∀ (fu_ i20 : Nat) (Yl20 : YT), i20 ≤ (sb_dg v) → (sb_dg v) < fu_ + i20 → Yl20 = lnP Y (ll + i20, lnI (Y (4, 0, 7)) ll v i20) → WY X G A a Yl20 0 0 _ 20 [some (.ref (a (4, 0, 8))), some (.int ((nI v))), some (.int ((nI (10 ^ i2)))), some (.int ((nI (10 ^ (sb_dg v - 1) / 10 ^ i20))))] [] from K20 ((sb_dg v) + 1) 0 _ (by omega) (by omega) (by rw [lnI_0]; exact hYl2.trans (lnP_self h11).symm)
      intro fu_
      induction fu_ with
      | zero => intro i20 Yl20 h1 h2; omega
      | succ fu_ ih20 =>
        intro i20 Yl20 hi20 hm20 hYl20
        refine y_iload_n (pc' := 21) rfl C dX13_writesNumber_20 rfl ?_
        refine y_if_le (pc' := 24) rfl (tgt := 45) C dX13_writesNumber_21 (by decide) (fun c_21 => ?_) (fun c_21 => ?_)
        · have hb20 : sb_dg v ≤ i20 := by rcases Nat.lt_or_ge i20 (sb_dg v) with q | q; exact absurd (by rw [kk_eq (by omega)] at c_21; exact c_21) (show ¬ nI _ ≤ nI 0 from nI_nle (Nat.pow_pos (by decide)) (p10 _ (by omega))); exact q
          refine y_return C rfl dX13_writesNumber_45 rfl rfl ?_
          rw [hYl20, show i20 = sb_dg v by omega]; rfl
        · have hb20 : i20 < sb_dg v := by rcases Nat.lt_or_ge i20 (sb_dg v) with q | q; exact q; exact absurd (by rw [kk_z (by omega)]; decide) c_21
          refine y_aload_n (pc' := 25) rfl C dX13_writesNumber_24 rfl ?_
          refine y_bipush (pc' := 27) rfl (v := 48) C dX13_writesNumber_25 (by decide) ?_
          refine y_iload_n (pc' := 28) rfl C dX13_writesNumber_27 rfl ?_
          refine y_iload_n (pc' := 29) rfl C dX13_writesNumber_28 rfl ?_
          refine y_idiv (pc' := 30) rfl C dX13_writesNumber_29 (by rw [kk_eq (by omega)]; exact nI_ne0 (Nat.pow_pos (by decide)) (p10 _ (by omega))) ?_
          refine y_bipush (pc' := 32) rfl (v := 10) C dX13_writesNumber_30 (by decide) ?_
          refine y_irem (pc' := 33) rfl C dX13_writesNumber_32 (by decide) ?_
          refine y_iadd (pc' := 34) rfl C dX13_writesNumber_33 ?_
          refine y_conv (L' := [some (.ref (a (4, 0, 8))), some (.int ((nI v))), some (.int ((nI (10 ^ i2)))), some (.int ((nI (10 ^ (sb_dg v - 1) / 10 ^ i20))))]) (st' := [.int ((nI (sb_dec v i20))), .ref (a (4, 0, 8))]) (rfl) (by rw [← dig_eq hv hb20]) ?_
          refine y_cVv (pc' := 37) (k' := 0) (n' := 0) rfl C (c_X13_writes _ G a Yl20 (ll + i20) (nI (sb_dec v i20)) (by rw [hYl20, lnP_11]) (by omega)) my_X13_writes aw_1358 (v4 rfl) rfl rfl rfl rfl rfl (Nat.le_of_ble_eq_true rfl) rfl dX13_writesNumber_34 rfl rfl (fun Y_34 hY_34 => ?_)
          refine y_iload_n (pc' := 38) rfl C dX13_writesNumber_37 rfl ?_
          refine y_bipush (pc' := 40) rfl (v := 10) C dX13_writesNumber_38 (by decide) ?_
          refine y_idiv (pc' := 41) rfl C dX13_writesNumber_40 (by decide) ?_
          refine y_istore_n (pc' := 42) rfl C dX13_writesNumber_41 (by decide) ?_
          refine y_goto (tgt := 20) C dX13_writesNumber_42 (by decide) ?_
          refine y_conv (L' := [some (.ref (a (4, 0, 8))), some (.int ((nI v))), some (.int ((nI (10 ^ i2)))), some (.int ((nI (10 ^ (sb_dg v - 1) / 10 ^ (i20 + 1)))))]) (by rw [← kk_s, show (10 : Int32) = nI 10 from rfl, pk_div (kk_lt (by omega)) (by decide) (by decide)]; rfl) rfl ?_
          exact ih20 (i20 + 1) _ (by omega) (by omega) (by rw [hY_34, hYl20, lnP_7, lnP_lnP]; show lnP Y (ll + i20 + 1, upd (lnI (Y (4, 0, 7)) ll v i20) (ll + i20) (nI (sb_dec v i20))) = _; rw [lnI_s]; rfl)
    · rw [pk_div (by omega) (Nat.pow_pos (by decide)) (p10 _ (by omega))] at c_7
      have hb2 : i2 < sb_dg v - 1 := by have h_ : ¬ v / 10 ^ i2 ≤ 9 := fun q => c_7 ((nI_leI (Nat.lt_of_le_of_lt (Nat.div_le_self _ _) (by omega)) (by decide)).mpr q); have h2_ : ¬ sb_dg v ≤ i2 + 1 := fun q => h_ ((dgl hv (by omega)).mpr q); omega
      refine y_iload_n (pc' := 11) rfl C dX13_writesNumber_10 rfl ?_
      refine y_bipush (pc' := 13) rfl (v := 10) C dX13_writesNumber_11 (by decide) ?_
      refine y_imul (pc' := 14) rfl C dX13_writesNumber_13 ?_
      refine y_istore_n (pc' := 15) rfl C dX13_writesNumber_14 (by decide) ?_
      refine y_goto (tgt := 2) C dX13_writesNumber_15 (by decide) ?_
      refine y_conv (L' := [some (.ref (a (4, 0, 8))), some (.int ((nI v))), some (.int ((nI (10 ^ (i2 + 1))))), none]) (by rw [Nat.pow_succ, ← pk_mul]; rfl) rfl ?_
      exact ih2 (i2 + 1) _ (by omega) (by omega) (hYl2)
-- KilnKeeperModel.writesPart 
set_option maxHeartbeats 1000000 in
set_option maxRecDepth 20000 in
theorem c_X13_writesPart (l : Launch) (G : GT) (a : Id3 → Nat) (Y : YT) (ll v : Nat) (c : Int32)  (h11 : Y (4, 0, 8) 11 = nI ll) (hl8 : ll + 1 + sb_dg v ≤ 80) (hv : v < 1000000000) : CtY l G a yX13_writesPart cX13_writesPart 3 none ({ frames := 2, cells := 0, slots := 0, locals := 44 } : Room) [.ref (a (4, 0, 8)), .int c, .int (nI v)] Y (PV (fun Y' => Y' = lnP Y (wN v (wC c (ll, Y (4, 0, 7)))))) := by
  refine CtY.of (by decide) rfl (Nat.le_of_ble_eq_true rfl) ?_
  intro X A C hl
  subst hl
  refine y_aload_n (pc' := 1) rfl C dX13_writesPart_0 rfl ?_
  refine y_iload_n (pc' := 2) rfl C dX13_writesPart_1 rfl ?_
  refine y_cVv (pc' := 5) (k' := 0) (n' := 0) rfl C (c_X13_writes _ G a Y ll c h11 (by omega)) my_X13_writes aw_1358 (v4 rfl) rfl rfl rfl rfl rfl (Nat.le_of_ble_eq_true rfl) rfl dX13_writesPart_2 rfl rfl (fun Y_2 hY_2 => ?_)
  refine y_aload_n (pc' := 6) rfl C dX13_writesPart_5 rfl ?_
  refine y_iload_n (pc' := 7) rfl C dX13_writesPart_6 rfl ?_
  refine y_cVv (pc' := 10) (k' := 0) (n' := 0) rfl C (c_X13_writesNumber _ G a Y_2 (ll + 1) v (by rw [hY_2, lnP_11]; rfl) hl8 hv) my_X13_writesNumber aw_1354 (v4 rfl) rfl rfl rfl rfl rfl (Nat.le_of_ble_eq_true rfl) rfl dX13_writesPart_7 rfl rfl (fun Y_7 hY_7 => ?_)
  refine y_return C rfl dX13_writesPart_10 rfl rfl ?_
  rw [hY_7, hY_2, lnP_7, lnP_lnP]; rfl
-- KilnKeeperModel.tell 
set_option maxHeartbeats 1000000 in
set_option maxRecDepth 20000 in
theorem c_X13_tell (l : Launch) (G : GT) (a : Id3 → Nat) (Y : YT) (lg : Nat)  (b0 : Y (4, 0, 0) 0 = nI (nn (Y (4, 0, 0) 0)) ∧ nn (Y (4, 0, 0) 0) < 10000) (b1 : Y (4, 0, 0) 1 = nI (nn (Y (4, 0, 0) 1)) ∧ nn (Y (4, 0, 0) 1) < 10000) (b9 : Y (4, 0, 0) 9 = nI (nn (Y (4, 0, 0) 9)) ∧ nn (Y (4, 0, 0) 9) < 1000) (b10 : Y (4, 0, 0) 10 = nI (nn (Y (4, 0, 0) 10)) ∧ nn (Y (4, 0, 0) 10) < 1000000000) (h8 : Y (4, 0, 0) 8 = nI lg) (hlg : lg ≤ 5) (hrow : ∀ j, j < lg → Y (4, 0, 0) (17 + j) = nI (nn (Y (4, 0, 0) (17 + j))) ∧ nn (Y (4, 0, 0) (17 + j)) < 1000) : CtY l G a yX13_tell cX13_tell 2 (some .int) ({ frames := 3, cells := 0, slots := 0, locals := 66 } : Room) [.ref (a (4, 0, 8))] Y (PI (fun r Y' => r = nI (tellL (Y (4, 0, 0)) lg (0, Y (4, 0, 7))).1 ∧ Y' = lnP Y (tellL (Y (4, 0, 0)) lg (0, Y (4, 0, 7))))) := by
  refine CtY.of (by decide) rfl (Nat.le_of_ble_eq_true rfl) ?_
  intro X A C hl
  subst hl
  have g0 := dg4 b0.2
  have g1 := dg4 b1.2
  have g9 := dg3 b9.2
  have g10 := dg9 b10.2
  refine y_aload_n (pc' := 1) rfl C dX13_tell_0 rfl ?_
  refine y_iconst (pc' := 2) rfl (v := 0) C dX13_tell_1 (by decide) ?_
  refine y_put (pc' := 5) rfl C fp_X13_213 (v4 rfl) rfl rfl dX13_tell_2 rfl (fun Z2 hZ2 => ?_)
  have z2 : Z2 = lnP Y (0, Y (4, 0, 7)) := by rw [hZ2]; exact ln_zero Y
  have e0_Z2 : Z2 (4, 0, 0) = Y (4, 0, 0) := by rw [z2, lnP_n (by decide) (by decide)]
  refine y_aload_n (pc' := 6) rfl C dX13_tell_5 rfl ?_
  refine y_aload_n (pc' := 7) rfl C dX13_tell_6 rfl ?_
  refine y_get (pc' := 10) rfl (v := .ref (a (4, 0, 0))) C fl_X13_7 (v4 rfl) rfl rfl dX13_tell_7 rfl ?_
  refine y_iconst (pc' := 11) rfl (v := 0) C dX13_tell_10 (by decide) ?_
  refine y_ialdN (pc' := 12) rfl C 0 rfl (v4 rfl) rfl rfl (by decide) rfl dX13_tell_11 ?_
  refine y_conv (L' := [some (.ref (a (4, 0, 8))), none]) (st' := [.int ((nI (nn (Y (4, 0, 0) 0)))), .ref (a (4, 0, 8))]) (rfl) (by rw [e0_Z2, ← b0.1]) ?_
  refine y_cVv (pc' := 15) (k' := 0) (n' := 0) rfl C (c_X13_writesNumber _ G a Z2 0 (nn (Y (4, 0, 0) 0)) (by rw [z2, lnP_11]) (by omega) (by omega)) my_X13_writesNumber aw_1354 (v4 rfl) rfl rfl rfl rfl rfl (Nat.le_of_ble_eq_true rfl) rfl dX13_tell_12 rfl rfl (fun Y_12 hY_12 => ?_)
  have g12 : Y_12 = lnP Y (wN (nn (Y (4, 0, 0) 0)) (0, Y (4, 0, 7))) := by rw [hY_12, z2, lnP_7, lnP_lnP]
  have e0_Y_12 : Y_12 (4, 0, 0) = Y (4, 0, 0) := by rw [g12, lnP_n (by decide) (by decide)]
  refine y_aload_n (pc' := 16) rfl C dX13_tell_15 rfl ?_
  refine y_bipush (pc' := 18) rfl (v := 62) C dX13_tell_16 (by decide) ?_
  refine y_aload_n (pc' := 19) rfl C dX13_tell_18 rfl ?_
  refine y_get (pc' := 22) rfl (v := .ref (a (4, 0, 0))) C fl_X13_7 (v4 rfl) rfl rfl dX13_tell_19 rfl ?_
  refine y_iconst (pc' := 23) rfl (v := 1) C dX13_tell_22 (by decide) ?_
  refine y_ialdN (pc' := 24) rfl C 1 rfl (v4 rfl) rfl rfl (by decide) rfl dX13_tell_23 ?_
  refine y_conv (L' := [some (.ref (a (4, 0, 8))), none]) (st' := [.int ((nI (nn (Y (4, 0, 0) 1)))), .int 62, .ref (a (4, 0, 8))]) (rfl) (by rw [e0_Y_12, ← b1.1]) ?_
  refine y_cVv (pc' := 27) (k' := 0) (n' := 0) rfl C (c_X13_writesPart _ G a Y_12 (wN (nn (Y (4, 0, 0) 0)) (0, Y (4, 0, 7))).1 (nn (Y (4, 0, 0) 1)) 62 (by rw [g12, lnP_11]) (by show 0 + _ + 1 + _ ≤ 80; omega) (by omega)) my_X13_writesPart aw_1362 (v4 rfl) rfl rfl rfl rfl rfl (Nat.le_of_ble_eq_true rfl) rfl dX13_tell_24 rfl rfl (fun Y_24 hY_24 => ?_)
  have g24 : Y_24 = lnP Y (wN (nn (Y (4, 0, 0) 1)) (wC 62 (wN (nn (Y (4, 0, 0) 0)) (0, Y (4, 0, 7))))) := by rw [hY_24, g12, lnP_7, lnP_lnP]
  have e0_Y_24 : Y_24 (4, 0, 0) = Y (4, 0, 0) := by rw [g24, lnP_n (by decide) (by decide)]
  refine y_aload_n (pc' := 28) rfl C dX13_tell_27 rfl ?_
  refine y_bipush (pc' := 30) rfl (v := 100) C dX13_tell_28 (by decide) ?_
  refine y_aload_n (pc' := 31) rfl C dX13_tell_30 rfl ?_
  refine y_get (pc' := 34) rfl (v := .ref (a (4, 0, 0))) C fl_X13_7 (v4 rfl) rfl rfl dX13_tell_31 rfl ?_
  refine y_bipush (pc' := 36) rfl (v := 9) C dX13_tell_34 (by decide) ?_
  refine y_ialdN (pc' := 37) rfl C 9 rfl (v4 rfl) rfl rfl (by decide) rfl dX13_tell_36 ?_
  refine y_conv (L' := [some (.ref (a (4, 0, 8))), none]) (st' := [.int ((nI (nn (Y (4, 0, 0) 9)))), .int 100, .ref (a (4, 0, 8))]) (rfl) (by rw [e0_Y_24, ← b9.1]) ?_
  refine y_cVv (pc' := 40) (k' := 0) (n' := 0) rfl C (c_X13_writesPart _ G a Y_24 (wN (nn (Y (4, 0, 0) 1)) (wC 62 (wN (nn (Y (4, 0, 0) 0)) (0, Y (4, 0, 7))))).1 (nn (Y (4, 0, 0) 9)) 100 (by rw [g24, lnP_11]) (by show 0 + _ + 1 + _ + 1 + _ ≤ 80; omega) (by omega)) my_X13_writesPart aw_1362 (v4 rfl) rfl rfl rfl rfl rfl (Nat.le_of_ble_eq_true rfl) rfl dX13_tell_37 rfl rfl (fun Y_37 hY_37 => ?_)
  have g37 : Y_37 = lnP Y (wN (nn (Y (4, 0, 0) 9)) (wC 100 (wN (nn (Y (4, 0, 0) 1)) (wC 62 (wN (nn (Y (4, 0, 0) 0)) (0, Y (4, 0, 7))))))) := by rw [hY_37, g24, lnP_7, lnP_lnP]
  have e0_Y_37 : Y_37 (4, 0, 0) = Y (4, 0, 0) := by rw [g37, lnP_n (by decide) (by decide)]
  refine y_aload_n (pc' := 41) rfl C dX13_tell_40 rfl ?_
  refine y_bipush (pc' := 43) rfl (v := 102) C dX13_tell_41 (by decide) ?_
  refine y_aload_n (pc' := 44) rfl C dX13_tell_43 rfl ?_
  refine y_get (pc' := 47) rfl (v := .ref (a (4, 0, 0))) C fl_X13_7 (v4 rfl) rfl rfl dX13_tell_44 rfl ?_
  refine y_bipush (pc' := 49) rfl (v := 10) C dX13_tell_47 (by decide) ?_
  refine y_ialdN (pc' := 50) rfl C 10 rfl (v4 rfl) rfl rfl (by decide) rfl dX13_tell_49 ?_
  refine y_conv (L' := [some (.ref (a (4, 0, 8))), none]) (st' := [.int ((nI (nn (Y (4, 0, 0) 10)))), .int 102, .ref (a (4, 0, 8))]) (rfl) (by rw [e0_Y_37, ← b10.1]) ?_
  refine y_cVv (pc' := 53) (k' := 0) (n' := 0) rfl C (c_X13_writesPart _ G a Y_37 (wN (nn (Y (4, 0, 0) 9)) (wC 100 (wN (nn (Y (4, 0, 0) 1)) (wC 62 (wN (nn (Y (4, 0, 0) 0)) (0, Y (4, 0, 7))))))).1 (nn (Y (4, 0, 0) 10)) 102 (by rw [g37, lnP_11]) (by show 0 + _ + 1 + _ + 1 + _ + 1 + _ ≤ 80; omega) b10.2) my_X13_writesPart aw_1362 (v4 rfl) rfl rfl rfl rfl rfl (Nat.le_of_ble_eq_true rfl) rfl dX13_tell_50 rfl rfl (fun Y_50 hY_50 => ?_)
  have g50 : Y_50 = lnP Y (wN (nn (Y (4, 0, 0) 10)) (wC 102 (wN (nn (Y (4, 0, 0) 9)) (wC 100 (wN (nn (Y (4, 0, 0) 1)) (wC 62 (wN (nn (Y (4, 0, 0) 0)) (0, Y (4, 0, 7))))))))) := by rw [hY_50, g37, lnP_7, lnP_lnP]
  have e0_Y_50 : Y_50 (4, 0, 0) = Y (4, 0, 0) := by rw [g50, lnP_n (by decide) (by decide)]
  refine y_iconst (pc' := 54) rfl (v := 0) C dX13_tell_53 (by decide) ?_
  refine y_istore_n (pc' := 55) rfl C dX13_tell_54 (by decide) ?_
  suffices K55 : ∀ (fu_ i55 : Nat) (Yl55 : YT), i55 ≤ lg → lg < fu_ + i55 → Yl55 = lnP Y_50 (tellL (Y (4, 0, 0)) i55 (0, Y (4, 0, 7))) → WY X G A a Yl55 0 0 _ 55 [some (.ref (a (4, 0, 8))), some (.int ((nI i55)))] [] from K55 (lg + 1) 0 _ (by omega) (by omega) (by rw [g50, lnP_lnP]; rfl)
  intro fu_
  induction fu_ with
  | zero => intro i55 Yl55 h1 h2; omega
  | succ fu_ ih55 =>
    intro i55 Yl55 hi55 hm55 hYl55
    have e0_Yl55 : Yl55 (4, 0, 0) = Y (4, 0, 0) := by rw [hYl55, lnP_n (by decide) (by decide), e0_Y_50]
    have l55 : Yl55 (4, 0, 8) 11 = nI (tellL (Y (4, 0, 0)) i55 (0, Y (4, 0, 7))).1 := by rw [hYl55, lnP_11]
    have m55 := tellL_le (q := (0, Y (4, 0, 7))) b0.2 b1.2 b9.2 b10.2 (fun j hj => (hrow j hj).2) i55 hi55
    refine y_iload_n (pc' := 56) rfl C dX13_tell_55 rfl ?_
    refine y_aload_n (pc' := 57) rfl C dX13_tell_56 rfl ?_
    refine y_get (pc' := 60) rfl (v := .ref (a (4, 0, 0))) C fl_X13_7 (v4 rfl) rfl rfl dX13_tell_57 rfl ?_
    refine y_bipush (pc' := 62) rfl (v := 8) C dX13_tell_60 (by decide) ?_
    refine y_ialdN (pc' := 63) rfl C 8 rfl (v4 rfl) rfl rfl (by decide) rfl dX13_tell_62 ?_
    refine y_ic_ge (pc' := 66) rfl (tgt := 87) C dX13_tell_63 (by decide) (fun c_63 => ?_) (fun c_63 => ?_)
    · rw [e0_Yl55, h8] at c_63
      have hb55 : lg ≤ i55 := nI_le_iff (by omega) (by omega) c_63
      refine y_aload_n (pc' := 88) rfl C dX13_tell_87 rfl ?_
      refine y_get (pc' := 91) rfl C fl_X13_213 (v4 rfl) rfl rfl dX13_tell_88 rfl ?_
      refine y_ireturn C rfl rfl dX13_tell_91 rfl rfl ?_
      have e55 : i55 = lg := by omega
      exact ⟨by rw [l55, e55], by rw [hYl55, e55, g50, lnP_lnP]⟩
    · rw [e0_Yl55, h8] at c_63
      have hb55 : i55 < lg := nI_nle_iff (by omega) (by omega) c_63
      refine y_aload_n (pc' := 67) rfl C dX13_tell_66 rfl ?_
      refine y_bipush (pc' := 69) rfl (v := 126) C dX13_tell_67 (by decide) ?_
      refine y_aload_n (pc' := 70) rfl C dX13_tell_69 rfl ?_
      refine y_get (pc' := 73) rfl (v := .ref (a (4, 0, 0))) C fl_X13_7 (v4 rfl) rfl rfl dX13_tell_70 rfl ?_
      refine y_bipush (pc' := 75) rfl (v := 17) C dX13_tell_73 (by decide) ?_
      refine y_iload_n (pc' := 76) rfl C dX13_tell_75 rfl ?_
      refine y_iadd (pc' := 77) rfl C dX13_tell_76 ?_
      refine y_ialdN (pc' := 78) rfl C (17 + i55) (nadd (rfl : (17 : Int32) = nI 17) rfl) (v4 rfl) rfl rfl (show (17 + i55) < 227 by omega) rfl dX13_tell_77 ?_
      refine y_conv (L' := [some (.ref (a (4, 0, 8))), some (.int ((nI i55)))]) (st' := [.int ((nI (nn (Y (4, 0, 0) (17 + i55))))), .int 126, .ref (a (4, 0, 8))]) (rfl) (by rw [e0_Yl55, ← (hrow i55 hb55).1]) ?_
      refine y_cVv (pc' := 81) (k' := 0) (n' := 0) rfl C (c_X13_writesPart _ G a Yl55 (tellL (Y (4, 0, 0)) i55 (0, Y (4, 0, 7))).1 (nn (Y (4, 0, 0) (17 + i55))) 126 l55 (by have := dg3 (hrow i55 hb55).2; omega) (by have := (hrow i55 hb55).2; omega)) my_X13_writesPart aw_1362 (v4 rfl) rfl rfl rfl rfl rfl (Nat.le_of_ble_eq_true rfl) rfl dX13_tell_78 rfl rfl (fun Y_78 hY_78 => ?_)
      refine y_iinc (pc' := 84) rfl (v := (nI (i55 + 1))) C dX13_tell_81 rfl (nI_1 i55) (by decide) ?_
      refine y_goto (tgt := 55) C dX13_tell_84 (by decide) ?_
      exact ih55 (i55 + 1) _ (by omega) (by omega) (by rw [hY_78, hYl55, lnP_7, lnP_lnP]; rfl)
-- KilnKeeperModel.tellPot 
set_option maxHeartbeats 1000000 in
set_option maxRecDepth 20000 in
theorem c_X13_tellPot (l : Launch) (G : GT) (a : Id3 → Nat) (Y : YT) (np : Nat) (p : Int32)  (hnp : np ≤ 8) (h15 : Y (4, 0, 0) 15 = nI np) (b171 : ∀ q, q < np → Y (4, 0, 0) (171 + q) = nI (nn (Y (4, 0, 0) (171 + q))) ∧ nn (Y (4, 0, 0) (171 + q)) < 100) (b179 : ∀ q, q < np → Y (4, 0, 0) (179 + q) = nI (nn (Y (4, 0, 0) (179 + q))) ∧ nn (Y (4, 0, 0) (179 + q)) < 10000) (b203 : ∀ q, q < np → Y (4, 0, 0) (203 + q) = nI (nn (Y (4, 0, 0) (203 + q))) ∧ nn (Y (4, 0, 0) (203 + q)) < 100) (b187 : ∀ q, q < np → Y (4, 0, 0) (187 + q) = nI (nn (Y (4, 0, 0) (187 + q))) ∧ nn (Y (4, 0, 0) (187 + q)) < 100) : CtY l G a yX13_tellPot cX13_tellPot 3 (some .int) ({ frames := 3, cells := 0, slots := 0, locals := 66 } : Room) [.ref (a (4, 0, 8)), .int p] Y (PI (fun r Y' => r = (if 0 ≤ p ∧ p ≤ Y (4, 0, 0) 15 - 1 then nI (tellPL (Y (4, 0, 0)) (nn p) (0, Y (4, 0, 7))).1 else -10001) ∧ Y' = if 0 ≤ p ∧ p ≤ Y (4, 0, 0) 15 - 1 then lnP Y (tellPL (Y (4, 0, 0)) (nn p) (0, Y (4, 0, 7))) else Y)) := by
  refine CtY.of (by decide) rfl (Nat.le_of_ble_eq_true rfl) ?_
  intro X A C hl
  subst hl
  refine y_aload_n (pc' := 1) rfl C dX13_tellPot_0 rfl ?_
  refine y_iload_n (pc' := 2) rfl C dX13_tellPot_1 rfl ?_
  refine y_cVi (pc' := 5) (k' := 0) (n' := 0) rfl C (c_X13_isPot _ G a Y p) my_X13_isPot aw_1222 (v4 rfl) rfl rfl rfl rfl rfl (Nat.le_of_ble_eq_true rfl) rfl dX13_tellPot_2 rfl rfl (fun r_2 Y_2 hp_2 => ?_)
  obtain ⟨rfl, hY_2⟩ := hp_2
  have hY_2 := hY_2.symm; subst hY_2
  refine y_if_ne (pc' := 8) rfl (tgt := 12) C dX13_tellPot_5 (by decide) (fun c_5 => ?_) (fun c_5 => ?_)
  · have h_5 := bi_n0 c_5
    obtain ⟨q, hq, hp⟩ := pot_nI h15 hnp h_5
    have hnq : nn p = q := by rw [hp, nn_nI (by omega)]
    have hnpn : nn (Y (4, 0, 0) 15) = np := by rw [h15, nn_nI (by omega)]
    obtain ⟨v171, u171⟩ := b171 q hq
    obtain ⟨v179, u179⟩ := b179 q hq
    obtain ⟨v203, u203⟩ := b203 q hq
    obtain ⟨v187, u187⟩ := b187 q hq
    have d171 := dg3 (show nn (Y (4, 0, 0) (171 + q)) < 1000 by omega)
    have d179 := dg4 u179
    have d203 := dg3 (show nn (Y (4, 0, 0) (203 + q)) < 1000 by omega)
    have d187 := dg3 (show nn (Y (4, 0, 0) (187 + q)) < 1000 by omega)
    have dq := dg3 (show q < 1000 by omega)
    refine y_aload_n (pc' := 13) rfl C dX13_tellPot_12 rfl ?_
    refine y_iconst (pc' := 14) rfl (v := 0) C dX13_tellPot_13 (by decide) ?_
    refine y_put (pc' := 17) rfl C fp_X13_213 (v4 rfl) rfl rfl dX13_tellPot_14 rfl (fun Z14 hZ14 => ?_)
    have z14 : Z14 = lnP Y (0, Y (4, 0, 7)) := by rw [hZ14]; exact ln_zero Y
    have e0_Z14 : Z14 (4, 0, 0) = Y (4, 0, 0) := by rw [z14, lnP_n (by decide) (by decide)]
    refine y_aload_n (pc' := 18) rfl C dX13_tellPot_17 rfl ?_
    refine y_iload_n (pc' := 19) rfl C dX13_tellPot_18 rfl ?_
    refine y_conv (L' := [some (.ref (a (4, 0, 8))), some (.int p), none]) (st' := [.int ((nI q)), .ref (a (4, 0, 8))]) (rfl) (by rw [hp]) ?_
    refine y_cVv (pc' := 22) (k' := 0) (n' := 0) rfl C (c_X13_writesNumber _ G a Z14 0 q (by rw [z14, lnP_11]) (by omega) (by omega)) my_X13_writesNumber aw_1354 (v4 rfl) rfl rfl rfl rfl rfl (Nat.le_of_ble_eq_true rfl) rfl dX13_tellPot_19 rfl rfl (fun Y_19 hY_19 => ?_)
    have g19 : Y_19 = lnP Y (wN q (0, Y (4, 0, 7))) := by rw [hY_19, z14, lnP_7, lnP_lnP]
    have e0_Y_19 : Y_19 (4, 0, 0) = Y (4, 0, 0) := by rw [g19, lnP_n (by decide) (by decide)]
    refine y_aload_n (pc' := 23) rfl C dX13_tellPot_22 rfl ?_
    refine y_bipush (pc' := 25) rfl (v := 33) C dX13_tellPot_23 (by decide) ?_
    refine y_aload_n (pc' := 26) rfl C dX13_tellPot_25 rfl ?_
    refine y_get (pc' := 29) rfl (v := .ref (a (4, 0, 0))) C fl_X13_7 (v4 rfl) rfl rfl dX13_tellPot_26 rfl ?_
    refine y_sipush (pc' := 32) rfl (v := 171) C dX13_tellPot_29 (by decide) ?_
    refine y_iload_n (pc' := 33) rfl C dX13_tellPot_32 rfl ?_
    refine y_iadd (pc' := 34) rfl C dX13_tellPot_33 ?_
    refine y_ialdN (pc' := 35) rfl C (171 + q) (nadd (rfl : (171 : Int32) = nI 171) hp) (v4 rfl) rfl rfl (show (171 + q) < 227 by omega) rfl dX13_tellPot_34 ?_
    refine y_conv (L' := [some (.ref (a (4, 0, 8))), some (.int p), none]) (st' := [.int ((nI (nn (Y (4, 0, 0) (171 + q))))), .int 33, .ref (a (4, 0, 8))]) (rfl) (by rw [e0_Y_19, ← v171]) ?_
    refine y_cVv (pc' := 38) (k' := 0) (n' := 0) rfl C (c_X13_writesPart _ G a Y_19 (wN q (0, Y (4, 0, 7))).1 (nn (Y (4, 0, 0) (171 + q))) 33 (by rw [g19, lnP_11]) (by show 0 + _ + 1 + _ ≤ 80; omega) (by omega)) my_X13_writesPart aw_1362 (v4 rfl) rfl rfl rfl rfl rfl (Nat.le_of_ble_eq_true rfl) rfl dX13_tellPot_35 rfl rfl (fun Y_35 hY_35 => ?_)
    have g35 : Y_35 = lnP Y (wN (nn (Y (4, 0, 0) (171 + q))) (wC 33 (wN q (0, Y (4, 0, 7))))) := by rw [hY_35, g19, lnP_7, lnP_lnP]
    have e0_Y_35 : Y_35 (4, 0, 0) = Y (4, 0, 0) := by rw [g35, lnP_n (by decide) (by decide)]
    refine y_aload_n (pc' := 39) rfl C dX13_tellPot_38 rfl ?_
    refine y_bipush (pc' := 41) rfl (v := 94) C dX13_tellPot_39 (by decide) ?_
    refine y_aload_n (pc' := 42) rfl C dX13_tellPot_41 rfl ?_
    refine y_get (pc' := 45) rfl (v := .ref (a (4, 0, 0))) C fl_X13_7 (v4 rfl) rfl rfl dX13_tellPot_42 rfl ?_
    refine y_sipush (pc' := 48) rfl (v := 179) C dX13_tellPot_45 (by decide) ?_
    refine y_iload_n (pc' := 49) rfl C dX13_tellPot_48 rfl ?_
    refine y_iadd (pc' := 50) rfl C dX13_tellPot_49 ?_
    refine y_ialdN (pc' := 51) rfl C (179 + q) (nadd (rfl : (179 : Int32) = nI 179) hp) (v4 rfl) rfl rfl (show (179 + q) < 227 by omega) rfl dX13_tellPot_50 ?_
    refine y_conv (L' := [some (.ref (a (4, 0, 8))), some (.int p), none]) (st' := [.int ((nI (nn (Y (4, 0, 0) (179 + q))))), .int 94, .ref (a (4, 0, 8))]) (rfl) (by rw [e0_Y_35, ← v179]) ?_
    refine y_cVv (pc' := 54) (k' := 0) (n' := 0) rfl C (c_X13_writesPart _ G a Y_35 (wN (nn (Y (4, 0, 0) (171 + q))) (wC 33 (wN q (0, Y (4, 0, 7))))).1 (nn (Y (4, 0, 0) (179 + q))) 94 (by rw [g35, lnP_11]) (by show 0 + _ + 1 + _ + 1 + _ ≤ 80; omega) (by omega)) my_X13_writesPart aw_1362 (v4 rfl) rfl rfl rfl rfl rfl (Nat.le_of_ble_eq_true rfl) rfl dX13_tellPot_51 rfl rfl (fun Y_51 hY_51 => ?_)
    have g51 : Y_51 = lnP Y (wN (nn (Y (4, 0, 0) (179 + q))) (wC 94 (wN (nn (Y (4, 0, 0) (171 + q))) (wC 33 (wN q (0, Y (4, 0, 7))))))) := by rw [hY_51, g35, lnP_7, lnP_lnP]
    have e0_Y_51 : Y_51 (4, 0, 0) = Y (4, 0, 0) := by rw [g51, lnP_n (by decide) (by decide)]
    refine y_aload_n (pc' := 55) rfl C dX13_tellPot_54 rfl ?_
    refine y_bipush (pc' := 57) rfl (v := 42) C dX13_tellPot_55 (by decide) ?_
    refine y_aload_n (pc' := 58) rfl C dX13_tellPot_57 rfl ?_
    refine y_get (pc' := 61) rfl (v := .ref (a (4, 0, 0))) C fl_X13_7 (v4 rfl) rfl rfl dX13_tellPot_58 rfl ?_
    refine y_sipush (pc' := 64) rfl (v := 203) C dX13_tellPot_61 (by decide) ?_
    refine y_iload_n (pc' := 65) rfl C dX13_tellPot_64 rfl ?_
    refine y_iadd (pc' := 66) rfl C dX13_tellPot_65 ?_
    refine y_ialdN (pc' := 67) rfl C (203 + q) (nadd (rfl : (203 : Int32) = nI 203) hp) (v4 rfl) rfl rfl (show (203 + q) < 227 by omega) rfl dX13_tellPot_66 ?_
    refine y_conv (L' := [some (.ref (a (4, 0, 8))), some (.int p), none]) (st' := [.int ((nI (nn (Y (4, 0, 0) (203 + q))))), .int 42, .ref (a (4, 0, 8))]) (rfl) (by rw [e0_Y_51, ← v203]) ?_
    refine y_cVv (pc' := 70) (k' := 0) (n' := 0) rfl C (c_X13_writesPart _ G a Y_51 (wN (nn (Y (4, 0, 0) (179 + q))) (wC 94 (wN (nn (Y (4, 0, 0) (171 + q))) (wC 33 (wN q (0, Y (4, 0, 7))))))).1 (nn (Y (4, 0, 0) (203 + q))) 42 (by rw [g51, lnP_11]) (by show 0 + _ + 1 + _ + 1 + _ + 1 + _ ≤ 80; omega) (by omega)) my_X13_writesPart aw_1362 (v4 rfl) rfl rfl rfl rfl rfl (Nat.le_of_ble_eq_true rfl) rfl dX13_tellPot_67 rfl rfl (fun Y_67 hY_67 => ?_)
    have g67 : Y_67 = lnP Y (wN (nn (Y (4, 0, 0) (203 + q))) (wC 42 (wN (nn (Y (4, 0, 0) (179 + q))) (wC 94 (wN (nn (Y (4, 0, 0) (171 + q))) (wC 33 (wN q (0, Y (4, 0, 7))))))))) := by rw [hY_67, g51, lnP_7, lnP_lnP]
    have e0_Y_67 : Y_67 (4, 0, 0) = Y (4, 0, 0) := by rw [g67, lnP_n (by decide) (by decide)]
    refine y_aload_n (pc' := 71) rfl C dX13_tellPot_70 rfl ?_
    refine y_bipush (pc' := 73) rfl (v := 47) C dX13_tellPot_71 (by decide) ?_
    refine y_aload_n (pc' := 74) rfl C dX13_tellPot_73 rfl ?_
    refine y_get (pc' := 77) rfl (v := .ref (a (4, 0, 0))) C fl_X13_7 (v4 rfl) rfl rfl dX13_tellPot_74 rfl ?_
    refine y_sipush (pc' := 80) rfl (v := 187) C dX13_tellPot_77 (by decide) ?_
    refine y_iload_n (pc' := 81) rfl C dX13_tellPot_80 rfl ?_
    refine y_iadd (pc' := 82) rfl C dX13_tellPot_81 ?_
    refine y_ialdN (pc' := 83) rfl C (187 + q) (nadd (rfl : (187 : Int32) = nI 187) hp) (v4 rfl) rfl rfl (show (187 + q) < 227 by omega) rfl dX13_tellPot_82 ?_
    refine y_conv (L' := [some (.ref (a (4, 0, 8))), some (.int p), none]) (st' := [.int ((nI (nn (Y (4, 0, 0) (187 + q))))), .int 47, .ref (a (4, 0, 8))]) (rfl) (by rw [e0_Y_67, ← v187]) ?_
    refine y_cVv (pc' := 86) (k' := 0) (n' := 0) rfl C (c_X13_writesPart _ G a Y_67 (wN (nn (Y (4, 0, 0) (203 + q))) (wC 42 (wN (nn (Y (4, 0, 0) (179 + q))) (wC 94 (wN (nn (Y (4, 0, 0) (171 + q))) (wC 33 (wN q (0, Y (4, 0, 7))))))))).1 (nn (Y (4, 0, 0) (187 + q))) 47 (by rw [g67, lnP_11]) (by show 0 + _ + 1 + _ + 1 + _ + 1 + _ + 1 + _ ≤ 80; omega) (by omega)) my_X13_writesPart aw_1362 (v4 rfl) rfl rfl rfl rfl rfl (Nat.le_of_ble_eq_true rfl) rfl dX13_tellPot_83 rfl rfl (fun Y_83 hY_83 => ?_)
    have g83 : Y_83 = lnP Y (wN (nn (Y (4, 0, 0) (187 + q))) (wC 47 (wN (nn (Y (4, 0, 0) (203 + q))) (wC 42 (wN (nn (Y (4, 0, 0) (179 + q))) (wC 94 (wN (nn (Y (4, 0, 0) (171 + q))) (wC 33 (wN q (0, Y (4, 0, 7))))))))))) := by rw [hY_83, g67, lnP_7, lnP_lnP]
    have e0_Y_83 : Y_83 (4, 0, 0) = Y (4, 0, 0) := by rw [g83, lnP_n (by decide) (by decide)]
    refine y_aload_n (pc' := 87) rfl C dX13_tellPot_86 rfl ?_
    refine y_get (pc' := 90) rfl (v := .ref (a (4, 0, 0))) C fl_X13_7 (v4 rfl) rfl rfl dX13_tellPot_87 rfl ?_
    refine y_sipush (pc' := 93) rfl (v := 195) C dX13_tellPot_90 (by decide) ?_
    refine y_iload_n (pc' := 94) rfl C dX13_tellPot_93 rfl ?_
    refine y_iadd (pc' := 95) rfl C dX13_tellPot_94 ?_
    refine y_ialdN (pc' := 96) rfl C (195 + q) (nadd (rfl : (195 : Int32) = nI 195) hp) (v4 rfl) rfl rfl (show (195 + q) < 227 by omega) rfl dX13_tellPot_95 ?_
    refine y_istore_n (pc' := 97) rfl C dX13_tellPot_96 (by decide) ?_
    refine y_aload_n (pc' := 98) rfl C dX13_tellPot_97 rfl ?_
    refine y_iload_n (pc' := 99) rfl C dX13_tellPot_98 rfl ?_
    have K99 : ∀ (w_99 : Int32) (_ : w_99 = (if (Y_83 (4, 0, 0) (195 + q)) = 0 then 119 else (if (Y_83 (4, 0, 0) (195 + q)) = 1 then 107 else (if (Y_83 (4, 0, 0) (195 + q)) = 2 then 102 else 120)))), WY X G A a Y_83 0 0 (MEnd X G A ({ frames := 3, cells := 0, slots := 0, locals := 66 } : Room) (PY G a (PI (fun r Y' => r = (if 0 ≤ p ∧ p ≤ Y (4, 0, 0) 15 - 1 then nI (tellPL (Y (4, 0, 0)) (nn p) (0, Y (4, 0, 7))).1 else -10001) ∧ Y' = if 0 ≤ p ∧ p ≤ Y (4, 0, 0) 15 - 1 then lnP Y (tellPL (Y (4, 0, 0)) (nn p) (0, Y (4, 0, 7))) else Y)))) 129 [some (.ref (a (4, 0, 8))), some (.int p), some (.int ((Y_83 (4, 0, 0) (195 + q))))] [.int w_99, .ref (a (4, 0, 8))] := by
      intro w_99 ew_99
      refine y_cVv (pc' := 132) (k' := 0) (n' := 0) rfl C (c_X13_writes _ G a Y_83 (wN (nn (Y (4, 0, 0) (187 + q))) (wC 47 (wN (nn (Y (4, 0, 0) (203 + q))) (wC 42 (wN (nn (Y (4, 0, 0) (179 + q))) (wC 94 (wN (nn (Y (4, 0, 0) (171 + q))) (wC 33 (wN q (0, Y (4, 0, 7))))))))))).1 w_99 (by rw [g83, lnP_11]) (by show 0 + _ + 1 + _ + 1 + _ + 1 + _ + 1 + _ < 80; omega)) my_X13_writes aw_1358 (v4 rfl) rfl rfl rfl rfl rfl (Nat.le_of_ble_eq_true rfl) rfl dX13_tellPot_129 rfl rfl (fun Y_129 hY_129 => ?_)
      refine y_aload_n (pc' := 133) rfl C dX13_tellPot_132 rfl ?_
      refine y_get (pc' := 136) rfl C fl_X13_213 (v4 rfl) rfl rfl dX13_tellPot_133 rfl ?_
      refine y_ireturn C rfl rfl dX13_tellPot_136 rfl rfl ?_
      have g129 : Y_129 = lnP Y (tellPL (Y (4, 0, 0)) q (0, Y (4, 0, 7))) := by rw [hY_129, g83, lnP_7, lnP_lnP, ew_99, e0_Y_83]; rfl
      exact ⟨by rw [if_pos h_5, hnq, g129, lnP_11], by rw [if_pos h_5, hnq, g129]⟩
    refine y_if_ne (pc' := 102) rfl (tgt := 107) C dX13_tellPot_99 (by decide) (fun c_99 => ?_) (fun c_99 => ?_)
    · refine y_iload_n (pc' := 108) rfl C dX13_tellPot_107 rfl ?_
      refine y_iconst (pc' := 109) rfl (v := 1) C dX13_tellPot_108 (by decide) ?_
      refine y_ic_ne (pc' := 112) rfl (tgt := 117) C dX13_tellPot_109 (by decide) (fun c_109 => ?_) (fun c_109 => ?_)
      · refine y_iload_n (pc' := 118) rfl C dX13_tellPot_117 rfl ?_
        refine y_iconst (pc' := 119) rfl (v := 2) C dX13_tellPot_118 (by decide) ?_
        refine y_ic_ne (pc' := 122) rfl (tgt := 127) C dX13_tellPot_119 (by decide) (fun c_119 => ?_) (fun c_119 => ?_)
        · refine y_bipush (pc' := 129) rfl (v := 120) C dX13_tellPot_127 (by decide) ?_
          exact K99 _ (by rw [if_neg c_99, if_neg c_109, if_neg c_119])
        · refine y_bipush (pc' := 124) rfl (v := 102) C dX13_tellPot_122 (by decide) ?_
          refine y_goto (tgt := 129) C dX13_tellPot_124 (by decide) ?_
          exact K99 _ (by rw [if_neg c_99, if_neg c_109, if_pos c_119])
      · refine y_bipush (pc' := 114) rfl (v := 107) C dX13_tellPot_112 (by decide) ?_
        refine y_goto (tgt := 129) C dX13_tellPot_114 (by decide) ?_
        exact K99 _ (by rw [if_neg c_99, if_pos c_109])
    · refine y_bipush (pc' := 104) rfl (v := 119) C dX13_tellPot_102 (by decide) ?_
      refine y_goto (tgt := 129) C dX13_tellPot_104 (by decide) ?_
      exact K99 _ (by rw [if_pos c_99])
  · have h_5 := bi_0.mp c_5
    refine y_sipush (pc' := 11) rfl (v := (-10001)) C dX13_tellPot_8 (by decide) ?_
    refine y_ireturn C rfl rfl dX13_tellPot_11 rfl rfl ?_
    exact ⟨by rw [if_neg h_5], by rw [if_neg h_5]⟩
