theorem fl_X12_19 : FLK "KilnKeeper" 19 11 2 := ⟨RX12, TX12, 9, rfl, by decide, aw_309, in_TX12⟩
theorem fl_X12_22 : FLK "KilnKeeper" 22 11 3 := ⟨RX12, TX12, 9, rfl, by decide, aw_310, in_TX12⟩
theorem fl_X12_130 : FLK "KilnKeeper" 130 6 3 := ⟨RX6, TX6, 7, rfl, by decide, aw_146, in_TX6⟩
theorem fl_X12_153 : FLK "KilnKeeper" 153 3 2 := ⟨RX3, TX3, 8, rfl, by decide, aw_180, in_TX3⟩
theorem fl_X12_160 : FLK "KilnKeeper" 160 1 3 := ⟨RX1, TX1, 6, rfl, by decide, aw_110, in_TX1⟩
theorem fl_X12_166 : FLK "KilnKeeper" 166 1 4 := ⟨RX1, TX1, 6, rfl, by decide, aw_112, in_TX1⟩
theorem fl_X12_236 : FLK "KilnKeeper" 236 1 0 := ⟨RX1, TX1, 6, rfl, by decide, aw_104, in_TX1⟩
theorem fp_X12_22 : FLP "KilnKeeper" 22 11 3 .boolean false := ⟨RX12, TX12, 9, tyX12, rfl, by decide, aw_310, in_TX12, tyX12_ok, nmX12, rfl, rfl, fun h => by first | exact rfl | cases h⟩
theorem fp_X12_223 : FLP "KilnKeeper" 223 2 0 .int false := ⟨RX2, TX2, 3, tyX2, rfl, by decide, aw_216, in_TX2, tyX2_ok, nmX2, rfl, rfl, fun h => by first | exact rfl | cases h⟩
theorem my_X12_tryMinutes : MV yX12_tryMinutes cX12_tryMinutes 3 (some (.object "KilnKeeper$Kiln")) 1 := ⟨aw_942, aw_15, ⟨by decide, by decide, by decide +kernel⟩, aw_941, aw_12⟩
theorem my_X1_isInBalance : MV yX1_isInBalance cX1_isInBalance 3 (some .boolean) 0 := ⟨aw_1079, aw_19, ⟨by decide, by decide, by decide +kernel⟩, aw_1077, aw_1078⟩
theorem my_X1_loggedNumber : MV yX1_loggedNumber cX1_loggedNumber 3 (some .int) 2 := ⟨aw_1022, aw_19, ⟨by decide, by decide, by decide +kernel⟩, aw_1020, aw_1021⟩
theorem my_X2_takeBack : MV yX2_takeBack cX2_takeBack 3 (some .int) 1 := ⟨aw_1099, aw_22, ⟨by decide, by decide, by decide +kernel⟩, aw_1097, aw_1098⟩
theorem my_X6_number : MV yX6_number cX6_number 2 (some .int) 1 := ⟨aw_1009, aw_21, ⟨by decide, by decide, by decide +kernel⟩, aw_1007, aw_1008⟩
theorem my_X7_crackedSet : MV yX7_crackedSet cX7_crackedSet 4 (some .int) 0 := ⟨aw_955, aw_20, ⟨by decide, by decide, by decide +kernel⟩, aw_953, aw_954⟩
theorem my_X7_isNoneSoakedTooLong : MV yX7_isNoneSoakedTooLong cX7_isNoneSoakedTooLong 3 (some .boolean) 0 := ⟨aw_1084, aw_20, ⟨by decide, by decide, by decide +kernel⟩, aw_1082, aw_1083⟩
theorem my_X7_potAtPlace : MV yX7_potAtPlace cX7_potAtPlace 3 (some .int) 1 := ⟨aw_1042, aw_20, ⟨by decide, by decide, by decide +kernel⟩, aw_1040, aw_1041⟩
-- KilnKeeper.potOf 
set_option maxHeartbeats 1000000 in
set_option maxRecDepth 20000 in
theorem c_X12_potOf (l : Launch) (G : GT) (a : Id3 → Nat) (Y : YT) (n : Nat) (s : Nat → Int32) (p w : Int32)  (hR : RKi Y 0 s) (hI : Inv s n 0) (hn : n ≤ 100000) : CtY l G a yX12_potOf cX12_potOf 4 (some .int) ({ frames := 1, cells := 0, slots := 0, locals := 21 } : Room) [.ref (a (2, 0, 0)), .int p, .int w] Y (PI (fun r Y' => r = potF s p w ∧ Y' = Y)) := by
  refine CtY.of (by decide) rfl (Nat.le_of_ble_eq_true rfl) ?_
  intro X A C hl
  subst hl
  obtain ⟨np, hnpe⟩ : ∃ np, np = nn (s 15) := ⟨_, rfl⟩
  have hok := hI.mb.ok hn
  have hc : Y (0, 0, 7) 0 = nI np := by rw [hnpe]; exact hR.hc hI.mb
  have hnp : np ≤ 8 := by rw [hnpe]; exact hI.mb.np.2
  have h15 : s 15 = nI np := by rw [hnpe]; exact hI.mb.np.1
  have hpr : ∀ p, p < np → PotR (Y (1, 0, p)) s p := fun p hp => hR.2.2.2.2.2.2.2 p (by rw [← hnpe]; exact hp)
  have hpi : ∀ p, p < np → PotI s p := fun p hp => hI.2.2.2.1 p (by rw [← hnpe]; exact hp)
  refine y_aload_n (pc' := 1) rfl C dX12_potOf_0 rfl ?_
  refine y_get (pc' := 4) rfl (v := .ref (a (0, 0, 0))) C fl_X12_10 (v2 rfl) rfl rfl dX12_potOf_1 rfl ?_
  refine y_get (pc' := 7) rfl (v := .ref (a (0, 0, 7))) C fl_X12_96 (v0 k0 rfl) rfl rfl dX12_potOf_4 rfl ?_
  refine y_iload_n (pc' := 8) rfl C dX12_potOf_7 rfl ?_
  by_cases hin : 0 ≤ p ∧ p < nI np
  · obtain ⟨q, hq9, hq⟩ := nI_of (Int32.not_lt.mpr hin.1)
    have hqn : q < np := by have := hin.2; rw [hq] at this; exact (nI_ltI hq9 (by omega)).mp this
    have hnq : nn p = q := by rw [hq, nn_nI hq9]
    refine y_conv (L' := [some (.ref (a (2, 0, 0))), some (.int p), some (.int w), none]) (st' := [.int ((nI q)), .ref (a (0, 0, 7))]) rfl (by rw [hq]) ?_
    refine y_cVr (pc' := 11) (k' := 0) (n' := 0) rfl C (c_X7_find_in _ G a Y 0 np q k0 hc hnp hqn) my_X7_find aw_989 (v0 k0 rfl) rfl rfl rfl rfl rfl (Nat.le_of_ble_eq_true rfl) rfl dX12_potOf_8 rfl rfl (fun r_8 Y_8 hp_8 => ?_)
    obtain ⟨rfl, hY_8⟩ := hp_8
    have hY_8 := hY_8.symm; subst hY_8
    refine y_astore_n (pc' := 12) rfl C dX12_potOf_11 (by decide) ?_
    refine y_aload_n (pc' := 13) rfl C dX12_potOf_12 rfl ?_
    refine y_ifnonnull (tgt := 22) C dX12_potOf_13 (by decide) ?_
    refine y_aload_n (pc' := 23) rfl C dX12_potOf_22 rfl ?_
    refine y_iload_n (pc' := 24) rfl C dX12_potOf_23 rfl ?_
    refine y_cVi (pc' := 27) (k' := 0) (n' := 0) rfl C (c_X6_number _ G a Y 0 q w k0 (show q < 8 by omega)) my_X6_number aw_1006 (v1 k0 (show q < 8 by omega)) rfl rfl rfl rfl rfl (Nat.le_of_ble_eq_true rfl) rfl dX12_potOf_24 rfl rfl (fun r_24 Y_24 hp_24 => ?_)
    obtain ⟨hr_24, hY_24⟩ := hp_24
    have hY_24 := hY_24.symm; subst hY_24
    refine y_ireturn C rfl rfl dX12_potOf_27 rfl rfl ?_
    refine ⟨?_, rfl⟩
    rw [potF, if_pos ((rng_iff h15 hnp).mp hin), hnq]
    exact hr_24.trans (pot_eq (hpr q hqn) (hpi q hqn))
  · refine y_cVr (pc' := 11) (k' := 0) (n' := 0) rfl C (c_X7_find_out _ G a Y 0 np p k0 hc hnp hin) my_X7_find aw_989 (v0 k0 rfl) rfl rfl rfl rfl rfl (Nat.le_of_ble_eq_true rfl) rfl dX12_potOf_8 rfl rfl (fun r_8 Y_8 hp_8 => ?_)
    obtain ⟨rfl, hY_8⟩ := hp_8
    have hY_8 := hY_8.symm; subst hY_8
    refine y_astore_nN (pc' := 12) rfl C dX12_potOf_11 (by decide) ?_
    refine y_aload_nN (pc' := 13) rfl C dX12_potOf_12 rfl ?_
    refine y_ifnonnullN (pc' := 16) rfl C dX12_potOf_13 ?_
    refine y_sipush (pc' := 19) rfl (v := (-10001)) C dX12_potOf_16 (by decide) ?_
    refine y_goto (tgt := 27) C dX12_potOf_19 (by decide) ?_
    refine y_ireturn C rfl rfl dX12_potOf_27 rfl rfl ?_
    exact ⟨by rw [potF, if_neg (fun z => hin ((rng_iff h15 hnp).mpr z))], rfl⟩
-- KilnKeeper.ranked 
set_option maxHeartbeats 1000000 in
set_option maxRecDepth 20000 in
theorem c_X12_ranked (l : Launch) (G : GT) (a : Id3 → Nat) (Y : YT) (n : Nat) (s : Nat → Int32) (place : Int32)  (hR : RKi Y 0 s) (hI : Inv s n 0) (hn : n ≤ 100000) : CtY l G a yX12_ranked cX12_ranked 2 (some .int) ({ frames := 3, cells := 0, slots := 0, locals := 70 } : Room) [.ref (a (2, 0, 0)), .int place] Y (PI (fun r Y' => r = rankL s (nn (s 15)) place (nn (s 15)) ∧ Y' = Y)) := by
  refine CtY.of (by decide) rfl (Nat.le_of_ble_eq_true rfl) ?_
  intro X A C hl
  subst hl
  obtain ⟨np, hnpe⟩ : ∃ np, np = nn (s 15) := ⟨_, rfl⟩
  have hok := hI.mb.ok hn
  have hc : Y (0, 0, 7) 0 = nI np := by rw [hnpe]; exact hR.hc hI.mb
  have hnp : np ≤ 8 := by rw [hnpe]; exact hI.mb.np.2
  have h15 : s 15 = nI np := by rw [hnpe]; exact hI.mb.np.1
  have hpr : ∀ p, p < np → PotR (Y (1, 0, p)) s p := fun p hp => hR.2.2.2.2.2.2.2 p (by rw [← hnpe]; exact hp)
  have hpi : ∀ p, p < np → PotI s p := fun p hp => hI.2.2.2.1 p (by rw [← hnpe]; exact hp)
  refine y_aload_n (pc' := 1) rfl C dX12_ranked_0 rfl ?_
  refine y_get (pc' := 4) rfl (v := .ref (a (0, 0, 0))) C fl_X12_10 (v2 rfl) rfl rfl dX12_ranked_1 rfl ?_
  refine y_get (pc' := 7) rfl (v := .ref (a (0, 0, 7))) C fl_X12_96 (v0 k0 rfl) rfl rfl dX12_ranked_4 rfl ?_
  refine y_iload_n (pc' := 8) rfl C dX12_ranked_7 rfl ?_
  refine y_cVi (pc' := 11) (k' := 0) (n' := 0) rfl C (c_X7_potAtPlace _ G a Y 0 np place k0 hc hnp) my_X7_potAtPlace aw_1039 (v0 k0 rfl) rfl rfl rfl rfl rfl (Nat.le_of_ble_eq_true rfl) rfl dX12_ranked_8 rfl rfl (fun r_8 Y_8 hp_8 => ?_)
  obtain ⟨rfl, hY_8⟩ := hp_8
  have hY_8 := hY_8.symm; subst hY_8
  refine y_ireturn C rfl rfl dX12_ranked_11 rfl rfl ?_
  exact ⟨by rw [← hnpe, ← rk_eq hnp hpr np (Nat.le_refl _)], rfl⟩
-- KilnKeeper.wanted 
set_option maxHeartbeats 1000000 in
set_option maxRecDepth 20000 in
theorem c_X12_wanted (l : Launch) (G : GT) (a : Id3 → Nat) (Y : YT) (n : Nat) (s : Nat → Int32)  (hR : RKi Y 0 s) (hI : Inv s n 0) (hn : n ≤ 100000) : CtY l G a yX12_wanted cX12_wanted 1 (some .int) ({ frames := 3, cells := 0, slots := 0, locals := 65 } : Room) [.ref (a (2, 0, 0))] Y (PI (fun r Y' => r = mWant s ∧ Y' = Y)) := by
  refine CtY.of (by decide) rfl (Nat.le_of_ble_eq_true rfl) ?_
  intro X A C hl
  subst hl
  obtain ⟨np, hnpe⟩ : ∃ np, np = nn (s 15) := ⟨_, rfl⟩
  have hok := hI.mb.ok hn
  have hc : Y (0, 0, 7) 0 = nI np := by rw [hnpe]; exact hR.hc hI.mb
  have hnp : np ≤ 8 := by rw [hnpe]; exact hI.mb.np.2
  have h15 : s 15 = nI np := by rw [hnpe]; exact hI.mb.np.1
  have hpr : ∀ p, p < np → PotR (Y (1, 0, p)) s p := fun p hp => hR.2.2.2.2.2.2.2 p (by rw [← hnpe]; exact hp)
  have hpi : ∀ p, p < np → PotI s p := fun p hp => hI.2.2.2.1 p (by rw [← hnpe]; exact hp)
  refine y_aload_n (pc' := 1) rfl C dX12_wanted_0 rfl ?_
  refine y_get (pc' := 4) rfl (v := .ref (a (0, 0, 0))) C fl_X12_10 (v2 rfl) rfl rfl dX12_wanted_1 rfl ?_
  refine y_get (pc' := 7) rfl (v := .ref (a (0, 0, 1))) C fl_X12_68 (v0 k0 rfl) rfl rfl dX12_wanted_4 rfl ?_
  refine y_aload_n (pc' := 8) rfl C dX12_wanted_7 rfl ?_
  refine y_get (pc' := 11) rfl (v := .ref (a (0, 0, 0))) C fl_X12_10 (v2 rfl) rfl rfl dX12_wanted_8 rfl ?_
  refine y_cVi (pc' := 14) (k' := 0) (n' := 0) rfl C (c_X3_error _ G a Y 0 k0) my_X3_error aw_960 (v0 k0 rfl) rfl rfl rfl rfl rfl (Nat.le_of_ble_eq_true rfl) rfl dX12_wanted_11 rfl rfl (fun r_11 Y_11 hp_11 => ?_)
  obtain ⟨rfl, hY_11⟩ := hp_11
  have hY_11 := hY_11.symm; subst hY_11
  refine y_cVi (pc' := 17) (k' := 0) (n' := 0) rfl C (c_X10_wantedDamper _ G a Y 0 ((Y (0, 0, 0) 1) - (Y (0, 0, 0) 0)) k0) my_X10_wantedDamper aw_961 (v0 k0 rfl) rfl rfl rfl rfl rfl (Nat.le_of_ble_eq_true rfl) rfl dX12_wanted_14 rfl rfl (fun r_14 Y_14 hp_14 => ?_)
  obtain ⟨hr_14, hY_14⟩ := hp_14
  have hY_14 := hY_14.symm; subst hY_14
  refine y_ireturn C rfl rfl dX12_wanted_17 rfl rfl ?_
  exact ⟨by rw [← want_eq hR, ← hR.1.1, ← hR.1.2.1]; exact hr_14, rfl⟩
-- KilnKeeper.logged 
set_option maxHeartbeats 1000000 in
set_option maxRecDepth 20000 in
theorem c_X12_logged (l : Launch) (G : GT) (a : Id3 → Nat) (Y : YT) (n : Nat) (s : Nat → Int32) (p w : Int32)  (hR : RKi Y 0 s) (hI : Inv s n 0) (hn : n ≤ 100000) : CtY l G a yX12_logged cX12_logged 3 (some .int) ({ frames := 2, cells := 0, slots := 0, locals := 44 } : Room) [.ref (a (2, 0, 0)), .int p, .int w] Y (PI (fun r Y' => r = loggedF s p w ∧ Y' = Y)) := by
  refine CtY.of (by decide) rfl (Nat.le_of_ble_eq_true rfl) ?_
  intro X A C hl
  subst hl
  obtain ⟨np, hnpe⟩ : ∃ np, np = nn (s 15) := ⟨_, rfl⟩
  have hok := hI.mb.ok hn
  have hc : Y (0, 0, 7) 0 = nI np := by rw [hnpe]; exact hR.hc hI.mb
  have hnp : np ≤ 8 := by rw [hnpe]; exact hI.mb.np.2
  have h15 : s 15 = nI np := by rw [hnpe]; exact hI.mb.np.1
  have hpr : ∀ p, p < np → PotR (Y (1, 0, p)) s p := fun p hp => hR.2.2.2.2.2.2.2 p (by rw [← hnpe]; exact hp)
  have hpi : ∀ p, p < np → PotI s p := fun p hp => hI.2.2.2.1 p (by rw [← hnpe]; exact hp)
  refine y_aload_n (pc' := 1) rfl C dX12_logged_0 rfl ?_
  refine y_get (pc' := 4) rfl (v := .ref (a (0, 0, 0))) C fl_X12_10 (v2 rfl) rfl rfl dX12_logged_1 rfl ?_
  refine y_get (pc' := 7) rfl (v := .ref (a (0, 0, 4))) C fl_X12_84 (v0 k0 rfl) rfl rfl dX12_logged_4 rfl ?_
  refine y_iload_n (pc' := 8) rfl C dX12_logged_7 rfl ?_
  refine y_iload_n (pc' := 9) rfl C dX12_logged_8 rfl ?_
  refine y_cVi (pc' := 12) (k' := 0) (n' := 0) rfl C (c_X1_loggedNumber _ G a Y 0 (nn (s 12)) p w k0 (hR.hm hI (by omega)).1 (by have := (hR.hm hI (by omega)).2; omega)) my_X1_loggedNumber aw_1019 (v0 k0 rfl) rfl rfl rfl rfl rfl (Nat.le_of_ble_eq_true rfl) rfl dX12_logged_9 rfl rfl (fun r_9 Y_9 hp_9 => ?_)
  obtain ⟨hr_9, hY_9⟩ := hp_9
  have hY_9 := hY_9.symm; subst hY_9
  refine y_ireturn C rfl rfl dX12_logged_12 rfl rfl ?_
  have h14 : s 14 = nI (m12 (nn (s 12))) := by
    obtain ⟨d, aa, mi, -, -, -, -, -, -, g1, g2, g3⟩ := hI.2.1
    rw [g1, nn_nI (by omega)]
    exact g3
  exact ⟨hr_9.trans (log_eq hR rfl h14), rfl⟩
-- KilnKeeper.burnt 
set_option maxHeartbeats 1000000 in
set_option maxRecDepth 20000 in
theorem c_X12_burnt (l : Launch) (G : GT) (a : Id3 → Nat) (Y : YT) (n : Nat) (s : Nat → Int32)  (hR : RKi Y 0 s) (hI : Inv s n 0) (hn : n ≤ 100000) : CtY l G a yX12_burnt cX12_burnt 1 (some .int) ({ frames := 0, cells := 0, slots := 0, locals := 0 } : Room) [.ref (a (2, 0, 0))] Y (PI (fun r Y' => r = s 16 ∧ Y' = Y)) := by
  refine CtY.of (by decide) rfl (Nat.le_of_ble_eq_true rfl) ?_
  intro X A C hl
  subst hl
  obtain ⟨np, hnpe⟩ : ∃ np, np = nn (s 15) := ⟨_, rfl⟩
  have hok := hI.mb.ok hn
  have hc : Y (0, 0, 7) 0 = nI np := by rw [hnpe]; exact hR.hc hI.mb
  have hnp : np ≤ 8 := by rw [hnpe]; exact hI.mb.np.2
  have h15 : s 15 = nI np := by rw [hnpe]; exact hI.mb.np.1
  have hpr : ∀ p, p < np → PotR (Y (1, 0, p)) s p := fun p hp => hR.2.2.2.2.2.2.2 p (by rw [← hnpe]; exact hp)
  have hpi : ∀ p, p < np → PotI s p := fun p hp => hI.2.2.2.1 p (by rw [← hnpe]; exact hp)
  refine y_aload_n (pc' := 1) rfl C dX12_burnt_0 rfl ?_
  refine y_get (pc' := 4) rfl (v := .ref (a (0, 0, 0))) C fl_X12_10 (v2 rfl) rfl rfl dX12_burnt_1 rfl ?_
  refine y_get (pc' := 7) rfl (v := .ref (a (0, 0, 4))) C fl_X12_84 (v0 k0 rfl) rfl rfl dX12_burnt_4 rfl ?_
  refine y_get (pc' := 10) rfl C fl_X12_160 (v0 k0 rfl) rfl rfl dX12_burnt_7 rfl ?_
  refine y_ireturn C rfl rfl dX12_burnt_10 rfl rfl ?_
  exact ⟨hR.2.2.2.1.2.2.2, rfl⟩
-- KilnKeeper.burntAgain 
set_option maxHeartbeats 1000000 in
set_option maxRecDepth 20000 in
theorem c_X12_burntAgain (l : Launch) (G : GT) (a : Id3 → Nat) (Y : YT) (n : Nat) (s : Nat → Int32)  (hR : RKi Y 0 s) (hI : Inv s n 0) (hn : n ≤ 100000) : CtY l G a yX12_burntAgain cX12_burntAgain 1 (some .int) ({ frames := 1, cells := 0, slots := 0, locals := 22 } : Room) [.ref (a (2, 0, 0))] Y (PI (fun r Y' => r = baN s 101 ∧ Y' = Y)) := by
  refine CtY.of (by decide) rfl (Nat.le_of_ble_eq_true rfl) ?_
  intro X A C hl
  subst hl
  obtain ⟨np, hnpe⟩ : ∃ np, np = nn (s 15) := ⟨_, rfl⟩
  have hok := hI.mb.ok hn
  have hc : Y (0, 0, 7) 0 = nI np := by rw [hnpe]; exact hR.hc hI.mb
  have hnp : np ≤ 8 := by rw [hnpe]; exact hI.mb.np.2
  have h15 : s 15 = nI np := by rw [hnpe]; exact hI.mb.np.1
  have hpr : ∀ p, p < np → PotR (Y (1, 0, p)) s p := fun p hp => hR.2.2.2.2.2.2.2 p (by rw [← hnpe]; exact hp)
  have hpi : ∀ p, p < np → PotI s p := fun p hp => hI.2.2.2.1 p (by rw [← hnpe]; exact hp)
  refine y_aload_n (pc' := 1) rfl C dX12_burntAgain_0 rfl ?_
  refine y_get (pc' := 4) rfl (v := .ref (a (0, 0, 0))) C fl_X12_10 (v2 rfl) rfl rfl dX12_burntAgain_1 rfl ?_
  refine y_get (pc' := 7) rfl (v := .ref (a (0, 0, 4))) C fl_X12_84 (v0 k0 rfl) rfl rfl dX12_burntAgain_4 rfl ?_
  refine y_cVi (pc' := 10) (k' := 0) (n' := 0) rfl C (c_X1_burntByAmounts _ G a Y 0 k0) my_X1_burntByAmounts aw_1055 (v0 k0 rfl) rfl rfl rfl rfl rfl (Nat.le_of_ble_eq_true rfl) rfl dX12_burntAgain_7 rfl rfl (fun r_7 Y_7 hp_7 => ?_)
  obtain ⟨rfl, hY_7⟩ := hp_7
  have hY_7 := hY_7.symm; subst hY_7
  refine y_ireturn C rfl rfl dX12_burntAgain_10 rfl rfl ?_
  exact ⟨by rw [← am_eq 101 hR.2.2.2.2.1], rfl⟩
-- KilnKeeper.minutesWith 
set_option maxHeartbeats 1000000 in
set_option maxRecDepth 20000 in
theorem c_X12_minutesWith (l : Launch) (G : GT) (a : Id3 → Nat) (Y : YT) (n : Nat) (s : Nat → Int32) (f : Int32)  (hR : RKi Y 0 s) (hI : Inv s n 0) (hn : n ≤ 100000) : CtY l G a yX12_minutesWith cX12_minutesWith 2 (some .int) ({ frames := 1, cells := 0, slots := 0, locals := 22 } : Room) [.ref (a (2, 0, 0)), .int f] Y (PI (fun r Y' => r = mwF s f ∧ Y' = Y)) := by
  refine CtY.of (by decide) rfl (Nat.le_of_ble_eq_true rfl) ?_
  intro X A C hl
  subst hl
  obtain ⟨np, hnpe⟩ : ∃ np, np = nn (s 15) := ⟨_, rfl⟩
  have hok := hI.mb.ok hn
  have hc : Y (0, 0, 7) 0 = nI np := by rw [hnpe]; exact hR.hc hI.mb
  have hnp : np ≤ 8 := by rw [hnpe]; exact hI.mb.np.2
  have h15 : s 15 = nI np := by rw [hnpe]; exact hI.mb.np.1
  have hpr : ∀ p, p < np → PotR (Y (1, 0, p)) s p := fun p hp => hR.2.2.2.2.2.2.2 p (by rw [← hnpe]; exact hp)
  have hpi : ∀ p, p < np → PotI s p := fun p hp => hI.2.2.2.1 p (by rw [← hnpe]; exact hp)
  refine y_iconst (pc' := 1) rfl (v := 0) C dX12_minutesWith_0 (by decide) ?_
  refine y_iload_n (pc' := 2) rfl C dX12_minutesWith_1 rfl ?_
  refine y_bipush (pc' := 4) rfl (v := 100) C dX12_minutesWith_2 (by decide) ?_
  refine y_cSi (pc' := 7) (k' := 0) (n' := 0) rfl C (c_X12_isFrom _ G a Y 0 f 100) my_X12_isFrom aw_938 rfl rfl (Nat.le_of_ble_eq_true rfl) rfl dX12_minutesWith_4 rfl rfl (fun r_4 Y_4 hp_4 => ?_)
  obtain ⟨rfl, hY_4⟩ := hp_4
  have hY_4 := hY_4.symm; subst hY_4
  refine y_if_eq (pc' := 10) rfl (tgt := 27) C dX12_minutesWith_7 (by decide) (fun c_7 => ?_) (fun c_7 => ?_)
  · have h_7 := bi_0.mp c_7
    refine y_sipush (pc' := 30) rfl (v := (-10002)) C dX12_minutesWith_27 (by decide) ?_
    refine y_ireturn C rfl rfl dX12_minutesWith_30 rfl rfl ?_
    exact ⟨by rw [mwF, if_neg h_7], rfl⟩
  · have h_7 := bi_n0 c_7
    obtain ⟨mq, hmq3, hmq⟩ := rng_nI (m := 100) (by decide) (by decide) h_7
    have hmn : nn f = mq := by rw [hmq, nn_nI (by omega)]
    refine y_aload_n (pc' := 11) rfl C dX12_minutesWith_10 rfl ?_
    refine y_get (pc' := 14) rfl (v := .ref (a (0, 0, 0))) C fl_X12_10 (v2 rfl) rfl rfl dX12_minutesWith_11 rfl ?_
    refine y_get (pc' := 17) rfl (v := .ref (a (0, 0, 4))) C fl_X12_84 (v0 k0 rfl) rfl rfl dX12_minutesWith_14 rfl ?_
    refine y_get (pc' := 20) rfl (v := .ref (a (0, 0, 5))) C fl_X12_166 (v0 k0 rfl) rfl rfl dX12_minutesWith_17 rfl ?_
    refine y_iload_n (pc' := 21) rfl C dX12_minutesWith_20 rfl ?_
    refine y_cSi (pc' := 24) (k' := 0) (n' := 0) rfl C (c_X12_numberAt _ G a Y (0, 0, 5) 101 f (v0 k0 rfl) rfl rfl rfl) my_X12_numberAt aw_866 rfl rfl (Nat.le_of_ble_eq_true rfl) rfl dX12_minutesWith_21 rfl rfl (fun r_21 Y_21 hp_21 => ?_)
    obtain ⟨rfl, hY_21⟩ := hp_21
    have hY_21 := hY_21.symm; subst hY_21
    refine y_goto (tgt := 30) C dX12_minutesWith_24 (by decide) ?_
    refine y_ireturn C rfl rfl dX12_minutesWith_30 rfl rfl ?_
    exact ⟨by rw [mwF, if_pos h_7, hmn, hmq, numF_in (by omega) (by decide)]; exact hR.2.2.2.2.1 mq (by omega), rfl⟩
-- KilnKeeper.isBalanced 
set_option maxHeartbeats 1000000 in
set_option maxRecDepth 20000 in
theorem c_X12_isBalanced (l : Launch) (G : GT) (a : Id3 → Nat) (Y : YT) (n : Nat) (s : Nat → Int32)  (hR : RKi Y 0 s) (hI : Inv s n 0) (hn : n ≤ 100000) : CtY l G a yX12_isBalanced cX12_isBalanced 1 (some .int) ({ frames := 2, cells := 0, slots := 0, locals := 44 } : Room) [.ref (a (2, 0, 0))] Y (PI (fun r Y' => r = balF s (nn (s 15)) ∧ Y' = Y)) := by
  refine CtY.of (by decide) rfl (Nat.le_of_ble_eq_true rfl) ?_
  intro X A C hl
  subst hl
  obtain ⟨np, hnpe⟩ : ∃ np, np = nn (s 15) := ⟨_, rfl⟩
  have hok := hI.mb.ok hn
  have hc : Y (0, 0, 7) 0 = nI np := by rw [hnpe]; exact hR.hc hI.mb
  have hnp : np ≤ 8 := by rw [hnpe]; exact hI.mb.np.2
  have h15 : s 15 = nI np := by rw [hnpe]; exact hI.mb.np.1
  have hpr : ∀ p, p < np → PotR (Y (1, 0, p)) s p := fun p hp => hR.2.2.2.2.2.2.2 p (by rw [← hnpe]; exact hp)
  have hpi : ∀ p, p < np → PotI s p := fun p hp => hI.2.2.2.1 p (by rw [← hnpe]; exact hp)
  refine y_aload_n (pc' := 1) rfl C dX12_isBalanced_0 rfl ?_
  refine y_get (pc' := 4) rfl (v := .ref (a (0, 0, 0))) C fl_X12_10 (v2 rfl) rfl rfl dX12_isBalanced_1 rfl ?_
  refine y_get (pc' := 7) rfl (v := .ref (a (0, 0, 4))) C fl_X12_84 (v0 k0 rfl) rfl rfl dX12_isBalanced_4 rfl ?_
  refine y_cVi (pc' := 10) (k' := 0) (n' := 0) rfl C (c_X1_isInBalance _ G a Y 0 k0) my_X1_isInBalance aw_1076 (v0 k0 rfl) rfl rfl rfl rfl rfl (Nat.le_of_ble_eq_true rfl) rfl dX12_isBalanced_7 rfl rfl (fun r_7 Y_7 hp_7 => ?_)
  obtain ⟨hr_7, hY_7⟩ := hp_7
  have hY_7 := hY_7.symm; subst hY_7
  refine y_if_eq (pc' := 13) rfl (tgt := 30) C dX12_isBalanced_10 (by decide) (fun c_10 => ?_) (fun c_10 => ?_)
  · refine y_iconst (pc' := 31) rfl (v := 0) C dX12_isBalanced_30 (by decide) ?_
    refine y_ireturn C rfl rfl dX12_isBalanced_31 rfl rfl ?_
    have hb : balB (Y (0, 0, 4)) (Y (0, 0, 5)) = balW s := by
      rw [balB, balW, am_eq 101 hR.2.2.2.2.1, sm_eq 101 hR.2.2.2.2.1, hR.2.2.2.1.1, hR.2.2.2.1.2.1, hR.2.2.2.1.2.2.1, hR.2.2.2.1.2.2.2]
      split
      · split
        · by_cases z : s 12 = bsN s 101
          · rw [if_pos z, if_pos z.symm]
          · rw [if_neg z, if_neg (fun y => z y.symm)]
        · rfl
      · rfl
    have hs : soK Y 0 np = 1 := so_eq np (fun p hp => ⟨hpr p hp, hpi p hp⟩)
    refine ⟨?_, rfl⟩
    rw [← hnpe, balF]
    rw [if_pos ((bal_eq np hpi).mpr (by rw [← hb, ← hr_7]; exact c_10))]
  · refine y_aload_n (pc' := 14) rfl C dX12_isBalanced_13 rfl ?_
    refine y_get (pc' := 17) rfl (v := .ref (a (0, 0, 0))) C fl_X12_10 (v2 rfl) rfl rfl dX12_isBalanced_14 rfl ?_
    refine y_get (pc' := 20) rfl (v := .ref (a (0, 0, 7))) C fl_X12_96 (v0 k0 rfl) rfl rfl dX12_isBalanced_17 rfl ?_
    refine y_cVi (pc' := 23) (k' := 0) (n' := 0) rfl C (c_X7_isNoneSoakedTooLong _ G a Y 0 np k0 hc hnp) my_X7_isNoneSoakedTooLong aw_1081 (v0 k0 rfl) rfl rfl rfl rfl rfl (Nat.le_of_ble_eq_true rfl) rfl dX12_isBalanced_20 rfl rfl (fun r_20 Y_20 hp_20 => ?_)
    obtain ⟨rfl, hY_20⟩ := hp_20
    have hY_20 := hY_20.symm; subst hY_20
    refine y_if_eq (pc' := 26) rfl (tgt := 30) C dX12_isBalanced_23 (by decide) (fun c_23 => ?_) (fun c_23 => ?_)
    · refine y_iconst (pc' := 31) rfl (v := 0) C dX12_isBalanced_30 (by decide) ?_
      refine y_ireturn C rfl rfl dX12_isBalanced_31 rfl rfl ?_
      have hb : balB (Y (0, 0, 4)) (Y (0, 0, 5)) = balW s := by
        rw [balB, balW, am_eq 101 hR.2.2.2.2.1, sm_eq 101 hR.2.2.2.2.1, hR.2.2.2.1.1, hR.2.2.2.1.2.1, hR.2.2.2.1.2.2.1, hR.2.2.2.1.2.2.2]
        split
        · split
          · by_cases z : s 12 = bsN s 101
            · rw [if_pos z, if_pos z.symm]
            · rw [if_neg z, if_neg (fun y => z y.symm)]
          · rfl
        · rfl
      have hs : soK Y 0 np = 1 := so_eq np (fun p hp => ⟨hpr p hp, hpi p hp⟩)
      refine ⟨?_, rfl⟩
      rw [← hnpe, balF]
      exact absurd c_23 (by rw [hs]; decide)
    · refine y_iconst (pc' := 27) rfl (v := 1) C dX12_isBalanced_26 (by decide) ?_
      refine y_goto (tgt := 31) C dX12_isBalanced_27 (by decide) ?_
      refine y_ireturn C rfl rfl dX12_isBalanced_31 rfl rfl ?_
      have hb : balB (Y (0, 0, 4)) (Y (0, 0, 5)) = balW s := by
        rw [balB, balW, am_eq 101 hR.2.2.2.2.1, sm_eq 101 hR.2.2.2.2.1, hR.2.2.2.1.1, hR.2.2.2.1.2.1, hR.2.2.2.1.2.2.1, hR.2.2.2.1.2.2.2]
        split
        · split
          · by_cases z : s 12 = bsN s 101
            · rw [if_pos z, if_pos z.symm]
            · rw [if_neg z, if_neg (fun y => z y.symm)]
          · rfl
        · rfl
      have hs : soK Y 0 np = 1 := so_eq np (fun p hp => ⟨hpr p hp, hpi p hp⟩)
      refine ⟨?_, rfl⟩
      rw [← hnpe, balF]
      rw [if_neg (fun z => c_10 (by rw [hr_7, hb]; exact (bal_eq np hpi).mp z))]
-- KilnKeeper.tryMinutes 
set_option maxHeartbeats 1000000 in
set_option maxRecDepth 20000 in
theorem c_X12_tryMinutes (l : Launch) (G : GT) (a : Id3 → Nat) (Y : YT) (n : Nat) (s : Nat → Int32) (m : Int32) (m_n : Nat) (m_h : m = nI m_n) (hm3 : m_n ≤ 300) (hR : RKi Y 0 s) (hI : Inv s n 0) (hn : n ≤ 100000) : CtY l G a yX12_tryMinutes cX12_tryMinutes 3 (some (.object "KilnKeeper$Kiln")) ({ frames := 4, cells := 0, slots := 0, locals := 91 } : Room) [.ref (a (2, 0, 0)), .int m] Y (PR (fun r Y' => r = .ref (a (0, 1, 0)) ∧ RKi Y' 1 (mins m_n s) ∧ FrK Y Y' 1)) := by
  refine CtY.of (by decide) rfl (Nat.le_of_ble_eq_true rfl) ?_
  intro X A C hl
  subst hl
  refine y_aload_n (pc' := 1) rfl C dX12_tryMinutes_0 rfl ?_
  refine y_get (pc' := 4) rfl (v := .ref (a (0, 1, 0))) C fl_X12_16 (v2 rfl) rfl rfl dX12_tryMinutes_1 rfl ?_
  refine y_aload_n (pc' := 5) rfl C dX12_tryMinutes_4 rfl ?_
  refine y_get (pc' := 8) rfl (v := .ref (a (0, 0, 0))) C fl_X12_10 (v2 rfl) rfl rfl dX12_tryMinutes_5 rfl ?_
  refine y_cVv (pc' := 11) (k' := 0) (n' := 0) rfl C (c_X3_copyFrom _ G a Y 1 0 n s k1 k0 (by decide) hR hI.mb) my_X3_copyFrom aw_388 (v0 k1 rfl) rfl rfl rfl rfl rfl (Nat.le_of_ble_eq_true rfl) rfl dX12_tryMinutes_8 rfl rfl (fun Y_8 hY_8 => ?_)
  refine y_iconst (pc' := 12) rfl (v := 0) C dX12_tryMinutes_11 (by decide) ?_
  refine y_istore_n (pc' := 13) rfl C dX12_tryMinutes_12 (by decide) ?_
  suffices K13 : ∀ (fu_ i13 : Nat) (Yl13 : YT), i13 ≤ m_n → m_n < fu_ + i13 → Yl13 = Yl13 → (RKi Yl13 1 (mins i13 s) ∧ FrK Y Yl13 1) → WY X G A a Yl13 0 0 _ 13 [some (.ref (a (2, 0, 0))), some (.int m), some (.int ((nI i13)))] [] from K13 (m_n + 1) 0 _ (by omega) (by omega) (rfl) (⟨hY_8.1, hY_8.2⟩)
  intro fu_
  induction fu_ with
  | zero => intro i13 Yl13 h1 h2; omega
  | succ fu_ ih13 =>
    intro i13 Yl13 hi13 hm13 hYl13 hx13
    refine y_iload_n (pc' := 14) rfl C dX12_tryMinutes_13 rfl ?_
    refine y_iload_n (pc' := 15) rfl C dX12_tryMinutes_14 rfl ?_
    refine y_ic_ge (pc' := 18) rfl (tgt := 31) C dX12_tryMinutes_15 (by decide) (fun c_15 => ?_) (fun c_15 => ?_)
    · rw [m_h] at c_15
      have hb13 : m_n ≤ i13 := nI_le_iff (by omega) (by omega) c_15
      refine y_aload_n (pc' := 32) rfl C dX12_tryMinutes_31 rfl ?_
      refine y_get (pc' := 35) rfl (v := .ref (a (0, 1, 0))) C fl_X12_16 (v2 rfl) rfl rfl dX12_tryMinutes_32 rfl ?_
      refine y_areturn C rfl (Or.inl ⟨_, rfl⟩) (Or.inr ⟨_, rfl⟩) dX12_tryMinutes_35 rfl rfl ?_
      have e13 : i13 = m_n := by omega
      subst e13
      exact ⟨rfl, hx13.1, hx13.2⟩
    · rw [m_h] at c_15
      have hb13 : i13 < m_n := nI_nle_iff (by omega) (by omega) c_15
      refine y_aload_n (pc' := 19) rfl C dX12_tryMinutes_18 rfl ?_
      refine y_get (pc' := 22) rfl (v := .ref (a (0, 1, 0))) C fl_X12_16 (v2 rfl) rfl rfl dX12_tryMinutes_19 rfl ?_
      refine y_cVv (pc' := 25) (k' := 0) (n' := 0) rfl C (c_X3_passMinute _ G a Yl13 1 n (0 + i13) (mins i13 s) k1 hx13.1 (Inv_mins hI hn i13 (by omega)) hn (by omega)) my_X3_passMinute aw_943 (v0 k1 rfl) rfl rfl rfl rfl rfl (Nat.le_of_ble_eq_true rfl) rfl dX12_tryMinutes_22 rfl rfl (fun Y_22 hY_22 => ?_)
      refine y_iinc (pc' := 28) rfl (v := (nI (i13 + 1))) C dX12_tryMinutes_25 rfl (nI_1 i13) (by decide) ?_
      refine y_goto (tgt := 13) C dX12_tryMinutes_28 (by decide) ?_
      exact ih13 (i13 + 1) _ (by omega) (by omega) (rfl) (⟨hY_22.1, hx13.2.tr hY_22.2⟩)
-- KilnKeeper.degreesIn 
set_option maxHeartbeats 1000000 in
set_option maxRecDepth 20000 in
theorem c_X12_degreesIn (l : Launch) (G : GT) (a : Id3 → Nat) (Y : YT) (n : Nat) (s : Nat → Int32) (m : Int32)  (hR : RKi Y 0 s) (hI : Inv s n 0) (hn : n ≤ 100000) : CtY l G a yX12_degreesIn cX12_degreesIn 2 (some .int) ({ frames := 5, cells := 0, slots := 0, locals := 113 } : Room) [.ref (a (2, 0, 0)), .int m] Y (PI (fun r Y' => r = (if 0 ≤ m ∧ m ≤ 300 then mins (nn m) s 0 else -10002) ∧ FrK Y Y' 1)) := by
  refine CtY.of (by decide) rfl (Nat.le_of_ble_eq_true rfl) ?_
  intro X A C hl
  subst hl
  obtain ⟨np, hnpe⟩ : ∃ np, np = nn (s 15) := ⟨_, rfl⟩
  have hok := hI.mb.ok hn
  have hc : Y (0, 0, 7) 0 = nI np := by rw [hnpe]; exact hR.hc hI.mb
  have hnp : np ≤ 8 := by rw [hnpe]; exact hI.mb.np.2
  have h15 : s 15 = nI np := by rw [hnpe]; exact hI.mb.np.1
  have hpr : ∀ p, p < np → PotR (Y (1, 0, p)) s p := fun p hp => hR.2.2.2.2.2.2.2 p (by rw [← hnpe]; exact hp)
  have hpi : ∀ p, p < np → PotI s p := fun p hp => hI.2.2.2.1 p (by rw [← hnpe]; exact hp)
  refine y_iconst (pc' := 1) rfl (v := 0) C dX12_degreesIn_0 (by decide) ?_
  refine y_iload_n (pc' := 2) rfl C dX12_degreesIn_1 rfl ?_
  refine y_sipush (pc' := 5) rfl (v := 300) C dX12_degreesIn_2 (by decide) ?_
  refine y_cSi (pc' := 8) (k' := 0) (n' := 0) rfl C (c_X12_isFrom _ G a Y 0 m 300) my_X12_isFrom aw_938 rfl rfl (Nat.le_of_ble_eq_true rfl) rfl dX12_degreesIn_5 rfl rfl (fun r_5 Y_5 hp_5 => ?_)
  obtain ⟨rfl, hY_5⟩ := hp_5
  have hY_5 := hY_5.symm; subst hY_5
  refine y_if_eq (pc' := 11) rfl (tgt := 22) C dX12_degreesIn_8 (by decide) (fun c_8 => ?_) (fun c_8 => ?_)
  · have h_8 := bi_0.mp c_8
    refine y_sipush (pc' := 25) rfl (v := (-10002)) C dX12_degreesIn_22 (by decide) ?_
    refine y_ireturn C rfl rfl dX12_degreesIn_25 rfl rfl ?_
    exact ⟨by rw [if_neg h_8], FrK.rf Y 1⟩
  · have h_8 := bi_n0 c_8
    obtain ⟨mq, hmq3, hmq⟩ := rng_nI (m := 300) (by decide) (by decide) h_8
    have hmn : nn m = mq := by rw [hmq, nn_nI (by omega)]
    refine y_aload_n (pc' := 12) rfl C dX12_degreesIn_11 rfl ?_
    refine y_iload_n (pc' := 13) rfl C dX12_degreesIn_12 rfl ?_
    refine y_cVr (pc' := 16) (k' := 0) (n' := 0) rfl C (c_X12_tryMinutes _ G a Y n s m mq hmq hmq3 hR hI hn) my_X12_tryMinutes aw_939 (v2 rfl) rfl rfl rfl rfl rfl (Nat.le_of_ble_eq_true rfl) rfl dX12_degreesIn_13 rfl rfl (fun r_13 Y_13 hp_13 => ?_)
    obtain ⟨rfl, hT_13⟩ := hp_13
    refine y_get (pc' := 19) rfl C fl_X12_106 (v0 k1 rfl) rfl rfl dX12_degreesIn_16 rfl ?_
    refine y_goto (tgt := 25) C dX12_degreesIn_19 (by decide) ?_
    refine y_ireturn C rfl rfl dX12_degreesIn_25 rfl rfl ?_
    exact ⟨by rw [if_pos h_8, hmn]; exact hT_13.1.1.1, hT_13.2⟩
-- KilnKeeper.wouldOvershoot 
set_option maxHeartbeats 1000000 in
set_option maxRecDepth 20000 in
theorem c_X12_wouldOvershoot (l : Launch) (G : GT) (a : Id3 → Nat) (Y : YT) (n : Nat) (s : Nat → Int32) (m : Int32)  (hR : RKi Y 0 s) (hI : Inv s n 0) (hn : n ≤ 100000) : CtY l G a yX12_wouldOvershoot cX12_wouldOvershoot 2 (some .int) ({ frames := 5, cells := 0, slots := 0, locals := 113 } : Room) [.ref (a (2, 0, 0)), .int m] Y (PI (fun r Y' => r = (if 0 ≤ m ∧ m ≤ 300 then mins (nn m) s 13 else -10002) ∧ FrK Y Y' 1)) := by
  refine CtY.of (by decide) rfl (Nat.le_of_ble_eq_true rfl) ?_
  intro X A C hl
  subst hl
  obtain ⟨np, hnpe⟩ : ∃ np, np = nn (s 15) := ⟨_, rfl⟩
  have hok := hI.mb.ok hn
  have hc : Y (0, 0, 7) 0 = nI np := by rw [hnpe]; exact hR.hc hI.mb
  have hnp : np ≤ 8 := by rw [hnpe]; exact hI.mb.np.2
  have h15 : s 15 = nI np := by rw [hnpe]; exact hI.mb.np.1
  have hpr : ∀ p, p < np → PotR (Y (1, 0, p)) s p := fun p hp => hR.2.2.2.2.2.2.2 p (by rw [← hnpe]; exact hp)
  have hpi : ∀ p, p < np → PotI s p := fun p hp => hI.2.2.2.1 p (by rw [← hnpe]; exact hp)
  refine y_iconst (pc' := 1) rfl (v := 0) C dX12_wouldOvershoot_0 (by decide) ?_
  refine y_iload_n (pc' := 2) rfl C dX12_wouldOvershoot_1 rfl ?_
  refine y_sipush (pc' := 5) rfl (v := 300) C dX12_wouldOvershoot_2 (by decide) ?_
  refine y_cSi (pc' := 8) (k' := 0) (n' := 0) rfl C (c_X12_isFrom _ G a Y 0 m 300) my_X12_isFrom aw_938 rfl rfl (Nat.le_of_ble_eq_true rfl) rfl dX12_wouldOvershoot_5 rfl rfl (fun r_5 Y_5 hp_5 => ?_)
  obtain ⟨rfl, hY_5⟩ := hp_5
  have hY_5 := hY_5.symm; subst hY_5
  refine y_if_eq (pc' := 11) rfl (tgt := 22) C dX12_wouldOvershoot_8 (by decide) (fun c_8 => ?_) (fun c_8 => ?_)
  · have h_8 := bi_0.mp c_8
    refine y_sipush (pc' := 25) rfl (v := (-10002)) C dX12_wouldOvershoot_22 (by decide) ?_
    refine y_ireturn C rfl rfl dX12_wouldOvershoot_25 rfl rfl ?_
    exact ⟨by rw [if_neg h_8], FrK.rf Y 1⟩
  · have h_8 := bi_n0 c_8
    obtain ⟨mq, hmq3, hmq⟩ := rng_nI (m := 300) (by decide) (by decide) h_8
    have hmn : nn m = mq := by rw [hmq, nn_nI (by omega)]
    refine y_aload_n (pc' := 12) rfl C dX12_wouldOvershoot_11 rfl ?_
    refine y_iload_n (pc' := 13) rfl C dX12_wouldOvershoot_12 rfl ?_
    refine y_cVr (pc' := 16) (k' := 0) (n' := 0) rfl C (c_X12_tryMinutes _ G a Y n s m mq hmq hmq3 hR hI hn) my_X12_tryMinutes aw_939 (v2 rfl) rfl rfl rfl rfl rfl (Nat.le_of_ble_eq_true rfl) rfl dX12_wouldOvershoot_13 rfl rfl (fun r_13 Y_13 hp_13 => ?_)
    obtain ⟨rfl, hT_13⟩ := hp_13
    refine y_get (pc' := 19) rfl C fl_X12_153 (v0 k1 rfl) rfl rfl dX12_wouldOvershoot_16 rfl ?_
    refine y_goto (tgt := 25) C dX12_wouldOvershoot_19 (by decide) ?_
    refine y_ireturn C rfl rfl dX12_wouldOvershoot_25 rfl rfl ?_
    exact ⟨by rw [if_pos h_8, hmn]; exact hT_13.1.1.2.2.1, hT_13.2⟩
-- KilnKeeper.wouldCrack 
set_option maxHeartbeats 1000000 in
set_option maxRecDepth 20000 in
theorem c_X12_wouldCrack (l : Launch) (G : GT) (a : Id3 → Nat) (Y : YT) (n : Nat) (s : Nat → Int32) (m : Int32)  (hR : RKi Y 0 s) (hI : Inv s n 0) (hn : n ≤ 100000) : CtY l G a yX12_wouldCrack cX12_wouldCrack 2 (some .int) ({ frames := 5, cells := 0, slots := 0, locals := 113 } : Room) [.ref (a (2, 0, 0)), .int m] Y (PI (fun r Y' => r = (if 0 ≤ m ∧ m ≤ 300 then crackN s (mins (nn m) s) (nn (s 15)) else -10002) ∧ FrK Y Y' 1)) := by
  refine CtY.of (by decide) rfl (Nat.le_of_ble_eq_true rfl) ?_
  intro X A C hl
  subst hl
  obtain ⟨np, hnpe⟩ : ∃ np, np = nn (s 15) := ⟨_, rfl⟩
  have hok := hI.mb.ok hn
  have hc : Y (0, 0, 7) 0 = nI np := by rw [hnpe]; exact hR.hc hI.mb
  have hnp : np ≤ 8 := by rw [hnpe]; exact hI.mb.np.2
  have h15 : s 15 = nI np := by rw [hnpe]; exact hI.mb.np.1
  have hpr : ∀ p, p < np → PotR (Y (1, 0, p)) s p := fun p hp => hR.2.2.2.2.2.2.2 p (by rw [← hnpe]; exact hp)
  have hpi : ∀ p, p < np → PotI s p := fun p hp => hI.2.2.2.1 p (by rw [← hnpe]; exact hp)
  refine y_iconst (pc' := 1) rfl (v := 0) C dX12_wouldCrack_0 (by decide) ?_
  refine y_iload_n (pc' := 2) rfl C dX12_wouldCrack_1 rfl ?_
  refine y_sipush (pc' := 5) rfl (v := 300) C dX12_wouldCrack_2 (by decide) ?_
  refine y_cSi (pc' := 8) (k' := 0) (n' := 0) rfl C (c_X12_isFrom _ G a Y 0 m 300) my_X12_isFrom aw_938 rfl rfl (Nat.le_of_ble_eq_true rfl) rfl dX12_wouldCrack_5 rfl rfl (fun r_5 Y_5 hp_5 => ?_)
  obtain ⟨rfl, hY_5⟩ := hp_5
  have hY_5 := hY_5.symm; subst hY_5
  refine y_if_ne (pc' := 11) rfl (tgt := 15) C dX12_wouldCrack_8 (by decide) (fun c_8 => ?_) (fun c_8 => ?_)
  · have h_8 := bi_n0 c_8
    obtain ⟨mq, hmq3, hmq⟩ := rng_nI (m := 300) (by decide) (by decide) h_8
    have hmn : nn m = mq := by rw [hmq, nn_nI (by omega)]
    refine y_aload_n (pc' := 16) rfl C dX12_wouldCrack_15 rfl ?_
    refine y_iload_n (pc' := 17) rfl C dX12_wouldCrack_16 rfl ?_
    refine y_cVr (pc' := 20) (k' := 0) (n' := 0) rfl C (c_X12_tryMinutes _ G a Y n s m mq hmq hmq3 hR hI hn) my_X12_tryMinutes aw_939 (v2 rfl) rfl rfl rfl rfl rfl (Nat.le_of_ble_eq_true rfl) rfl dX12_wouldCrack_17 rfl rfl (fun r_17 Y_17 hp_17 => ?_)
    obtain ⟨rfl, hT_17⟩ := hp_17
    have hR0 := hR.fr hT_17.2 (by decide)
    have hc0 : Y_17 (0, 0, 7) 0 = nI np := by rw [hnpe]; exact hR0.hc hI.mb
    have hc1 : Y_17 (0, 1, 7) 0 = nI np := by have := hT_17.1.hc (Inv_mins hI hn mq (by omega)).mb; rw [mins_15 hok, ← hnpe] at this; exact this
    refine y_get (pc' := 23) rfl (v := .ref (a (0, 1, 7))) C fl_X12_96 (v0 k1 rfl) rfl rfl dX12_wouldCrack_20 rfl ?_
    refine y_cVi (pc' := 26) (k' := 0) (n' := 0) rfl C (c_X7_crackedSet _ G a Y_17 1 np k1 hc1 hnp) my_X7_crackedSet aw_952 (v0 k1 rfl) rfl rfl rfl rfl rfl (Nat.le_of_ble_eq_true rfl) rfl dX12_wouldCrack_23 rfl rfl (fun r_23 Y_23 hp_23 => ?_)
    obtain ⟨rfl, hY_23⟩ := hp_23
    have hY_23 := hY_23.symm; subst hY_23
    refine y_aload_n (pc' := 27) rfl C dX12_wouldCrack_26 rfl ?_
    refine y_get (pc' := 30) rfl (v := .ref (a (0, 0, 0))) C fl_X12_10 (v2 rfl) rfl rfl dX12_wouldCrack_27 rfl ?_
    refine y_get (pc' := 33) rfl (v := .ref (a (0, 0, 7))) C fl_X12_96 (v0 k0 rfl) rfl rfl dX12_wouldCrack_30 rfl ?_
    refine y_cVi (pc' := 36) (k' := 0) (n' := 0) rfl C (c_X7_crackedSet _ G a Y_17 0 np k0 hc0 hnp) my_X7_crackedSet aw_952 (v0 k0 rfl) rfl rfl rfl rfl rfl (Nat.le_of_ble_eq_true rfl) rfl dX12_wouldCrack_33 rfl rfl (fun r_33 Y_33 hp_33 => ?_)
    obtain ⟨rfl, hY_33⟩ := hp_33
    have hY_33 := hY_33.symm; subst hY_33
    refine y_iconst (pc' := 37) rfl (v := (-1)) C dX12_wouldCrack_36 (by decide) ?_
    refine y_ixor (pc' := 38) rfl C dX12_wouldCrack_37 ?_
    refine y_iand (pc' := 39) rfl C dX12_wouldCrack_38 ?_
    refine y_ireturn C rfl rfl dX12_wouldCrack_39 rfl rfl ?_
    exact ⟨by rw [if_pos h_8, hmn, ← hnpe]; exact crack_eq hnp (fun p hp => hR0.2.2.2.2.2.2.2 p (by rw [← hnpe]; exact hp)) (fun p hp => hT_17.1.2.2.2.2.2.2.2 p (by rw [mins_15 hok, ← hnpe]; exact hp)), hT_17.2⟩
  · have h_8 := bi_0.mp c_8
    refine y_sipush (pc' := 14) rfl (v := (-10002)) C dX12_wouldCrack_11 (by decide) ?_
    refine y_ireturn C rfl rfl dX12_wouldCrack_14 rfl rfl ?_
    exact ⟨by rw [if_neg h_8], FrK.rf Y 1⟩
-- KilnKeeper.firedIn 
set_option maxHeartbeats 1000000 in
set_option maxRecDepth 20000 in
theorem c_X12_firedIn (l : Launch) (G : GT) (a : Id3 → Nat) (Y : YT) (n : Nat) (s : Nat → Int32) (p : Int32)  (hR : RKi Y 0 s) (hI : Inv s n 0) (hn : n ≤ 100000) : CtY l G a yX12_firedIn cX12_firedIn 4 (some .int) ({ frames := 5, cells := 0, slots := 0, locals := 113 } : Room) [.ref (a (2, 0, 0)), .int p] Y (PI (fun r Y' => r = firedA s p ∧ FrK Y Y' 1)) := by
  refine CtY.of (by decide) rfl (Nat.le_of_ble_eq_true rfl) ?_
  intro X A C hl
  subst hl
  obtain ⟨np, hnpe⟩ : ∃ np, np = nn (s 15) := ⟨_, rfl⟩
  have hok := hI.mb.ok hn
  have hc : Y (0, 0, 7) 0 = nI np := by rw [hnpe]; exact hR.hc hI.mb
  have hnp : np ≤ 8 := by rw [hnpe]; exact hI.mb.np.2
  have h15 : s 15 = nI np := by rw [hnpe]; exact hI.mb.np.1
  have hpr : ∀ p, p < np → PotR (Y (1, 0, p)) s p := fun p hp => hR.2.2.2.2.2.2.2 p (by rw [← hnpe]; exact hp)
  have hpi : ∀ p, p < np → PotI s p := fun p hp => hI.2.2.2.1 p (by rw [← hnpe]; exact hp)
  refine y_aload_n (pc' := 1) rfl C dX12_firedIn_0 rfl ?_
  refine y_iconst (pc' := 2) rfl (v := 0) C dX12_firedIn_1 (by decide) ?_
  refine y_cVr (pc' := 5) (k' := 0) (n' := 0) rfl C (c_X12_tryMinutes _ G a Y n s 0 0 (rfl : (0 : Int32) = nI 0) (by decide) hR hI hn) my_X12_tryMinutes aw_939 (v2 rfl) rfl rfl rfl rfl rfl (Nat.le_of_ble_eq_true rfl) rfl dX12_firedIn_2 rfl rfl (fun r_2 Y_2 hp_2 => ?_)
  obtain ⟨rfl, hT_2⟩ := hp_2
  have hR0 := hR.fr hT_2.2 (by decide)
  have hc0 : Y_2 (0, 0, 7) 0 = nI np := by rw [hnpe]; exact hR0.hc hI.mb
  have hc1 : Y_2 (0, 1, 7) 0 = nI np := by have := hT_2.1.hc (Inv_mins hI hn 0 (by omega)).mb; rw [mins_15 hok, ← hnpe] at this; exact this
  refine y_get (pc' := 8) rfl (v := .ref (a (0, 1, 7))) C fl_X12_96 (v0 k1 rfl) rfl rfl dX12_firedIn_5 rfl ?_
  refine y_iload_n (pc' := 9) rfl C dX12_firedIn_8 rfl ?_
  by_cases hin : 0 ≤ p ∧ p < nI np
  · obtain ⟨q, hq9, hq⟩ := nI_of (Int32.not_lt.mpr hin.1)
    have hqn : q < np := by have := hin.2; rw [hq] at this; exact (nI_ltI hq9 (by omega)).mp this
    have hnq : nn p = q := by rw [hq, nn_nI hq9]
    refine y_conv (L' := [some (.ref (a (2, 0, 0))), some (.int p), none, none]) (st' := [.int ((nI q)), .ref (a (0, 1, 7))]) rfl (by rw [hq]) ?_
    refine y_cVr (pc' := 12) (k' := 0) (n' := 0) rfl C (c_X7_find_in _ G a Y_2 1 np q k1 hc1 hnp hqn) my_X7_find aw_989 (v0 k1 rfl) rfl rfl rfl rfl rfl (Nat.le_of_ble_eq_true rfl) rfl dX12_firedIn_9 rfl rfl (fun r_9 Y_9 hp_9 => ?_)
    obtain ⟨rfl, hY_9⟩ := hp_9
    have hY_9 := hY_9.symm; subst hY_9
    refine y_astore_n (pc' := 13) rfl C dX12_firedIn_12 (by decide) ?_
    refine y_aload_n (pc' := 14) rfl C dX12_firedIn_13 rfl ?_
    refine y_ifnonnull (tgt := 21) C dX12_firedIn_14 (by decide) ?_
    refine y_iconst (pc' := 22) rfl (v := 0) C dX12_firedIn_21 (by decide) ?_
    refine y_istore_n (pc' := 23) rfl C dX12_firedIn_22 (by decide) ?_
    suffices K23 : ∀ (fu_ i23 : Nat) (Yl23 : YT), i23 ≤ 300 → 300 < fu_ + i23 → Yl23 = Yl23 → (RKi Yl23 1 (mins i23 s) ∧ FrK Y Yl23 1 ∧ ∀ j, j < i23 → ¬ mins j s (195 + q) = 2) → WY X G A a Yl23 0 0 _ 23 [some (.ref (a (2, 0, 0))), some (.int p), some (.ref (a (1, 1, q))), some (.int ((nI i23)))] [] from K23 (300 + 1) 0 _ (by omega) (by omega) (rfl) (⟨hT_2.1, hT_2.2, fun j hj => absurd hj (Nat.not_lt_zero j)⟩)
    intro fu_
    induction fu_ with
    | zero => intro i23 Yl23 h1 h2; omega
    | succ fu_ ih23 =>
      intro i23 Yl23 hi23 hm23 hYl23 hx23
      have e3 : Yl23 (1, 1, q) 3 = mins i23 s (195 + q) := (hx23.1.2.2.2.2.2.2.2 q (by rw [mins_15 hok, ← hnpe]; exact hqn)).2.2.2.1
      refine y_iload_n (pc' := 24) rfl C dX12_firedIn_23 rfl ?_
      refine y_sipush (pc' := 27) rfl (v := 300) C dX12_firedIn_24 (by decide) ?_
      refine y_ic_ge (pc' := 30) rfl (tgt := 53) C dX12_firedIn_27 (by decide) (fun c_27 => ?_) (fun c_27 => ?_)
      · have hb23 : 300 ≤ i23 := nI_le_iff (by omega) (by omega) c_27
        refine y_aload_n (pc' := 54) rfl C dX12_firedIn_53 rfl ?_
        refine y_get (pc' := 57) rfl C fl_X12_130 (v1 k1 (show q < 8 by omega)) rfl rfl dX12_firedIn_54 rfl ?_
        refine y_iconst (pc' := 58) rfl (v := 2) C dX12_firedIn_57 (by decide) ?_
        refine y_ic_ne (pc' := 61) rfl (tgt := 67) C dX12_firedIn_58 (by decide) (fun c_58 => ?_) (fun c_58 => ?_)
        · refine y_sipush (pc' := 70) rfl (v := (-10005)) C dX12_firedIn_67 (by decide) ?_
          refine y_ireturn C rfl rfl dX12_firedIn_70 rfl rfl ?_
          have hfa : firedA s p = firedF s q := by rw [firedA, if_pos ((rng_iff h15 hnp).mp hin), hnq]
          have e23 : i23 = 300 := by omega
          subst e23
          refine ⟨?_, hx23.2.1⟩
          rw [hfa]
          exact (fired_no (fun j hj => by
            by_cases z : j < 300
            · exact hx23.2.2 j z
            · rw [show j = 300 by omega, ← e3]; exact c_58)).symm
        · refine y_sipush (pc' := 64) rfl (v := 300) C dX12_firedIn_61 (by decide) ?_
          refine y_goto (tgt := 70) C dX12_firedIn_64 (by decide) ?_
          refine y_ireturn C rfl rfl dX12_firedIn_70 rfl rfl ?_
          have hfa : firedA s p = firedF s q := by rw [firedA, if_pos ((rng_iff h15 hnp).mp hin), hnq]
          have e23 : i23 = 300 := by omega
          subst e23
          exact ⟨by rw [hfa]; exact (fired_hit hI hn (by omega) (by omega) hx23.2.2 (by rw [← e3]; exact c_58)).symm, hx23.2.1⟩
      · have hb23 : i23 < 300 := nI_nle_iff (by omega) (by omega) c_27
        refine y_aload_n (pc' := 31) rfl C dX12_firedIn_30 rfl ?_
        refine y_get (pc' := 34) rfl C fl_X12_130 (v1 k1 (show q < 8 by omega)) rfl rfl dX12_firedIn_31 rfl ?_
        refine y_iconst (pc' := 35) rfl (v := 2) C dX12_firedIn_34 (by decide) ?_
        refine y_ic_ne (pc' := 38) rfl (tgt := 40) C dX12_firedIn_35 (by decide) (fun c_35 => ?_) (fun c_35 => ?_)
        · refine y_aload_n (pc' := 41) rfl C dX12_firedIn_40 rfl ?_
          refine y_get (pc' := 44) rfl (v := .ref (a (0, 1, 0))) C fl_X12_16 (v2 rfl) rfl rfl dX12_firedIn_41 rfl ?_
          refine y_cVv (pc' := 47) (k' := 0) (n' := 0) rfl C (c_X3_passMinute _ G a Yl23 1 n (0 + i23) (mins i23 s) k1 hx23.1 (Inv_mins hI hn i23 (by omega)) hn (by omega)) my_X3_passMinute aw_943 (v0 k1 rfl) rfl rfl rfl rfl rfl (Nat.le_of_ble_eq_true rfl) rfl dX12_firedIn_44 rfl rfl (fun Y_44 hY_44 => ?_)
          refine y_iinc (pc' := 50) rfl (v := (nI (i23 + 1))) C dX12_firedIn_47 rfl (nI_1 i23) (by decide) ?_
          refine y_goto (tgt := 23) C dX12_firedIn_50 (by decide) ?_
          exact ih23 (i23 + 1) _ (by omega) (by omega) (rfl) (⟨hY_44.1, hx23.2.1.tr hY_44.2, fun j hj => (Nat.lt_or_ge j i23).elim (fun z => hx23.2.2 j z) (fun z => by rw [show j = i23 by omega, ← e3]; exact c_35)⟩)
        · refine y_iload_n (pc' := 39) rfl C dX12_firedIn_38 rfl ?_
          refine y_ireturn C rfl rfl dX12_firedIn_39 rfl rfl ?_
          have hfa : firedA s p = firedF s q := by rw [firedA, if_pos ((rng_iff h15 hnp).mp hin), hnq]
          exact ⟨by rw [hfa]; exact (fired_hit hI hn (by omega) (by omega) hx23.2.2 (by rw [← e3]; exact c_35)).symm, hx23.2.1⟩
  · refine y_cVr (pc' := 12) (k' := 0) (n' := 0) rfl C (c_X7_find_out _ G a Y_2 1 np p k1 hc1 hnp hin) my_X7_find aw_989 (v0 k1 rfl) rfl rfl rfl rfl rfl (Nat.le_of_ble_eq_true rfl) rfl dX12_firedIn_9 rfl rfl (fun r_9 Y_9 hp_9 => ?_)
    obtain ⟨rfl, hY_9⟩ := hp_9
    have hY_9 := hY_9.symm; subst hY_9
    refine y_astore_nN (pc' := 13) rfl C dX12_firedIn_12 (by decide) ?_
    refine y_aload_nN (pc' := 14) rfl C dX12_firedIn_13 rfl ?_
    refine y_ifnonnullN (pc' := 17) rfl C dX12_firedIn_14 ?_
    refine y_sipush (pc' := 20) rfl (v := (-10001)) C dX12_firedIn_17 (by decide) ?_
    refine y_ireturn C rfl rfl dX12_firedIn_20 rfl rfl ?_
    exact ⟨by rw [firedA, if_neg (fun z => hin ((rng_iff h15 hnp).mpr z))], hT_2.2⟩
-- KilnKeeper.settlesIn 
set_option maxHeartbeats 1000000 in
set_option maxRecDepth 20000 in
theorem c_X12_settlesIn (l : Launch) (G : GT) (a : Id3 → Nat) (Y : YT) (n : Nat) (s : Nat → Int32)  (hR : RKi Y 0 s) (hI : Inv s n 0) (hn : n ≤ 100000) : CtY l G a yX12_settlesIn cX12_settlesIn 3 (some .int) ({ frames := 5, cells := 0, slots := 0, locals := 113 } : Room) [.ref (a (2, 0, 0))] Y (PI (fun r Y' => r = settleF s ∧ FrK Y Y' 1)) := by
  refine CtY.of (by decide) rfl (Nat.le_of_ble_eq_true rfl) ?_
  intro X A C hl
  subst hl
  obtain ⟨np, hnpe⟩ : ∃ np, np = nn (s 15) := ⟨_, rfl⟩
  have hok := hI.mb.ok hn
  have hc : Y (0, 0, 7) 0 = nI np := by rw [hnpe]; exact hR.hc hI.mb
  have hnp : np ≤ 8 := by rw [hnpe]; exact hI.mb.np.2
  have h15 : s 15 = nI np := by rw [hnpe]; exact hI.mb.np.1
  have hpr : ∀ p, p < np → PotR (Y (1, 0, p)) s p := fun p hp => hR.2.2.2.2.2.2.2 p (by rw [← hnpe]; exact hp)
  have hpi : ∀ p, p < np → PotI s p := fun p hp => hI.2.2.2.1 p (by rw [← hnpe]; exact hp)
  refine y_aload_n (pc' := 1) rfl C dX12_settlesIn_0 rfl ?_
  refine y_iconst (pc' := 2) rfl (v := 0) C dX12_settlesIn_1 (by decide) ?_
  refine y_cVr (pc' := 5) (k' := 0) (n' := 0) rfl C (c_X12_tryMinutes _ G a Y n s 0 0 (rfl : (0 : Int32) = nI 0) (by decide) hR hI hn) my_X12_tryMinutes aw_939 (v2 rfl) rfl rfl rfl rfl rfl (Nat.le_of_ble_eq_true rfl) rfl dX12_settlesIn_2 rfl rfl (fun r_2 Y_2 hp_2 => ?_)
  obtain ⟨rfl, hT_2⟩ := hp_2
  refine y_pop (pc' := 6) rfl C dX12_settlesIn_5 rfl ?_
  refine y_iconst (pc' := 7) rfl (v := 0) C dX12_settlesIn_6 (by decide) ?_
  refine y_istore_n (pc' := 8) rfl C dX12_settlesIn_7 (by decide) ?_
  refine y_iconst (pc' := 9) rfl (v := 1) C dX12_settlesIn_8 (by decide) ?_
  refine y_istore_n (pc' := 10) rfl C dX12_settlesIn_9 (by decide) ?_
  refine y_conv (L' := [some (.ref (a (2, 0, 0))), some (.int ((near s (1 - 1)))), some (.int ((nI 1)))]) (rfl) rfl ?_
  suffices K10 : ∀ (fu_ i10 : Nat) (Yl10 : YT), i10 ≤ 301 → 301 < fu_ + i10 → Yl10 = Yl10 → (RKi Yl10 1 (mins (i10 - 1) s) ∧ FrK Y Yl10 1 ∧ NrI s (i10 - 1) ∧ 1 ≤ i10) → WY X G A a Yl10 0 0 _ 10 [some (.ref (a (2, 0, 0))), some (.int ((near s (i10 - 1)))), some (.int ((nI i10)))] [] from K10 (301 + 1) 1 _ (by omega) (by omega) (rfl) (⟨hT_2.1, hT_2.2, NrI.z s, Nat.le_refl 1⟩)
  intro fu_
  induction fu_ with
  | zero => intro i10 Yl10 h1 h2; omega
  | succ fu_ ih10 =>
    intro i10 Yl10 hi10 hm10 hYl10 hx10
    refine y_iload_n (pc' := 11) rfl C dX12_settlesIn_10 rfl ?_
    refine y_sipush (pc' := 14) rfl (v := 300) C dX12_settlesIn_11 (by decide) ?_
    refine y_ic_gt (pc' := 17) rfl (tgt := 62) C dX12_settlesIn_14 (by decide) (fun c_14 => ?_) (fun c_14 => ?_)
    · have hb10 : 301 ≤ i10 := nI_lt_iff (by omega) (by omega) c_14
      refine y_sipush (pc' := 65) rfl (v := (-10005)) C dX12_settlesIn_62 (by decide) ?_
      refine y_ireturn C rfl rfl dX12_settlesIn_65 rfl rfl ?_
      exact ⟨(set_no (by have := hx10.2.2.1; rw [show i10 - 1 = 300 by omega] at this; exact this)).symm, hx10.2.1⟩
    · have hb10 : i10 < 301 := nI_nlt_iff (by omega) (by omega) c_14
      refine y_aload_n (pc' := 18) rfl C dX12_settlesIn_17 rfl ?_
      refine y_get (pc' := 21) rfl (v := .ref (a (0, 1, 0))) C fl_X12_16 (v2 rfl) rfl rfl dX12_settlesIn_18 rfl ?_
      refine y_cVv (pc' := 24) (k' := 0) (n' := 0) rfl C (c_X3_passMinute _ G a Yl10 1 n (0 + (i10 - 1)) (mins (i10 - 1) s) k1 hx10.1 (Inv_mins hI hn (i10 - 1) (by omega)) hn (by omega)) my_X3_passMinute aw_943 (v0 k1 rfl) rfl rfl rfl rfl rfl (Nat.le_of_ble_eq_true rfl) rfl dX12_settlesIn_21 rfl rfl (fun Y_21 hY_21 => ?_)
      refine y_bipush (pc' := 26) rfl (v := (-5)) C dX12_settlesIn_24 (by decide) ?_
      refine y_aload_n (pc' := 27) rfl C dX12_settlesIn_26 rfl ?_
      refine y_get (pc' := 30) rfl (v := .ref (a (0, 1, 0))) C fl_X12_16 (v2 rfl) rfl rfl dX12_settlesIn_27 rfl ?_
      refine y_cVi (pc' := 33) (k' := 0) (n' := 0) rfl C (c_X3_error _ G a Y_21 1 k1) my_X3_error aw_960 (v0 k1 rfl) rfl rfl rfl rfl rfl (Nat.le_of_ble_eq_true rfl) rfl dX12_settlesIn_30 rfl rfl (fun r_30 Y_30 hp_30 => ?_)
      obtain ⟨rfl, hY_30⟩ := hp_30
      have hY_30 := hY_30.symm; subst hY_30
      refine y_iconst (pc' := 34) rfl (v := 5) C dX12_settlesIn_33 (by decide) ?_
      refine y_cSi (pc' := 37) (k' := 0) (n' := 0) rfl C (c_X12_isFrom _ G a Y_21 (-5) ((Y_21 (0, 1, 0) 1) - (Y_21 (0, 1, 0) 0)) 5) my_X12_isFrom aw_938 rfl rfl (Nat.le_of_ble_eq_true rfl) rfl dX12_settlesIn_34 rfl rfl (fun r_34 Y_34 hp_34 => ?_)
      obtain ⟨rfl, hY_34⟩ := hp_34
      have hY_34 := hY_34.symm; subst hY_34
      have K37 : ∀ (w_37 : Int32) (_ : w_37 = (if (bi ((-5) ≤ ((Y_21 (0, 1, 0) 1) - (Y_21 (0, 1, 0) 0)) ∧ ((Y_21 (0, 1, 0) 1) - (Y_21 (0, 1, 0) 0)) ≤ 5)) = 0 then 0 else ((near s (i10 - 1)) + 1))), WY X G A a Y_21 0 0 (MEnd X G A ({ frames := 5, cells := 0, slots := 0, locals := 113 } : Room) (PY G a (PI (fun r Y' => r = settleF s ∧ FrK Y Y' 1)))) 47 [some (.ref (a (2, 0, 0))), some (.int ((near s (i10 - 1)))), some (.int ((nI i10)))] [.int w_37] := by
        intro w_37 ew_37
        have hnr : w_37 = near s (i10 - 1 + 1) := by rw [ew_37, near, show mErr (mins (i10 - 1 + 1) s) = (Y_21 (0, 1, 0) 1) - (Y_21 (0, 1, 0) 0) by rw [hY_21.1.1.1, hY_21.1.1.2.1]; rfl]
        refine y_istore_n (pc' := 48) rfl C dX12_settlesIn_47 (by decide) ?_
        refine y_iload_n (pc' := 49) rfl C dX12_settlesIn_48 rfl ?_
        refine y_bipush (pc' := 51) rfl (v := 10) C dX12_settlesIn_49 (by decide) ?_
        refine y_ic_ne (pc' := 54) rfl (tgt := 56) C dX12_settlesIn_51 (by decide) (fun c_51 => ?_) (fun c_51 => ?_)
        · refine y_iinc (pc' := 59) rfl (v := (nI (i10 + 1))) C dX12_settlesIn_56 rfl (nI_1 i10) (by decide) ?_
          refine y_goto (tgt := 10) C dX12_settlesIn_59 (by decide) ?_
          refine y_conv (L' := [some (.ref (a (2, 0, 0))), some (.int ((near s ((i10 + 1) - 1)))), some (.int ((nI (i10 + 1))))]) (by rw [show i10 + 1 - 1 = i10 - 1 + 1 by omega, hnr]; rfl) rfl ?_
          exact ih10 (i10 + 1) _ (by omega) (by omega) (rfl) (⟨by rw [show i10 + 1 - 1 = i10 - 1 + 1 by omega]; exact hY_21.1, hx10.2.1.tr hY_21.2, by rw [show i10 + 1 - 1 = i10 - 1 + 1 by omega]; exact hx10.2.2.1.s (by rw [← hnr]; exact c_51), by omega⟩)
        · refine y_iload_n (pc' := 55) rfl C dX12_settlesIn_54 rfl ?_
          refine y_ireturn C rfl rfl dX12_settlesIn_55 rfl rfl ?_
          exact ⟨(by have := set_hit (i := i10 - 1) (by omega) hx10.2.2.1 (by rw [← hnr]; exact c_51); rw [this, show i10 - 1 + 1 = i10 by omega]), hx10.2.1.tr hY_21.2⟩
      refine y_if_eq (pc' := 40) rfl (tgt := 46) C dX12_settlesIn_37 (by decide) (fun c_37 => ?_) (fun c_37 => ?_)
      · have h_37 := bi_0.mp c_37
        refine y_iconst (pc' := 47) rfl (v := 0) C dX12_settlesIn_46 (by decide) ?_
        exact K37 _ (by rw [if_pos c_37])
      · have h_37 := bi_n0 c_37
        refine y_iload_n (pc' := 41) rfl C dX12_settlesIn_40 rfl ?_
        refine y_iconst (pc' := 42) rfl (v := 1) C dX12_settlesIn_41 (by decide) ?_
        refine y_iadd (pc' := 43) rfl C dX12_settlesIn_42 ?_
        refine y_goto (tgt := 47) C dX12_settlesIn_43 (by decide) ?_
        exact K37 _ (by rw [if_neg c_37])
-- KilnKeeper.undo 
set_option maxHeartbeats 1000000 in
set_option maxRecDepth 20000 in
theorem c_X12_undo (l : Launch) (G : GT) (a : Id3 → Nat) (Y : YT) (c st n : Nat) (s : Nat → Int32)  (hc : Y (2, 0, 1) 0 = nI c) (hc8' : c ≤ 8) (hst : Y (2, 0, 1) 1 = nI st) (hst8 : st < 8) (hR : c ≠ 0 → RKi Y (3 + (st + (c - 1)) % 8) s) (hI : MB s n) : CtY l G a yX12_undo cX12_undo 1 (some .int) ({ frames := 4, cells := 0, slots := 0, locals := 88 } : Room) [.ref (a (2, 0, 0))] Y (PI (fun r Y' => (c = 0 → r = -10005 ∧ Y' = Y) ∧ (c ≠ 0 → r = nI (c - 1) ∧ Y' (2, 0, 1) 0 = nI (c - 1) ∧ Y' (2, 0, 1) 1 = nI st ∧ RKi Y' 0 s ∧ ∀ i : Id3, ¬ (i.1 ≤ 1 ∧ i.2.1 = 0) → i ≠ (2, 0, 1) → Y' i = Y i))) := by
  refine CtY.of (by decide) rfl (Nat.le_of_ble_eq_true rfl) ?_
  intro X A C hl
  subst hl
  refine y_aload_n (pc' := 1) rfl C dX12_undo_0 rfl ?_
  refine y_get (pc' := 4) rfl (v := .ref (a (2, 0, 1))) C fl_X12_29 (v2 rfl) rfl rfl dX12_undo_1 rfl ?_
  refine y_aload_n (pc' := 5) rfl C dX12_undo_4 rfl ?_
  refine y_get (pc' := 8) rfl (v := .ref (a (0, 0, 0))) C fl_X12_10 (v2 rfl) rfl rfl dX12_undo_5 rfl ?_
  refine y_cVi (pc' := 11) (k' := 0) (n' := 0) rfl C (c_X2_takeBack _ G a Y c st n s hc hc8' hst hst8 hR hI) my_X2_takeBack aw_1096 (v2 rfl) rfl rfl rfl rfl rfl (Nat.le_of_ble_eq_true rfl) rfl dX12_undo_8 rfl rfl (fun r_8 Y_8 hp_8 => ?_)
  obtain ⟨hr_8, hY_8⟩ := hp_8
  refine y_ireturn C rfl rfl dX12_undo_11 rfl rfl ?_
  exact ⟨hr_8, hY_8⟩
-- KilnKeeper.save 
set_option maxHeartbeats 1000000 in
set_option maxRecDepth 20000 in
theorem c_X12_save (l : Launch) (G : GT) (a : Id3 → Nat) (Y : YT) (n : Nat) (s : Nat → Int32)  (hR : RKi Y 0 s) (hI : MB s n) : CtY l G a yX12_save cX12_save 1 (some .int) ({ frames := 3, cells := 0, slots := 0, locals := 66 } : Room) [.ref (a (2, 0, 0))] Y (PI (fun r Y' => r = s 12 ∧ RKi Y' 2 s ∧ Y' (2, 0, 0) 3 = 1 ∧ ∀ i : Id3, ¬ (i.1 ≤ 1 ∧ i.2.1 = 2) → i ≠ (2, 0, 0) → Y' i = Y i)) := by
  refine CtY.of (by decide) rfl (Nat.le_of_ble_eq_true rfl) ?_
  intro X A C hl
  subst hl
  refine y_aload_n (pc' := 1) rfl C dX12_save_0 rfl ?_
  refine y_get (pc' := 4) rfl (v := .ref (a (0, 2, 0))) C fl_X12_19 (v2 rfl) rfl rfl dX12_save_1 rfl ?_
  refine y_aload_n (pc' := 5) rfl C dX12_save_4 rfl ?_
  refine y_get (pc' := 8) rfl (v := .ref (a (0, 0, 0))) C fl_X12_10 (v2 rfl) rfl rfl dX12_save_5 rfl ?_
  refine y_cVv (pc' := 11) (k' := 0) (n' := 0) rfl C (c_X3_copyFrom _ G a Y 2 0 n s k2 k0 (by decide) hR hI) my_X3_copyFrom aw_388 (v0 k2 rfl) rfl rfl rfl rfl rfl (Nat.le_of_ble_eq_true rfl) rfl dX12_save_8 rfl rfl (fun Y_8 hY_8 => ?_)
  refine y_aload_n (pc' := 12) rfl C dX12_save_11 rfl ?_
  refine y_iconst (pc' := 13) rfl (v := 1) C dX12_save_12 (by decide) ?_
  refine y_putB (pc' := 16) rfl C fp_X12_22 (v2 rfl) rfl rfl (by first | exact Or.inl rfl | exact Or.inr rfl | assumption) dX12_save_13 rfl (fun Z13 hZ13 => ?_)
  refine y_aload_n (pc' := 17) rfl C dX12_save_16 rfl ?_
  refine y_get (pc' := 20) rfl (v := .ref (a (0, 0, 0))) C fl_X12_10 (v2 rfl) rfl rfl dX12_save_17 rfl ?_
  refine y_get (pc' := 23) rfl (v := .ref (a (0, 0, 4))) C fl_X12_84 (v0 k0 rfl) rfl rfl dX12_save_20 rfl ?_
  refine y_get (pc' := 26) rfl C fl_X12_236 (v0 k0 rfl) rfl rfl dX12_save_23 rfl ?_
  refine y_ireturn C rfl rfl dX12_save_26 rfl rfl ?_
  have hz : ∀ i : Id3, i ≠ (2, 0, 0) → Z13 i = Y_8 i := fun i hi => by rw [hZ13, up_n hi]
  have hR0 := hR.fr hY_8.2 (by decide)
  exact ⟨by rw [hz _ (by decide)]; exact hR0.2.2.2.1.1, hY_8.1.congr (fun i h1 h2 => hz i (ne21 h1)), by rw [hZ13, up_s, upd_s], fun i h1 h2 => by rw [hz i h2, hY_8.2 i h1]⟩
-- KilnKeeper.restore 
set_option maxHeartbeats 1000000 in
set_option maxRecDepth 20000 in
theorem c_X12_restore (l : Launch) (G : GT) (a : Id3 → Nat) (Y : YT) (n : Nat) (s : Nat → Int32)  (hR : ¬ Y (2, 0, 0) 3 = 0 → RKi Y 2 s) (hI : MB s n) : CtY l G a yX12_restore cX12_restore 1 (some .int) ({ frames := 3, cells := 0, slots := 0, locals := 66 } : Room) [.ref (a (2, 0, 0))] Y (PI (fun r Y' => (Y (2, 0, 0) 3 = 0 → r = -10005 ∧ Y' = Y) ∧ (¬ Y (2, 0, 0) 3 = 0 → r = s 12 ∧ RKi Y' 0 s ∧ Y' (2, 0, 1) 0 = 0 ∧ Y' (2, 0, 1) 1 = Y (2, 0, 1) 1 ∧ ∀ i : Id3, ¬ (i.1 ≤ 1 ∧ i.2.1 = 0) → i ≠ (2, 0, 1) → Y' i = Y i))) := by
  refine CtY.of (by decide) rfl (Nat.le_of_ble_eq_true rfl) ?_
  intro X A C hl
  subst hl
  refine y_aload_n (pc' := 1) rfl C dX12_restore_0 rfl ?_
  refine y_getB (pc' := 4) rfl C fl_X12_22 (v2 rfl) rfl rfl dX12_restore_1 rfl (fun hb_1 => ?_)
  refine y_if_ne (pc' := 7) rfl (tgt := 11) C dX12_restore_4 (by decide) (fun c_4 => ?_) (fun c_4 => ?_)
  · refine y_aload_n (pc' := 12) rfl C dX12_restore_11 rfl ?_
    refine y_get (pc' := 15) rfl (v := .ref (a (0, 0, 0))) C fl_X12_10 (v2 rfl) rfl rfl dX12_restore_12 rfl ?_
    refine y_aload_n (pc' := 16) rfl C dX12_restore_15 rfl ?_
    refine y_get (pc' := 19) rfl (v := .ref (a (0, 2, 0))) C fl_X12_19 (v2 rfl) rfl rfl dX12_restore_16 rfl ?_
    refine y_cVv (pc' := 22) (k' := 0) (n' := 0) rfl C (c_X3_copyFrom _ G a Y 0 2 n s k0 k2 (by decide) (hR c_4) hI) my_X3_copyFrom aw_388 (v0 k0 rfl) rfl rfl rfl rfl rfl (Nat.le_of_ble_eq_true rfl) rfl dX12_restore_19 rfl rfl (fun Y_19 hY_19 => ?_)
    refine y_aload_n (pc' := 23) rfl C dX12_restore_22 rfl ?_
    refine y_get (pc' := 26) rfl (v := .ref (a (2, 0, 1))) C fl_X12_29 (v2 rfl) rfl rfl dX12_restore_23 rfl ?_
    refine y_iconst (pc' := 27) rfl (v := 0) C dX12_restore_26 (by decide) ?_
    refine y_put (pc' := 30) rfl C fp_X12_223 (v2 rfl) rfl rfl dX12_restore_27 rfl (fun Z27 hZ27 => ?_)
    refine y_aload_n (pc' := 31) rfl C dX12_restore_30 rfl ?_
    refine y_get (pc' := 34) rfl (v := .ref (a (0, 0, 0))) C fl_X12_10 (v2 rfl) rfl rfl dX12_restore_31 rfl ?_
    refine y_get (pc' := 37) rfl (v := .ref (a (0, 0, 4))) C fl_X12_84 (v0 k0 rfl) rfl rfl dX12_restore_34 rfl ?_
    refine y_get (pc' := 40) rfl C fl_X12_236 (v0 k0 rfl) rfl rfl dX12_restore_37 rfl ?_
    refine y_ireturn C rfl rfl dX12_restore_40 rfl rfl ?_
    have hz : ∀ i : Id3, i ≠ (2, 0, 1) → Z27 i = Y_19 i := fun i hi => by rw [hZ27, up_n hi]
    exact ⟨fun q => absurd q c_4, fun _ => ⟨by rw [hz _ (by decide)]; exact hY_19.1.2.2.2.1.1, hY_19.1.congr (fun i h1 h2 => hz i (ne21 h1)), by rw [hZ27, up_s, upd_s], by rw [hZ27, up_s, upd_n (by decide), hY_19.2 _ (fun z => absurd z.1 (by decide))], fun i h1 h2 => by rw [hz i h2, hY_19.2 i h1]⟩⟩
  · refine y_sipush (pc' := 10) rfl (v := (-10005)) C dX12_restore_7 (by decide) ?_
    refine y_ireturn C rfl rfl dX12_restore_10 rfl rfl ?_
    exact ⟨fun _ => ⟨rfl, rfl⟩, fun q => absurd c_4 q⟩
