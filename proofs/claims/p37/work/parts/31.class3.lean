
theorem nek {k k2 a b c d : Nat} (h : k ≠ k2) : ((a, k, b) : Id3) ≠ (c, k2, d) := fun e => h (by injection e with _ e; injection e)
theorem nej {a b c d e f : Nat} (h : c ≠ f) : ((a, b, c) : Id3) ≠ (d, e, f) := fun q => h (by injection q with _ q; injection q)
def amN (y : Nat → Int32) : Nat → Int32
  | 0 => 0
  | n + 1 => amN y n + nI n * y n
def smN (y : Nat → Int32) : Nat → Int32
  | 0 => 0
  | n + 1 => smN y n + y n
def balB (y z : Nat → Int32) : Int32 := if y 2 = y 1 + y 3 then (if y 3 = amN z 101 then (if y 0 = smN z 101 then 1 else 0) else 0) else 0
def bMin (y : Nat → Int32) (d : Int32) : Int32 := if y 1 < d then y 1 else d

theorem balB_b {p q t : Prop} {dp : Decidable p} {dq : Decidable q} {dt : Decidable t} {w : Int32} (h : w = if p then (if q then (if t then 1 else 0) else 0) else 0) : isb w := by
  rw [h]
  by_cases hp : p
  · rw [if_pos hp]
    by_cases hq : q
    · rw [if_pos hq]
      by_cases ht : t
      · rw [if_pos ht]; exact Or.inr rfl
      · rw [if_neg ht]; exact Or.inl rfl
    · rw [if_neg hq]; exact Or.inl rfl
  · rw [if_neg hp]; exact Or.inl rfl
def m12 (mi : Nat) : Nat := if 12 < mi then 12 else mi
theorem in_TX1 : ∀ w ∈ u_ws RX1 TX1 6, w ∈ AW := List.forall_mem_cons.mpr ⟨aw_114, List.forall_mem_cons.mpr ⟨aw_116, List.forall_mem_cons.mpr ⟨aw_118, List.forall_mem_cons.mpr ⟨aw_120, List.forall_mem_cons.mpr ⟨aw_122, List.forall_mem_cons.mpr ⟨aw_124, fun _ h => absurd h List.not_mem_nil⟩⟩⟩⟩⟩⟩
theorem fl_X1_9 : FLK "KilnKeeper$Book" 9 1 0 := ⟨RX1, TX1, 6, rfl, by decide, aw_102, in_TX1⟩
theorem fl_X1_15 : FLK "KilnKeeper$Book" 15 1 1 := ⟨RX1, TX1, 6, rfl, by decide, aw_105, in_TX1⟩
theorem fl_X1_18 : FLK "KilnKeeper$Book" 18 1 2 := ⟨RX1, TX1, 6, rfl, by decide, aw_107, in_TX1⟩
theorem fl_X1_21 : FLK "KilnKeeper$Book" 21 1 3 := ⟨RX1, TX1, 6, rfl, by decide, aw_109, in_TX1⟩
theorem fl_X1_24 : FLK "KilnKeeper$Book" 24 1 4 := ⟨RX1, TX1, 6, rfl, by decide, aw_111, in_TX1⟩
theorem fl_X1_28 : FLK "KilnKeeper$Book" 28 1 5 := ⟨RX1, TX1, 6, rfl, by decide, aw_113, in_TX1⟩
theorem fp_X1_9 : FLP "KilnKeeper$Book" 9 1 0 .int false := ⟨RX1, TX1, 6, tyX1, rfl, by decide, aw_102, in_TX1, tyX1_ok, nmX1, rfl, rfl, fun h => by first | exact rfl | cases h⟩
theorem fp_X1_15 : FLP "KilnKeeper$Book" 15 1 1 .int false := ⟨RX1, TX1, 6, tyX1, rfl, by decide, aw_105, in_TX1, tyX1_ok, nmX1, rfl, rfl, fun h => by first | exact rfl | cases h⟩
theorem fp_X1_18 : FLP "KilnKeeper$Book" 18 1 2 .int false := ⟨RX1, TX1, 6, tyX1, rfl, by decide, aw_107, in_TX1, tyX1_ok, nmX1, rfl, rfl, fun h => by first | exact rfl | cases h⟩
theorem fp_X1_21 : FLP "KilnKeeper$Book" 21 1 3 .int false := ⟨RX1, TX1, 6, tyX1, rfl, by decide, aw_109, in_TX1, tyX1_ok, nmX1, rfl, rfl, fun h => by first | exact rfl | cases h⟩
theorem my_X12_copyRow : MS yX12_copyRow cX12_copyRow 3 none 2 := ⟨aw_402, aw_15, ⟨by decide, by decide, by decide +kernel⟩, aw_401⟩
theorem my_X1_burntByAmounts : MV yX1_burntByAmounts cX1_burntByAmounts 3 (some .int) 0 := ⟨aw_1058, aw_19, ⟨by decide, by decide, by decide +kernel⟩, aw_1056, aw_1057⟩
theorem my_X1_logStart : MS yX1_logStart cX1_logStart 1 (some .int) 1 := ⟨aw_917, aw_19, ⟨by decide, by decide, by decide +kernel⟩, aw_916⟩
-- KilnKeeper$LagRow.copyFrom 
set_option maxHeartbeats 1000000 in
set_option maxRecDepth 20000 in
theorem c_X4_copyFrom (l : Launch) (G : GT) (a : Id3 → Nat) (Y : YT) (k k2 : Nat)  (hk : k < 11) (hk2 : k2 < 11) (hkk : k ≠ k2) : CtY l G a yX4_copyFrom cX4_copyFrom 2 none ({ frames := 1, cells := 0, slots := 0, locals := 22 } : Room) [.ref (a (0, k, 2)), .ref (a (0, k2, 2))] Y (PV (fun Y' => Y' = setA (setA Y (0, k, 2) (fil (Y (0, k2, 2)) (Y (0, k, 2)) 1)) (0, k, 3) (fil (Y (0, k2, 3)) (Y (0, k, 3)) 5))) := by
  refine CtY.of (by decide) rfl (Nat.le_of_ble_eq_true rfl) ?_
  intro X A C hl
  subst hl
  refine y_aload_n (pc' := 1) rfl C dX4_copyFrom_0 rfl ?_
  refine y_aload_n (pc' := 2) rfl C dX4_copyFrom_1 rfl ?_
  refine y_get (pc' := 5) rfl C fl_X4_9 (v0 hk2 rfl) rfl rfl dX4_copyFrom_2 rfl ?_
  refine y_put (pc' := 8) rfl C fp_X4_9 (v0 hk rfl) rfl rfl dX4_copyFrom_5 rfl (fun Z5 hZ5 => ?_)
  refine y_aload_n (pc' := 9) rfl C dX4_copyFrom_8 rfl ?_
  refine y_get (pc' := 12) rfl (v := .ref (a (0, k2, 3))) C fl_X4_15 (v0 hk2 rfl) rfl rfl dX4_copyFrom_9 rfl ?_
  refine y_aload_n (pc' := 13) rfl C dX4_copyFrom_12 rfl ?_
  refine y_get (pc' := 16) rfl (v := .ref (a (0, k, 3))) C fl_X4_15 (v0 hk rfl) rfl rfl dX4_copyFrom_13 rfl ?_
  refine y_cSNv (pc' := 19) (k' := 0) (n' := 0) rfl C (c_X12_copyRow _ G a Z5 (0, k2, 3) (0, k, 3) 5 (v0 hk2 rfl) rfl rfl (v0 hk rfl) rfl rfl rfl (nek (Ne.symm hkk))) my_X12_copyRow (nw_400) rfl rfl (Nat.le_of_ble_eq_true rfl) rfl dX4_copyFrom_16 rfl rfl (fun Y_16 hY_16 => ?_)
  refine y_return C rfl dX4_copyFrom_19 rfl rfl ?_
  rw [hY_16, hZ5, up_setA, fil1, setA_n (nek (Ne.symm hkk)), setA_n (nej (by decide))]
-- KilnKeeper$Book.logStart 
set_option maxHeartbeats 1000000 in
set_option maxRecDepth 20000 in
theorem c_X1_logStart (l : Launch) (G : GT) (a : Id3 → Nat) (Y : YT) (m : Nat)  (hm : m < 2 ^ 30) : CtY l G a yX1_logStart cX1_logStart 1 (some .int) ({ frames := 0, cells := 0, slots := 0, locals := 0 } : Room) [.int (nI m)] Y (PI (fun r Y' => r = nI (m % 12 * 4) ∧ Y' = Y)) := by
  refine CtY.of (by decide) rfl (Nat.le_of_ble_eq_true rfl) ?_
  intro X A C hl
  subst hl
  refine y_iload_n (pc' := 1) rfl C dX1_logStart_0 rfl ?_
  refine y_bipush (pc' := 3) rfl (v := 12) C dX1_logStart_1 (by decide) ?_
  refine y_irem (pc' := 4) rfl C dX1_logStart_3 (by decide) ?_
  refine y_iconst (pc' := 5) rfl (v := 4) C dX1_logStart_4 (by decide) ?_
  refine y_imul (pc' := 6) rfl C dX1_logStart_5 ?_
  refine y_ireturn C rfl rfl dX1_logStart_6 rfl rfl ?_
  refine ⟨?_, rfl⟩
  rw [show (12 : Int32) = nI 12 from rfl, pk_rem (by omega) (by decide) (by decide)]
  exact pk_mul _ 4
-- KilnKeeper$Book.burn 
set_option maxHeartbeats 1000000 in
set_option maxRecDepth 20000 in
theorem c_X1_burn (l : Launch) (G : GT) (a : Id3 → Nat) (Y : YT) (k : Nat) (d : Int32)  (hk : k < 11) : CtY l G a yX1_burn cX1_burn 3 (some .int) ({ frames := 1, cells := 0, slots := 0, locals := 22 } : Room) [.ref (a (0, k, 4)), .int d] Y (PI (fun r Y' => r = bMin (Y (0, k, 4)) d ∧ Y' = setF (setA Y (0, k, 4) (upd (upd (Y (0, k, 4)) 1 (Y (0, k, 4) 1 - bMin (Y (0, k, 4)) d)) 3 (Y (0, k, 4) 3 + bMin (Y (0, k, 4)) d))) (0, k, 5) 101 (bMin (Y (0, k, 4)) d) (numF Y (0, k, 5) 101 (bMin (Y (0, k, 4)) d) + 1))) := by
  refine CtY.of (by decide) rfl (Nat.le_of_ble_eq_true rfl) ?_
  intro X A C hl
  subst hl
  refine y_iload_n (pc' := 1) rfl C dX1_burn_0 rfl ?_
  refine y_aload_n (pc' := 2) rfl C dX1_burn_1 rfl ?_
  refine y_get (pc' := 5) rfl C fl_X1_15 (v0 hk rfl) rfl rfl dX1_burn_2 rfl ?_
  refine y_min (pc' := 8) rfl C aw_907 mm_min rfl rfl rfl rfl dX1_burn_5 ?_
  obtain ⟨m_5, e_5⟩ : ∃ v : Int32, v = (if (Y (0, k, 4) 1) < d then (Y (0, k, 4) 1) else d) := ⟨_, rfl⟩
  rw [← e_5]
  refine y_istore_n (pc' := 9) rfl C dX1_burn_8 (by decide) ?_
  refine y_aload_n (pc' := 10) rfl C dX1_burn_9 rfl ?_
  refine y_dup (pc' := 11) rfl C dX1_burn_10 rfl ?_
  refine y_get (pc' := 14) rfl C fl_X1_15 (v0 hk rfl) rfl rfl dX1_burn_11 rfl ?_
  refine y_iload_n (pc' := 15) rfl C dX1_burn_14 rfl ?_
  refine y_isub (pc' := 16) rfl C dX1_burn_15 ?_
  refine y_put (pc' := 19) rfl C fp_X1_15 (v0 hk rfl) rfl rfl dX1_burn_16 rfl (fun Z16 hZ16 => ?_)
  refine y_aload_n (pc' := 20) rfl C dX1_burn_19 rfl ?_
  refine y_dup (pc' := 21) rfl C dX1_burn_20 rfl ?_
  refine y_get (pc' := 24) rfl C fl_X1_21 (v0 hk rfl) rfl rfl dX1_burn_21 rfl ?_
  refine y_iload_n (pc' := 25) rfl C dX1_burn_24 rfl ?_
  refine y_iadd (pc' := 26) rfl C dX1_burn_25 ?_
  refine y_put (pc' := 29) rfl C fp_X1_21 (v0 hk rfl) rfl rfl dX1_burn_26 rfl (fun Z26 hZ26 => ?_)
  refine y_aload_n (pc' := 30) rfl C dX1_burn_29 rfl ?_
  refine y_get (pc' := 33) rfl (v := .ref (a (0, k, 5))) C fl_X1_24 (v0 hk rfl) rfl rfl dX1_burn_30 rfl ?_
  refine y_iload_n (pc' := 34) rfl C dX1_burn_33 rfl ?_
  refine y_aload_n (pc' := 35) rfl C dX1_burn_34 rfl ?_
  refine y_get (pc' := 38) rfl (v := .ref (a (0, k, 5))) C fl_X1_24 (v0 hk rfl) rfl rfl dX1_burn_35 rfl ?_
  refine y_iload_n (pc' := 39) rfl C dX1_burn_38 rfl ?_
  refine y_cSNi (pc' := 42) (k' := 0) (n' := 0) rfl C (c_X12_numberAt _ G a Z26 (0, k, 5) 101 m_5 (v0 hk rfl) rfl rfl rfl) my_X12_numberAt (nw_908) rfl rfl (Nat.le_of_ble_eq_true rfl) rfl dX1_burn_39 rfl rfl (fun r_39 Y_39 hp_39 => ?_)
  obtain ⟨rfl, hY_39⟩ := hp_39
  have hY_39 := hY_39.symm; subst hY_39
  refine y_iconst (pc' := 43) rfl (v := 1) C dX1_burn_42 (by decide) ?_
  refine y_iadd (pc' := 44) rfl C dX1_burn_43 ?_
  refine y_cSNv (pc' := 47) (k' := 0) (n' := 0) rfl C (c_X12_setNumberAt _ G a Z26 (0, k, 5) 101 m_5 ((numF Z26 (0, k, 5) 101 m_5) + 1) (v0 hk rfl) rfl rfl rfl) my_X12_setNumberAt (nw_909) rfl rfl (Nat.le_of_ble_eq_true rfl) rfl dX1_burn_44 rfl rfl (fun Y_44 hY_44 => ?_)
  refine y_iload_n (pc' := 48) rfl C dX1_burn_47 rfl ?_
  refine y_ireturn C rfl rfl dX1_burn_48 rfl rfl ?_
  have e5 : m_5 = bMin (Y (0, k, 4)) d := e_5
  refine ⟨e5, ?_⟩
  rw [hY_44, hZ26, hZ16, ← e5]; simp only [up_setA, setA_setA, setA_s]; rw [upd_n (show (3 : Nat) ≠ 1 by decide)]; simp only [numF]; rw [setA_n (nej (by decide))]
-- KilnKeeper$Book.logMinute 
set_option maxHeartbeats 1000000 in
set_option maxRecDepth 20000 in
theorem c_X1_logMinute (l : Launch) (G : GT) (a : Id3 → Nat) (Y : YT) (k mi : Nat) (d dm e b : Int32)  (hk : k < 11) (hmi : Y (0, k, 4) 0 = nI mi) (hmi2 : mi < 2 ^ 29) : CtY l G a yX1_logMinute cX1_logMinute 6 none ({ frames := 1, cells := 0, slots := 0, locals := 22 } : Room) [.ref (a (0, k, 4)), .int d, .int dm, .int e, .int b] Y (PV (fun Y' => Y' = up (up (up (up (up Y (0, k, 6) (mi % 12 * 4) d) (0, k, 6) (mi % 12 * 4 + 1) dm) (0, k, 6) (mi % 12 * 4 + 2) e) (0, k, 6) (mi % 12 * 4 + 3) b) (0, k, 4) 0 (nI (mi + 1)))) := by
  refine CtY.of (by decide) rfl (Nat.le_of_ble_eq_true rfl) ?_
  intro X A C hl
  subst hl
  refine y_aload_n (pc' := 1) rfl C dX1_logMinute_0 rfl ?_
  refine y_get (pc' := 4) rfl C fl_X1_9 (v0 hk rfl) rfl rfl dX1_logMinute_1 rfl ?_
  refine y_conv (L' := [some (.ref (a (0, k, 4))), some (.int d), some (.int dm), some (.int e), some (.int b), none]) (st' := [.int ((nI mi))]) (rfl) (by rw [hmi]; rfl) ?_
  refine y_cSi (pc' := 7) (k' := 0) (n' := 0) rfl C (c_X1_logStart _ G a Y mi (by omega)) my_X1_logStart aw_915 rfl rfl (Nat.le_of_ble_eq_true rfl) rfl dX1_logMinute_4 rfl rfl (fun r_4 Y_4 hp_4 => ?_)
  obtain ⟨rfl, hY_4⟩ := hp_4
  have hY_4 := hY_4.symm; subst hY_4
  refine y_istore (pc' := 9) rfl C dX1_logMinute_7 (by decide) ?_
  refine y_aload_n (pc' := 10) rfl C dX1_logMinute_9 rfl ?_
  refine y_get (pc' := 13) rfl (v := .ref (a (0, k, 6))) C fl_X1_28 (v0 hk rfl) rfl rfl dX1_logMinute_10 rfl ?_
  refine y_iload (pc' := 15) rfl C dX1_logMinute_13 rfl ?_
  refine y_iload_n (pc' := 16) rfl C dX1_logMinute_15 rfl ?_
  refine y_cSNv (pc' := 19) (k' := 0) (n' := 0) rfl C (c_X12_setNumberAt _ G a Y (0, k, 6) 48 (nI (mi % 12 * 4)) d (v0 hk rfl) rfl rfl rfl) my_X12_setNumberAt (nw_909) rfl rfl (Nat.le_of_ble_eq_true rfl) rfl dX1_logMinute_16 rfl rfl (fun Y_16 hY_16 => ?_)
  refine y_aload_n (pc' := 20) rfl C dX1_logMinute_19 rfl ?_
  refine y_get (pc' := 23) rfl (v := .ref (a (0, k, 6))) C fl_X1_28 (v0 hk rfl) rfl rfl dX1_logMinute_20 rfl ?_
  refine y_iload (pc' := 25) rfl C dX1_logMinute_23 rfl ?_
  refine y_iconst (pc' := 26) rfl (v := 1) C dX1_logMinute_25 (by decide) ?_
  refine y_iadd (pc' := 27) rfl C dX1_logMinute_26 ?_
  refine y_iload_n (pc' := 28) rfl C dX1_logMinute_27 rfl ?_
  refine y_cSNv (pc' := 31) (k' := 0) (n' := 0) rfl C (c_X12_setNumberAt _ G a Y_16 (0, k, 6) 48 ((nI (mi % 12 * 4)) + 1) dm (v0 hk rfl) rfl rfl rfl) my_X12_setNumberAt (nw_909) rfl rfl (Nat.le_of_ble_eq_true rfl) rfl dX1_logMinute_28 rfl rfl (fun Y_28 hY_28 => ?_)
  refine y_aload_n (pc' := 32) rfl C dX1_logMinute_31 rfl ?_
  refine y_get (pc' := 35) rfl (v := .ref (a (0, k, 6))) C fl_X1_28 (v0 hk rfl) rfl rfl dX1_logMinute_32 rfl ?_
  refine y_iload (pc' := 37) rfl C dX1_logMinute_35 rfl ?_
  refine y_iconst (pc' := 38) rfl (v := 2) C dX1_logMinute_37 (by decide) ?_
  refine y_iadd (pc' := 39) rfl C dX1_logMinute_38 ?_
  refine y_iload_n (pc' := 40) rfl C dX1_logMinute_39 rfl ?_
  refine y_cSNv (pc' := 43) (k' := 0) (n' := 0) rfl C (c_X12_setNumberAt _ G a Y_28 (0, k, 6) 48 ((nI (mi % 12 * 4)) + 2) e (v0 hk rfl) rfl rfl rfl) my_X12_setNumberAt (nw_909) rfl rfl (Nat.le_of_ble_eq_true rfl) rfl dX1_logMinute_40 rfl rfl (fun Y_40 hY_40 => ?_)
  refine y_aload_n (pc' := 44) rfl C dX1_logMinute_43 rfl ?_
  refine y_get (pc' := 47) rfl (v := .ref (a (0, k, 6))) C fl_X1_28 (v0 hk rfl) rfl rfl dX1_logMinute_44 rfl ?_
  refine y_iload (pc' := 49) rfl C dX1_logMinute_47 rfl ?_
  refine y_iconst (pc' := 50) rfl (v := 3) C dX1_logMinute_49 (by decide) ?_
  refine y_iadd (pc' := 51) rfl C dX1_logMinute_50 ?_
  refine y_iload (pc' := 53) rfl C dX1_logMinute_51 rfl ?_
  refine y_cSNv (pc' := 56) (k' := 0) (n' := 0) rfl C (c_X12_setNumberAt _ G a Y_40 (0, k, 6) 48 ((nI (mi % 12 * 4)) + 3) b (v0 hk rfl) rfl rfl rfl) my_X12_setNumberAt (nw_909) rfl rfl (Nat.le_of_ble_eq_true rfl) rfl dX1_logMinute_53 rfl rfl (fun Y_53 hY_53 => ?_)
  refine y_aload_n (pc' := 57) rfl C dX1_logMinute_56 rfl ?_
  refine y_dup (pc' := 58) rfl C dX1_logMinute_57 rfl ?_
  refine y_get (pc' := 61) rfl C fl_X1_9 (v0 hk rfl) rfl rfl dX1_logMinute_58 rfl ?_
  refine y_iconst (pc' := 62) rfl (v := 1) C dX1_logMinute_61 (by decide) ?_
  refine y_iadd (pc' := 63) rfl C dX1_logMinute_62 ?_
  refine y_put (pc' := 66) rfl C fp_X1_9 (v0 hk rfl) rfl rfl dX1_logMinute_63 rfl (fun Z63 hZ63 => ?_)
  refine y_return C rfl dX1_logMinute_66 rfl rfl ?_
  have h12 : mi % 12 < 12 := Nat.mod_lt _ (by decide)
  have n1 : nI (mi % 12 * 4) + 1 = nI (mi % 12 * 4 + 1) := nI_add _ 1
  have n2 : nI (mi % 12 * 4) + 2 = nI (mi % 12 * 4 + 2) := nI_add _ 2
  have n3 : nI (mi % 12 * 4) + 3 = nI (mi % 12 * 4 + 3) := nI_add _ 3
  rw [setF_in (by omega) (by decide)] at hY_16
  rw [n1, setF_in (by omega) (by decide)] at hY_28
  rw [n2, setF_in (by omega) (by decide)] at hY_40
  rw [n3, setF_in (by omega) (by decide)] at hY_53
  rw [hZ63]
  have e0 : Y_53 (0, k, 4) 0 = nI mi := by rw [hY_53, up_n (nej (by decide)), hY_40, up_n (nej (by decide)), hY_28, up_n (nej (by decide)), hY_16, up_n (nej (by decide))]; exact hmi
  rw [e0, show nI mi + 1 = nI (mi + 1) from nI_add mi 1, hY_53, hY_40, hY_28, hY_16]
-- KilnKeeper$Book.addFuel 
set_option maxHeartbeats 1000000 in
set_option maxRecDepth 20000 in
theorem c_X1_addFuel (l : Launch) (G : GT) (a : Id3 → Nat) (Y : YT) (k : Nat) (f : Int32)  (hk : k < 11) : CtY l G a yX1_addFuel cX1_addFuel 2 (some .int) ({ frames := 1, cells := 0, slots := 0, locals := 22 } : Room) [.ref (a (0, k, 4)), .int f] Y (PI (fun r Y' => r = (if 1 ≤ f ∧ f ≤ 9999 then Y (0, k, 4) 1 + f else -10002) ∧ Y' = if 1 ≤ f ∧ f ≤ 9999 then setA Y (0, k, 4) (upd (upd (Y (0, k, 4)) 2 (Y (0, k, 4) 2 + f)) 1 (Y (0, k, 4) 1 + f)) else Y)) := by
  refine CtY.of (by decide) rfl (Nat.le_of_ble_eq_true rfl) ?_
  intro X A C hl
  subst hl
  refine y_iconst (pc' := 1) rfl (v := 1) C dX1_addFuel_0 (by decide) ?_
  refine y_iload_n (pc' := 2) rfl C dX1_addFuel_1 rfl ?_
  refine y_sipush (pc' := 5) rfl (v := 9999) C dX1_addFuel_2 (by decide) ?_
  refine y_cSNi (pc' := 8) (k' := 0) (n' := 0) rfl C (c_X12_isFrom _ G a Y 1 f 9999) my_X12_isFrom (nw_491) rfl rfl (Nat.le_of_ble_eq_true rfl) rfl dX1_addFuel_5 rfl rfl (fun r_5 Y_5 hp_5 => ?_)
  obtain ⟨rfl, hY_5⟩ := hp_5
  have hY_5 := hY_5.symm; subst hY_5
  refine y_if_ne (pc' := 11) rfl (tgt := 15) C dX1_addFuel_8 (by decide) (fun c_8 => ?_) (fun c_8 => ?_)
  · have h_8 := bi_n0 c_8
    refine y_aload_n (pc' := 16) rfl C dX1_addFuel_15 rfl ?_
    refine y_dup (pc' := 17) rfl C dX1_addFuel_16 rfl ?_
    refine y_get (pc' := 20) rfl C fl_X1_18 (v0 hk rfl) rfl rfl dX1_addFuel_17 rfl ?_
    refine y_iload_n (pc' := 21) rfl C dX1_addFuel_20 rfl ?_
    refine y_iadd (pc' := 22) rfl C dX1_addFuel_21 ?_
    refine y_put (pc' := 25) rfl C fp_X1_18 (v0 hk rfl) rfl rfl dX1_addFuel_22 rfl (fun Z22 hZ22 => ?_)
    refine y_aload_n (pc' := 26) rfl C dX1_addFuel_25 rfl ?_
    refine y_dup (pc' := 27) rfl C dX1_addFuel_26 rfl ?_
    refine y_get (pc' := 30) rfl C fl_X1_15 (v0 hk rfl) rfl rfl dX1_addFuel_27 rfl ?_
    refine y_iload_n (pc' := 31) rfl C dX1_addFuel_30 rfl ?_
    refine y_iadd (pc' := 32) rfl C dX1_addFuel_31 ?_
    refine y_put (pc' := 35) rfl C fp_X1_15 (v0 hk rfl) rfl rfl dX1_addFuel_32 rfl (fun Z32 hZ32 => ?_)
    refine y_aload_n (pc' := 36) rfl C dX1_addFuel_35 rfl ?_
    refine y_get (pc' := 39) rfl C fl_X1_15 (v0 hk rfl) rfl rfl dX1_addFuel_36 rfl ?_
    refine y_ireturn C rfl rfl dX1_addFuel_39 rfl rfl ?_
    rw [hZ32, hZ22]; simp only [up_setA, setA_setA, setA_s]; rw [upd_s, upd_n (show (1 : Nat) ≠ 2 by decide)]
    exact ⟨by rw [if_pos h_8], by rw [if_pos h_8]⟩
  · have h_8 := bi_0.mp c_8
    refine y_sipush (pc' := 14) rfl (v := (-10002)) C dX1_addFuel_11 (by decide) ?_
    refine y_ireturn C rfl rfl dX1_addFuel_14 rfl rfl ?_
    exact ⟨by rw [if_neg h_8], by rw [if_neg h_8]⟩
-- KilnKeeper$Book.burntByAmounts 
set_option maxHeartbeats 1000000 in
set_option maxRecDepth 20000 in
theorem c_X1_burntByAmounts (l : Launch) (G : GT) (a : Id3 → Nat) (Y : YT) (k : Nat)  (hk : k < 11) : CtY l G a yX1_burntByAmounts cX1_burntByAmounts 3 (some .int) ({ frames := 0, cells := 0, slots := 0, locals := 0 } : Room) [.ref (a (0, k, 4))] Y (PI (fun r Y' => r = amN (Y (0, k, 5)) 101 ∧ Y' = Y)) := by
  refine CtY.of (by decide) rfl (Nat.le_of_ble_eq_true rfl) ?_
  intro X A C hl
  subst hl
  refine y_iconst (pc' := 1) rfl (v := 0) C dX1_burntByAmounts_0 (by decide) ?_
  refine y_istore_n (pc' := 2) rfl C dX1_burntByAmounts_1 (by decide) ?_
  refine y_iconst (pc' := 3) rfl (v := 0) C dX1_burntByAmounts_2 (by decide) ?_
  refine y_istore_n (pc' := 4) rfl C dX1_burntByAmounts_3 (by decide) ?_
  suffices K4 : ∀ (fu_ i4 : Nat) (Yl4 : YT), i4 ≤ 101 → 101 < fu_ + i4 → Yl4 = Y → WY X G A a Yl4 0 0 _ 4 [some (.ref (a (0, k, 4))), some (.int ((amN (Y (0, k, 5)) i4))), some (.int ((nI i4)))] [] from K4 (101 + 1) 0 _ (by omega) (by omega) (rfl)
  intro fu_
  induction fu_ with
  | zero => intro i4 Yl4 h1 h2; omega
  | succ fu_ ih4 =>
    intro i4 Yl4 hi4 hm4 hYl4
    refine y_iload_n (pc' := 5) rfl C dX1_burntByAmounts_4 rfl ?_
    refine y_aload_n (pc' := 6) rfl C dX1_burntByAmounts_5 rfl ?_
    refine y_get (pc' := 9) rfl (v := .ref (a (0, k, 5))) C fl_X1_24 (v0 hk rfl) rfl rfl dX1_burntByAmounts_6 rfl ?_
    refine y_alenI (pc' := 10) rfl C (v0 hk rfl) rfl rfl dX1_burntByAmounts_9 ?_
    refine y_ic_ge (pc' := 13) rfl (tgt := 30) C dX1_burntByAmounts_10 (by decide) (fun c_10 => ?_) (fun c_10 => ?_)
    · have hb4 : 101 ≤ i4 := nI_le_iff (by omega) (by omega) c_10
      refine y_iload_n (pc' := 31) rfl C dX1_burntByAmounts_30 rfl ?_
      refine y_ireturn C rfl rfl dX1_burntByAmounts_31 rfl rfl ?_
      exact ⟨by rw [show i4 = 101 by omega], hYl4⟩
    · have hb4 : i4 < 101 := nI_nle_iff (by omega) (by omega) c_10
      refine y_iload_n (pc' := 14) rfl C dX1_burntByAmounts_13 rfl ?_
      refine y_iload_n (pc' := 15) rfl C dX1_burntByAmounts_14 rfl ?_
      refine y_aload_n (pc' := 16) rfl C dX1_burntByAmounts_15 rfl ?_
      refine y_get (pc' := 19) rfl (v := .ref (a (0, k, 5))) C fl_X1_24 (v0 hk rfl) rfl rfl dX1_burntByAmounts_16 rfl ?_
      refine y_iload_n (pc' := 20) rfl C dX1_burntByAmounts_19 rfl ?_
      refine y_ialdN (pc' := 21) rfl C i4 rfl (v0 hk rfl) rfl rfl (show i4 < 101 by omega) rfl dX1_burntByAmounts_20 ?_
      refine y_imul (pc' := 22) rfl C dX1_burntByAmounts_21 ?_
      refine y_iadd (pc' := 23) rfl C dX1_burntByAmounts_22 ?_
      refine y_istore_n (pc' := 24) rfl C dX1_burntByAmounts_23 (by decide) ?_
      refine y_iinc (pc' := 27) rfl (v := (nI (i4 + 1))) C dX1_burntByAmounts_24 rfl (nI_1 i4) (by decide) ?_
      refine y_goto (tgt := 4) C dX1_burntByAmounts_27 (by decide) ?_
      refine y_conv (L' := [some (.ref (a (0, k, 4))), some (.int ((amN (Y (0, k, 5)) (i4 + 1)))), some (.int ((nI (i4 + 1))))]) (by rw [amN, hYl4]; rfl) rfl ?_
      exact ih4 (i4 + 1) _ (by omega) (by omega) (hYl4)
-- KilnKeeper$Book.isInBalance 
set_option maxHeartbeats 1000000 in
set_option maxRecDepth 20000 in
theorem c_X1_isInBalance (l : Launch) (G : GT) (a : Id3 → Nat) (Y : YT) (k : Nat)  (hk : k < 11) : CtY l G a yX1_isInBalance cX1_isInBalance 3 (some .boolean) ({ frames := 1, cells := 0, slots := 0, locals := 22 } : Room) [.ref (a (0, k, 4))] Y (PI (fun r Y' => r = balB (Y (0, k, 4)) (Y (0, k, 5)) ∧ Y' = Y)) := by
  refine CtY.of (by decide) rfl (Nat.le_of_ble_eq_true rfl) ?_
  intro X A C hl
  subst hl
  refine y_iconst (pc' := 1) rfl (v := 0) C dX1_isInBalance_0 (by decide) ?_
  refine y_istore_n (pc' := 2) rfl C dX1_isInBalance_1 (by decide) ?_
  refine y_iconst (pc' := 3) rfl (v := 0) C dX1_isInBalance_2 (by decide) ?_
  refine y_istore_n (pc' := 4) rfl C dX1_isInBalance_3 (by decide) ?_
  suffices K4 : ∀ (fu_ i4 : Nat) (Yl4 : YT), i4 ≤ 101 → 101 < fu_ + i4 → Yl4 = Y → WY X G A a Yl4 0 0 _ 4 [some (.ref (a (0, k, 4))), some (.int ((smN (Y (0, k, 5)) i4))), some (.int ((nI i4)))] [] from K4 (101 + 1) 0 _ (by omega) (by omega) (rfl)
  intro fu_
  induction fu_ with
  | zero => intro i4 Yl4 h1 h2; omega
  | succ fu_ ih4 =>
    intro i4 Yl4 hi4 hm4 hYl4
    refine y_iload_n (pc' := 5) rfl C dX1_isInBalance_4 rfl ?_
    refine y_aload_n (pc' := 6) rfl C dX1_isInBalance_5 rfl ?_
    refine y_get (pc' := 9) rfl (v := .ref (a (0, k, 5))) C fl_X1_24 (v0 hk rfl) rfl rfl dX1_isInBalance_6 rfl ?_
    refine y_alenI (pc' := 10) rfl C (v0 hk rfl) rfl rfl dX1_isInBalance_9 ?_
    refine y_ic_ge (pc' := 13) rfl (tgt := 28) C dX1_isInBalance_10 (by decide) (fun c_10 => ?_) (fun c_10 => ?_)
    · have hb4 : 101 ≤ i4 := nI_le_iff (by omega) (by omega) c_10
      have e4 : i4 = 101 := by omega
      have hYl4 := hYl4.symm
      subst hYl4
      refine y_aload_n (pc' := 29) rfl C dX1_isInBalance_28 rfl ?_
      refine y_get (pc' := 32) rfl C fl_X1_18 (v0 hk rfl) rfl rfl dX1_isInBalance_29 rfl ?_
      refine y_aload_n (pc' := 33) rfl C dX1_isInBalance_32 rfl ?_
      refine y_get (pc' := 36) rfl C fl_X1_15 (v0 hk rfl) rfl rfl dX1_isInBalance_33 rfl ?_
      refine y_aload_n (pc' := 37) rfl C dX1_isInBalance_36 rfl ?_
      refine y_get (pc' := 40) rfl C fl_X1_21 (v0 hk rfl) rfl rfl dX1_isInBalance_37 rfl ?_
      refine y_iadd (pc' := 41) rfl C dX1_isInBalance_40 ?_
      have K41 : ∀ (w_41 : Int32) (_ : w_41 = (if (Y (0, k, 4) 2) = ((Y (0, k, 4) 1) + (Y (0, k, 4) 3)) then (if (Y (0, k, 4) 3) = (amN (Y (0, k, 5)) 101) then (if (Y (0, k, 4) 0) = (smN (Y (0, k, 5)) i4) then 1 else 0) else 0) else 0)), WY X G A a Y 0 0 (MEnd X G A ({ frames := 1, cells := 0, slots := 0, locals := 22 } : Room) (PY G a (PI (fun r Y' => r = balB (Y (0, k, 4)) (Y (0, k, 5)) ∧ Y' = Y)))) 68 [some (.ref (a (0, k, 4))), some (.int ((smN (Y (0, k, 5)) i4))), some (.int ((nI i4)))] [.int w_41] := by
        intro w_41 ew_41
        refine y_ireturn C rfl (by first | rfl | exact nb_narrow (balB_b ew_41)) dX1_isInBalance_68 rfl rfl ?_
        exact ⟨by rw [balB, ← e4]; exact ew_41 ▸ (by rw [e4]), rfl⟩
      refine y_ic_ne (pc' := 44) rfl (tgt := 67) C dX1_isInBalance_41 (by decide) (fun c_41 => ?_) (fun c_41 => ?_)
      · refine y_iconst (pc' := 68) rfl (v := 0) C dX1_isInBalance_67 (by decide) ?_
        exact K41 _ (by rw [if_neg c_41])
      · refine y_aload_n (pc' := 45) rfl C dX1_isInBalance_44 rfl ?_
        refine y_get (pc' := 48) rfl C fl_X1_21 (v0 hk rfl) rfl rfl dX1_isInBalance_45 rfl ?_
        refine y_aload_n (pc' := 49) rfl C dX1_isInBalance_48 rfl ?_
        refine y_cVi (pc' := 52) (k' := 0) (n' := 0) rfl C (c_X1_burntByAmounts _ G a Y k hk) my_X1_burntByAmounts aw_1080 (v0 hk rfl) rfl rfl rfl rfl rfl (Nat.le_of_ble_eq_true rfl) rfl dX1_isInBalance_49 rfl rfl (fun r_49 Y_49 hp_49 => ?_)
        obtain ⟨rfl, hY_49⟩ := hp_49
        have hY_49 := hY_49.symm; subst hY_49
        refine y_ic_ne (pc' := 55) rfl (tgt := 67) C dX1_isInBalance_52 (by decide) (fun c_52 => ?_) (fun c_52 => ?_)
        · refine y_iconst (pc' := 68) rfl (v := 0) C dX1_isInBalance_67 (by decide) ?_
          exact K41 _ (by rw [if_pos c_41, if_neg c_52])
        · refine y_aload_n (pc' := 56) rfl C dX1_isInBalance_55 rfl ?_
          refine y_get (pc' := 59) rfl C fl_X1_9 (v0 hk rfl) rfl rfl dX1_isInBalance_56 rfl ?_
          refine y_iload_n (pc' := 60) rfl C dX1_isInBalance_59 rfl ?_
          refine y_ic_ne (pc' := 63) rfl (tgt := 67) C dX1_isInBalance_60 (by decide) (fun c_60 => ?_) (fun c_60 => ?_)
          · refine y_iconst (pc' := 68) rfl (v := 0) C dX1_isInBalance_67 (by decide) ?_
            exact K41 _ (by rw [if_pos c_41, if_pos c_52, if_neg c_60])
          · refine y_iconst (pc' := 64) rfl (v := 1) C dX1_isInBalance_63 (by decide) ?_
            refine y_goto (tgt := 68) C dX1_isInBalance_64 (by decide) ?_
            exact K41 _ (by rw [if_pos c_41, if_pos c_52, if_pos c_60])
    · have hb4 : i4 < 101 := nI_nle_iff (by omega) (by omega) c_10
      refine y_iload_n (pc' := 14) rfl C dX1_isInBalance_13 rfl ?_
      refine y_aload_n (pc' := 15) rfl C dX1_isInBalance_14 rfl ?_
      refine y_get (pc' := 18) rfl (v := .ref (a (0, k, 5))) C fl_X1_24 (v0 hk rfl) rfl rfl dX1_isInBalance_15 rfl ?_
      refine y_iload_n (pc' := 19) rfl C dX1_isInBalance_18 rfl ?_
      refine y_ialdN (pc' := 20) rfl C i4 rfl (v0 hk rfl) rfl rfl (show i4 < 101 by omega) rfl dX1_isInBalance_19 ?_
      refine y_iadd (pc' := 21) rfl C dX1_isInBalance_20 ?_
      refine y_istore_n (pc' := 22) rfl C dX1_isInBalance_21 (by decide) ?_
      refine y_iinc (pc' := 25) rfl (v := (nI (i4 + 1))) C dX1_isInBalance_22 rfl (nI_1 i4) (by decide) ?_
      refine y_goto (tgt := 4) C dX1_isInBalance_25 (by decide) ?_
      refine y_conv (L' := [some (.ref (a (0, k, 4))), some (.int ((smN (Y (0, k, 5)) (i4 + 1)))), some (.int ((nI (i4 + 1))))]) (by rw [smN, hYl4]; rfl) rfl ?_
      exact ih4 (i4 + 1) _ (by omega) (by omega) (hYl4)
-- KilnKeeper$Book.loggedNumber 
set_option maxHeartbeats 1000000 in
set_option maxRecDepth 20000 in
theorem c_X1_loggedNumber (l : Launch) (G : GT) (a : Id3 → Nat) (Y : YT) (k mi : Nat) (p w : Int32)  (hk : k < 11) (hmi : Y (0, k, 4) 0 = nI mi) (hmi2 : mi < 2 ^ 29) : CtY l G a yX1_loggedNumber cX1_loggedNumber 3 (some .int) ({ frames := 1, cells := 0, slots := 0, locals := 22 } : Room) [.ref (a (0, k, 4)), .int p, .int w] Y (PI (fun r Y' => r = (if 0 ≤ p ∧ p < nI (m12 mi) then (if 0 ≤ w ∧ w ≤ 3 then Y (0, k, 6) ((mi - 1 - nn p) % 12 * 4 + nn w) else -10002) else -10001) ∧ Y' = Y)) := by
  refine CtY.of (by decide) rfl (Nat.le_of_ble_eq_true rfl) ?_
  intro X A C hl
  subst hl
  refine y_iload_n (pc' := 1) rfl C dX1_loggedNumber_0 rfl ?_
  refine y_if_lt (pc' := 4) rfl (tgt := 17) C dX1_loggedNumber_1 (by decide) (fun c_1 => ?_) (fun c_1 => ?_)
  · refine y_sipush (pc' := 20) rfl (v := (-10001)) C dX1_loggedNumber_17 (by decide) ?_
    refine y_ireturn C rfl rfl dX1_loggedNumber_20 rfl rfl ?_
    exact ⟨by rw [if_neg (fun q => absurd q.1 (Int32.not_le.mpr c_1))], rfl⟩
  · refine y_iload_n (pc' := 5) rfl C dX1_loggedNumber_4 rfl ?_
    refine y_aload_n (pc' := 6) rfl C dX1_loggedNumber_5 rfl ?_
    refine y_get (pc' := 9) rfl C fl_X1_9 (v0 hk rfl) rfl rfl dX1_loggedNumber_6 rfl ?_
    refine y_bipush (pc' := 11) rfl (v := 12) C dX1_loggedNumber_9 (by decide) ?_
    refine y_min (pc' := 14) rfl C aw_907 mm_min rfl rfl rfl rfl dX1_loggedNumber_11 ?_
    obtain ⟨m_11, e_11⟩ : ∃ v : Int32, v = (if 12 < (Y (0, k, 4) 0) then 12 else (Y (0, k, 4) 0)) := ⟨_, rfl⟩
    rw [← e_11]
    refine y_conv (L' := [some (.ref (a (0, k, 4))), some (.int p), some (.int w)]) (st' := [.int ((nI (m12 mi))), .int p]) (rfl) (by rw [e_11, hmi]; exact congrArg (fun z => [Value.int z, Value.int p]) (nI_minN (m := mi) (p := 12) (by omega) (by decide))) ?_
    refine y_ic_lt (pc' := 17) rfl (tgt := 21) C dX1_loggedNumber_14 (by decide) (fun c_14 => ?_) (fun c_14 => ?_)
    · have hm12 : m12 mi ≤ mi ∧ m12 mi ≤ 12 := by unfold m12; split <;> omega
      obtain ⟨q, hq9, hq⟩ := nI_of c_1
      have hq1 : q < m12 mi := by rw [hq] at c_14; exact (nI_ltI hq9 (by omega)).mp c_14
      have hnq : nn p = q := by rw [hq, nn_nI hq9]
      refine y_iconst (pc' := 22) rfl (v := 0) C dX1_loggedNumber_21 (by decide) ?_
      refine y_iload_n (pc' := 23) rfl C dX1_loggedNumber_22 rfl ?_
      refine y_iconst (pc' := 24) rfl (v := 3) C dX1_loggedNumber_23 (by decide) ?_
      refine y_cSNi (pc' := 27) (k' := 0) (n' := 0) rfl C (c_X12_isFrom _ G a Y 0 w 3) my_X12_isFrom (nw_491) rfl rfl (Nat.le_of_ble_eq_true rfl) rfl dX1_loggedNumber_24 rfl rfl (fun r_24 Y_24 hp_24 => ?_)
      obtain ⟨rfl, hY_24⟩ := hp_24
      have hY_24 := hY_24.symm; subst hY_24
      refine y_if_ne (pc' := 30) rfl (tgt := 34) C dX1_loggedNumber_27 (by decide) (fun c_27 => ?_) (fun c_27 => ?_)
      · have h_27 := bi_n0 c_27
        obtain ⟨t, ht3, ht⟩ := rng_nI (m := 3) (by decide) (by decide) h_27
        have hnt : nn w = t := by rw [ht, nn_nI (by omega)]
        refine y_aload_n (pc' := 35) rfl C dX1_loggedNumber_34 rfl ?_
        refine y_get (pc' := 38) rfl (v := .ref (a (0, k, 6))) C fl_X1_28 (v0 hk rfl) rfl rfl dX1_loggedNumber_35 rfl ?_
        refine y_aload_n (pc' := 39) rfl C dX1_loggedNumber_38 rfl ?_
        refine y_get (pc' := 42) rfl C fl_X1_9 (v0 hk rfl) rfl rfl dX1_loggedNumber_39 rfl ?_
        refine y_iconst (pc' := 43) rfl (v := 1) C dX1_loggedNumber_42 (by decide) ?_
        refine y_isub (pc' := 44) rfl C dX1_loggedNumber_43 ?_
        refine y_iload_n (pc' := 45) rfl C dX1_loggedNumber_44 rfl ?_
        refine y_isub (pc' := 46) rfl C dX1_loggedNumber_45 ?_
        refine y_conv (L' := [some (.ref (a (0, k, 4))), some (.int p), some (.int w)]) (st' := [.int ((nI (mi - 1 - q))), .ref (a (0, k, 6))]) (rfl) (by rw [hmi, hq, show nI mi - 1 = nI (mi - 1) from pk_sub (b := 1) (by omega), show nI (mi - 1) - nI q = nI (mi - 1 - q) from pk_sub (by omega)]) ?_
        refine y_cSi (pc' := 49) (k' := 0) (n' := 0) rfl C (c_X1_logStart _ G a Y (mi - 1 - q) (by omega)) my_X1_logStart aw_915 rfl rfl (Nat.le_of_ble_eq_true rfl) rfl dX1_loggedNumber_46 rfl rfl (fun r_46 Y_46 hp_46 => ?_)
        obtain ⟨rfl, hY_46⟩ := hp_46
        have hY_46 := hY_46.symm; subst hY_46
        refine y_iload_n (pc' := 50) rfl C dX1_loggedNumber_49 rfl ?_
        refine y_iadd (pc' := 51) rfl C dX1_loggedNumber_50 ?_
        refine y_conv (L' := [some (.ref (a (0, k, 4))), some (.int p), some (.int w)]) (st' := [.int ((nI ((mi - 1 - q) % 12 * 4 + t))), .ref (a (0, k, 6))]) (rfl) (by rw [ht, nI_add]) ?_
        refine y_cSNi (pc' := 54) (k' := 0) (n' := 0) rfl C (c_X12_numberAt _ G a Y (0, k, 6) 48 (nI ((mi - 1 - q) % 12 * 4 + t)) (v0 hk rfl) rfl rfl rfl) my_X12_numberAt (nw_908) rfl rfl (Nat.le_of_ble_eq_true rfl) rfl dX1_loggedNumber_51 rfl rfl (fun r_51 Y_51 hp_51 => ?_)
        obtain ⟨rfl, hY_51⟩ := hp_51
        have hY_51 := hY_51.symm; subst hY_51
        refine y_ireturn C rfl rfl dX1_loggedNumber_54 rfl rfl ?_
        exact ⟨by rw [if_pos ⟨Int32.not_lt.mp c_1, c_14⟩, if_pos h_27, hnq, hnt]; exact numF_in (by have : (mi - 1 - q) % 12 < 12 := Nat.mod_lt _ (by decide); omega) (by decide), rfl⟩
      · have h_27 := bi_0.mp c_27
        refine y_sipush (pc' := 33) rfl (v := (-10002)) C dX1_loggedNumber_30 (by decide) ?_
        refine y_ireturn C rfl rfl dX1_loggedNumber_33 rfl rfl ?_
        exact ⟨by rw [if_pos ⟨Int32.not_lt.mp c_1, c_14⟩, if_neg h_27], rfl⟩
    · refine y_sipush (pc' := 20) rfl (v := (-10001)) C dX1_loggedNumber_17 (by decide) ?_
      refine y_ireturn C rfl rfl dX1_loggedNumber_20 rfl rfl ?_
      exact ⟨by rw [if_neg (fun q => c_14 q.2)], rfl⟩
-- KilnKeeper$Book.copyFrom 
set_option maxHeartbeats 1000000 in
set_option maxRecDepth 20000 in
theorem c_X1_copyFrom (l : Launch) (G : GT) (a : Id3 → Nat) (Y : YT) (k k2 : Nat)  (hk : k < 11) (hk2 : k2 < 11) (hkk : k ≠ k2) : CtY l G a yX1_copyFrom cX1_copyFrom 2 none ({ frames := 1, cells := 0, slots := 0, locals := 22 } : Room) [.ref (a (0, k, 4)), .ref (a (0, k2, 4))] Y (PV (fun Y' => Y' = setA (setA (setA Y (0, k, 4) (fil (Y (0, k2, 4)) (Y (0, k, 4)) 4)) (0, k, 5) (fil (Y (0, k2, 5)) (Y (0, k, 5)) 101)) (0, k, 6) (fil (Y (0, k2, 6)) (Y (0, k, 6)) 48))) := by
  refine CtY.of (by decide) rfl (Nat.le_of_ble_eq_true rfl) ?_
  intro X A C hl
  subst hl
  refine y_aload_n (pc' := 1) rfl C dX1_copyFrom_0 rfl ?_
  refine y_aload_n (pc' := 2) rfl C dX1_copyFrom_1 rfl ?_
  refine y_get (pc' := 5) rfl C fl_X1_9 (v0 hk2 rfl) rfl rfl dX1_copyFrom_2 rfl ?_
  refine y_put (pc' := 8) rfl C fp_X1_9 (v0 hk rfl) rfl rfl dX1_copyFrom_5 rfl (fun Z5 hZ5 => ?_)
  refine y_aload_n (pc' := 9) rfl C dX1_copyFrom_8 rfl ?_
  refine y_aload_n (pc' := 10) rfl C dX1_copyFrom_9 rfl ?_
  refine y_get (pc' := 13) rfl C fl_X1_15 (v0 hk2 rfl) rfl rfl dX1_copyFrom_10 rfl ?_
  refine y_put (pc' := 16) rfl C fp_X1_15 (v0 hk rfl) rfl rfl dX1_copyFrom_13 rfl (fun Z13 hZ13 => ?_)
  refine y_aload_n (pc' := 17) rfl C dX1_copyFrom_16 rfl ?_
  refine y_aload_n (pc' := 18) rfl C dX1_copyFrom_17 rfl ?_
  refine y_get (pc' := 21) rfl C fl_X1_18 (v0 hk2 rfl) rfl rfl dX1_copyFrom_18 rfl ?_
  refine y_put (pc' := 24) rfl C fp_X1_18 (v0 hk rfl) rfl rfl dX1_copyFrom_21 rfl (fun Z21 hZ21 => ?_)
  refine y_aload_n (pc' := 25) rfl C dX1_copyFrom_24 rfl ?_
  refine y_aload_n (pc' := 26) rfl C dX1_copyFrom_25 rfl ?_
  refine y_get (pc' := 29) rfl C fl_X1_21 (v0 hk2 rfl) rfl rfl dX1_copyFrom_26 rfl ?_
  refine y_put (pc' := 32) rfl C fp_X1_21 (v0 hk rfl) rfl rfl dX1_copyFrom_29 rfl (fun Z29 hZ29 => ?_)
  refine y_aload_n (pc' := 33) rfl C dX1_copyFrom_32 rfl ?_
  refine y_get (pc' := 36) rfl (v := .ref (a (0, k2, 5))) C fl_X1_24 (v0 hk2 rfl) rfl rfl dX1_copyFrom_33 rfl ?_
  refine y_aload_n (pc' := 37) rfl C dX1_copyFrom_36 rfl ?_
  refine y_get (pc' := 40) rfl (v := .ref (a (0, k, 5))) C fl_X1_24 (v0 hk rfl) rfl rfl dX1_copyFrom_37 rfl ?_
  refine y_cSNv (pc' := 43) (k' := 0) (n' := 0) rfl C (c_X12_copyRow _ G a Z29 (0, k2, 5) (0, k, 5) 101 (v0 hk2 rfl) rfl rfl (v0 hk rfl) rfl rfl rfl (nek (Ne.symm hkk))) my_X12_copyRow (nw_407) rfl rfl (Nat.le_of_ble_eq_true rfl) rfl dX1_copyFrom_40 rfl rfl (fun Y_40 hY_40 => ?_)
  refine y_aload_n (pc' := 44) rfl C dX1_copyFrom_43 rfl ?_
  refine y_get (pc' := 47) rfl (v := .ref (a (0, k2, 6))) C fl_X1_28 (v0 hk2 rfl) rfl rfl dX1_copyFrom_44 rfl ?_
  refine y_aload_n (pc' := 48) rfl C dX1_copyFrom_47 rfl ?_
  refine y_get (pc' := 51) rfl (v := .ref (a (0, k, 6))) C fl_X1_28 (v0 hk rfl) rfl rfl dX1_copyFrom_48 rfl ?_
  refine y_cSNv (pc' := 54) (k' := 0) (n' := 0) rfl C (c_X12_copyRow _ G a Y_40 (0, k2, 6) (0, k, 6) 48 (v0 hk2 rfl) rfl rfl (v0 hk rfl) rfl rfl rfl (nek (Ne.symm hkk))) my_X12_copyRow (nw_407) rfl rfl (Nat.le_of_ble_eq_true rfl) rfl dX1_copyFrom_51 rfl rfl (fun Y_51 hY_51 => ?_)
  refine y_return C rfl dX1_copyFrom_54 rfl rfl ?_
  have e29 : Z29 = setA Y (0, k, 4) (fil (Y (0, k2, 4)) (Y (0, k, 4)) 4) := by
    rw [hZ29, hZ21, hZ13, hZ5]; simp only [up_setA, setA_setA, setA_s, setA_n (nek (Ne.symm hkk))]; rw [fil4]
  rw [hY_51, hY_40, e29]
  simp only [setA_n (nek (Ne.symm hkk)), setA_n (show ((0, k, 5) : Id3) ≠ (0, k, 4) from nej (by decide)), setA_n (show ((0, k, 6) : Id3) ≠ (0, k, 5) from nej (by decide)), setA_n (show ((0, k, 6) : Id3) ≠ (0, k, 4) from nej (by decide))]
