
theorem idx_of {x : Int32} {len : Nat} (h0 : ¬ x < 0) (h : ¬ nI len ≤ x) (hl : len < 2 ^ 31) : ∃ j, j < len ∧ x = nI j := by
  obtain ⟨j, hj, rfl⟩ := nI_of h0
  exact ⟨j, nI_nle_iff hj hl h, rfl⟩
theorem trf {rf : Nat} (h : rf = 3 ∨ rf = 4) : tpl (2, 0, rf) = .inl (9, [tI, tI]) := by rcases h with rfl | rfl <;> rfl
theorem vrf {rf : Nat} (h : rf = 3 ∨ rf = 4) : vld (2, 0, rf) := by rcases h with rfl | rfl <;> exact ⟨rfl, by decide⟩
def numF (Y : YT) (i : Id3) (len : Nat) (x : Int32) : Int32 := if 0 ≤ x ∧ x < nI len then Y i (nn x) else 0
def setF (Y : YT) (i : Id3) (len : Nat) (x v : Int32) : YT := if 0 ≤ x ∧ x < nI len then up Y i (nn x) v else Y
theorem numF_in {Y : YT} {i : Id3} {len j : Nat} (h : j < len) (hl : len < 2 ^ 31) : numF Y i len (nI j) = Y i j := by rw [numF, if_pos ⟨nI_pos' (by omega), nI_lt h hl⟩, nn_nI (by omega)]
theorem setF_in {Y : YT} {i : Id3} {len j : Nat} {v : Int32} (h : j < len) (hl : len < 2 ^ 31) : setF Y i len (nI j) v = up Y i j v := by rw [setF, if_pos ⟨nI_pos' (by omega), nI_lt h hl⟩, nn_nI (by omega)]
theorem setF_out {Y : YT} {i : Id3} {len j : Nat} {v : Int32} (h : len ≤ j) (hj : j < 2 ^ 31) : setF Y i len (nI j) v = Y := by rw [setF, if_neg (fun q => absurd q.2 (nI_nlt h hj))]
theorem setF_neg {Y : YT} {i : Id3} {len : Nat} {x v : Int32} (h : x < 0) : setF Y i len x v = Y := by rw [setF, if_neg (fun q => absurd h (Int32.not_lt.mpr q.1))]

theorem fil6 (x y : Nat → Int32) : upd (upd (upd (upd (upd (upd y 0 (x 0)) 1 (x 1)) 2 (x 2)) 3 (x 3)) 4 (x 4)) 5 (x 5) = fil x y 6 := by
  rw [← fil_s x y 5, ← fil_s x y 4, ← fil_s x y 3, ← fil_s x y 2, ← fil_s x y 1, ← fil_s x y 0, fil_0]
theorem fil4 (x y : Nat → Int32) : upd (upd (upd (upd y 0 (x 0)) 1 (x 1)) 2 (x 2)) 3 (x 3) = fil x y 4 := by
  rw [← fil_s x y 3, ← fil_s x y 2, ← fil_s x y 1, ← fil_s x y 0, fil_0]
theorem fil7 (x y : Nat → Int32) : upd (upd (upd (upd (upd (upd (upd y 0 (x 0)) 1 (x 1)) 2 (x 2)) 3 (x 3)) 4 (x 4)) 5 (x 5)) 6 (x 6) = fil x y 7 := by
  rw [← fil_s x y 6, ← fil6]
theorem fil1 (x y : Nat → Int32) : upd y 0 (x 0) = fil x y 1 := by
  rw [← fil_s x y 0, fil_0]
theorem in_TX9 : ∀ w ∈ u_ws RX9 TX9 2, w ∈ AW := List.forall_mem_cons.mpr ⟨aw_234, List.forall_mem_cons.mpr ⟨aw_236, fun _ h => absurd h List.not_mem_nil⟩⟩
theorem in_TX10 : ∀ w ∈ u_ws RX10 TX10 6, w ∈ AW := List.forall_mem_cons.mpr ⟨aw_68, List.forall_mem_cons.mpr ⟨aw_70, List.forall_mem_cons.mpr ⟨aw_72, List.forall_mem_cons.mpr ⟨aw_74, List.forall_mem_cons.mpr ⟨aw_76, List.forall_mem_cons.mpr ⟨aw_78, fun _ h => absurd h List.not_mem_nil⟩⟩⟩⟩⟩⟩
theorem fl_X10_9 : FLK "KilnKeeper$Regulator" 9 10 0 := ⟨RX10, TX10, 6, rfl, by decide, aw_60, in_TX10⟩
theorem fl_X10_15 : FLK "KilnKeeper$Regulator" 15 10 1 := ⟨RX10, TX10, 6, rfl, by decide, aw_61, in_TX10⟩
theorem fl_X10_18 : FLK "KilnKeeper$Regulator" 18 10 2 := ⟨RX10, TX10, 6, rfl, by decide, aw_62, in_TX10⟩
theorem fl_X10_21 : FLK "KilnKeeper$Regulator" 21 10 3 := ⟨RX10, TX10, 6, rfl, by decide, aw_63, in_TX10⟩
theorem fl_X10_24 : FLK "KilnKeeper$Regulator" 24 10 4 := ⟨RX10, TX10, 6, rfl, by decide, aw_64, in_TX10⟩
theorem fl_X10_27 : FLK "KilnKeeper$Regulator" 27 10 5 := ⟨RX10, TX10, 6, rfl, by decide, aw_66, in_TX10⟩
theorem fp_X9_9 : FLP "KilnKeeper$Refusal" 9 9 0 .int false := ⟨RX9, TX9, 2, tyX9, rfl, by decide, aw_232, in_TX9, tyX9_ok, nmX9, rfl, rfl, fun h => by first | exact rfl | cases h⟩
theorem fp_X9_15 : FLP "KilnKeeper$Refusal" 15 9 1 .int false := ⟨RX9, TX9, 2, tyX9, rfl, by decide, aw_233, in_TX9, tyX9_ok, nmX9, rfl, rfl, fun h => by first | exact rfl | cases h⟩
theorem fp_X10_9 : FLP "KilnKeeper$Regulator" 9 10 0 .int false := ⟨RX10, TX10, 6, tyX10, rfl, by decide, aw_60, in_TX10, tyX10_ok, nmX10, rfl, rfl, fun h => by first | exact rfl | cases h⟩
theorem fp_X10_15 : FLP "KilnKeeper$Regulator" 15 10 1 .int false := ⟨RX10, TX10, 6, tyX10, rfl, by decide, aw_61, in_TX10, tyX10_ok, nmX10, rfl, rfl, fun h => by first | exact rfl | cases h⟩
theorem fp_X10_18 : FLP "KilnKeeper$Regulator" 18 10 2 .int false := ⟨RX10, TX10, 6, tyX10, rfl, by decide, aw_62, in_TX10, tyX10_ok, nmX10, rfl, rfl, fun h => by first | exact rfl | cases h⟩
theorem fp_X10_21 : FLP "KilnKeeper$Regulator" 21 10 3 .int false := ⟨RX10, TX10, 6, tyX10, rfl, by decide, aw_63, in_TX10, tyX10_ok, nmX10, rfl, rfl, fun h => by first | exact rfl | cases h⟩
theorem fp_X10_24 : FLP "KilnKeeper$Regulator" 24 10 4 .int false := ⟨RX10, TX10, 6, tyX10, rfl, by decide, aw_64, in_TX10, tyX10_ok, nmX10, rfl, rfl, fun h => by first | exact rfl | cases h⟩
theorem fp_X10_27 : FLP "KilnKeeper$Regulator" 27 10 5 .int false := ⟨RX10, TX10, 6, tyX10, rfl, by decide, aw_66, in_TX10, tyX10_ok, nmX10, rfl, rfl, fun h => by first | exact rfl | cases h⟩
theorem my_J9_floorDiv_7cf53 : MS yJ9_floorDiv_7cf53 cJ9_floorDiv_7cf53 3 (some .int) 2 := ⟨aw_893, aw_32, ⟨by decide, by decide, by decide +kernel⟩, aw_892⟩
theorem my_X10_sumWith : MV yX10_sumWith cX10_sumWith 2 (some .int) 1 := ⟨aw_890, aw_17, ⟨by decide, by decide, by decide +kernel⟩, aw_889, aw_11⟩
theorem my_X12_between : MS yX12_between cX12_between 3 (some .int) 3 := ⟨aw_460, aw_15, ⟨by decide, by decide, by decide +kernel⟩, aw_459⟩
theorem my_X12_isFrom : MS yX12_isFrom cX12_isFrom 3 (some .boolean) 3 := ⟨aw_422, aw_15, ⟨by decide, by decide, by decide +kernel⟩, aw_421⟩
theorem my_X9_because : MV yX9_because cX9_because 3 (some .int) 2 := ⟨aw_426, aw_23, ⟨by decide, by decide, by decide +kernel⟩, aw_424, aw_425⟩
-- KilnKeeper.isFrom 
set_option maxHeartbeats 1000000 in
set_option maxRecDepth 20000 in
theorem c_X12_isFrom (l : Launch) (G : GT) (a : Id3 → Nat) (Y : YT) (lo v hi : Int32)   : CtY l G a yX12_isFrom cX12_isFrom 3 (some .boolean) ({ frames := 0, cells := 0, slots := 0, locals := 0 } : Room) [.int lo, .int v, .int hi] Y (PI (fun r Y' => r = bi (lo ≤ v ∧ v ≤ hi) ∧ Y' = Y)) := by
  refine CtY.of (by decide) rfl (Nat.le_of_ble_eq_true rfl) ?_
  intro X A C hl
  subst hl
  refine y_iload_n (pc' := 1) rfl C dX12_isFrom_0 rfl ?_
  refine y_iload_n (pc' := 2) rfl C dX12_isFrom_1 rfl ?_
  refine y_ic_lt (pc' := 5) rfl (tgt := 14) C dX12_isFrom_2 (by decide) (fun c_2 => ?_) (fun c_2 => ?_)
  · refine y_iconst (pc' := 15) rfl (v := 0) C dX12_isFrom_14 (by decide) ?_
    refine y_ireturn C rfl (by first | rfl | exact nb_narrow (by assumption)) dX12_isFrom_15 rfl rfl ?_
    exact ⟨(bi_f (fun h => absurd c_2 (Int32.not_lt.mpr h.1))).symm, rfl⟩
  · refine y_iload_n (pc' := 6) rfl C dX12_isFrom_5 rfl ?_
    refine y_iload_n (pc' := 7) rfl C dX12_isFrom_6 rfl ?_
    refine y_ic_gt (pc' := 10) rfl (tgt := 14) C dX12_isFrom_7 (by decide) (fun c_7 => ?_) (fun c_7 => ?_)
    · refine y_iconst (pc' := 15) rfl (v := 0) C dX12_isFrom_14 (by decide) ?_
      refine y_ireturn C rfl (by first | rfl | exact nb_narrow (by assumption)) dX12_isFrom_15 rfl rfl ?_
      exact ⟨(bi_f (fun h => absurd c_7 (Int32.not_lt.mpr h.2))).symm, rfl⟩
    · refine y_iconst (pc' := 11) rfl (v := 1) C dX12_isFrom_10 (by decide) ?_
      refine y_goto (tgt := 15) C dX12_isFrom_11 (by decide) ?_
      refine y_ireturn C rfl (by first | rfl | exact nb_narrow (by assumption)) dX12_isFrom_15 rfl rfl ?_
      exact ⟨(bi_t ⟨nlt_le c_2, nlt_le c_7⟩).symm, rfl⟩
-- KilnKeeper.between 
set_option maxHeartbeats 1000000 in
set_option maxRecDepth 20000 in
theorem c_X12_between (l : Launch) (G : GT) (a : Id3 → Nat) (Y : YT) (lo v hi : Int32)   : CtY l G a yX12_between cX12_between 3 (some .int) ({ frames := 0, cells := 0, slots := 0, locals := 0 } : Room) [.int lo, .int v, .int hi] Y (PI (fun r Y' => r = clampI v lo hi ∧ Y' = Y)) := by
  refine CtY.of (by decide) rfl (Nat.le_of_ble_eq_true rfl) ?_
  intro X A C hl
  subst hl
  refine y_iload_n (pc' := 1) rfl C dX12_between_0 rfl ?_
  refine y_iload_n (pc' := 2) rfl C dX12_between_1 rfl ?_
  refine y_ic_ge (pc' := 5) rfl (tgt := 7) C dX12_between_2 (by decide) (fun c_2 => ?_) (fun c_2 => ?_)
  · refine y_iload_n (pc' := 8) rfl C dX12_between_7 rfl ?_
    refine y_iload_n (pc' := 9) rfl C dX12_between_8 rfl ?_
    refine y_ic_le (pc' := 12) rfl (tgt := 16) C dX12_between_9 (by decide) (fun c_9 => ?_) (fun c_9 => ?_)
    · refine y_iload_n (pc' := 17) rfl C dX12_between_16 rfl ?_
      refine y_ireturn C rfl rfl dX12_between_17 rfl rfl ?_
      refine ⟨?_, rfl⟩
      rw [clampI, if_neg (Int32.not_lt.mpr c_2), if_neg (Int32.not_lt.mpr c_9)]
    · refine y_iload_n (pc' := 13) rfl C dX12_between_12 rfl ?_
      refine y_goto (tgt := 17) C dX12_between_13 (by decide) ?_
      refine y_ireturn C rfl rfl dX12_between_17 rfl rfl ?_
      refine ⟨?_, rfl⟩
      rw [clampI, if_neg (Int32.not_lt.mpr c_2), if_pos (nle_lt c_9)]
  · refine y_iload_n (pc' := 6) rfl C dX12_between_5 rfl ?_
    refine y_ireturn C rfl rfl dX12_between_6 rfl rfl ?_
    refine ⟨?_, rfl⟩
    rw [clampI, if_pos (nle_lt c_2)]
-- KilnKeeper.numberAt 
set_option maxHeartbeats 1000000 in
set_option maxRecDepth 20000 in
theorem c_X12_numberAt (l : Launch) (G : GT) (a : Id3 → Nat) (Y : YT) (i : Id3) (len : Nat) (x : Int32)  (hi : vld i) (ht : tpl i = .inr (.inl len)) (h5 : Nat.beq i.1 5 = false) (hlb : Nat.ble len 2000 = true) : CtY l G a yX12_numberAt cX12_numberAt 2 (some .int) ({ frames := 0, cells := 0, slots := 0, locals := 0 } : Room) [.ref (a i), .int x] Y (PI (fun r Y' => r = numF Y i len x ∧ Y' = Y)) := by
  refine CtY.of (by decide) rfl (Nat.le_of_ble_eq_true rfl) ?_
  intro X A C hl
  subst hl
  have hlen : len < 2 ^ 31 := by have := Nat.le_of_ble_eq_true hlb; omega
  refine y_iload_n (pc' := 1) rfl C dX12_numberAt_0 rfl ?_
  refine y_if_lt (pc' := 4) rfl (tgt := 16) C dX12_numberAt_1 (by decide) (fun c_1 => ?_) (fun c_1 => ?_)
  · refine y_iconst (pc' := 17) rfl (v := 0) C dX12_numberAt_16 (by decide) ?_
    refine y_ireturn C rfl rfl dX12_numberAt_17 rfl rfl ?_
    exact ⟨by rw [numF, if_neg (fun q => absurd q.1 (Int32.not_le.mpr c_1))], rfl⟩
  · refine y_iload_n (pc' := 5) rfl C dX12_numberAt_4 rfl ?_
    refine y_aload_n (pc' := 6) rfl C dX12_numberAt_5 rfl ?_
    refine y_alenI (pc' := 7) rfl C hi h5 ht dX12_numberAt_6 ?_
    refine y_ic_ge (pc' := 10) rfl (tgt := 16) C dX12_numberAt_7 (by decide) (fun c_7 => ?_) (fun c_7 => ?_)
    · refine y_iconst (pc' := 17) rfl (v := 0) C dX12_numberAt_16 (by decide) ?_
      refine y_ireturn C rfl rfl dX12_numberAt_17 rfl rfl ?_
      exact ⟨by rw [numF, if_neg (fun q => absurd q.2 (Int32.not_lt.mpr c_7))], rfl⟩
    · obtain ⟨j, hj, hjx⟩ := idx_of c_1 c_7 hlen
      refine y_aload_n (pc' := 11) rfl C dX12_numberAt_10 rfl ?_
      refine y_iload_n (pc' := 12) rfl C dX12_numberAt_11 rfl ?_
      refine y_ialdN (pc' := 13) rfl C j hjx hi h5 ht (show j < len by omega) hlb dX12_numberAt_12 ?_
      refine y_goto (tgt := 17) C dX12_numberAt_13 (by decide) ?_
      refine y_ireturn C rfl rfl dX12_numberAt_17 rfl rfl ?_
      exact ⟨by rw [hjx, numF_in hj hlen], rfl⟩
-- KilnKeeper.setNumberAt 
set_option maxHeartbeats 1000000 in
set_option maxRecDepth 20000 in
theorem c_X12_setNumberAt (l : Launch) (G : GT) (a : Id3 → Nat) (Y : YT) (i : Id3) (len : Nat) (x v : Int32)  (hi : vld i) (ht : tpl i = .inr (.inl len)) (h5 : Nat.beq i.1 5 = false) (hlb : Nat.ble len 2000 = true) : CtY l G a yX12_setNumberAt cX12_setNumberAt 3 none ({ frames := 0, cells := 0, slots := 0, locals := 0 } : Room) [.ref (a i), .int x, .int v] Y (PV (fun Y' => Y' = setF Y i len x v)) := by
  refine CtY.of (by decide) rfl (Nat.le_of_ble_eq_true rfl) ?_
  intro X A C hl
  subst hl
  have hlen : len < 2 ^ 31 := by have := Nat.le_of_ble_eq_true hlb; omega
  refine y_iload_n (pc' := 1) rfl C dX12_setNumberAt_0 rfl ?_
  refine y_if_lt (pc' := 4) rfl (tgt := 14) C dX12_setNumberAt_1 (by decide) (fun c_1 => ?_) (fun c_1 => ?_)
  · refine y_return C rfl dX12_setNumberAt_14 rfl rfl ?_
    show Y = _
    rw [setF_neg c_1]
  · refine y_iload_n (pc' := 5) rfl C dX12_setNumberAt_4 rfl ?_
    refine y_aload_n (pc' := 6) rfl C dX12_setNumberAt_5 rfl ?_
    refine y_alenI (pc' := 7) rfl C hi h5 ht dX12_setNumberAt_6 ?_
    refine y_ic_ge (pc' := 10) rfl (tgt := 14) C dX12_setNumberAt_7 (by decide) (fun c_7 => ?_) (fun c_7 => ?_)
    · refine y_return C rfl dX12_setNumberAt_14 rfl rfl ?_
      show Y = _
      rw [setF, if_neg (fun q => absurd q.2 (Int32.not_lt.mpr c_7))]
    · obtain ⟨j, hj, hjx⟩ := idx_of c_1 c_7 hlen
      refine y_aload_n (pc' := 11) rfl C dX12_setNumberAt_10 rfl ?_
      refine y_iload_n (pc' := 12) rfl C dX12_setNumberAt_11 rfl ?_
      refine y_iload_n (pc' := 13) rfl C dX12_setNumberAt_12 rfl ?_
      refine y_iastN (pc' := 14) rfl C j hjx hi h5 ht (show j < len by omega) hlb dX12_setNumberAt_13 (fun Z13 hZ13 => ?_)
      refine y_return C rfl dX12_setNumberAt_14 rfl rfl ?_
      rw [hZ13, hjx, setF_in hj hlen]
-- KilnKeeper.copyRow 
set_option maxHeartbeats 1000000 in
set_option maxRecDepth 20000 in
theorem c_X12_copyRow (l : Launch) (G : GT) (a : Id3 → Nat) (Y : YT) (i u : Id3) (len : Nat)  (hi : vld i) (ht : tpl i = .inr (.inl len)) (h5 : Nat.beq i.1 5 = false) (hu : vld u) (ht2 : tpl u = .inr (.inl len)) (h52 : Nat.beq u.1 5 = false) (hlb : Nat.ble len 2000 = true) (hne : i ≠ u) : CtY l G a yX12_copyRow cX12_copyRow 3 none ({ frames := 0, cells := 0, slots := 0, locals := 0 } : Room) [.ref (a i), .ref (a u)] Y (PV (fun Y' => Y' = setA Y u (fil (Y i) (Y u) len))) := by
  refine CtY.of (by decide) rfl (Nat.le_of_ble_eq_true rfl) ?_
  intro X A C hl
  subst hl
  have hlen : len < 2 ^ 31 := by have := Nat.le_of_ble_eq_true hlb; omega
  refine y_iconst (pc' := 1) rfl (v := 0) C dX12_copyRow_0 (by decide) ?_
  refine y_istore_n (pc' := 2) rfl C dX12_copyRow_1 (by decide) ?_
  suffices K2 : ∀ (fu_ i2 : Nat) (Yl2 : YT), i2 ≤ len → len < fu_ + i2 → Yl2 = setA Y u (fil (Y i) (Y u) i2) → WY X G A a Yl2 0 0 _ 2 [some (.ref (a i)), some (.ref (a u)), some (.int ((nI i2)))] [] from K2 (len + 1) 0 _ (by omega) (by omega) (by rw [fil_0, setA_self])
  intro fu_
  induction fu_ with
  | zero => intro i2 Yl2 h1 h2; omega
  | succ fu_ ih2 =>
    intro i2 Yl2 hi2 hm2 hYl2
    refine y_iload_n (pc' := 3) rfl C dX12_copyRow_2 rfl ?_
    refine y_aload_n (pc' := 4) rfl C dX12_copyRow_3 rfl ?_
    refine y_alenI (pc' := 5) rfl C hi h5 ht dX12_copyRow_4 ?_
    refine y_ic_ge (pc' := 8) rfl (tgt := 26) C dX12_copyRow_5 (by decide) (fun c_5 => ?_) (fun c_5 => ?_)
    · have hb2 : len ≤ i2 := nI_le_iff (by omega) (by omega) c_5
      refine y_return C rfl dX12_copyRow_26 rfl rfl ?_
      rw [hYl2, show i2 = len by omega]
    · have hb2 : i2 < len := nI_nle_iff (by omega) (by omega) c_5
      refine y_iload_n (pc' := 9) rfl C dX12_copyRow_8 rfl ?_
      refine y_aload_n (pc' := 10) rfl C dX12_copyRow_9 rfl ?_
      refine y_alenI (pc' := 11) rfl C hu h52 ht2 dX12_copyRow_10 ?_
      refine y_ic_ge (pc' := 14) rfl (tgt := 26) C dX12_copyRow_11 (by decide) (fun c_11 => ?_) (fun c_11 => ?_)
      · exact absurd c_11 (nI_ge hb2 hlen)
      · refine y_aload_n (pc' := 15) rfl C dX12_copyRow_14 rfl ?_
        refine y_iload_n (pc' := 16) rfl C dX12_copyRow_15 rfl ?_
        refine y_aload_n (pc' := 17) rfl C dX12_copyRow_16 rfl ?_
        refine y_iload_n (pc' := 18) rfl C dX12_copyRow_17 rfl ?_
        refine y_ialdN (pc' := 19) rfl C i2 rfl hi h5 ht (show i2 < len by omega) hlb dX12_copyRow_18 ?_
        refine y_iastN (pc' := 20) rfl C i2 rfl hu h52 ht2 (show i2 < len by omega) hlb dX12_copyRow_19 (fun Z19 hZ19 => ?_)
        refine y_iinc (pc' := 23) rfl (v := (nI (i2 + 1))) C dX12_copyRow_20 rfl (nI_1 i2) (by decide) ?_
        refine y_goto (tgt := 2) C dX12_copyRow_23 (by decide) ?_
        exact ih2 (i2 + 1) _ (by omega) (by omega) (by rw [hZ19, up_setA, hYl2, setA_setA, setA_s, setA_n hne, fil_s])
-- KilnKeeper$Refusal.because 
set_option maxHeartbeats 1000000 in
set_option maxRecDepth 20000 in
theorem c_X9_because3 (l : Launch) (G : GT) (a : Id3 → Nat) (Y : YT) (x y : Int32)   : CtY l G a yX9_because cX9_because 3 (some .int) ({ frames := 0, cells := 0, slots := 0, locals := 0 } : Room) [.ref (a (2, 0, 3)), .int x, .int y] Y (PI (fun r Y' => r = -10004 ∧ Y' = up (up Y (2, 0, 3) 0 x) (2, 0, 3) 1 y)) := by
  refine CtY.of (by decide) rfl (Nat.le_of_ble_eq_true rfl) ?_
  intro X A C hl
  subst hl
  refine y_aload_n (pc' := 1) rfl C dX9_because_0 rfl ?_
  refine y_iload_n (pc' := 2) rfl C dX9_because_1 rfl ?_
  refine y_put (pc' := 5) rfl C fp_X9_9 (v2 rfl) rfl rfl dX9_because_2 rfl (fun Z2 hZ2 => ?_)
  refine y_aload_n (pc' := 6) rfl C dX9_because_5 rfl ?_
  refine y_iload_n (pc' := 7) rfl C dX9_because_6 rfl ?_
  refine y_put (pc' := 10) rfl C fp_X9_15 (v2 rfl) rfl rfl dX9_because_7 rfl (fun Z7 hZ7 => ?_)
  refine y_sipush (pc' := 13) rfl (v := (-10004)) C dX9_because_10 (by decide) ?_
  refine y_ireturn C rfl rfl dX9_because_13 rfl rfl ?_
  exact ⟨rfl, by rw [hZ7, hZ2]⟩
-- KilnKeeper$Refusal.because 
set_option maxHeartbeats 1000000 in
set_option maxRecDepth 20000 in
theorem c_X9_because4 (l : Launch) (G : GT) (a : Id3 → Nat) (Y : YT) (x y : Int32)   : CtY l G a yX9_because cX9_because 3 (some .int) ({ frames := 0, cells := 0, slots := 0, locals := 0 } : Room) [.ref (a (2, 0, 4)), .int x, .int y] Y (PI (fun r Y' => r = -10004 ∧ Y' = up (up Y (2, 0, 4) 0 x) (2, 0, 4) 1 y)) := by
  refine CtY.of (by decide) rfl (Nat.le_of_ble_eq_true rfl) ?_
  intro X A C hl
  subst hl
  refine y_aload_n (pc' := 1) rfl C dX9_because_0 rfl ?_
  refine y_iload_n (pc' := 2) rfl C dX9_because_1 rfl ?_
  refine y_put (pc' := 5) rfl C fp_X9_9 (v2 rfl) rfl rfl dX9_because_2 rfl (fun Z2 hZ2 => ?_)
  refine y_aload_n (pc' := 6) rfl C dX9_because_5 rfl ?_
  refine y_iload_n (pc' := 7) rfl C dX9_because_6 rfl ?_
  refine y_put (pc' := 10) rfl C fp_X9_15 (v2 rfl) rfl rfl dX9_because_7 rfl (fun Z7 hZ7 => ?_)
  refine y_sipush (pc' := 13) rfl (v := (-10004)) C dX9_because_10 (by decide) ?_
  refine y_ireturn C rfl rfl dX9_because_13 rfl rfl ?_
  exact ⟨rfl, by rw [hZ7, hZ2]⟩
theorem c_X9_because (l : Launch) (G : GT) (a : Id3 → Nat) (Y : YT) (rf : Nat) (x y : Int32) (hrf : rf = 3 ∨ rf = 4) : CtY l G a yX9_because cX9_because 3 (some .int) ({ frames := 0, cells := 0, slots := 0, locals := 0 } : Room) [.ref (a (2, 0, rf)), .int x, .int y] Y (PI (fun r Y' => r = -10004 ∧ Y' = up (up Y (2, 0, rf) 0 x) (2, 0, rf) 1 y)) := by
  rcases hrf with rfl | rfl
  · exact c_X9_because3 l G a Y x y
  · exact c_X9_because4 l G a Y x y
def rSum (y : Nat → Int32) (e : Int32) : Int32 := clampI (y 4 + e) (-(y 3)) (y 3)
def rWant (y : Nat → Int32) (e : Int32) : Int32 := 10 * y 0 * e + y 1 * rSum y e + 10 * y 2 * (e - y 5)
def fdv (x : Int32) : Int32 := if 0 ≤ x ^^^ 100 then x / 100 else if x / 100 * 100 = x then x / 100 else x / 100 - 1
-- KilnKeeper$Regulator.sumWith 
set_option maxHeartbeats 1000000 in
set_option maxRecDepth 20000 in
theorem c_X10_sumWith (l : Launch) (G : GT) (a : Id3 → Nat) (Y : YT) (k : Nat) (e : Int32)  (hk : k < 11) : CtY l G a yX10_sumWith cX10_sumWith 2 (some .int) ({ frames := 1, cells := 0, slots := 0, locals := 22 } : Room) [.ref (a (0, k, 1)), .int e] Y (PI (fun r Y' => r = rSum (Y (0, k, 1)) e ∧ Y' = Y)) := by
  refine CtY.of (by decide) rfl (Nat.le_of_ble_eq_true rfl) ?_
  intro X A C hl
  subst hl
  refine y_aload_n (pc' := 1) rfl C dX10_sumWith_0 rfl ?_
  refine y_get (pc' := 4) rfl C fl_X10_21 (v0 hk rfl) rfl rfl dX10_sumWith_1 rfl ?_
  refine y_ineg (pc' := 5) rfl C dX10_sumWith_4 ?_
  refine y_aload_n (pc' := 6) rfl C dX10_sumWith_5 rfl ?_
  refine y_get (pc' := 9) rfl C fl_X10_24 (v0 hk rfl) rfl rfl dX10_sumWith_6 rfl ?_
  refine y_iload_n (pc' := 10) rfl C dX10_sumWith_9 rfl ?_
  refine y_iadd (pc' := 11) rfl C dX10_sumWith_10 ?_
  refine y_aload_n (pc' := 12) rfl C dX10_sumWith_11 rfl ?_
  refine y_get (pc' := 15) rfl C fl_X10_21 (v0 hk rfl) rfl rfl dX10_sumWith_12 rfl ?_
  refine y_cSNi (pc' := 18) (k' := 0) (n' := 0) rfl C (c_X12_between _ G a Y (-(Y (0, k, 1) 3)) ((Y (0, k, 1) 4) + e) (Y (0, k, 1) 3)) my_X12_between (nw_458) rfl rfl (Nat.le_of_ble_eq_true rfl) rfl dX10_sumWith_15 rfl rfl (fun r_15 Y_15 hp_15 => ?_)
  obtain ⟨rfl, hY_15⟩ := hp_15
  have hY_15 := hY_15.symm; subst hY_15
  refine y_ireturn C rfl rfl dX10_sumWith_18 rfl rfl ?_
  exact ⟨rfl, rfl⟩
-- KilnKeeper$Regulator.wantedDamper 
set_option maxHeartbeats 1000000 in
set_option maxRecDepth 20000 in
theorem c_X10_wantedDamper (l : Launch) (G : GT) (a : Id3 → Nat) (Y : YT) (k : Nat) (e : Int32)  (hk : k < 11) : CtY l G a yX10_wantedDamper cX10_wantedDamper 3 (some .int) ({ frames := 2, cells := 0, slots := 0, locals := 43 } : Room) [.ref (a (0, k, 1)), .int e] Y (PI (fun r Y' => r = clampI (fdv (rWant (Y (0, k, 1)) e)) 0 100 ∧ Y' = Y)) := by
  refine CtY.of (by decide) rfl (Nat.le_of_ble_eq_true rfl) ?_
  intro X A C hl
  subst hl
  refine y_bipush (pc' := 2) rfl (v := 10) C dX10_wantedDamper_0 (by decide) ?_
  refine y_aload_n (pc' := 3) rfl C dX10_wantedDamper_2 rfl ?_
  refine y_get (pc' := 6) rfl C fl_X10_9 (v0 hk rfl) rfl rfl dX10_wantedDamper_3 rfl ?_
  refine y_imul (pc' := 7) rfl C dX10_wantedDamper_6 ?_
  refine y_iload_n (pc' := 8) rfl C dX10_wantedDamper_7 rfl ?_
  refine y_imul (pc' := 9) rfl C dX10_wantedDamper_8 ?_
  refine y_aload_n (pc' := 10) rfl C dX10_wantedDamper_9 rfl ?_
  refine y_get (pc' := 13) rfl C fl_X10_15 (v0 hk rfl) rfl rfl dX10_wantedDamper_10 rfl ?_
  refine y_aload_n (pc' := 14) rfl C dX10_wantedDamper_13 rfl ?_
  refine y_iload_n (pc' := 15) rfl C dX10_wantedDamper_14 rfl ?_
  refine y_cVi (pc' := 18) (k' := 0) (n' := 0) rfl C (c_X10_sumWith _ G a Y k e hk) my_X10_sumWith aw_887 (v0 hk rfl) rfl rfl rfl rfl rfl (Nat.le_of_ble_eq_true rfl) rfl dX10_wantedDamper_15 rfl rfl (fun r_15 Y_15 hp_15 => ?_)
  obtain ⟨rfl, hY_15⟩ := hp_15
  have hY_15 := hY_15.symm; subst hY_15
  refine y_imul (pc' := 19) rfl C dX10_wantedDamper_18 ?_
  refine y_iadd (pc' := 20) rfl C dX10_wantedDamper_19 ?_
  refine y_bipush (pc' := 22) rfl (v := 10) C dX10_wantedDamper_20 (by decide) ?_
  refine y_aload_n (pc' := 23) rfl C dX10_wantedDamper_22 rfl ?_
  refine y_get (pc' := 26) rfl C fl_X10_18 (v0 hk rfl) rfl rfl dX10_wantedDamper_23 rfl ?_
  refine y_imul (pc' := 27) rfl C dX10_wantedDamper_26 ?_
  refine y_iload_n (pc' := 28) rfl C dX10_wantedDamper_27 rfl ?_
  refine y_aload_n (pc' := 29) rfl C dX10_wantedDamper_28 rfl ?_
  refine y_get (pc' := 32) rfl C fl_X10_27 (v0 hk rfl) rfl rfl dX10_wantedDamper_29 rfl ?_
  refine y_isub (pc' := 33) rfl C dX10_wantedDamper_32 ?_
  refine y_imul (pc' := 34) rfl C dX10_wantedDamper_33 ?_
  refine y_iadd (pc' := 35) rfl C dX10_wantedDamper_34 ?_
  refine y_istore_n (pc' := 36) rfl C dX10_wantedDamper_35 (by decide) ?_
  refine y_iconst (pc' := 37) rfl (v := 0) C dX10_wantedDamper_36 (by decide) ?_
  refine y_iload_n (pc' := 38) rfl C dX10_wantedDamper_37 rfl ?_
  refine y_bipush (pc' := 40) rfl (v := 100) C dX10_wantedDamper_38 (by decide) ?_
  refine y_cSi (pc' := 43) (k' := 0) (n' := 0) rfl C (c_J9_floorDiv_7cf53 _ G a Y ((((10 * (Y (0, k, 1) 0)) * e) + ((Y (0, k, 1) 1) * (rSum (Y (0, k, 1)) e))) + ((10 * (Y (0, k, 1) 2)) * (e - (Y (0, k, 1) 5))))) my_J9_floorDiv_7cf53 aw_891 rfl rfl (Nat.le_of_ble_eq_true rfl) rfl dX10_wantedDamper_40 rfl rfl (fun r_40 Y_40 hp_40 => ?_)
  obtain ⟨rfl, hY_40⟩ := hp_40
  have hY_40 := hY_40.symm; subst hY_40
  refine y_bipush (pc' := 45) rfl (v := 100) C dX10_wantedDamper_43 (by decide) ?_
  refine y_cSNi (pc' := 48) (k' := 0) (n' := 0) rfl C (c_X12_between _ G a Y 0 (fdv ((((10 * (Y (0, k, 1) 0)) * e) + ((Y (0, k, 1) 1) * (rSum (Y (0, k, 1)) e))) + ((10 * (Y (0, k, 1) 2)) * (e - (Y (0, k, 1) 5))))) 100) my_X12_between (nw_458) rfl rfl (Nat.le_of_ble_eq_true rfl) rfl dX10_wantedDamper_45 rfl rfl (fun r_45 Y_45 hp_45 => ?_)
  obtain ⟨rfl, hY_45⟩ := hp_45
  have hY_45 := hY_45.symm; subst hY_45
  refine y_ireturn C rfl rfl dX10_wantedDamper_48 rfl rfl ?_
  exact ⟨rfl, rfl⟩
-- KilnKeeper$Regulator.noteError 
set_option maxHeartbeats 1000000 in
set_option maxRecDepth 20000 in
theorem c_X10_noteError (l : Launch) (G : GT) (a : Id3 → Nat) (Y : YT) (k : Nat) (e : Int32)  (hk : k < 11) : CtY l G a yX10_noteError cX10_noteError 2 none ({ frames := 2, cells := 0, slots := 0, locals := 43 } : Room) [.ref (a (0, k, 1)), .int e] Y (PV (fun Y' => Y' = setA Y (0, k, 1) (upd (upd (Y (0, k, 1)) 4 (rSum (Y (0, k, 1)) e)) 5 e))) := by
  refine CtY.of (by decide) rfl (Nat.le_of_ble_eq_true rfl) ?_
  intro X A C hl
  subst hl
  refine y_aload_n (pc' := 1) rfl C dX10_noteError_0 rfl ?_
  refine y_aload_n (pc' := 2) rfl C dX10_noteError_1 rfl ?_
  refine y_iload_n (pc' := 3) rfl C dX10_noteError_2 rfl ?_
  refine y_cVi (pc' := 6) (k' := 0) (n' := 0) rfl C (c_X10_sumWith _ G a Y k e hk) my_X10_sumWith aw_887 (v0 hk rfl) rfl rfl rfl rfl rfl (Nat.le_of_ble_eq_true rfl) rfl dX10_noteError_3 rfl rfl (fun r_3 Y_3 hp_3 => ?_)
  obtain ⟨rfl, hY_3⟩ := hp_3
  have hY_3 := hY_3.symm; subst hY_3
  refine y_put (pc' := 9) rfl C fp_X10_24 (v0 hk rfl) rfl rfl dX10_noteError_6 rfl (fun Z6 hZ6 => ?_)
  refine y_aload_n (pc' := 10) rfl C dX10_noteError_9 rfl ?_
  refine y_iload_n (pc' := 11) rfl C dX10_noteError_10 rfl ?_
  refine y_put (pc' := 14) rfl C fp_X10_27 (v0 hk rfl) rfl rfl dX10_noteError_11 rfl (fun Z11 hZ11 => ?_)
  refine y_return C rfl dX10_noteError_14 rfl rfl ?_
  rw [hZ11, hZ6]; simp only [up_setA, setA_setA, setA_s]
-- KilnKeeper$Regulator.tellGains 
set_option maxHeartbeats 1000000 in
set_option maxRecDepth 20000 in
theorem c_X10_tellGains (l : Launch) (G : GT) (a : Id3 → Nat) (Y : YT) (k : Nat) (e u c : Int32)  (hk : k < 11) : CtY l G a yX10_tellGains cX10_tellGains 5 (some .int) ({ frames := 1, cells := 0, slots := 0, locals := 22 } : Room) [.ref (a (0, k, 1)), .int e, .int u, .int c] Y (PI (fun r Y' => r = (if (0 ≤ e ∧ e ≤ 50) ∧ (0 ≤ u ∧ u ≤ 50) ∧ (0 ≤ c ∧ c ≤ 50) then 10000 * Y (0, k, 1) 0 + 100 * Y (0, k, 1) 1 + Y (0, k, 1) 2 else -10002) ∧ Y' = if (0 ≤ e ∧ e ≤ 50) ∧ (0 ≤ u ∧ u ≤ 50) ∧ (0 ≤ c ∧ c ≤ 50) then setA Y (0, k, 1) (upd (upd (upd (Y (0, k, 1)) 0 e) 1 u) 2 c) else Y)) := by
  refine CtY.of (by decide) rfl (Nat.le_of_ble_eq_true rfl) ?_
  intro X A C hl
  subst hl
  refine y_iconst (pc' := 1) rfl (v := 0) C dX10_tellGains_0 (by decide) ?_
  refine y_iload_n (pc' := 2) rfl C dX10_tellGains_1 rfl ?_
  refine y_bipush (pc' := 4) rfl (v := 50) C dX10_tellGains_2 (by decide) ?_
  refine y_cSNi (pc' := 7) (k' := 0) (n' := 0) rfl C (c_X12_isFrom _ G a Y 0 e 50) my_X12_isFrom (nw_448) rfl rfl (Nat.le_of_ble_eq_true rfl) rfl dX10_tellGains_4 rfl rfl (fun r_4 Y_4 hp_4 => ?_)
  obtain ⟨rfl, hY_4⟩ := hp_4
  have hY_4 := hY_4.symm; subst hY_4
  refine y_if_eq (pc' := 10) rfl (tgt := 30) C dX10_tellGains_7 (by decide) (fun c_7 => ?_) (fun c_7 => ?_)
  · have h_7 := bi_0.mp c_7
    refine y_sipush (pc' := 33) rfl (v := (-10002)) C dX10_tellGains_30 (by decide) ?_
    refine y_ireturn C rfl rfl dX10_tellGains_33 rfl rfl ?_
    refine ⟨?_, ?_⟩ <;> rw [if_neg (fun q => h_7 q.1)]
  · have h_7 := bi_n0 c_7
    refine y_iconst (pc' := 11) rfl (v := 0) C dX10_tellGains_10 (by decide) ?_
    refine y_iload_n (pc' := 12) rfl C dX10_tellGains_11 rfl ?_
    refine y_bipush (pc' := 14) rfl (v := 50) C dX10_tellGains_12 (by decide) ?_
    refine y_cSNi (pc' := 17) (k' := 0) (n' := 0) rfl C (c_X12_isFrom _ G a Y 0 u 50) my_X12_isFrom (nw_448) rfl rfl (Nat.le_of_ble_eq_true rfl) rfl dX10_tellGains_14 rfl rfl (fun r_14 Y_14 hp_14 => ?_)
    obtain ⟨rfl, hY_14⟩ := hp_14
    have hY_14 := hY_14.symm; subst hY_14
    refine y_if_eq (pc' := 20) rfl (tgt := 30) C dX10_tellGains_17 (by decide) (fun c_17 => ?_) (fun c_17 => ?_)
    · have h_17 := bi_0.mp c_17
      refine y_sipush (pc' := 33) rfl (v := (-10002)) C dX10_tellGains_30 (by decide) ?_
      refine y_ireturn C rfl rfl dX10_tellGains_33 rfl rfl ?_
      refine ⟨?_, ?_⟩ <;> rw [if_neg (fun q => h_17 q.2.1)]
    · have h_17 := bi_n0 c_17
      refine y_iconst (pc' := 21) rfl (v := 0) C dX10_tellGains_20 (by decide) ?_
      refine y_iload_n (pc' := 22) rfl C dX10_tellGains_21 rfl ?_
      refine y_bipush (pc' := 24) rfl (v := 50) C dX10_tellGains_22 (by decide) ?_
      refine y_cSNi (pc' := 27) (k' := 0) (n' := 0) rfl C (c_X12_isFrom _ G a Y 0 c 50) my_X12_isFrom (nw_448) rfl rfl (Nat.le_of_ble_eq_true rfl) rfl dX10_tellGains_24 rfl rfl (fun r_24 Y_24 hp_24 => ?_)
      obtain ⟨rfl, hY_24⟩ := hp_24
      have hY_24 := hY_24.symm; subst hY_24
      refine y_if_ne (pc' := 30) rfl (tgt := 34) C dX10_tellGains_27 (by decide) (fun c_27 => ?_) (fun c_27 => ?_)
      · have h_27 := bi_n0 c_27
        refine y_sipush (pc' := 37) rfl (v := 10000) C dX10_tellGains_34 (by decide) ?_
        refine y_aload_n (pc' := 38) rfl C dX10_tellGains_37 rfl ?_
        refine y_get (pc' := 41) rfl C fl_X10_9 (v0 hk rfl) rfl rfl dX10_tellGains_38 rfl ?_
        refine y_imul (pc' := 42) rfl C dX10_tellGains_41 ?_
        refine y_bipush (pc' := 44) rfl (v := 100) C dX10_tellGains_42 (by decide) ?_
        refine y_aload_n (pc' := 45) rfl C dX10_tellGains_44 rfl ?_
        refine y_get (pc' := 48) rfl C fl_X10_15 (v0 hk rfl) rfl rfl dX10_tellGains_45 rfl ?_
        refine y_imul (pc' := 49) rfl C dX10_tellGains_48 ?_
        refine y_iadd (pc' := 50) rfl C dX10_tellGains_49 ?_
        refine y_aload_n (pc' := 51) rfl C dX10_tellGains_50 rfl ?_
        refine y_get (pc' := 54) rfl C fl_X10_18 (v0 hk rfl) rfl rfl dX10_tellGains_51 rfl ?_
        refine y_iadd (pc' := 55) rfl C dX10_tellGains_54 ?_
        refine y_istore (pc' := 57) rfl C dX10_tellGains_55 (by decide) ?_
        refine y_aload_n (pc' := 58) rfl C dX10_tellGains_57 rfl ?_
        refine y_iload_n (pc' := 59) rfl C dX10_tellGains_58 rfl ?_
        refine y_put (pc' := 62) rfl C fp_X10_9 (v0 hk rfl) rfl rfl dX10_tellGains_59 rfl (fun Z59 hZ59 => ?_)
        refine y_aload_n (pc' := 63) rfl C dX10_tellGains_62 rfl ?_
        refine y_iload_n (pc' := 64) rfl C dX10_tellGains_63 rfl ?_
        refine y_put (pc' := 67) rfl C fp_X10_15 (v0 hk rfl) rfl rfl dX10_tellGains_64 rfl (fun Z64 hZ64 => ?_)
        refine y_aload_n (pc' := 68) rfl C dX10_tellGains_67 rfl ?_
        refine y_iload_n (pc' := 69) rfl C dX10_tellGains_68 rfl ?_
        refine y_put (pc' := 72) rfl C fp_X10_18 (v0 hk rfl) rfl rfl dX10_tellGains_69 rfl (fun Z69 hZ69 => ?_)
        refine y_iload (pc' := 74) rfl C dX10_tellGains_72 rfl ?_
        refine y_ireturn C rfl rfl dX10_tellGains_74 rfl rfl ?_
        refine ⟨by rw [if_pos ⟨h_7, h_17, h_27⟩], ?_⟩
        rw [if_pos ⟨h_7, h_17, h_27⟩, hZ69, hZ64, hZ59]; simp only [up_setA, setA_setA, setA_s]
      · have h_27 := bi_0.mp c_27
        refine y_sipush (pc' := 33) rfl (v := (-10002)) C dX10_tellGains_30 (by decide) ?_
        refine y_ireturn C rfl rfl dX10_tellGains_33 rfl rfl ?_
        refine ⟨?_, ?_⟩ <;> rw [if_neg (fun q => h_27 q.2.2)]
-- KilnKeeper$Regulator.tellCap 
set_option maxHeartbeats 1000000 in
set_option maxRecDepth 20000 in
theorem c_X10_tellCap (l : Launch) (G : GT) (a : Id3 → Nat) (Y : YT) (k rf : Nat) (c : Int32)  (hk : k < 11) (hrf : rf = 3 ∨ rf = 4) : CtY l G a yX10_tellCap cX10_tellCap 4 (some .int) ({ frames := 1, cells := 0, slots := 0, locals := 22 } : Room) [.ref (a (0, k, 1)), .int c, .ref (a (2, 0, rf))] Y (PI (fun r Y' => r = (if 0 ≤ c ∧ c ≤ 9000 then (if c = Y (0, k, 1) 3 then -10004 else Y (0, k, 1) 3) else -10002) ∧ Y' = if 0 ≤ c ∧ c ≤ 9000 then (if c = Y (0, k, 1) 3 then up (up Y (2, 0, rf) 0 5) (2, 0, rf) 1 (Y (0, k, 1) 3) else setA Y (0, k, 1) (upd (upd (Y (0, k, 1)) 3 c) 4 (clampI (Y (0, k, 1) 4) (-c) c))) else Y)) := by
  refine CtY.of (by decide) rfl (Nat.le_of_ble_eq_true rfl) ?_
  intro X A C hl
  subst hl
  refine y_iconst (pc' := 1) rfl (v := 0) C dX10_tellCap_0 (by decide) ?_
  refine y_iload_n (pc' := 2) rfl C dX10_tellCap_1 rfl ?_
  refine y_sipush (pc' := 5) rfl (v := 9000) C dX10_tellCap_2 (by decide) ?_
  refine y_cSNi (pc' := 8) (k' := 0) (n' := 0) rfl C (c_X12_isFrom _ G a Y 0 c 9000) my_X12_isFrom (nw_448) rfl rfl (Nat.le_of_ble_eq_true rfl) rfl dX10_tellCap_5 rfl rfl (fun r_5 Y_5 hp_5 => ?_)
  obtain ⟨rfl, hY_5⟩ := hp_5
  have hY_5 := hY_5.symm; subst hY_5
  refine y_if_ne (pc' := 11) rfl (tgt := 15) C dX10_tellCap_8 (by decide) (fun c_8 => ?_) (fun c_8 => ?_)
  · have h_8 := bi_n0 c_8
    refine y_iload_n (pc' := 16) rfl C dX10_tellCap_15 rfl ?_
    refine y_aload_n (pc' := 17) rfl C dX10_tellCap_16 rfl ?_
    refine y_get (pc' := 20) rfl C fl_X10_21 (v0 hk rfl) rfl rfl dX10_tellCap_17 rfl ?_
    refine y_ic_ne (pc' := 23) rfl (tgt := 33) C dX10_tellCap_20 (by decide) (fun c_20 => ?_) (fun c_20 => ?_)
    · refine y_aload_n (pc' := 34) rfl C dX10_tellCap_33 rfl ?_
      refine y_get (pc' := 37) rfl C fl_X10_21 (v0 hk rfl) rfl rfl dX10_tellCap_34 rfl ?_
      refine y_istore_n (pc' := 38) rfl C dX10_tellCap_37 (by decide) ?_
      refine y_aload_n (pc' := 39) rfl C dX10_tellCap_38 rfl ?_
      refine y_iload_n (pc' := 40) rfl C dX10_tellCap_39 rfl ?_
      refine y_put (pc' := 43) rfl C fp_X10_21 (v0 hk rfl) rfl rfl dX10_tellCap_40 rfl (fun Z40 hZ40 => ?_)
      refine y_aload_n (pc' := 44) rfl C dX10_tellCap_43 rfl ?_
      refine y_aload_n (pc' := 45) rfl C dX10_tellCap_44 rfl ?_
      refine y_get (pc' := 48) rfl C fl_X10_21 (v0 hk rfl) rfl rfl dX10_tellCap_45 rfl ?_
      refine y_ineg (pc' := 49) rfl C dX10_tellCap_48 ?_
      refine y_aload_n (pc' := 50) rfl C dX10_tellCap_49 rfl ?_
      refine y_get (pc' := 53) rfl C fl_X10_24 (v0 hk rfl) rfl rfl dX10_tellCap_50 rfl ?_
      refine y_aload_n (pc' := 54) rfl C dX10_tellCap_53 rfl ?_
      refine y_get (pc' := 57) rfl C fl_X10_21 (v0 hk rfl) rfl rfl dX10_tellCap_54 rfl ?_
      refine y_cSNi (pc' := 60) (k' := 0) (n' := 0) rfl C (c_X12_between _ G a Z40 (-(Z40 (0, k, 1) 3)) (Z40 (0, k, 1) 4) (Z40 (0, k, 1) 3)) my_X12_between (nw_458) rfl rfl (Nat.le_of_ble_eq_true rfl) rfl dX10_tellCap_57 rfl rfl (fun r_57 Y_57 hp_57 => ?_)
      obtain ⟨rfl, hY_57⟩ := hp_57
      have hY_57 := hY_57.symm; subst hY_57
      refine y_put (pc' := 63) rfl C fp_X10_24 (v0 hk rfl) rfl rfl dX10_tellCap_60 rfl (fun Z60 hZ60 => ?_)
      refine y_iload_n (pc' := 64) rfl C dX10_tellCap_63 rfl ?_
      refine y_ireturn C rfl rfl dX10_tellCap_64 rfl rfl ?_
      refine ⟨by rw [if_pos h_8, if_neg c_20], ?_⟩
      rw [if_pos h_8, if_neg c_20, hZ60, hZ40]; simp only [up_setA, setA_setA, setA_s]; rw [upd_s, upd_n (show (4 : Nat) ≠ 3 by decide)]
    · refine y_aload_n (pc' := 24) rfl C dX10_tellCap_23 rfl ?_
      refine y_iconst (pc' := 25) rfl (v := 5) C dX10_tellCap_24 (by decide) ?_
      refine y_aload_n (pc' := 26) rfl C dX10_tellCap_25 rfl ?_
      refine y_get (pc' := 29) rfl C fl_X10_21 (v0 hk rfl) rfl rfl dX10_tellCap_26 rfl ?_
      refine y_cVi (pc' := 32) (k' := 0) (n' := 0) rfl C (c_X9_because _ G a Y rf 5 (Y (0, k, 1) 3) hrf) my_X9_because aw_457 (vrf hrf) (trf hrf) rfl rfl rfl rfl (Nat.le_of_ble_eq_true rfl) rfl dX10_tellCap_29 rfl rfl (fun r_29 Y_29 hp_29 => ?_)
      obtain ⟨rfl, hY_29⟩ := hp_29
      refine y_ireturn C rfl rfl dX10_tellCap_32 rfl rfl ?_
      exact ⟨by rw [if_pos h_8, if_pos c_20], by rw [if_pos h_8, if_pos c_20, hY_29]⟩
  · have h_8 := bi_0.mp c_8
    refine y_sipush (pc' := 14) rfl (v := (-10002)) C dX10_tellCap_11 (by decide) ?_
    refine y_ireturn C rfl rfl dX10_tellCap_14 rfl rfl ?_
    exact ⟨by rw [if_neg h_8], by rw [if_neg h_8]⟩
-- KilnKeeper$Regulator.copyFrom 
set_option maxHeartbeats 1000000 in
set_option maxRecDepth 20000 in
theorem c_X10_copyFrom (l : Launch) (G : GT) (a : Id3 → Nat) (Y : YT) (k k2 : Nat)  (hk : k < 11) (hk2 : k2 < 11) (hkk : k ≠ k2) : CtY l G a yX10_copyFrom cX10_copyFrom 2 none ({ frames := 0, cells := 0, slots := 0, locals := 0 } : Room) [.ref (a (0, k, 1)), .ref (a (0, k2, 1))] Y (PV (fun Y' => Y' = setA Y (0, k, 1) (fil (Y (0, k2, 1)) (Y (0, k, 1)) 6))) := by
  refine CtY.of (by decide) rfl (Nat.le_of_ble_eq_true rfl) ?_
  intro X A C hl
  subst hl
  refine y_aload_n (pc' := 1) rfl C dX10_copyFrom_0 rfl ?_
  refine y_aload_n (pc' := 2) rfl C dX10_copyFrom_1 rfl ?_
  refine y_get (pc' := 5) rfl C fl_X10_9 (v0 hk2 rfl) rfl rfl dX10_copyFrom_2 rfl ?_
  refine y_put (pc' := 8) rfl C fp_X10_9 (v0 hk rfl) rfl rfl dX10_copyFrom_5 rfl (fun Z5 hZ5 => ?_)
  refine y_aload_n (pc' := 9) rfl C dX10_copyFrom_8 rfl ?_
  refine y_aload_n (pc' := 10) rfl C dX10_copyFrom_9 rfl ?_
  refine y_get (pc' := 13) rfl C fl_X10_15 (v0 hk2 rfl) rfl rfl dX10_copyFrom_10 rfl ?_
  refine y_put (pc' := 16) rfl C fp_X10_15 (v0 hk rfl) rfl rfl dX10_copyFrom_13 rfl (fun Z13 hZ13 => ?_)
  refine y_aload_n (pc' := 17) rfl C dX10_copyFrom_16 rfl ?_
  refine y_aload_n (pc' := 18) rfl C dX10_copyFrom_17 rfl ?_
  refine y_get (pc' := 21) rfl C fl_X10_18 (v0 hk2 rfl) rfl rfl dX10_copyFrom_18 rfl ?_
  refine y_put (pc' := 24) rfl C fp_X10_18 (v0 hk rfl) rfl rfl dX10_copyFrom_21 rfl (fun Z21 hZ21 => ?_)
  refine y_aload_n (pc' := 25) rfl C dX10_copyFrom_24 rfl ?_
  refine y_aload_n (pc' := 26) rfl C dX10_copyFrom_25 rfl ?_
  refine y_get (pc' := 29) rfl C fl_X10_21 (v0 hk2 rfl) rfl rfl dX10_copyFrom_26 rfl ?_
  refine y_put (pc' := 32) rfl C fp_X10_21 (v0 hk rfl) rfl rfl dX10_copyFrom_29 rfl (fun Z29 hZ29 => ?_)
  refine y_aload_n (pc' := 33) rfl C dX10_copyFrom_32 rfl ?_
  refine y_aload_n (pc' := 34) rfl C dX10_copyFrom_33 rfl ?_
  refine y_get (pc' := 37) rfl C fl_X10_24 (v0 hk2 rfl) rfl rfl dX10_copyFrom_34 rfl ?_
  refine y_put (pc' := 40) rfl C fp_X10_24 (v0 hk rfl) rfl rfl dX10_copyFrom_37 rfl (fun Z37 hZ37 => ?_)
  refine y_aload_n (pc' := 41) rfl C dX10_copyFrom_40 rfl ?_
  refine y_aload_n (pc' := 42) rfl C dX10_copyFrom_41 rfl ?_
  refine y_get (pc' := 45) rfl C fl_X10_27 (v0 hk2 rfl) rfl rfl dX10_copyFrom_42 rfl ?_
  refine y_put (pc' := 48) rfl C fp_X10_27 (v0 hk rfl) rfl rfl dX10_copyFrom_45 rfl (fun Z45 hZ45 => ?_)
  refine y_return C rfl dX10_copyFrom_48 rfl rfl ?_
  have hne : ((0, k2, 1) : Id3) ≠ (0, k, 1) := by intro h_; injection h_ with _ h_; injection h_ with h_; exact hkk h_.symm
  rw [hZ45, hZ37, hZ29, hZ21, hZ13, hZ5]; simp only [up_setA, setA_setA, setA_s, setA_n hne]
  rw [← fil6]
