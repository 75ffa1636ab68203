
/-- five places shifted: q places down up to i, q places up of those from 5 - i on -/
def shDn (d : Nat → Int32) (q i : Nat) : Nat → Int32 := fun j => if j + q < i then d (j + q) else d j
def shUp (d : Nat → Int32) (q i : Nat) : Nat → Int32 := fun j => if 5 - i + q ≤ j ∧ j < 5 then d (j - q) else d j
theorem shDn_0 (d : Nat → Int32) (q : Nat) : shDn d q 0 = d := by
  funext j
  rw [shDn, if_neg (by omega)]
theorem shDn_s {d : Nat → Int32} {q i : Nat} (h : q ≤ i) : upd (shDn d q i) (i - q) (d i) = shDn d q (i + 1) := by
  funext j
  unfold shDn
  by_cases e : j = i - q
  · subst e
    rw [upd_s, if_pos (by omega)]
    congr 1
    omega
  · rw [upd_n e]
    by_cases h2 : j + q < i
    · rw [if_pos h2, if_pos (by omega)]
    · rw [if_neg h2, if_neg (by omega)]
theorem shDn_o {d : Nat → Int32} {q i : Nat} (h : i < q) : shDn d q i = shDn d q (i + 1) := by
  funext j
  unfold shDn
  rw [if_neg (by omega), if_neg (by omega)]
theorem shUp_0 (d : Nat → Int32) (q : Nat) : shUp d q 0 = d := by
  funext j
  rw [shUp, if_neg (by omega)]
theorem shUp_s {d : Nat → Int32} {q i : Nat} (hi : i < 5) (h : 4 - i + q < 5) : upd (shUp d q i) (4 - i + q) (d (4 - i)) = shUp d q (i + 1) := by
  funext j
  unfold shUp
  by_cases e : j = 4 - i + q
  · subst e
    rw [upd_s, if_pos (by omega)]
    congr 1
    omega
  · rw [upd_n e]
    by_cases h2 : 5 - i + q ≤ j ∧ j < 5
    · rw [if_pos h2, if_pos (by omega)]
    · rw [if_neg h2, if_neg (by omega)]
theorem shUp_o {d : Nat → Int32} {q i : Nat} (hi : i < 5) (h : 5 ≤ 4 - i + q) : shUp d q i = shUp d q (i + 1) := by
  funext j
  unfold shUp
  rw [if_neg (by omega), if_neg (by omega)]
theorem shDn_r {d : Nat → Int32} {q i : Nat} (h : 1 ≤ q) : shDn d q i i = d i := by rw [shDn, if_neg (by omega)]
theorem shUp_r {d : Nat → Int32} {q i : Nat} (hi : i < 5) : shUp d q i (4 - i) = d (4 - i) := by
  unfold shUp
  by_cases h : 5 - i + q ≤ 4 - i ∧ 4 - i < 5
  · omega
  · rw [if_neg h]
/-- the row behind: from length l to length m -/
def shM (d : Nat → Int32) (m l : Nat) : Nat → Int32 := if m < l then shDn d (l - m) 5 else shUp d (m - l) 5
theorem sub_toI {m l : Nat} (hm : m ≤ 5) (hl : l ≤ 5) : (nI m - nI l).toInt = (m : Int) - l := pk_sub_toInt (by omega) (by omega)
theorem ge_sub {m l : Nat} (hm : m ≤ 5) (hl : l ≤ 5) : 0 ≤ nI m - nI l ↔ l ≤ m := by
  rw [Int32.le_iff_toInt_le, sub_toI hm hl, Int32.toInt_zero]
  omega
theorem dn_ix {m l i : Nat} (hm : m ≤ l) (hl : l ≤ 5) (h : l - m ≤ i) : nI i + (nI m - nI l) = nI (i - (l - m)) := by
  rw [show nI m - nI l = -(nI (l - m)) by rw [show nI (l - m) = nI l - nI m from (pk_sub hm).symm, Int32.neg_sub], ← Int32.sub_eq_add_neg]
  exact pk_sub h
theorem dn_neg {m l i : Nat} (hm : m ≤ l) (hl : l ≤ 5) (h : i < l - m) : nI i + (nI m - nI l) < 0 := by
  rw [show nI m - nI l = -(nI (l - m)) by rw [show nI (l - m) = nI l - nI m from (pk_sub hm).symm, Int32.neg_sub], ← Int32.sub_eq_add_neg, Int32.lt_iff_toInt_lt, pk_sub_toInt (by omega) (by omega), Int32.toInt_zero]
  omega
theorem up_ix {m l i : Nat} (h : l ≤ m) : nI i + (nI m - nI l) = nI (i + (m - l)) := by
  rw [show nI m - nI l = nI (m - l) from pk_sub h]
  exact nI_add _ _
theorem four_i {i : Nat} (h : i ≤ 4) : (4 : Int32) - nI i = nI (4 - i) := pk_sub (a := 4) h
theorem four_lt {i : Nat} (h : i ≤ 5) : (4 : Int32) - nI i < 0 ↔ 5 ≤ i := by
  rw [Int32.lt_iff_toInt_lt, show ((4 : Int32) - nI i).toInt = 4 - (i : Int) from pk_sub_toInt (a := 4) (by omega) (by omega), Int32.toInt_zero]
  omega

theorem sub_one (i : Nat) : (4 : Int32) - nI i + -1 = 4 - (nI i + nI 1) := by
  rw [← Int32.sub_eq_add_neg, Int32.sub_sub]
  rfl

def rsz (d : Nat → Int32) (m l : Nat) (x : Int32) (i : Nat) : Nat → Int32 := fun j => if j < i then x else shM d m l j
theorem rsz_0 (d : Nat → Int32) (m l : Nat) (x : Int32) : rsz d m l x 0 = shM d m l := by
  funext j
  rw [rsz, if_neg (by omega)]
theorem rsz_s (d : Nat → Int32) (m l : Nat) (x : Int32) (i : Nat) : upd (rsz d m l x i) i x = rsz d m l x (i + 1) := by
  funext j
  unfold rsz
  by_cases e : j = i
  · subst e
    rw [upd_s, if_pos (by omega)]
  · rw [upd_n e]
    by_cases h : j < i
    · rw [if_pos h, if_pos (by omega)]
    · rw [if_neg h, if_neg (by omega)]
theorem le_sub {m l i : Nat} (hm : m ≤ 5) (hl : l ≤ 5) (hi : i ≤ 5) : nI m - nI l ≤ nI i ↔ m - l ≤ i := by
  rw [Int32.le_iff_toInt_le, sub_toI hm hl, nI_toInt (by omega)]
  omega
theorem in_TX4 : ∀ w ∈ u_ws RX4 TX4 2, w ∈ AW := List.forall_mem_cons.mpr ⟨aw_90, List.forall_mem_cons.mpr ⟨aw_92, fun _ h => absurd h List.not_mem_nil⟩⟩
theorem fl_X4_9 : FLK "KilnKeeper$LagRow" 9 4 0 := ⟨RX4, TX4, 2, rfl, by decide, aw_87, in_TX4⟩
theorem fl_X4_15 : FLK "KilnKeeper$LagRow" 15 4 1 := ⟨RX4, TX4, 2, rfl, by decide, aw_89, in_TX4⟩
theorem fp_X4_9 : FLP "KilnKeeper$LagRow" 9 4 0 .int false := ⟨RX4, TX4, 2, tyX4, rfl, by decide, aw_87, in_TX4, tyX4_ok, nmX4, rfl, rfl, fun h => by first | exact rfl | cases h⟩
theorem my_X12_numberAt : MS yX12_numberAt cX12_numberAt 2 (some .int) 2 := ⟨aw_479, aw_15, ⟨by decide, by decide, by decide +kernel⟩, aw_478⟩
theorem my_X12_setNumberAt : MS yX12_setNumberAt cX12_setNumberAt 3 none 3 := ⟨aw_482, aw_15, ⟨by decide, by decide, by decide +kernel⟩, aw_481⟩
theorem my_X4_shiftBy : MV yX4_shiftBy cX4_shiftBy 3 none 1 := ⟨aw_476, aw_18, ⟨by decide, by decide, by decide +kernel⟩, aw_475, aw_3⟩
-- KilnKeeper$LagRow.shiftBy 
set_option maxHeartbeats 1000000 in
set_option maxRecDepth 20000 in
theorem c_X4_shiftBy (l : Launch) (G : GT) (a : Id3 → Nat) (Y : YT) (k m lg : Nat)  (hk : k < 11) (hm5 : m ≤ 5) (hl5 : lg ≤ 5) : CtY l G a yX4_shiftBy cX4_shiftBy 3 none ({ frames := 1, cells := 0, slots := 0, locals := 22 } : Room) [.ref (a (0, k, 2)), .int ((nI m - nI lg))] Y (PV (fun Y' => Y' = setA Y (0, k, 3) (shM (Y (0, k, 3)) m lg))) := by
  refine CtY.of (by decide) rfl (Nat.le_of_ble_eq_true rfl) ?_
  intro X A C hl
  subst hl
  refine y_iload_n (pc' := 1) rfl C dX4_shiftBy_0 rfl ?_
  refine y_if_ge (pc' := 4) rfl (tgt := 38) C dX4_shiftBy_1 (by decide) (fun c_1 => ?_) (fun c_1 => ?_)
  · have hml : lg ≤ m := (ge_sub hm5 hl5).mp c_1
    refine y_iconst (pc' := 39) rfl (v := 4) C dX4_shiftBy_38 (by decide) ?_
    refine y_istore_n (pc' := 40) rfl C dX4_shiftBy_39 (by decide) ?_
    refine y_conv (L' := [some (.ref (a (0, k, 2))), some (.int ((nI m - nI lg))), some (.int ((4 - nI 0)))]) (rfl) rfl ?_
    suffices K40 : ∀ (fu_ i40 : Nat) (Yl40 : YT), i40 ≤ 5 → 5 < fu_ + i40 → Yl40 = setA Y (0, k, 3) (shUp (Y (0, k, 3)) (m - lg) i40) → WY X G A a Yl40 0 0 _ 40 [some (.ref (a (0, k, 2))), some (.int ((nI m - nI lg))), some (.int ((4 - nI i40)))] [] from K40 (5 + 1) 0 _ (by omega) (by omega) (by rw [shUp_0, setA_self])
    intro fu_
    induction fu_ with
    | zero => intro i40 Yl40 h1 h2; omega
    | succ fu_ ih40 =>
      intro i40 Yl40 hi40 hm40 hYl40
      refine y_iload_n (pc' := 41) rfl C dX4_shiftBy_40 rfl ?_
      refine y_if_lt (pc' := 44) rfl (tgt := 68) C dX4_shiftBy_41 (by decide) (fun c_41 => ?_) (fun c_41 => ?_)
      · have hb40 : 5 ≤ i40 := (four_lt (by omega)).mp c_41
        refine y_return C rfl dX4_shiftBy_68 rfl rfl ?_
        rw [hYl40, show i40 = 5 by omega, shM, if_neg (by omega)]
      · have hb40 : i40 < 5 := by have := fun q => c_41 ((four_lt (by omega)).mpr q); rcases Nat.lt_or_ge i40 5 with q | q; exact q; exact absurd ((four_lt (by omega)).mpr q) c_41
        refine y_aload_n (pc' := 45) rfl C dX4_shiftBy_44 rfl ?_
        refine y_get (pc' := 48) rfl (v := .ref (a (0, k, 3))) C fl_X4_15 (v0 hk rfl) rfl rfl dX4_shiftBy_45 rfl ?_
        refine y_iload_n (pc' := 49) rfl C dX4_shiftBy_48 rfl ?_
        refine y_iload_n (pc' := 50) rfl C dX4_shiftBy_49 rfl ?_
        refine y_iadd (pc' := 51) rfl C dX4_shiftBy_50 ?_
        refine y_aload_n (pc' := 52) rfl C dX4_shiftBy_51 rfl ?_
        refine y_get (pc' := 55) rfl (v := .ref (a (0, k, 3))) C fl_X4_15 (v0 hk rfl) rfl rfl dX4_shiftBy_52 rfl ?_
        refine y_iload_n (pc' := 56) rfl C dX4_shiftBy_55 rfl ?_
        refine y_cSNi (pc' := 59) (k' := 0) (n' := 0) rfl C (c_X12_numberAt _ G a Yl40 (0, k, 3) 5 (4 - nI i40) (v0 hk rfl) rfl rfl rfl) my_X12_numberAt (nw_477) rfl rfl (Nat.le_of_ble_eq_true rfl) rfl dX4_shiftBy_56 rfl rfl (fun r_56 Y_56 hp_56 => ?_)
        obtain ⟨rfl, hY_56⟩ := hp_56
        have hY_56 := hY_56.symm; subst hY_56
        refine y_cSNv (pc' := 62) (k' := 0) (n' := 0) rfl C (c_X12_setNumberAt _ G a Yl40 (0, k, 3) 5 ((4 - nI i40) + (nI m - nI lg)) (numF Yl40 (0, k, 3) 5 (4 - nI i40)) (v0 hk rfl) rfl rfl rfl) my_X12_setNumberAt (nw_480) rfl rfl (Nat.le_of_ble_eq_true rfl) rfl dX4_shiftBy_59 rfl rfl (fun Y_59 hY_59 => ?_)
        refine y_iinc (pc' := 65) rfl (v := (4 - nI (i40 + 1))) C dX4_shiftBy_62 rfl (by rw [← nI_add i40 1, show Int32.ofInt (-1) = -1 from rfl]; exact sub_one i40) (by decide) ?_
        refine y_goto (tgt := 40) C dX4_shiftBy_65 (by decide) ?_
        exact ih40 (i40 + 1) _ (by omega) (by omega) (by rw [hY_59, hYl40, four_i (by omega), numF_in (by omega) (by decide), setA_s, shUp_r hb40, up_ix (by omega)]; rcases Nat.lt_or_ge (4 - i40 + (m - lg)) 5 with q | q; rw [setF_in q (by decide), up_setA, setA_setA, setA_s, shUp_s hb40 q]; rw [setF_out q (by omega), shUp_o hb40 q])
  · have hml : m < lg := by rcases Nat.lt_or_ge m lg with q | q; exact q; exact absurd ((ge_sub hm5 hl5).mpr q) c_1
    refine y_iconst (pc' := 5) rfl (v := 0) C dX4_shiftBy_4 (by decide) ?_
    refine y_istore_n (pc' := 6) rfl C dX4_shiftBy_5 (by decide) ?_
    suffices K6 : ∀ (fu_ i6 : Nat) (Yl6 : YT), i6 ≤ 5 → 5 < fu_ + i6 → Yl6 = setA Y (0, k, 3) (shDn (Y (0, k, 3)) (lg - m) i6) → WY X G A a Yl6 0 0 _ 6 [some (.ref (a (0, k, 2))), some (.int ((nI m - nI lg))), some (.int ((nI i6)))] [] from K6 (5 + 1) 0 _ (by omega) (by omega) (by rw [shDn_0, setA_self])
    intro fu_
    induction fu_ with
    | zero => intro i6 Yl6 h1 h2; omega
    | succ fu_ ih6 =>
      intro i6 Yl6 hi6 hm6 hYl6
      refine y_iload_n (pc' := 7) rfl C dX4_shiftBy_6 rfl ?_
      refine y_iconst (pc' := 8) rfl (v := 5) C dX4_shiftBy_7 (by decide) ?_
      refine y_ic_ge (pc' := 11) rfl (tgt := 35) C dX4_shiftBy_8 (by decide) (fun c_8 => ?_) (fun c_8 => ?_)
      · have hb6 : 5 ≤ i6 := nI_le_iff (by omega) (by omega) c_8
        refine y_goto (tgt := 68) C dX4_shiftBy_35 (by decide) ?_
        refine y_return C rfl dX4_shiftBy_68 rfl rfl ?_
        rw [hYl6, show i6 = 5 by omega, shM, if_pos hml]
      · have hb6 : i6 < 5 := nI_nle_iff (by omega) (by omega) c_8
        refine y_aload_n (pc' := 12) rfl C dX4_shiftBy_11 rfl ?_
        refine y_get (pc' := 15) rfl (v := .ref (a (0, k, 3))) C fl_X4_15 (v0 hk rfl) rfl rfl dX4_shiftBy_12 rfl ?_
        refine y_iload_n (pc' := 16) rfl C dX4_shiftBy_15 rfl ?_
        refine y_iload_n (pc' := 17) rfl C dX4_shiftBy_16 rfl ?_
        refine y_iadd (pc' := 18) rfl C dX4_shiftBy_17 ?_
        refine y_aload_n (pc' := 19) rfl C dX4_shiftBy_18 rfl ?_
        refine y_get (pc' := 22) rfl (v := .ref (a (0, k, 3))) C fl_X4_15 (v0 hk rfl) rfl rfl dX4_shiftBy_19 rfl ?_
        refine y_iload_n (pc' := 23) rfl C dX4_shiftBy_22 rfl ?_
        refine y_cSNi (pc' := 26) (k' := 0) (n' := 0) rfl C (c_X12_numberAt _ G a Yl6 (0, k, 3) 5 (nI i6) (v0 hk rfl) rfl rfl rfl) my_X12_numberAt (nw_477) rfl rfl (Nat.le_of_ble_eq_true rfl) rfl dX4_shiftBy_23 rfl rfl (fun r_23 Y_23 hp_23 => ?_)
        obtain ⟨rfl, hY_23⟩ := hp_23
        have hY_23 := hY_23.symm; subst hY_23
        refine y_cSNv (pc' := 29) (k' := 0) (n' := 0) rfl C (c_X12_setNumberAt _ G a Yl6 (0, k, 3) 5 ((nI i6) + (nI m - nI lg)) (numF Yl6 (0, k, 3) 5 (nI i6)) (v0 hk rfl) rfl rfl rfl) my_X12_setNumberAt (nw_480) rfl rfl (Nat.le_of_ble_eq_true rfl) rfl dX4_shiftBy_26 rfl rfl (fun Y_26 hY_26 => ?_)
        refine y_iinc (pc' := 32) rfl (v := (nI (i6 + 1))) C dX4_shiftBy_29 rfl (nI_1 i6) (by decide) ?_
        refine y_goto (tgt := 6) C dX4_shiftBy_32 (by decide) ?_
        exact ih6 (i6 + 1) _ (by omega) (by omega) (by rw [hY_26, hYl6, numF_in hb6 (by decide), setA_s, shDn_r (by omega)]; rcases Nat.lt_or_ge i6 (lg - m) with q | q; rw [setF_neg (dn_neg (by omega) hl5 q), shDn_o q]; rw [dn_ix (by omega) hl5 q, setF_in (by omega) (by decide), up_setA, setA_setA, setA_s, shDn_s q])
-- KilnKeeper$LagRow.passThrough 
set_option maxHeartbeats 1000000 in
set_option maxRecDepth 20000 in
theorem c_X4_passThrough (l : Launch) (G : GT) (a : Id3 → Nat) (Y : YT) (k lg : Nat) (w : Int32)  (hk : k < 11) (hl : Y (0, k, 2) 0 = nI lg) (hlg : lg ≤ 5) : CtY l G a yX4_passThrough cX4_passThrough 3 (some .int) ({ frames := 2, cells := 0, slots := 0, locals := 44 } : Room) [.ref (a (0, k, 2)), .int w] Y (PI (fun r Y' => r = (if lg = 0 then w else Y (0, k, 3) 0) ∧ Y' = if lg = 0 then Y else setA Y (0, k, 3) (upd (shM (Y (0, k, 3)) 0 1) (lg - 1) w))) := by
  refine CtY.of (by decide) rfl (Nat.le_of_ble_eq_true rfl) ?_
  intro X A C hl
  subst hl
  refine y_aload_n (pc' := 1) rfl C dX4_passThrough_0 rfl ?_
  refine y_get (pc' := 4) rfl C fl_X4_9 (v0 hk rfl) rfl rfl dX4_passThrough_1 rfl ?_
  refine y_if_ne (pc' := 7) rfl (tgt := 9) C dX4_passThrough_4 (by decide) (fun c_4 => ?_) (fun c_4 => ?_)
  · have h0 : ¬ lg = 0 := fun q => c_4 (by rw [hl, q]; rfl)
    refine y_aload_n (pc' := 10) rfl C dX4_passThrough_9 rfl ?_
    refine y_get (pc' := 13) rfl (v := .ref (a (0, k, 3))) C fl_X4_15 (v0 hk rfl) rfl rfl dX4_passThrough_10 rfl ?_
    refine y_iconst (pc' := 14) rfl (v := 0) C dX4_passThrough_13 (by decide) ?_
    refine y_cSNi (pc' := 17) (k' := 0) (n' := 0) rfl C (c_X12_numberAt _ G a Y (0, k, 3) 5 0 (v0 hk rfl) rfl rfl rfl) my_X12_numberAt (nw_477) rfl rfl (Nat.le_of_ble_eq_true rfl) rfl dX4_passThrough_14 rfl rfl (fun r_14 Y_14 hp_14 => ?_)
    obtain ⟨rfl, hY_14⟩ := hp_14
    have hY_14 := hY_14.symm; subst hY_14
    refine y_istore_n (pc' := 18) rfl C dX4_passThrough_17 (by decide) ?_
    refine y_aload_n (pc' := 19) rfl C dX4_passThrough_18 rfl ?_
    refine y_iconst (pc' := 20) rfl (v := (-1)) C dX4_passThrough_19 (by decide) ?_
    refine y_conv (L' := [some (.ref (a (0, k, 2))), some (.int w), some (.int ((numF Y (0, k, 3) 5 0)))]) (st' := [.int ((nI 0 - nI 1)), .ref (a (0, k, 2))]) (rfl) (by rw [show (-1 : Int32) = nI 0 - nI 1 by decide]) ?_
    refine y_cVv (pc' := 23) (k' := 0) (n' := 0) rfl C (c_X4_shiftBy _ G a Y k 0 1 hk (by omega) (by omega)) my_X4_shiftBy aw_473 (v0 hk rfl) rfl rfl rfl rfl rfl (Nat.le_of_ble_eq_true rfl) rfl dX4_passThrough_20 rfl rfl (fun Y_20 hY_20 => ?_)
    refine y_aload_n (pc' := 24) rfl C dX4_passThrough_23 rfl ?_
    refine y_get (pc' := 27) rfl (v := .ref (a (0, k, 3))) C fl_X4_15 (v0 hk rfl) rfl rfl dX4_passThrough_24 rfl ?_
    refine y_aload_n (pc' := 28) rfl C dX4_passThrough_27 rfl ?_
    refine y_get (pc' := 31) rfl C fl_X4_9 (v0 hk rfl) rfl rfl dX4_passThrough_28 rfl ?_
    refine y_iconst (pc' := 32) rfl (v := 1) C dX4_passThrough_31 (by decide) ?_
    refine y_isub (pc' := 33) rfl C dX4_passThrough_32 ?_
    refine y_iload_n (pc' := 34) rfl C dX4_passThrough_33 rfl ?_
    refine y_cSNv (pc' := 37) (k' := 0) (n' := 0) rfl C (c_X12_setNumberAt _ G a Y_20 (0, k, 3) 5 ((Y_20 (0, k, 2) 0) - 1) w (v0 hk rfl) rfl rfl rfl) my_X12_setNumberAt (nw_480) rfl rfl (Nat.le_of_ble_eq_true rfl) rfl dX4_passThrough_34 rfl rfl (fun Y_34 hY_34 => ?_)
    refine y_iload_n (pc' := 38) rfl C dX4_passThrough_37 rfl ?_
    refine y_ireturn C rfl rfl dX4_passThrough_38 rfl rfl ?_
    refine ⟨by rw [if_neg h0]; exact numF_in (j := 0) (by decide) (by decide), ?_⟩
    rw [if_neg h0, hY_34, hY_20, setA_n (by simp), hl, show nI lg - 1 = nI (lg - 1) from pk_sub (b := 1) (by omega), setF_in (by omega) (by decide), up_setA, setA_setA, setA_s]
  · refine y_iload_n (pc' := 8) rfl C dX4_passThrough_7 rfl ?_
    refine y_ireturn C rfl rfl dX4_passThrough_8 rfl rfl ?_
    have h0 : lg = 0 := (nI0 lg (by omega)).mp (by rw [← hl]; exact c_4)
    exact ⟨by rw [if_pos h0], by rw [if_pos h0]⟩
-- KilnKeeper$LagRow.resize 
set_option maxHeartbeats 1000000 in
set_option maxRecDepth 20000 in
theorem c_X4_resize (l : Launch) (G : GT) (a : Id3 → Nat) (Y : YT) (k m lg : Nat) (x : Int32)  (hk : k < 11) (hl : Y (0, k, 2) 0 = nI lg) (hm5 : m ≤ 5) (hl5 : lg ≤ 5) : CtY l G a yX4_resize cX4_resize 5 none ({ frames := 2, cells := 0, slots := 0, locals := 44 } : Room) [.ref (a (0, k, 2)), .int (nI m), .int x] Y (PV (fun Y' => Y' = setA (up Y (0, k, 2) 0 (nI m)) (0, k, 3) (rsz (Y (0, k, 3)) m lg x (m - lg)))) := by
  refine CtY.of (by decide) rfl (Nat.le_of_ble_eq_true rfl) ?_
  intro X A C hl
  subst hl
  refine y_iload_n (pc' := 1) rfl C dX4_resize_0 rfl ?_
  refine y_aload_n (pc' := 2) rfl C dX4_resize_1 rfl ?_
  refine y_get (pc' := 5) rfl C fl_X4_9 (v0 hk rfl) rfl rfl dX4_resize_2 rfl ?_
  refine y_isub (pc' := 6) rfl C dX4_resize_5 ?_
  refine y_conv (L' := [some (.ref (a (0, k, 2))), some (.int ((nI m))), some (.int x), none, none]) (st' := [.int ((nI m - nI lg))]) (rfl) (by rw [hl]) ?_
  refine y_istore_n (pc' := 7) rfl C dX4_resize_6 (by decide) ?_
  refine y_aload_n (pc' := 8) rfl C dX4_resize_7 rfl ?_
  refine y_iload_n (pc' := 9) rfl C dX4_resize_8 rfl ?_
  refine y_cVv (pc' := 12) (k' := 0) (n' := 0) rfl C (c_X4_shiftBy _ G a Y k m lg hk (by omega) (by omega)) my_X4_shiftBy aw_473 (v0 hk rfl) rfl rfl rfl rfl rfl (Nat.le_of_ble_eq_true rfl) rfl dX4_resize_9 rfl rfl (fun Y_9 hY_9 => ?_)
  refine y_iconst (pc' := 13) rfl (v := 0) C dX4_resize_12 (by decide) ?_
  refine y_istore (pc' := 15) rfl C dX4_resize_13 (by decide) ?_
  suffices K15 : ∀ (fu_ i15 : Nat) (Yl15 : YT), i15 ≤ (m - lg) → (m - lg) < fu_ + i15 → Yl15 = setA Y (0, k, 3) (rsz (Y (0, k, 3)) m lg x i15) → WY X G A a Yl15 0 0 _ 15 [some (.ref (a (0, k, 2))), some (.int ((nI m))), some (.int x), some (.int ((nI m - nI lg))), some (.int ((nI i15)))] [] from K15 ((m - lg) + 1) 0 _ (by omega) (by omega) (by rw [rsz_0]; exact hY_9)
  intro fu_
  induction fu_ with
  | zero => intro i15 Yl15 h1 h2; omega
  | succ fu_ ih15 =>
    intro i15 Yl15 hi15 hm15 hYl15
    refine y_iload (pc' := 17) rfl C dX4_resize_15 rfl ?_
    refine y_iload_n (pc' := 18) rfl C dX4_resize_17 rfl ?_
    refine y_ic_ge (pc' := 21) rfl (tgt := 37) C dX4_resize_18 (by decide) (fun c_18 => ?_) (fun c_18 => ?_)
    · have hb15 : m - lg ≤ i15 := (le_sub hm5 hl5 (by omega)).mp c_18
      refine y_aload_n (pc' := 38) rfl C dX4_resize_37 rfl ?_
      refine y_iload_n (pc' := 39) rfl C dX4_resize_38 rfl ?_
      refine y_put (pc' := 42) rfl C fp_X4_9 (v0 hk rfl) rfl rfl dX4_resize_39 rfl (fun Z39 hZ39 => ?_)
      refine y_return C rfl dX4_resize_42 rfl rfl ?_
      rw [hZ39, hYl15, show i15 = m - lg by omega, up_setA, up_setA, setA_n (by simp), setA_comm _ (by simp)]
    · have hb15 : i15 < m - lg := by rcases Nat.lt_or_ge i15 (m - lg) with q | q; exact q; exact absurd ((le_sub hm5 hl5 (by omega)).mpr q) c_18
      refine y_aload_n (pc' := 22) rfl C dX4_resize_21 rfl ?_
      refine y_get (pc' := 25) rfl (v := .ref (a (0, k, 3))) C fl_X4_15 (v0 hk rfl) rfl rfl dX4_resize_22 rfl ?_
      refine y_iload (pc' := 27) rfl C dX4_resize_25 rfl ?_
      refine y_iload_n (pc' := 28) rfl C dX4_resize_27 rfl ?_
      refine y_cSNv (pc' := 31) (k' := 0) (n' := 0) rfl C (c_X12_setNumberAt _ G a Yl15 (0, k, 3) 5 (nI i15) x (v0 hk rfl) rfl rfl rfl) my_X12_setNumberAt (nw_480) rfl rfl (Nat.le_of_ble_eq_true rfl) rfl dX4_resize_28 rfl rfl (fun Y_28 hY_28 => ?_)
      refine y_iinc (pc' := 34) rfl (v := (nI (i15 + 1))) C dX4_resize_31 rfl (nI_1 i15) (by decide) ?_
      refine y_goto (tgt := 15) C dX4_resize_34 (by decide) ?_
      exact ih15 (i15 + 1) _ (by omega) (by omega) (by rw [hY_28, hYl15, setF_in (by omega) (by decide), up_setA, setA_setA, setA_s, rsz_s])
