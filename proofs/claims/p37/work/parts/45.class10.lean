
/-! LINES AND TEXT of the class. -/
def lnS (Y : YT) (q : LSt) : YT := setA Y (5, 0, 1) (fun f => if f = 0 then nI q.1 else q.2 (f - 1))
theorem lnS_0 {Y : YT} {q : LSt} : lnS Y q (5, 0, 1) 0 = nI q.1 := by rw [lnS, setA_s, if_pos rfl]
theorem lnS_f {Y : YT} {q : LSt} {t : Nat} : lnS Y q (5, 0, 1) (1 + t) = q.2 t := by rw [lnS, setA_s]; show (if 1 + t = 0 then _ else _) = _; rw [if_neg (by omega), show 1 + t - 1 = t by omega]
theorem lnS_n {Y : YT} {q : LSt} {i : Id3} (h : i ≠ (5, 0, 1)) : lnS Y q i = Y i := setA_n h
theorem lnS_c (Y : YT) (q : LSt) (c : Int32) : sbC (lnS Y q) 1 q.1 c = lnS Y (wC c q) := by
  unfold sbC lnS
  rw [setA_setA, setA_s]
  congr 1
  funext f
  by_cases h0 : f = 0
  · subst h0
    rw [upd_s, if_pos rfl]
    rfl
  · rw [upd_n h0, if_neg h0]
    by_cases h1 : f = 1 + q.1
    · subst h1
      rw [upd_s]
      show c = upd q.2 q.1 c (1 + q.1 - 1)
      rw [show 1 + q.1 - 1 = q.1 by omega, upd_s]
    · rw [upd_n h1, if_neg h0]
      show q.2 (f - 1) = upd q.2 q.1 c (f - 1)
      rw [upd_n (by omega)]
theorem lnS_i (Y : YT) (q : LSt) (x : Nat) : sbI (lnS Y q) 1 q.1 x = lnS Y (wN x q) := by
  unfold sbI lnS
  rw [setA_setA, setA_s]
  congr 1
  funext f
  by_cases h0 : f = 0
  · subst h0
    rw [upd_s, if_pos rfl]
    rfl
  · rw [upd_n h0, if_neg h0]
    show sbW _ q.1 x f = lnI q.2 q.1 x (sb_dg x) (f - 1)
    unfold sbW lnI
    by_cases h1 : 1 + q.1 ≤ f ∧ f < 1 + q.1 + sb_dg x
    · rw [if_pos h1, if_pos (by omega)]
    · rw [if_neg h1, if_neg (by omega)]
      exact if_neg h0
theorem sb0_ln (Y : YT) : sb0 Y 1 = lnS Y (0, fun f => Y (5, 0, 1) (1 + f)) := by
  unfold sb0 lnS
  congr 1
  funext f
  by_cases h0 : f = 0
  · subst h0
    rw [upd_s, if_pos rfl]
    rfl
  · rw [upd_n h0, if_neg h0]
    show Y (5, 0, 1) f = Y (5, 0, 1) (1 + (f - 1))
    rw [show 1 + (f - 1) = f by omega]
def rowL (s : Nat → Int32) : Nat → LSt → LSt
  | 0, q => q
  | i + 1, q => wN (nn (s (17 + i))) (wC 126 (rowL s i q))
theorem tell_row (s : Nat → Int32) (q : LSt) : ∀ i, tellL s i q = rowL s i (tellL s 0 q)
  | 0 => rfl
  | i + 1 => by show wN _ (wC 126 (tellL s i q)) = wN _ (wC 126 (rowL s i _)); rw [tell_row s q i]
theorem rowL_le {s : Nat → Int32} {q : LSt} {lg : Nat} (hr : ∀ j, j < lg → nn (s (17 + j)) < 1000) : ∀ i, i ≤ lg → (rowL s i q).1 ≤ q.1 + 4 * i
  | 0, _ => by show q.1 ≤ _; omega
  | i + 1, h => by
    have ih := rowL_le (q := q) hr i (by omega)
    have := dg3 (hr i (by omega))
    show (rowL s i q).1 + 1 + sb_dg _ ≤ _
    omega
theorem Inv.tb {s : Nat → Int32} {n : Nat} (h : Inv s n 0) (hn : n ≤ 90000) : (s 0 = nI (nn (s 0)) ∧ nn (s 0) < 10000) ∧ (s 1 = nI (nn (s 1)) ∧ nn (s 1) < 10000) ∧ (s 9 = nI (nn (s 9)) ∧ nn (s 9) < 1000) ∧ (s 10 = nI (nn (s 10)) ∧ nn (s 10) < 1000000000) ∧ ∀ j, j < nn (s 8) → s (17 + j) = nI (nn (s (17 + j))) ∧ nn (s (17 + j)) < 1000 := by
  have q : ∀ {x : Int32} {m b : Nat}, x = nI m → m < b → b ≤ 2 ^ 31 → x = nI (nn x) ∧ nn x < b := fun {x m b} h1 h2 h3 => by subst h1; rw [nn_nI (by omega)]; exact ⟨rfl, h2⟩
  obtain ⟨⟨lg, np, d, fu, h1, h2, h3, h4, h5, h6, h7, h8, h9⟩, ⟨dd, aa, mi, g1, g2, g3, g4, g5, g6, -⟩, -⟩ := h
  refine ⟨q g1 (by omega) (by decide), q g4 (by omega) (by decide), q h5 (by omega) (by decide), q h7 (by omega) (by decide), fun j hj => ?_⟩
  rw [h1, nn_nI (by omega)] at hj
  obtain ⟨e, he, he2⟩ := h9 j hj
  exact q he (by omega) (by decide)
theorem PotI.tb {s : Nat → Int32} {p : Nat} (h : PotI s p) : (s (171 + p) = nI (nn (s (171 + p))) ∧ nn (s (171 + p)) < 100) ∧ (s (179 + p) = nI (nn (s (179 + p))) ∧ nn (s (179 + p)) < 10000) ∧ (s (203 + p) = nI (nn (s (203 + p))) ∧ nn (s (203 + p)) < 100) ∧ (s (187 + p) = nI (nn (s (187 + p))) ∧ nn (s (187 + p)) < 100) := by
  have q : ∀ {x : Int32} {m b : Nat}, x = nI m → m < b → b ≤ 2 ^ 31 → x = nI (nn x) ∧ nn x < b := fun {x m b} h1 h2 h3 => by subst h1; rw [nn_nI (by omega)]; exact ⟨rfl, h2⟩
  obtain ⟨sh, ne, ti, ho, so, i, e1, e2, e3, e4, e5, e6, e7, e8, e9, e10, e11, e12, e13, e14, e15⟩ := h
  exact ⟨q e1 (by omega) (by decide), q e3 (by omega) (by decide), q e9 (by omega) (by decide), q e5 (by omega) (by decide)⟩
theorem howC_nI (x : Int32) : ∃ c, c < 128 ∧ howC x = nI c := by
  unfold howC
  split
  · exact ⟨119, by decide, rfl⟩
  · split
    · exact ⟨107, by decide, rfl⟩
    · split
      · exact ⟨102, by decide, rfl⟩
      · exact ⟨120, by decide, rfl⟩
theorem chr_nI {j : Nat} (h : j < 128) : ((nI j).toUInt32 % 65536).toInt32 = nI j := by
  rw [pk_char, pk_tn (by omega), Nat.mod_eq_of_lt (by omega)]
theorem lk_acc (x : Int32) : Op.lookupswitch.offset (#[(16, 27), (17, 35)] : Array (Int × Int)).toList 43 x.toInt = if x = 16 then 27 else if x = 17 then 35 else 43 := by
  show Op.lookupswitch.offset [(16, 27), (17, 35)] 43 x.toInt = _
  rw [Op.lookupswitch.offset_cons, Op.lookupswitch.offset_cons, Op.lookupswitch.offset_nil]
  by_cases h : x = 16
  · subst h
    rfl
  · rw [if_neg h, if_neg (fun e => h (Int32.toInt_inj.mp (show x.toInt = (16 : Int32).toInt from e.symm)))]
    by_cases h2 : x = 17
    · subst h2
      rfl
    · rw [if_neg h2, if_neg (fun e => h2 (Int32.toInt_inj.mp (show x.toInt = (17 : Int32).toInt from e.symm)))]
theorem n15 {k p j : Nat} : ((1, k, p) : Id3) ≠ (5, 0, j) := fun q => by injection q with q1; exact absurd q1 (by decide)
theorem nI_nlt_of {a : Nat} (h : ¬ nI a < 60) (ha : a < 2 ^ 31) : 60 ≤ a := by
  rcases Nat.lt_or_ge a 60 with z | z
  · exact absurd (nI_lt (b := 60) z (by decide)) h
  · exact z
theorem in_TX8 : ∀ w ∈ u_ws RX8 TX8 2, w ∈ AW := List.forall_mem_cons.mpr ⟨aw_300, List.forall_mem_cons.mpr ⟨aw_302, fun _ h => absurd h List.not_mem_nil⟩⟩
theorem fl_X12_46 : FLK "KilnKeeper" 46 11 7 := ⟨RX12, TX12, 9, rfl, by decide, aw_314, in_TX12⟩
theorem fl_X12_53 : FLK "KilnKeeper" 53 11 8 := ⟨RX12, TX12, 9, rfl, by decide, aw_315, in_TX12⟩
theorem fl_X12_223 : FLK "KilnKeeper" 223 2 0 := ⟨RX2, TX2, 3, rfl, by decide, aw_216, in_TX2⟩
theorem fl_X8_12 : FLK "KilnKeeper$Reader" 12 8 0 := ⟨RX8, TX8, 2, rfl, by decide, aw_298, in_TX8⟩
theorem my_X3_accountOf : MV yX3_accountOf cX3_accountOf 2 (some .int) 1 := ⟨aw_353, aw_16, ⟨by decide, by decide, by decide +kernel⟩, aw_351, aw_352⟩
theorem my_X3_write : MV yX3_write cX3_write 2 none 1 := ⟨aw_970, aw_16, ⟨by decide, by decide, by decide +kernel⟩, aw_968, aw_969⟩
theorem my_X4_write : MV yX4_write cX4_write 3 none 1 := ⟨aw_976, aw_18, ⟨by decide, by decide, by decide +kernel⟩, aw_974, aw_975⟩
theorem my_X8_addCode : MV yX8_addCode cX8_addCode 2 (some .int) 1 := ⟨aw_764, aw_24, ⟨by decide, by decide, by decide +kernel⟩, aw_762, aw_763⟩
theorem my_X8_textLength : MV yX8_textLength cX8_textLength 1 (some .int) 0 := ⟨aw_342, aw_24, ⟨by decide, by decide, by decide +kernel⟩, aw_340, aw_341⟩
-- KilnKeeper$LagRow.write 
set_option maxHeartbeats 1000000 in
set_option maxRecDepth 20000 in
theorem c_X4_write (l : Launch) (G : GT) (a : Id3 → Nat) (Y : YT) (Y0 : YT) (s : Nat → Int32) (q : LSt) (lg : Nat)  (hY : Y = lnS Y0 q) (hl : Y0 (0, 0, 2) 0 = nI lg) (hlg : lg ≤ 5) (hrw : ∀ j, j < lg → Y0 (0, 0, 3) j = s (17 + j)) (hrow : ∀ j, j < lg → s (17 + j) = nI (nn (s (17 + j))) ∧ nn (s (17 + j)) < 1000) (hq : q.1 ≤ 40) : CtY l G a yX4_write cX4_write 3 none ({ frames := 8, cells := 10, slots := 2000, locals := 179 } : Room) [.ref (a (0, 0, 2)), .ref (a (5, 0, 1))] Y (PV (fun Y' => Y' = lnS Y0 (rowL s lg q))) := by
  refine CtY.of (by decide) rfl (Nat.le_of_ble_eq_true rfl) ?_
  intro X A C hl
  subst hl
  refine y_iconst (pc' := 1) rfl (v := 0) C dX4_write_0 (by decide) ?_
  refine y_istore_n (pc' := 2) rfl C dX4_write_1 (by decide) ?_
  refine y_widen (k' := (2 * 0)) (n' := (400 * 0)) (by omega) (by omega) ?_
  suffices K2 : ∀ (fu_ i2 : Nat) (Yl2 : YT), i2 ≤ lg → lg < fu_ + i2 → Yl2 = lnS Y0 (rowL s i2 q) → WY X G A a Yl2 (2 * i2) (400 * i2) _ 2 [some (.ref (a (0, 0, 2))), some (.ref (a (5, 0, 1))), some (.int ((nI i2)))] [] from K2 (lg + 1) 0 _ (by omega) (by omega) (hY)
  intro fu_
  induction fu_ with
  | zero => intro i2 Yl2 h1 h2; omega
  | succ fu_ ih2 =>
    intro i2 Yl2 hi2 hm2 hYl2
    have m2 := rowL_le (q := q) (fun j hj => (hrow j hj).2) i2 hi2
    refine y_iload_n (pc' := 3) rfl C dX4_write_2 rfl ?_
    refine y_aload_n (pc' := 4) rfl C dX4_write_3 rfl ?_
    refine y_get (pc' := 7) rfl C fl_X4_9 (v0 k0 rfl) rfl rfl dX4_write_4 rfl ?_
    refine y_ic_ge (pc' := 10) rfl (tgt := 34) C dX4_write_7 (by decide) (fun c_7 => ?_) (fun c_7 => ?_)
    · have zl : Yl2 (0, 0, 2) 0 = nI lg := by rw [hYl2, lnS_n (by decide)]; exact hl
      rw [zl] at c_7
      have hb2 : lg ≤ i2 := nI_le_iff (by omega) (by omega) c_7
      refine y_widen (k' := 10) (n' := 2000) (by omega) (by omega) ?_
      refine y_return C rfl dX4_write_34 rfl rfl ?_
      rw [hYl2, show i2 = lg by omega]
    · have zl : Yl2 (0, 0, 2) 0 = nI lg := by rw [hYl2, lnS_n (by decide)]; exact hl
      rw [zl] at c_7
      have hb2 : i2 < lg := nI_nle_iff (by omega) (by omega) c_7
      refine y_aload_n (pc' := 11) rfl C dX4_write_10 rfl ?_
      refine y_bipush (pc' := 13) rfl (v := 126) C dX4_write_11 (by decide) ?_
      refine y_conv (L' := [some (.ref (a (0, 0, 2))), some (.ref (a (5, 0, 1))), some (.int ((nI i2)))]) (st' := [.int ((nI 126)), .ref (a (5, 0, 1))]) (rfl) (rfl) ?_
      refine y_cVg (na := 1) (pc' := 16) (k' := ((2 * i2) + 1)) (n' := ((400 * i2) + 200)) rfl C (c_J4_append_cf468 _ G a Yl2 1 (rowL s i2 q).1 126 (by decide) (by rw [hYl2, lnS_0]) (by omega) (by decide)) ⟨aw_769, aw_26, ⟨by decide, by decide, by decide +kernel⟩, aw_767⟩ (C.ts _ aw_768) aw_977 (ry_sb C (by decide)) rfl rfl (Nat.le_of_ble_eq_true rfl) (by simp only [roomOk, Bool.and_eq_true, Nat.ble_eq]; omega) dX4_write_13 rfl rfl (k_PR fun r_13 Y_13 hp_13 => ?_)
      obtain ⟨rfl, hY_13⟩ := hp_13
      have g13 : Y_13 = lnS Y0 (wC 126 (rowL s i2 q)) := by rw [hY_13, hYl2]; exact lnS_c _ _ _
      refine y_aload_n (pc' := 17) rfl C dX4_write_16 rfl ?_
      refine y_get (pc' := 20) rfl (v := .ref (a (0, 0, 3))) C fl_X4_15 (v0 k0 rfl) rfl rfl dX4_write_17 rfl ?_
      refine y_iload_n (pc' := 21) rfl C dX4_write_20 rfl ?_
      refine y_cSNi (pc' := 24) (k' := ((2 * i2) + 1)) (n' := ((400 * i2) + 200)) rfl C (c_X12_numberAt _ G a Y_13 (0, 0, 3) 5 (nI i2) (v0 k0 rfl) rfl rfl rfl) my_X12_numberAt (nw_477) rfl rfl (Nat.le_of_ble_eq_true rfl) (by simp only [roomOk, Bool.and_eq_true, Nat.ble_eq]; omega) dX4_write_21 rfl rfl (fun r_21 Y_21 hp_21 => ?_)
      obtain ⟨rfl, hY_21⟩ := hp_21
      have hY_21 := hY_21.symm; subst hY_21
      refine y_conv (L' := [some (.ref (a (0, 0, 2))), some (.ref (a (5, 0, 1))), some (.int ((nI i2)))]) (st' := [.int ((nI (nn (s (17 + i2))))), .ref (a (5, 0, 1))]) (rfl) (by rw [numF_in (by omega) (by decide), g13, lnS_n (by decide), hrw i2 hb2, ← (hrow i2 hb2).1]) ?_
      refine y_cVg (na := 1) (pc' := 27) (k' := (((2 * i2) + 1) + 1)) (n' := (((400 * i2) + 200) + 200)) rfl C (c_J4_append_bf812 _ G a Y_13 1 (wC 126 (rowL s i2 q)).1 (nn (s (17 + i2))) (by decide) (by rw [g13, lnS_0]) (by have := dg3 (hrow i2 hb2).2; show (rowL s i2 q).1 + 1 + _ ≤ 90; omega) (by have := (hrow i2 hb2).2; omega)) ⟨aw_649, aw_26, ⟨by decide, by decide, by decide +kernel⟩, aw_647⟩ (C.ts _ aw_648) aw_978 (ry_sb C (by decide)) rfl rfl (Nat.le_of_ble_eq_true rfl) (by simp only [roomOk, Bool.and_eq_true, Nat.ble_eq]; omega) dX4_write_24 rfl rfl (k_PR fun r_24 Y_24 hp_24 => ?_)
      obtain ⟨rfl, hY_24⟩ := hp_24
      have g24 : Y_24 = lnS Y0 (rowL s (i2 + 1) q) := by rw [hY_24, g13]; exact lnS_i _ _ _
      refine y_pop (pc' := 28) rfl C dX4_write_27 rfl ?_
      refine y_iinc (pc' := 31) rfl (v := (nI (i2 + 1))) C dX4_write_28 rfl (nI_1 i2) (by decide) ?_
      refine y_goto (tgt := 2) C dX4_write_31 (by decide) ?_
      refine y_widen (k' := (2 * (i2 + 1))) (n' := (400 * (i2 + 1))) (by omega) (by omega) ?_
      exact ih2 (i2 + 1) _ (by omega) (by omega) (g24)
-- KilnKeeper$Kiln.write 
set_option maxHeartbeats 1000000 in
set_option maxRecDepth 20000 in
theorem c_X3_write (l : Launch) (G : GT) (a : Id3 → Nat) (Y : YT) (Y0 : YT) (n : Nat) (s z : Nat → Int32)  (hY : Y = lnS Y0 (0, z)) (hR : RKi Y0 0 s) (hI : Inv s n 0) (hn9 : n ≤ 90000) : CtY l G a yX3_write cX3_write 2 none ({ frames := 9, cells := 17, slots := 3400, locals := 201 } : Room) [.ref (a (0, 0, 0)), .ref (a (5, 0, 1))] Y (PV (fun Y' => Y' = lnS Y0 (tellL s (nn (s 8)) (0, z)))) := by
  refine CtY.of (by decide) rfl (Nat.le_of_ble_eq_true rfl) ?_
  intro X A C hl
  subst hl
  obtain ⟨⟨b0, d0⟩, ⟨b1, d1⟩, ⟨b9, d9⟩, ⟨b10, d10⟩, brow⟩ := hI.tb hn9
  have e0 := dg4 d0
  have e1 := dg4 d1
  have e9 := dg3 d9
  have e10 := dg9 d10
  refine y_aload_n (pc' := 1) rfl C dX3_write_0 rfl ?_
  refine y_aload_n (pc' := 2) rfl C dX3_write_1 rfl ?_
  refine y_get (pc' := 5) rfl C fl_X3_9 (v0 k0 rfl) rfl rfl dX3_write_2 rfl ?_
  refine y_conv (L' := [some (.ref (a (0, 0, 0))), some (.ref (a (5, 0, 1)))]) (st' := [.int ((nI (nn (s 0)))), .ref (a (5, 0, 1))]) (rfl) (by rw [hY, lnS_n (by decide), hR.1.1, ← b0] <;> rfl) ?_
  refine y_cVg (na := 1) (pc' := 8) (k' := 1) (n' := 200) rfl C (c_J4_append_bf812 _ G a Y 1 ((0, z) : LSt).1 (nn (s 0)) (by decide) (by rw [hY, lnS_0]) (by show 0 + _ ≤ 90; omega) (by omega)) ⟨aw_649, aw_26, ⟨by decide, by decide, by decide +kernel⟩, aw_647⟩ (C.ts _ aw_648) aw_971 (ry_sb C (by decide)) rfl rfl (Nat.le_of_ble_eq_true rfl) rfl dX3_write_5 rfl rfl (k_PR fun r_5 Y_5 hp_5 => ?_)
  obtain ⟨rfl, hY_5⟩ := hp_5
  have g5 : Y_5 = lnS Y0 (wN (nn (s 0)) (0, z)) := by rw [hY_5, hY]; exact lnS_i _ _ _
  refine y_bipush (pc' := 10) rfl (v := 62) C dX3_write_8 (by decide) ?_
  refine y_conv (L' := [some (.ref (a (0, 0, 0))), some (.ref (a (5, 0, 1)))]) (st' := [.int ((nI 62)), .ref (a (5, 0, 1))]) (rfl) (rfl) ?_
  refine y_cVg (na := 1) (pc' := 13) (k' := 2) (n' := 400) rfl C (c_J4_append_cf468 _ G a Y_5 1 (wN (nn (s 0)) (0, z)).1 62 (by decide) (by rw [g5, lnS_0]) (by show 0 + _ + _ ≤ 90; omega) (by decide)) ⟨aw_769, aw_26, ⟨by decide, by decide, by decide +kernel⟩, aw_767⟩ (C.ts _ aw_768) aw_972 (ry_sb C (by decide)) rfl rfl (Nat.le_of_ble_eq_true rfl) rfl dX3_write_10 rfl rfl (k_PR fun r_10 Y_10 hp_10 => ?_)
  obtain ⟨rfl, hY_10⟩ := hp_10
  have g10 : Y_10 = lnS Y0 (wC 62 (wN (nn (s 0)) (0, z))) := by rw [hY_10, g5]; exact lnS_c _ _ _
  refine y_aload_n (pc' := 14) rfl C dX3_write_13 rfl ?_
  refine y_get (pc' := 17) rfl C fl_X3_15 (v0 k0 rfl) rfl rfl dX3_write_14 rfl ?_
  refine y_conv (L' := [some (.ref (a (0, 0, 0))), some (.ref (a (5, 0, 1)))]) (st' := [.int ((nI (nn (s 1)))), .ref (a (5, 0, 1))]) (rfl) (by rw [g10, lnS_n (by decide), hR.1.2.1, ← b1] <;> rfl) ?_
  refine y_cVg (na := 1) (pc' := 20) (k' := 3) (n' := 600) rfl C (c_J4_append_bf812 _ G a Y_10 1 (wC 62 (wN (nn (s 0)) (0, z))).1 (nn (s 1)) (by decide) (by rw [g10, lnS_0]) (by show 0 + _ + _ + _ ≤ 90; omega) (by omega)) ⟨aw_649, aw_26, ⟨by decide, by decide, by decide +kernel⟩, aw_647⟩ (C.ts _ aw_648) aw_971 (ry_sb C (by decide)) rfl rfl (Nat.le_of_ble_eq_true rfl) rfl dX3_write_17 rfl rfl (k_PR fun r_17 Y_17 hp_17 => ?_)
  obtain ⟨rfl, hY_17⟩ := hp_17
  have g17 : Y_17 = lnS Y0 (wN (nn (s 1)) (wC 62 (wN (nn (s 0)) (0, z)))) := by rw [hY_17, g10]; exact lnS_i _ _ _
  refine y_pop (pc' := 21) rfl C dX3_write_20 rfl ?_
  refine y_aload_n (pc' := 22) rfl C dX3_write_21 rfl ?_
  refine y_bipush (pc' := 24) rfl (v := 100) C dX3_write_22 (by decide) ?_
  refine y_conv (L' := [some (.ref (a (0, 0, 0))), some (.ref (a (5, 0, 1)))]) (st' := [.int ((nI 100)), .ref (a (5, 0, 1))]) (rfl) (rfl) ?_
  refine y_cVg (na := 1) (pc' := 27) (k' := 4) (n' := 800) rfl C (c_J4_append_cf468 _ G a Y_17 1 (wN (nn (s 1)) (wC 62 (wN (nn (s 0)) (0, z)))).1 100 (by decide) (by rw [g17, lnS_0]) (by show 0 + _ + _ + _ + _ ≤ 90; omega) (by decide)) ⟨aw_769, aw_26, ⟨by decide, by decide, by decide +kernel⟩, aw_767⟩ (C.ts _ aw_768) aw_972 (ry_sb C (by decide)) rfl rfl (Nat.le_of_ble_eq_true rfl) rfl dX3_write_24 rfl rfl (k_PR fun r_24 Y_24 hp_24 => ?_)
  obtain ⟨rfl, hY_24⟩ := hp_24
  have g24 : Y_24 = lnS Y0 (wC 100 (wN (nn (s 1)) (wC 62 (wN (nn (s 0)) (0, z))))) := by rw [hY_24, g17]; exact lnS_c _ _ _
  refine y_aload_n (pc' := 28) rfl C dX3_write_27 rfl ?_
  refine y_get (pc' := 31) rfl C fl_X3_21 (v0 k0 rfl) rfl rfl dX3_write_28 rfl ?_
  refine y_conv (L' := [some (.ref (a (0, 0, 0))), some (.ref (a (5, 0, 1)))]) (st' := [.int ((nI (nn (s 9)))), .ref (a (5, 0, 1))]) (rfl) (by rw [g24, lnS_n (by decide), hR.1.2.2.2, ← b9] <;> rfl) ?_
  refine y_cVg (na := 1) (pc' := 34) (k' := 5) (n' := 1000) rfl C (c_J4_append_bf812 _ G a Y_24 1 (wC 100 (wN (nn (s 1)) (wC 62 (wN (nn (s 0)) (0, z))))).1 (nn (s 9)) (by decide) (by rw [g24, lnS_0]) (by show 0 + _ + _ + _ + _ + _ ≤ 90; omega) (by omega)) ⟨aw_649, aw_26, ⟨by decide, by decide, by decide +kernel⟩, aw_647⟩ (C.ts _ aw_648) aw_971 (ry_sb C (by decide)) rfl rfl (Nat.le_of_ble_eq_true rfl) rfl dX3_write_31 rfl rfl (k_PR fun r_31 Y_31 hp_31 => ?_)
  obtain ⟨rfl, hY_31⟩ := hp_31
  have g31 : Y_31 = lnS Y0 (wN (nn (s 9)) (wC 100 (wN (nn (s 1)) (wC 62 (wN (nn (s 0)) (0, z)))))) := by rw [hY_31, g24]; exact lnS_i _ _ _
  refine y_pop (pc' := 35) rfl C dX3_write_34 rfl ?_
  refine y_aload_n (pc' := 36) rfl C dX3_write_35 rfl ?_
  refine y_bipush (pc' := 38) rfl (v := 102) C dX3_write_36 (by decide) ?_
  refine y_conv (L' := [some (.ref (a (0, 0, 0))), some (.ref (a (5, 0, 1)))]) (st' := [.int ((nI 102)), .ref (a (5, 0, 1))]) (rfl) (rfl) ?_
  refine y_cVg (na := 1) (pc' := 41) (k' := 6) (n' := 1200) rfl C (c_J4_append_cf468 _ G a Y_31 1 (wN (nn (s 9)) (wC 100 (wN (nn (s 1)) (wC 62 (wN (nn (s 0)) (0, z)))))).1 102 (by decide) (by rw [g31, lnS_0]) (by show 0 + _ + _ + _ + _ + _ + _ ≤ 90; omega) (by decide)) ⟨aw_769, aw_26, ⟨by decide, by decide, by decide +kernel⟩, aw_767⟩ (C.ts _ aw_768) aw_972 (ry_sb C (by decide)) rfl rfl (Nat.le_of_ble_eq_true rfl) rfl dX3_write_38 rfl rfl (k_PR fun r_38 Y_38 hp_38 => ?_)
  obtain ⟨rfl, hY_38⟩ := hp_38
  have g38 : Y_38 = lnS Y0 (wC 102 (wN (nn (s 9)) (wC 100 (wN (nn (s 1)) (wC 62 (wN (nn (s 0)) (0, z))))))) := by rw [hY_38, g31]; exact lnS_c _ _ _
  refine y_aload_n (pc' := 42) rfl C dX3_write_41 rfl ?_
  refine y_get (pc' := 45) rfl (v := .ref (a (0, 0, 4))) C fl_X3_41 (v0 k0 rfl) rfl rfl dX3_write_42 rfl ?_
  refine y_get (pc' := 48) rfl C fl_X3_130 (v0 k0 rfl) rfl rfl dX3_write_45 rfl ?_
  refine y_conv (L' := [some (.ref (a (0, 0, 0))), some (.ref (a (5, 0, 1)))]) (st' := [.int ((nI (nn (s 10)))), .ref (a (5, 0, 1))]) (rfl) (by rw [g38, lnS_n (by decide), hR.2.2.2.1.2.1, ← b10] <;> rfl) ?_
  refine y_cVg (na := 1) (pc' := 51) (k' := 7) (n' := 1400) rfl C (c_J4_append_bf812 _ G a Y_38 1 (wC 102 (wN (nn (s 9)) (wC 100 (wN (nn (s 1)) (wC 62 (wN (nn (s 0)) (0, z))))))).1 (nn (s 10)) (by decide) (by rw [g38, lnS_0]) (by show 0 + _ + _ + _ + _ + _ + _ + _ ≤ 90; omega) (by omega)) ⟨aw_649, aw_26, ⟨by decide, by decide, by decide +kernel⟩, aw_647⟩ (C.ts _ aw_648) aw_971 (ry_sb C (by decide)) rfl rfl (Nat.le_of_ble_eq_true rfl) rfl dX3_write_48 rfl rfl (k_PR fun r_48 Y_48 hp_48 => ?_)
  obtain ⟨rfl, hY_48⟩ := hp_48
  have g48 : Y_48 = lnS Y0 (wN (nn (s 10)) (wC 102 (wN (nn (s 9)) (wC 100 (wN (nn (s 1)) (wC 62 (wN (nn (s 0)) (0, z)))))))) := by rw [hY_48, g38]; exact lnS_i _ _ _
  refine y_pop (pc' := 52) rfl C dX3_write_51 rfl ?_
  refine y_aload_n (pc' := 53) rfl C dX3_write_52 rfl ?_
  refine y_get (pc' := 56) rfl (v := .ref (a (0, 0, 2))) C fl_X3_34 (v0 k0 rfl) rfl rfl dX3_write_53 rfl ?_
  refine y_aload_n (pc' := 57) rfl C dX3_write_56 rfl ?_
  refine y_cVv (pc' := 60) (k' := 17) (n' := 3400) rfl C (c_X4_write _ G a Y_48 Y0 s (wN (nn (s 10)) (wC 102 (wN (nn (s 9)) (wC 100 (wN (nn (s 1)) (wC 62 (wN (nn (s 0)) (0, z)))))))) (nn (s 8)) g48 (hR.hl hI.mb) hI.mb.lg.2 hR.2.2.1.2 brow (by show 0 + _ + _ + _ + _ + _ + _ + _ ≤ 40; omega)) my_X4_write aw_973 (v0 k0 rfl) rfl rfl rfl rfl rfl (Nat.le_of_ble_eq_true rfl) rfl dX3_write_57 rfl rfl (fun Y_57 hY_57 => ?_)
  refine y_return C rfl dX3_write_60 rfl rfl ?_
  rw [hY_57, tell_row]; rfl
-- KilnKeeper.tell 
set_option maxHeartbeats 1000000 in
set_option maxRecDepth 20000 in
theorem c_X12_tell (l : Launch) (G : GT) (a : Id3 → Nat) (Y : YT) (n : Nat) (s : Nat → Int32)  (hR : RKi Y 0 s) (hI : Inv s n 0) (hn9 : n ≤ 90000) : CtY l G a yX12_tell cX12_tell 1 (some .int) ({ frames := 10, cells := 18, slots := 3600, locals := 222 } : Room) [.ref (a (2, 0, 0))] Y (PI (fun r Y' => r = nI (tellL s (nn (s 8)) (0, fun f => Y (5, 0, 1) (1 + f))).1 ∧ Y' = lnS Y (tellL s (nn (s 8)) (0, fun f => Y (5, 0, 1) (1 + f))))) := by
  refine CtY.of (by decide) rfl (Nat.le_of_ble_eq_true rfl) ?_
  intro X A C hl
  subst hl
  refine y_aload_n (pc' := 1) rfl C dX12_tell_0 rfl ?_
  refine y_get (pc' := 4) rfl (v := .ref (a (5, 0, 1))) C fl_X12_53 (v2 rfl) rfl rfl dX12_tell_1 rfl ?_
  refine y_iconst (pc' := 5) rfl (v := 0) C dX12_tell_4 (by decide) ?_
  refine y_cVg (na := 1) (pc' := 8) (k' := 1) (n' := 200) rfl C (c_J4_setLength_d00df _ G a Y 1 (by decide)) ⟨aw_844, aw_26, ⟨by decide, by decide, by decide +kernel⟩, aw_842⟩ (C.ts _ aw_843) aw_966 (ry_sb C (by decide)) rfl rfl (Nat.le_of_ble_eq_true rfl) rfl dX12_tell_5 rfl rfl (k_PV fun  Y_5 hp_5 => ?_)
  have hY_5 := hp_5
  refine y_aload_n (pc' := 9) rfl C dX12_tell_8 rfl ?_
  refine y_get (pc' := 12) rfl (v := .ref (a (0, 0, 0))) C fl_X12_10 (v2 rfl) rfl rfl dX12_tell_9 rfl ?_
  refine y_aload_n (pc' := 13) rfl C dX12_tell_12 rfl ?_
  refine y_get (pc' := 16) rfl (v := .ref (a (5, 0, 1))) C fl_X12_53 (v2 rfl) rfl rfl dX12_tell_13 rfl ?_
  refine y_cVv (pc' := 19) (k' := 18) (n' := 3600) rfl C (c_X3_write _ G a Y_5 Y n s (fun f => Y (5, 0, 1) (1 + f)) (by rw [hY_5]; exact sb0_ln Y) hR hI hn9) my_X3_write aw_967 (v0 k0 rfl) rfl rfl rfl rfl rfl (Nat.le_of_ble_eq_true rfl) rfl dX12_tell_16 rfl rfl (fun Y_16 hY_16 => ?_)
  refine y_aload_n (pc' := 20) rfl C dX12_tell_19 rfl ?_
  refine y_get (pc' := 23) rfl (v := .ref (a (5, 0, 1))) C fl_X12_53 (v2 rfl) rfl rfl dX12_tell_20 rfl ?_
  refine y_cVg (na := 0) (pc' := 26) (k' := 18) (n' := 3600) rfl C (c_J4_length_8abf5 _ G a Y_16 1 (tellL s (nn (s 8)) (0, fun f => Y (5, 0, 1) (1 + f))).1 (by decide) (by rw [hY_16, lnS_0])) ⟨aw_346, aw_26, ⟨by decide, by decide, by decide +kernel⟩, aw_344⟩ (C.ts _ aw_345) aw_979 (ry_sb C (by decide)) rfl rfl (Nat.le_of_ble_eq_true rfl) rfl dX12_tell_23 rfl rfl (k_PI fun r_23 Y_23 hp_23 => ?_)
  obtain ⟨hr_23, hY_23⟩ := hp_23
  have hY_23 := hY_23.symm; subst hY_23
  refine y_ireturn C rfl rfl dX12_tell_26 rfl rfl ?_
  exact ⟨hr_23, hY_16⟩
-- KilnKeeper.character 
set_option maxHeartbeats 1000000 in
set_option maxRecDepth 20000 in
theorem c_X12_character (l : Launch) (G : GT) (a : Id3 → Nat) (Y : YT) (ll : Nat) (i : Int32)  (hll : Y (5, 0, 1) 0 = nI ll) (hll8 : ll ≤ 80) : CtY l G a yX12_character cX12_character 2 (some .int) ({ frames := 4, cells := 0, slots := 0, locals := 88 } : Room) [.ref (a (2, 0, 0)), .int i] Y (PI (fun r Y' => r = (if 0 ≤ i ∧ i < nI ll then Y (5, 0, 1) (1 + nn i) else -10001) ∧ Y' = Y)) := by
  refine CtY.of (by decide) rfl (Nat.le_of_ble_eq_true rfl) ?_
  intro X A C hl
  subst hl
  refine y_iload_n (pc' := 1) rfl C dX12_character_0 rfl ?_
  refine y_if_lt (pc' := 4) rfl (tgt := 26) C dX12_character_1 (by decide) (fun c_1 => ?_) (fun c_1 => ?_)
  · refine y_sipush (pc' := 29) rfl (v := (-10001)) C dX12_character_26 (by decide) ?_
    refine y_ireturn C rfl rfl dX12_character_29 rfl rfl ?_
    exact ⟨by rw [if_neg (fun z => absurd z.1 (Int32.not_le.mpr c_1))], rfl⟩
  · refine y_iload_n (pc' := 5) rfl C dX12_character_4 rfl ?_
    refine y_aload_n (pc' := 6) rfl C dX12_character_5 rfl ?_
    refine y_get (pc' := 9) rfl (v := .ref (a (5, 0, 1))) C fl_X12_53 (v2 rfl) rfl rfl dX12_character_6 rfl ?_
    refine y_cVg (na := 0) (pc' := 12) (k' := 0) (n' := 0) rfl C (c_J4_length_8abf5 _ G a Y 1 ll (by decide) hll) ⟨aw_346, aw_26, ⟨by decide, by decide, by decide +kernel⟩, aw_344⟩ (C.ts _ aw_345) aw_979 (ry_sb C (by decide)) rfl rfl (Nat.le_of_ble_eq_true rfl) rfl dX12_character_9 rfl rfl (k_PI fun r_9 Y_9 hp_9 => ?_)
    obtain ⟨hr_9, hY_9⟩ := hp_9
    have hY_9 := hY_9.symm; subst hY_9
    refine y_conv (L' := [some (.ref (a (2, 0, 0))), some (.int i)]) (st' := [.int ((nI ll)), .int i]) (rfl) (by rw [hr_9]) ?_
    refine y_ic_ge (pc' := 15) rfl (tgt := 26) C dX12_character_12 (by decide) (fun c_12 => ?_) (fun c_12 => ?_)
    · refine y_sipush (pc' := 29) rfl (v := (-10001)) C dX12_character_26 (by decide) ?_
      refine y_ireturn C rfl rfl dX12_character_29 rfl rfl ?_
      exact ⟨by rw [if_neg (fun z => absurd z.2 (Int32.not_lt.mpr c_12))], rfl⟩
    · obtain ⟨j, hj, hij⟩ := idx_of c_1 c_12 (by omega)
      refine y_aload_n (pc' := 16) rfl C dX12_character_15 rfl ?_
      refine y_get (pc' := 19) rfl (v := .ref (a (5, 0, 1))) C fl_X12_53 (v2 rfl) rfl rfl dX12_character_16 rfl ?_
      refine y_iload_n (pc' := 20) rfl C dX12_character_19 rfl ?_
      refine y_conv (L' := [some (.ref (a (2, 0, 0))), some (.int i)]) (st' := [.int ((nI j)), .ref (a (5, 0, 1))]) (rfl) (by rw [hij]) ?_
      refine y_cVg (na := 1) (pc' := 23) (k' := 0) (n' := 0) rfl C (c_J4_charAt_5068e _ G a Y 1 ll j (by decide) hll (by omega) hj) ⟨aw_817, aw_26, ⟨by decide, by decide, by decide +kernel⟩, aw_815⟩ (C.ts _ aw_816) aw_984 (ry_sb C (by decide)) rfl rfl (Nat.le_of_ble_eq_true rfl) rfl dX12_character_20 rfl rfl (k_PI fun r_20 Y_20 hp_20 => ?_)
      obtain ⟨hr_20, hY_20⟩ := hp_20
      have hY_20 := hY_20.symm; subst hY_20
      refine y_goto (tgt := 29) C dX12_character_23 (by decide) ?_
      refine y_ireturn C rfl rfl dX12_character_29 rfl rfl ?_
      exact ⟨by rw [if_pos ⟨Int32.not_lt.mp c_1, by rw [hij]; exact nI_lt hj (by omega)⟩, hij, nn_nI (by omega)]; exact hr_20, rfl⟩
-- KilnKeeper$Reader.textLength 
set_option maxHeartbeats 1000000 in
set_option maxRecDepth 20000 in
theorem c_X8_textLength (l : Launch) (G : GT) (a : Id3 → Nat) (Y : YT) (tl : Nat)  (htl : Y (5, 0, 0) 0 = nI tl) : CtY l G a yX8_textLength cX8_textLength 1 (some .int) ({ frames := 2, cells := 0, slots := 0, locals := 40 } : Room) [.ref (a (2, 0, 5))] Y (PI (fun r Y' => r = nI tl ∧ Y' = Y)) := by
  refine CtY.of (by decide) rfl (Nat.le_of_ble_eq_true rfl) ?_
  intro X A C hl
  subst hl
  refine y_aload_n (pc' := 1) rfl C dX8_textLength_0 rfl ?_
  refine y_get (pc' := 4) rfl (v := .ref (a (5, 0, 0))) C fl_X8_12 (v2 rfl) rfl rfl dX8_textLength_1 rfl ?_
  refine y_cVg (na := 0) (pc' := 7) (k' := 0) (n' := 0) rfl C (c_J4_length_8abf5 _ G a Y 0 tl (by decide) htl) ⟨aw_346, aw_26, ⟨by decide, by decide, by decide +kernel⟩, aw_344⟩ (C.ts _ aw_345) aw_343 (ry_sb C (by decide)) rfl rfl (Nat.le_of_ble_eq_true rfl) rfl dX8_textLength_4 rfl rfl (k_PI fun r_4 Y_4 hp_4 => ?_)
  obtain ⟨hr_4, hY_4⟩ := hp_4
  have hY_4 := hY_4.symm; subst hY_4
  refine y_ireturn C rfl rfl dX8_textLength_7 rfl rfl ?_
  exact ⟨hr_4, rfl⟩
-- KilnKeeper$Reader.clearText 
set_option maxHeartbeats 1000000 in
set_option maxRecDepth 20000 in
theorem c_X8_clearText (l : Launch) (G : GT) (a : Id3 → Nat) (Y : YT)    : CtY l G a yX8_clearText cX8_clearText 1 none ({ frames := 6, cells := 1, slots := 200, locals := 146 } : Room) [.ref (a (2, 0, 5))] Y (PV (fun Y' => Y' = sb0 Y 0)) := by
  refine CtY.of (by decide) rfl (Nat.le_of_ble_eq_true rfl) ?_
  intro X A C hl
  subst hl
  refine y_aload_n (pc' := 1) rfl C dX8_clearText_0 rfl ?_
  refine y_get (pc' := 4) rfl (v := .ref (a (5, 0, 0))) C fl_X8_12 (v2 rfl) rfl rfl dX8_clearText_1 rfl ?_
  refine y_iconst (pc' := 5) rfl (v := 0) C dX8_clearText_4 (by decide) ?_
  refine y_cVg (na := 1) (pc' := 8) (k' := 1) (n' := 200) rfl C (c_J4_setLength_d00df _ G a Y 0 (by decide)) ⟨aw_844, aw_26, ⟨by decide, by decide, by decide +kernel⟩, aw_842⟩ (C.ts _ aw_843) aw_841 (ry_sb C (by decide)) rfl rfl (Nat.le_of_ble_eq_true rfl) rfl dX8_clearText_5 rfl rfl (k_PV fun  Y_5 hp_5 => ?_)
  have hY_5 := hp_5
  refine y_return C rfl dX8_clearText_8 rfl rfl ?_
  exact hY_5
-- KilnKeeper$Reader.addCode 
set_option maxHeartbeats 1000000 in
set_option maxRecDepth 20000 in
theorem c_X8_addCode (l : Launch) (G : GT) (a : Id3 → Nat) (Y : YT) (tl : Nat) (c : Int32)  (htl : Y (5, 0, 0) 0 = nI tl) (htl6 : tl ≤ 60) : CtY l G a yX8_addCode cX8_addCode 2 (some .int) ({ frames := 8, cells := 1, slots := 200, locals := 179 } : Room) [.ref (a (2, 0, 5)), .int c] Y (PI (fun r Y' => r = (if 32 ≤ c ∧ c ≤ 126 then (if tl = 60 then -10003 else nI (tl + 1)) else -10002) ∧ Y' = if 32 ≤ c ∧ c ≤ 126 then (if tl = 60 then Y else sbC Y 0 tl c) else Y)) := by
  refine CtY.of (by decide) rfl (Nat.le_of_ble_eq_true rfl) ?_
  intro X A C hl
  subst hl
  refine y_bipush (pc' := 2) rfl (v := 32) C dX8_addCode_0 (by decide) ?_
  refine y_iload_n (pc' := 3) rfl C dX8_addCode_2 rfl ?_
  refine y_bipush (pc' := 5) rfl (v := 126) C dX8_addCode_3 (by decide) ?_
  refine y_cSNi (pc' := 8) (k' := 0) (n' := 0) rfl C (c_X12_isFrom _ G a Y 32 c 126) my_X12_isFrom (nw_765) rfl rfl (Nat.le_of_ble_eq_true rfl) rfl dX8_addCode_5 rfl rfl (fun r_5 Y_5 hp_5 => ?_)
  obtain ⟨rfl, hY_5⟩ := hp_5
  have hY_5 := hY_5.symm; subst hY_5
  refine y_if_ne (pc' := 11) rfl (tgt := 15) C dX8_addCode_8 (by decide) (fun c_8 => ?_) (fun c_8 => ?_)
  · have h_8 := bi_n0 c_8
    obtain ⟨j, hj, hcj⟩ := rng_nI (m := 126) (by decide) (by decide) h_8
    refine y_aload_n (pc' := 16) rfl C dX8_addCode_15 rfl ?_
    refine y_get (pc' := 19) rfl (v := .ref (a (5, 0, 0))) C fl_X8_12 (v2 rfl) rfl rfl dX8_addCode_16 rfl ?_
    refine y_cVg (na := 0) (pc' := 22) (k' := 0) (n' := 0) rfl C (c_J4_length_8abf5 _ G a Y 0 tl (by decide) htl) ⟨aw_346, aw_26, ⟨by decide, by decide, by decide +kernel⟩, aw_344⟩ (C.ts _ aw_345) aw_343 (ry_sb C (by decide)) rfl rfl (Nat.le_of_ble_eq_true rfl) rfl dX8_addCode_19 rfl rfl (k_PI fun r_19 Y_19 hp_19 => ?_)
    obtain ⟨hr_19, hY_19⟩ := hp_19
    have hY_19 := hY_19.symm; subst hY_19
    refine y_bipush (pc' := 24) rfl (v := 60) C dX8_addCode_22 (by decide) ?_
    refine y_conv (L' := [some (.ref (a (2, 0, 5))), some (.int c)]) (st' := [.int 60, .int ((nI tl))]) (rfl) (by rw [hr_19]) ?_
    refine y_ic_lt (pc' := 27) rfl (tgt := 31) C dX8_addCode_24 (by decide) (fun c_24 => ?_) (fun c_24 => ?_)
    · have htl5 : tl < 60 := by have := (nI_ltI (b := 60) (by omega) (by decide)).mp c_24; exact this
      refine y_aload_n (pc' := 32) rfl C dX8_addCode_31 rfl ?_
      refine y_get (pc' := 35) rfl (v := .ref (a (5, 0, 0))) C fl_X8_12 (v2 rfl) rfl rfl dX8_addCode_32 rfl ?_
      refine y_iload_n (pc' := 36) rfl C dX8_addCode_35 rfl ?_
      refine y_i2c (pc' := 37) rfl C dX8_addCode_36 ?_
      refine y_conv (L' := [some (.ref (a (2, 0, 5))), some (.int c)]) (st' := [.int ((nI j)), .ref (a (5, 0, 0))]) (rfl) (by rw [hcj, chr_nI (by omega)]) ?_
      refine y_cVg (na := 1) (pc' := 40) (k' := 1) (n' := 200) rfl C (c_J4_append_cf468 _ G a Y 0 tl j (by decide) htl (by omega) (by omega)) ⟨aw_769, aw_26, ⟨by decide, by decide, by decide +kernel⟩, aw_767⟩ (C.ts _ aw_768) aw_766 (ry_sb C (by decide)) rfl rfl (Nat.le_of_ble_eq_true rfl) rfl dX8_addCode_37 rfl rfl (k_PR fun r_37 Y_37 hp_37 => ?_)
      obtain ⟨rfl, hY_37⟩ := hp_37
      refine y_pop (pc' := 41) rfl C dX8_addCode_40 rfl ?_
      refine y_aload_n (pc' := 42) rfl C dX8_addCode_41 rfl ?_
      refine y_get (pc' := 45) rfl (v := .ref (a (5, 0, 0))) C fl_X8_12 (v2 rfl) rfl rfl dX8_addCode_42 rfl ?_
      refine y_cVg (na := 0) (pc' := 48) (k' := 1) (n' := 200) rfl C (c_J4_length_8abf5 _ G a Y_37 0 (tl + 1) (by decide) (by rw [hY_37, sbC, setA_s, upd_s])) ⟨aw_346, aw_26, ⟨by decide, by decide, by decide +kernel⟩, aw_344⟩ (C.ts _ aw_345) aw_343 (ry_sb C (by decide)) rfl rfl (Nat.le_of_ble_eq_true rfl) rfl dX8_addCode_45 rfl rfl (k_PI fun r_45 Y_45 hp_45 => ?_)
      obtain ⟨hr_45, hY_45⟩ := hp_45
      have hY_45 := hY_45.symm; subst hY_45
      refine y_ireturn C rfl rfl dX8_addCode_48 rfl rfl ?_
      exact ⟨by rw [if_pos h_8, if_neg (by omega)]; exact hr_45, by rw [if_pos h_8, if_neg (by omega), hY_37, hcj]⟩
    · refine y_sipush (pc' := 30) rfl (v := (-10003)) C dX8_addCode_27 (by decide) ?_
      refine y_ireturn C rfl rfl dX8_addCode_30 rfl rfl ?_
      have e60 : tl = 60 := by have := nI_nlt_of c_24 (by omega); omega
      exact ⟨by rw [if_pos h_8, if_pos e60], by rw [if_pos h_8, if_pos e60]⟩
  · have h_8 := bi_0.mp c_8
    refine y_sipush (pc' := 14) rfl (v := (-10002)) C dX8_addCode_11 (by decide) ?_
    refine y_ireturn C rfl rfl dX8_addCode_14 rfl rfl ?_
    exact ⟨by rw [if_neg h_8], by rw [if_neg h_8]⟩
-- KilnKeeper.append 
set_option maxHeartbeats 1000000 in
set_option maxRecDepth 20000 in
theorem c_X12_append (l : Launch) (G : GT) (a : Id3 → Nat) (Y : YT) (tl : Nat) (c : Int32)  (htl : Y (5, 0, 0) 0 = nI tl) (htl6 : tl ≤ 60) : CtY l G a yX12_append cX12_append 2 (some .int) ({ frames := 9, cells := 1, slots := 200, locals := 200 } : Room) [.ref (a (2, 0, 0)), .int c] Y (PI (fun r Y' => r = (if 32 ≤ c ∧ c ≤ 126 then (if tl = 60 then -10003 else nI (tl + 1)) else -10002) ∧ Y' = if 32 ≤ c ∧ c ≤ 126 then (if tl = 60 then Y else sbC Y 0 tl c) else Y)) := by
  refine CtY.of (by decide) rfl (Nat.le_of_ble_eq_true rfl) ?_
  intro X A C hl
  subst hl
  refine y_aload_n (pc' := 1) rfl C dX12_append_0 rfl ?_
  refine y_get (pc' := 4) rfl (v := .ref (a (2, 0, 5))) C fl_X12_46 (v2 rfl) rfl rfl dX12_append_1 rfl ?_
  refine y_iload_n (pc' := 5) rfl C dX12_append_4 rfl ?_
  refine y_cVi (pc' := 8) (k' := 1) (n' := 200) rfl C (c_X8_addCode _ G a Y tl c htl htl6) my_X8_addCode aw_761 (v2 rfl) rfl rfl rfl rfl rfl (Nat.le_of_ble_eq_true rfl) rfl dX12_append_5 rfl rfl (fun r_5 Y_5 hp_5 => ?_)
  obtain ⟨hr_5, hY_5⟩ := hp_5
  refine y_ireturn C rfl rfl dX12_append_8 rfl rfl ?_
  exact ⟨hr_5, hY_5⟩
-- KilnKeeper.account 
set_option maxHeartbeats 1000000 in
set_option maxRecDepth 20000 in
theorem c_X12_account (l : Launch) (G : GT) (a : Id3 → Nat) (Y : YT) (tl np : Nat) (w : Int32)  (htl : Y (5, 0, 0) 0 = nI tl) (hc : Y (0, 0, 7) 0 = nI np) (hnp : np ≤ 8) : CtY l G a yX12_account cX12_account 2 (some .int) ({ frames := 3, cells := 0, slots := 0, locals := 66 } : Room) [.ref (a (2, 0, 0)), .int w] Y (PI (fun r Y' => r = (if w = 16 then nI tl else if w = 17 then Y (2, 0, 1) 0 else accK Y 0 np w) ∧ Y' = Y)) := by
  refine CtY.of (by decide) rfl (Nat.le_of_ble_eq_true rfl) ?_
  intro X A C hl
  subst hl
  refine y_iload_n (pc' := 1) rfl C dX12_account_0 rfl ?_
  by_cases h16 : w = 16
  · refine y_lookup (off := 27) (tgt := 28) C dX12_account_1 (by decide) (by rw [lk_acc, if_pos h16]) (by decide) ?_
    refine y_aload_n (pc' := 29) rfl C dX12_account_28 rfl ?_
    refine y_get (pc' := 32) rfl (v := .ref (a (2, 0, 5))) C fl_X12_46 (v2 rfl) rfl rfl dX12_account_29 rfl ?_
    refine y_cVi (pc' := 35) (k' := 0) (n' := 0) rfl C (c_X8_textLength _ G a Y tl htl) my_X8_textLength aw_339 (v2 rfl) rfl rfl rfl rfl rfl (Nat.le_of_ble_eq_true rfl) rfl dX12_account_32 rfl rfl (fun r_32 Y_32 hp_32 => ?_)
    obtain ⟨hr_32, hY_32⟩ := hp_32
    have hY_32 := hY_32.symm; subst hY_32
    refine y_ireturn C rfl rfl dX12_account_35 rfl rfl ?_
    exact ⟨by rw [if_pos h16]; exact hr_32, rfl⟩
  · by_cases h17 : w = 17
    · refine y_lookup (off := 35) (tgt := 36) C dX12_account_1 (by decide) (by rw [lk_acc, if_neg h16, if_pos h17]) (by decide) ?_
      refine y_aload_n (pc' := 37) rfl C dX12_account_36 rfl ?_
      refine y_get (pc' := 40) rfl (v := .ref (a (2, 0, 1))) C fl_X12_29 (v2 rfl) rfl rfl dX12_account_37 rfl ?_
      refine y_get (pc' := 43) rfl C fl_X12_223 (v2 rfl) rfl rfl dX12_account_40 rfl ?_
      refine y_ireturn C rfl rfl dX12_account_43 rfl rfl ?_
      exact ⟨by rw [if_neg h16, if_pos h17], rfl⟩
    · refine y_lookup (off := 43) (tgt := 44) C dX12_account_1 (by decide) (by rw [lk_acc, if_neg h16, if_neg h17]) (by decide) ?_
      refine y_aload_n (pc' := 45) rfl C dX12_account_44 rfl ?_
      refine y_get (pc' := 48) rfl (v := .ref (a (0, 0, 0))) C fl_X12_10 (v2 rfl) rfl rfl dX12_account_45 rfl ?_
      refine y_iload_n (pc' := 49) rfl C dX12_account_48 rfl ?_
      refine y_cVi (pc' := 52) (k' := 0) (n' := 0) rfl C (c_X3_accountOf _ G a Y 0 np w k0 hc hnp) my_X3_accountOf aw_350 (v0 k0 rfl) rfl rfl rfl rfl rfl (Nat.le_of_ble_eq_true rfl) rfl dX12_account_49 rfl rfl (fun r_49 Y_49 hp_49 => ?_)
      obtain ⟨rfl, hY_49⟩ := hp_49
      have hY_49 := hY_49.symm; subst hY_49
      refine y_ireturn C rfl rfl dX12_account_52 rfl rfl ?_
      exact ⟨by rw [if_neg h16, if_neg h17], rfl⟩
