
theorem nrem {x y : Int32} {m b : Nat} (hx : x = nI m) (hy : y = nI b) (hm : m < 2 ^ 31) (hb : b < 2 ^ 31) (h0 : 0 < b) : x - x / y * y = nI (m % b) := by
  subst hx hy
  exact pk_rem hm h0 hb
theorem inj_nI {p q : Nat} (hp : p < 2 ^ 31) (hq : q < 2 ^ 31) (h : nI p = nI q) : p = q := by
  have e := congrArg nn h
  rw [nn_nI hp, nn_nI hq] at e
  exact e
theorem ne21 {i : Id3} (h : i.1 ≤ 1) {b : Nat} : i ≠ (2, 0, b) := fun q => by rw [q] at h; exact absurd h (show ¬ (2 : Nat) ≤ 1 by decide)
/-- the ring of changes: the new place -/
def rg (c st : Nat) : Nat × Nat := if c = 8 then (7, (st + 1) % 8) else (c, st)
theorem rg_lt {c st : Nat} (hc : c ≤ 8) (hs : st < 8) : (rg c st).1 < 8 ∧ (rg c st).2 < 8 := by
  unfold rg
  split
  · exact ⟨(by decide : (7 : Nat) < 8), Nat.mod_lt _ (by decide)⟩
  · exact ⟨by show c < 8; omega, hs⟩
theorem in_TX2 : ∀ w ∈ u_ws RX2 TX2 3, w ∈ AW := List.forall_mem_cons.mpr ⟨aw_219, List.forall_mem_cons.mpr ⟨aw_221, List.forall_mem_cons.mpr ⟨aw_223, fun _ h => absurd h List.not_mem_nil⟩⟩⟩
theorem fl_X2_9 : FLK "KilnKeeper$Changes" 9 2 0 := ⟨RX2, TX2, 3, rfl, by decide, aw_215, in_TX2⟩
theorem fl_X2_15 : FLK "KilnKeeper$Changes" 15 2 1 := ⟨RX2, TX2, 3, rfl, by decide, aw_217, in_TX2⟩
theorem fl_X2_20 : FLK "KilnKeeper$Changes" 20 2 2 := ⟨RX2, TX2, 3, rfl, by decide, aw_218, in_TX2⟩
theorem fp_X2_9 : FLP "KilnKeeper$Changes" 9 2 0 .int false := ⟨RX2, TX2, 3, tyX2, rfl, by decide, aw_215, in_TX2, tyX2_ok, nmX2, rfl, rfl, fun h => by first | exact rfl | cases h⟩
theorem fp_X2_15 : FLP "KilnKeeper$Changes" 15 2 1 .int false := ⟨RX2, TX2, 3, tyX2, rfl, by decide, aw_217, in_TX2, tyX2_ok, nmX2, rfl, rfl, fun h => by first | exact rfl | cases h⟩
theorem my_X2_kilnAt : MV yX2_kilnAt cX2_kilnAt 3 (some (.object "KilnKeeper$Kiln")) 1 := ⟨aw_438, aw_22, ⟨by decide, by decide, by decide +kernel⟩, aw_437, aw_2⟩
theorem my_X3_copyFrom : MV yX3_copyFrom cX3_copyFrom 2 none 1 := ⟨aw_391, aw_16, ⟨by decide, by decide, by decide +kernel⟩, aw_389, aw_390⟩
-- KilnKeeper$Changes.kilnAt 
set_option maxHeartbeats 1000000 in
set_option maxRecDepth 20000 in
theorem c_X2_kilnAt (l : Launch) (G : GT) (a : Id3 → Nat) (Y : YT) (st p : Nat)  (hst : Y (2, 0, 1) 1 = nI st) (hst8 : st < 8) (hp : p < 9) : CtY l G a yX2_kilnAt cX2_kilnAt 3 (some (.object "KilnKeeper$Kiln")) ({ frames := 0, cells := 0, slots := 0, locals := 0 } : Room) [.ref (a (2, 0, 1)), .int (nI p)] Y (PR (fun r Y' => r = .ref (a (0, 3 + (st + p) % 8, 0)) ∧ Y' = Y)) := by
  refine CtY.of (by decide) rfl (Nat.le_of_ble_eq_true rfl) ?_
  intro X A C hl
  subst hl
  have hm8 : (st + p) % 8 < 8 := Nat.mod_lt _ (by decide)
  refine y_aload_n (pc' := 1) rfl C dX2_kilnAt_0 rfl ?_
  refine y_get (pc' := 4) rfl C fl_X2_15 (v2 rfl) rfl rfl dX2_kilnAt_1 rfl ?_
  refine y_iload_n (pc' := 5) rfl C dX2_kilnAt_4 rfl ?_
  refine y_iadd (pc' := 6) rfl C dX2_kilnAt_5 ?_
  refine y_bipush (pc' := 8) rfl (v := 8) C dX2_kilnAt_6 (by decide) ?_
  refine y_irem (pc' := 9) rfl C dX2_kilnAt_8 (by decide) ?_
  refine y_istore_n (pc' := 10) rfl C dX2_kilnAt_9 (by decide) ?_
  refine y_conv (L' := [some (.ref (a (2, 0, 1))), some (.int ((nI p))), some (.int ((nI ((st + p) % 8))))]) (st' := []) (by rw [nrem (nadd hst rfl) (show (8 : Int32) = nI 8 from rfl) (by omega) (by decide) (by decide)]; rfl) (rfl) ?_
  refine y_iload_n (pc' := 11) rfl C dX2_kilnAt_10 rfl ?_
  refine y_if_lt (pc' := 14) rfl (tgt := 32) C dX2_kilnAt_11 (by decide) (fun c_11 => ?_) (fun c_11 => ?_)
  · exact absurd c_11 (Int32.not_lt.mpr (nI_pos' (by omega)))
  · refine y_iload_n (pc' := 15) rfl C dX2_kilnAt_14 rfl ?_
    refine y_aload_n (pc' := 16) rfl C dX2_kilnAt_15 rfl ?_
    refine y_get (pc' := 19) rfl (v := .ref (a (2, 0, 2))) C fl_X2_20 (v2 rfl) rfl rfl dX2_kilnAt_16 rfl ?_
    refine y_alenQ (pc' := 20) rfl C (v2 rfl) rfl rfl rfl dX2_kilnAt_19 ?_
    refine y_ic_ge (pc' := 23) rfl (tgt := 32) C dX2_kilnAt_20 (by decide) (fun c_20 => ?_) (fun c_20 => ?_)
    · exact absurd c_20 (nI_ge (by omega) (by decide))
    · refine y_aload_n (pc' := 24) rfl C dX2_kilnAt_23 rfl ?_
      refine y_get (pc' := 27) rfl (v := .ref (a (2, 0, 2))) C fl_X2_20 (v2 rfl) rfl rfl dX2_kilnAt_24 rfl ?_
      refine y_iload_n (pc' := 28) rfl C dX2_kilnAt_27 rfl ?_
      refine y_aaldN (pc' := 29) rfl C ((st + p) % 8) rfl (v2 rfl) rfl rfl rfl (show ((st + p) % 8) < 8 by omega) rfl dX2_kilnAt_28 ?_
      refine y_goto (tgt := 33) C dX2_kilnAt_29 (by decide) ?_
      refine y_areturn C rfl (Or.inl ⟨_, rfl⟩) (Or.inr ⟨_, rfl⟩) dX2_kilnAt_33 rfl rfl ?_
      exact ⟨rfl, rfl⟩
-- KilnKeeper$Changes.keep 
set_option maxHeartbeats 1000000 in
set_option maxRecDepth 20000 in
theorem c_X2_keep (l : Launch) (G : GT) (a : Id3 → Nat) (Y : YT) (c st n : Nat) (s : Nat → Int32)  (hc : Y (2, 0, 1) 0 = nI c) (hc8' : c ≤ 8) (hst : Y (2, 0, 1) 1 = nI st) (hst8 : st < 8) (hR : RKi Y 1 s) (hI : MB s n) : CtY l G a yX2_keep cX2_keep 3 none ({ frames := 3, cells := 0, slots := 0, locals := 66 } : Room) [.ref (a (2, 0, 1)), .ref (a (0, 1, 0))] Y (PV (fun Y' => Y' (2, 0, 1) 0 = nI ((rg c st).1 + 1) ∧ Y' (2, 0, 1) 1 = nI (rg c st).2 ∧ RKi Y' (3 + ((rg c st).2 + (rg c st).1) % 8) s ∧ ∀ i : Id3, ¬ (i.1 ≤ 1 ∧ i.2.1 = 3 + ((rg c st).2 + (rg c st).1) % 8) → i ≠ (2, 0, 1) → Y' i = Y i)) := by
  refine CtY.of (by decide) rfl (Nat.le_of_ble_eq_true rfl) ?_
  intro X A C hl
  subst hl
  refine y_aload_n (pc' := 1) rfl C dX2_keep_0 rfl ?_
  refine y_get (pc' := 4) rfl C fl_X2_9 (v2 rfl) rfl rfl dX2_keep_1 rfl ?_
  refine y_bipush (pc' := 6) rfl (v := 8) C dX2_keep_4 (by decide) ?_
  refine y_ic_ne (pc' := 9) rfl (tgt := 32) C dX2_keep_6 (by decide) (fun c_6 => ?_) (fun c_6 => ?_)
  · have hc8 : ¬ c = 8 := fun q => c_6 (by rw [hc, q]; rfl)
    have hrg : rg c st = (c, st) := if_neg hc8
    have hrg1 : (rg c st).1 = c := by rw [hrg]
    have hrg2 : (rg c st).2 = st := by rw [hrg]
    have w0 : Y (2, 0, 1) 0 = nI (rg c st).1 := by rw [hrg1]; exact hc
    have w1 : Y (2, 0, 1) 1 = nI (rg c st).2 := by rw [hrg2]; exact hst
    have wf : ∀ i : Id3, i ≠ (2, 0, 1) → Y i = Y i := fun _ _ => rfl
    refine y_aload_n (pc' := 33) rfl C dX2_keep_32 rfl ?_
    refine y_aload_n (pc' := 34) rfl C dX2_keep_33 rfl ?_
    refine y_get (pc' := 37) rfl C fl_X2_9 (v2 rfl) rfl rfl dX2_keep_34 rfl ?_
    refine y_conv (L' := [some (.ref (a (2, 0, 1))), some (.ref (a (0, 1, 0))), none]) (st' := [.int ((nI (rg c st).1)), .ref (a (2, 0, 1))]) (rfl) (by rw [w0]; rfl) ?_
    refine y_cVr (pc' := 40) (k' := 0) (n' := 0) rfl C (c_X2_kilnAt _ G a Y (rg c st).2 (rg c st).1 w1 (rg_lt hc8' hst8).2 (by have := (rg_lt hc8' hst8).1; omega)) my_X2_kilnAt aw_435 (v2 rfl) rfl rfl rfl rfl rfl (Nat.le_of_ble_eq_true rfl) rfl dX2_keep_37 rfl rfl (fun r_37 Y_37 hp_37 => ?_)
    obtain ⟨rfl, hY_37⟩ := hp_37
    have hY_37 := hY_37.symm; subst hY_37
    refine y_astore_n (pc' := 41) rfl C dX2_keep_40 (by decide) ?_
    refine y_aload_n (pc' := 42) rfl C dX2_keep_41 rfl ?_
    refine y_ifnull (pc' := 45) rfl C dX2_keep_42 ?_
    refine y_aload_n (pc' := 46) rfl C dX2_keep_45 rfl ?_
    refine y_aload_n (pc' := 47) rfl C dX2_keep_46 rfl ?_
    refine y_cVv (pc' := 50) (k' := 0) (n' := 0) rfl C (c_X3_copyFrom _ G a Y (3 + ((rg c st).2 + (rg c st).1) % 8) 1 n s (k3 (Nat.mod_lt _ (by decide))) k1 (by omega) (hR.congr (fun i h1 _ => wf i (ne21 h1))) hI) my_X3_copyFrom aw_439 (v0 (k3 (Nat.mod_lt _ (by decide))) rfl) rfl rfl rfl rfl rfl (Nat.le_of_ble_eq_true rfl) rfl dX2_keep_47 rfl rfl (fun Y_47 hY_47 => ?_)
    refine y_aload_n (pc' := 51) rfl C dX2_keep_50 rfl ?_
    refine y_dup (pc' := 52) rfl C dX2_keep_51 rfl ?_
    refine y_get (pc' := 55) rfl C fl_X2_9 (v2 rfl) rfl rfl dX2_keep_52 rfl ?_
    refine y_iconst (pc' := 56) rfl (v := 1) C dX2_keep_55 (by decide) ?_
    refine y_iadd (pc' := 57) rfl C dX2_keep_56 ?_
    refine y_put (pc' := 60) rfl C fp_X2_9 (v2 rfl) rfl rfl dX2_keep_57 rfl (fun Z57 hZ57 => ?_)
    refine y_return C rfl dX2_keep_60 rfl rfl ?_
    have hlt := rg_lt hc8' hst8
    have x0 : Y_47 (2, 0, 1) = Y (2, 0, 1) := hY_47.2 _ (fun q => absurd q.1 (by decide))
    refine ⟨by rw [hZ57, up_s, upd_s, x0, w0]; exact nI_add _ 1, by rw [hZ57, up_s, upd_n (by decide), x0, w1], hY_47.1.congr (fun i h1 _ => by rw [hZ57, up_n (ne21 h1)]), fun i hi hn => ?_⟩
    rw [hZ57, up_n hn, hY_47.2 i hi, wf i hn]
  · refine y_aload_n (pc' := 10) rfl C dX2_keep_9 rfl ?_
    refine y_aload_n (pc' := 11) rfl C dX2_keep_10 rfl ?_
    refine y_get (pc' := 14) rfl C fl_X2_15 (v2 rfl) rfl rfl dX2_keep_11 rfl ?_
    refine y_iconst (pc' := 15) rfl (v := 1) C dX2_keep_14 (by decide) ?_
    refine y_iadd (pc' := 16) rfl C dX2_keep_15 ?_
    refine y_bipush (pc' := 18) rfl (v := 8) C dX2_keep_16 (by decide) ?_
    refine y_irem (pc' := 19) rfl C dX2_keep_18 (by decide) ?_
    refine y_put (pc' := 22) rfl C fp_X2_15 (v2 rfl) rfl rfl dX2_keep_19 rfl (fun Z19 hZ19 => ?_)
    refine y_aload_n (pc' := 23) rfl C dX2_keep_22 rfl ?_
    refine y_dup (pc' := 24) rfl C dX2_keep_23 rfl ?_
    refine y_get (pc' := 27) rfl C fl_X2_9 (v2 rfl) rfl rfl dX2_keep_24 rfl ?_
    refine y_iconst (pc' := 28) rfl (v := 1) C dX2_keep_27 (by decide) ?_
    refine y_isub (pc' := 29) rfl C dX2_keep_28 ?_
    refine y_put (pc' := 32) rfl C fp_X2_9 (v2 rfl) rfl rfl dX2_keep_29 rfl (fun Z29 hZ29 => ?_)
    have hc8 : c = 8 := inj_nI (by omega) (by decide) (hc.symm.trans c_6)
    have hrg : rg c st = (7, (st + 1) % 8) := if_pos hc8
    have hrg1 : (rg c st).1 = 7 := by rw [hrg]
    have hrg2 : (rg c st).2 = (st + 1) % 8 := by rw [hrg]
    have w0 : Z29 (2, 0, 1) 0 = nI (rg c st).1 := by rw [hrg1, hZ29, up_s, upd_s, hZ19, up_s, upd_n (by decide), hc, hc8]; rfl
    have w1 : Z29 (2, 0, 1) 1 = nI (rg c st).2 := by rw [hrg2, hZ29, up_s, upd_n (by decide), hZ19, up_s, upd_s]; exact nrem (nadd hst rfl) (show (8 : Int32) = nI 8 from rfl) (by omega) (by decide) (by decide)
    have wf : ∀ i : Id3, i ≠ (2, 0, 1) → Z29 i = Y i := fun i hi => by rw [hZ29, up_n hi, hZ19, up_n hi]
    refine y_aload_n (pc' := 33) rfl C dX2_keep_32 rfl ?_
    refine y_aload_n (pc' := 34) rfl C dX2_keep_33 rfl ?_
    refine y_get (pc' := 37) rfl C fl_X2_9 (v2 rfl) rfl rfl dX2_keep_34 rfl ?_
    refine y_conv (L' := [some (.ref (a (2, 0, 1))), some (.ref (a (0, 1, 0))), none]) (st' := [.int ((nI (rg c st).1)), .ref (a (2, 0, 1))]) (rfl) (by rw [w0]; rfl) ?_
    refine y_cVr (pc' := 40) (k' := 0) (n' := 0) rfl C (c_X2_kilnAt _ G a Z29 (rg c st).2 (rg c st).1 w1 (rg_lt hc8' hst8).2 (by have := (rg_lt hc8' hst8).1; omega)) my_X2_kilnAt aw_435 (v2 rfl) rfl rfl rfl rfl rfl (Nat.le_of_ble_eq_true rfl) rfl dX2_keep_37 rfl rfl (fun r_37 Y_37 hp_37 => ?_)
    obtain ⟨rfl, hY_37⟩ := hp_37
    have hY_37 := hY_37.symm; subst hY_37
    refine y_astore_n (pc' := 41) rfl C dX2_keep_40 (by decide) ?_
    refine y_aload_n (pc' := 42) rfl C dX2_keep_41 rfl ?_
    refine y_ifnull (pc' := 45) rfl C dX2_keep_42 ?_
    refine y_aload_n (pc' := 46) rfl C dX2_keep_45 rfl ?_
    refine y_aload_n (pc' := 47) rfl C dX2_keep_46 rfl ?_
    refine y_cVv (pc' := 50) (k' := 0) (n' := 0) rfl C (c_X3_copyFrom _ G a Z29 (3 + ((rg c st).2 + (rg c st).1) % 8) 1 n s (k3 (Nat.mod_lt _ (by decide))) k1 (by omega) (hR.congr (fun i h1 _ => wf i (ne21 h1))) hI) my_X3_copyFrom aw_439 (v0 (k3 (Nat.mod_lt _ (by decide))) rfl) rfl rfl rfl rfl rfl (Nat.le_of_ble_eq_true rfl) rfl dX2_keep_47 rfl rfl (fun Y_47 hY_47 => ?_)
    refine y_aload_n (pc' := 51) rfl C dX2_keep_50 rfl ?_
    refine y_dup (pc' := 52) rfl C dX2_keep_51 rfl ?_
    refine y_get (pc' := 55) rfl C fl_X2_9 (v2 rfl) rfl rfl dX2_keep_52 rfl ?_
    refine y_iconst (pc' := 56) rfl (v := 1) C dX2_keep_55 (by decide) ?_
    refine y_iadd (pc' := 57) rfl C dX2_keep_56 ?_
    refine y_put (pc' := 60) rfl C fp_X2_9 (v2 rfl) rfl rfl dX2_keep_57 rfl (fun Z57 hZ57 => ?_)
    refine y_return C rfl dX2_keep_60 rfl rfl ?_
    have hlt := rg_lt hc8' hst8
    have x0 : Y_47 (2, 0, 1) = Z29 (2, 0, 1) := hY_47.2 _ (fun q => absurd q.1 (by decide))
    refine ⟨by rw [hZ57, up_s, upd_s, x0, w0]; exact nI_add _ 1, by rw [hZ57, up_s, upd_n (by decide), x0, w1], hY_47.1.congr (fun i h1 _ => by rw [hZ57, up_n (ne21 h1)]), fun i hi hn => ?_⟩
    rw [hZ57, up_n hn, hY_47.2 i hi, wf i hn]
-- KilnKeeper$Changes.takeBack 
set_option maxHeartbeats 1000000 in
set_option maxRecDepth 20000 in
theorem c_X2_takeBack (l : Launch) (G : GT) (a : Id3 → Nat) (Y : YT) (c st n : Nat) (s : Nat → Int32)  (hc : Y (2, 0, 1) 0 = nI c) (hc8' : c ≤ 8) (hst : Y (2, 0, 1) 1 = nI st) (hst8 : st < 8) (hR : c ≠ 0 → RKi Y (3 + (st + (c - 1)) % 8) s) (hI : MB s n) : CtY l G a yX2_takeBack cX2_takeBack 3 (some .int) ({ frames := 3, cells := 0, slots := 0, locals := 66 } : Room) [.ref (a (2, 0, 1)), .ref (a (0, 0, 0))] Y (PI (fun r Y' => (c = 0 → r = -10005 ∧ Y' = Y) ∧ (c ≠ 0 → r = nI (c - 1) ∧ Y' (2, 0, 1) 0 = nI (c - 1) ∧ Y' (2, 0, 1) 1 = nI st ∧ RKi Y' 0 s ∧ ∀ i : Id3, ¬ (i.1 ≤ 1 ∧ i.2.1 = 0) → i ≠ (2, 0, 1) → Y' i = Y i))) := by
  refine CtY.of (by decide) rfl (Nat.le_of_ble_eq_true rfl) ?_
  intro X A C hl
  subst hl
  refine y_aload_n (pc' := 1) rfl C dX2_takeBack_0 rfl ?_
  refine y_get (pc' := 4) rfl C fl_X2_9 (v2 rfl) rfl rfl dX2_takeBack_1 rfl ?_
  refine y_if_ne (pc' := 7) rfl (tgt := 11) C dX2_takeBack_4 (by decide) (fun c_4 => ?_) (fun c_4 => ?_)
  · refine y_aload_n (pc' := 12) rfl C dX2_takeBack_11 rfl ?_
    refine y_dup (pc' := 13) rfl C dX2_takeBack_12 rfl ?_
    refine y_get (pc' := 16) rfl C fl_X2_9 (v2 rfl) rfl rfl dX2_takeBack_13 rfl ?_
    refine y_iconst (pc' := 17) rfl (v := 1) C dX2_takeBack_16 (by decide) ?_
    refine y_isub (pc' := 18) rfl C dX2_takeBack_17 ?_
    refine y_put (pc' := 21) rfl C fp_X2_9 (v2 rfl) rfl rfl dX2_takeBack_18 rfl (fun Z18 hZ18 => ?_)
    have hc0 : c ≠ 0 := fun q => c_4 (by rw [hc, q]; rfl)
    have w0 : Z18 (2, 0, 1) 0 = nI (c - 1) := by rw [hZ18, up_s, upd_s, hc]; exact pk_sub (b := 1) (by omega)
    have wf : ∀ i : Id3, i ≠ (2, 0, 1) → Z18 i = Y i := fun i hi => by rw [hZ18, up_n hi]
    refine y_aload_n (pc' := 22) rfl C dX2_takeBack_21 rfl ?_
    refine y_aload_n (pc' := 23) rfl C dX2_takeBack_22 rfl ?_
    refine y_get (pc' := 26) rfl C fl_X2_9 (v2 rfl) rfl rfl dX2_takeBack_23 rfl ?_
    refine y_conv (L' := [some (.ref (a (2, 0, 1))), some (.ref (a (0, 0, 0))), none]) (st' := [.int ((nI (c - 1))), .ref (a (2, 0, 1))]) (rfl) (by rw [w0]; rfl) ?_
    refine y_cVr (pc' := 29) (k' := 0) (n' := 0) rfl C (c_X2_kilnAt _ G a Z18 st (c - 1) (by rw [hZ18, up_s, upd_n (by decide)]; exact hst) hst8 (by omega)) my_X2_kilnAt aw_435 (v2 rfl) rfl rfl rfl rfl rfl (Nat.le_of_ble_eq_true rfl) rfl dX2_takeBack_26 rfl rfl (fun r_26 Y_26 hp_26 => ?_)
    obtain ⟨rfl, hY_26⟩ := hp_26
    have hY_26 := hY_26.symm; subst hY_26
    refine y_astore_n (pc' := 30) rfl C dX2_takeBack_29 (by decide) ?_
    refine y_aload_n (pc' := 31) rfl C dX2_takeBack_30 rfl ?_
    refine y_ifnull (pc' := 34) rfl C dX2_takeBack_31 ?_
    refine y_aload_n (pc' := 35) rfl C dX2_takeBack_34 rfl ?_
    refine y_aload_n (pc' := 36) rfl C dX2_takeBack_35 rfl ?_
    refine y_cVv (pc' := 39) (k' := 0) (n' := 0) rfl C (c_X3_copyFrom _ G a Z18 0 (3 + (st + (c - 1)) % 8) n s k0 (k3 (Nat.mod_lt _ (by decide))) (by omega) ((hR hc0).congr (fun i h1 _ => wf i (ne21 h1))) hI) my_X3_copyFrom aw_439 (v0 k0 rfl) rfl rfl rfl rfl rfl (Nat.le_of_ble_eq_true rfl) rfl dX2_takeBack_36 rfl rfl (fun Y_36 hY_36 => ?_)
    refine y_aload_n (pc' := 40) rfl C dX2_takeBack_39 rfl ?_
    refine y_get (pc' := 43) rfl C fl_X2_9 (v2 rfl) rfl rfl dX2_takeBack_40 rfl ?_
    refine y_ireturn C rfl rfl dX2_takeBack_43 rfl rfl ?_
    have x0 : Y_36 (2, 0, 1) = Z18 (2, 0, 1) := hY_36.2 _ (fun q => absurd q.1 (by decide))
    refine ⟨fun h => absurd h hc0, fun _ => ⟨by rw [x0, w0], by rw [x0, w0], by rw [x0, hZ18, up_s, upd_n (by decide)]; exact hst, hY_36.1, fun i hi hn => ?_⟩⟩
    rw [hY_36.2 i hi, wf i hn]
  · refine y_sipush (pc' := 10) rfl (v := (-10005)) C dX2_takeBack_7 (by decide) ?_
    refine y_ireturn C rfl rfl dX2_takeBack_10 rfl rfl ?_
    exact ⟨fun h => ⟨rfl, rfl⟩, fun h => absurd (by rw [hc] at c_4; exact inj_nI (by omega) (by decide) c_4) h⟩
