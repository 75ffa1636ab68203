
def pot0 (y : Nat → Int32) (s n t : Int32) : Nat → Int32 := upd (upd (upd (upd (upd (upd (upd y 0 s) 1 n) 2 t) 3 0) 4 0) 5 0) 6 0
def pM1 (y : Nat → Int32) (j : Int32) : Nat → Int32 := upd y 6 (if y 6 < j then j else y 6)
def pM2 (y : Nat → Int32) (d : Int32) : Nat → Int32 := if d < y 1 then y else upd y 4 (y 4 + 1)
def pMin (y : Nat → Int32) (d j : Int32) : Nat → Int32 :=
  if y 3 = 1 then (if pM1 y j 0 < j then upd (pM1 y j) 3 3 else if d - pM1 y j 1 ≤ 80 then (if pM2 (pM1 y j) d 4 < pM2 (pM1 y j) d 2 then pM2 (pM1 y j) d else upd (pM2 (pM1 y j) d) 3 2) else upd (pM1 y j) 3 3) else y
def ahP (y z : Nat → Int32) : Int32 := if y 2 - y 4 < z 2 - z 4 then 1 else if y 2 - y 4 = z 2 - z 4 then (if y 1 ≤ z 1 then 0 else 1) else 0
theorem ahP_b (y z : Nat → Int32) : isb (ahP y z) := by
  unfold ahP
  split
  · exact Or.inr rfl
  · split
    · split
      · exact Or.inl rfl
      · exact Or.inr rfl
    · exact Or.inl rfl
def numP7 (y : Nat → Int32) (w : Int32) : Int32 := if w = 0 then y 0 else if w = 1 then y 1 else if w = 2 then y 2 else if w = 3 then y 3 else if w = 4 then y 4 else if w = 5 then (if y 5 = 0 then 0 else 1) else if w = 6 then y 6 else -10002
/-- pots anew, the first n -/
def potG (g : Nat → Nat → Int32) (Y : YT) (k n : Nat) : YT := fun i => if i.1 = 1 ∧ i.2.1 = k ∧ i.2.2 < n then g i.2.2 else Y i
theorem potG_0 (g : Nat → Nat → Int32) (Y : YT) (k : Nat) : potG g Y k 0 = Y := by
  funext i
  rw [potG, if_neg (by omega)]
theorem potG_s (g : Nat → Nat → Int32) (Y : YT) (k n : Nat) : setA (potG g Y k n) (1, k, n) (g n) = potG g Y k (n + 1) := by
  funext i
  unfold potG
  by_cases e : i = (1, k, n)
  · subst e
    rw [setA_s, if_pos ⟨rfl, rfl, Nat.lt_succ_self n⟩]
  · rw [setA_n e]
    obtain ⟨i1, i2, i3⟩ := i
    show (if i1 = 1 ∧ i2 = k ∧ i3 < n then g i3 else Y (i1, i2, i3)) = if i1 = 1 ∧ i2 = k ∧ i3 < n + 1 then g i3 else Y (i1, i2, i3)
    by_cases h : i1 = 1 ∧ i2 = k ∧ i3 < n
    · rw [if_pos h, if_pos ⟨h.1, h.2.1, by omega⟩]
    · rw [if_neg h, if_neg (fun q => h ⟨q.1, q.2.1, by
        have h3 : i3 ≠ n := fun z => e (by rw [q.1, q.2.1, z])
        have := q.2.2
        omega⟩)]
theorem potG_lt {g : Nat → Nat → Int32} {Y : YT} {k n i : Nat} (h : i < n) : potG g Y k n (1, k, i) = g i := by rw [potG, if_pos ⟨rfl, rfl, h⟩]
theorem potG_ge {g : Nat → Nat → Int32} {Y : YT} {k n i : Nat} (h : n ≤ i) : potG g Y k n (1, k, i) = Y (1, k, i) := by rw [potG, if_neg (fun q => by have := q.2.2; simp only at this; omega)]
theorem potG_n {g : Nat → Nat → Int32} {Y : YT} {k n : Nat} {i : Id3} (h : ¬ (i.1 = 1 ∧ i.2.1 = k)) : potG g Y k n i = Y i := by rw [potG, if_neg (fun q => h ⟨q.1, q.2.1⟩)]
def mnK (Y : YT) (k : Nat) (st : Int32) : Nat → Int32
  | 0 => 0
  | n + 1 => if Y (1, k, n) 3 = st then mnK Y k st n + 1 else mnK Y k st n
def wiK (Y : YT) (k : Nat) : Nat → Int32
  | 0 => 0
  | n + 1 => if Y (1, k, n) 5 = 0 then wiK Y k n else wiK Y k n + 1
def crK (Y : YT) (k : Nat) : Nat → Int32
  | 0 => 0
  | n + 1 => if Y (1, k, n) 3 = 3 then crK Y k n ||| ((1 : Int32) <<< (nI n &&& 31)) else crK Y k n
def soK (Y : YT) (k : Nat) : Nat → Int32
  | 0 => 1
  | n + 1 => if Y (1, k, n) 4 ≤ Y (1, k, n) 2 then soK Y k n else 0
theorem in_TX6 : ∀ w ∈ u_ws RX6 TX6 7, w ∈ AW := List.forall_mem_cons.mpr ⟨aw_152, List.forall_mem_cons.mpr ⟨aw_154, List.forall_mem_cons.mpr ⟨aw_156, List.forall_mem_cons.mpr ⟨aw_158, List.forall_mem_cons.mpr ⟨aw_160, List.forall_mem_cons.mpr ⟨aw_162, List.forall_mem_cons.mpr ⟨aw_164, fun _ h => absurd h List.not_mem_nil⟩⟩⟩⟩⟩⟩⟩
theorem in_TX7 : ∀ w ∈ u_ws RX7 TX7 2, w ∈ AW := List.forall_mem_cons.mpr ⟨aw_171, List.forall_mem_cons.mpr ⟨aw_173, fun _ h => absurd h List.not_mem_nil⟩⟩
theorem fl_X6_9 : FLK "KilnKeeper$Pot" 9 6 0 := ⟨RX6, TX6, 7, rfl, by decide, aw_140, in_TX6⟩
theorem fl_X6_15 : FLK "KilnKeeper$Pot" 15 6 1 := ⟨RX6, TX6, 7, rfl, by decide, aw_141, in_TX6⟩
theorem fl_X6_18 : FLK "KilnKeeper$Pot" 18 6 2 := ⟨RX6, TX6, 7, rfl, by decide, aw_142, in_TX6⟩
theorem fl_X6_21 : FLK "KilnKeeper$Pot" 21 6 3 := ⟨RX6, TX6, 7, rfl, by decide, aw_144, in_TX6⟩
theorem fl_X6_24 : FLK "KilnKeeper$Pot" 24 6 4 := ⟨RX6, TX6, 7, rfl, by decide, aw_147, in_TX6⟩
theorem fl_X6_27 : FLK "KilnKeeper$Pot" 27 6 5 := ⟨RX6, TX6, 7, rfl, by decide, aw_149, in_TX6⟩
theorem fl_X6_31 : FLK "KilnKeeper$Pot" 31 6 6 := ⟨RX6, TX6, 7, rfl, by decide, aw_151, in_TX6⟩
theorem fl_X7_9 : FLK "KilnKeeper$Rack" 9 7 0 := ⟨RX7, TX7, 2, rfl, by decide, aw_167, in_TX7⟩
theorem fl_X7_17 : FLK "KilnKeeper$Rack" 17 7 1 := ⟨RX7, TX7, 2, rfl, by decide, aw_170, in_TX7⟩
theorem fl_X7_44 : FLK "KilnKeeper$Rack" 44 6 3 := ⟨RX6, TX6, 7, rfl, by decide, aw_145, in_TX6⟩
theorem fl_X7_51 : FLK "KilnKeeper$Rack" 51 6 5 := ⟨RX6, TX6, 7, rfl, by decide, aw_150, in_TX6⟩
theorem fp_X6_9 : FLP "KilnKeeper$Pot" 9 6 0 .int false := ⟨RX6, TX6, 7, tyX6, rfl, by decide, aw_140, in_TX6, tyX6_ok, nmX6, rfl, rfl, fun h => by first | exact rfl | cases h⟩
theorem fp_X6_15 : FLP "KilnKeeper$Pot" 15 6 1 .int false := ⟨RX6, TX6, 7, tyX6, rfl, by decide, aw_141, in_TX6, tyX6_ok, nmX6, rfl, rfl, fun h => by first | exact rfl | cases h⟩
theorem fp_X6_18 : FLP "KilnKeeper$Pot" 18 6 2 .int false := ⟨RX6, TX6, 7, tyX6, rfl, by decide, aw_142, in_TX6, tyX6_ok, nmX6, rfl, rfl, fun h => by first | exact rfl | cases h⟩
theorem fp_X6_21 : FLP "KilnKeeper$Pot" 21 6 3 .int false := ⟨RX6, TX6, 7, tyX6, rfl, by decide, aw_144, in_TX6, tyX6_ok, nmX6, rfl, rfl, fun h => by first | exact rfl | cases h⟩
theorem fp_X6_24 : FLP "KilnKeeper$Pot" 24 6 4 .int false := ⟨RX6, TX6, 7, tyX6, rfl, by decide, aw_147, in_TX6, tyX6_ok, nmX6, rfl, rfl, fun h => by first | exact rfl | cases h⟩
theorem fp_X6_27 : FLP "KilnKeeper$Pot" 27 6 5 .boolean false := ⟨RX6, TX6, 7, tyX6, rfl, by decide, aw_149, in_TX6, tyX6_ok, nmX6, rfl, rfl, fun h => by first | exact rfl | cases h⟩
theorem fp_X6_31 : FLP "KilnKeeper$Pot" 31 6 6 .int false := ⟨RX6, TX6, 7, tyX6, rfl, by decide, aw_151, in_TX6, tyX6_ok, nmX6, rfl, rfl, fun h => by first | exact rfl | cases h⟩
theorem my_X7_find : MV yX7_find cX7_find 2 (some (.object "KilnKeeper$Pot")) 1 := ⟨aw_365, aw_20, ⟨by decide, by decide, by decide +kernel⟩, aw_363, aw_364⟩
-- KilnKeeper$Pot.copyFrom 
set_option maxHeartbeats 1000000 in
set_option maxRecDepth 20000 in
theorem c_X6_copyFrom (l : Launch) (G : GT) (a : Id3 → Nat) (Y : YT) (k j k2 : Nat)  (hk : k < 11) (hj : j < 8) (hk2 : k2 < 11) (hkk : k ≠ k2) : CtY l G a yX6_copyFrom cX6_copyFrom 2 none ({ frames := 0, cells := 0, slots := 0, locals := 0 } : Room) [.ref (a (1, k, j)), .ref (a (1, k2, j))] Y (PV (fun Y' => Y' = setA Y (1, k, j) (fil (Y (1, k2, j)) (Y (1, k, j)) 7))) := by
  refine CtY.of (by decide) rfl (Nat.le_of_ble_eq_true rfl) ?_
  intro X A C hl
  subst hl
  refine y_aload_n (pc' := 1) rfl C dX6_copyFrom_0 rfl ?_
  refine y_aload_n (pc' := 2) rfl C dX6_copyFrom_1 rfl ?_
  refine y_get (pc' := 5) rfl C fl_X6_9 (v1 hk2 hj) rfl rfl dX6_copyFrom_2 rfl ?_
  refine y_put (pc' := 8) rfl C fp_X6_9 (v1 hk hj) rfl rfl dX6_copyFrom_5 rfl (fun Z5 hZ5 => ?_)
  refine y_aload_n (pc' := 9) rfl C dX6_copyFrom_8 rfl ?_
  refine y_aload_n (pc' := 10) rfl C dX6_copyFrom_9 rfl ?_
  refine y_get (pc' := 13) rfl C fl_X6_15 (v1 hk2 hj) rfl rfl dX6_copyFrom_10 rfl ?_
  refine y_put (pc' := 16) rfl C fp_X6_15 (v1 hk hj) rfl rfl dX6_copyFrom_13 rfl (fun Z13 hZ13 => ?_)
  refine y_aload_n (pc' := 17) rfl C dX6_copyFrom_16 rfl ?_
  refine y_aload_n (pc' := 18) rfl C dX6_copyFrom_17 rfl ?_
  refine y_get (pc' := 21) rfl C fl_X6_18 (v1 hk2 hj) rfl rfl dX6_copyFrom_18 rfl ?_
  refine y_put (pc' := 24) rfl C fp_X6_18 (v1 hk hj) rfl rfl dX6_copyFrom_21 rfl (fun Z21 hZ21 => ?_)
  refine y_aload_n (pc' := 25) rfl C dX6_copyFrom_24 rfl ?_
  refine y_aload_n (pc' := 26) rfl C dX6_copyFrom_25 rfl ?_
  refine y_get (pc' := 29) rfl C fl_X6_21 (v1 hk2 hj) rfl rfl dX6_copyFrom_26 rfl ?_
  refine y_put (pc' := 32) rfl C fp_X6_21 (v1 hk hj) rfl rfl dX6_copyFrom_29 rfl (fun Z29 hZ29 => ?_)
  refine y_aload_n (pc' := 33) rfl C dX6_copyFrom_32 rfl ?_
  refine y_aload_n (pc' := 34) rfl C dX6_copyFrom_33 rfl ?_
  refine y_get (pc' := 37) rfl C fl_X6_24 (v1 hk2 hj) rfl rfl dX6_copyFrom_34 rfl ?_
  refine y_put (pc' := 40) rfl C fp_X6_24 (v1 hk hj) rfl rfl dX6_copyFrom_37 rfl (fun Z37 hZ37 => ?_)
  refine y_aload_n (pc' := 41) rfl C dX6_copyFrom_40 rfl ?_
  refine y_aload_n (pc' := 42) rfl C dX6_copyFrom_41 rfl ?_
  refine y_getB (pc' := 45) rfl C fl_X6_27 (v1 hk2 hj) rfl rfl dX6_copyFrom_42 rfl (fun hb_42 => ?_)
  refine y_putB (pc' := 48) rfl C fp_X6_27 (v1 hk hj) rfl rfl (by first | exact Or.inl rfl | exact Or.inr rfl | assumption) dX6_copyFrom_45 rfl (fun Z45 hZ45 => ?_)
  refine y_aload_n (pc' := 49) rfl C dX6_copyFrom_48 rfl ?_
  refine y_aload_n (pc' := 50) rfl C dX6_copyFrom_49 rfl ?_
  refine y_get (pc' := 53) rfl C fl_X6_31 (v1 hk2 hj) rfl rfl dX6_copyFrom_50 rfl ?_
  refine y_put (pc' := 56) rfl C fp_X6_31 (v1 hk hj) rfl rfl dX6_copyFrom_53 rfl (fun Z53 hZ53 => ?_)
  refine y_return C rfl dX6_copyFrom_56 rfl rfl ?_
  rw [hZ53, hZ45, hZ37, hZ29, hZ21, hZ13, hZ5]; simp only [up_setA, setA_setA, setA_s, setA_n (nek (Ne.symm hkk))]; rw [fil7]
-- KilnKeeper$Pot.begin 
set_option maxHeartbeats 1000000 in
set_option maxRecDepth 20000 in
theorem c_X6_begin (l : Launch) (G : GT) (a : Id3 → Nat) (Y : YT) (k j : Nat) (s n t : Int32)  (hk : k < 11) (hj : j < 8) : CtY l G a yX6_begin cX6_begin 4 none ({ frames := 0, cells := 0, slots := 0, locals := 0 } : Room) [.ref (a (1, k, j)), .int s, .int n, .int t] Y (PV (fun Y' => Y' = setA Y (1, k, j) (pot0 (Y (1, k, j)) s n t))) := by
  refine CtY.of (by decide) rfl (Nat.le_of_ble_eq_true rfl) ?_
  intro X A C hl
  subst hl
  refine y_aload_n (pc' := 1) rfl C dX6_begin_0 rfl ?_
  refine y_iload_n (pc' := 2) rfl C dX6_begin_1 rfl ?_
  refine y_put (pc' := 5) rfl C fp_X6_9 (v1 hk hj) rfl rfl dX6_begin_2 rfl (fun Z2 hZ2 => ?_)
  refine y_aload_n (pc' := 6) rfl C dX6_begin_5 rfl ?_
  refine y_iload_n (pc' := 7) rfl C dX6_begin_6 rfl ?_
  refine y_put (pc' := 10) rfl C fp_X6_15 (v1 hk hj) rfl rfl dX6_begin_7 rfl (fun Z7 hZ7 => ?_)
  refine y_aload_n (pc' := 11) rfl C dX6_begin_10 rfl ?_
  refine y_iload_n (pc' := 12) rfl C dX6_begin_11 rfl ?_
  refine y_put (pc' := 15) rfl C fp_X6_18 (v1 hk hj) rfl rfl dX6_begin_12 rfl (fun Z12 hZ12 => ?_)
  refine y_aload_n (pc' := 16) rfl C dX6_begin_15 rfl ?_
  refine y_iconst (pc' := 17) rfl (v := 0) C dX6_begin_16 (by decide) ?_
  refine y_put (pc' := 20) rfl C fp_X6_21 (v1 hk hj) rfl rfl dX6_begin_17 rfl (fun Z17 hZ17 => ?_)
  refine y_aload_n (pc' := 21) rfl C dX6_begin_20 rfl ?_
  refine y_iconst (pc' := 22) rfl (v := 0) C dX6_begin_21 (by decide) ?_
  refine y_put (pc' := 25) rfl C fp_X6_24 (v1 hk hj) rfl rfl dX6_begin_22 rfl (fun Z22 hZ22 => ?_)
  refine y_aload_n (pc' := 26) rfl C dX6_begin_25 rfl ?_
  refine y_iconst (pc' := 27) rfl (v := 0) C dX6_begin_26 (by decide) ?_
  refine y_putB (pc' := 30) rfl C fp_X6_27 (v1 hk hj) rfl rfl (by first | exact Or.inl rfl | exact Or.inr rfl | assumption) dX6_begin_27 rfl (fun Z27 hZ27 => ?_)
  refine y_aload_n (pc' := 31) rfl C dX6_begin_30 rfl ?_
  refine y_iconst (pc' := 32) rfl (v := 0) C dX6_begin_31 (by decide) ?_
  refine y_put (pc' := 35) rfl C fp_X6_31 (v1 hk hj) rfl rfl dX6_begin_32 rfl (fun Z32 hZ32 => ?_)
  refine y_return C rfl dX6_begin_35 rfl rfl ?_
  rw [hZ32, hZ27, hZ22, hZ17, hZ12, hZ7, hZ2]; simp only [up_setA, setA_setA, setA_s]; rfl
-- KilnKeeper$Pot.passMinute 
set_option maxHeartbeats 1000000 in
set_option maxRecDepth 20000 in
theorem c_X6_passMinute (l : Launch) (G : GT) (a : Id3 → Nat) (Y : YT) (k j : Nat) (d jm : Int32)  (hk : k < 11) (hj : j < 8) : CtY l G a yX6_passMinute cX6_passMinute 3 none ({ frames := 1, cells := 0, slots := 0, locals := 21 } : Room) [.ref (a (1, k, j)), .int d, .int jm] Y (PV (fun Y' => Y' = setA Y (1, k, j) (pMin (Y (1, k, j)) d jm))) := by
  refine CtY.of (by decide) rfl (Nat.le_of_ble_eq_true rfl) ?_
  intro X A C hl
  subst hl
  refine y_aload_n (pc' := 1) rfl C dX6_passMinute_0 rfl ?_
  refine y_get (pc' := 4) rfl C fl_X6_21 (v1 hk hj) rfl rfl dX6_passMinute_1 rfl ?_
  refine y_iconst (pc' := 5) rfl (v := 1) C dX6_passMinute_4 (by decide) ?_
  refine y_ic_eq (pc' := 8) rfl (tgt := 9) C dX6_passMinute_5 (by decide) (fun c_5 => ?_) (fun c_5 => ?_)
  · refine y_aload_n (pc' := 10) rfl C dX6_passMinute_9 rfl ?_
    refine y_aload_n (pc' := 11) rfl C dX6_passMinute_10 rfl ?_
    refine y_get (pc' := 14) rfl C fl_X6_31 (v1 hk hj) rfl rfl dX6_passMinute_11 rfl ?_
    refine y_iload_n (pc' := 15) rfl C dX6_passMinute_14 rfl ?_
    refine y_max (pc' := 18) rfl C aw_929 mm_max rfl rfl rfl rfl dX6_passMinute_15 ?_
    obtain ⟨m_15, e_15⟩ : ∃ v : Int32, v = (if (Y (1, k, j) 6) < jm then jm else (Y (1, k, j) 6)) := ⟨_, rfl⟩
    rw [← e_15]
    refine y_put (pc' := 21) rfl C fp_X6_31 (v1 hk hj) rfl rfl dX6_passMinute_18 rfl (fun Z18 hZ18 => ?_)
    have e18 : Z18 = setA Y (1, k, j) (pM1 (Y (1, k, j)) jm) := by rw [hZ18, up_setA, e_15]; rfl
    have f18 : Z18 (1, k, j) = pM1 (Y (1, k, j)) jm := by rw [e18, setA_s]
    refine y_iload_n (pc' := 22) rfl C dX6_passMinute_21 rfl ?_
    refine y_aload_n (pc' := 23) rfl C dX6_passMinute_22 rfl ?_
    refine y_get (pc' := 26) rfl C fl_X6_9 (v1 hk hj) rfl rfl dX6_passMinute_23 rfl ?_
    refine y_ic_gt (pc' := 29) rfl (tgt := 40) C dX6_passMinute_26 (by decide) (fun c_26 => ?_) (fun c_26 => ?_)
    · refine y_aload_n (pc' := 41) rfl C dX6_passMinute_40 rfl ?_
      refine y_iconst (pc' := 42) rfl (v := 3) C dX6_passMinute_41 (by decide) ?_
      refine y_put (pc' := 45) rfl C fp_X6_21 (v1 hk hj) rfl rfl dX6_passMinute_42 rfl (fun Z42 hZ42 => ?_)
      refine y_return C rfl dX6_passMinute_45 rfl rfl ?_
      rw [hZ42, e18, up_setA, setA_setA, setA_s, pMin, if_pos c_5, if_pos (by rw [← f18]; exact c_26)]
    · refine y_iload_n (pc' := 30) rfl C dX6_passMinute_29 rfl ?_
      refine y_aload_n (pc' := 31) rfl C dX6_passMinute_30 rfl ?_
      refine y_get (pc' := 34) rfl C fl_X6_15 (v1 hk hj) rfl rfl dX6_passMinute_31 rfl ?_
      refine y_isub (pc' := 35) rfl C dX6_passMinute_34 ?_
      refine y_bipush (pc' := 37) rfl (v := 80) C dX6_passMinute_35 (by decide) ?_
      refine y_ic_le (pc' := 40) rfl (tgt := 46) C dX6_passMinute_37 (by decide) (fun c_37 => ?_) (fun c_37 => ?_)
      · refine y_iload_n (pc' := 47) rfl C dX6_passMinute_46 rfl ?_
        refine y_aload_n (pc' := 48) rfl C dX6_passMinute_47 rfl ?_
        refine y_get (pc' := 51) rfl C fl_X6_15 (v1 hk hj) rfl rfl dX6_passMinute_48 rfl ?_
        have K51 : ∀ (Yj_51 : YT) (_ : Yj_51 = (if d < (Z18 (1, k, j) 1) then Z18 else (up Z18 (1, k, j) 4 ((Z18 (1, k, j) 4) + 1)))), WY X G A a Yj_51 0 0 (MEnd X G A ({ frames := 1, cells := 0, slots := 0, locals := 21 } : Room) (PY G a (PV (fun Y' => Y' = setA Y (1, k, j) (pMin (Y (1, k, j)) d jm))))) 64 [some (.ref (a (1, k, j))), some (.int d), some (.int jm)] [] := by
          intro Yj_51 eYj_51
          have e51 : Yj_51 = setA Y (1, k, j) (pM2 (pM1 (Y (1, k, j)) jm) d) := by rw [eYj_51, e18]; simp only [up_setA, setA_setA, setA_s]; rw [pM2]; split <;> rfl
          have f51 : Yj_51 (1, k, j) = pM2 (pM1 (Y (1, k, j)) jm) d := by rw [e51, setA_s]
          refine y_aload_n (pc' := 65) rfl C dX6_passMinute_64 rfl ?_
          refine y_get (pc' := 68) rfl C fl_X6_24 (v1 hk hj) rfl rfl dX6_passMinute_65 rfl ?_
          refine y_aload_n (pc' := 69) rfl C dX6_passMinute_68 rfl ?_
          refine y_get (pc' := 72) rfl C fl_X6_18 (v1 hk hj) rfl rfl dX6_passMinute_69 rfl ?_
          refine y_ic_lt (pc' := 75) rfl (tgt := 80) C dX6_passMinute_72 (by decide) (fun c_72 => ?_) (fun c_72 => ?_)
          · refine y_return C rfl dX6_passMinute_80 rfl rfl ?_
            rw [e51, pMin, if_pos c_5, if_neg (by rw [← f18]; exact c_26), if_pos (by rw [← f18]; exact c_37), if_pos (by rw [← f51]; exact c_72)]
          · refine y_aload_n (pc' := 76) rfl C dX6_passMinute_75 rfl ?_
            refine y_iconst (pc' := 77) rfl (v := 2) C dX6_passMinute_76 (by decide) ?_
            refine y_put (pc' := 80) rfl C fp_X6_21 (v1 hk hj) rfl rfl dX6_passMinute_77 rfl (fun Z77 hZ77 => ?_)
            refine y_return C rfl dX6_passMinute_80 rfl rfl ?_
            rw [hZ77, e51, up_setA, setA_setA, setA_s, pMin, if_pos c_5, if_neg (by rw [← f18]; exact c_26), if_pos (by rw [← f18]; exact c_37), if_neg (by rw [← f51]; exact c_72)]
        refine y_ic_lt (pc' := 54) rfl (tgt := 64) C dX6_passMinute_51 (by decide) (fun c_51 => ?_) (fun c_51 => ?_)
        · exact K51 _ (by first | (rw [if_pos c_51]; done) | (rw [if_pos c_51]; assumption) | (rw [if_pos c_51]; simp only [*]))
        · refine y_aload_n (pc' := 55) rfl C dX6_passMinute_54 rfl ?_
          refine y_dup (pc' := 56) rfl C dX6_passMinute_55 rfl ?_
          refine y_get (pc' := 59) rfl C fl_X6_24 (v1 hk hj) rfl rfl dX6_passMinute_56 rfl ?_
          refine y_iconst (pc' := 60) rfl (v := 1) C dX6_passMinute_59 (by decide) ?_
          refine y_iadd (pc' := 61) rfl C dX6_passMinute_60 ?_
          refine y_put (pc' := 64) rfl C fp_X6_24 (v1 hk hj) rfl rfl dX6_passMinute_61 rfl (fun Z61 hZ61 => ?_)
          exact K51 _ (by first | (rw [if_neg c_51]; done) | (rw [if_neg c_51]; assumption) | (rw [if_neg c_51]; simp only [*]))
      · refine y_aload_n (pc' := 41) rfl C dX6_passMinute_40 rfl ?_
        refine y_iconst (pc' := 42) rfl (v := 3) C dX6_passMinute_41 (by decide) ?_
        refine y_put (pc' := 45) rfl C fp_X6_21 (v1 hk hj) rfl rfl dX6_passMinute_42 rfl (fun Z42 hZ42 => ?_)
        refine y_return C rfl dX6_passMinute_45 rfl rfl ?_
        rw [hZ42, e18, up_setA, setA_setA, setA_s, pMin, if_pos c_5, if_neg (by rw [← f18]; exact c_26), if_neg (by rw [← f18]; exact c_37)]
  · refine y_return C rfl dX6_passMinute_8 rfl rfl ?_
    show Y = _
    rw [pMin, if_neg c_5, setA_self]
-- KilnKeeper$Pot.isAheadOf 
set_option maxHeartbeats 1000000 in
set_option maxRecDepth 20000 in
theorem c_X6_isAheadOf (l : Launch) (G : GT) (a : Id3 → Nat) (Y : YT) (k j j2 : Nat)  (hk : k < 11) (hj : j < 8) (hj2 : j2 < 8) : CtY l G a yX6_isAheadOf cX6_isAheadOf 4 (some .boolean) ({ frames := 0, cells := 0, slots := 0, locals := 0 } : Room) [.ref (a (1, k, j)), .ref (a (1, k, j2))] Y (PI (fun r Y' => r = ahP (Y (1, k, j)) (Y (1, k, j2)) ∧ Y' = Y)) := by
  refine CtY.of (by decide) rfl (Nat.le_of_ble_eq_true rfl) ?_
  intro X A C hl
  subst hl
  refine y_aload_n (pc' := 1) rfl C dX6_isAheadOf_0 rfl ?_
  refine y_get (pc' := 4) rfl C fl_X6_18 (v1 hk hj) rfl rfl dX6_isAheadOf_1 rfl ?_
  refine y_aload_n (pc' := 5) rfl C dX6_isAheadOf_4 rfl ?_
  refine y_get (pc' := 8) rfl C fl_X6_24 (v1 hk hj) rfl rfl dX6_isAheadOf_5 rfl ?_
  refine y_isub (pc' := 9) rfl C dX6_isAheadOf_8 ?_
  refine y_istore_n (pc' := 10) rfl C dX6_isAheadOf_9 (by decide) ?_
  refine y_aload_n (pc' := 11) rfl C dX6_isAheadOf_10 rfl ?_
  refine y_get (pc' := 14) rfl C fl_X6_18 (v1 hk hj2) rfl rfl dX6_isAheadOf_11 rfl ?_
  refine y_aload_n (pc' := 15) rfl C dX6_isAheadOf_14 rfl ?_
  refine y_get (pc' := 18) rfl C fl_X6_24 (v1 hk hj2) rfl rfl dX6_isAheadOf_15 rfl ?_
  refine y_isub (pc' := 19) rfl C dX6_isAheadOf_18 ?_
  refine y_istore_n (pc' := 20) rfl C dX6_isAheadOf_19 (by decide) ?_
  refine y_iload_n (pc' := 21) rfl C dX6_isAheadOf_20 rfl ?_
  refine y_iload_n (pc' := 22) rfl C dX6_isAheadOf_21 rfl ?_
  refine y_ic_lt (pc' := 25) rfl (tgt := 41) C dX6_isAheadOf_22 (by decide) (fun c_22 => ?_) (fun c_22 => ?_)
  · refine y_iconst (pc' := 42) rfl (v := 1) C dX6_isAheadOf_41 (by decide) ?_
    refine y_goto (tgt := 46) C dX6_isAheadOf_42 (by decide) ?_
    refine y_ireturn C rfl (by first | rfl | exact nb_narrow (by assumption)) dX6_isAheadOf_46 rfl rfl ?_
    exact ⟨by rw [ahP, if_pos c_22], rfl⟩
  · refine y_iload_n (pc' := 26) rfl C dX6_isAheadOf_25 rfl ?_
    refine y_iload_n (pc' := 27) rfl C dX6_isAheadOf_26 rfl ?_
    refine y_ic_ne (pc' := 30) rfl (tgt := 45) C dX6_isAheadOf_27 (by decide) (fun c_27 => ?_) (fun c_27 => ?_)
    · refine y_iconst (pc' := 46) rfl (v := 0) C dX6_isAheadOf_45 (by decide) ?_
      refine y_ireturn C rfl (by first | rfl | exact nb_narrow (by assumption)) dX6_isAheadOf_46 rfl rfl ?_
      exact ⟨by rw [ahP, if_neg c_22, if_neg c_27], rfl⟩
    · refine y_aload_n (pc' := 31) rfl C dX6_isAheadOf_30 rfl ?_
      refine y_get (pc' := 34) rfl C fl_X6_15 (v1 hk hj) rfl rfl dX6_isAheadOf_31 rfl ?_
      refine y_aload_n (pc' := 35) rfl C dX6_isAheadOf_34 rfl ?_
      refine y_get (pc' := 38) rfl C fl_X6_15 (v1 hk hj2) rfl rfl dX6_isAheadOf_35 rfl ?_
      refine y_ic_le (pc' := 41) rfl (tgt := 45) C dX6_isAheadOf_38 (by decide) (fun c_38 => ?_) (fun c_38 => ?_)
      · refine y_iconst (pc' := 46) rfl (v := 0) C dX6_isAheadOf_45 (by decide) ?_
        refine y_ireturn C rfl (by first | rfl | exact nb_narrow (by assumption)) dX6_isAheadOf_46 rfl rfl ?_
        exact ⟨by rw [ahP, if_neg c_22, if_pos c_27, if_pos c_38], rfl⟩
      · refine y_iconst (pc' := 42) rfl (v := 1) C dX6_isAheadOf_41 (by decide) ?_
        refine y_goto (tgt := 46) C dX6_isAheadOf_42 (by decide) ?_
        refine y_ireturn C rfl (by first | rfl | exact nb_narrow (by assumption)) dX6_isAheadOf_46 rfl rfl ?_
        exact ⟨by rw [ahP, if_neg c_22, if_pos c_27, if_neg c_38], rfl⟩
-- KilnKeeper$Pot.number 
set_option maxHeartbeats 1000000 in
set_option maxRecDepth 20000 in
theorem c_X6_number (l : Launch) (G : GT) (a : Id3 → Nat) (Y : YT) (k j : Nat) (w : Int32)  (hk : k < 11) (hj : j < 8) : CtY l G a yX6_number cX6_number 2 (some .int) ({ frames := 0, cells := 0, slots := 0, locals := 0 } : Room) [.ref (a (1, k, j)), .int w] Y (PI (fun r Y' => r = numP7 (Y (1, k, j)) w ∧ Y' = Y)) := by
  refine CtY.of (by decide) rfl (Nat.le_of_ble_eq_true rfl) ?_
  intro X A C hl
  subst hl
  refine y_iload_n (pc' := 1) rfl C dX6_number_0 rfl ?_
  by_cases s_1_0 : w = 0
  · refine y_tabC (v := 0) (tgt := 44) C s_1_0 dX6_number_1 (by decide) (by decide) rfl (by decide) ?_
    refine y_aload_n (pc' := 45) rfl C dX6_number_44 rfl ?_
    refine y_get (pc' := 48) rfl C fl_X6_9 (v1 hk hj) rfl rfl dX6_number_45 rfl ?_
    refine y_ireturn C rfl rfl dX6_number_48 rfl rfl ?_
    exact ⟨by rw [numP7, if_pos s_1_0], rfl⟩
  by_cases s_1_1 : w = 1
  · refine y_tabC (v := 1) (tgt := 49) C s_1_1 dX6_number_1 (by decide) (by decide) rfl (by decide) ?_
    refine y_aload_n (pc' := 50) rfl C dX6_number_49 rfl ?_
    refine y_get (pc' := 53) rfl C fl_X6_15 (v1 hk hj) rfl rfl dX6_number_50 rfl ?_
    refine y_ireturn C rfl rfl dX6_number_53 rfl rfl ?_
    exact ⟨by rw [numP7, if_neg s_1_0, if_pos s_1_1], rfl⟩
  by_cases s_1_2 : w = 2
  · refine y_tabC (v := 2) (tgt := 54) C s_1_2 dX6_number_1 (by decide) (by decide) rfl (by decide) ?_
    refine y_aload_n (pc' := 55) rfl C dX6_number_54 rfl ?_
    refine y_get (pc' := 58) rfl C fl_X6_18 (v1 hk hj) rfl rfl dX6_number_55 rfl ?_
    refine y_ireturn C rfl rfl dX6_number_58 rfl rfl ?_
    exact ⟨by rw [numP7, if_neg s_1_0, if_neg s_1_1, if_pos s_1_2], rfl⟩
  by_cases s_1_3 : w = 3
  · refine y_tabC (v := 3) (tgt := 59) C s_1_3 dX6_number_1 (by decide) (by decide) rfl (by decide) ?_
    refine y_aload_n (pc' := 60) rfl C dX6_number_59 rfl ?_
    refine y_get (pc' := 63) rfl C fl_X6_21 (v1 hk hj) rfl rfl dX6_number_60 rfl ?_
    refine y_ireturn C rfl rfl dX6_number_63 rfl rfl ?_
    exact ⟨by rw [numP7, if_neg s_1_0, if_neg s_1_1, if_neg s_1_2, if_pos s_1_3], rfl⟩
  by_cases s_1_4 : w = 4
  · refine y_tabC (v := 4) (tgt := 64) C s_1_4 dX6_number_1 (by decide) (by decide) rfl (by decide) ?_
    refine y_aload_n (pc' := 65) rfl C dX6_number_64 rfl ?_
    refine y_get (pc' := 68) rfl C fl_X6_24 (v1 hk hj) rfl rfl dX6_number_65 rfl ?_
    refine y_ireturn C rfl rfl dX6_number_68 rfl rfl ?_
    exact ⟨by rw [numP7, if_neg s_1_0, if_neg s_1_1, if_neg s_1_2, if_neg s_1_3, if_pos s_1_4], rfl⟩
  by_cases s_1_5 : w = 5
  · refine y_tabC (v := 5) (tgt := 69) C s_1_5 dX6_number_1 (by decide) (by decide) rfl (by decide) ?_
    refine y_aload_n (pc' := 70) rfl C dX6_number_69 rfl ?_
    refine y_getB (pc' := 73) rfl C fl_X6_27 (v1 hk hj) rfl rfl dX6_number_70 rfl (fun hb_70 => ?_)
    refine y_if_eq (pc' := 76) rfl (tgt := 80) C dX6_number_73 (by decide) (fun c_73 => ?_) (fun c_73 => ?_)
    · refine y_iconst (pc' := 81) rfl (v := 0) C dX6_number_80 (by decide) ?_
      refine y_ireturn C rfl rfl dX6_number_81 rfl rfl ?_
      exact ⟨by rw [numP7, if_neg s_1_0, if_neg s_1_1, if_neg s_1_2, if_neg s_1_3, if_neg s_1_4, if_pos s_1_5, if_pos c_73], rfl⟩
    · refine y_iconst (pc' := 77) rfl (v := 1) C dX6_number_76 (by decide) ?_
      refine y_goto (tgt := 81) C dX6_number_77 (by decide) ?_
      refine y_ireturn C rfl rfl dX6_number_81 rfl rfl ?_
      exact ⟨by rw [numP7, if_neg s_1_0, if_neg s_1_1, if_neg s_1_2, if_neg s_1_3, if_neg s_1_4, if_pos s_1_5, if_neg c_73], rfl⟩
  by_cases s_1_6 : w = 6
  · refine y_tabC (v := 6) (tgt := 82) C s_1_6 dX6_number_1 (by decide) (by decide) rfl (by decide) ?_
    refine y_aload_n (pc' := 83) rfl C dX6_number_82 rfl ?_
    refine y_get (pc' := 86) rfl C fl_X6_31 (v1 hk hj) rfl rfl dX6_number_83 rfl ?_
    refine y_ireturn C rfl rfl dX6_number_86 rfl rfl ?_
    exact ⟨by rw [numP7, if_neg s_1_0, if_neg s_1_1, if_neg s_1_2, if_neg s_1_3, if_neg s_1_4, if_neg s_1_5, if_pos s_1_6], rfl⟩
  refine y_tabD (tgt := 87) C [0, 1, 2, 3, 4, 5, 6] dX6_number_1 (List.forall_mem_cons.mpr ⟨tne s_1_0 rfl, (List.forall_mem_cons.mpr ⟨tne s_1_1 rfl, (List.forall_mem_cons.mpr ⟨tne s_1_2 rfl, (List.forall_mem_cons.mpr ⟨tne s_1_3 rfl, (List.forall_mem_cons.mpr ⟨tne s_1_4 rfl, (List.forall_mem_cons.mpr ⟨tne s_1_5 rfl, (List.forall_mem_cons.mpr ⟨tne s_1_6 rfl, (fun _ h => absurd h List.not_mem_nil)⟩)⟩)⟩)⟩)⟩)⟩)⟩) rfl (by decide) ?_
  refine y_sipush (pc' := 90) rfl (v := (-10002)) C dX6_number_87 (by decide) ?_
  refine y_ireturn C rfl rfl dX6_number_90 rfl rfl ?_
  exact ⟨by rw [numP7, if_neg s_1_0, if_neg s_1_1, if_neg s_1_2, if_neg s_1_3, if_neg s_1_4, if_neg s_1_5, if_neg s_1_6], rfl⟩
-- KilnKeeper$Rack.find 
set_option maxHeartbeats 1000000 in
set_option maxRecDepth 20000 in
theorem c_X7_find (l : Launch) (G : GT) (a : Id3 → Nat) (Y : YT) (k np : Nat) (x : Int32)  (hk : k < 11) (hc : Y (0, k, 7) 0 = nI np) (hnp : np ≤ 8) : CtY l G a yX7_find cX7_find 2 (some (.object "KilnKeeper$Pot")) ({ frames := 0, cells := 0, slots := 0, locals := 0 } : Room) [.ref (a (0, k, 7)), .int x] Y (PR (fun r Y' => r = (if 0 ≤ x ∧ x < nI np then .ref (a (1, k, nn x)) else .null) ∧ Y' = Y)) := by
  refine CtY.of (by decide) rfl (Nat.le_of_ble_eq_true rfl) ?_
  intro X A C hl
  subst hl
  refine y_iload_n (pc' := 1) rfl C dX7_find_0 rfl ?_
  refine y_if_lt (pc' := 4) rfl (tgt := 30) C dX7_find_1 (by decide) (fun c_1 => ?_) (fun c_1 => ?_)
  · refine y_null (pc' := 31) rfl C dX7_find_30 ?_
    refine y_areturn C rfl (Or.inl ⟨_, rfl⟩) (Or.inl rfl) dX7_find_31 rfl rfl ?_
    exact ⟨by rw [if_neg (fun q => absurd q.1 (Int32.not_le.mpr c_1))], rfl⟩
  · refine y_iload_n (pc' := 5) rfl C dX7_find_4 rfl ?_
    refine y_aload_n (pc' := 6) rfl C dX7_find_5 rfl ?_
    refine y_get (pc' := 9) rfl C fl_X7_9 (v0 hk rfl) rfl rfl dX7_find_6 rfl ?_
    refine y_ic_ge (pc' := 12) rfl (tgt := 30) C dX7_find_9 (by decide) (fun c_9 => ?_) (fun c_9 => ?_)
    · refine y_null (pc' := 31) rfl C dX7_find_30 ?_
      refine y_areturn C rfl (Or.inl ⟨_, rfl⟩) (Or.inl rfl) dX7_find_31 rfl rfl ?_
      exact ⟨by rw [if_neg (fun q => absurd q.2 (Int32.not_lt.mpr (by rw [← hc]; exact c_9)))], rfl⟩
    · obtain ⟨q, hq9, hq⟩ := nI_of c_1
      rw [hq, hc] at c_9
      have hqn : q < np := nI_nle_iff (by omega) (by omega) c_9
      refine y_iload_n (pc' := 13) rfl C dX7_find_12 rfl ?_
      refine y_aload_n (pc' := 14) rfl C dX7_find_13 rfl ?_
      refine y_get (pc' := 17) rfl (v := .ref (a (0, k, 8))) C fl_X7_17 (v0 hk rfl) rfl rfl dX7_find_14 rfl ?_
      refine y_alenQ (pc' := 18) rfl C (v0 hk rfl) rfl rfl rfl dX7_find_17 ?_
      refine y_ic_ge (pc' := 21) rfl (tgt := 30) C dX7_find_18 (by decide) (fun c_18 => ?_) (fun c_18 => ?_)
      · exact absurd c_18 (by rw [hq]; exact nI_ge (by omega) (by decide))
      · refine y_aload_n (pc' := 22) rfl C dX7_find_21 rfl ?_
        refine y_get (pc' := 25) rfl (v := .ref (a (0, k, 8))) C fl_X7_17 (v0 hk rfl) rfl rfl dX7_find_22 rfl ?_
        refine y_iload_n (pc' := 26) rfl C dX7_find_25 rfl ?_
        refine y_aaldN (pc' := 27) rfl C q hq (v0 hk rfl) rfl rfl rfl (show q < 8 by omega) rfl dX7_find_26 ?_
        refine y_goto (tgt := 31) C dX7_find_27 (by decide) ?_
        refine y_areturn C rfl (Or.inl ⟨_, rfl⟩) (Or.inr ⟨_, rfl⟩) dX7_find_31 rfl rfl ?_
        exact ⟨by rw [if_pos ⟨Int32.not_lt.mp c_1, by rw [hq]; exact nI_lt hqn (by omega)⟩, hq, nn_nI hq9], rfl⟩
theorem c_X7_find_in (l : Launch) (G : GT) (a : Id3 → Nat) (Y : YT) (k np q : Nat) (hk : k < 11) (hc : Y (0, k, 7) 0 = nI np) (hnp : np ≤ 8) (hq : q < np) : CtY l G a yX7_find cX7_find 2 (some (.object "KilnKeeper$Pot")) ({ frames := 0, cells := 0, slots := 0, locals := 0 } : Room) [.ref (a (0, k, 7)), .int (nI q)] Y (PR (fun r Y' => r = .ref (a (1, k, q)) ∧ Y' = Y)) := by
  have h := c_X7_find l G a Y k np (nI q) hk hc hnp
  rw [if_pos ⟨nI_pos' (by omega), nI_lt hq (by omega)⟩, nn_nI (by omega)] at h
  exact h
theorem c_X7_find_out (l : Launch) (G : GT) (a : Id3 → Nat) (Y : YT) (k np : Nat) (x : Int32) (hk : k < 11) (hc : Y (0, k, 7) 0 = nI np) (hnp : np ≤ 8) (hx : ¬ (0 ≤ x ∧ x < nI np)) : CtY l G a yX7_find cX7_find 2 (some (.object "KilnKeeper$Pot")) ({ frames := 0, cells := 0, slots := 0, locals := 0 } : Room) [.ref (a (0, k, 7)), .int x] Y (PR (fun r Y' => r = .null ∧ Y' = Y)) := by
  have h := c_X7_find l G a Y k np x hk hc hnp
  rw [if_neg hx] at h
  exact h
-- KilnKeeper$Rack.countOf 
set_option maxHeartbeats 1000000 in
set_option maxRecDepth 20000 in
theorem c_X7_countOf (l : Launch) (G : GT) (a : Id3 → Nat) (Y : YT) (k np : Nat) (st : Int32)  (hk : k < 11) (hc : Y (0, k, 7) 0 = nI np) (hnp : np ≤ 8) : CtY l G a yX7_countOf cX7_countOf 5 (some .int) ({ frames := 1, cells := 0, slots := 0, locals := 21 } : Room) [.ref (a (0, k, 7)), .int st] Y (PI (fun r Y' => r = mnK Y k st np ∧ Y' = Y)) := by
  refine CtY.of (by decide) rfl (Nat.le_of_ble_eq_true rfl) ?_
  intro X A C hl
  subst hl
  refine y_iconst (pc' := 1) rfl (v := 0) C dX7_countOf_0 (by decide) ?_
  refine y_istore_n (pc' := 2) rfl C dX7_countOf_1 (by decide) ?_
  refine y_iconst (pc' := 3) rfl (v := 0) C dX7_countOf_2 (by decide) ?_
  refine y_istore_n (pc' := 4) rfl C dX7_countOf_3 (by decide) ?_
  suffices K4 : ∀ (fu_ i4 : Nat) (Yl4 : YT), i4 ≤ np → np < fu_ + i4 → Yl4 = Y → WY X G A a Yl4 0 0 _ 4 [some (.ref (a (0, k, 7))), some (.int st), some (.int ((mnK Y k st i4))), some (.int ((nI i4))), none] [] from K4 (np + 1) 0 _ (by omega) (by omega) (rfl)
  intro fu_
  induction fu_ with
  | zero => intro i4 Yl4 h1 h2; omega
  | succ fu_ ih4 =>
    intro i4 Yl4 hi4 hm4 hYl4
    have hcl : Yl4 (0, k, 7) 0 = nI np := by rw [hYl4]; exact hc
    refine y_iload_n (pc' := 5) rfl C dX7_countOf_4 rfl ?_
    refine y_aload_n (pc' := 6) rfl C dX7_countOf_5 rfl ?_
    refine y_get (pc' := 9) rfl C fl_X7_9 (v0 hk rfl) rfl rfl dX7_countOf_6 rfl ?_
    refine y_ic_ge (pc' := 12) rfl (tgt := 42) C dX7_countOf_9 (by decide) (fun c_9 => ?_) (fun c_9 => ?_)
    · rw [hYl4, hc] at c_9
      have hb4 : np ≤ i4 := nI_le_iff (by omega) (by omega) c_9
      refine y_iload_n (pc' := 43) rfl C dX7_countOf_42 rfl ?_
      refine y_ireturn C rfl rfl dX7_countOf_43 rfl rfl ?_
      exact ⟨by rw [show i4 = np by omega], hYl4⟩
    · rw [hYl4, hc] at c_9
      have hb4 : i4 < np := nI_nle_iff (by omega) (by omega) c_9
      refine y_aload_n (pc' := 13) rfl C dX7_countOf_12 rfl ?_
      refine y_iload_n (pc' := 14) rfl C dX7_countOf_13 rfl ?_
      refine y_cVr (pc' := 17) (k' := 0) (n' := 0) rfl C (c_X7_find_in _ G a Yl4 k np i4 hk hcl hnp hb4) my_X7_find aw_362 (v0 hk rfl) rfl rfl rfl rfl rfl (Nat.le_of_ble_eq_true rfl) rfl dX7_countOf_14 rfl rfl (fun r_14 Y_14 hp_14 => ?_)
      obtain ⟨rfl, hY_14⟩ := hp_14
      have hY_14 := hY_14.symm; subst hY_14
      refine y_astore (pc' := 19) rfl C dX7_countOf_17 (by decide) ?_
      refine y_aload (pc' := 21) rfl C dX7_countOf_19 rfl ?_
      refine y_ifnull (pc' := 24) rfl C dX7_countOf_21 ?_
      refine y_aload (pc' := 26) rfl C dX7_countOf_24 rfl ?_
      refine y_get (pc' := 29) rfl C fl_X7_44 (v1 hk (show i4 < 8 by omega)) rfl rfl dX7_countOf_26 rfl ?_
      refine y_iload_n (pc' := 30) rfl C dX7_countOf_29 rfl ?_
      have K30 : ∀ (x2_30 : Int32) (_ : x2_30 = (if (Yl4 (1, k, i4) 3) = st then ((mnK Y k st i4) + 1) else (mnK Y k st i4))), WY X G A a Yl4 0 0 (MEnd X G A ({ frames := 1, cells := 0, slots := 0, locals := 21 } : Room) (PY G a (PI (fun r Y' => r = mnK Y k st np ∧ Y' = Y)))) 36 [some (.ref (a (0, k, 7))), some (.int st), some (.int x2_30), some (.int ((nI i4))), some (.ref (a (1, k, i4)))] [] := by
        intro x2_30 ex2_30
        refine y_iinc (pc' := 39) rfl (v := (nI (i4 + 1))) C dX7_countOf_36 rfl (nI_1 i4) (by decide) ?_
        refine y_goto (tgt := 4) C dX7_countOf_39 (by decide) ?_
        refine y_conv (L' := [some (.ref (a (0, k, 7))), some (.int st), some (.int ((mnK Y k st (i4 + 1)))), some (.int ((nI (i4 + 1)))), some (.ref (a (1, k, i4)))]) (by rw [mnK, ex2_30, hYl4]; rfl) rfl ?_
        refine y_weak (L' := [some (.ref (a (0, k, 7))), some (.int st), some (.int ((mnK Y k st (i4 + 1)))), some (.int ((nI (i4 + 1)))), none]) (wk_c (wk_c (wk_c (wk_c (wk_n wk_nil))))) ?_
        exact ih4 (i4 + 1) _ (by omega) (by omega) (hYl4)
      refine y_ic_ne (pc' := 33) rfl (tgt := 36) C dX7_countOf_30 (by decide) (fun c_30 => ?_) (fun c_30 => ?_)
      · exact K30 _ (by rw [if_neg c_30])
      · refine y_iinc (pc' := 36) rfl (v := ((mnK Y k st i4) + 1)) C dX7_countOf_33 rfl rfl (by decide) ?_
        exact K30 _ (by rw [if_pos c_30])
-- KilnKeeper$Rack.countWithin 
set_option maxHeartbeats 1000000 in
set_option maxRecDepth 20000 in
theorem c_X7_countWithin (l : Launch) (G : GT) (a : Id3 → Nat) (Y : YT) (k np : Nat)  (hk : k < 11) (hc : Y (0, k, 7) 0 = nI np) (hnp : np ≤ 8) : CtY l G a yX7_countWithin cX7_countWithin 4 (some .int) ({ frames := 1, cells := 0, slots := 0, locals := 21 } : Room) [.ref (a (0, k, 7))] Y (PI (fun r Y' => r = wiK Y k np ∧ Y' = Y)) := by
  refine CtY.of (by decide) rfl (Nat.le_of_ble_eq_true rfl) ?_
  intro X A C hl
  subst hl
  refine y_iconst (pc' := 1) rfl (v := 0) C dX7_countWithin_0 (by decide) ?_
  refine y_istore_n (pc' := 2) rfl C dX7_countWithin_1 (by decide) ?_
  refine y_iconst (pc' := 3) rfl (v := 0) C dX7_countWithin_2 (by decide) ?_
  refine y_istore_n (pc' := 4) rfl C dX7_countWithin_3 (by decide) ?_
  suffices K4 : ∀ (fu_ i4 : Nat) (Yl4 : YT), i4 ≤ np → np < fu_ + i4 → Yl4 = Y → WY X G A a Yl4 0 0 _ 4 [some (.ref (a (0, k, 7))), some (.int ((wiK Y k i4))), some (.int ((nI i4))), none] [] from K4 (np + 1) 0 _ (by omega) (by omega) (rfl)
  intro fu_
  induction fu_ with
  | zero => intro i4 Yl4 h1 h2; omega
  | succ fu_ ih4 =>
    intro i4 Yl4 hi4 hm4 hYl4
    have hcl : Yl4 (0, k, 7) 0 = nI np := by rw [hYl4]; exact hc
    refine y_iload_n (pc' := 5) rfl C dX7_countWithin_4 rfl ?_
    refine y_aload_n (pc' := 6) rfl C dX7_countWithin_5 rfl ?_
    refine y_get (pc' := 9) rfl C fl_X7_9 (v0 hk rfl) rfl rfl dX7_countWithin_6 rfl ?_
    refine y_ic_ge (pc' := 12) rfl (tgt := 38) C dX7_countWithin_9 (by decide) (fun c_9 => ?_) (fun c_9 => ?_)
    · rw [hYl4, hc] at c_9
      have hb4 : np ≤ i4 := nI_le_iff (by omega) (by omega) c_9
      refine y_iload_n (pc' := 39) rfl C dX7_countWithin_38 rfl ?_
      refine y_ireturn C rfl rfl dX7_countWithin_39 rfl rfl ?_
      exact ⟨by rw [show i4 = np by omega], hYl4⟩
    · rw [hYl4, hc] at c_9
      have hb4 : i4 < np := nI_nle_iff (by omega) (by omega) c_9
      refine y_aload_n (pc' := 13) rfl C dX7_countWithin_12 rfl ?_
      refine y_iload_n (pc' := 14) rfl C dX7_countWithin_13 rfl ?_
      refine y_cVr (pc' := 17) (k' := 0) (n' := 0) rfl C (c_X7_find_in _ G a Yl4 k np i4 hk hcl hnp hb4) my_X7_find aw_362 (v0 hk rfl) rfl rfl rfl rfl rfl (Nat.le_of_ble_eq_true rfl) rfl dX7_countWithin_14 rfl rfl (fun r_14 Y_14 hp_14 => ?_)
      obtain ⟨rfl, hY_14⟩ := hp_14
      have hY_14 := hY_14.symm; subst hY_14
      refine y_astore_n (pc' := 18) rfl C dX7_countWithin_17 (by decide) ?_
      refine y_aload_n (pc' := 19) rfl C dX7_countWithin_18 rfl ?_
      refine y_ifnull (pc' := 22) rfl C dX7_countWithin_19 ?_
      refine y_aload_n (pc' := 23) rfl C dX7_countWithin_22 rfl ?_
      refine y_getB (pc' := 26) rfl C fl_X7_51 (v1 hk (show i4 < 8 by omega)) rfl rfl dX7_countWithin_23 rfl (fun hb_23 => ?_)
      have K26 : ∀ (x1_26 : Int32) (_ : x1_26 = (if (Yl4 (1, k, i4) 5) = 0 then (wiK Y k i4) else ((wiK Y k i4) + 1))), WY X G A a Yl4 0 0 (MEnd X G A ({ frames := 1, cells := 0, slots := 0, locals := 21 } : Room) (PY G a (PI (fun r Y' => r = wiK Y k np ∧ Y' = Y)))) 32 [some (.ref (a (0, k, 7))), some (.int x1_26), some (.int ((nI i4))), some (.ref (a (1, k, i4)))] [] := by
        intro x1_26 ex1_26
        refine y_iinc (pc' := 35) rfl (v := (nI (i4 + 1))) C dX7_countWithin_32 rfl (nI_1 i4) (by decide) ?_
        refine y_goto (tgt := 4) C dX7_countWithin_35 (by decide) ?_
        refine y_conv (L' := [some (.ref (a (0, k, 7))), some (.int ((wiK Y k (i4 + 1)))), some (.int ((nI (i4 + 1)))), some (.ref (a (1, k, i4)))]) (by rw [wiK, ex1_26, hYl4]; rfl) rfl ?_
        refine y_weak (L' := [some (.ref (a (0, k, 7))), some (.int ((wiK Y k (i4 + 1)))), some (.int ((nI (i4 + 1)))), none]) (wk_c (wk_c (wk_c (wk_n wk_nil)))) ?_
        exact ih4 (i4 + 1) _ (by omega) (by omega) (hYl4)
      refine y_if_eq (pc' := 29) rfl (tgt := 32) C dX7_countWithin_26 (by decide) (fun c_26 => ?_) (fun c_26 => ?_)
      · exact K26 _ (by rw [if_pos c_26])
      · refine y_iinc (pc' := 32) rfl (v := ((wiK Y k i4) + 1)) C dX7_countWithin_29 rfl rfl (by decide) ?_
        exact K26 _ (by rw [if_neg c_26])
-- KilnKeeper$Rack.crackedSet 
set_option maxHeartbeats 1000000 in
set_option maxRecDepth 20000 in
theorem c_X7_crackedSet (l : Launch) (G : GT) (a : Id3 → Nat) (Y : YT) (k np : Nat)  (hk : k < 11) (hc : Y (0, k, 7) 0 = nI np) (hnp : np ≤ 8) : CtY l G a yX7_crackedSet cX7_crackedSet 4 (some .int) ({ frames := 1, cells := 0, slots := 0, locals := 21 } : Room) [.ref (a (0, k, 7))] Y (PI (fun r Y' => r = crK Y k np ∧ Y' = Y)) := by
  refine CtY.of (by decide) rfl (Nat.le_of_ble_eq_true rfl) ?_
  intro X A C hl
  subst hl
  refine y_iconst (pc' := 1) rfl (v := 0) C dX7_crackedSet_0 (by decide) ?_
  refine y_istore_n (pc' := 2) rfl C dX7_crackedSet_1 (by decide) ?_
  refine y_iconst (pc' := 3) rfl (v := 0) C dX7_crackedSet_2 (by decide) ?_
  refine y_istore_n (pc' := 4) rfl C dX7_crackedSet_3 (by decide) ?_
  suffices K4 : ∀ (fu_ i4 : Nat) (Yl4 : YT), i4 ≤ np → np < fu_ + i4 → Yl4 = Y → WY X G A a Yl4 0 0 _ 4 [some (.ref (a (0, k, 7))), some (.int ((crK Y k i4))), some (.int ((nI i4))), none] [] from K4 (np + 1) 0 _ (by omega) (by omega) (rfl)
  intro fu_
  induction fu_ with
  | zero => intro i4 Yl4 h1 h2; omega
  | succ fu_ ih4 =>
    intro i4 Yl4 hi4 hm4 hYl4
    have hcl : Yl4 (0, k, 7) 0 = nI np := by rw [hYl4]; exact hc
    refine y_iload_n (pc' := 5) rfl C dX7_crackedSet_4 rfl ?_
    refine y_aload_n (pc' := 6) rfl C dX7_crackedSet_5 rfl ?_
    refine y_get (pc' := 9) rfl C fl_X7_9 (v0 hk rfl) rfl rfl dX7_crackedSet_6 rfl ?_
    refine y_ic_ge (pc' := 12) rfl (tgt := 42) C dX7_crackedSet_9 (by decide) (fun c_9 => ?_) (fun c_9 => ?_)
    · rw [hYl4, hc] at c_9
      have hb4 : np ≤ i4 := nI_le_iff (by omega) (by omega) c_9
      refine y_iload_n (pc' := 43) rfl C dX7_crackedSet_42 rfl ?_
      refine y_ireturn C rfl rfl dX7_crackedSet_43 rfl rfl ?_
      exact ⟨by rw [show i4 = np by omega], hYl4⟩
    · rw [hYl4, hc] at c_9
      have hb4 : i4 < np := nI_nle_iff (by omega) (by omega) c_9
      refine y_aload_n (pc' := 13) rfl C dX7_crackedSet_12 rfl ?_
      refine y_iload_n (pc' := 14) rfl C dX7_crackedSet_13 rfl ?_
      refine y_cVr (pc' := 17) (k' := 0) (n' := 0) rfl C (c_X7_find_in _ G a Yl4 k np i4 hk hcl hnp hb4) my_X7_find aw_362 (v0 hk rfl) rfl rfl rfl rfl rfl (Nat.le_of_ble_eq_true rfl) rfl dX7_crackedSet_14 rfl rfl (fun r_14 Y_14 hp_14 => ?_)
      obtain ⟨rfl, hY_14⟩ := hp_14
      have hY_14 := hY_14.symm; subst hY_14
      refine y_astore_n (pc' := 18) rfl C dX7_crackedSet_17 (by decide) ?_
      refine y_aload_n (pc' := 19) rfl C dX7_crackedSet_18 rfl ?_
      refine y_ifnull (pc' := 22) rfl C dX7_crackedSet_19 ?_
      refine y_aload_n (pc' := 23) rfl C dX7_crackedSet_22 rfl ?_
      refine y_get (pc' := 26) rfl C fl_X7_44 (v1 hk (show i4 < 8 by omega)) rfl rfl dX7_crackedSet_23 rfl ?_
      refine y_iconst (pc' := 27) rfl (v := 3) C dX7_crackedSet_26 (by decide) ?_
      have K27 : ∀ (x1_27 : Int32) (_ : x1_27 = (if (Yl4 (1, k, i4) 3) = 3 then ((crK Y k i4) ||| ((1 : Int32) <<< ((nI i4) &&& 31))) else (crK Y k i4))), WY X G A a Yl4 0 0 (MEnd X G A ({ frames := 1, cells := 0, slots := 0, locals := 21 } : Room) (PY G a (PI (fun r Y' => r = crK Y k np ∧ Y' = Y)))) 36 [some (.ref (a (0, k, 7))), some (.int x1_27), some (.int ((nI i4))), some (.ref (a (1, k, i4)))] [] := by
        intro x1_27 ex1_27
        refine y_iinc (pc' := 39) rfl (v := (nI (i4 + 1))) C dX7_crackedSet_36 rfl (nI_1 i4) (by decide) ?_
        refine y_goto (tgt := 4) C dX7_crackedSet_39 (by decide) ?_
        refine y_conv (L' := [some (.ref (a (0, k, 7))), some (.int ((crK Y k (i4 + 1)))), some (.int ((nI (i4 + 1)))), some (.ref (a (1, k, i4)))]) (by rw [crK, ex1_27, hYl4]; rfl) rfl ?_
        refine y_weak (L' := [some (.ref (a (0, k, 7))), some (.int ((crK Y k (i4 + 1)))), some (.int ((nI (i4 + 1)))), none]) (wk_c (wk_c (wk_c (wk_n wk_nil)))) ?_
        exact ih4 (i4 + 1) _ (by omega) (by omega) (hYl4)
      refine y_ic_ne (pc' := 30) rfl (tgt := 36) C dX7_crackedSet_27 (by decide) (fun c_27 => ?_) (fun c_27 => ?_)
      · exact K27 _ (by rw [if_neg c_27])
      · refine y_iload_n (pc' := 31) rfl C dX7_crackedSet_30 rfl ?_
        refine y_iconst (pc' := 32) rfl (v := 1) C dX7_crackedSet_31 (by decide) ?_
        refine y_iload_n (pc' := 33) rfl C dX7_crackedSet_32 rfl ?_
        refine y_ishl (pc' := 34) rfl C dX7_crackedSet_33 ?_
        refine y_ior (pc' := 35) rfl C dX7_crackedSet_34 ?_
        refine y_istore_n (pc' := 36) rfl C dX7_crackedSet_35 (by decide) ?_
        exact K27 _ (by rw [if_pos c_27])
