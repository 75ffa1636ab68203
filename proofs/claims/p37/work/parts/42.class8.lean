
/-! THE KEEPER'S ACTS. -/
def KeepP (Y Y' : YT) (c st : Nat) (s : Nat → Int32) : Prop := Y' (2, 0, 1) 0 = nI ((rg c st).1 + 1) ∧ Y' (2, 0, 1) 1 = nI (rg c st).2 ∧ RKi Y' (3 + ((rg c st).2 + (rg c st).1) % 8) s ∧ ∀ i : Id3, ¬ (i.1 ≤ 1 ∧ i.2.1 = 3 + ((rg c st).2 + (rg c st).1) % 8) → i ≠ (2, 0, 1) → Y' i = Y i
def EndP (Y Y' : YT) (c st : Nat) (s : Nat → Int32) (x r : Int32) : Prop := (x < 0 → r = x ∧ RKi Y' 0 s ∧ FrK Y Y' 0) ∧ (0 ≤ x → r = x ∧ KeepP Y Y' c st s)
def slot (c st : Nat) : Nat := 3 + ((rg c st).2 + (rg c st).1) % 8
def ActK (Y Y' : YT) (c st n : Nat) (s : Nat → Int32) (q : ActT) (r : Int32) : Prop :=
  (q.1 = 0 → r = q.2.2 ∧ RKi Y' 0 q.2.1 ∧ Inv q.2.1 (n + 1) 0 ∧ Y' (2, 0, 1) 0 = nI ((rg c st).1 + 1) ∧ Y' (2, 0, 1) 1 = nI (rg c st).2 ∧ RKi Y' (slot c st) s ∧ ∀ i : Id3, ¬ (i.1 ≤ 1 ∧ (i.2.1 ≤ 1 ∨ i.2.1 = slot c st)) → i ≠ (2, 0, 1) → Y' i = Y i) ∧
  (¬ q.1 = 0 → r = (if q.1 < 0 then q.1 else -10004) ∧ RKi Y' 0 s ∧ (0 < q.1 → Y' (2, 0, 3) 0 = q.1 ∧ Y' (2, 0, 3) 1 = q.2.2) ∧ (q.1 < 0 → Y' (2, 0, 3) = Y (2, 0, 3)) ∧ ∀ i : Id3, ¬ (i.1 ≤ 1 ∧ i.2.1 ≤ 1) → i ≠ (2, 0, 3) → Y' i = Y i)
theorem tri (x : Int32) : x = 0 ∨ x < 0 ∨ 0 < x := by
  by_cases h : x = 0
  · exact Or.inl h
  · by_cases h2 : x < 0
    · exact Or.inr (Or.inl h2)
    · exact Or.inr (Or.inr (by
        have h3 := Int32.not_lt.mp h2
        rw [Int32.lt_iff_toInt_lt]
        rw [Int32.le_iff_toInt_le] at h3
        have : x.toInt ≠ (0 : Int32).toInt := fun e => h (Int32.toInt_inj.mp e)
        omega))
theorem ActC.fr {Y Y' : YT} {k rf n : Nat} {q : ActT} {r : Int32} (h : ActC Y Y' k rf n q r) {i : Id3} (hi : ¬ (i.1 ≤ 1 ∧ i.2.1 = k)) (h2 : i ≠ (2, 0, rf)) : Y' i = Y i := by
  rcases tri q.1 with c | c | c
  · exact (h.1 c).2.2.2.1 i hi
  · rw [(h.2.1 c).2]
  · rw [(h.2.2 c).2, up_n h2, up_n h2]
theorem ActC.k1 {Y Y' : YT} {k k2 rf n : Nat} {q : ActT} {r : Int32} {s : Nat → Int32} (h : ActC Y Y' k rf n q r) (hR : RKi Y k2 s) (hk : k2 ≠ k) : RKi Y' k2 s :=
  hR.congr (fun i h1 h2 => h.fr (fun z => hk (h2.symm.trans z.2)) (ne21 h1))
theorem slot_ge (c st : Nat) : 3 ≤ slot c st := Nat.le_add_right _ _
theorem slot_lt (c st : Nat) : slot c st < 11 := by have : ((rg c st).2 + (rg c st).1) % 8 < 8 := Nat.mod_lt _ (by decide); unfold slot; omega
theorem actK_of {Y Y1 Y2 Y3 : YT} {c st n : Nat} {s : Nat → Int32} {q : ActT} {x r : Int32} (hR : RKi Y 0 s) (hb : RKi Y1 1 s ∧ FrK Y Y1 1) (ha : ActC Y1 Y2 0 3 n q x) (he : EndP Y2 Y3 c st s x r) : ActK Y Y3 c st n s q r := by
  have f3 : ∀ i : Id3, ¬ (i.1 ≤ 1 ∧ (i.2.1 ≤ 1 ∨ i.2.1 = slot c st)) → ¬ (i.1 ≤ 1 ∧ i.2.1 = 0) ∧ ¬ (i.1 ≤ 1 ∧ i.2.1 = 1) ∧ ¬ (i.1 ≤ 1 ∧ i.2.1 = slot c st) := fun i h => ⟨fun z => h ⟨z.1, Or.inl (by omega)⟩, fun z => h ⟨z.1, Or.inl (by omega)⟩, fun z => h ⟨z.1, Or.inr z.2⟩⟩
  have hs3 := slot_ge c st
  refine ⟨fun c0 => ?_, fun c0 => ?_⟩
  · obtain ⟨a1, a2, a3, a4, a5⟩ := ha.1 c0
    have hx : 0 ≤ x := by rw [a1]; exact a2
    obtain ⟨e1, e2, e3, e4, e5⟩ := he.2 hx
    refine ⟨e1.trans a1, a3.congr (fun i h1 h2 => e5 i (fun z => ?_) (ne21 h1)), a5, e2, e3, e4, fun i hi hn => ?_⟩
    · have : i.2.1 = slot c st := z.2
      omega
    · obtain ⟨g1, g2, g3⟩ := f3 i hi
      rw [e5 i g3 hn, a4 i g1, hb.2 i g2]
  · have hx : x < 0 := by
      rcases tri q.1 with z | z | z
      · exact absurd z c0
      · rw [(ha.2.1 z).1]; exact z
      · rw [(ha.2.2 z).1]; decide
    obtain ⟨e1, e2, e3⟩ := he.1 hx
    have e3' : Y3 (2, 0, 3) = Y2 (2, 0, 3) := e3 _ (fun z => absurd z.1 (by decide))
    refine ⟨?_, e2, fun z => ?_, fun z => ?_, fun i hi hn => ?_⟩
    · rw [e1]
      rcases tri q.1 with z | z | z
      · exact absurd z c0
      · rw [if_pos z, (ha.2.1 z).1]
      · rw [if_neg (fun y => absurd (Int32.lt_trans z y) (by decide)), (ha.2.2 z).1]
    · rw [e3', (ha.2.2 z).2]
      exact ⟨by rw [up_s, upd_n (by decide), up_s, upd_s], by rw [up_s, upd_s]⟩
    · rw [e3', (ha.2.1 z).2, hb.2 _ (fun z => absurd z.1 (by decide))]
    · have g1 : ¬ (i.1 ≤ 1 ∧ i.2.1 = 0) := fun z => hi ⟨z.1, by omega⟩
      have g2 : ¬ (i.1 ≤ 1 ∧ i.2.1 = 1) := fun z => hi ⟨z.1, by omega⟩
      rw [e3 i g1, ha.fr g1 hn, hb.2 i g2]
theorem in_TX12 : ∀ w ∈ u_ws RX12 TX12 9, w ∈ AW := List.forall_mem_cons.mpr ⟨aw_316, List.forall_mem_cons.mpr ⟨aw_318, List.forall_mem_cons.mpr ⟨aw_320, List.forall_mem_cons.mpr ⟨aw_322, List.forall_mem_cons.mpr ⟨aw_324, List.forall_mem_cons.mpr ⟨aw_326, List.forall_mem_cons.mpr ⟨aw_328, List.forall_mem_cons.mpr ⟨aw_330, List.forall_mem_cons.mpr ⟨aw_332, fun _ h => absurd h List.not_mem_nil⟩⟩⟩⟩⟩⟩⟩⟩⟩
theorem fl_X12_10 : FLK "KilnKeeper" 10 11 0 := ⟨RX12, TX12, 9, rfl, by decide, aw_307, in_TX12⟩
theorem fl_X12_16 : FLK "KilnKeeper" 16 11 1 := ⟨RX12, TX12, 9, rfl, by decide, aw_308, in_TX12⟩
theorem fl_X12_29 : FLK "KilnKeeper" 29 11 4 := ⟨RX12, TX12, 9, rfl, by decide, aw_311, in_TX12⟩
theorem fl_X12_36 : FLK "KilnKeeper" 36 11 5 := ⟨RX12, TX12, 9, rfl, by decide, aw_312, in_TX12⟩
theorem fl_X12_68 : FLK "KilnKeeper" 68 3 4 := ⟨RX3, TX3, 8, rfl, by decide, aw_183, in_TX3⟩
theorem fl_X12_84 : FLK "KilnKeeper" 84 3 6 := ⟨RX3, TX3, 8, rfl, by decide, aw_186, in_TX3⟩
theorem fl_X12_96 : FLK "KilnKeeper" 96 3 7 := ⟨RX3, TX3, 8, rfl, by decide, aw_188, in_TX3⟩
theorem fl_X12_106 : FLK "KilnKeeper" 106 3 0 := ⟨RX3, TX3, 8, rfl, by decide, aw_177, in_TX3⟩
theorem my_X10_tellCap : MV yX10_tellCap cX10_tellCap 4 (some .int) 2 := ⟨aw_456, aw_17, ⟨by decide, by decide, by decide +kernel⟩, aw_454, aw_455⟩
theorem my_X10_tellGains : MV yX10_tellGains cX10_tellGains 5 (some .int) 3 := ⟨aw_447, aw_17, ⟨by decide, by decide, by decide +kernel⟩, aw_445, aw_446⟩
theorem my_X12_beginChange : MV yX12_beginChange cX12_beginChange 1 none 0 := ⟨aw_387, aw_15, ⟨by decide, by decide, by decide +kernel⟩, aw_386, aw_0⟩
theorem my_X12_endChange : MV yX12_endChange cX12_endChange 2 (some .int) 1 := ⟨aw_430, aw_15, ⟨by decide, by decide, by decide +kernel⟩, aw_429, aw_1⟩
theorem my_X1_addFuel : MV yX1_addFuel cX1_addFuel 2 (some .int) 1 := ⟨aw_490, aw_19, ⟨by decide, by decide, by decide +kernel⟩, aw_488, aw_489⟩
theorem my_X2_keep : MV yX2_keep cX2_keep 3 none 1 := ⟨aw_434, aw_22, ⟨by decide, by decide, by decide +kernel⟩, aw_432, aw_433⟩
theorem my_X3_aimAt : MV yX3_aimAt cX3_aimAt 4 (some .int) 2 := ⟨aw_419, aw_16, ⟨by decide, by decide, by decide +kernel⟩, aw_417, aw_418⟩
theorem my_X3_letGo : MV yX3_letGo cX3_letGo 3 (some .int) 1 := ⟨aw_878, aw_16, ⟨by decide, by decide, by decide +kernel⟩, aw_876, aw_877⟩
theorem my_X3_tellLag : MV yX3_tellLag cX3_tellLag 4 (some .int) 2 := ⟨aw_468, aw_16, ⟨by decide, by decide, by decide +kernel⟩, aw_466, aw_467⟩
theorem my_X7_addPot : MV yX7_addPot cX7_addPot 7 (some .int) 4 := ⟨aw_499, aw_20, ⟨by decide, by decide, by decide +kernel⟩, aw_497, aw_498⟩
theorem my_X7_bringIn : MV yX7_bringIn cX7_bringIn 6 (some .int) 3 := ⟨aw_513, aw_20, ⟨by decide, by decide, by decide +kernel⟩, aw_511, aw_512⟩
theorem my_X7_bringOut : MV yX7_bringOut cX7_bringOut 5 (some .int) 3 := ⟨aw_522, aw_20, ⟨by decide, by decide, by decide +kernel⟩, aw_520, aw_521⟩
-- KilnKeeper.beginChange 
set_option maxHeartbeats 1000000 in
set_option maxRecDepth 20000 in
theorem c_X12_beginChange (l : Launch) (G : GT) (a : Id3 → Nat) (Y : YT) (n : Nat) (s : Nat → Int32)  (hR : RKi Y 0 s) (hI : MB s n) : CtY l G a yX12_beginChange cX12_beginChange 1 none ({ frames := 3, cells := 0, slots := 0, locals := 66 } : Room) [.ref (a (2, 0, 0))] Y (PV (fun Y' => RKi Y' 1 s ∧ FrK Y Y' 1)) := by
  refine CtY.of (by decide) rfl (Nat.le_of_ble_eq_true rfl) ?_
  intro X A C hl
  subst hl
  refine y_aload_n (pc' := 1) rfl C dX12_beginChange_0 rfl ?_
  refine y_get (pc' := 4) rfl (v := .ref (a (0, 1, 0))) C fl_X12_16 (v2 rfl) rfl rfl dX12_beginChange_1 rfl ?_
  refine y_aload_n (pc' := 5) rfl C dX12_beginChange_4 rfl ?_
  refine y_get (pc' := 8) rfl (v := .ref (a (0, 0, 0))) C fl_X12_10 (v2 rfl) rfl rfl dX12_beginChange_5 rfl ?_
  refine y_cVv (pc' := 11) (k' := 0) (n' := 0) rfl C (c_X3_copyFrom _ G a Y 1 0 n s k1 k0 (by decide) hR hI) my_X3_copyFrom aw_388 (v0 k1 rfl) rfl rfl rfl rfl rfl (Nat.le_of_ble_eq_true rfl) rfl dX12_beginChange_8 rfl rfl (fun Y_8 hY_8 => ?_)
  refine y_return C rfl dX12_beginChange_11 rfl rfl ?_
  exact hY_8
-- KilnKeeper.endChange 
set_option maxHeartbeats 1000000 in
set_option maxRecDepth 20000 in
theorem c_X12_endChange (l : Launch) (G : GT) (a : Id3 → Nat) (Y : YT) (c st n : Nat) (s : Nat → Int32) (x : Int32)  (hc : Y (2, 0, 1) 0 = nI c) (hc8' : c ≤ 8) (hst : Y (2, 0, 1) 1 = nI st) (hst8 : st < 8) (hR : RKi Y 1 s) (hI : MB s n) : CtY l G a yX12_endChange cX12_endChange 2 (some .int) ({ frames := 4, cells := 0, slots := 0, locals := 88 } : Room) [.ref (a (2, 0, 0)), .int x] Y (PI (fun r Y' => EndP Y Y' c st s x r)) := by
  refine CtY.of (by decide) rfl (Nat.le_of_ble_eq_true rfl) ?_
  intro X A C hl
  subst hl
  refine y_iload_n (pc' := 1) rfl C dX12_endChange_0 rfl ?_
  refine y_if_ge (pc' := 4) rfl (tgt := 18) C dX12_endChange_1 (by decide) (fun c_1 => ?_) (fun c_1 => ?_)
  · refine y_aload_n (pc' := 19) rfl C dX12_endChange_18 rfl ?_
    refine y_get (pc' := 22) rfl (v := .ref (a (2, 0, 1))) C fl_X12_29 (v2 rfl) rfl rfl dX12_endChange_19 rfl ?_
    refine y_aload_n (pc' := 23) rfl C dX12_endChange_22 rfl ?_
    refine y_get (pc' := 26) rfl (v := .ref (a (0, 1, 0))) C fl_X12_16 (v2 rfl) rfl rfl dX12_endChange_23 rfl ?_
    refine y_cVv (pc' := 29) (k' := 0) (n' := 0) rfl C (c_X2_keep _ G a Y c st n s hc hc8' hst hst8 hR hI) my_X2_keep aw_431 (v2 rfl) rfl rfl rfl rfl rfl (Nat.le_of_ble_eq_true rfl) rfl dX12_endChange_26 rfl rfl (fun Y_26 hY_26 => ?_)
    refine y_iload_n (pc' := 30) rfl C dX12_endChange_29 rfl ?_
    refine y_ireturn C rfl rfl dX12_endChange_30 rfl rfl ?_
    exact ⟨fun q => absurd c_1 (Int32.not_le.mpr q), fun _ => ⟨rfl, hY_26⟩⟩
  · refine y_aload_n (pc' := 5) rfl C dX12_endChange_4 rfl ?_
    refine y_get (pc' := 8) rfl (v := .ref (a (0, 0, 0))) C fl_X12_10 (v2 rfl) rfl rfl dX12_endChange_5 rfl ?_
    refine y_aload_n (pc' := 9) rfl C dX12_endChange_8 rfl ?_
    refine y_get (pc' := 12) rfl (v := .ref (a (0, 1, 0))) C fl_X12_16 (v2 rfl) rfl rfl dX12_endChange_9 rfl ?_
    refine y_cVv (pc' := 15) (k' := 0) (n' := 0) rfl C (c_X3_copyFrom _ G a Y 0 1 n s k0 k1 (by decide) hR hI) my_X3_copyFrom aw_388 (v0 k0 rfl) rfl rfl rfl rfl rfl (Nat.le_of_ble_eq_true rfl) rfl dX12_endChange_12 rfl rfl (fun Y_12 hY_12 => ?_)
    refine y_goto (tgt := 29) C dX12_endChange_15 (by decide) ?_
    refine y_iload_n (pc' := 30) rfl C dX12_endChange_29 rfl ?_
    refine y_ireturn C rfl rfl dX12_endChange_30 rfl rfl ?_
    exact ⟨fun _ => ⟨rfl, hY_12⟩, fun q => absurd q c_1⟩
-- KilnKeeper.aim 
set_option maxHeartbeats 1000000 in
set_option maxRecDepth 20000 in
theorem c_X12_aim (l : Launch) (G : GT) (a : Id3 → Nat) (Y : YT) (c st n : Nat) (s : Nat → Int32) (d : Int32)  (hc : Y (2, 0, 1) 0 = nI c) (hc8' : c ≤ 8) (hst : Y (2, 0, 1) 1 = nI st) (hst8 : st < 8) (hR : RKi Y 0 s) (hI : Inv s n 0) (hn : n ≤ 100000) : CtY l G a yX12_aim cX12_aim 2 (some .int) ({ frames := 5, cells := 0, slots := 0, locals := 109 } : Room) [.ref (a (2, 0, 0)), .int d] Y (PI (fun r Y' => ActK Y Y' c st n s (aimA s d) r)) := by
  refine CtY.of (by decide) rfl (Nat.le_of_ble_eq_true rfl) ?_
  intro X A C hl
  subst hl
  refine y_aload_n (pc' := 1) rfl C dX12_aim_0 rfl ?_
  refine y_cVv (pc' := 4) (k' := 0) (n' := 0) rfl C (c_X12_beginChange _ G a Y n s hR hI.mb) my_X12_beginChange aw_384 (v2 rfl) rfl rfl rfl rfl rfl (Nat.le_of_ble_eq_true rfl) rfl dX12_aim_1 rfl rfl (fun Y_1 hY_1 => ?_)
  have hR1 : RKi Y_1 0 s := hR.fr hY_1.2 (by decide)
  have hg1 : Y_1 (2, 0, 1) = Y (2, 0, 1) := hY_1.2 _ (fun z => absurd z.1 (by decide))
  refine y_aload_n (pc' := 5) rfl C dX12_aim_4 rfl ?_
  refine y_aload_n (pc' := 6) rfl C dX12_aim_5 rfl ?_
  refine y_get (pc' := 9) rfl (v := .ref (a (0, 0, 0))) C fl_X12_10 (v2 rfl) rfl rfl dX12_aim_6 rfl ?_
  refine y_iload_n (pc' := 10) rfl C dX12_aim_9 rfl ?_
  refine y_aload_n (pc' := 11) rfl C dX12_aim_10 rfl ?_
  refine y_get (pc' := 14) rfl (v := .ref (a (2, 0, 3))) C fl_X12_36 (v2 rfl) rfl rfl dX12_aim_11 rfl ?_
  refine y_cVi (pc' := 17) (k' := 0) (n' := 0) rfl C (c_X3_aimAt _ G a Y_1 0 3 d k0 (Or.inl rfl)) my_X3_aimAt aw_416 (v0 k0 rfl) rfl rfl rfl rfl rfl (Nat.le_of_ble_eq_true rfl) rfl dX12_aim_14 rfl rfl (fun r_14 Y_14 hp_14 => ?_)
  obtain ⟨hr_14, hY_14⟩ := hp_14
  have hA : ActC Y_1 Y_14 0 3 n (aimA s d) r_14 := aim_C hR1 hI ⟨hr_14, hY_14⟩
  have hg2 : Y_14 (2, 0, 1) = Y (2, 0, 1) := (hA.fr (fun z => absurd z.1 (by decide)) (by decide)).trans hg1
  refine y_cVi (pc' := 20) (k' := 0) (n' := 0) rfl C (c_X12_endChange _ G a Y_14 c st n s r_14 (by rw [hg2]; exact hc) hc8' (by rw [hg2]; exact hst) hst8 (hA.k1 hY_1.1 (by decide)) hI.mb) my_X12_endChange aw_427 (v2 rfl) rfl rfl rfl rfl rfl (Nat.le_of_ble_eq_true rfl) rfl dX12_aim_17 rfl rfl (fun r_17 Y_17 hp_17 => ?_)
  refine y_ireturn C rfl rfl dX12_aim_20 rfl rfl ?_
  exact actK_of hR hY_1 hA hp_17
-- KilnKeeper.gains 
set_option maxHeartbeats 1000000 in
set_option maxRecDepth 20000 in
theorem c_X12_gains (l : Launch) (G : GT) (a : Id3 → Nat) (Y : YT) (c st n : Nat) (s : Nat → Int32) (e u v : Int32)  (hc : Y (2, 0, 1) 0 = nI c) (hc8' : c ≤ 8) (hst : Y (2, 0, 1) 1 = nI st) (hst8 : st < 8) (hR : RKi Y 0 s) (hI : Inv s n 0) (hn : n ≤ 100000) : CtY l G a yX12_gains cX12_gains 4 (some .int) ({ frames := 5, cells := 0, slots := 0, locals := 109 } : Room) [.ref (a (2, 0, 0)), .int e, .int u, .int v] Y (PI (fun r Y' => ActK Y Y' c st n s (gainA s e u v) r)) := by
  refine CtY.of (by decide) rfl (Nat.le_of_ble_eq_true rfl) ?_
  intro X A C hl
  subst hl
  refine y_aload_n (pc' := 1) rfl C dX12_gains_0 rfl ?_
  refine y_cVv (pc' := 4) (k' := 0) (n' := 0) rfl C (c_X12_beginChange _ G a Y n s hR hI.mb) my_X12_beginChange aw_384 (v2 rfl) rfl rfl rfl rfl rfl (Nat.le_of_ble_eq_true rfl) rfl dX12_gains_1 rfl rfl (fun Y_1 hY_1 => ?_)
  have hR1 : RKi Y_1 0 s := hR.fr hY_1.2 (by decide)
  have hg1 : Y_1 (2, 0, 1) = Y (2, 0, 1) := hY_1.2 _ (fun z => absurd z.1 (by decide))
  refine y_aload_n (pc' := 5) rfl C dX12_gains_4 rfl ?_
  refine y_aload_n (pc' := 6) rfl C dX12_gains_5 rfl ?_
  refine y_get (pc' := 9) rfl (v := .ref (a (0, 0, 0))) C fl_X12_10 (v2 rfl) rfl rfl dX12_gains_6 rfl ?_
  refine y_get (pc' := 12) rfl (v := .ref (a (0, 0, 1))) C fl_X12_68 (v0 k0 rfl) rfl rfl dX12_gains_9 rfl ?_
  refine y_iload_n (pc' := 13) rfl C dX12_gains_12 rfl ?_
  refine y_iload_n (pc' := 14) rfl C dX12_gains_13 rfl ?_
  refine y_iload_n (pc' := 15) rfl C dX12_gains_14 rfl ?_
  refine y_cVi (pc' := 18) (k' := 0) (n' := 0) rfl C (c_X10_tellGains _ G a Y_1 0 e u v k0) my_X10_tellGains aw_444 (v0 k0 rfl) rfl rfl rfl rfl rfl (Nat.le_of_ble_eq_true rfl) rfl dX12_gains_15 rfl rfl (fun r_15 Y_15 hp_15 => ?_)
  obtain ⟨hr_15, hY_15⟩ := hp_15
  have hA : ActC Y_1 Y_15 0 3 n (gainA s e u v) r_15 := gain_C hR1 hI ⟨hr_15, hY_15⟩
  have hg2 : Y_15 (2, 0, 1) = Y (2, 0, 1) := (hA.fr (fun z => absurd z.1 (by decide)) (by decide)).trans hg1
  refine y_cVi (pc' := 21) (k' := 0) (n' := 0) rfl C (c_X12_endChange _ G a Y_15 c st n s r_15 (by rw [hg2]; exact hc) hc8' (by rw [hg2]; exact hst) hst8 (hA.k1 hY_1.1 (by decide)) hI.mb) my_X12_endChange aw_427 (v2 rfl) rfl rfl rfl rfl rfl (Nat.le_of_ble_eq_true rfl) rfl dX12_gains_18 rfl rfl (fun r_18 Y_18 hp_18 => ?_)
  refine y_ireturn C rfl rfl dX12_gains_21 rfl rfl ?_
  exact actK_of hR hY_1 hA hp_18
-- KilnKeeper.cap 
set_option maxHeartbeats 1000000 in
set_option maxRecDepth 20000 in
theorem c_X12_cap (l : Launch) (G : GT) (a : Id3 → Nat) (Y : YT) (c st n : Nat) (s : Nat → Int32) (x : Int32)  (hc : Y (2, 0, 1) 0 = nI c) (hc8' : c ≤ 8) (hst : Y (2, 0, 1) 1 = nI st) (hst8 : st < 8) (hR : RKi Y 0 s) (hI : Inv s n 0) (hn : n ≤ 100000) : CtY l G a yX12_cap cX12_cap 2 (some .int) ({ frames := 5, cells := 0, slots := 0, locals := 109 } : Room) [.ref (a (2, 0, 0)), .int x] Y (PI (fun r Y' => ActK Y Y' c st n s (capA s x) r)) := by
  refine CtY.of (by decide) rfl (Nat.le_of_ble_eq_true rfl) ?_
  intro X A C hl
  subst hl
  refine y_aload_n (pc' := 1) rfl C dX12_cap_0 rfl ?_
  refine y_cVv (pc' := 4) (k' := 0) (n' := 0) rfl C (c_X12_beginChange _ G a Y n s hR hI.mb) my_X12_beginChange aw_384 (v2 rfl) rfl rfl rfl rfl rfl (Nat.le_of_ble_eq_true rfl) rfl dX12_cap_1 rfl rfl (fun Y_1 hY_1 => ?_)
  have hR1 : RKi Y_1 0 s := hR.fr hY_1.2 (by decide)
  have hg1 : Y_1 (2, 0, 1) = Y (2, 0, 1) := hY_1.2 _ (fun z => absurd z.1 (by decide))
  refine y_aload_n (pc' := 5) rfl C dX12_cap_4 rfl ?_
  refine y_aload_n (pc' := 6) rfl C dX12_cap_5 rfl ?_
  refine y_get (pc' := 9) rfl (v := .ref (a (0, 0, 0))) C fl_X12_10 (v2 rfl) rfl rfl dX12_cap_6 rfl ?_
  refine y_get (pc' := 12) rfl (v := .ref (a (0, 0, 1))) C fl_X12_68 (v0 k0 rfl) rfl rfl dX12_cap_9 rfl ?_
  refine y_iload_n (pc' := 13) rfl C dX12_cap_12 rfl ?_
  refine y_aload_n (pc' := 14) rfl C dX12_cap_13 rfl ?_
  refine y_get (pc' := 17) rfl (v := .ref (a (2, 0, 3))) C fl_X12_36 (v2 rfl) rfl rfl dX12_cap_14 rfl ?_
  refine y_cVi (pc' := 20) (k' := 0) (n' := 0) rfl C (c_X10_tellCap _ G a Y_1 0 3 x k0 (Or.inl rfl)) my_X10_tellCap aw_453 (v0 k0 rfl) rfl rfl rfl rfl rfl (Nat.le_of_ble_eq_true rfl) rfl dX12_cap_17 rfl rfl (fun r_17 Y_17 hp_17 => ?_)
  obtain ⟨hr_17, hY_17⟩ := hp_17
  have hA : ActC Y_1 Y_17 0 3 n (capA s x) r_17 := cap_C hR1 hI ⟨hr_17, hY_17⟩
  have hg2 : Y_17 (2, 0, 1) = Y (2, 0, 1) := (hA.fr (fun z => absurd z.1 (by decide)) (by decide)).trans hg1
  refine y_cVi (pc' := 23) (k' := 0) (n' := 0) rfl C (c_X12_endChange _ G a Y_17 c st n s r_17 (by rw [hg2]; exact hc) hc8' (by rw [hg2]; exact hst) hst8 (hA.k1 hY_1.1 (by decide)) hI.mb) my_X12_endChange aw_427 (v2 rfl) rfl rfl rfl rfl rfl (Nat.le_of_ble_eq_true rfl) rfl dX12_cap_20 rfl rfl (fun r_20 Y_20 hp_20 => ?_)
  refine y_ireturn C rfl rfl dX12_cap_23 rfl rfl ?_
  exact actK_of hR hY_1 hA hp_20
-- KilnKeeper.lag 
set_option maxHeartbeats 1000000 in
set_option maxRecDepth 20000 in
theorem c_X12_lag (l : Launch) (G : GT) (a : Id3 → Nat) (Y : YT) (c st n : Nat) (s : Nat → Int32) (m : Int32)  (hc : Y (2, 0, 1) 0 = nI c) (hc8' : c ≤ 8) (hst : Y (2, 0, 1) 1 = nI st) (hst8 : st < 8) (hR : RKi Y 0 s) (hI : Inv s n 0) (hn : n ≤ 100000) : CtY l G a yX12_lag cX12_lag 2 (some .int) ({ frames := 5, cells := 0, slots := 0, locals := 109 } : Room) [.ref (a (2, 0, 0)), .int m] Y (PI (fun r Y' => ActK Y Y' c st n s (lagA s m) r)) := by
  refine CtY.of (by decide) rfl (Nat.le_of_ble_eq_true rfl) ?_
  intro X A C hl
  subst hl
  refine y_aload_n (pc' := 1) rfl C dX12_lag_0 rfl ?_
  refine y_cVv (pc' := 4) (k' := 0) (n' := 0) rfl C (c_X12_beginChange _ G a Y n s hR hI.mb) my_X12_beginChange aw_384 (v2 rfl) rfl rfl rfl rfl rfl (Nat.le_of_ble_eq_true rfl) rfl dX12_lag_1 rfl rfl (fun Y_1 hY_1 => ?_)
  have hR1 : RKi Y_1 0 s := hR.fr hY_1.2 (by decide)
  have hg1 : Y_1 (2, 0, 1) = Y (2, 0, 1) := hY_1.2 _ (fun z => absurd z.1 (by decide))
  refine y_aload_n (pc' := 5) rfl C dX12_lag_4 rfl ?_
  refine y_aload_n (pc' := 6) rfl C dX12_lag_5 rfl ?_
  refine y_get (pc' := 9) rfl (v := .ref (a (0, 0, 0))) C fl_X12_10 (v2 rfl) rfl rfl dX12_lag_6 rfl ?_
  refine y_iload_n (pc' := 10) rfl C dX12_lag_9 rfl ?_
  refine y_aload_n (pc' := 11) rfl C dX12_lag_10 rfl ?_
  refine y_get (pc' := 14) rfl (v := .ref (a (2, 0, 3))) C fl_X12_36 (v2 rfl) rfl rfl dX12_lag_11 rfl ?_
  refine y_cVi (pc' := 17) (k' := 0) (n' := 0) rfl C (c_X3_tellLag _ G a Y_1 0 (nn (s 8)) 3 m k0 (hR1.hl hI.mb) hI.mb.lg.2 (Or.inl rfl)) my_X3_tellLag aw_465 (v0 k0 rfl) rfl rfl rfl rfl rfl (Nat.le_of_ble_eq_true rfl) rfl dX12_lag_14 rfl rfl (fun r_14 Y_14 hp_14 => ?_)
  obtain ⟨hr_14, hY_14⟩ := hp_14
  have hA : ActC Y_1 Y_14 0 3 n (lagA s m) r_14 := lag_C hR1 hI rfl ⟨hr_14, hY_14⟩
  have hg2 : Y_14 (2, 0, 1) = Y (2, 0, 1) := (hA.fr (fun z => absurd z.1 (by decide)) (by decide)).trans hg1
  refine y_cVi (pc' := 20) (k' := 0) (n' := 0) rfl C (c_X12_endChange _ G a Y_14 c st n s r_14 (by rw [hg2]; exact hc) hc8' (by rw [hg2]; exact hst) hst8 (hA.k1 hY_1.1 (by decide)) hI.mb) my_X12_endChange aw_427 (v2 rfl) rfl rfl rfl rfl rfl (Nat.le_of_ble_eq_true rfl) rfl dX12_lag_17 rfl rfl (fun r_17 Y_17 hp_17 => ?_)
  refine y_ireturn C rfl rfl dX12_lag_20 rfl rfl ?_
  exact actK_of hR hY_1 hA hp_17
-- KilnKeeper.fuel 
set_option maxHeartbeats 1000000 in
set_option maxRecDepth 20000 in
theorem c_X12_fuel (l : Launch) (G : GT) (a : Id3 → Nat) (Y : YT) (c st n : Nat) (s : Nat → Int32) (f : Int32)  (hc : Y (2, 0, 1) 0 = nI c) (hc8' : c ≤ 8) (hst : Y (2, 0, 1) 1 = nI st) (hst8 : st < 8) (hR : RKi Y 0 s) (hI : Inv s n 0) (hn : n ≤ 100000) : CtY l G a yX12_fuel cX12_fuel 2 (some .int) ({ frames := 5, cells := 0, slots := 0, locals := 109 } : Room) [.ref (a (2, 0, 0)), .int f] Y (PI (fun r Y' => ActK Y Y' c st n s (fuelA s f) r)) := by
  refine CtY.of (by decide) rfl (Nat.le_of_ble_eq_true rfl) ?_
  intro X A C hl
  subst hl
  refine y_aload_n (pc' := 1) rfl C dX12_fuel_0 rfl ?_
  refine y_cVv (pc' := 4) (k' := 0) (n' := 0) rfl C (c_X12_beginChange _ G a Y n s hR hI.mb) my_X12_beginChange aw_384 (v2 rfl) rfl rfl rfl rfl rfl (Nat.le_of_ble_eq_true rfl) rfl dX12_fuel_1 rfl rfl (fun Y_1 hY_1 => ?_)
  have hR1 : RKi Y_1 0 s := hR.fr hY_1.2 (by decide)
  have hg1 : Y_1 (2, 0, 1) = Y (2, 0, 1) := hY_1.2 _ (fun z => absurd z.1 (by decide))
  refine y_aload_n (pc' := 5) rfl C dX12_fuel_4 rfl ?_
  refine y_aload_n (pc' := 6) rfl C dX12_fuel_5 rfl ?_
  refine y_get (pc' := 9) rfl (v := .ref (a (0, 0, 0))) C fl_X12_10 (v2 rfl) rfl rfl dX12_fuel_6 rfl ?_
  refine y_get (pc' := 12) rfl (v := .ref (a (0, 0, 4))) C fl_X12_84 (v0 k0 rfl) rfl rfl dX12_fuel_9 rfl ?_
  refine y_iload_n (pc' := 13) rfl C dX12_fuel_12 rfl ?_
  refine y_cVi (pc' := 16) (k' := 0) (n' := 0) rfl C (c_X1_addFuel _ G a Y_1 0 f k0) my_X1_addFuel aw_487 (v0 k0 rfl) rfl rfl rfl rfl rfl (Nat.le_of_ble_eq_true rfl) rfl dX12_fuel_13 rfl rfl (fun r_13 Y_13 hp_13 => ?_)
  obtain ⟨hr_13, hY_13⟩ := hp_13
  have hA : ActC Y_1 Y_13 0 3 n (fuelA s f) r_13 := fuel_C hR1 hI hn ⟨hr_13, hY_13⟩
  have hg2 : Y_13 (2, 0, 1) = Y (2, 0, 1) := (hA.fr (fun z => absurd z.1 (by decide)) (by decide)).trans hg1
  refine y_cVi (pc' := 19) (k' := 0) (n' := 0) rfl C (c_X12_endChange _ G a Y_13 c st n s r_13 (by rw [hg2]; exact hc) hc8' (by rw [hg2]; exact hst) hst8 (hA.k1 hY_1.1 (by decide)) hI.mb) my_X12_endChange aw_427 (v2 rfl) rfl rfl rfl rfl rfl (Nat.le_of_ble_eq_true rfl) rfl dX12_fuel_16 rfl rfl (fun r_16 Y_16 hp_16 => ?_)
  refine y_ireturn C rfl rfl dX12_fuel_19 rfl rfl ?_
  exact actK_of hR hY_1 hA hp_16
-- KilnKeeper.go 
set_option maxHeartbeats 1000000 in
set_option maxRecDepth 20000 in
theorem c_X12_go (l : Launch) (G : GT) (a : Id3 → Nat) (Y : YT) (c st n : Nat) (s : Nat → Int32) (m : Int32)  (hc : Y (2, 0, 1) 0 = nI c) (hc8' : c ≤ 8) (hst : Y (2, 0, 1) 1 = nI st) (hst8 : st < 8) (hR : RKi Y 0 s) (hI : Inv s n 0) (hn : n ≤ 100000) : CtY l G a yX12_go cX12_go 2 (some .int) ({ frames := 5, cells := 0, slots := 0, locals := 113 } : Room) [.ref (a (2, 0, 0)), .int m] Y (PI (fun r Y' => ActK Y Y' c st n s (goA s m) r)) := by
  refine CtY.of (by decide) rfl (Nat.le_of_ble_eq_true rfl) ?_
  intro X A C hl
  subst hl
  refine y_aload_n (pc' := 1) rfl C dX12_go_0 rfl ?_
  refine y_cVv (pc' := 4) (k' := 0) (n' := 0) rfl C (c_X12_beginChange _ G a Y n s hR hI.mb) my_X12_beginChange aw_384 (v2 rfl) rfl rfl rfl rfl rfl (Nat.le_of_ble_eq_true rfl) rfl dX12_go_1 rfl rfl (fun Y_1 hY_1 => ?_)
  have hR1 : RKi Y_1 0 s := hR.fr hY_1.2 (by decide)
  have hg1 : Y_1 (2, 0, 1) = Y (2, 0, 1) := hY_1.2 _ (fun z => absurd z.1 (by decide))
  refine y_aload_n (pc' := 5) rfl C dX12_go_4 rfl ?_
  refine y_aload_n (pc' := 6) rfl C dX12_go_5 rfl ?_
  refine y_get (pc' := 9) rfl (v := .ref (a (0, 0, 0))) C fl_X12_10 (v2 rfl) rfl rfl dX12_go_6 rfl ?_
  refine y_iload_n (pc' := 10) rfl C dX12_go_9 rfl ?_
  refine y_cVi (pc' := 13) (k' := 0) (n' := 0) rfl C (c_X3_letGo _ G a Y_1 0 n s m k0 hR1 hI hn) my_X3_letGo aw_875 (v0 k0 rfl) rfl rfl rfl rfl rfl (Nat.le_of_ble_eq_true rfl) rfl dX12_go_10 rfl rfl (fun r_10 Y_10 hp_10 => ?_)
  obtain ⟨hr_10, hY_10⟩ := hp_10
  have hA : ActC Y_1 Y_10 0 3 n (goA s m) r_10 := go_C hI hn ⟨hr_10, hY_10⟩
  have hg2 : Y_10 (2, 0, 1) = Y (2, 0, 1) := (hA.fr (fun z => absurd z.1 (by decide)) (by decide)).trans hg1
  refine y_cVi (pc' := 16) (k' := 0) (n' := 0) rfl C (c_X12_endChange _ G a Y_10 c st n s r_10 (by rw [hg2]; exact hc) hc8' (by rw [hg2]; exact hst) hst8 (hA.k1 hY_1.1 (by decide)) hI.mb) my_X12_endChange aw_427 (v2 rfl) rfl rfl rfl rfl rfl (Nat.le_of_ble_eq_true rfl) rfl dX12_go_13 rfl rfl (fun r_13 Y_13 hp_13 => ?_)
  refine y_ireturn C rfl rfl dX12_go_16 rfl rfl ?_
  exact actK_of hR hY_1 hA hp_13
-- KilnKeeper.pot 
set_option maxHeartbeats 1000000 in
set_option maxRecDepth 20000 in
theorem c_X12_pot (l : Launch) (G : GT) (a : Id3 → Nat) (Y : YT) (c st n : Nat) (s : Nat → Int32) (sh ne so : Int32)  (hc : Y (2, 0, 1) 0 = nI c) (hc8' : c ≤ 8) (hst : Y (2, 0, 1) 1 = nI st) (hst8 : st < 8) (hR : RKi Y 0 s) (hI : Inv s n 0) (hn : n ≤ 100000) : CtY l G a yX12_pot cX12_pot 4 (some .int) ({ frames := 5, cells := 0, slots := 0, locals := 109 } : Room) [.ref (a (2, 0, 0)), .int sh, .int ne, .int so] Y (PI (fun r Y' => ActK Y Y' c st n s (potA s sh ne so) r)) := by
  refine CtY.of (by decide) rfl (Nat.le_of_ble_eq_true rfl) ?_
  intro X A C hl
  subst hl
  refine y_aload_n (pc' := 1) rfl C dX12_pot_0 rfl ?_
  refine y_cVv (pc' := 4) (k' := 0) (n' := 0) rfl C (c_X12_beginChange _ G a Y n s hR hI.mb) my_X12_beginChange aw_384 (v2 rfl) rfl rfl rfl rfl rfl (Nat.le_of_ble_eq_true rfl) rfl dX12_pot_1 rfl rfl (fun Y_1 hY_1 => ?_)
  have hR1 : RKi Y_1 0 s := hR.fr hY_1.2 (by decide)
  have hg1 : Y_1 (2, 0, 1) = Y (2, 0, 1) := hY_1.2 _ (fun z => absurd z.1 (by decide))
  refine y_aload_n (pc' := 5) rfl C dX12_pot_4 rfl ?_
  refine y_aload_n (pc' := 6) rfl C dX12_pot_5 rfl ?_
  refine y_get (pc' := 9) rfl (v := .ref (a (0, 0, 0))) C fl_X12_10 (v2 rfl) rfl rfl dX12_pot_6 rfl ?_
  refine y_get (pc' := 12) rfl (v := .ref (a (0, 0, 7))) C fl_X12_96 (v0 k0 rfl) rfl rfl dX12_pot_9 rfl ?_
  refine y_iload_n (pc' := 13) rfl C dX12_pot_12 rfl ?_
  refine y_iload_n (pc' := 14) rfl C dX12_pot_13 rfl ?_
  refine y_iload_n (pc' := 15) rfl C dX12_pot_14 rfl ?_
  refine y_aload_n (pc' := 16) rfl C dX12_pot_15 rfl ?_
  refine y_get (pc' := 19) rfl (v := .ref (a (2, 0, 3))) C fl_X12_36 (v2 rfl) rfl rfl dX12_pot_16 rfl ?_
  refine y_cVi (pc' := 22) (k' := 0) (n' := 0) rfl C (c_X7_addPot _ G a Y_1 0 (nn (s 15)) 3 sh ne so k0 (hR1.hc hI.mb) hI.mb.np.2 (Or.inl rfl)) my_X7_addPot aw_496 (v0 k0 rfl) rfl rfl rfl rfl rfl (Nat.le_of_ble_eq_true rfl) rfl dX12_pot_19 rfl rfl (fun r_19 Y_19 hp_19 => ?_)
  obtain ⟨hr_19, hY_19⟩ := hp_19
  have hA : ActC Y_1 Y_19 0 3 n (potA s sh ne so) r_19 := pot_C hR1 hI rfl ⟨hr_19, hY_19⟩
  have hg2 : Y_19 (2, 0, 1) = Y (2, 0, 1) := (hA.fr (fun z => absurd z.1 (by decide)) (by decide)).trans hg1
  refine y_cVi (pc' := 25) (k' := 0) (n' := 0) rfl C (c_X12_endChange _ G a Y_19 c st n s r_19 (by rw [hg2]; exact hc) hc8' (by rw [hg2]; exact hst) hst8 (hA.k1 hY_1.1 (by decide)) hI.mb) my_X12_endChange aw_427 (v2 rfl) rfl rfl rfl rfl rfl (Nat.le_of_ble_eq_true rfl) rfl dX12_pot_22 rfl rfl (fun r_22 Y_22 hp_22 => ?_)
  refine y_ireturn C rfl rfl dX12_pot_25 rfl rfl ?_
  exact actK_of hR hY_1 hA hp_22
-- KilnKeeper.put 
set_option maxHeartbeats 1000000 in
set_option maxRecDepth 20000 in
theorem c_X12_put (l : Launch) (G : GT) (a : Id3 → Nat) (Y : YT) (c st n : Nat) (s : Nat → Int32) (p : Int32)  (hc : Y (2, 0, 1) 0 = nI c) (hc8' : c ≤ 8) (hst : Y (2, 0, 1) 1 = nI st) (hst8 : st < 8) (hR : RKi Y 0 s) (hI : Inv s n 0) (hn : n ≤ 100000) : CtY l G a yX12_put cX12_put 2 (some .int) ({ frames := 5, cells := 0, slots := 0, locals := 109 } : Room) [.ref (a (2, 0, 0)), .int p] Y (PI (fun r Y' => ActK Y Y' c st n s (putA s p) r)) := by
  refine CtY.of (by decide) rfl (Nat.le_of_ble_eq_true rfl) ?_
  intro X A C hl
  subst hl
  refine y_aload_n (pc' := 1) rfl C dX12_put_0 rfl ?_
  refine y_cVv (pc' := 4) (k' := 0) (n' := 0) rfl C (c_X12_beginChange _ G a Y n s hR hI.mb) my_X12_beginChange aw_384 (v2 rfl) rfl rfl rfl rfl rfl (Nat.le_of_ble_eq_true rfl) rfl dX12_put_1 rfl rfl (fun Y_1 hY_1 => ?_)
  have hR1 : RKi Y_1 0 s := hR.fr hY_1.2 (by decide)
  have hg1 : Y_1 (2, 0, 1) = Y (2, 0, 1) := hY_1.2 _ (fun z => absurd z.1 (by decide))
  refine y_aload_n (pc' := 5) rfl C dX12_put_4 rfl ?_
  refine y_aload_n (pc' := 6) rfl C dX12_put_5 rfl ?_
  refine y_get (pc' := 9) rfl (v := .ref (a (0, 0, 0))) C fl_X12_10 (v2 rfl) rfl rfl dX12_put_6 rfl ?_
  refine y_get (pc' := 12) rfl (v := .ref (a (0, 0, 7))) C fl_X12_96 (v0 k0 rfl) rfl rfl dX12_put_9 rfl ?_
  refine y_iload_n (pc' := 13) rfl C dX12_put_12 rfl ?_
  refine y_aload_n (pc' := 14) rfl C dX12_put_13 rfl ?_
  refine y_get (pc' := 17) rfl (v := .ref (a (0, 0, 0))) C fl_X12_10 (v2 rfl) rfl rfl dX12_put_14 rfl ?_
  refine y_get (pc' := 20) rfl C fl_X12_106 (v0 k0 rfl) rfl rfl dX12_put_17 rfl ?_
  refine y_aload_n (pc' := 21) rfl C dX12_put_20 rfl ?_
  refine y_get (pc' := 24) rfl (v := .ref (a (2, 0, 3))) C fl_X12_36 (v2 rfl) rfl rfl dX12_put_21 rfl ?_
  refine y_cVi (pc' := 27) (k' := 0) (n' := 0) rfl C (c_X7_bringIn _ G a Y_1 0 (nn (s 15)) 3 p (Y_1 (0, 0, 0) 0) k0 (hR1.hc hI.mb) hI.mb.np.2 (Or.inl rfl)) my_X7_bringIn aw_510 (v0 k0 rfl) rfl rfl rfl rfl rfl (Nat.le_of_ble_eq_true rfl) rfl dX12_put_24 rfl rfl (fun r_24 Y_24 hp_24 => ?_)
  obtain ⟨hr_24, hY_24⟩ := hp_24
  have hA : ActC Y_1 Y_24 0 3 n (putA s p) r_24 := put_C hR1 hI rfl hR1.1.1 ⟨hr_24, hY_24⟩
  have hg2 : Y_24 (2, 0, 1) = Y (2, 0, 1) := (hA.fr (fun z => absurd z.1 (by decide)) (by decide)).trans hg1
  refine y_cVi (pc' := 30) (k' := 0) (n' := 0) rfl C (c_X12_endChange _ G a Y_24 c st n s r_24 (by rw [hg2]; exact hc) hc8' (by rw [hg2]; exact hst) hst8 (hA.k1 hY_1.1 (by decide)) hI.mb) my_X12_endChange aw_427 (v2 rfl) rfl rfl rfl rfl rfl (Nat.le_of_ble_eq_true rfl) rfl dX12_put_27 rfl rfl (fun r_27 Y_27 hp_27 => ?_)
  refine y_ireturn C rfl rfl dX12_put_30 rfl rfl ?_
  exact actK_of hR hY_1 hA hp_27
-- KilnKeeper.take 
set_option maxHeartbeats 1000000 in
set_option maxRecDepth 20000 in
theorem c_X12_take (l : Launch) (G : GT) (a : Id3 → Nat) (Y : YT) (c st n : Nat) (s : Nat → Int32) (p : Int32)  (hc : Y (2, 0, 1) 0 = nI c) (hc8' : c ≤ 8) (hst : Y (2, 0, 1) 1 = nI st) (hst8 : st < 8) (hR : RKi Y 0 s) (hI : Inv s n 0) (hn : n ≤ 100000) : CtY l G a yX12_take cX12_take 2 (some .int) ({ frames := 5, cells := 0, slots := 0, locals := 109 } : Room) [.ref (a (2, 0, 0)), .int p] Y (PI (fun r Y' => ActK Y Y' c st n s (takeA s p) r)) := by
  refine CtY.of (by decide) rfl (Nat.le_of_ble_eq_true rfl) ?_
  intro X A C hl
  subst hl
  refine y_aload_n (pc' := 1) rfl C dX12_take_0 rfl ?_
  refine y_cVv (pc' := 4) (k' := 0) (n' := 0) rfl C (c_X12_beginChange _ G a Y n s hR hI.mb) my_X12_beginChange aw_384 (v2 rfl) rfl rfl rfl rfl rfl (Nat.le_of_ble_eq_true rfl) rfl dX12_take_1 rfl rfl (fun Y_1 hY_1 => ?_)
  have hR1 : RKi Y_1 0 s := hR.fr hY_1.2 (by decide)
  have hg1 : Y_1 (2, 0, 1) = Y (2, 0, 1) := hY_1.2 _ (fun z => absurd z.1 (by decide))
  refine y_aload_n (pc' := 5) rfl C dX12_take_4 rfl ?_
  refine y_aload_n (pc' := 6) rfl C dX12_take_5 rfl ?_
  refine y_get (pc' := 9) rfl (v := .ref (a (0, 0, 0))) C fl_X12_10 (v2 rfl) rfl rfl dX12_take_6 rfl ?_
  refine y_get (pc' := 12) rfl (v := .ref (a (0, 0, 7))) C fl_X12_96 (v0 k0 rfl) rfl rfl dX12_take_9 rfl ?_
  refine y_iload_n (pc' := 13) rfl C dX12_take_12 rfl ?_
  refine y_aload_n (pc' := 14) rfl C dX12_take_13 rfl ?_
  refine y_get (pc' := 17) rfl (v := .ref (a (0, 0, 0))) C fl_X12_10 (v2 rfl) rfl rfl dX12_take_14 rfl ?_
  refine y_get (pc' := 20) rfl C fl_X12_106 (v0 k0 rfl) rfl rfl dX12_take_17 rfl ?_
  refine y_aload_n (pc' := 21) rfl C dX12_take_20 rfl ?_
  refine y_get (pc' := 24) rfl (v := .ref (a (2, 0, 3))) C fl_X12_36 (v2 rfl) rfl rfl dX12_take_21 rfl ?_
  refine y_cVi (pc' := 27) (k' := 0) (n' := 0) rfl C (c_X7_bringOut _ G a Y_1 0 (nn (s 15)) 3 p (Y_1 (0, 0, 0) 0) k0 (hR1.hc hI.mb) hI.mb.np.2 (Or.inl rfl)) my_X7_bringOut aw_519 (v0 k0 rfl) rfl rfl rfl rfl rfl (Nat.le_of_ble_eq_true rfl) rfl dX12_take_24 rfl rfl (fun r_24 Y_24 hp_24 => ?_)
  obtain ⟨hr_24, hY_24⟩ := hp_24
  have hA : ActC Y_1 Y_24 0 3 n (takeA s p) r_24 := take_C hR1 hI rfl hR1.1.1 ⟨hr_24, hY_24⟩
  have hg2 : Y_24 (2, 0, 1) = Y (2, 0, 1) := (hA.fr (fun z => absurd z.1 (by decide)) (by decide)).trans hg1
  refine y_cVi (pc' := 30) (k' := 0) (n' := 0) rfl C (c_X12_endChange _ G a Y_24 c st n s r_24 (by rw [hg2]; exact hc) hc8' (by rw [hg2]; exact hst) hst8 (hA.k1 hY_1.1 (by decide)) hI.mb) my_X12_endChange aw_427 (v2 rfl) rfl rfl rfl rfl rfl (Nat.le_of_ble_eq_true rfl) rfl dX12_take_27 rfl rfl (fun r_27 Y_27 hp_27 => ?_)
  refine y_ireturn C rfl rfl dX12_take_30 rfl rfl ?_
  exact actK_of hR hY_1 hA hp_27
