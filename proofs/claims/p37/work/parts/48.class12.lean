
/-! READ, CARRY OUT, RUN. -/
def runT (T τ0 : Nat → Int32) (e : Nat) : Nat × PSt := parL T e 60 1 (oneP T e 0 (0, 0, τ0))
def rdP (T : Nat → Int32) (e : Nat) (τ0 : Nat → Int32) : Nat → PSt
  | 0 => (0, 0, τ0)
  | i + 1 => ((oneP T e i (rdP T e τ0 i)).1 + 1, 0, (oneP T e i (rdP T e τ0 i)).2.2)
theorem rdP_0 {T : Nat → Int32} {e : Nat} {τ0 : Nat → Int32} (i : Nat) : (rdP T e τ0 i).2.1 = 0 := by cases i <;> rfl
def goodT (T τ0 : Nat → Int32) (e : Nat) : Prop := (runT T τ0 e).2.2.1 = 0 ∧ e ≤ (runT T τ0 e).2.1
def RdQ (Y' : YT) (T τ0 : Nat → Int32) (e : Nat) (r : Int32) : Prop :=
  (goodT T τ0 e → r = nI (runT T τ0 e).1 ∧ (runT T τ0 e).1 ≤ 12 ∧ ∀ j, j < (runT T τ0 e).1 → ordIs (Y' (3, j, 0) 0) (Y' (3, j, 1)) (runT T τ0 e).2.2.2 j) ∧ (¬ goodT T τ0 e → r = -20000 - nI (runT T τ0 e).2.1 ∧ (runT T τ0 e).2.1 ≤ 60)
def OrdO (Y Y' : YT) (T : Nat → Int32) (e sp o : Nat) (r : Int32) : Prop := (∃ (w : Nat) (n0 : Nat → Int32), w < 9 ∧ (fmS T e (10 + w) sp n0 (wlen w)).2.1 = 0 ∧ r = nI (fmS T e (10 + w) sp n0 (wlen w)).1 ∧ Y' (3, o, 0) 0 = nI w ∧ Y' (3, o, 1) = (fmS T e (10 + w) sp n0 (wlen w)).2.2 ∧ ∀ i : Id3, i ≠ (3, o, 0) → i ≠ (3, o, 1) → Y' i = Y i) ∨ ((∀ w, w < 9 → ¬ (fmS T e (10 + w) sp (fun _ => 0) (wlen w)).2.1 = 0) ∧ r = -1 - nI (fltW T e sp 9) ∧ ∀ i : Id3, i ≠ (3, o, 0) → i ≠ (3, o, 1) → Y' i = Y i)
def RdI (Y Yl : YT) (T τ0 : Nat → Int32) (e i : Nat) : Prop := (∀ q : Id3, q.1 ≠ 3 → Yl q = Y q) ∧ (∀ j, j < i → ordIs (Yl (3, j, 0) 0) (Yl (3, j, 1)) (rdP T e τ0 i).2.2 j) ∧ 5 * i ≤ (rdP T e τ0 i).1 ∧ (rdP T e τ0 i).1 ≤ e ∧ runT T τ0 e = parL T e (60 - i) (i + 1) (oneP T e i (rdP T e τ0 i))
theorem order_keep {T : Nat → Int32} {e o : Nat} {p : PSt} (hz : p.2.1 = 0) (h : (oneP T e o p).2.1 = 0) {f : Nat} (hf : f < 4 * o) : (oneP T e o p).2.2 f = p.2.2 f := by
  by_cases hs : wsel T e p.1 < 9
  · rw [one_sel hs, told_keep (Or.inl (by omega)) hs]
    show upd p.2.2 (4 * o) _ f = _
    rw [upd_n (by omega)]
  · have h9 : wsel T e p.1 = 9 := by
      have : wsel T e p.1 ≤ 9 := by
        unfold wsel
        repeat' split
        all_goals decide
      omega
    rw [(one_none hz h9).2] at h
    exact absurd h (by decide)
theorem ne3a {j o a b : Nat} (h : j ≠ o) : ((3, j, a) : Id3) ≠ (3, o, b) := nek h
theorem ne3b {q : Id3} (h : q.1 ≠ 3) {o b : Nat} : q ≠ (3, o, b) := fun z => h (by rw [z])
theorem ordIs.keep {w : Int32} {nums τ τ' : Nat → Int32} {o : Nat} (h : ordIs w nums τ o) (hk : ∀ f, f < 4 * o + 4 → τ' f = τ f) : ordIs w nums τ' o := by
  obtain ⟨v, h1, h2, h3, h4⟩ := h
  refine ⟨v, h1, h2, by rw [hk _ (by omega), h3], fun j hj => ?_⟩
  have : wnum v ≤ 3 := by
    unfold wnum
    split <;> decide
  rw [hk _ (by omega)]
  exact h4 j hj
/-- what one reading of an order comes to -/
theorem rd_step {Y Yl Y2 : YT} {T τ0 : Nat → Int32} {e i : Nat} {r : Int32} (h : RdI Y Yl T τ0 e i) (hp : OrdO Yl Y2 T e (rdP T e τ0 i).1 i r) :
    (r = nI (oneP T e i (rdP T e τ0 i)).1 ∧ (oneP T e i (rdP T e τ0 i)).2.1 = 0 ∧ (oneP T e i (rdP T e τ0 i)).1 ≤ e ∧ 5 * i + 4 ≤ (oneP T e i (rdP T e τ0 i)).1 ∧ (∀ j, j < i + 1 → ordIs (Y2 (3, j, 0) 0) (Y2 (3, j, 1)) (oneP T e i (rdP T e τ0 i)).2.2 j) ∧ ∀ q : Id3, q.1 ≠ 3 → Y2 q = Y q) ∨
    (r = -1 - nI (oneP T e i (rdP T e τ0 i)).1 ∧ (oneP T e i (rdP T e τ0 i)).2.1 = 1 ∧ (oneP T e i (rdP T e τ0 i)).1 ≤ e ∧ ∀ q : Id3, q.1 ≠ 3 → Y2 q = Y q) := by
  obtain ⟨f1, f2, f3, f4, -⟩ := h
  have hle := oneP_le (t := T) (e := e) (o := i) (p := rdP T e τ0 i) f4
  have hz := rdP_0 (T := T) (e := e) (τ0 := τ0) i
  rcases hp with ⟨w, n0, hw, h0, hr, hw0, hw1, hf⟩ | ⟨hno, hr, hf⟩
  · obtain ⟨g1, g2, g3⟩ := order_ok (o := i) hz hw h0
    refine Or.inl ⟨by rw [hr, g2], g1, hle, ?_, fun j hj => ?_, fun q hq => (hf q (ne3b hq) (ne3b hq)).trans (f1 q hq)⟩
    · have l := fm_len (wlen w) h0
      have := (wl_facts w hw).2
      rw [g2]
      omega
    · by_cases a : j = i
      · subst a
        rw [hw0, hw1]
        exact g3
      · rw [hf _ (ne3a a) (ne3a a), hf _ (ne3a a) (ne3a a)]
        exact (f2 j (by omega)).keep (fun f hf4 => order_keep hz g1 (by omega))
  · obtain ⟨g1, g2⟩ := order_bad (o := i) hz hno
    exact Or.inr ⟨by rw [hr, g2], g1, hle, fun q hq => (hf q (ne3b hq) (ne3b hq)).trans (f1 q hq)⟩
theorem RdQ.bad {Y2 : YT} {T τ0 : Nat → Int32} {e i : Nat} {P : PSt} (h : runT T τ0 e = (i, P)) (hP : P.2.1 = 0 → P.1 < e) (hle : P.1 ≤ 60) : RdQ Y2 T τ0 e (-20000 - nI P.1) := by
  unfold RdQ goodT
  rw [h]
  exact ⟨fun z => by have h1 := hP z.1; have h2 : e ≤ P.1 := z.2; omega, fun _ => ⟨rfl, hle⟩⟩
theorem RdQ.ok {Y2 : YT} {T τ0 : Nat → Int32} {e i : Nat} {P : PSt} (h : runT T τ0 e = (i, P)) (h0 : P.2.1 = 0) (he : e ≤ P.1) (hi : i ≤ 12) (ho : ∀ j, j < i → ordIs (Y2 (3, j, 0) 0) (Y2 (3, j, 1)) P.2.2 j) : RdQ Y2 T τ0 e (nI i) := by
  unfold RdQ goodT
  rw [h]
  exact ⟨fun _ => ⟨rfl, hi, ho⟩, fun z => absurd ⟨h0, he⟩ z⟩
theorem RdI.z {Y : YT} {T τ0 : Nat → Int32} {e : Nat} : RdI Y Y T τ0 e 0 := ⟨fun _ _ => rfl, fun j hj => absurd hj (Nat.not_lt_zero j), Nat.le_refl _, Nat.zero_le _, rfl⟩
theorem rd_off {Y Yl : YT} {T τ0 : Nat → Int32} {e i : Nat} (h : RdI Y Yl T τ0 e i) (hoff : ¬ ((oneP T e i (rdP T e τ0 i)).2.1 = 0 ∧ hereT T e (oneP T e i (rdP T e τ0 i)).1 = 59)) : runT T τ0 e = (i + 1, oneP T e i (rdP T e τ0 i)) := h.2.2.2.2.trans (parL_off hoff)
theorem RdI.s {Y Yl Y2 : YT} {T τ0 : Nat → Int32} {e i : Nat} (h : RdI Y Yl T τ0 e i) (hi : i < 12) (k1 : (oneP T e i (rdP T e τ0 i)).2.1 = 0) (k3 : 5 * i + 4 ≤ (oneP T e i (rdP T e τ0 i)).1) (k4 : ∀ j, j < i + 1 → ordIs (Y2 (3, j, 0) 0) (Y2 (3, j, 1)) (oneP T e i (rdP T e τ0 i)).2.2 j) (k5 : ∀ q : Id3, q.1 ≠ 3 → Y2 q = Y q) (h59 : hereT T e (oneP T e i (rdP T e τ0 i)).1 = 59) : RdI Y Y2 T τ0 e (i + 1) := by
  have hlt := here_lt h59 (by decide)
  refine ⟨k5, k4, by show _ ≤ _ + 1; omega, by show _ + 1 ≤ _; omega, ?_⟩
  rw [h.2.2.2.2, parL_on (by omega) k1 h59, k1]
  rfl
theorem rd_12 {Y Yl : YT} {T τ0 : Nat → Int32} {e : Nat} (h : RdI Y Yl T τ0 e 12) (he : e ≤ 60) : RdQ Yl T τ0 e (-20000 - nI (rdP T e τ0 12).1) := by
  obtain ⟨f1, f2, f3, f4, f5⟩ := h
  have e60 : (rdP T e τ0 12).1 = 60 := by omega
  have ee : e = 60 := by omega
  have hh : hereT T e (rdP T e τ0 12).1 = -10001 := if_neg (by omega)
  have hw : wsel T e (rdP T e τ0 12).1 = 9 := by
    unfold wsel
    rw [hh]
    rfl
  obtain ⟨g1, g2⟩ := one_none (T := T) (e := e) (o := 12) (rdP_0 12) hw
  have hr : runT T τ0 e = (13, oneP T e 12 (rdP T e τ0 12)) := f5.trans (parL_off (fun z => by rw [g2] at z; exact absurd z.1 (by decide)))
  rw [← g1]
  exact RdQ.bad hr (fun z => by rw [g2] at z; exact absurd z (by decide)) (by omega)

theorem sw_v : ∀ v, v < 9 → swm.getD v 0 = nI ((v + 1) % 9) := by decide +kernel
theorem sw_i {v : Nat} (hv : v < 9) {x : Nat} (hx : x < 9) (h : swm.getD v 0 = nI x) : (v + 1) % 9 = x := (nI_eq (by omega) (by omega)).mp ((sw_v v hv).symm.trans h)
theorem sw_8 {v : Nat} (hv : v < 9) (h1 : ¬ swm.getD v 0 = 1) (h2 : ¬ swm.getD v 0 = 2) (h3 : ¬ swm.getD v 0 = 3) (h4 : ¬ swm.getD v 0 = 4) (h5 : ¬ swm.getD v 0 = 5) (h6 : ¬ swm.getD v 0 = 6) (h7 : ¬ swm.getD v 0 = 7) (h8 : ¬ swm.getD v 0 = 8) : v = 8 := by
  have hc : v = 0 ∨ v = 1 ∨ v = 2 ∨ v = 3 ∨ v = 4 ∨ v = 5 ∨ v = 6 ∨ v = 7 ∨ v = 8 := by omega
  rcases hc with rfl | rfl | rfl | rfl | rfl | rfl | rfl | rfl | rfl
  · exact absurd rfl h1
  · exact absurd rfl h2
  · exact absurd rfl h3
  · exact absurd rfl h4
  · exact absurd rfl h5
  · exact absurd rfl h6
  · exact absurd rfl h7
  · exact absurd rfl h8
  · rfl
theorem ActC.ge {Y Y' : YT} {k rf n : Nat} {q : ActT} {r : Int32} (h : ActC Y Y' k rf n q r) (hr : 0 ≤ r) : q.1 = 0 := by
  rcases tri q.1 with z | z | z
  · exact z
  · rw [(h.2.1 z).1] at hr
    exact absurd z (Int32.not_lt.mpr hr)
  · rw [(h.2.2 z).1] at hr
    exact absurd hr (by decide)
theorem ActC.lt {Y Y' : YT} {k rf n : Nat} {q : ActT} {r : Int32} (h : ActC Y Y' k rf n q r) (hr : ¬ 0 ≤ r) : ¬ q.1 = 0 := fun z => by
  obtain ⟨h1, h2, -⟩ := h.1 z
  rw [h1] at hr
  exact hr h2
theorem do_0 {s τ : Nat → Int32} {o : Nat} (h : τ (4 * o) = wcode 0) : doA s τ o = aimA s (τ (4 * o + 1)) := by unfold doA; rw [h]; rfl
theorem do_1 {s τ : Nat → Int32} {o : Nat} (h : τ (4 * o) = wcode 1) : doA s τ o = gainA s (τ (4 * o + 1)) (τ (4 * o + 2)) (τ (4 * o + 3)) := by unfold doA; rw [h]; rfl
theorem do_2 {s τ : Nat → Int32} {o : Nat} (h : τ (4 * o) = wcode 2) : doA s τ o = capA s (τ (4 * o + 1)) := by unfold doA; rw [h]; rfl
theorem do_3 {s τ : Nat → Int32} {o : Nat} (h : τ (4 * o) = wcode 3) : doA s τ o = lagA s (τ (4 * o + 1)) := by unfold doA; rw [h]; rfl
theorem do_4 {s τ : Nat → Int32} {o : Nat} (h : τ (4 * o) = wcode 4) : doA s τ o = potA s (τ (4 * o + 1)) (τ (4 * o + 2)) (τ (4 * o + 3)) := by unfold doA; rw [h]; rfl
theorem do_5 {s τ : Nat → Int32} {o : Nat} (h : τ (4 * o) = wcode 5) : doA s τ o = putA s (τ (4 * o + 1)) := by unfold doA; rw [h]; rfl
theorem do_6 {s τ : Nat → Int32} {o : Nat} (h : τ (4 * o) = wcode 6) : doA s τ o = takeA s (τ (4 * o + 1)) := by unfold doA; rw [h]; rfl
theorem do_7 {s τ : Nat → Int32} {o : Nat} (h : τ (4 * o) = wcode 7) : doA s τ o = fuelA s (τ (4 * o + 1)) := by unfold doA; rw [h]; rfl
theorem do_8 {s τ : Nat → Int32} {o : Nat} (h : τ (4 * o) = wcode 8) : doA s τ o = goA s (τ (4 * o + 1)) := by unfold doA; rw [h]; rfl
theorem numF3 {Y : YT} {i : Id3} {j : Nat} (x : Int32) (hx : x = nI j) (hj : j < 3) : numF Y i 3 x = Y i j := by rw [hx]; exact numF_in hj (by decide)
theorem fl_X12_40 : FLK "KilnKeeper" 40 11 6 := ⟨RX12, TX12, 9, rfl, by decide, aw_313, in_TX12⟩
theorem fl_X12_254 : FLK "KilnKeeper" 254 5 0 := ⟨RX5, TX5, 2, rfl, by decide, aw_289, in_TX5⟩
theorem fl_X12_260 : FLK "KilnKeeper" 260 5 1 := ⟨RX5, TX5, 2, rfl, by decide, aw_292, in_TX5⟩
theorem my_X8_orderAt : MV yX8_orderAt cX8_orderAt 2 (some (.object "KilnKeeper$Order")) 1 := ⟨aw_790, aw_24, ⟨by decide, by decide, by decide +kernel⟩, aw_788, aw_789⟩
theorem my_X8_readOrder : MV yX8_readOrder cX8_readOrder 9 (some .int) 2 := ⟨aw_794, aw_24, ⟨by decide, by decide, by decide +kernel⟩, aw_793, aw_4⟩
-- KilnKeeper$Reader.read 
set_option maxHeartbeats 1000000 in
set_option maxRecDepth 20000 in
theorem c_X8_read (l : Launch) (G : GT) (a : Id3 → Nat) (Y : YT) (T : Nat → Int32) (e : Nat) (τ0 : Nat → Int32)  (htl : Y (5, 0, 0) 0 = nI e) (he : e ≤ 60) (hT : ∀ j, j < e → Y (5, 0, 0) (1 + j) = T j) : CtY l G a yX8_read cX8_read 4 (some .int) ({ frames := 8, cells := 0, slots := 0, locals := 190 } : Room) [.ref (a (2, 0, 5))] Y (PI (fun r Y' => RdQ Y' T τ0 e r ∧ ∀ q : Id3, q.1 ≠ 3 → Y' q = Y q)) := by
  refine CtY.of (by decide) rfl (Nat.le_of_ble_eq_true rfl) ?_
  intro X A C hl
  subst hl
  refine y_iconst (pc' := 1) rfl (v := 0) C dX8_read_0 (by decide) ?_
  refine y_istore_n (pc' := 2) rfl C dX8_read_1 (by decide) ?_
  refine y_iconst (pc' := 3) rfl (v := 0) C dX8_read_2 (by decide) ?_
  refine y_istore_n (pc' := 4) rfl C dX8_read_3 (by decide) ?_
  refine y_conv (L' := [some (.ref (a (2, 0, 5))), some (.int ((nI (rdP T e τ0 0).1))), some (.int ((nI 0))), none]) (rfl) rfl ?_
  suffices K4 : ∀ (fu_ i4 : Nat) (Yl4 : YT), i4 ≤ 12 → 12 < fu_ + i4 → Yl4 = Yl4 → (RdI Y Yl4 T τ0 e i4) → WY X G A a Yl4 0 0 _ 4 [some (.ref (a (2, 0, 5))), some (.int ((nI (rdP T e τ0 i4).1))), some (.int ((nI i4))), none] [] from K4 (12 + 1) 0 _ (by omega) (by omega) (rfl) (RdI.z)
  intro fu_
  induction fu_ with
  | zero => intro i4 Yl4 h1 h2; omega
  | succ fu_ ih4 =>
    intro i4 Yl4 hi4 hm4 hYl4 hx4
    have t4 : Yl4 (5, 0, 0) = Y (5, 0, 0) := hx4.1 _ (by decide)
    refine y_iload_n (pc' := 5) rfl C dX8_read_4 rfl ?_
    refine y_bipush (pc' := 7) rfl (v := 12) C dX8_read_5 (by decide) ?_
    refine y_ic_ge (pc' := 10) rfl (tgt := 75) C dX8_read_7 (by decide) (fun c_7 => ?_) (fun c_7 => ?_)
    · have hb4 : 12 ≤ i4 := nI_le_iff (by omega) (by omega) c_7
      refine y_sipush (pc' := 78) rfl (v := (-20000)) C dX8_read_75 (by decide) ?_
      refine y_iload_n (pc' := 79) rfl C dX8_read_78 rfl ?_
      refine y_isub (pc' := 80) rfl C dX8_read_79 ?_
      refine y_ireturn C rfl rfl dX8_read_80 rfl rfl ?_
      have e12 : i4 = 12 := by omega
      subst e12
      exact ⟨rd_12 hx4 he, hx4.1⟩
    · have hb4 : i4 < 12 := nI_nle_iff (by omega) (by omega) c_7
      refine y_aload_n (pc' := 11) rfl C dX8_read_10 rfl ?_
      refine y_iload_n (pc' := 12) rfl C dX8_read_11 rfl ?_
      refine y_aload_n (pc' := 13) rfl C dX8_read_12 rfl ?_
      refine y_iload_n (pc' := 14) rfl C dX8_read_13 rfl ?_
      refine y_cVr (pc' := 17) (k' := 0) (n' := 0) rfl C (c_X8_orderAt _ G a Yl4 i4 (show i4 < 12 by omega)) my_X8_orderAt aw_787 (v2 rfl) rfl rfl rfl rfl rfl (Nat.le_of_ble_eq_true rfl) rfl dX8_read_14 rfl rfl (fun r_14 Y_14 hp_14 => ?_)
      obtain ⟨rfl, hY_14⟩ := hp_14
      have hY_14 := hY_14.symm; subst hY_14
      refine y_cVi (pc' := 20) (k' := 0) (n' := 0) rfl C (c_X8_readOrder _ G a Yl4 T e (rdP T e τ0 i4).1 i4 (by rw [t4]; exact htl) he (by rw [t4]; exact hT) hx4.2.2.2.1 (show i4 < 12 by omega)) my_X8_readOrder aw_791 (v2 rfl) rfl rfl rfl rfl rfl (Nat.le_of_ble_eq_true rfl) rfl dX8_read_17 rfl rfl (fun r_17 Y_17 hp_17 => ?_)
      refine y_istore_n (pc' := 21) rfl C dX8_read_20 (by decide) ?_
      refine y_iload_n (pc' := 22) rfl C dX8_read_21 rfl ?_
      refine y_if_ge (pc' := 25) rfl (tgt := 34) C dX8_read_22 (by decide) (fun c_22 => ?_) (fun c_22 => ?_)
      · obtain ⟨hr, k1, k2, k3, k4, k5⟩ := (rd_step hx4 hp_17).resolve_right (fun z => absurd c_22 (Int32.not_le.mpr (by rw [z.1]; exact m1_neg (by have := z.2.2.1; omega))))
        refine y_conv (L' := [some (.ref (a (2, 0, 5))), some (.int ((nI (rdP T e τ0 i4).1))), some (.int ((nI i4))), some (.int ((nI (oneP T e i4 (rdP T e τ0 i4)).1)))]) (st' := []) (by rw [hr] <;> rfl) (rfl) ?_
        refine y_iload_n (pc' := 35) rfl C dX8_read_34 rfl ?_
        refine y_aload_n (pc' := 36) rfl C dX8_read_35 rfl ?_
        refine y_get (pc' := 39) rfl (v := .ref (a (5, 0, 0))) C fl_X8_12 (v2 rfl) rfl rfl dX8_read_36 rfl ?_
        refine y_cVg (na := 0) (pc' := 42) (k' := 0) (n' := 0) rfl C (c_J4_length_8abf5 _ G a Y_17 0 e (by decide) (by rw [k5 _ (by decide)]; exact htl)) ⟨aw_346, aw_26, ⟨by decide, by decide, by decide +kernel⟩, aw_344⟩ (C.ts _ aw_345) aw_343 (ry_sb C (by decide)) rfl rfl (Nat.le_of_ble_eq_true rfl) rfl dX8_read_39 rfl rfl (k_PI fun r_39 Y_39 hp_39 => ?_)
        obtain ⟨hr_39, hY_39⟩ := hp_39
        have hY_39 := hY_39.symm; subst hY_39
        refine y_conv (L' := [some (.ref (a (2, 0, 5))), some (.int ((nI (rdP T e τ0 i4).1))), some (.int ((nI i4))), some (.int ((nI (oneP T e i4 (rdP T e τ0 i4)).1)))]) (st' := [.int ((nI e)), .int ((nI (oneP T e i4 (rdP T e τ0 i4)).1))]) (rfl) (by rw [hr_39]) ?_
        refine y_ic_ne (pc' := 45) rfl (tgt := 49) C dX8_read_42 (by decide) (fun c_42 => ?_) (fun c_42 => ?_)
        · refine y_aload_n (pc' := 50) rfl C dX8_read_49 rfl ?_
          refine y_iload_n (pc' := 51) rfl C dX8_read_50 rfl ?_
          refine y_bipush (pc' := 53) rfl (v := 59) C dX8_read_51 (by decide) ?_
          refine y_cVi (pc' := 56) (k' := 0) (n' := 0) rfl C (c_X8_isSignAt _ G a Y_17 T e (oneP T e i4 (rdP T e τ0 i4)).1 59 (by rw [k5 _ (by decide)]; exact htl) he (by rw [k5 _ (by decide)]; exact hT) (by omega) (by decide)) my_X8_isSignAt aw_829 (v2 rfl) rfl rfl rfl rfl rfl (Nat.le_of_ble_eq_true rfl) rfl dX8_read_53 rfl rfl (fun r_53 Y_53 hp_53 => ?_)
          obtain ⟨rfl, hY_53⟩ := hp_53
          have hY_53 := hY_53.symm; subst hY_53
          refine y_if_ne (pc' := 59) rfl (tgt := 65) C dX8_read_56 (by decide) (fun c_56 => ?_) (fun c_56 => ?_)
          · have h_56 := bi_n0 c_56
            refine y_iload_n (pc' := 66) rfl C dX8_read_65 rfl ?_
            refine y_iconst (pc' := 67) rfl (v := 1) C dX8_read_66 (by decide) ?_
            refine y_iadd (pc' := 68) rfl C dX8_read_67 ?_
            refine y_istore_n (pc' := 69) rfl C dX8_read_68 (by decide) ?_
            refine y_iinc (pc' := 72) rfl (v := (nI (i4 + 1))) C dX8_read_69 rfl (nI_1 i4) (by decide) ?_
            refine y_goto (tgt := 4) C dX8_read_72 (by decide) ?_
            refine y_conv (L' := [some (.ref (a (2, 0, 5))), some (.int ((nI (rdP T e τ0 (i4 + 1)).1))), some (.int ((nI (i4 + 1)))), some (.int ((nI (oneP T e i4 (rdP T e τ0 i4)).1)))]) (by rw [nI_1]; rfl) rfl ?_
            refine y_weak (L' := [some (.ref (a (2, 0, 5))), some (.int ((nI (rdP T e τ0 (i4 + 1)).1))), some (.int ((nI (i4 + 1)))), none]) (wk_c (wk_c (wk_c (wk_n wk_nil)))) ?_
            exact ih4 (i4 + 1) _ (by omega) (by omega) (rfl) (hx4.s hb4 k1 k3 k4 k5 h_56)
          · have h_56 := bi_0.mp c_56
            refine y_sipush (pc' := 62) rfl (v := (-20000)) C dX8_read_59 (by decide) ?_
            refine y_iload_n (pc' := 63) rfl C dX8_read_62 rfl ?_
            refine y_isub (pc' := 64) rfl C dX8_read_63 ?_
            refine y_ireturn C rfl rfl dX8_read_64 rfl rfl ?_
            have hne : ¬ (oneP T e i4 (rdP T e τ0 i4)).1 = e := fun z => c_42 (by rw [z])
            exact ⟨RdQ.bad (rd_off hx4 (fun z => h_56 z.2)) (fun _ => by omega) (by omega), k5⟩
        · refine y_iload_n (pc' := 46) rfl C dX8_read_45 rfl ?_
          refine y_iconst (pc' := 47) rfl (v := 1) C dX8_read_46 (by decide) ?_
          refine y_iadd (pc' := 48) rfl C dX8_read_47 ?_
          refine y_ireturn C rfl rfl dX8_read_48 rfl rfl ?_
          have heq : (oneP T e i4 (rdP T e τ0 i4)).1 = e := (nI_eq (by omega) (by omega)).mp c_42
          rw [nI_1]
          exact ⟨RdQ.ok (rd_off hx4 (fun z => by rw [show hereT T e (oneP T e i4 (rdP T e τ0 i4)).1 = -10001 from if_neg (by omega)] at z; exact absurd z.2 (by decide))) k1 (by omega) (by omega) k4, k5⟩
      · obtain ⟨hr, k1, k2, k3⟩ := (rd_step hx4 hp_17).resolve_left (fun z => c_22 (by rw [z.1]; exact nI_pos' (by have := z.2.2.1; omega)))
        refine y_sipush (pc' := 28) rfl (v := (-20000)) C dX8_read_25 (by decide) ?_
        refine y_iload_n (pc' := 29) rfl C dX8_read_28 rfl ?_
        refine y_cSi (pc' := 32) (k' := 0) (n' := 0) rfl C (c_X8_placeOfFault _ G a Y_17 r_17) my_X8_placeOfFault aw_833 rfl rfl (Nat.le_of_ble_eq_true rfl) rfl dX8_read_29 rfl rfl (fun r_29 Y_29 hp_29 => ?_)
        obtain ⟨rfl, hY_29⟩ := hp_29
        have hY_29 := hY_29.symm; subst hY_29
        refine y_isub (pc' := 33) rfl C dX8_read_32 ?_
        refine y_ireturn C rfl rfl dX8_read_33 rfl rfl ?_
        rw [hr, pof]
        exact ⟨RdQ.bad (rd_off hx4 (fun z => by rw [k1] at z; exact absurd z.1 (by decide))) (fun z => by rw [k1] at z; exact absurd z (by decide)) (by omega), k3⟩
-- KilnKeeper.carryOut 
set_option maxHeartbeats 1000000 in
set_option maxRecDepth 20000 in
theorem c_X12_carryOut (l : Launch) (G : GT) (a : Id3 → Nat) (Y : YT) (n o : Nat) (s τ : Nat → Int32)  (hR : RKi Y 0 s) (hI : Inv s n 0) (hn : n ≤ 100000) (ho : o < 12) (hod : ordIs (Y (3, o, 0) 0) (Y (3, o, 1)) τ o) : CtY l G a yX12_carryOut cX12_carryOut 5 (some .int) ({ frames := 5, cells := 0, slots := 0, locals := 113 } : Room) [.ref (a (2, 0, 0)), .ref (a (3, o, 0))] Y (PI (fun r Y' => ActC Y Y' 0 4 n (doA s τ o) r)) := by
  refine CtY.of (by decide) rfl (Nat.le_of_ble_eq_true rfl) ?_
  intro X A C hl
  subst hl
  obtain ⟨v, hv9, hvw, hvc, hvn⟩ := hod
  refine y_aload_n (pc' := 1) rfl C dX12_carryOut_0 rfl ?_
  refine y_ifnull (pc' := 4) rfl C dX12_carryOut_1 ?_
  refine y_aload_n (pc' := 5) rfl C dX12_carryOut_4 rfl ?_
  refine y_get (pc' := 8) rfl (v := .ref (gad G (Y (3, o, 0) 0).toNatClampNeg)) C fl_X12_254 (v3 ho rfl) rfl rfl dX12_carryOut_5 rfl ?_
  refine y_ifnonnull (tgt := 15) C dX12_carryOut_8 (by decide) ?_
  refine y_aload_n (pc' := 16) rfl C dX12_carryOut_15 rfl ?_
  refine y_get (pc' := 19) rfl (v := .ref (a (3, o, 1))) C fl_X12_260 (v3 ho rfl) rfl rfl dX12_carryOut_16 rfl ?_
  refine y_iconst (pc' := 20) rfl (v := 0) C dX12_carryOut_19 (by decide) ?_
  refine y_cSi (pc' := 23) (k' := 0) (n' := 0) rfl C (c_X12_numberAt _ G a Y (3, o, 1) 3 0 (v3 ho rfl) rfl rfl rfl) my_X12_numberAt aw_866 rfl rfl (Nat.le_of_ble_eq_true rfl) rfl dX12_carryOut_20 rfl rfl (fun r_20 Y_20 hp_20 => ?_)
  obtain ⟨rfl, hY_20⟩ := hp_20
  have hY_20 := hY_20.symm; subst hY_20
  refine y_istore_n (pc' := 24) rfl C dX12_carryOut_23 (by decide) ?_
  refine y_aload_n (pc' := 25) rfl C dX12_carryOut_24 rfl ?_
  refine y_get (pc' := 28) rfl (v := .ref (a (3, o, 1))) C fl_X12_260 (v3 ho rfl) rfl rfl dX12_carryOut_25 rfl ?_
  refine y_iconst (pc' := 29) rfl (v := 1) C dX12_carryOut_28 (by decide) ?_
  refine y_cSi (pc' := 32) (k' := 0) (n' := 0) rfl C (c_X12_numberAt _ G a Y (3, o, 1) 3 1 (v3 ho rfl) rfl rfl rfl) my_X12_numberAt aw_866 rfl rfl (Nat.le_of_ble_eq_true rfl) rfl dX12_carryOut_29 rfl rfl (fun r_29 Y_29 hp_29 => ?_)
  obtain ⟨rfl, hY_29⟩ := hp_29
  have hY_29 := hY_29.symm; subst hY_29
  refine y_istore_n (pc' := 33) rfl C dX12_carryOut_32 (by decide) ?_
  refine y_aload_n (pc' := 34) rfl C dX12_carryOut_33 rfl ?_
  refine y_get (pc' := 37) rfl (v := .ref (a (3, o, 1))) C fl_X12_260 (v3 ho rfl) rfl rfl dX12_carryOut_34 rfl ?_
  refine y_iconst (pc' := 38) rfl (v := 2) C dX12_carryOut_37 (by decide) ?_
  refine y_cSi (pc' := 41) (k' := 0) (n' := 0) rfl C (c_X12_numberAt _ G a Y (3, o, 1) 3 2 (v3 ho rfl) rfl rfl rfl) my_X12_numberAt aw_866 rfl rfl (Nat.le_of_ble_eq_true rfl) rfl dX12_carryOut_38 rfl rfl (fun r_38 Y_38 hp_38 => ?_)
  obtain ⟨rfl, hY_38⟩ := hp_38
  have hY_38 := hY_38.symm; subst hY_38
  refine y_istore (pc' := 43) rfl C dX12_carryOut_41 (by decide) ?_
  refine y_gets (pc' := 46) rfl C C.ev.2.2.2.1.1 aw_867 dX12_carryOut_43 ?_
  refine y_aload_n (pc' := 47) rfl C dX12_carryOut_46 rfl ?_
  refine y_get (pc' := 50) rfl (v := .ref (gad G (Y (3, o, 0) 0).toNatClampNeg)) C fl_X12_254 (v3 ho rfl) rfl rfl dX12_carryOut_47 rfl ?_
  refine y_conv (L' := [some (.ref (a (2, 0, 0))), some (.ref (a (3, o, 0))), some (.int ((numF Y (3, o, 1) 3 0))), some (.int ((numF Y (3, o, 1) 3 1))), some (.int ((numF Y (3, o, 1) 3 2)))]) (st' := [.ref (gad G v), .ref (gst G 2)]) (rfl) (by rw [hvw, nI_clamp (by omega)]) ?_
  refine y_cU (pc' := 53) (k' := 0) (n' := 0) rfl C (c_Jx29ce0_ordinal_8abf5 _ G a Y v hv9) rfl aw_874 aw_30 aw_873 aw_872 aw_870 aw_869 ⟨by decide, by decide, by decide +kernel⟩ (ry_enum C hv9) rfl rfl (Nat.le_of_ble_eq_true rfl) rfl dX12_carryOut_50 rfl rfl (k_PI fun r_50 Y_50 hp_50 => ?_)
  obtain ⟨rfl, hY_50⟩ := hp_50
  have hY_50 := hY_50.symm; subst hY_50
  refine y_ialdT (pc' := 54) rfl C C.ev.2.2.2.1.2 (pk_in v 9 hv9) (v := .int (swm.getD v 0)) (by rw [nI_clamp (by omega)]) dX12_carryOut_53 ?_
  by_cases s_54_1 : (swm.getD v 0) = 1
  · refine y_tabC (v := 1) (tgt := 100) C s_54_1 dX12_carryOut_54 (by decide) (by decide) rfl (by decide) ?_
    have hw : v = 0 := by have h_ := sw_i hv9 (x := 1) (by decide) s_54_1; omega
    subst hw
    refine y_aload_n (pc' := 101) rfl C dX12_carryOut_100 rfl ?_
    refine y_get (pc' := 104) rfl (v := .ref (a (0, 0, 0))) C fl_X12_10 (v2 rfl) rfl rfl dX12_carryOut_101 rfl ?_
    refine y_iload_n (pc' := 105) rfl C dX12_carryOut_104 rfl ?_
    refine y_aload_n (pc' := 106) rfl C dX12_carryOut_105 rfl ?_
    refine y_get (pc' := 109) rfl (v := .ref (a (2, 0, 4))) C fl_X12_40 (v2 rfl) rfl rfl dX12_carryOut_106 rfl ?_
    refine y_cVi (pc' := 112) (k' := 0) (n' := 0) rfl C (c_X3_aimAt _ G a Y 0 4 (numF Y (3, o, 1) 3 0) k0 (Or.inr rfl)) my_X3_aimAt aw_416 (v0 k0 rfl) rfl rfl rfl rfl rfl (Nat.le_of_ble_eq_true rfl) rfl dX12_carryOut_109 rfl rfl (fun r_109 Y_109 hp_109 => ?_)
    obtain ⟨hr_109, hY_109⟩ := hp_109
    refine y_ireturn C rfl rfl dX12_carryOut_112 rfl rfl ?_
    have nf0 : numF Y (3, o, 1) 3 0 = τ (4 * o + 1) := (numF3 (j := 0) _ rfl (by decide)).trans (hvn 0 (by decide))
    have h_ : ActC Y Y_109 0 4 n (aimA s (numF Y (3, o, 1) 3 0)) r_109 := aim_C hR hI ⟨hr_109, hY_109⟩
    rw [nf0] at h_
    rw [do_0 hvc]
    exact h_
  by_cases s_54_2 : (swm.getD v 0) = 2
  · refine y_tabC (v := 2) (tgt := 113) C s_54_2 dX12_carryOut_54 (by decide) (by decide) rfl (by decide) ?_
    have hw : v = 1 := by have h_ := sw_i hv9 (x := 2) (by decide) s_54_2; omega
    subst hw
    refine y_aload_n (pc' := 114) rfl C dX12_carryOut_113 rfl ?_
    refine y_get (pc' := 117) rfl (v := .ref (a (0, 0, 0))) C fl_X12_10 (v2 rfl) rfl rfl dX12_carryOut_114 rfl ?_
    refine y_get (pc' := 120) rfl (v := .ref (a (0, 0, 1))) C fl_X12_68 (v0 k0 rfl) rfl rfl dX12_carryOut_117 rfl ?_
    refine y_iload_n (pc' := 121) rfl C dX12_carryOut_120 rfl ?_
    refine y_iload_n (pc' := 122) rfl C dX12_carryOut_121 rfl ?_
    refine y_iload (pc' := 124) rfl C dX12_carryOut_122 rfl ?_
    refine y_cVi (pc' := 127) (k' := 0) (n' := 0) rfl C (c_X10_tellGains _ G a Y 0 (numF Y (3, o, 1) 3 0) (numF Y (3, o, 1) 3 1) (numF Y (3, o, 1) 3 2) k0) my_X10_tellGains aw_444 (v0 k0 rfl) rfl rfl rfl rfl rfl (Nat.le_of_ble_eq_true rfl) rfl dX12_carryOut_124 rfl rfl (fun r_124 Y_124 hp_124 => ?_)
    obtain ⟨hr_124, hY_124⟩ := hp_124
    refine y_ireturn C rfl rfl dX12_carryOut_127 rfl rfl ?_
    have nf0 : numF Y (3, o, 1) 3 0 = τ (4 * o + 1) := (numF3 (j := 0) _ rfl (by decide)).trans (hvn 0 (by decide))
    have nf1 : numF Y (3, o, 1) 3 1 = τ (4 * o + 2) := (numF3 (j := 1) _ rfl (by decide)).trans (hvn 1 (by decide))
    have nf2 : numF Y (3, o, 1) 3 2 = τ (4 * o + 3) := (numF3 (j := 2) _ rfl (by decide)).trans (hvn 2 (by decide))
    have h_ : ActC Y Y_124 0 4 n (gainA s (numF Y (3, o, 1) 3 0) (numF Y (3, o, 1) 3 1) (numF Y (3, o, 1) 3 2)) r_124 := gain_C hR hI ⟨hr_124, hY_124⟩
    rw [nf0, nf1, nf2] at h_
    rw [do_1 hvc]
    exact h_
  by_cases s_54_3 : (swm.getD v 0) = 3
  · refine y_tabC (v := 3) (tgt := 128) C s_54_3 dX12_carryOut_54 (by decide) (by decide) rfl (by decide) ?_
    have hw : v = 2 := by have h_ := sw_i hv9 (x := 3) (by decide) s_54_3; omega
    subst hw
    refine y_aload_n (pc' := 129) rfl C dX12_carryOut_128 rfl ?_
    refine y_get (pc' := 132) rfl (v := .ref (a (0, 0, 0))) C fl_X12_10 (v2 rfl) rfl rfl dX12_carryOut_129 rfl ?_
    refine y_get (pc' := 135) rfl (v := .ref (a (0, 0, 1))) C fl_X12_68 (v0 k0 rfl) rfl rfl dX12_carryOut_132 rfl ?_
    refine y_iload_n (pc' := 136) rfl C dX12_carryOut_135 rfl ?_
    refine y_aload_n (pc' := 137) rfl C dX12_carryOut_136 rfl ?_
    refine y_get (pc' := 140) rfl (v := .ref (a (2, 0, 4))) C fl_X12_40 (v2 rfl) rfl rfl dX12_carryOut_137 rfl ?_
    refine y_cVi (pc' := 143) (k' := 0) (n' := 0) rfl C (c_X10_tellCap _ G a Y 0 4 (numF Y (3, o, 1) 3 0) k0 (Or.inr rfl)) my_X10_tellCap aw_453 (v0 k0 rfl) rfl rfl rfl rfl rfl (Nat.le_of_ble_eq_true rfl) rfl dX12_carryOut_140 rfl rfl (fun r_140 Y_140 hp_140 => ?_)
    obtain ⟨hr_140, hY_140⟩ := hp_140
    refine y_ireturn C rfl rfl dX12_carryOut_143 rfl rfl ?_
    have nf0 : numF Y (3, o, 1) 3 0 = τ (4 * o + 1) := (numF3 (j := 0) _ rfl (by decide)).trans (hvn 0 (by decide))
    have h_ : ActC Y Y_140 0 4 n (capA s (numF Y (3, o, 1) 3 0)) r_140 := cap_C hR hI ⟨hr_140, hY_140⟩
    rw [nf0] at h_
    rw [do_2 hvc]
    exact h_
  by_cases s_54_4 : (swm.getD v 0) = 4
  · refine y_tabC (v := 4) (tgt := 144) C s_54_4 dX12_carryOut_54 (by decide) (by decide) rfl (by decide) ?_
    have hw : v = 3 := by have h_ := sw_i hv9 (x := 4) (by decide) s_54_4; omega
    subst hw
    refine y_aload_n (pc' := 145) rfl C dX12_carryOut_144 rfl ?_
    refine y_get (pc' := 148) rfl (v := .ref (a (0, 0, 0))) C fl_X12_10 (v2 rfl) rfl rfl dX12_carryOut_145 rfl ?_
    refine y_iload_n (pc' := 149) rfl C dX12_carryOut_148 rfl ?_
    refine y_aload_n (pc' := 150) rfl C dX12_carryOut_149 rfl ?_
    refine y_get (pc' := 153) rfl (v := .ref (a (2, 0, 4))) C fl_X12_40 (v2 rfl) rfl rfl dX12_carryOut_150 rfl ?_
    refine y_cVi (pc' := 156) (k' := 0) (n' := 0) rfl C (c_X3_tellLag _ G a Y 0 (nn (s 8)) 4 (numF Y (3, o, 1) 3 0) k0 (hR.hl hI.mb) hI.mb.lg.2 (Or.inr rfl)) my_X3_tellLag aw_465 (v0 k0 rfl) rfl rfl rfl rfl rfl (Nat.le_of_ble_eq_true rfl) rfl dX12_carryOut_153 rfl rfl (fun r_153 Y_153 hp_153 => ?_)
    obtain ⟨hr_153, hY_153⟩ := hp_153
    refine y_ireturn C rfl rfl dX12_carryOut_156 rfl rfl ?_
    have nf0 : numF Y (3, o, 1) 3 0 = τ (4 * o + 1) := (numF3 (j := 0) _ rfl (by decide)).trans (hvn 0 (by decide))
    have h_ : ActC Y Y_153 0 4 n (lagA s (numF Y (3, o, 1) 3 0)) r_153 := lag_C hR hI rfl ⟨hr_153, hY_153⟩
    rw [nf0] at h_
    rw [do_3 hvc]
    exact h_
  by_cases s_54_5 : (swm.getD v 0) = 5
  · refine y_tabC (v := 5) (tgt := 157) C s_54_5 dX12_carryOut_54 (by decide) (by decide) rfl (by decide) ?_
    have hw : v = 4 := by have h_ := sw_i hv9 (x := 5) (by decide) s_54_5; omega
    subst hw
    refine y_aload_n (pc' := 158) rfl C dX12_carryOut_157 rfl ?_
    refine y_get (pc' := 161) rfl (v := .ref (a (0, 0, 0))) C fl_X12_10 (v2 rfl) rfl rfl dX12_carryOut_158 rfl ?_
    refine y_get (pc' := 164) rfl (v := .ref (a (0, 0, 7))) C fl_X12_96 (v0 k0 rfl) rfl rfl dX12_carryOut_161 rfl ?_
    refine y_iload_n (pc' := 165) rfl C dX12_carryOut_164 rfl ?_
    refine y_iload_n (pc' := 166) rfl C dX12_carryOut_165 rfl ?_
    refine y_iload (pc' := 168) rfl C dX12_carryOut_166 rfl ?_
    refine y_aload_n (pc' := 169) rfl C dX12_carryOut_168 rfl ?_
    refine y_get (pc' := 172) rfl (v := .ref (a (2, 0, 4))) C fl_X12_40 (v2 rfl) rfl rfl dX12_carryOut_169 rfl ?_
    refine y_cVi (pc' := 175) (k' := 0) (n' := 0) rfl C (c_X7_addPot _ G a Y 0 (nn (s 15)) 4 (numF Y (3, o, 1) 3 0) (numF Y (3, o, 1) 3 1) (numF Y (3, o, 1) 3 2) k0 (hR.hc hI.mb) hI.mb.np.2 (Or.inr rfl)) my_X7_addPot aw_496 (v0 k0 rfl) rfl rfl rfl rfl rfl (Nat.le_of_ble_eq_true rfl) rfl dX12_carryOut_172 rfl rfl (fun r_172 Y_172 hp_172 => ?_)
    obtain ⟨hr_172, hY_172⟩ := hp_172
    refine y_ireturn C rfl rfl dX12_carryOut_175 rfl rfl ?_
    have nf0 : numF Y (3, o, 1) 3 0 = τ (4 * o + 1) := (numF3 (j := 0) _ rfl (by decide)).trans (hvn 0 (by decide))
    have nf1 : numF Y (3, o, 1) 3 1 = τ (4 * o + 2) := (numF3 (j := 1) _ rfl (by decide)).trans (hvn 1 (by decide))
    have nf2 : numF Y (3, o, 1) 3 2 = τ (4 * o + 3) := (numF3 (j := 2) _ rfl (by decide)).trans (hvn 2 (by decide))
    have h_ : ActC Y Y_172 0 4 n (potA s (numF Y (3, o, 1) 3 0) (numF Y (3, o, 1) 3 1) (numF Y (3, o, 1) 3 2)) r_172 := pot_C hR hI rfl ⟨hr_172, hY_172⟩
    rw [nf0, nf1, nf2] at h_
    rw [do_4 hvc]
    exact h_
  by_cases s_54_6 : (swm.getD v 0) = 6
  · refine y_tabC (v := 6) (tgt := 176) C s_54_6 dX12_carryOut_54 (by decide) (by decide) rfl (by decide) ?_
    have hw : v = 5 := by have h_ := sw_i hv9 (x := 6) (by decide) s_54_6; omega
    subst hw
    refine y_aload_n (pc' := 177) rfl C dX12_carryOut_176 rfl ?_
    refine y_get (pc' := 180) rfl (v := .ref (a (0, 0, 0))) C fl_X12_10 (v2 rfl) rfl rfl dX12_carryOut_177 rfl ?_
    refine y_get (pc' := 183) rfl (v := .ref (a (0, 0, 7))) C fl_X12_96 (v0 k0 rfl) rfl rfl dX12_carryOut_180 rfl ?_
    refine y_iload_n (pc' := 184) rfl C dX12_carryOut_183 rfl ?_
    refine y_aload_n (pc' := 185) rfl C dX12_carryOut_184 rfl ?_
    refine y_get (pc' := 188) rfl (v := .ref (a (0, 0, 0))) C fl_X12_10 (v2 rfl) rfl rfl dX12_carryOut_185 rfl ?_
    refine y_get (pc' := 191) rfl C fl_X12_106 (v0 k0 rfl) rfl rfl dX12_carryOut_188 rfl ?_
    refine y_aload_n (pc' := 192) rfl C dX12_carryOut_191 rfl ?_
    refine y_get (pc' := 195) rfl (v := .ref (a (2, 0, 4))) C fl_X12_40 (v2 rfl) rfl rfl dX12_carryOut_192 rfl ?_
    refine y_cVi (pc' := 198) (k' := 0) (n' := 0) rfl C (c_X7_bringIn _ G a Y 0 (nn (s 15)) 4 (numF Y (3, o, 1) 3 0) (Y (0, 0, 0) 0) k0 (hR.hc hI.mb) hI.mb.np.2 (Or.inr rfl)) my_X7_bringIn aw_510 (v0 k0 rfl) rfl rfl rfl rfl rfl (Nat.le_of_ble_eq_true rfl) rfl dX12_carryOut_195 rfl rfl (fun r_195 Y_195 hp_195 => ?_)
    obtain ⟨hr_195, hY_195⟩ := hp_195
    refine y_ireturn C rfl rfl dX12_carryOut_198 rfl rfl ?_
    have nf0 : numF Y (3, o, 1) 3 0 = τ (4 * o + 1) := (numF3 (j := 0) _ rfl (by decide)).trans (hvn 0 (by decide))
    have h_ : ActC Y Y_195 0 4 n (putA s (numF Y (3, o, 1) 3 0)) r_195 := put_C hR hI rfl hR.1.1 ⟨hr_195, hY_195⟩
    rw [nf0] at h_
    rw [do_5 hvc]
    exact h_
  by_cases s_54_7 : (swm.getD v 0) = 7
  · refine y_tabC (v := 7) (tgt := 199) C s_54_7 dX12_carryOut_54 (by decide) (by decide) rfl (by decide) ?_
    have hw : v = 6 := by have h_ := sw_i hv9 (x := 7) (by decide) s_54_7; omega
    subst hw
    refine y_aload_n (pc' := 200) rfl C dX12_carryOut_199 rfl ?_
    refine y_get (pc' := 203) rfl (v := .ref (a (0, 0, 0))) C fl_X12_10 (v2 rfl) rfl rfl dX12_carryOut_200 rfl ?_
    refine y_get (pc' := 206) rfl (v := .ref (a (0, 0, 7))) C fl_X12_96 (v0 k0 rfl) rfl rfl dX12_carryOut_203 rfl ?_
    refine y_iload_n (pc' := 207) rfl C dX12_carryOut_206 rfl ?_
    refine y_aload_n (pc' := 208) rfl C dX12_carryOut_207 rfl ?_
    refine y_get (pc' := 211) rfl (v := .ref (a (0, 0, 0))) C fl_X12_10 (v2 rfl) rfl rfl dX12_carryOut_208 rfl ?_
    refine y_get (pc' := 214) rfl C fl_X12_106 (v0 k0 rfl) rfl rfl dX12_carryOut_211 rfl ?_
    refine y_aload_n (pc' := 215) rfl C dX12_carryOut_214 rfl ?_
    refine y_get (pc' := 218) rfl (v := .ref (a (2, 0, 4))) C fl_X12_40 (v2 rfl) rfl rfl dX12_carryOut_215 rfl ?_
    refine y_cVi (pc' := 221) (k' := 0) (n' := 0) rfl C (c_X7_bringOut _ G a Y 0 (nn (s 15)) 4 (numF Y (3, o, 1) 3 0) (Y (0, 0, 0) 0) k0 (hR.hc hI.mb) hI.mb.np.2 (Or.inr rfl)) my_X7_bringOut aw_519 (v0 k0 rfl) rfl rfl rfl rfl rfl (Nat.le_of_ble_eq_true rfl) rfl dX12_carryOut_218 rfl rfl (fun r_218 Y_218 hp_218 => ?_)
    obtain ⟨hr_218, hY_218⟩ := hp_218
    refine y_ireturn C rfl rfl dX12_carryOut_221 rfl rfl ?_
    have nf0 : numF Y (3, o, 1) 3 0 = τ (4 * o + 1) := (numF3 (j := 0) _ rfl (by decide)).trans (hvn 0 (by decide))
    have h_ : ActC Y Y_218 0 4 n (takeA s (numF Y (3, o, 1) 3 0)) r_218 := take_C hR hI rfl hR.1.1 ⟨hr_218, hY_218⟩
    rw [nf0] at h_
    rw [do_6 hvc]
    exact h_
  by_cases s_54_8 : (swm.getD v 0) = 8
  · refine y_tabC (v := 8) (tgt := 222) C s_54_8 dX12_carryOut_54 (by decide) (by decide) rfl (by decide) ?_
    have hw : v = 7 := by have h_ := sw_i hv9 (x := 8) (by decide) s_54_8; omega
    subst hw
    refine y_aload_n (pc' := 223) rfl C dX12_carryOut_222 rfl ?_
    refine y_get (pc' := 226) rfl (v := .ref (a (0, 0, 0))) C fl_X12_10 (v2 rfl) rfl rfl dX12_carryOut_223 rfl ?_
    refine y_get (pc' := 229) rfl (v := .ref (a (0, 0, 4))) C fl_X12_84 (v0 k0 rfl) rfl rfl dX12_carryOut_226 rfl ?_
    refine y_iload_n (pc' := 230) rfl C dX12_carryOut_229 rfl ?_
    refine y_cVi (pc' := 233) (k' := 0) (n' := 0) rfl C (c_X1_addFuel _ G a Y 0 (numF Y (3, o, 1) 3 0) k0) my_X1_addFuel aw_487 (v0 k0 rfl) rfl rfl rfl rfl rfl (Nat.le_of_ble_eq_true rfl) rfl dX12_carryOut_230 rfl rfl (fun r_230 Y_230 hp_230 => ?_)
    obtain ⟨hr_230, hY_230⟩ := hp_230
    refine y_ireturn C rfl rfl dX12_carryOut_233 rfl rfl ?_
    have nf0 : numF Y (3, o, 1) 3 0 = τ (4 * o + 1) := (numF3 (j := 0) _ rfl (by decide)).trans (hvn 0 (by decide))
    have h_ : ActC Y Y_230 0 4 n (fuelA s (numF Y (3, o, 1) 3 0)) r_230 := fuel_C hR hI hn ⟨hr_230, hY_230⟩
    rw [nf0] at h_
    rw [do_7 hvc]
    exact h_
  refine y_tabD (tgt := 234) C [1, 2, 3, 4, 5, 6, 7, 8] dX12_carryOut_54 (List.forall_mem_cons.mpr ⟨tne s_54_1 rfl, (List.forall_mem_cons.mpr ⟨tne s_54_2 rfl, (List.forall_mem_cons.mpr ⟨tne s_54_3 rfl, (List.forall_mem_cons.mpr ⟨tne s_54_4 rfl, (List.forall_mem_cons.mpr ⟨tne s_54_5 rfl, (List.forall_mem_cons.mpr ⟨tne s_54_6 rfl, (List.forall_mem_cons.mpr ⟨tne s_54_7 rfl, (List.forall_mem_cons.mpr ⟨tne s_54_8 rfl, (fun _ h => absurd h List.not_mem_nil)⟩)⟩)⟩)⟩)⟩)⟩)⟩)⟩) rfl (by decide) ?_
  have hw : v = 8 := sw_8 hv9 s_54_1 s_54_2 s_54_3 s_54_4 s_54_5 s_54_6 s_54_7 s_54_8
  subst hw
  refine y_aload_n (pc' := 235) rfl C dX12_carryOut_234 rfl ?_
  refine y_get (pc' := 238) rfl (v := .ref (a (0, 0, 0))) C fl_X12_10 (v2 rfl) rfl rfl dX12_carryOut_235 rfl ?_
  refine y_iload_n (pc' := 239) rfl C dX12_carryOut_238 rfl ?_
  refine y_cVi (pc' := 242) (k' := 0) (n' := 0) rfl C (c_X3_letGo _ G a Y 0 n s (numF Y (3, o, 1) 3 0) k0 hR hI hn) my_X3_letGo aw_875 (v0 k0 rfl) rfl rfl rfl rfl rfl (Nat.le_of_ble_eq_true rfl) rfl dX12_carryOut_239 rfl rfl (fun r_239 Y_239 hp_239 => ?_)
  obtain ⟨hr_239, hY_239⟩ := hp_239
  refine y_ireturn C rfl rfl dX12_carryOut_242 rfl rfl ?_
  have nf0 : numF Y (3, o, 1) 3 0 = τ (4 * o + 1) := (numF3 (j := 0) _ rfl (by decide)).trans (hvn 0 (by decide))
  have h_ : ActC Y Y_239 0 4 n (goA s (numF Y (3, o, 1) 3 0)) r_239 := go_C hI hn ⟨hr_239, hY_239⟩
  rw [nf0] at h_
  rw [do_8 hvc]
  exact h_
