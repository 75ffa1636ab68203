
theorem m2_toI {p : Nat} (h : p < 2 ^ 30) : (-20000 - nI p).toInt = -20000 - (p : Int) := by
  rw [Int32.toInt_sub, nI_toInt (by omega), show (-20000 : Int32).toInt = -20000 by decide]
  exact Int.bmod_eq_of_le (by omega) (by omega)
theorem m2_neg {p : Nat} (h : p < 2 ^ 30) : ¬ 0 ≤ -20000 - nI p := by
  rw [Int32.le_iff_toInt_le, m2_toI h, Int32.toInt_zero]
  omega
def RnI (Yb Yl : YT) (s τ : Nat → Int32) (o n i : Nat) : Prop := RKi Yl 0 (exS s τ i) ∧ Inv (exS s τ i) (n + i) 0 ∧ RKi Yl 1 s ∧ (∀ q : Id3, ¬ (q.1 ≤ 1 ∧ q.2.1 ≤ 1) → q ≠ (2, 0, 4) → Yl q = Yb q) ∧ exF s τ o o 0 = exF s τ o (o - i) i
theorem RnI.s {Yb Yl Y2 : YT} {s τ : Nat → Int32} {o n i : Nat} {r : Int32} (h : RnI Yb Yl s τ o n i) (hi : i < o) (hA : ActC Yl Y2 0 4 (n + i) (doA (exS s τ i) τ i) r) (hr : 0 ≤ r) : RnI Yb Y2 s τ o n (i + 1) := by
  obtain ⟨h1, h2, h3, h4, h5⟩ := h
  have h0 := hA.ge hr
  obtain ⟨a1, a2, a3, a4, a5⟩ := hA.1 h0
  exact ⟨a3, a5, hA.k1 h3 (by decide), fun q hq h24 => (hA.fr (fun z => hq ⟨z.1, by omega⟩) h24).trans (h4 q hq h24), h5.trans (exF_on hi h0)⟩
def RunC (Y Y' : YT) (T τ0 : Nat → Int32) (e c st n : Nat) (s : Nat → Int32) (r : Int32) : Prop :=
  Y' (5, 0, 0) 0 = 0 ∧
  (¬ goodT T τ0 e → r = -20000 - nI (runT T τ0 e).2.1 ∧ RKi Y' 0 s ∧ ∀ q : Id3, q.1 ≠ 3 → q ≠ (5, 0, 0) → Y' q = Y q) ∧
  (goodT T τ0 e →
    (exF s (runT T τ0 e).2.2.2 (runT T τ0 e).1 (runT T τ0 e).1 0 = (runT T τ0 e).1 → r = nI (runT T τ0 e).1 ∧ RKi Y' 0 (exS s (runT T τ0 e).2.2.2 (runT T τ0 e).1) ∧ Inv (exS s (runT T τ0 e).2.2.2 (runT T τ0 e).1) (n + 12) 0 ∧ Y' (2, 0, 1) 0 = nI ((rg c st).1 + 1) ∧ Y' (2, 0, 1) 1 = nI (rg c st).2 ∧ RKi Y' (slot c st) s ∧ ∀ q : Id3, q.1 ≠ 3 → q ≠ (5, 0, 0) → q ≠ (2, 0, 4) → q ≠ (2, 0, 1) → ¬ (q.1 ≤ 1 ∧ (q.2.1 ≤ 1 ∨ q.2.1 = slot c st)) → Y' q = Y q) ∧
    (¬ exF s (runT T τ0 e).2.2.2 (runT T τ0 e).1 (runT T τ0 e).1 0 = (runT T τ0 e).1 → r = -10004 ∧ RKi Y' 0 s ∧ Y' (2, 0, 3) 0 = 6 ∧ Y' (2, 0, 3) 1 = nI (exF s (runT T τ0 e).2.2.2 (runT T τ0 e).1 (runT T τ0 e).1 0) ∧ ∀ q : Id3, q.1 ≠ 3 → q ≠ (5, 0, 0) → q ≠ (2, 0, 4) → q ≠ (2, 0, 3) → ¬ (q.1 ≤ 1 ∧ q.2.1 ≤ 1) → Y' q = Y q))
theorem exF_end {s τ : Nat → Int32} {o : Nat} : exF s τ o (o - o) o = o := by rw [Nat.sub_self]; rfl
theorem n34 {k j a b : Nat} : ((3, k, j) : Id3) ≠ (2, a, b) := fun q => by injection q with q1; exact absurd q1 (by decide)
theorem n35 {k j a b : Nat} : ((3, k, j) : Id3) ≠ (5, a, b) := fun q => by injection q with q1; exact absurd q1 (by decide)
theorem my_X12_carryOut : MV yX12_carryOut cX12_carryOut 5 (some .int) 1 := ⟨aw_865, aw_15, ⟨by decide, by decide, by decide +kernel⟩, aw_864, aw_10⟩
theorem my_X8_clearText : MV yX8_clearText cX8_clearText 1 none 0 := ⟨aw_840, aw_24, ⟨by decide, by decide, by decide +kernel⟩, aw_838, aw_839⟩
theorem my_X8_read : MV yX8_read cX8_read 4 (some .int) 0 := ⟨aw_786, aw_24, ⟨by decide, by decide, by decide +kernel⟩, aw_784, aw_785⟩
-- KilnKeeper.run 
set_option maxHeartbeats 1000000 in
set_option maxRecDepth 20000 in
theorem c_X12_run (l : Launch) (G : GT) (a : Id3 → Nat) (Y : YT) (T τ0 : Nat → Int32) (e c st n : Nat) (s : Nat → Int32)  (htl : Y (5, 0, 0) 0 = nI e) (he : e ≤ 60) (hT : ∀ j, j < e → Y (5, 0, 0) (1 + j) = T j) (hc : Y (2, 0, 1) 0 = nI c) (hc8' : c ≤ 8) (hst : Y (2, 0, 1) 1 = nI st) (hst8 : st < 8) (hR : RKi Y 0 s) (hI : Inv s n 0) (hn9 : n ≤ 90000) : CtY l G a yX12_run cX12_run 3 (some .int) ({ frames := 9, cells := 1, slots := 200, locals := 213 } : Room) [.ref (a (2, 0, 0))] Y (PI (fun r Y' => RunC Y Y' T τ0 e c st n s r)) := by
  refine CtY.of (by decide) rfl (Nat.le_of_ble_eq_true rfl) ?_
  intro X A C hl
  subst hl
  have hrf : (3 : Nat) = 3 ∨ (3 : Nat) = 4 := Or.inl rfl
  refine y_aload_n (pc' := 1) rfl C dX12_run_0 rfl ?_
  refine y_get (pc' := 4) rfl (v := .ref (a (2, 0, 5))) C fl_X12_46 (v2 rfl) rfl rfl dX12_run_1 rfl ?_
  refine y_cVi (pc' := 7) (k' := 0) (n' := 0) rfl C (c_X8_read _ G a Y T e τ0 htl he hT) my_X8_read aw_783 (v2 rfl) rfl rfl rfl rfl rfl (Nat.le_of_ble_eq_true rfl) rfl dX12_run_4 rfl rfl (fun r_4 Y_4 hp_4 => ?_)
  obtain ⟨hr_4, hY_4⟩ := hp_4
  refine y_istore_n (pc' := 8) rfl C dX12_run_7 (by decide) ?_
  refine y_aload_n (pc' := 9) rfl C dX12_run_8 rfl ?_
  refine y_get (pc' := 12) rfl (v := .ref (a (2, 0, 5))) C fl_X12_46 (v2 rfl) rfl rfl dX12_run_9 rfl ?_
  refine y_cVv (pc' := 15) (k' := 1) (n' := 200) rfl C (c_X8_clearText _ G a Y_4 ) my_X8_clearText aw_837 (v2 rfl) rfl rfl rfl rfl rfl (Nat.le_of_ble_eq_true rfl) rfl dX12_run_12 rfl rfl (fun Y_12 hY_12 => ?_)
  have f12 : ∀ q : Id3, q ≠ (5, 0, 0) → Y_12 q = Y_4 q := fun q hq => by rw [hY_12, sb0, setA_n hq]
  have t12 : Y_12 (5, 0, 0) 0 = 0 := by rw [hY_12, sb0, setA_s, upd_s]
  have hRc : RKi Y_12 0 s := hR.congr (fun i h1 _ => by rw [f12 i (fun z => by rw [z] at h1; exact absurd h1 (by decide)), hY_4 i (fun z => by omega)])
  refine y_iload_n (pc' := 16) rfl C dX12_run_15 rfl ?_
  refine y_if_ge (pc' := 19) rfl (tgt := 21) C dX12_run_16 (by decide) (fun c_16 => ?_) (fun c_16 => ?_)
  · have hg : goodT T τ0 e := Classical.not_not.mp (fun z => absurd c_16 (by rw [(hr_4.2 z).1]; exact m2_neg (by have := (hr_4.2 z).2; omega)))
    obtain ⟨hr, ho12, hord⟩ := hr_4.1 hg
    refine y_conv (L' := [some (.ref (a (2, 0, 0))), some (.int ((nI (runT T τ0 e).1))), none]) (st' := []) (by rw [hr] <;> rfl) (rfl) ?_
    refine y_aload_n (pc' := 22) rfl C dX12_run_21 rfl ?_
    refine y_cVv (pc' := 25) (k' := 1) (n' := 200) rfl C (c_X12_beginChange _ G a Y_12 n s hRc hI.mb) my_X12_beginChange aw_384 (v2 rfl) rfl rfl rfl rfl rfl (Nat.le_of_ble_eq_true rfl) rfl dX12_run_22 rfl rfl (fun Y_22 hY_22 => ?_)
    have hR22 : RKi Y_22 0 s := hRc.fr hY_22.2 (by decide)
    refine y_iconst (pc' := 26) rfl (v := 0) C dX12_run_25 (by decide) ?_
    refine y_istore_n (pc' := 27) rfl C dX12_run_26 (by decide) ?_
    refine y_widen (k' := 1) (n' := 200) (by omega) (by omega) ?_
    refine y_conv (L' := [some (.ref (a (2, 0, 0))), some (.int ((nI (runT T τ0 e).1))), some (.int ((nI 0)))]) (rfl) rfl ?_
    suffices K27 : ∀ (fu_ i27 : Nat) (Yl27 : YT), i27 ≤ (runT T τ0 e).1 → (runT T τ0 e).1 < fu_ + i27 → Yl27 = Yl27 → (RnI Y_22 Yl27 s (runT T τ0 e).2.2.2 (runT T τ0 e).1 n i27) → WY X G A a Yl27 1 200 _ 27 [some (.ref (a (2, 0, 0))), some (.int ((nI (runT T τ0 e).1))), some (.int ((nI i27)))] [] from K27 ((runT T τ0 e).1 + 1) 0 _ (by omega) (by omega) (rfl) (⟨hR22, hI, hY_22.1, fun _ _ _ => rfl, rfl⟩)
    intro fu_
    induction fu_ with
    | zero => intro i27 Yl27 h1 h2; omega
    | succ fu_ ih27 =>
      intro i27 Yl27 hi27 hm27 hYl27 hx27
      have hg1 : Yl27 (2, 0, 1) = Y (2, 0, 1) := by rw [hx27.2.2.2.1 _ (fun z => absurd z.1 (by decide)) (by decide), hY_22.2 _ (fun z => absurd z.1 (by decide)), f12 _ (by decide), hY_4 _ (by decide)]
      have hod0 : ∀ b, Yl27 (3, i27, b) = Y_4 (3, i27, b) := fun b => by rw [hx27.2.2.2.1 _ (fun z => absurd z.1 (show ¬ (3 : Nat) ≤ 1 by decide)) n34, hY_22.2 _ (fun z => absurd z.1 (show ¬ (3 : Nat) ≤ 1 by decide)), f12 _ n35]
      refine y_iload_n (pc' := 28) rfl C dX12_run_27 rfl ?_
      refine y_iload_n (pc' := 29) rfl C dX12_run_28 rfl ?_
      refine y_ic_ge (pc' := 32) rfl (tgt := 68) C dX12_run_29 (by decide) (fun c_29 => ?_) (fun c_29 => ?_)
      · have hb27 : (runT T τ0 e).1 ≤ i27 := nI_le_iff (by omega) (by omega) c_29
        refine y_widen (k' := 1) (n' := 200) (by omega) (by omega) ?_
        refine y_aload_n (pc' := 69) rfl C dX12_run_68 rfl ?_
        refine y_iload_n (pc' := 70) rfl C dX12_run_69 rfl ?_
        refine y_cVi (pc' := 73) (k' := 1) (n' := 200) rfl C (c_X12_endChange _ G a Yl27 c st n s (nI (runT T τ0 e).1) (by rw [hg1]; exact hc) hc8' (by rw [hg1]; exact hst) hst8 hx27.2.2.1 hI.mb) my_X12_endChange aw_427 (v2 rfl) rfl rfl rfl rfl rfl (Nat.le_of_ble_eq_true rfl) rfl dX12_run_70 rfl rfl (fun r_70 Y_70 hp_70 => ?_)
        refine y_ireturn C rfl rfl dX12_run_73 rfl rfl ?_
        have e27 : i27 = (runT T τ0 e).1 := by omega
        obtain ⟨e1, e2, e3, e4, e5⟩ := hp_70.2 (nI_pos' (by omega))
        have hk : exF s (runT T τ0 e).2.2.2 (runT T τ0 e).1 (runT T τ0 e).1 0 = (runT T τ0 e).1 := by rw [hx27.2.2.2.2, e27]; exact exF_end
        have hs3 := slot_ge c st
        obtain ⟨x1, x2, x3, x4, -⟩ := hx27
        rw [e27] at x1 x2
        refine ⟨?_, fun z => absurd hg z, fun _ => ⟨fun _ => ⟨e1, x1.congr (fun i h1 h2 => e5 i (fun z => ?_) (ne21 h1)), x2.up (by omega) (by omega), e2, e3, e4, fun q h3 h5 h24 h21 hn1 => ?_⟩, fun z => absurd hk z⟩⟩
        · rw [e5 _ (fun z => absurd z.1 (by decide)) (by decide), x4 _ (fun z => absurd z.1 (by decide)) (by decide), hY_22.2 _ (fun z => absurd z.1 (by decide)), t12]
        · have : i.2.1 = slot c st := z.2
          omega
        · rw [e5 q (fun z => hn1 ⟨z.1, Or.inr z.2⟩) h21, x4 q (fun z => hn1 ⟨z.1, Or.inl z.2⟩) h24, hY_22.2 q (fun z => hn1 ⟨z.1, Or.inl (by omega)⟩), f12 q h5, hY_4 q h3]
      · have hb27 : i27 < (runT T τ0 e).1 := nI_nle_iff (by omega) (by omega) c_29
        refine y_aload_n (pc' := 33) rfl C dX12_run_32 rfl ?_
        refine y_aload_n (pc' := 34) rfl C dX12_run_33 rfl ?_
        refine y_get (pc' := 37) rfl (v := .ref (a (2, 0, 5))) C fl_X12_46 (v2 rfl) rfl rfl dX12_run_34 rfl ?_
        refine y_iload_n (pc' := 38) rfl C dX12_run_37 rfl ?_
        have hod : ordIs (Yl27 (3, i27, 0) 0) (Yl27 (3, i27, 1)) (runT T τ0 e).2.2.2 i27 := by rw [hod0, hod0]; exact hord i27 hb27
        refine y_cVr (pc' := 41) (k' := 1) (n' := 200) rfl C (c_X8_orderAt _ G a Yl27 i27 (show i27 < 12 by omega)) my_X8_orderAt aw_861 (v2 rfl) rfl rfl rfl rfl rfl (Nat.le_of_ble_eq_true rfl) rfl dX12_run_38 rfl rfl (fun r_38 Y_38 hp_38 => ?_)
        obtain ⟨rfl, hY_38⟩ := hp_38
        have hY_38 := hY_38.symm; subst hY_38
        refine y_cVi (pc' := 44) (k' := 1) (n' := 200) rfl C (c_X12_carryOut _ G a Yl27 (n + i27) i27 (exS s (runT T τ0 e).2.2.2 i27) (runT T τ0 e).2.2.2 hx27.1 hx27.2.1 (by omega) (by omega) hod) my_X12_carryOut aw_862 (v2 rfl) rfl rfl rfl rfl rfl (Nat.le_of_ble_eq_true rfl) rfl dX12_run_41 rfl rfl (fun r_41 Y_41 hA => ?_)
        refine y_if_ge (pc' := 47) rfl (tgt := 62) C dX12_run_44 (by decide) (fun c_44 => ?_) (fun c_44 => ?_)
        · refine y_iinc (pc' := 65) rfl (v := (nI (i27 + 1))) C dX12_run_62 rfl (nI_1 i27) (by decide) ?_
          refine y_goto (tgt := 27) C dX12_run_65 (by decide) ?_
          refine y_widen (k' := 1) (n' := 200) (by omega) (by omega) ?_
          exact ih27 (i27 + 1) _ (by omega) (by omega) (rfl) (hx27.s hb27 hA c_44)
        · refine y_aload_n (pc' := 48) rfl C dX12_run_47 rfl ?_
          refine y_aload_n (pc' := 49) rfl C dX12_run_48 rfl ?_
          refine y_get (pc' := 52) rfl (v := .ref (a (2, 0, 3))) C fl_X12_36 (v2 rfl) rfl rfl dX12_run_49 rfl ?_
          refine y_bipush (pc' := 54) rfl (v := 6) C dX12_run_52 (by decide) ?_
          refine y_iload_n (pc' := 55) rfl C dX12_run_54 rfl ?_
          refine y_cVi (pc' := 58) (k' := 1) (n' := 200) rfl C (c_X9_because _ G a Y_41 3 6 (nI i27) hrf) my_X9_because aw_930 (v2 rfl) rfl rfl rfl rfl rfl (Nat.le_of_ble_eq_true rfl) rfl dX12_run_55 rfl rfl (fun r_55 Y_55 hp_55 => ?_)
          obtain ⟨rfl, hY_55⟩ := hp_55
          refine y_cVi (pc' := 61) (k' := 1) (n' := 200) rfl C (c_X12_endChange _ G a Y_55 c st n s (-10004) (by rw [hY_55, up_n (by decide), up_n (by decide), hA.fr (fun z => absurd z.1 (by decide)) (by decide), hg1]; exact hc) hc8' (by rw [hY_55, up_n (by decide), up_n (by decide), hA.fr (fun z => absurd z.1 (by decide)) (by decide), hg1]; exact hst) hst8 ((hA.k1 hx27.2.2.1 (by decide)).congr (fun i h1 h2 => by rw [hY_55, up_n (ne21 h1), up_n (ne21 h1)])) hI.mb) my_X12_endChange aw_427 (v2 rfl) rfl rfl rfl rfl rfl (Nat.le_of_ble_eq_true rfl) rfl dX12_run_58 rfl rfl (fun r_58 Y_58 hp_58 => ?_)
          refine y_ireturn C rfl rfl dX12_run_61 rfl rfl ?_
          obtain ⟨e1, e2, e3⟩ := hp_58.1 (by decide)
          have hk : exF s (runT T τ0 e).2.2.2 (runT T τ0 e).1 (runT T τ0 e).1 0 = i27 := hx27.2.2.2.2.trans (exF_off hb27 (hA.lt c_44))
          have f55 : ∀ q : Id3, q ≠ (2, 0, 3) → Y_55 q = Y_41 q := fun q hq => by rw [hY_55, up_n hq, up_n hq]
          have e33 : Y_58 (2, 0, 3) = Y_55 (2, 0, 3) := e3 _ (fun z => absurd z.1 (by decide))
          refine ⟨?_, fun z => absurd hg z, fun _ => ⟨fun z => absurd (hk.symm.trans z) (by omega), fun _ => ⟨e1, e2, ?_, ?_, fun q h3 h5 h24 h23 hn1 => ?_⟩⟩⟩
          · rw [e3 _ (fun z => absurd z.1 (by decide)), f55 _ (by decide), hA.fr (fun z => absurd z.1 (by decide)) (by decide), hx27.2.2.2.1 _ (fun z => absurd z.1 (by decide)) (by decide), hY_22.2 _ (fun z => absurd z.1 (by decide)), t12]
          · rw [e33, hY_55, up_s, upd_n (by decide), up_s, upd_s]
          · rw [e33, hY_55, up_s, upd_s, hk]
          · rw [e3 q (fun z => hn1 ⟨z.1, by omega⟩), f55 q h23, hA.fr (fun z => hn1 ⟨z.1, by omega⟩) h24, hx27.2.2.2.1 q hn1 h24, hY_22.2 q (fun z => hn1 ⟨z.1, by omega⟩), f12 q h5, hY_4 q h3]
  · refine y_iload_n (pc' := 20) rfl C dX12_run_19 rfl ?_
    refine y_ireturn C rfl rfl dX12_run_20 rfl rfl ?_
    have hng : ¬ goodT T τ0 e := fun z => c_16 (by rw [(hr_4.1 z).1]; exact nI_pos' (by have := (hr_4.1 z).2.1; omega))
    exact ⟨t12, fun _ => ⟨(hr_4.2 hng).1, hRc, fun q h3 h5 => (f12 q h5).trans (hY_4 q h3)⟩, fun z => absurd z hng⟩
