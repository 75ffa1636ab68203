theorem caseP_ge (t : Nat → Int32) (e o : Nat) (x : Int32) (p : PSt) : p.1 ≤ (caseP t e o x p).1 := by
  have g : ∀ {c : Prop} {dc : Decidable c} {u v : PSt}, p.1 ≤ u.1 → p.1 ≤ v.1 → p.1 ≤ (if c then u else v).1 := by
    intro c dc u v hu hv
    by_cases h : c
    · rw [if_pos h]
      exact hu
    · rw [if_neg h]
      exact hv
  have r : ∀ k m, p.1 ≤ (readsP t e o k m p).1 := fun k m => readsP_ge t e o k m p
  have n3 : ∀ k a b m j, p.1 ≤ (numP t e o a b (numP t e o j m (readsP t e o k 2 p))).1 := fun k a b m j => Nat.le_trans (r k 2) (Nat.le_trans (numP_ge t e o j m _) (numP_ge t e o a b _))
  unfold caseP
  exact g (r _ _) (g (r _ _) (g (r _ _) (g (r _ _) (g (r _ _) (g (n3 _ _ _ _ _) (g (n3 _ _ _ _ _) (g (r _ _) (g (r _ _) (Nat.le_refl _)))))))))

def RunI (Y : YT) (e i : Nat) (p : PSt) (Yl : YT) : Prop := atP Yl p ∧ Yl (4, 0, 8) 18 = nI (i + 1) ∧ Yl (4, 0, 8) 17 = nI e ∧ Ob Yl (clrY Y) ∧ Yl (4, 0, 1) = Y (4, 0, 0) ∧ runP Y e = parL (Y (4, 0, 5)) e (60 - i) (i + 1) p ∧ i ≤ p.1 ∧ p.1 ≤ e ∧ isb p.2.1 ∧ (p.2.1 = 0 → 2 * (i + 1) ≤ p.1 + 1)
theorem clr_n {Y : YT} {i : Id3} (h : i ≠ (4, 0, 8)) : clrY Y i = Y i := up_n h
theorem ob_5 {Y Yl : YT} (h : Ob Yl (clrY Y)) : Yl (4, 0, 5) = Y (4, 0, 5) := (h.1 _ (by decide) (by decide) (by decide) (by decide)).trans (clr_n (by decide))
theorem RunI.step {Y Yl Z Y' : YT} {e i : Nat} {p : PSt} {x : Int32} (h : RunI Y e i p Yl) (hw : p.2.1 = 0) (hs : hereT (Y (4, 0, 5)) e p.1 = 59) (hl : p.1 < e) (he : e ≤ 60) (hZ : Z = up Yl (4, 0, 8) 16 x) (hY : Y' = up (setP Z (oneP (Z (4, 0, 5)) e (i + 1) (p.1 + 1, p.2.1, p.2.2))) (4, 0, 8) 18 (nI (i + 1 + 1))) : RunI Y e (i + 1) (oneP (Y (4, 0, 5)) e (i + 1) (p.1 + 1, p.2.1, p.2.2)) Y' := by
  obtain ⟨hat, h18, h17, hob, h1, hrp, hip, hpe, hpb, h2o⟩ := h
  have z5 : Z (4, 0, 5) = Y (4, 0, 5) := by rw [hZ, up_n (by decide)]; exact ob_5 hob
  rw [z5] at hY
  generalize hq : oneP (Y (4, 0, 5)) e (i + 1) (p.1 + 1, p.2.1, p.2.2) = q at hY
  have hql : q.1 ≤ e := by rw [← hq]; exact oneP_le (show p.1 + 1 ≤ e from hl)
  refine ⟨⟨?_, ?_, ?_⟩, ?_, ?_, ?_, ?_, ?_, ?_, hql, ?_, ?_⟩
  · rw [hY, up_s, upd_n (by decide), setP_8, pst_16]
  · rw [hY, up_s, upd_n (by decide), setP_8, pst_19]
  · rw [hY, up_n (by decide), setP_6]
  · rw [hY, up_s, upd_s]
  · rw [hY, up_s, upd_n (by decide), setP_8, pst_n (by decide) (by decide), hZ, up_s, upd_n (by decide), h17]
  · rw [hY, hZ]
    exact ((Ob.U (by decide)).tr (Ob.P.tr (Ob.U (by decide)))).tr hob
  · rw [hY, up_n (by decide), setP_n (by decide) (by decide), hZ, up_n (by decide), h1]
  · rw [hrp, parL_on (by omega) hw hs, hq]
  · rw [← hq]
    have := caseP_ge (Y (4, 0, 5)) e (i + 1) (sortF (Y (4, 0, 5)) e (p.1 + 1)) (toldP (i + 1) (sortF (Y (4, 0, 5)) e (p.1 + 1)) (p.1 + 1, p.2.1, p.2.2))
    exact Nat.le_trans (Nat.succ_le_succ hip) this
  · rw [← hq]
    exact oneP_b _ _ _ _
  · intro h0
    rw [← hq] at h0 ⊢
    have := oneP_gt h0
    have h3 := h2o hw
    have h4 : p.1 + 1 + 1 ≤ (oneP (Y (4, 0, 5)) e (i + 1) (p.1 + 1, p.2.1, p.2.2)).1 := this
    omega
theorem RunI.init {Y Z Y' : YT} {e : Nat} (he : e ≤ 60) (q8 : Z (4, 0, 8) = upd (upd (upd (upd (upd (Y (4, 0, 8)) 16 0) 17 (nI e)) 10 0) 18 0) 19 0) (qn : ∀ i, i ≠ (4, 0, 8) → Z i = setA Y (4, 0, 1) (Y (4, 0, 0)) i) (hY : Y' = up (setP Z (oneP (Z (4, 0, 5)) e 0 (0, 0, Y (4, 0, 6)))) (4, 0, 8) 18 (nI (0 + 1))) : RunI Y e 0 (oneP (Y (4, 0, 5)) e 0 (0, 0, Y (4, 0, 6))) Y' := by
  have z5 : Z (4, 0, 5) = Y (4, 0, 5) := by rw [qn _ (by decide), setA_n (by decide)]
  rw [z5] at hY
  have hob : Ob Z (clrY Y) := by
    refine ⟨fun i a b c d => ?_, fun f hf => ?_⟩
    · rw [qn i d, setA_n a, clr_n d]
    · rw [q8, clrY, up_s, upd_n (by omega), upd_n (by omega)]
      by_cases h10 : f = 10
      · subst h10
        rw [upd_s, upd_s]
      · rw [upd_n h10, upd_n h10, upd_n (by omega), upd_n (by omega)]
  generalize hq : oneP (Y (4, 0, 5)) e 0 (0, 0, Y (4, 0, 6)) = q at hY
  refine ⟨⟨?_, ?_, ?_⟩, ?_, ?_, ?_, ?_, ?_, Nat.zero_le _, ?_, ?_, ?_⟩
  · rw [hY, up_s, upd_n (by decide), setP_8, pst_16]
  · rw [hY, up_s, upd_n (by decide), setP_8, pst_19]
  · rw [hY, up_n (by decide), setP_6]
  · rw [hY, up_s, upd_s]
  · rw [hY, up_s, upd_n (by decide), setP_8, pst_n (by decide) (by decide), q8, upd_n (by decide), upd_n (by decide), upd_n (by decide), upd_s]
  · rw [hY]
    exact ((Ob.U (by decide)).tr Ob.P).tr hob
  · rw [hY, up_n (by decide), setP_n (by decide) (by decide), qn _ (by decide), setA_s]
  · rw [← hq]; rfl
  · rw [← hq]
    exact oneP_le (Nat.zero_le e)
  · rw [← hq]
    exact oneP_b _ _ _ _
  · intro h0
    rw [← hq] at h0 ⊢
    have h4 : 0 + 1 ≤ (oneP (Y (4, 0, 5)) e 0 (0, 0, Y (4, 0, 6))).1 := oneP_gt h0
    omega
def RunX (Y : YT) (e n k : Nat) (Yl : YT) : Prop := Ob Yl (setA (clrY Y) (4, 0, 0) (exS (Y (4, 0, 0)) (runP Y e).2.2.2 k)) ∧ Yl (4, 0, 1) = Y (4, 0, 0) ∧ Yl (4, 0, 6) = (runP Y e).2.2.2 ∧ Yl (4, 0, 8) 18 = nI (runP Y e).1 ∧ MB (exS (Y (4, 0, 0)) (runP Y e).2.2.2 k) (n + k) ∧ runK Y e = exF (Y (4, 0, 0)) (runP Y e).2.2.2 (runP Y e).1 ((runP Y e).1 - k) k
theorem RunX.s0 {Y Yl : YT} {e n k : Nat} (h : RunX Y e n k Yl) : Yl (4, 0, 0) = exS (Y (4, 0, 0)) (runP Y e).2.2.2 k := (h.1.1 _ (by decide) (by decide) (by decide) (by decide)).trans setA_s
theorem setAct_6 (Y : YT) (q : ActT) {i : Id3} (h : i ≠ (4, 0, 0)) (h8 : i ≠ (4, 0, 8)) : setAct Y q i = Y i := by
  unfold setAct
  split
  · rw [up_n h8, setA_n h]
  · split
    · rfl
    · rw [up_n h8]
theorem setAct_f (Y : YT) (q : ActT) {f : Nat} (h : f ≠ 14) (h8 : f ≠ 15) : setAct Y q (4, 0, 8) f = Y (4, 0, 8) f := by
  unfold setAct
  split
  · rw [up_s, upd_n h8, setA_n (by decide)]
  · split
    · rfl
    · rw [up_s, upd_n h]
theorem RunX.step {Y Yl Y' : YT} {e n k : Nat} (h : RunX Y e n k Yl) (hk : k < (runP Y e).1) (hn : n + k ≤ 100000) (h0 : (doA (Yl (4, 0, 0)) (Yl (4, 0, 6)) k).1 = 0) (hY : Y' = setAct Yl (doA (Yl (4, 0, 0)) (Yl (4, 0, 6)) k)) : RunX Y e n (k + 1) Y' := by
  have hs := h.s0
  obtain ⟨hob, h1, h6, h18, hmb, hrk⟩ := h
  rw [hs, h6] at h0 hY
  refine ⟨?_, ?_, ?_, ?_, ?_, ?_⟩
  · rw [hY, setAct_0 h0]
    refine (Ob.U (by decide)).tr ⟨fun i a b c d => ?_, fun f hf => ?_⟩
    · by_cases hi : i = (4, 0, 0)
      · subst hi
        rw [setA_s, setA_s]
        rfl
      · rw [setA_n hi, setA_n hi, hob.1 i a b c d, setA_n hi]
    · rw [setA_n (by decide), setA_n (by decide), hob.2 f hf, setA_n (by decide)]
  · rw [hY, setAct_6 _ _ (by decide) (by decide), h1]
  · rw [hY, setAct_6 _ _ (by decide) (by decide), h6]
  · rw [hY, setAct_f _ _ (by decide) (by decide), h18]
  · exact doA_M hmb hn h0
  · rw [hrk, exF_on hk h0]
theorem Ob.push {X Y : YT} (h : Ob X Y) (h1 : X (4, 0, 1) = Y (4, 0, 1)) : Ob (hpush X) (hpush Y) := by
  have h5 := h.2 5 (by decide)
  have h4 : X (4, 0, 4) = Y (4, 0, 4) := h.1 _ (by decide) (by decide) (by decide) (by decide)
  unfold hpush
  rw [h5, h4, h1]
  have hA : ∀ {U V : YT} (y : Nat → Int32), Ob U V → Ob (setA U (4, 0, 4) y) (setA V (4, 0, 4) y) := by
    intro U V y hu
    refine ⟨fun i a b c d => ?_, fun f hf => by rw [setA_n (by decide), setA_n (by decide)]; exact hu.2 f hf⟩
    by_cases hi : i = (4, 0, 4)
    · subst hi
      rw [setA_s, setA_s]
    · rw [setA_n hi, setA_n hi]
      exact hu.1 i a b c d
  split
  · exact hA _ h
  · refine hA _ ⟨fun i a b c d => by rw [up_n d, up_n d]; exact h.1 i a b c d, fun f hf => ?_⟩
    rw [up_s, up_s]
    by_cases hf5 : f = 5
    · subst hf5
      rw [upd_s, upd_s]
    · rw [upd_n hf5, upd_n hf5]
      exact h.2 f hf
def runR (Y : YT) (e : Nat) : Int32 := if (runP Y e).2.2.1 = 0 ∧ e ≤ (runP Y e).2.1 then (if runK Y e = (runP Y e).1 then nI (runP Y e).1 else -10004) else -20000 - nI (runP Y e).2.1
def runO (Y : YT) (e : Nat) : YT := if (runP Y e).2.2.1 = 0 ∧ e ≤ (runP Y e).2.1 then (if runK Y e = (runP Y e).1 then hpush (setA (rem1 (clrY Y)) (4, 0, 0) (exS (Y (4, 0, 0)) (runP Y e).2.2.2 (runP Y e).1)) else up (up (clrY Y) (4, 0, 8) 12 6) (4, 0, 8) 13 (nI (runK Y e))) else clrY Y
theorem up_ob {X Y : YT} {f : Nat} {x : Int32} (h : Ob X Y) : Ob (up X (4, 0, 8) f x) (up Y (4, 0, 8) f x) := by
  refine ⟨fun i a b c d => by rw [up_n d, up_n d]; exact h.1 i a b c d, fun g hg => ?_⟩
  rw [up_s, up_s]
  by_cases e : g = f
  · subst e
    rw [upd_s, upd_s]
  · rw [upd_n e, upd_n e]
    exact h.2 g hg
/-- a failing order -/
theorem RunX.fail {Y Yl Y9 Yc Y5 Y3 : YT} {e n k : Nat} (h : RunX Y e n k Yl) (hY9 : Y9 = setAct Yl (doA (Yl (4, 0, 0)) (Yl (4, 0, 6)) k)) (h0 : ¬ (doA (Yl (4, 0, 0)) (Yl (4, 0, 6)) k).1 = 0) (hc : Yc = setA Y9 (4, 0, 0) (Y9 (4, 0, 1))) (h5 : Y5 = up Yc (4, 0, 8) 14 (nI k)) (h3 : Y3 = endY Y5 6) : Ob Y3 (up (up (clrY Y) (4, 0, 8) 12 6) (4, 0, 8) 13 (nI k)) := by
  obtain ⟨hob, h1, h6, h18, hmb, hrk⟩ := h
  have o9 : Ob Y9 (setA (clrY Y) (4, 0, 0) (exS (Y (4, 0, 0)) (runP Y e).2.2.2 k)) := by
    rw [hY9]
    unfold setAct
    rw [if_neg h0]
    split
    · exact hob
    · exact (Ob.U (by decide)).tr hob
  have e1 : Y9 (4, 0, 1) = Y (4, 0, 0) := by rw [hY9, setAct_6 _ _ (by decide) (by decide), h1]
  have oc : Ob Yc (clrY Y) := by
    rw [hc, e1]
    refine ⟨fun i a b c d => ?_, fun f hf => ?_⟩
    · by_cases hi : i = (4, 0, 0)
      · subst hi
        rw [setA_s, clr_n (by decide)]
      · rw [setA_n hi, o9.1 i a b c d, setA_n hi]
    · rw [setA_n (by decide), o9.2 f hf, setA_n (by decide)]
  have o5 : Ob Y5 (clrY Y) := by
    rw [h5]
    exact (Ob.U (by decide)).tr oc
  have e14 : Y5 (4, 0, 8) 14 = nI k := by rw [h5, up_s, upd_s]
  rw [h3, endY, if_neg (by decide), if_neg (by decide), e14]
  exact up_ob (up_ob o5)
theorem fp_X13_152 : FLP "KilnKeeperModel" 152 12 17 .int false := ⟨RX13, TX13, 20, tyX13, rfl, by decide, aw_1060, in_TX13, tyX13_ok, nmX13, rfl, rfl, fun h => by first | exact rfl | cases h⟩
theorem my_X13_does : MV yX13_does cX13_does 5 (some .int) 1 := ⟨aw_1349, aw_71, ⟨by decide, by decide, by decide +kernel⟩, aw_1348, aw_48⟩
theorem my_X13_readsOne : MV yX13_readsOne cX13_readsOne 2 none 0 := ⟨aw_1313, aw_71, ⟨by decide, by decide, by decide +kernel⟩, aw_1312, aw_42⟩
-- KilnKeeperModel.does 
set_option maxHeartbeats 1000000 in
set_option maxRecDepth 20000 in
theorem c_X13_does (l : Launch) (G : GT) (a : Id3 → Nat) (Y : YT) (k : Nat)  (hk : k ≤ 30) (hok : MOK (Y (4, 0, 0))) : CtY l G a yX13_does cX13_does 5 (some .int) ({ frames := 5, cells := 0, slots := 0, locals := 110 } : Room) [.ref (a (4, 0, 8)), .int (nI k)] Y (PI (fun r Y' => r = (doA (Y (4, 0, 0)) (Y (4, 0, 6)) k).1 ∧ Y' = setAct Y (doA (Y (4, 0, 0)) (Y (4, 0, 6)) k))) := by
  refine CtY.of (by decide) rfl (Nat.le_of_ble_eq_true rfl) ?_
  intro X A C hl
  subst hl
  obtain ⟨lg, np, d0, fu0, h8, hlg, h15, hnp, -⟩ := id hok
  refine y_aload_n (pc' := 1) rfl C dX13_does_0 rfl ?_
  refine y_get (pc' := 4) rfl (v := .ref (a (4, 0, 6))) C fl_X13_28 (v4 rfl) rfl rfl dX13_does_1 rfl ?_
  refine y_iconst (pc' := 5) rfl (v := 4) C dX13_does_4 (by decide) ?_
  refine y_iload_n (pc' := 6) rfl C dX13_does_5 rfl ?_
  refine y_imul (pc' := 7) rfl C dX13_does_6 ?_
  refine y_iconst (pc' := 8) rfl (v := 1) C dX13_does_7 (by decide) ?_
  refine y_iadd (pc' := 9) rfl C dX13_does_8 ?_
  refine y_ialdN (pc' := 10) rfl C ((4 * k) + 1) (nadd (nmul (rfl : (4 : Int32) = nI 4) rfl) (rfl : (1 : Int32) = nI 1)) (v4 rfl) rfl rfl (show ((4 * k) + 1) < 160 by omega) rfl dX13_does_9 ?_
  refine y_istore_n (pc' := 11) rfl C dX13_does_10 (by decide) ?_
  refine y_aload_n (pc' := 12) rfl C dX13_does_11 rfl ?_
  refine y_get (pc' := 15) rfl (v := .ref (a (4, 0, 6))) C fl_X13_28 (v4 rfl) rfl rfl dX13_does_12 rfl ?_
  refine y_iconst (pc' := 16) rfl (v := 4) C dX13_does_15 (by decide) ?_
  refine y_iload_n (pc' := 17) rfl C dX13_does_16 rfl ?_
  refine y_imul (pc' := 18) rfl C dX13_does_17 ?_
  refine y_iconst (pc' := 19) rfl (v := 2) C dX13_does_18 (by decide) ?_
  refine y_iadd (pc' := 20) rfl C dX13_does_19 ?_
  refine y_ialdN (pc' := 21) rfl C ((4 * k) + 2) (nadd (nmul (rfl : (4 : Int32) = nI 4) rfl) (rfl : (2 : Int32) = nI 2)) (v4 rfl) rfl rfl (show ((4 * k) + 2) < 160 by omega) rfl dX13_does_20 ?_
  refine y_istore_n (pc' := 22) rfl C dX13_does_21 (by decide) ?_
  refine y_aload_n (pc' := 23) rfl C dX13_does_22 rfl ?_
  refine y_get (pc' := 26) rfl (v := .ref (a (4, 0, 6))) C fl_X13_28 (v4 rfl) rfl rfl dX13_does_23 rfl ?_
  refine y_iconst (pc' := 27) rfl (v := 4) C dX13_does_26 (by decide) ?_
  refine y_iload_n (pc' := 28) rfl C dX13_does_27 rfl ?_
  refine y_imul (pc' := 29) rfl C dX13_does_28 ?_
  refine y_iconst (pc' := 30) rfl (v := 3) C dX13_does_29 (by decide) ?_
  refine y_iadd (pc' := 31) rfl C dX13_does_30 ?_
  refine y_ialdN (pc' := 32) rfl C ((4 * k) + 3) (nadd (nmul (rfl : (4 : Int32) = nI 4) rfl) (rfl : (3 : Int32) = nI 3)) (v4 rfl) rfl rfl (show ((4 * k) + 3) < 160 by omega) rfl dX13_does_31 ?_
  refine y_istore (pc' := 34) rfl C dX13_does_32 (by decide) ?_
  refine y_aload_n (pc' := 35) rfl C dX13_does_34 rfl ?_
  refine y_get (pc' := 38) rfl (v := .ref (a (4, 0, 6))) C fl_X13_28 (v4 rfl) rfl rfl dX13_does_35 rfl ?_
  refine y_iconst (pc' := 39) rfl (v := 4) C dX13_does_38 (by decide) ?_
  refine y_iload_n (pc' := 40) rfl C dX13_does_39 rfl ?_
  refine y_imul (pc' := 41) rfl C dX13_does_40 ?_
  refine y_ialdN (pc' := 42) rfl C (4 * k) (nmul (rfl : (4 : Int32) = nI 4) rfl) (v4 rfl) rfl rfl (show (4 * k) < 160 by omega) rfl dX13_does_41 ?_
  by_cases s_42_97 : (Y (4, 0, 6) (4 * k)) = 97
  · refine y_tabC (v := 97) (tgt := 140) C s_42_97 dX13_does_42 (by decide) (by decide) rfl (by decide) ?_
    refine y_aload_n (pc' := 141) rfl C dX13_does_140 rfl ?_
    refine y_iload_n (pc' := 142) rfl C dX13_does_141 rfl ?_
    refine y_cVi (pc' := 145) (k' := 0) (n' := 0) rfl C (c_X13_aims _ G a Y (Y (4, 0, 6) ((4 * k) + 1)) ) my_X13_aims aw_1112 (v4 rfl) rfl rfl rfl rfl rfl (Nat.le_of_ble_eq_true rfl) rfl dX13_does_142 rfl rfl (fun r_142 Y_142 hp_142 => ?_)
    obtain ⟨rfl, hY_142⟩ := hp_142
    refine y_ireturn C rfl rfl dX13_does_145 rfl rfl ?_
    exact ⟨by rw [doA, if_pos s_42_97], by rw [doA, if_pos s_42_97]; exact hY_142⟩
  by_cases s_42_99 : (Y (4, 0, 6) (4 * k)) = 99
  · refine y_tabC (v := 99) (tgt := 155) C s_42_99 dX13_does_42 (by decide) (by decide) rfl (by decide) ?_
    refine y_aload_n (pc' := 156) rfl C dX13_does_155 rfl ?_
    refine y_iload_n (pc' := 157) rfl C dX13_does_156 rfl ?_
    refine y_cVi (pc' := 160) (k' := 0) (n' := 0) rfl C (c_X13_caps _ G a Y (Y (4, 0, 6) ((4 * k) + 1)) ) my_X13_caps aw_1147 (v4 rfl) rfl rfl rfl rfl rfl (Nat.le_of_ble_eq_true rfl) rfl dX13_does_157 rfl rfl (fun r_157 Y_157 hp_157 => ?_)
    obtain ⟨rfl, hY_157⟩ := hp_157
    refine y_ireturn C rfl rfl dX13_does_160 rfl rfl ?_
    exact ⟨by rw [doA, if_neg s_42_97, if_pos s_42_99], by rw [doA, if_neg s_42_97, if_pos s_42_99]; exact hY_157⟩
  by_cases s_42_102 : (Y (4, 0, 6) (4 * k)) = 102
  · refine y_tabC (v := 102) (tgt := 188) C s_42_102 dX13_does_42 (by decide) (by decide) rfl (by decide) ?_
    refine y_aload_n (pc' := 189) rfl C dX13_does_188 rfl ?_
    refine y_iload_n (pc' := 190) rfl C dX13_does_189 rfl ?_
    refine y_cVi (pc' := 193) (k' := 0) (n' := 0) rfl C (c_X13_fuels _ G a Y (Y (4, 0, 6) ((4 * k) + 1)) ) my_X13_fuels aw_1170 (v4 rfl) rfl rfl rfl rfl rfl (Nat.le_of_ble_eq_true rfl) rfl dX13_does_190 rfl rfl (fun r_190 Y_190 hp_190 => ?_)
    obtain ⟨rfl, hY_190⟩ := hp_190
    refine y_ireturn C rfl rfl dX13_does_193 rfl rfl ?_
    exact ⟨by rw [doA, if_neg s_42_97, if_neg s_42_99, if_pos s_42_102], by rw [doA, if_neg s_42_97, if_neg s_42_99, if_pos s_42_102]; exact hY_190⟩
  by_cases s_42_108 : (Y (4, 0, 6) (4 * k)) = 108
  · refine y_tabC (v := 108) (tgt := 161) C s_42_108 dX13_does_42 (by decide) (by decide) rfl (by decide) ?_
    refine y_aload_n (pc' := 162) rfl C dX13_does_161 rfl ?_
    refine y_iload_n (pc' := 163) rfl C dX13_does_162 rfl ?_
    refine y_cVi (pc' := 166) (k' := 0) (n' := 0) rfl C (c_X13_lags _ G a Y lg (Y (4, 0, 6) ((4 * k) + 1)) h8 hlg) my_X13_lags aw_1158 (v4 rfl) rfl rfl rfl rfl rfl (Nat.le_of_ble_eq_true rfl) rfl dX13_does_163 rfl rfl (fun r_163 Y_163 hp_163 => ?_)
    obtain ⟨rfl, hY_163⟩ := hp_163
    refine y_ireturn C rfl rfl dX13_does_166 rfl rfl ?_
    exact ⟨by rw [doA, if_neg s_42_97, if_neg s_42_99, if_neg s_42_102, if_pos s_42_108], by rw [doA, if_neg s_42_97, if_neg s_42_99, if_neg s_42_102, if_pos s_42_108]; exact hY_163⟩
  by_cases s_42_110 : (Y (4, 0, 6) (4 * k)) = 110
  · refine y_tabC (v := 110) (tgt := 146) C s_42_110 dX13_does_42 (by decide) (by decide) rfl (by decide) ?_
    refine y_aload_n (pc' := 147) rfl C dX13_does_146 rfl ?_
    refine y_iload_n (pc' := 148) rfl C dX13_does_147 rfl ?_
    refine y_iload_n (pc' := 149) rfl C dX13_does_148 rfl ?_
    refine y_iload (pc' := 151) rfl C dX13_does_149 rfl ?_
    refine y_cVi (pc' := 154) (k' := 0) (n' := 0) rfl C (c_X13_gainsOf _ G a Y (Y (4, 0, 6) ((4 * k) + 1)) (Y (4, 0, 6) ((4 * k) + 2)) (Y (4, 0, 6) ((4 * k) + 3)) ) my_X13_gainsOf aw_1139 (v4 rfl) rfl rfl rfl rfl rfl (Nat.le_of_ble_eq_true rfl) rfl dX13_does_151 rfl rfl (fun r_151 Y_151 hp_151 => ?_)
    obtain ⟨rfl, hY_151⟩ := hp_151
    refine y_ireturn C rfl rfl dX13_does_154 rfl rfl ?_
    exact ⟨by rw [doA, if_neg s_42_97, if_neg s_42_99, if_neg s_42_102, if_neg s_42_108, if_pos s_42_110], by rw [doA, if_neg s_42_97, if_neg s_42_99, if_neg s_42_102, if_neg s_42_108, if_pos s_42_110]; exact hY_151⟩
  by_cases s_42_112 : (Y (4, 0, 6) (4 * k)) = 112
  · refine y_tabC (v := 112) (tgt := 167) C s_42_112 dX13_does_42 (by decide) (by decide) rfl (by decide) ?_
    refine y_aload_n (pc' := 168) rfl C dX13_does_167 rfl ?_
    refine y_iload_n (pc' := 169) rfl C dX13_does_168 rfl ?_
    refine y_iload_n (pc' := 170) rfl C dX13_does_169 rfl ?_
    refine y_iload (pc' := 172) rfl C dX13_does_170 rfl ?_
    refine y_cVi (pc' := 175) (k' := 0) (n' := 0) rfl C (c_X13_comes _ G a Y np (Y (4, 0, 6) ((4 * k) + 1)) (Y (4, 0, 6) ((4 * k) + 2)) (Y (4, 0, 6) ((4 * k) + 3)) hnp h15) my_X13_comes aw_1210 (v4 rfl) rfl rfl rfl rfl rfl (Nat.le_of_ble_eq_true rfl) rfl dX13_does_172 rfl rfl (fun r_172 Y_172 hp_172 => ?_)
    obtain ⟨rfl, hY_172⟩ := hp_172
    refine y_ireturn C rfl rfl dX13_does_175 rfl rfl ?_
    exact ⟨by rw [doA, if_neg s_42_97, if_neg s_42_99, if_neg s_42_102, if_neg s_42_108, if_neg s_42_110, if_pos s_42_112], by rw [doA, if_neg s_42_97, if_neg s_42_99, if_neg s_42_102, if_neg s_42_108, if_neg s_42_110, if_pos s_42_112]; exact hY_172⟩
  by_cases s_42_116 : (Y (4, 0, 6) (4 * k)) = 116
  · refine y_tabC (v := 116) (tgt := 182) C s_42_116 dX13_does_42 (by decide) (by decide) rfl (by decide) ?_
    refine y_aload_n (pc' := 183) rfl C dX13_does_182 rfl ?_
    refine y_iload_n (pc' := 184) rfl C dX13_does_183 rfl ?_
    refine y_cVi (pc' := 187) (k' := 0) (n' := 0) rfl C (c_X13_takes _ G a Y np (Y (4, 0, 6) ((4 * k) + 1)) hnp h15) my_X13_takes aw_1234 (v4 rfl) rfl rfl rfl rfl rfl (Nat.le_of_ble_eq_true rfl) rfl dX13_does_184 rfl rfl (fun r_184 Y_184 hp_184 => ?_)
    obtain ⟨rfl, hY_184⟩ := hp_184
    refine y_ireturn C rfl rfl dX13_does_187 rfl rfl ?_
    exact ⟨by rw [doA, if_neg s_42_97, if_neg s_42_99, if_neg s_42_102, if_neg s_42_108, if_neg s_42_110, if_neg s_42_112, if_pos s_42_116], by rw [doA, if_neg s_42_97, if_neg s_42_99, if_neg s_42_102, if_neg s_42_108, if_neg s_42_110, if_neg s_42_112, if_pos s_42_116]; exact hY_184⟩
  by_cases s_42_117 : (Y (4, 0, 6) (4 * k)) = 117
  · refine y_tabC (v := 117) (tgt := 176) C s_42_117 dX13_does_42 (by decide) (by decide) rfl (by decide) ?_
    refine y_aload_n (pc' := 177) rfl C dX13_does_176 rfl ?_
    refine y_iload_n (pc' := 178) rfl C dX13_does_177 rfl ?_
    refine y_cVi (pc' := 181) (k' := 0) (n' := 0) rfl C (c_X13_puts _ G a Y np (Y (4, 0, 6) ((4 * k) + 1)) hnp h15) my_X13_puts aw_1218 (v4 rfl) rfl rfl rfl rfl rfl (Nat.le_of_ble_eq_true rfl) rfl dX13_does_178 rfl rfl (fun r_178 Y_178 hp_178 => ?_)
    obtain ⟨rfl, hY_178⟩ := hp_178
    refine y_ireturn C rfl rfl dX13_does_181 rfl rfl ?_
    exact ⟨by rw [doA, if_neg s_42_97, if_neg s_42_99, if_neg s_42_102, if_neg s_42_108, if_neg s_42_110, if_neg s_42_112, if_neg s_42_116, if_pos s_42_117], by rw [doA, if_neg s_42_97, if_neg s_42_99, if_neg s_42_102, if_neg s_42_108, if_neg s_42_110, if_neg s_42_112, if_neg s_42_116, if_pos s_42_117]; exact hY_178⟩
  refine y_tabD (tgt := 194) C [97, 99, 102, 108, 110, 112, 116, 117] dX13_does_42 (List.forall_mem_cons.mpr ⟨tne s_42_97 rfl, (List.forall_mem_cons.mpr ⟨tne s_42_99 rfl, (List.forall_mem_cons.mpr ⟨tne s_42_102 rfl, (List.forall_mem_cons.mpr ⟨tne s_42_108 rfl, (List.forall_mem_cons.mpr ⟨tne s_42_110 rfl, (List.forall_mem_cons.mpr ⟨tne s_42_112 rfl, (List.forall_mem_cons.mpr ⟨tne s_42_116 rfl, (List.forall_mem_cons.mpr ⟨tne s_42_117 rfl, (fun _ h => absurd h List.not_mem_nil)⟩)⟩)⟩)⟩)⟩)⟩)⟩)⟩) rfl (by decide) ?_
  refine y_aload_n (pc' := 195) rfl C dX13_does_194 rfl ?_
  refine y_iload_n (pc' := 196) rfl C dX13_does_195 rfl ?_
  refine y_cVi (pc' := 199) (k' := 0) (n' := 0) rfl C (c_X13_goesOn _ G a Y (Y (4, 0, 6) ((4 * k) + 1)) hok) my_X13_goesOn aw_1178 (v4 rfl) rfl rfl rfl rfl rfl (Nat.le_of_ble_eq_true rfl) rfl dX13_does_196 rfl rfl (fun r_196 Y_196 hp_196 => ?_)
  obtain ⟨rfl, hY_196⟩ := hp_196
  refine y_ireturn C rfl rfl dX13_does_199 rfl rfl ?_
  exact ⟨by rw [doA, if_neg s_42_97, if_neg s_42_99, if_neg s_42_102, if_neg s_42_108, if_neg s_42_110, if_neg s_42_112, if_neg s_42_116, if_neg s_42_117], by rw [doA, if_neg s_42_97, if_neg s_42_99, if_neg s_42_102, if_neg s_42_108, if_neg s_42_110, if_neg s_42_112, if_neg s_42_116, if_neg s_42_117]; exact hY_196⟩
-- KilnKeeperModel.run 
set_option maxHeartbeats 2000000 in
set_option maxRecDepth 20000 in
theorem c_X13_run (l : Launch) (G : GT) (a : Id3 → Nat) (Y : YT) (kp e n : Nat)  (hk : Y (4, 0, 8) 5 = nI kp) (hkp : kp ≤ 8) (hl : Y (4, 0, 8) 10 = nI e) (he : e ≤ 60) (hmb : MB (Y (4, 0, 0)) n) (hn : n ≤ 90000) : CtY l G a yX13_run cX13_run 3 (some .int) ({ frames := 9, cells := 0, slots := 0, locals := 195 } : Room) [.ref (a (4, 0, 8))] Y (PI (fun r Y' => r = runR Y e ∧ Ob Y' (runO Y e))) := by
  refine CtY.of (by decide) rfl (Nat.le_of_ble_eq_true rfl) ?_
  intro X A C hl
  subst hl
  refine y_aload_n (pc' := 1) rfl C dX13_run_0 rfl ?_
  refine y_cVv (pc' := 4) (k' := 0) (n' := 0) rfl C (c_X13_remembers _ G a Y ) my_X13_remembers aw_1108 (v4 rfl) rfl rfl rfl rfl rfl (Nat.le_of_ble_eq_true rfl) rfl dX13_run_1 rfl rfl (fun Y_1 hY_1 => ?_)
  refine y_aload_n (pc' := 5) rfl C dX13_run_4 rfl ?_
  refine y_iconst (pc' := 6) rfl (v := 0) C dX13_run_5 (by decide) ?_
  refine y_put (pc' := 9) rfl C fp_X13_149 (v4 rfl) rfl rfl dX13_run_6 rfl (fun Z6 hZ6 => ?_)
  refine y_aload_n (pc' := 10) rfl C dX13_run_9 rfl ?_
  refine y_aload_n (pc' := 11) rfl C dX13_run_10 rfl ?_
  refine y_get (pc' := 14) rfl C fl_X13_146 (v4 rfl) rfl rfl dX13_run_11 rfl ?_
  refine y_put (pc' := 17) rfl C fp_X13_152 (v4 rfl) rfl rfl dX13_run_14 rfl (fun Z14 hZ14 => ?_)
  refine y_aload_n (pc' := 18) rfl C dX13_run_17 rfl ?_
  refine y_iconst (pc' := 19) rfl (v := 0) C dX13_run_18 (by decide) ?_
  refine y_put (pc' := 22) rfl C fp_X13_146 (v4 rfl) rfl rfl dX13_run_19 rfl (fun Z19 hZ19 => ?_)
  refine y_aload_n (pc' := 23) rfl C dX13_run_22 rfl ?_
  refine y_iconst (pc' := 24) rfl (v := 0) C dX13_run_23 (by decide) ?_
  refine y_put (pc' := 27) rfl C fp_X13_176 (v4 rfl) rfl rfl dX13_run_24 rfl (fun Z24 hZ24 => ?_)
  refine y_aload_n (pc' := 28) rfl C dX13_run_27 rfl ?_
  refine y_iconst (pc' := 29) rfl (v := 0) C dX13_run_28 (by decide) ?_
  refine y_putB (pc' := 32) rfl C fp_X13_159 (v4 rfl) rfl rfl (by first | exact Or.inl rfl | exact Or.inr rfl | assumption) dX13_run_29 rfl (fun Z29 hZ29 => ?_)
  have q8 : Z29 (4, 0, 8) = upd (upd (upd (upd (upd (Y (4, 0, 8)) 16 0) 17 (nI e)) 10 0) 18 0) 19 0 := by rw [hZ29, up_s, hZ24, up_s, hZ19, up_s, hZ14, up_s, hZ6, up_s, upd_n (show (10 : Nat) ≠ 16 by decide), hY_1, setA_n (by decide), hl]
  have qn : ∀ i, i ≠ (4, 0, 8) → Z29 i = setA Y (4, 0, 1) (Y (4, 0, 0)) i := fun i hi => by rw [hZ29, up_n hi, hZ24, up_n hi, hZ19, up_n hi, hZ14, up_n hi, hZ6, up_n hi, hY_1]
  have hat0 : atP Z29 (0, 0, Y (4, 0, 6)) := ⟨by rw [q8]; rfl, by rw [q8]; rfl, by rw [qn _ (by decide), setA_n (by decide)]⟩
  have h17z : Z29 (4, 0, 8) 17 = nI e := by rw [q8]; rfl
  have h18z : Z29 (4, 0, 8) 18 = nI 0 := by rw [q8]; rfl
  refine y_aload_n (pc' := 33) rfl C dX13_run_32 rfl ?_
  refine y_cVv (pc' := 36) (k' := 0) (n' := 0) rfl C (c_X13_readsOne _ G a Z29 e 0 (0, 0, Y (4, 0, 6)) hat0 h17z he (Nat.zero_le _) (Or.inl rfl) h18z (by omega)) my_X13_readsOne aw_1310 (v4 rfl) rfl rfl rfl rfl rfl (Nat.le_of_ble_eq_true rfl) rfl dX13_run_33 rfl rfl (fun Y_33 hY_33 => ?_)
  suffices K36 : ∀ (fu_ i36 : Nat) (Yl36 : YT), i36 ≤ 60 → 60 < fu_ + i36 → Yl36 = Yl36 → (∃ p : PSt, RunI Y e i36 p Yl36) → WY X G A a Yl36 0 0 _ 36 [some (.ref (a (4, 0, 8))), none, none] [] from K36 (60 + 1) 0 _ (by omega) (by omega) (rfl) (⟨_, RunI.init he q8 qn hY_33⟩)
  intro fu_
  induction fu_ with
  | zero => intro i36 Yl36 h1 h2; omega
  | succ fu_ ih36 =>
    intro i36 Yl36 hi36 hm36 hYl36 hx36
    obtain ⟨p, hR⟩ := hx36
    obtain ⟨hat, h18, h17, hob, h1, hrp, hip, hpe, hpb, h2o⟩ := id hR
    have h5 := ob_5 hob
    refine y_aload_n (pc' := 37) rfl C dX13_run_36 rfl ?_
    refine y_getB (pc' := 40) rfl C fl_X13_159 (v4 rfl) rfl rfl dX13_run_37 rfl (fun hb_37 => ?_)
    refine y_if_ne (pc' := 43) rfl (tgt := 70) C dX13_run_40 (by decide) (fun c_40 => ?_) (fun c_40 => ?_)
    · have hw0 : ¬ p.2.1 = 0 := by rw [← hat.2.1]; exact c_40
      have hout : ¬ (p.2.1 = 0 ∧ hereT (Y (4, 0, 5)) e p.1 = 59) := fun h_ => hw0 h_.1
      have hfin : runP Y e = (i36 + 1, p) := by rw [hrp]; exact parL_off (fun h_ => hout h_)
      refine y_aload_n (pc' := 71) rfl C dX13_run_70 rfl ?_
      refine y_getB (pc' := 74) rfl C fl_X13_159 (v4 rfl) rfl rfl dX13_run_71 rfl (fun hb_71 => ?_)
      refine y_if_ne (pc' := 77) rfl (tgt := 88) C dX13_run_74 (by decide) (fun c_74 => ?_) (fun c_74 => ?_)
      · have hbad : ¬ (p.2.1 = 0 ∧ e ≤ p.1) := fun h_ => c_74 (by rw [hat.2.1]; exact h_.1)
        refine y_sipush (pc' := 91) rfl (v := (-20000)) C dX13_run_88 (by decide) ?_
        refine y_aload_n (pc' := 92) rfl C dX13_run_91 rfl ?_
        refine y_get (pc' := 95) rfl C fl_X13_149 (v4 rfl) rfl rfl dX13_run_92 rfl ?_
        refine y_isub (pc' := 96) rfl C dX13_run_95 ?_
        refine y_ireturn C rfl rfl dX13_run_96 rfl rfl ?_
        have hng : ¬ ((runP Y e).2.2.1 = 0 ∧ e ≤ (runP Y e).2.1) := by rw [hfin]; exact hbad
        exact ⟨by rw [runR, if_neg hng, hfin, hat.1], by rw [runO, if_neg hng]; exact hob⟩
      · have hw1 : p.2.1 = 0 := by rw [← hat.2.1]; exact c_74
        refine y_aload_n (pc' := 78) rfl C dX13_run_77 rfl ?_
        refine y_get (pc' := 81) rfl C fl_X13_149 (v4 rfl) rfl rfl dX13_run_78 rfl ?_
        refine y_aload_n (pc' := 82) rfl C dX13_run_81 rfl ?_
        refine y_get (pc' := 85) rfl C fl_X13_152 (v4 rfl) rfl rfl dX13_run_82 rfl ?_
        refine y_ic_ge (pc' := 88) rfl (tgt := 97) C dX13_run_85 (by decide) (fun c_85 => ?_) (fun c_85 => ?_)
        · rw [hat.1, h17] at c_85
          have hgood : p.2.1 = 0 ∧ e ≤ p.1 := ⟨hw1, nI_le_iff (by omega) (by omega) c_85⟩
          have h2p := h2o hw1
          refine y_iconst (pc' := 98) rfl (v := 0) C dX13_run_97 (by decide) ?_
          refine y_istore_n (pc' := 99) rfl C dX13_run_98 (by decide) ?_
          suffices K99 : ∀ (fu_ i99 : Nat) (Yl99 : YT), i99 ≤ (i36 + 1) → (i36 + 1) < fu_ + i99 → Yl99 = Yl99 → RunX Y e n i99 Yl99 → WY X G A a Yl99 0 0 _ 99 [some (.ref (a (4, 0, 8))), some (.int ((nI i99))), none] [] from K99 ((i36 + 1) + 1) 0 _ (by omega) (by omega) (rfl) (⟨by rw [hfin]; exact hob.tr ⟨fun i a b c d => by by_cases hi : i = (4, 0, 0); subst hi; rw [setA_s, clr_n (by decide)]; rfl; rw [setA_n hi], fun f hf => by rw [setA_n (by decide)]⟩, h1, by rw [hfin]; exact hat.2.2, by rw [hfin]; exact h18, hmb.up (by omega), rfl⟩)
          intro fu_
          induction fu_ with
          | zero => intro i99 Yl99 h1 h2; omega
          | succ fu_ ih99 =>
            intro i99 Yl99 hi99 hm99 hYl99 hx99
            have hX18 : Yl99 (4, 0, 8) 18 = nI (i36 + 1) := by have := hx99.2.2.2.1; rw [hfin] at this; exact this
            have hX5 : Yl99 (4, 0, 8) 5 = nI kp := by rw [hx99.1.2 5 (by decide), setA_n (by decide), clrY, up_s, upd_n (by decide)]; exact hk
            refine y_iload_n (pc' := 100) rfl C dX13_run_99 rfl ?_
            refine y_aload_n (pc' := 101) rfl C dX13_run_100 rfl ?_
            refine y_get (pc' := 104) rfl C fl_X13_176 (v4 rfl) rfl rfl dX13_run_101 rfl ?_
            refine y_ic_ge (pc' := 107) rfl (tgt := 163) C dX13_run_104 (by decide) (fun c_104 => ?_) (fun c_104 => ?_)
            · rw [hX18] at c_104
              have hb99 : (i36 + 1) ≤ i99 := nI_le_iff (by omega) (by omega) c_104
              refine y_aload_n (pc' := 164) rfl C dX13_run_163 rfl ?_
              refine y_aload_n (pc' := 165) rfl C dX13_run_164 rfl ?_
              refine y_get (pc' := 168) rfl C fl_X13_176 (v4 rfl) rfl rfl dX13_run_165 rfl ?_
              refine y_cVi (pc' := 171) (k' := 0) (n' := 0) rfl C (c_X13_changed _ G a Yl99 kp (Yl99 (4, 0, 8) 18) hX5 hkp) my_X13_changed aw_1131 (v4 rfl) rfl rfl rfl rfl rfl (Nat.le_of_ble_eq_true rfl) rfl dX13_run_168 rfl rfl (fun r_168 Y_168 hp_168 => ?_)
              obtain ⟨rfl, hY_168⟩ := hp_168
              refine y_ireturn C rfl rfl dX13_run_171 rfl rfl ?_
              have hgo : (runP Y e).2.2.1 = 0 ∧ e ≤ (runP Y e).2.1 := by rw [hfin]; exact hgood
              have hkk : runK Y e = (runP Y e).1 := by rw [hx99.2.2.2.2.2, hfin, show i99 = i36 + 1 by omega, Nat.sub_self]; rfl
              refine ⟨by rw [runR, if_pos hgo, if_pos hkk, hX18, hfin], ?_⟩
              rw [hY_168, runO, if_pos hgo, if_pos hkk]
              refine Ob.push ?_ ?_
              · have := hx99.1
                rw [show i99 = (runP Y e).1 by rw [hfin]; show i99 = i36 + 1; omega] at this
                refine this.tr ⟨fun i a b c d => ?_, fun f hf => ?_⟩
                · by_cases hi : i = (4, 0, 0)
                  · subst hi; rw [setA_s, setA_s]
                  · rw [setA_n hi, setA_n hi, rem1, setA_n a]
                · rw [setA_n (by decide), setA_n (by decide), rem1, setA_n (by decide)]
              · rw [hx99.2.1, setA_n (by decide), rem1, setA_s, clr_n (by decide)]
            · rw [hX18] at c_104
              have hb99 : i99 < (i36 + 1) := nI_nle_iff (by omega) (by omega) c_104
              refine y_aload_n (pc' := 108) rfl C dX13_run_107 rfl ?_
              refine y_iload_n (pc' := 109) rfl C dX13_run_108 rfl ?_
              refine y_cVi (pc' := 112) (k' := 0) (n' := 0) rfl C (c_X13_does _ G a Yl99 i99 (by omega) (by rw [hx99.s0]; exact hx99.2.2.2.2.1.ok (by omega))) my_X13_does aw_1346 (v4 rfl) rfl rfl rfl rfl rfl (Nat.le_of_ble_eq_true rfl) rfl dX13_run_109 rfl rfl (fun r_109 Y_109 hp_109 => ?_)
              obtain ⟨rfl, hY_109⟩ := hp_109
              refine y_if_ne (pc' := 115) rfl (tgt := 118) C dX13_run_112 (by decide) (fun c_112 => ?_) (fun c_112 => ?_)
              · refine y_iconst (pc' := 119) rfl (v := 0) C dX13_run_118 (by decide) ?_
                refine y_istore_n (pc' := 120) rfl C dX13_run_119 (by decide) ?_
                suffices K120 : ∀ (fu_ i120 : Nat) (Yl120 : YT), i120 ≤ 227 → 227 < fu_ + i120 → Yl120 = setA Y_109 (4, 0, 0) (fil (Y_109 (4, 0, 1)) (Y_109 (4, 0, 0)) i120) → WY X G A a Yl120 0 0 _ 120 [some (.ref (a (4, 0, 8))), some (.int ((nI i99))), some (.int ((nI i120)))] [] from K120 (227 + 1) 0 _ (by omega) (by omega) (by rw [fil_0, setA_self])
                intro fu_
                induction fu_ with
                | zero => intro i120 Yl120 h1 h2; omega
                | succ fu_ ih120 =>
                  intro i120 Yl120 hi120 hm120 hYl120
                  refine y_iload_n (pc' := 121) rfl C dX13_run_120 rfl ?_
                  refine y_sipush (pc' := 124) rfl (v := 227) C dX13_run_121 (by decide) ?_
                  refine y_ic_ge (pc' := 127) rfl (tgt := 145) C dX13_run_124 (by decide) (fun c_124 => ?_) (fun c_124 => ?_)
                  · have hb120 : 227 ≤ i120 := nI_le_iff (by omega) (by omega) c_124
                    obtain rfl : i120 = 227 := by omega
                    refine y_arr (4, 0, 0) (Y_109 (4, 0, 1)) (v4 rfl) rfl rfl (fun f hf => by rw [hYl120, setA_s, fil_in (show f < 227 from hf)]) ?_
                    obtain ⟨Yc, hYc⟩ : ∃ Yq, Yq = setA Y_109 (4, 0, 0) (Y_109 (4, 0, 1)) := ⟨_, rfl⟩
                    rw [show setA Yl120 (4, 0, 0) (Y_109 (4, 0, 1)) = Yc by rw [hYl120, setA_setA, hYc]]
                    refine y_aload_n (pc' := 146) rfl C dX13_run_145 rfl ?_
                    refine y_aload_n (pc' := 147) rfl C dX13_run_146 rfl ?_
                    refine y_bipush (pc' := 149) rfl (v := 6) C dX13_run_147 (by decide) ?_
                    refine y_iload_n (pc' := 150) rfl C dX13_run_149 rfl ?_
                    refine y_cVi (pc' := 153) (k' := 0) (n' := 0) rfl C (c_X13_refused _ G a Yc 6 (nI i99)) my_X13_refused aw_1119 (v4 rfl) rfl rfl rfl rfl rfl (Nat.le_of_ble_eq_true rfl) rfl dX13_run_150 rfl rfl (fun r_150 Y_150 hp_150 => ?_)
                    obtain ⟨rfl, hY_150⟩ := hp_150
                    refine y_cVi (pc' := 156) (k' := 0) (n' := 0) rfl C (c_X13_ends _ G a Y_150 kp 6 (by rw [hY_150, up_s, upd_n (by decide), hYc, setA_n (by decide), hY_109, setAct_5]; exact hX5) hkp) my_X13_ends aw_1127 (v4 rfl) rfl rfl rfl rfl rfl (Nat.le_of_ble_eq_true rfl) rfl dX13_run_153 rfl rfl (fun r_153 Y_153 hp_153 => ?_)
                    obtain ⟨rfl, hY_153⟩ := hp_153
                    refine y_ireturn C rfl rfl dX13_run_156 rfl rfl ?_
                    have hgo : (runP Y e).2.2.1 = 0 ∧ e ≤ (runP Y e).2.1 := by rw [hfin]; exact hgood
                    have hkk : runK Y e = i99 := by rw [hx99.2.2.2.2.2, exF_off (by rw [hfin]; exact hb99) (by have := c_112; rw [hx99.s0, hx99.2.2.1] at this; exact this)]
                    have hne : ¬ runK Y e = (runP Y e).1 := by rw [hkk, hfin]; show ¬ i99 = i36 + 1; omega
                    exact ⟨by rw [runR, if_pos hgo, if_neg hne]; rfl, by rw [runO, if_pos hgo, if_neg hne, hkk]; exact hx99.fail hY_109 c_112 hYc hY_150 hY_153⟩
                  · have hb120 : i120 < 227 := nI_nle_iff (by omega) (by omega) c_124
                    refine y_aload_n (pc' := 128) rfl C dX13_run_127 rfl ?_
                    refine y_get (pc' := 131) rfl (v := .ref (a (4, 0, 0))) C fl_X13_7 (v4 rfl) rfl rfl dX13_run_128 rfl ?_
                    refine y_iload_n (pc' := 132) rfl C dX13_run_131 rfl ?_
                    refine y_aload_n (pc' := 133) rfl C dX13_run_132 rfl ?_
                    refine y_get (pc' := 136) rfl (v := .ref (a (4, 0, 1))) C fl_X13_13 (v4 rfl) rfl rfl dX13_run_133 rfl ?_
                    refine y_iload_n (pc' := 137) rfl C dX13_run_136 rfl ?_
                    refine y_ialdN (pc' := 138) rfl C i120 rfl (v4 rfl) rfl rfl (show i120 < 227 by omega) rfl dX13_run_137 ?_
                    refine y_iastN (pc' := 139) rfl C i120 rfl (v4 rfl) rfl rfl (show i120 < 227 by omega) rfl dX13_run_138 (fun Z138 hZ138 => ?_)
                    refine y_iinc (pc' := 142) rfl (v := (nI (i120 + 1))) C dX13_run_139 rfl (nI_1 i120) (by decide) ?_
                    refine y_goto (tgt := 120) C dX13_run_142 (by decide) ?_
                    exact ih120 (i120 + 1) _ (by omega) (by omega) (by rw [hZ138, up_setA, hYl120, setA_setA, setA_s, setA_n (by decide), fil_s])
              · refine y_goto (tgt := 157) C dX13_run_115 (by decide) ?_
                refine y_iinc (pc' := 160) rfl (v := (nI (i99 + 1))) C dX13_run_157 rfl (nI_1 i99) (by decide) ?_
                refine y_goto (tgt := 99) C dX13_run_160 (by decide) ?_
                exact ih99 (i99 + 1) _ (by omega) (by omega) (rfl) (hx99.step (by rw [hfin]; exact hb99) (by omega) c_112 hY_109)
        · rw [hat.1, h17] at c_85
          have hbad : ¬ (p.2.1 = 0 ∧ e ≤ p.1) := fun h_ => by have := nI_nle_iff (by omega) (by omega) c_85; omega
          refine y_sipush (pc' := 91) rfl (v := (-20000)) C dX13_run_88 (by decide) ?_
          refine y_aload_n (pc' := 92) rfl C dX13_run_91 rfl ?_
          refine y_get (pc' := 95) rfl C fl_X13_149 (v4 rfl) rfl rfl dX13_run_92 rfl ?_
          refine y_isub (pc' := 96) rfl C dX13_run_95 ?_
          refine y_ireturn C rfl rfl dX13_run_96 rfl rfl ?_
          have hng : ¬ ((runP Y e).2.2.1 = 0 ∧ e ≤ (runP Y e).2.1) := by rw [hfin]; exact hbad
          exact ⟨by rw [runR, if_neg hng, hfin, hat.1], by rw [runO, if_neg hng]; exact hob⟩
    · have hw : p.2.1 = 0 := by rw [← hat.2.1]; exact c_40
      refine y_aload_n (pc' := 44) rfl C dX13_run_43 rfl ?_
      refine y_iconst (pc' := 45) rfl (v := 0) C dX13_run_44 (by decide) ?_
      refine y_cVi (pc' := 48) (k' := 0) (n' := 0) rfl C (c_X13_here _ G a Yl36 p.1 e 0 hat.1 h17 he (by omega)) my_X13_here aw_1318 (v4 rfl) rfl rfl rfl rfl rfl (Nat.le_of_ble_eq_true rfl) rfl dX13_run_45 rfl rfl (fun r_45 Y_45 hp_45 => ?_)
      obtain ⟨rfl, hY_45⟩ := hp_45
      have hY_45 := hY_45.symm; subst hY_45
      refine y_bipush (pc' := 50) rfl (v := 59) C dX13_run_48 (by decide) ?_
      refine y_ic_ne (pc' := 53) rfl (tgt := 70) C dX13_run_50 (by decide) (fun c_50 => ?_) (fun c_50 => ?_)
      · have hs0 : ¬ hereT (Y (4, 0, 5)) e p.1 = 59 := by have := c_50; rw [Nat.add_zero, h5] at this; exact this
        have hout : ¬ (p.2.1 = 0 ∧ hereT (Y (4, 0, 5)) e p.1 = 59) := fun h_ => hs0 h_.2
        have hfin : runP Y e = (i36 + 1, p) := by rw [hrp]; exact parL_off (fun h_ => hout h_)
        refine y_aload_n (pc' := 71) rfl C dX13_run_70 rfl ?_
        refine y_getB (pc' := 74) rfl C fl_X13_159 (v4 rfl) rfl rfl dX13_run_71 rfl (fun hb_71 => ?_)
        refine y_if_ne (pc' := 77) rfl (tgt := 88) C dX13_run_74 (by decide) (fun c_74 => ?_) (fun c_74 => ?_)
        · have hbad : ¬ (p.2.1 = 0 ∧ e ≤ p.1) := fun h_ => c_74 (by rw [hat.2.1]; exact h_.1)
          refine y_sipush (pc' := 91) rfl (v := (-20000)) C dX13_run_88 (by decide) ?_
          refine y_aload_n (pc' := 92) rfl C dX13_run_91 rfl ?_
          refine y_get (pc' := 95) rfl C fl_X13_149 (v4 rfl) rfl rfl dX13_run_92 rfl ?_
          refine y_isub (pc' := 96) rfl C dX13_run_95 ?_
          refine y_ireturn C rfl rfl dX13_run_96 rfl rfl ?_
          have hng : ¬ ((runP Y e).2.2.1 = 0 ∧ e ≤ (runP Y e).2.1) := by rw [hfin]; exact hbad
          exact ⟨by rw [runR, if_neg hng, hfin, hat.1], by rw [runO, if_neg hng]; exact hob⟩
        · have hw1 : p.2.1 = 0 := by rw [← hat.2.1]; exact c_74
          refine y_aload_n (pc' := 78) rfl C dX13_run_77 rfl ?_
          refine y_get (pc' := 81) rfl C fl_X13_149 (v4 rfl) rfl rfl dX13_run_78 rfl ?_
          refine y_aload_n (pc' := 82) rfl C dX13_run_81 rfl ?_
          refine y_get (pc' := 85) rfl C fl_X13_152 (v4 rfl) rfl rfl dX13_run_82 rfl ?_
          refine y_ic_ge (pc' := 88) rfl (tgt := 97) C dX13_run_85 (by decide) (fun c_85 => ?_) (fun c_85 => ?_)
          · rw [hat.1, h17] at c_85
            have hgood : p.2.1 = 0 ∧ e ≤ p.1 := ⟨hw1, nI_le_iff (by omega) (by omega) c_85⟩
            have h2p := h2o hw1
            refine y_iconst (pc' := 98) rfl (v := 0) C dX13_run_97 (by decide) ?_
            refine y_istore_n (pc' := 99) rfl C dX13_run_98 (by decide) ?_
            suffices K99 : ∀ (fu_ i99 : Nat) (Yl99 : YT), i99 ≤ (i36 + 1) → (i36 + 1) < fu_ + i99 → Yl99 = Yl99 → RunX Y e n i99 Yl99 → WY X G A a Yl99 0 0 _ 99 [some (.ref (a (4, 0, 8))), some (.int ((nI i99))), none] [] from K99 ((i36 + 1) + 1) 0 _ (by omega) (by omega) (rfl) (⟨by rw [hfin]; exact hob.tr ⟨fun i a b c d => by by_cases hi : i = (4, 0, 0); subst hi; rw [setA_s, clr_n (by decide)]; rfl; rw [setA_n hi], fun f hf => by rw [setA_n (by decide)]⟩, h1, by rw [hfin]; exact hat.2.2, by rw [hfin]; exact h18, hmb.up (by omega), rfl⟩)
            intro fu_
            induction fu_ with
            | zero => intro i99 Yl99 h1 h2; omega
            | succ fu_ ih99 =>
              intro i99 Yl99 hi99 hm99 hYl99 hx99
              have hX18 : Yl99 (4, 0, 8) 18 = nI (i36 + 1) := by have := hx99.2.2.2.1; rw [hfin] at this; exact this
              have hX5 : Yl99 (4, 0, 8) 5 = nI kp := by rw [hx99.1.2 5 (by decide), setA_n (by decide), clrY, up_s, upd_n (by decide)]; exact hk
              refine y_iload_n (pc' := 100) rfl C dX13_run_99 rfl ?_
              refine y_aload_n (pc' := 101) rfl C dX13_run_100 rfl ?_
              refine y_get (pc' := 104) rfl C fl_X13_176 (v4 rfl) rfl rfl dX13_run_101 rfl ?_
              refine y_ic_ge (pc' := 107) rfl (tgt := 163) C dX13_run_104 (by decide) (fun c_104 => ?_) (fun c_104 => ?_)
              · rw [hX18] at c_104
                have hb99 : (i36 + 1) ≤ i99 := nI_le_iff (by omega) (by omega) c_104
                refine y_aload_n (pc' := 164) rfl C dX13_run_163 rfl ?_
                refine y_aload_n (pc' := 165) rfl C dX13_run_164 rfl ?_
                refine y_get (pc' := 168) rfl C fl_X13_176 (v4 rfl) rfl rfl dX13_run_165 rfl ?_
                refine y_cVi (pc' := 171) (k' := 0) (n' := 0) rfl C (c_X13_changed _ G a Yl99 kp (Yl99 (4, 0, 8) 18) hX5 hkp) my_X13_changed aw_1131 (v4 rfl) rfl rfl rfl rfl rfl (Nat.le_of_ble_eq_true rfl) rfl dX13_run_168 rfl rfl (fun r_168 Y_168 hp_168 => ?_)
                obtain ⟨rfl, hY_168⟩ := hp_168
                refine y_ireturn C rfl rfl dX13_run_171 rfl rfl ?_
                have hgo : (runP Y e).2.2.1 = 0 ∧ e ≤ (runP Y e).2.1 := by rw [hfin]; exact hgood
                have hkk : runK Y e = (runP Y e).1 := by rw [hx99.2.2.2.2.2, hfin, show i99 = i36 + 1 by omega, Nat.sub_self]; rfl
                refine ⟨by rw [runR, if_pos hgo, if_pos hkk, hX18, hfin], ?_⟩
                rw [hY_168, runO, if_pos hgo, if_pos hkk]
                refine Ob.push ?_ ?_
                · have := hx99.1
                  rw [show i99 = (runP Y e).1 by rw [hfin]; show i99 = i36 + 1; omega] at this
                  refine this.tr ⟨fun i a b c d => ?_, fun f hf => ?_⟩
                  · by_cases hi : i = (4, 0, 0)
                    · subst hi; rw [setA_s, setA_s]
                    · rw [setA_n hi, setA_n hi, rem1, setA_n a]
                  · rw [setA_n (by decide), setA_n (by decide), rem1, setA_n (by decide)]
                · rw [hx99.2.1, setA_n (by decide), rem1, setA_s, clr_n (by decide)]
              · rw [hX18] at c_104
                have hb99 : i99 < (i36 + 1) := nI_nle_iff (by omega) (by omega) c_104
                refine y_aload_n (pc' := 108) rfl C dX13_run_107 rfl ?_
                refine y_iload_n (pc' := 109) rfl C dX13_run_108 rfl ?_
                refine y_cVi (pc' := 112) (k' := 0) (n' := 0) rfl C (c_X13_does _ G a Yl99 i99 (by omega) (by rw [hx99.s0]; exact hx99.2.2.2.2.1.ok (by omega))) my_X13_does aw_1346 (v4 rfl) rfl rfl rfl rfl rfl (Nat.le_of_ble_eq_true rfl) rfl dX13_run_109 rfl rfl (fun r_109 Y_109 hp_109 => ?_)
                obtain ⟨rfl, hY_109⟩ := hp_109
                refine y_if_ne (pc' := 115) rfl (tgt := 118) C dX13_run_112 (by decide) (fun c_112 => ?_) (fun c_112 => ?_)
                · refine y_iconst (pc' := 119) rfl (v := 0) C dX13_run_118 (by decide) ?_
                  refine y_istore_n (pc' := 120) rfl C dX13_run_119 (by decide) ?_
                  suffices K120 : ∀ (fu_ i120 : Nat) (Yl120 : YT), i120 ≤ 227 → 227 < fu_ + i120 → Yl120 = setA Y_109 (4, 0, 0) (fil (Y_109 (4, 0, 1)) (Y_109 (4, 0, 0)) i120) → WY X G A a Yl120 0 0 _ 120 [some (.ref (a (4, 0, 8))), some (.int ((nI i99))), some (.int ((nI i120)))] [] from K120 (227 + 1) 0 _ (by omega) (by omega) (by rw [fil_0, setA_self])
                  intro fu_
                  induction fu_ with
                  | zero => intro i120 Yl120 h1 h2; omega
                  | succ fu_ ih120 =>
                    intro i120 Yl120 hi120 hm120 hYl120
                    refine y_iload_n (pc' := 121) rfl C dX13_run_120 rfl ?_
                    refine y_sipush (pc' := 124) rfl (v := 227) C dX13_run_121 (by decide) ?_
                    refine y_ic_ge (pc' := 127) rfl (tgt := 145) C dX13_run_124 (by decide) (fun c_124 => ?_) (fun c_124 => ?_)
                    · have hb120 : 227 ≤ i120 := nI_le_iff (by omega) (by omega) c_124
                      obtain rfl : i120 = 227 := by omega
                      refine y_arr (4, 0, 0) (Y_109 (4, 0, 1)) (v4 rfl) rfl rfl (fun f hf => by rw [hYl120, setA_s, fil_in (show f < 227 from hf)]) ?_
                      obtain ⟨Yc, hYc⟩ : ∃ Yq, Yq = setA Y_109 (4, 0, 0) (Y_109 (4, 0, 1)) := ⟨_, rfl⟩
                      rw [show setA Yl120 (4, 0, 0) (Y_109 (4, 0, 1)) = Yc by rw [hYl120, setA_setA, hYc]]
                      refine y_aload_n (pc' := 146) rfl C dX13_run_145 rfl ?_
                      refine y_aload_n (pc' := 147) rfl C dX13_run_146 rfl ?_
                      refine y_bipush (pc' := 149) rfl (v := 6) C dX13_run_147 (by decide) ?_
                      refine y_iload_n (pc' := 150) rfl C dX13_run_149 rfl ?_
                      refine y_cVi (pc' := 153) (k' := 0) (n' := 0) rfl C (c_X13_refused _ G a Yc 6 (nI i99)) my_X13_refused aw_1119 (v4 rfl) rfl rfl rfl rfl rfl (Nat.le_of_ble_eq_true rfl) rfl dX13_run_150 rfl rfl (fun r_150 Y_150 hp_150 => ?_)
                      obtain ⟨rfl, hY_150⟩ := hp_150
                      refine y_cVi (pc' := 156) (k' := 0) (n' := 0) rfl C (c_X13_ends _ G a Y_150 kp 6 (by rw [hY_150, up_s, upd_n (by decide), hYc, setA_n (by decide), hY_109, setAct_5]; exact hX5) hkp) my_X13_ends aw_1127 (v4 rfl) rfl rfl rfl rfl rfl (Nat.le_of_ble_eq_true rfl) rfl dX13_run_153 rfl rfl (fun r_153 Y_153 hp_153 => ?_)
                      obtain ⟨rfl, hY_153⟩ := hp_153
                      refine y_ireturn C rfl rfl dX13_run_156 rfl rfl ?_
                      have hgo : (runP Y e).2.2.1 = 0 ∧ e ≤ (runP Y e).2.1 := by rw [hfin]; exact hgood
                      have hkk : runK Y e = i99 := by rw [hx99.2.2.2.2.2, exF_off (by rw [hfin]; exact hb99) (by have := c_112; rw [hx99.s0, hx99.2.2.1] at this; exact this)]
                      have hne : ¬ runK Y e = (runP Y e).1 := by rw [hkk, hfin]; show ¬ i99 = i36 + 1; omega
                      exact ⟨by rw [runR, if_pos hgo, if_neg hne]; rfl, by rw [runO, if_pos hgo, if_neg hne, hkk]; exact hx99.fail hY_109 c_112 hYc hY_150 hY_153⟩
                    · have hb120 : i120 < 227 := nI_nle_iff (by omega) (by omega) c_124
                      refine y_aload_n (pc' := 128) rfl C dX13_run_127 rfl ?_
                      refine y_get (pc' := 131) rfl (v := .ref (a (4, 0, 0))) C fl_X13_7 (v4 rfl) rfl rfl dX13_run_128 rfl ?_
                      refine y_iload_n (pc' := 132) rfl C dX13_run_131 rfl ?_
                      refine y_aload_n (pc' := 133) rfl C dX13_run_132 rfl ?_
                      refine y_get (pc' := 136) rfl (v := .ref (a (4, 0, 1))) C fl_X13_13 (v4 rfl) rfl rfl dX13_run_133 rfl ?_
                      refine y_iload_n (pc' := 137) rfl C dX13_run_136 rfl ?_
                      refine y_ialdN (pc' := 138) rfl C i120 rfl (v4 rfl) rfl rfl (show i120 < 227 by omega) rfl dX13_run_137 ?_
                      refine y_iastN (pc' := 139) rfl C i120 rfl (v4 rfl) rfl rfl (show i120 < 227 by omega) rfl dX13_run_138 (fun Z138 hZ138 => ?_)
                      refine y_iinc (pc' := 142) rfl (v := (nI (i120 + 1))) C dX13_run_139 rfl (nI_1 i120) (by decide) ?_
                      refine y_goto (tgt := 120) C dX13_run_142 (by decide) ?_
                      exact ih120 (i120 + 1) _ (by omega) (by omega) (by rw [hZ138, up_setA, hYl120, setA_setA, setA_s, setA_n (by decide), fil_s])
                · refine y_goto (tgt := 157) C dX13_run_115 (by decide) ?_
                  refine y_iinc (pc' := 160) rfl (v := (nI (i99 + 1))) C dX13_run_157 rfl (nI_1 i99) (by decide) ?_
                  refine y_goto (tgt := 99) C dX13_run_160 (by decide) ?_
                  exact ih99 (i99 + 1) _ (by omega) (by omega) (rfl) (hx99.step (by rw [hfin]; exact hb99) (by omega) c_112 hY_109)
          · rw [hat.1, h17] at c_85
            have hbad : ¬ (p.2.1 = 0 ∧ e ≤ p.1) := fun h_ => by have := nI_nle_iff (by omega) (by omega) c_85; omega
            refine y_sipush (pc' := 91) rfl (v := (-20000)) C dX13_run_88 (by decide) ?_
            refine y_aload_n (pc' := 92) rfl C dX13_run_91 rfl ?_
            refine y_get (pc' := 95) rfl C fl_X13_149 (v4 rfl) rfl rfl dX13_run_92 rfl ?_
            refine y_isub (pc' := 96) rfl C dX13_run_95 ?_
            refine y_ireturn C rfl rfl dX13_run_96 rfl rfl ?_
            have hng : ¬ ((runP Y e).2.2.1 = 0 ∧ e ≤ (runP Y e).2.1) := by rw [hfin]; exact hbad
            exact ⟨by rw [runR, if_neg hng, hfin, hat.1], by rw [runO, if_neg hng]; exact hob⟩
      · have hs : hereT (Y (4, 0, 5)) e p.1 = 59 := by have := c_50; rw [Nat.add_zero, h5] at this; exact this
        have hlt : p.1 < e := by rcases Nat.lt_or_ge p.1 e with q | q; exact q; exact absurd (by rw [hereT, if_neg (by omega)] at hs; exact hs) (by decide)
        have h2p := h2o hw
        refine y_aload_n (pc' := 54) rfl C dX13_run_53 rfl ?_
        refine y_dup (pc' := 55) rfl C dX13_run_54 rfl ?_
        refine y_get (pc' := 58) rfl C fl_X13_149 (v4 rfl) rfl rfl dX13_run_55 rfl ?_
        refine y_iconst (pc' := 59) rfl (v := 1) C dX13_run_58 (by decide) ?_
        refine y_iadd (pc' := 60) rfl C dX13_run_59 ?_
        refine y_put (pc' := 63) rfl C fp_X13_149 (v4 rfl) rfl rfl dX13_run_60 rfl (fun Z60 hZ60 => ?_)
        refine y_aload_n (pc' := 64) rfl C dX13_run_63 rfl ?_
        refine y_cVv (pc' := 67) (k' := 0) (n' := 0) rfl C (c_X13_readsOne _ G a Z60 e (i36 + 1) (p.1 + 1, p.2.1, p.2.2) ⟨by rw [hZ60, up_s, upd_s, hat.1]; exact nI_add _ 1, by rw [hZ60, up_s, upd_n (by decide)]; exact hat.2.1, by rw [hZ60, up_n (by decide)]; exact hat.2.2⟩ (by rw [hZ60, up_s, upd_n (by decide)]; exact h17) he hlt hpb (by rw [hZ60, up_s, upd_n (by decide)]; exact h18) (by omega)) my_X13_readsOne aw_1310 (v4 rfl) rfl rfl rfl rfl rfl (Nat.le_of_ble_eq_true rfl) rfl dX13_run_64 rfl rfl (fun Y_64 hY_64 => ?_)
        refine y_goto (tgt := 36) C dX13_run_67 (by decide) ?_
        exact ih36 (i36 + 1) _ (by omega) (by omega) (rfl) (⟨_, hR.step hw hs hlt he hZ60 (by rw [hY_64])⟩)
