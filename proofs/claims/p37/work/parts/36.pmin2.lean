section
variable {s : Nat → Int32} {lg bb : Nat}
/-- the row behind a minute ahead of the pots, place by place -/
theorem v_x {f : Nat} (hl : lg ≤ 5) (hb : mBurn s lg = nI bb) (hb2 : bb ≤ 100) (h : f = 1 ∨ f = 2 ∨ f = 3 ∨ f = 4 ∨ f = 6 ∨ f = 8 ∨ f = 11 ∨ f = 15 ∨ 171 ≤ f) : mS11 s lg f = s f := by
  rw [mS11, nmS_lo (by omega) (by omega), mS10, upd_n (by omega), mS9, upd_n (by omega), upd_n (by omega), mS7, hb, nn_nI (by omega), upd_n (by omega), mS6, upd_n (by omega), upd_n (by omega), mS4, upd_n (by omega), mS3_lo (by omega) (by omega) (by omega) hl]
theorem v_0 : mS11 s lg 0 = s 0 + mBurn s lg / 2 - (s 0 - 20) / 25 := by
  rw [mS11, nmS_lo (by decide) (by decide), mS10, upd_n (by decide), mS9, upd_n (by decide), upd_s]
theorem v_5 (hl : lg ≤ 5) (hb : mBurn s lg = nI bb) (hb2 : bb ≤ 100) : mS11 s lg 5 = mSum s := by
  rw [mS11, nmS_lo (by decide) (by decide), mS10, upd_n (by decide), mS9, upd_n (by decide), upd_n (by decide), mS7, hb, nn_nI (by omega), upd_n (by omega), mS6, upd_n (by decide), upd_n (by decide), mS4, upd_n (by decide), mS3, lagS_lo (by omega), mS2, upd_n (by decide), upd_s]
theorem v_7 (hl : lg ≤ 5) (hb : mBurn s lg = nI bb) (hb2 : bb ≤ 100) : mS11 s lg 7 = mErr s := by
  rw [mS11, nmS_lo (by decide) (by decide), mS10, upd_n (by decide), mS9, upd_n (by decide), upd_n (by decide), mS7, hb, nn_nI (by omega), upd_n (by omega), mS6, upd_n (by decide), upd_n (by decide), mS4, upd_n (by decide), mS3, lagS_lo (by omega), mS2, upd_s]
theorem s4_9 (hl : lg ≤ 5) : mS4 s lg 9 = clampI (mFirst s lg) (s 9 - 20) (s 9 + 20) := by
  rw [mS4, upd_s, mS3_lo (by decide) (by decide) (by omega) hl]
theorem s4_10 (hl : lg ≤ 5) : mS4 s lg 10 = s 10 := by rw [mS4, upd_n (by decide), mS3_lo (by decide) (by decide) (by omega) hl]
theorem v_9 (hl : lg ≤ 5) (hb : mBurn s lg = nI bb) (hb2 : bb ≤ 100) : mS11 s lg 9 = clampI (mFirst s lg) (s 9 - 20) (s 9 + 20) := by
  rw [mS11, nmS_lo (by decide) (by decide), mS10, upd_n (by decide), mS9, upd_n (by decide), upd_n (by decide), mS7, hb, nn_nI (by omega), upd_n (by omega), mS6, upd_n (by decide), upd_n (by decide), s4_9 hl]
theorem v_10 (hl : lg ≤ 5) (hb : mBurn s lg = nI bb) (hb2 : bb ≤ 100) : mS11 s lg 10 = s 10 - mBurn s lg := by
  rw [mS11, nmS_lo (by decide) (by decide), mS10, upd_n (by decide), mS9, upd_n (by decide), upd_n (by decide), mS7, hb, nn_nI (by omega), upd_n (by omega), mS6, upd_n (by decide), upd_s, s4_10 hl]
theorem v_16 (hl : lg ≤ 5) (hb : mBurn s lg = nI bb) (hb2 : bb ≤ 100) : mS11 s lg 16 = s 16 + mBurn s lg := by
  rw [mS11, nmS_lo (by decide) (by decide), mS10, upd_n (by decide), mS9, upd_n (by decide), upd_n (by decide), mS7, hb, nn_nI (by omega), upd_n (by omega), mS6, upd_s, upd_n (by decide), mS4, upd_n (by decide), mS3_lo (by decide) (by decide) (by omega) hl]
theorem s7_n {f : Nat} (hl : lg ≤ 5) (hb : mBurn s lg = nI bb) (hb2 : bb ≤ 100) (h : f = 12 ∨ f = 13 ∨ f = 14 ∨ f = 1 ∨ (123 ≤ f ∧ f < 171)) : mS7 (mS6 (mS4 s lg) (mBurn s lg)) (nn (mBurn s lg)) f = s f := by
  rw [mS7, hb, nn_nI (by omega), upd_n (by omega), mS6, upd_n (by omega), upd_n (by omega), mS4, upd_n (by omega), mS3_lo (by omega) (by omega) (by omega) hl]
theorem v_12 (hl : lg ≤ 5) (hb : mBurn s lg = nI bb) (hb2 : bb ≤ 100) : mS11 s lg 12 = s 12 + 1 := by
  rw [mS11, nmS_lo (by decide) (by decide), mS10, upd_n (by decide), mS9, upd_s, upd_n (by decide), s7_n hl hb hb2 (by omega)]
theorem s9_0 : mS9 (mS7 (mS6 (mS4 s lg) (mBurn s lg)) (nn (mBurn s lg))) (s 0) (mBurn s lg) 0 = mS11 s lg 0 := by rw [v_0, mS9, upd_n (by decide), upd_s]
theorem v_13 (hl : lg ≤ 5) (hb : mBurn s lg = nI bb) (hb2 : bb ≤ 100) : mS11 s lg 13 = if -(s 1 - mS11 s lg 0) ≤ s 13 then s 13 else -(s 1 - mS11 s lg 0) := by
  have e1 : mErr (mS9 (mS7 (mS6 (mS4 s lg) (mBurn s lg)) (nn (mBurn s lg))) (s 0) (mBurn s lg)) = s 1 - mS11 s lg 0 := by
    rw [mErr, s9_0, mS9, upd_n (by decide), upd_n (by decide), s7_n hl hb hb2 (by omega)]
  have e2 : mS9 (mS7 (mS6 (mS4 s lg) (mBurn s lg)) (nn (mBurn s lg))) (s 0) (mBurn s lg) 13 = s 13 := by
    rw [mS9, upd_n (by decide), upd_n (by decide), s7_n hl hb hb2 (by omega)]
  conv => lhs; rw [mS11, nmS_lo (by decide) (by decide), mS10, upd_s, e1, e2]
theorem s10_n {f : Nat} (hl : lg ≤ 5) (hb : mBurn s lg = nI bb) (hb2 : bb ≤ 100) (h : f = 14 ∨ (123 ≤ f ∧ f < 171)) : mS10 (mS9 (mS7 (mS6 (mS4 s lg) (mBurn s lg)) (nn (mBurn s lg))) (s 0) (mBurn s lg)) f = s f := by
  rw [mS10, upd_n (by omega), mS9, upd_n (by omega), upd_n (by omega), s7_n hl hb hb2 (by omega)]
theorem v_14 (hl : lg ≤ 5) (hb : mBurn s lg = nI bb) (hb2 : bb ≤ 100) : mS11 s lg 14 = s 14 + (if 12 ≤ s 14 then 0 else 1) := by
  rw [mS11]
  simp only [nmS]
  rw [if_pos trivial, s10_n hl hb hb2 (by omega)]
theorem v_lag {j : Nat} (hj : j < lg) (hl : lg ≤ 5) (hb : mBurn s lg = nI bb) (hb2 : bb ≤ 100) : mS11 s lg (17 + j) = if j + 1 = lg then mWant s else s (17 + (j + 1)) := by
  rw [mS11, nmS_lo (by omega) (by omega), mS10, upd_n (by omega), mS9, upd_n (by omega), upd_n (by omega), mS7, hb, nn_nI (by omega), upd_n (by omega), mS6, upd_n (by omega), upd_n (by omega), mS4, upd_n (by omega), mS3]
  simp only [lagS]
  rw [if_neg (by omega)]
  by_cases c : j + 1 = lg
  · rw [if_pos c, if_neg (by omega), if_pos (by omega)]
  · rw [if_neg c, if_pos (by omega), mS2_n (by omega) (by omega)]
    congr 1
theorem v_amt {j : Nat} (hj : j < 101) (hl : lg ≤ 5) (hb : mBurn s lg = nI bb) (hb2 : bb ≤ 100) : mS11 s lg (22 + j) = if j = bb then s (22 + j) + 1 else s (22 + j) := by
  have e : ∀ i, i < 101 → mS6 (mS4 s lg) (nI bb) (22 + i) = s (22 + i) := fun i hi => by rw [mS6, upd_n (by omega), upd_n (by omega), mS4, upd_n (by omega), mS3_lo (by omega) (by omega) (by omega) hl]
  rw [mS11, nmS_lo (by omega) (by omega), mS10, upd_n (by omega), mS9, upd_n (by omega), upd_n (by omega), mS7, hb, nn_nI (by omega)]
  by_cases c : j = bb
  · subst c
    rw [if_pos rfl, upd_s, e j hj]
  · rw [if_neg c, upd_n (by omega), e j hj]
theorem v_log0 {w : Nat} (hw : w < 4) (hl : lg ≤ 5) (hb : mBurn s lg = nI bb) (hb2 : bb ≤ 100) : mS11 s lg (123 + w) = if w = 0 then mS11 s lg 0 else if w = 1 then mS11 s lg 9 else if w = 2 then mErr s else mBurn s lg := by
  have e0 : mS10 (mS9 (mS7 (mS6 (mS4 s lg) (mBurn s lg)) (nn (mBurn s lg))) (s 0) (mBurn s lg)) 0 = mS11 s lg 0 := by rw [mS10, upd_n (by decide), s9_0]
  have e9 : mS10 (mS9 (mS7 (mS6 (mS4 s lg) (mBurn s lg)) (nn (mBurn s lg))) (s 0) (mBurn s lg)) 9 = mS11 s lg 9 := by
    rw [v_9 hl hb hb2, mS10, upd_n (by decide), mS9, upd_n (by decide), upd_n (by decide), mS7, hb, nn_nI (by omega), upd_n (by omega), mS6, upd_n (by decide), upd_n (by decide), s4_9 hl]
  have h : w = 0 ∨ w = 1 ∨ w = 2 ∨ w = 3 := by omega
  rcases h with rfl | rfl | rfl | rfl
  · rw [if_pos rfl, ← e0]
    conv => lhs; rw [mS11]
    simp only [nmS]
    rw [if_neg (by decide), if_neg (by decide), if_neg (by decide), if_neg (by decide), if_pos (by decide)]
  · rw [if_neg (by decide), if_pos rfl, ← e9]
    conv => lhs; rw [mS11]
    simp only [nmS]
    rw [if_neg (by decide), if_neg (by decide), if_neg (by decide), if_pos (by decide)]
  · rw [if_neg (by decide), if_neg (by decide), if_pos rfl, mS11]
    simp only [nmS]
    rw [if_neg (by decide), if_neg (by decide), if_pos (by decide)]
  · rw [if_neg (by decide), if_neg (by decide), if_neg (by decide), mS11]
    simp only [nmS]
    rw [if_neg (by decide), if_pos (by decide)]
theorem v_log {f : Nat} (hf : 127 ≤ f) (hf2 : f < 171) (hl : lg ≤ 5) (hb : mBurn s lg = nI bb) (hb2 : bb ≤ 100) : mS11 s lg f = s (f - 4) := by
  rw [mS11]
  simp only [nmS]
  rw [if_neg (by omega), if_neg (by omega), if_neg (by omega), if_neg (by omega), if_neg (by omega), if_pos (by omega), s10_n hl hb hb2 (by omega)]
end
/-- rounding: what is wanted comes out alike -/
theorem xor_neg (t : Int32) : (t ^^^ 100).toInt < 0 ↔ t.toInt < 0 := by
  have h : (t ^^^ 100).toBitVec.msb = t.toBitVec.msb := by
    rw [Int32.toBitVec_xor, BitVec.msb_xor, show (100 : Int32).toBitVec.msb = false by decide, Bool.xor_false]
  rw [BitVec.msb_eq_toInt, BitVec.msb_eq_toInt] at h
  exact decide_eq_decide.mp h
theorem div_toI (t : Int32) : (t / 100).toInt = t.toInt.tdiv 100 := Int32.toInt_div_of_ne_right t 100 (by decide)
theorem fdv_clamp (t : Int32) : clampI (fdv t) 0 100 = clampI (t / 100) 0 100 := by
  have hd := div_toI t
  unfold fdv
  by_cases h : 0 ≤ t ^^^ 100
  · rw [if_pos h]
  · rw [if_neg h]
    have ht : t.toInt < 0 := by
      rw [Int32.le_iff_toInt_le, Int32.toInt_zero] at h
      exact (xor_neg t).mp (by omega)
    have hd : (t / 100).toInt = -((-t.toInt) / 100) := by rw [hd, ← Int.tdiv_eq_ediv_of_nonneg (by omega), Int.neg_tdiv, Int.neg_neg]
    have hq : (t / 100).toInt ≤ 0 := by rw [hd]; omega
    have hq2 : -21474837 ≤ (t / 100).toInt := by
      rw [hd]
      have := Int32.le_toInt t
      omega
    have c0 : clampI (t / 100) 0 100 = 0 := by
      unfold clampI
      by_cases c : t / 100 < 0
      · rw [if_pos c]
      · rw [if_neg c]
        have : t / 100 = 0 := by
          apply Int32.toInt_inj.mp
          rw [Int32.lt_iff_toInt_lt, Int32.toInt_zero] at c
          rw [Int32.toInt_zero]
          omega
        rw [this]
        rfl
    by_cases c : t / 100 * 100 = t
    · rw [if_pos c]
    · rw [if_neg c, c0]
      have hs : (t / 100 - 1).toInt = (t / 100).toInt - 1 := by
        rw [Int32.toInt_sub, show (1 : Int32).toInt = 1 by decide]
        exact Int.bmod_eq_of_le (by omega) (by omega)
      unfold clampI
      rw [if_pos (by rw [Int32.lt_iff_toInt_lt, Int32.toInt_zero, hs]; omega)]
