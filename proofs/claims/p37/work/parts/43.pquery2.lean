/-! QUERIES: class = model. -/
theorem tri3 (u v : Int32) : u < v ∨ u = v ∨ v < u := by
  rw [Int32.lt_iff_toInt_lt, Int32.lt_iff_toInt_lt]
  by_cases h : u = v
  · exact Or.inr (Or.inl h)
  · have : u.toInt ≠ v.toInt := fun e => h (Int32.toInt_inj.mp e)
    omega
theorem mn_eq {Y : YT} {k : Nat} {s : Nat → Int32} {x : Int32} : ∀ n, (∀ p, p < n → PotR (Y (1, k, p)) s p) → mnK Y k x n = manyN s x n
  | 0, _ => rfl
  | n + 1, h => by
    have ih := mn_eq (x := x) n (fun p hp => h p (by omega))
    obtain ⟨-, -, -, h3, -⟩ := h n (by omega)
    rw [mnK, manyN, ih, h3]
    by_cases c : s (195 + n) = x
    · rw [if_pos c, if_pos c]
    · rw [if_neg c, if_neg c, Int32.add_zero]
theorem am_eq {y s : Nat → Int32} : ∀ n, (∀ j, j < n → y j = s (22 + j)) → amN y n = baN s n
  | 0, _ => rfl
  | n + 1, h => by rw [amN, baN, am_eq n (fun j hj => h j (by omega)), h n (by omega)]
theorem sm_eq {y s : Nat → Int32} : ∀ n, (∀ j, j < n → y j = s (22 + j)) → smN y n = bsN s n
  | 0, _ => rfl
  | n + 1, h => by rw [smN, bsN, sm_eq n (fun j hj => h j (by omega)), h n (by omega)]
theorem so_eq {Y : YT} {k : Nat} {s : Nat → Int32} : ∀ n, (∀ p, p < n → PotR (Y (1, k, p)) s p ∧ PotI s p) → soK Y k n = 1
  | 0, _ => rfl
  | n + 1, h => by
    have ih := so_eq n (fun p hp => h p (by omega))
    obtain ⟨⟨-, -, h2, -, h4, -, -⟩, sh, ne, ti, ho, so, i, -, -, -, -, e5, e6, -, -, e9, e10, -⟩ := h n (by omega)
    rw [soK, h2, h4, e5, e9, if_pos (nI_le e10 (by omega)), ih]
theorem bal_eq {s : Nat → Int32} : ∀ n, (∀ p, p < n → PotI s p) → (balN s n = 0 ↔ balW s = 0)
  | 0, _ => Iff.rfl
  | n + 1, h => by
    have ih := bal_eq n (fun p hp => h p (by omega))
    obtain ⟨sh, ne, ti, ho, so, i, -, -, -, -, e5, e6, -, -, e9, e10, -⟩ := h n (by omega)
    have hl : ¬ lf s n < 0 := by
      rw [lf, e5, e9, pk_sub e10]
      exact nI_pos (by omega)
    rw [balN, ← ih, if_neg hl]
    by_cases c : balN s n = 0
    · rw [if_pos c, c]
    · rw [if_neg c]
      exact ⟨fun q => absurd q (by decide), fun q => absurd q c⟩
theorem ah_eq {y z s : Nat → Int32} {p q : Nat} (hp : p < 8) (hq : q < 8) (hy : PotR y s p) (hz : PotR z s q) :
    (if nI p = nI q then (0 : Int32) else if ahP y z = 0 then (if ahP z y = 0 then (if nI q ≤ nI p then 0 else 1) else 0) else 1) = (if nI p = nI q then 0 else if aheadI s p q = 0 then 0 else 1) := by
  by_cases c : nI p = nI q
  · rw [if_pos c, if_pos c]
  · rw [if_neg c, if_neg c]
    obtain ⟨-, y1, y2, -, y4, -⟩ := hy
    obtain ⟨-, z1, z2, -, z4, -⟩ := hz
    have zz1 : ¬ (1 : Int32) = 0 := by decide
    unfold ahP aheadI lf
    rw [y1, y2, y4, z1, z2, z4]
    generalize s (187 + p) - s (203 + p) = u
    generalize s (187 + q) - s (203 + q) = v
    generalize s (179 + p) = a
    generalize s (179 + q) = b
    rcases tri3 u v with h | h | h
    · have n1 : ¬ u = v := Int32.ne_of_lt h
      have n2 : ¬ v ≤ u := Int32.not_le.mpr h
      simp only [if_pos h, if_neg n1, if_neg n2, if_neg zz1, ↓reduceIte] <;> rfl
    · subst h
      have n0 : ¬ u < u := fun z => absurd z (Int32.not_lt.mpr (Int32.le_refl u))
      simp only [if_neg n0, if_pos]
      rcases tri3 a b with g | g | g
      · have m1 : a ≤ b := Int32.le_of_lt g
        have m2 : ¬ b ≤ a := Int32.not_le.mpr g
        have m3 : ¬ b < a := Int32.not_lt.mpr m1
        have m4 : ¬ a = b := Int32.ne_of_lt g
        simp only [if_pos m1, if_neg m2, if_neg m3, if_neg m4, if_neg zz1, ↓reduceIte] <;> rfl
      · subst g
        have m3 : ¬ a < a := fun z => absurd z (Int32.not_lt.mpr (Int32.le_refl a))
        have m1 : a ≤ a := Int32.le_refl a
        simp only [if_neg m3, if_pos m1, if_pos]
        by_cases d : nI q ≤ nI p
        · simp only [if_pos d, if_neg zz1, ↓reduceIte] <;> rfl
        · simp only [if_neg d, if_neg zz1, ↓reduceIte] <;> rfl
      · have m1 : b ≤ a := Int32.le_of_lt g
        have m2 : ¬ a ≤ b := Int32.not_le.mpr g
        simp only [if_pos m1, if_neg m2, if_pos g, if_neg zz1, ↓reduceIte] <;> rfl
    · have n1 : ¬ u = v := Ne.symm (Int32.ne_of_lt h)
      have n2 : v ≤ u := Int32.le_of_lt h
      have n3 : ¬ u < v := Int32.not_lt.mpr n2
      have n4 : ¬ v = u := Int32.ne_of_lt h
      simp only [if_pos h, if_neg n1, if_neg n3, if_pos n2, if_neg zz1, ↓reduceIte] <;> rfl
theorem ac_eq {Y : YT} {k np q : Nat} {s : Nat → Int32} (hq : q < np) (hnp : np ≤ 8) (h : ∀ p, p < np → PotR (Y (1, k, p)) s p) : ∀ n, n ≤ np → acK Y k q n = aheadC s q n
  | 0, _ => rfl
  | n + 1, hn => by
    have ih := ac_eq hq hnp h n (by omega)
    rw [acK, aheadC, ← ah_eq (by omega) (by omega) (h n (by omega)) (h q hq), ih]
    split
    · rw [Int32.add_zero]
    · split
      · split
        · split
          · rw [Int32.add_zero]
          · rfl
        · rw [Int32.add_zero]
      · rfl
theorem rk_eq {Y : YT} {k np : Nat} {s : Nat → Int32} {place : Int32} (hnp : np ≤ 8) (h : ∀ p, p < np → PotR (Y (1, k, p)) s p) : ∀ n, n ≤ np → rkK Y k np place n = rankL s np place n
  | 0, _ => rfl
  | n + 1, hn => by rw [rkK, rankL, rk_eq hnp h n (by omega), ac_eq (by omega) hnp h np (Nat.le_refl _)]
theorem want_eq {Y : YT} {k : Nat} {s : Nat → Int32} (h : RKi Y k s) : clampI (fdv (rWant (Y (0, k, 1)) (s 1 - s 0))) 0 100 = mWant s := by
  obtain ⟨-, ⟨f0, f1, f2, f3, f4, f5⟩, -⟩ := h
  rw [fdv_clamp, mWant]
  unfold rWant rSum mSum mErr
  rw [f0, f1, f2, f3, f4, f5]
theorem pot_eq {y s : Nat → Int32} {p : Nat} {w : Int32} (h : PotR y s p) (hi : PotI s p) : numP7 y w = if w = 0 then s (171 + p) else if w = 1 then s (179 + p) else if w = 2 then s (187 + p) else if w = 3 then s (195 + p) else if w = 4 then s (203 + p) else if w = 5 then s (211 + p) else if w = 6 then s (219 + p) else -10002 := by
  obtain ⟨h0, h1, h2, h3, h4, h5, h6⟩ := h
  obtain ⟨i, e, hi1⟩ := MB.potI hi
  have h55 : (if s (211 + p) = 0 then (0 : Int32) else 1) = s (211 + p) := by
    rw [e]
    rcases Nat.lt_or_ge i 1 with z | z
    · rw [show i = 0 by omega]; rfl
    · rw [show i = 1 by omega]; rfl
  unfold numP7
  rw [h0, h1, h2, h3, h4, h5, h6, h55]
theorem log_eq {Y : YT} {k mi : Nat} {s : Nat → Int32} {p w : Int32} (h : RKi Y k s) (hmi : nn (s 12) = mi) (h14 : s 14 = nI (m12 mi)) : (if 0 ≤ p ∧ p < nI (m12 mi) then (if 0 ≤ w ∧ w ≤ 3 then Y (0, k, 6) ((mi - 1 - nn p) % 12 * 4 + nn w) else -10002) else -10001) = loggedF s p w := by
  have h12 : m12 mi ≤ 12 := by unfold m12; split <;> omega
  have hs : (s 14 - 1).toInt = (m12 mi : Int) - 1 := by rw [h14]; exact pk_sub_toInt (b := 1) (by omega) (by decide)
  have hiff : (0 ≤ p ∧ p < nI (m12 mi)) ↔ (0 ≤ p ∧ p ≤ s 14 - 1) := by
    rw [Int32.lt_iff_toInt_lt, Int32.le_iff_toInt_le (x := p) (y := s 14 - 1), hs, nI_toInt (by omega)]
    constructor
    · rintro ⟨h1, h2⟩
      exact ⟨h1, by omega⟩
    · rintro ⟨h1, h2⟩
      exact ⟨h1, by omega⟩
  unfold loggedF
  by_cases c : 0 ≤ p ∧ p < nI (m12 mi)
  · rw [if_pos c, if_pos (hiff.mp c)]
    by_cases d : 0 ≤ w ∧ w ≤ 3
    · rw [if_pos d, if_pos d]
      obtain ⟨j, hj, hw⟩ := rng_nI (m := 3) (by decide) (by decide) d
      obtain ⟨q, hq, hp⟩ := cnt_nI h14 (by omega) (hiff.mp c)
      have e1 : nn p = q := by rw [hp, nn_nI (by omega)]
      have e2 : nn w = j := by rw [hw, nn_nI (by omega)]
      rw [e1, e2]
      have := h.2.2.2.2.2.1 q j (by rw [hmi]; exact hq) (by omega)
      rw [hmi] at this
      exact this
    · rw [if_neg d, if_neg d]
  · rw [if_neg c, if_neg (fun q => c (hiff.mpr q))]
/-- bits -/
def btN (f : Nat → Bool) : Nat → Int32
  | 0 => 0
  | n + 1 => btN f n ||| (if f n then (1 : Int32) <<< (nI n &&& 31) else 0)
theorem one_bit : ∀ n, n < 8 → ((1 : Int32) <<< (nI n &&& 31)).toBitVec = BitVec.twoPow 32 n := by decide +kernel
theorem bt_bit {f : Nat → Bool} : ∀ n, n ≤ 8 → ∀ i, (btN f n).toBitVec.getLsbD i = (decide (i < n) && f i)
  | 0, _, i => by
    rw [btN, show (0 : Int32).toBitVec = 0#32 from rfl]
    simp
  | n + 1, hn, i => by
    have ih := bt_bit (f := f) n (by omega) i
    rw [btN, Int32.toBitVec_or, BitVec.getLsbD_or, ih]
    by_cases c : f n = true
    · rw [if_pos c, one_bit n (by omega), BitVec.getLsbD_twoPow]
      by_cases e : i = n
      · subst e
        simp [c]
        omega
      · have : decide (i < n + 1) = decide (i < n) := by
          apply decide_eq_decide.mpr
          omega
        rw [this]
        have e2 : decide (n = i) = false := by simp; omega
        simp [e2]
    · have c' : f n = false := by simpa using c
      rw [if_neg c, show (0 : Int32).toBitVec = 0#32 from rfl]
      by_cases e : i = n
      · subst e
        simp [c']
      · have : decide (i < n + 1) = decide (i < n) := by
          apply decide_eq_decide.mpr
          omega
        rw [this]
        simp
theorem bt_diff {f g : Nat → Bool} {n : Nat} (hn : n ≤ 8) : btN f n &&& (btN g n ^^^ -1) = btN (fun i => f i && !g i) n := by
  apply Int32.toBitVec_inj.mp
  rw [Int32.toBitVec_and, Int32.toBitVec_xor, show (-1 : Int32).toBitVec = BitVec.allOnes 32 by decide]
  apply BitVec.eq_of_getLsbD_eq
  intro i hi
  rw [BitVec.getLsbD_and, BitVec.getLsbD_xor, bt_bit n hn, bt_bit n hn, bt_bit n hn, BitVec.getLsbD_allOnes]
  by_cases c : i < n
  · simp [c, hi]
  · simp [c]
theorem cr_bt {Y : YT} {k : Nat} {s : Nat → Int32} : ∀ n, (∀ p, p < n → PotR (Y (1, k, p)) s p) → crK Y k n = btN (fun p => decide (s (195 + p) = 3)) n
  | 0, _ => rfl
  | n + 1, h => by
    have ih := cr_bt n (fun p hp => h p (by omega))
    obtain ⟨-, -, -, h3, -⟩ := h n (by omega)
    rw [crK, btN, ih, h3]
    by_cases c : s (195 + n) = 3
    · rw [if_pos c, if_pos (by simpa using c)]
    · rw [if_neg c, if_neg (by simpa using c), Int32.or_zero]
theorem cr_bt2 {s s' : Nat → Int32} : ∀ n, crackN s s' n = btN (fun p => decide (s' (195 + p) = 3) && !decide (s (195 + p) = 3)) n
  | 0 => rfl
  | n + 1 => by
    rw [crackN, btN, cr_bt2 n]
    congr 1
    by_cases c : s' (195 + n) = 3
    · by_cases d : s (195 + n) = 3
      · simp [c, d]
      · simp [c, d]
    · simp [c]
theorem crack_eq {Y : YT} {k k' np : Nat} {s s' : Nat → Int32} (hnp : np ≤ 8) (h : ∀ p, p < np → PotR (Y (1, k, p)) s p) (h' : ∀ p, p < np → PotR (Y (1, k', p)) s' p) : crK Y k' np &&& (crK Y k np ^^^ -1) = crackN s s' np := by
  rw [cr_bt np h, cr_bt np h', bt_diff hnp, cr_bt2]
/-! what a pot's state does minute by minute -/
theorem ht_st {s : Nat → Int32} {p q : Nat} {b : Int32} (hp : p < 8) (hq : q < 8) (h : ¬ s (195 + q) = 1 ∨ q ≠ p) (h1 : s (195 + p) = 1) : ht s p b (195 + q) = s (195 + q) := by
  rcases Nat.decEq q p with e | e
  · exact (ht_E (b := b) e hp hq).2.2.2.1
  · subst e
    rcases h with h | h
    · exact absurd h1 h
    · exact absurd rfl h
theorem htN_st {s : Nat → Int32} {q : Nat} {b : Int32} (hq : q < 8) (h : ¬ s (195 + q) = 1) : ∀ n, n ≤ 8 → htN b n s (195 + q) = s (195 + q)
  | 0, _ => rfl
  | n + 1, hn => by
    have ih := htN_st (b := b) hq h n (by omega)
    rw [htN]
    by_cases c : htN b n s (195 + n) = 1
    · rw [if_pos c, ht_st (by omega) hq (Or.inl (by rw [ih]; exact h)) c, ih]
    · rw [if_neg c, ih]
theorem min_st {s : Nat → Int32} {n t q : Nat} (hI : Inv s n t) (hn : n ≤ 100000) (hq : q < 8) (h : ¬ s (195 + q) = 1) : minute s (195 + q) = s (195 + q) := by
  obtain ⟨lg, bb, d, h8, hl, hnl, hb, hb2, h0, -, -, -, -, hm⟩ := min_start hI hn
  have hx : mS11 s lg (195 + q) = s (195 + q) := (x_pot (p := q) hl hb hb2).2.2.2.1
  rw [hm, htN_st hq (by rw [hx]; exact h) _ hI.mb.np.2, hx]
theorem mins_st {s : Nat → Int32} {n q : Nat} (hI : Inv s n 0) (hn : n ≤ 100000) (hq : q < 8) {i : Nat} (h : ¬ mins i s (195 + q) = 1) : ∀ d, i + d ≤ 1000 → mins (i + d) s (195 + q) = mins i s (195 + q)
  | 0, _ => rfl
  | d + 1, hd => by
    have ih := mins_st hI hn hq h d (by omega)
    have := Inv_mins hI hn (i + d) (by omega)
    rw [← ih] at h
    show minute (mins (i + d) s) (195 + q) = _
    rw [min_st this hn hq h, ih]
theorem runU_to {s : Nat → Int32} {q : Nat} : ∀ i, i ≤ 300 → (∀ j, j < i → mins j s (195 + q) = 1) → runU s q 300 0 = runU s q (300 - i) i
  | 0, _, _ => rfl
  | i + 1, hi, h => by rw [runU_to i (by omega) (fun j hj => h j (by omega)), runU_on (by omega) (h i (by omega))]
theorem fired_hit {s : Nat → Int32} {n q i : Nat} (hI : Inv s n 0) (hn : n ≤ 100000) (hq : q < 8) (hi : i ≤ 300) (hb : ∀ j, j < i → ¬ mins j s (195 + q) = 2) (h : mins i s (195 + q) = 2) : firedF s q = nI i := by
  have h1 : ∀ j, j < i → mins j s (195 + q) = 1 := by
    intro j hj
    by_cases c : mins j s (195 + q) = 1
    · exact c
    · have := mins_st hI hn hq c (i - j) (by omega)
      rw [show j + (i - j) = i by omega, h] at this
      exact absurd this.symm (hb j hj)
  have hu : runU s q 300 0 = i := by rw [runU_to i hi h1, runU_off (by rw [h]; decide)]
  rw [firedF, hu, if_pos h]
theorem fired_no {s : Nat → Int32} {q : Nat} (hb : ∀ j, j ≤ 300 → ¬ mins j s (195 + q) = 2) : firedF s q = -10005 := by
  have hu : runU s q 300 0 ≤ 300 := by
    have : ∀ m i, runU s q m i ≤ i + m := by
      intro m
      induction m with
      | zero => intro i; exact Nat.le_refl _
      | succ m ih =>
        intro i
        rw [runU]
        split
        · have := ih (i + 1)
          omega
        · omega
    have := this 300 0
    omega
  rw [firedF, if_neg (hb _ hu)]
theorem setU_to {s : Nat → Int32} : ∀ i, i ≤ 300 → (∀ j, j < i → ¬ 10 ≤ near s j) → setU s 300 0 = setU s (300 - i) i
  | 0, _, _ => rfl
  | i + 1, hi, h => by rw [setU_to i (by omega) (fun j hj => h j (by omega)), setU_on (by omega) (h i (by omega))]
/-- near until minute i, never 10 yet -/
def NrI (s : Nat → Int32) (i : Nat) : Prop := ∀ j, j ≤ i → ∃ v, near s j = nI v ∧ v ≤ 9
theorem NrI.z (s : Nat → Int32) : NrI s 0 := fun j hj => ⟨0, by rw [show j = 0 by omega]; rfl, by omega⟩
theorem NrI.n10 {s : Nat → Int32} {i j : Nat} (h : NrI s i) (hj : j ≤ i) : ¬ 10 ≤ near s j := by
  obtain ⟨v, e, hv⟩ := h j hj
  rw [e]
  exact nI_ge (b := 10) (by omega) (by decide)
theorem NrI.s {s : Nat → Int32} {i : Nat} (h : NrI s i) (hn : ¬ near s (i + 1) = 10) : NrI s (i + 1) := fun j hj => by
  by_cases e : j ≤ i
  · exact h j e
  · have : j = i + 1 := by omega
    subst this
    obtain ⟨v, e, hv⟩ := h i (Nat.le_refl _)
    have hc : near s (i + 1) = 0 ∨ near s (i + 1) = near s i + 1 := by
      rw [near]
      split
      · exact Or.inl rfl
      · exact Or.inr rfl
    rcases hc with c | c
    · exact ⟨0, c, by omega⟩
    · rw [e, nI_1] at c
      refine ⟨v + 1, c, ?_⟩
      rcases Nat.lt_or_ge v 9 with z | z
      · omega
      · exact absurd (by rw [c, show v = 9 by omega]; rfl) hn
theorem set_hit {s : Nat → Int32} {i : Nat} (hi : i < 300) (h : NrI s i) (hn : near s (i + 1) = 10) : settleF s = nI (i + 1) := by
  have hu : setU s 300 0 = i + 1 := by rw [setU_to (i + 1) (by omega) (fun j hj => h.n10 (by omega)), setU_off (by rw [hn]; decide)]
  rw [settleF, hu, if_pos hn]
theorem set_no {s : Nat → Int32} (h : NrI s 300) : settleF s = -10005 := by
  have hu : setU s 300 0 = 300 := setU_to 300 (Nat.le_refl _) (fun j hj => h.n10 (by omega))
  rw [settleF, hu, if_neg (fun q => h.n10 (Nat.le_refl 300) (by rw [q]; decide))]
