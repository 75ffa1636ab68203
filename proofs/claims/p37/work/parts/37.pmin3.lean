theorem htN_in {s : Nat → Int32} {b : Int32} {p : Nat} (hp : p < 8) : ∀ n, n ≤ 8 → htN b n s (211 + p) = s (211 + p)
  | 0, _ => rfl
  | n + 1, hn => by
    rw [htN]
    split
    · rw [ht_n (by omega)]
      exact htN_in hp n (by omega)
    · exact htN_in hp n (by omega)
theorem wiN_congr {s s' : Nat → Int32} : ∀ n, (∀ p, p < n → s' (211 + p) = s (211 + p)) → wiN s' n = wiN s n
  | 0, _ => rfl
  | n + 1, h => by rw [wiN, wiN, wiN_congr n (fun p hp => h p (by omega)), h n (by omega)]
def dN (d bb : Nat) : Nat := d + bb / 2 - (d - 20) / 25
def jN (d d' : Nat) : Nat := if d ≤ d' then d' - d else d - d'
theorem dN_b {d bb : Nat} (h : 20 ≤ d) (h2 : d ≤ 1320) (hb : bb ≤ 100) : 20 ≤ dN d bb ∧ dN d bb ≤ 1320 := by unfold dN; omega
theorem d_eq {d bb : Nat} (h : 20 ≤ d) (h2 : d ≤ 1320) (hb : bb ≤ 100) : nI d + nI bb / 2 - (nI d - 20) / 25 = nI (dN d bb) := by
  rw [show (2 : Int32) = nI 2 from rfl, show (25 : Int32) = nI 25 from rfl, show nI d - 20 = nI (d - 20) from pk_sub (b := 20) h, pk_div (by omega) (by decide) (by decide), pk_div (by omega) (by decide) (by decide), nI_add]
  exact pk_sub (by omega)
theorem j_eq {d d' : Nat} (h : d ≤ 1320) (h' : d' ≤ 1320) : mBy (nI d) (nI d') = nI (jN d d') := by
  unfold mBy jN
  by_cases c : d ≤ d'
  · rw [if_pos (nI_le c (by omega)), if_pos c]
    exact pk_sub c
  · rw [if_neg (fun q => c ((nI_leI (by omega) (by omega)).mp q)), if_neg c]
    exact pk_sub (by omega)
theorem jN_b {d d' : Nat} (h : d ≤ 1320) (h' : d' ≤ 1320) : jN d d' ≤ 2000 := by unfold jN; split <;> omega
theorem x_pot {s : Nat → Int32} {lg bb p : Nat} (hl : lg ≤ 5) (hb : mBurn s lg = nI bb) (hb2 : bb ≤ 100) : PotE s (mS11 s lg) p := ⟨v_x hl hb hb2 (by omega), v_x hl hb hb2 (by omega), v_x hl hb hb2 (by omega), v_x hl hb hb2 (by omega), v_x hl hb hb2 (by omega), v_x hl hb hb2 (by omega), v_x hl hb hb2 (by omega)⟩
/-- all that a minute's proof begins with -/
theorem min_start {s : Nat → Int32} {n t : Nat} (h : Inv s n t) (hn : n ≤ 100000) : ∃ lg bb d : Nat, s 8 = nI lg ∧ lg ≤ 5 ∧ nn (s 8) = lg ∧ mBurn s lg = nI bb ∧ bb ≤ 100 ∧ s 0 = nI d ∧ 20 ≤ d ∧ d ≤ 1320 ∧ mS11 s lg 0 = nI (dN d bb) ∧ mBy (s 0) (mS11 s lg 0) = nI (jN d (dN d bb)) ∧ minute s = htN (nI (jN d (dN d bb))) (nn (s 15)) (mS11 s lg) := by
  obtain ⟨hmb, ⟨d, a, mi, e0, d1, d2, -⟩, -, -⟩ := h
  obtain ⟨b, fu, hb1, hb2, -⟩ := mBurn_ok (hmb.ok hn)
  obtain ⟨l1, l2⟩ := hmb.lg
  have hv : mS11 s (nn (s 8)) 0 = nI (dN d b) := by rw [v_0, hb2, e0, d_eq d1 d2 hb1]
  have hj : mBy (s 0) (mS11 s (nn (s 8)) 0) = nI (jN d (dN d b)) := by rw [hv, e0, j_eq d2 (dN_b d1 d2 hb1).2]
  exact ⟨nn (s 8), b, d, l1, l2, rfl, hb2, hb1, e0, d1, d2, hv, hj, by unfold minute; rw [hj]⟩
theorem PotR_ex (s : Nat → Int32) (q : Nat) : ∃ y, PotR y s q := ⟨fun f => if f = 0 then s (171 + q) else if f = 1 then s (179 + q) else if f = 2 then s (187 + q) else if f = 3 then s (195 + q) else if f = 4 then s (203 + q) else if f = 5 then s (211 + q) else s (219 + q), rfl, rfl, rfl, rfl, rfl, rfl, rfl⟩
theorem m12_s (mi : Nat) : nI (m12 mi) + (if 12 ≤ nI (m12 mi) then 0 else 1) = nI (m12 (mi + 1)) := by
  by_cases c1 : 12 ≤ mi
  · have a : m12 mi = 12 := by unfold m12; split <;> omega
    have b : m12 (mi + 1) = 12 := by unfold m12; split <;> omega
    rw [a, b]
    decide
  · have a : m12 mi = mi := by unfold m12; split <;> omega
    have b : m12 (mi + 1) = mi + 1 := by unfold m12; split <;> omega
    rw [a, b, if_neg (show ¬ (12 : Int32) ≤ nI mi from (show ¬ nI 12 ≤ nI mi from nI_ge (by omega) (by decide)))]
    exact nI_add mi 1
theorem Inv_minute {s : Nat → Int32} {n t : Nat} (h : Inv s n t) (hn : n ≤ 100000) (ht : 300 * n + t < 2 ^ 28) : Inv (minute s) n (t + 1) := by
  obtain ⟨lg, bb, d, e8, l5, el, hb, hb2, e0, d1, d2, hv, hj, hm⟩ := min_start h hn
  obtain ⟨hmb, ⟨d', a, mi, g0, -, -, g1, a1, a2, g12, g13, g14⟩, ⟨g, u, c, p, i1, i2, i3, i4, i5, i6, i7, i8⟩, hp1, hp2, w, hw, hw4⟩ := h
  obtain ⟨n15, np8⟩ := hmb.np
  have lo : ∀ f, f < 195 → minute s f = mS11 s lg f := fun f hf => by rw [hm, htN_lo hf]
  have e15 : minute s 15 = s 15 := by rw [lo _ (by decide), v_x l5 hb hb2 (by omega)]
  have hpots := htN_pots (s := mS11 s lg) hv (dN_b d1 d2 hb2).2 (jN_b d2 (dN_b d1 d2 hb2).2) (nn (s 15)) np8
  refine ⟨MB_minute hmb hn, ⟨dN d bb, a, mi + 1, ?_, (dN_b d1 d2 hb2).1, (dN_b d1 d2 hb2).2, ?_, a1, a2, ?_, by omega, ?_⟩, ⟨g, u, c, p, ?_, i2, ?_, i4, ?_, i6, ?_, i8⟩, ?_, ?_, w, ?_, hw4⟩
  · rw [lo _ (by decide), hv]
  · rw [lo _ (by decide), v_x l5 hb hb2 (by omega), g1]
  · rw [lo _ (by decide), v_12 l5 hb hb2, g12]
    exact nI_add mi 1
  · rw [lo _ (by decide), v_14 l5 hb hb2, g14]
    exact m12_s mi
  · rw [lo _ (by decide), v_x l5 hb hb2 (by omega), i1]
  · rw [lo _ (by decide), v_x l5 hb hb2 (by omega), i3]
  · rw [lo _ (by decide), v_x l5 hb hb2 (by omega), i5]
  · rw [lo _ (by decide), v_x l5 hb hb2 (by omega), i7]
  · intro q hq
    rw [e15] at hq
    have hE : PotE s (mS11 s lg) q := x_pot l5 hb hb2
    have hI := hE.I (hp1 q hq)
    have hy := PotR_ex (mS11 s lg) q
    obtain ⟨y, hy⟩ := hy
    rw [hm]
    exact (hpots.2 q hq y hI hy).2
  · intro q hq hq8
    rw [e15] at hq
    have hE : PotE s (minute s) q := (x_pot l5 hb hb2).tr (by rw [hm]; exact hpots.1 q hq hq8)
    obtain ⟨z1, z2, z3, z4⟩ := hp2 q hq hq8
    obtain ⟨y1, y2, y3, y4, y5, y6, y7⟩ := hE
    exact ⟨y4.trans z1, y5.trans z2, y6.trans z3, y7.trans z4⟩
  · rw [e15, ← hw]
    refine wiN_congr _ (fun q hq => ?_)
    rw [hm, htN_in (by omega) _ np8, v_x l5 hb hb2 (by omega)]
theorem Inv_mins {s : Nat → Int32} {n t : Nat} (h : Inv s n t) (hn : n ≤ 100000) : ∀ k, 300 * n + t + k < 2 ^ 28 → Inv (mins k s) n (t + k)
  | 0, _ => h
  | k + 1, hk => Inv_minute (t := t + k) (Inv_mins h hn k (by omega)) hn (by omega)
theorem burn_eq {x y : Int32} : (if x < y then x else y) = if x ≤ y then x else y := by
  by_cases c : x < y
  · rw [if_pos c, if_pos (Int32.le_of_lt c)]
  · rw [if_neg c]
    by_cases c2 : x ≤ y
    · rw [if_pos c2]
      exact Int32.le_antisymm (Int32.not_lt.mp c) c2
    · rw [if_neg c2]
theorem max_eq {o x : Int32} : (if o < x then x else o) = if x ≤ o then o else x := by
  by_cases c : o < x
  · rw [if_pos c, if_neg (Int32.not_le.mpr c)]
  · rw [if_neg c, if_pos (Int32.not_lt.mp c)]
/-- THE CLASS'S MINUTE IS THE MODEL'S -/
theorem kmin_ok {Y Y1 Y2 Y3 Y4 Y5 Y6 Y7 Y8 : YT} {k n t : Nat} {s : Nat → Int32} {w due b m1 m2 m3 : Int32} (hR : RKi Y k s) (hI : Inv s n t) (hn : n ≤ 100000) (ht : 300 * n + t < 2 ^ 28)
    (hw : w = clampI (fdv (rWant (Y (0, k, 1)) (Y (0, k, 0) 1 - Y (0, k, 0) 0))) 0 100)
    (hdue : due = if nn (s 8) = 0 then w else Y (0, k, 3) 0)
    (h1 : Y1 = if nn (s 8) = 0 then Y else setA Y (0, k, 3) (upd (shM (Y (0, k, 3)) 0 1) (nn (s 8) - 1) w))
    (h2 : Y2 = setA Y1 (0, k, 1) (upd (upd (Y1 (0, k, 1)) 4 (rSum (Y1 (0, k, 1)) (Y (0, k, 0) 1 - Y (0, k, 0) 0))) 5 (Y (0, k, 0) 1 - Y (0, k, 0) 0)))
    (h3 : Y3 = up Y2 (0, k, 0) 3 (clampI due (Y2 (0, k, 0) 3 - 20) (Y2 (0, k, 0) 3 + 20)))
    (hb : b = bMin (Y3 (0, k, 4)) (Y3 (0, k, 0) 3))
    (h4 : Y4 = setF (setA Y3 (0, k, 4) (upd (upd (Y3 (0, k, 4)) 1 (Y3 (0, k, 4) 1 - bMin (Y3 (0, k, 4)) (Y3 (0, k, 0) 3))) 3 (Y3 (0, k, 4) 3 + bMin (Y3 (0, k, 4)) (Y3 (0, k, 0) 3)))) (0, k, 5) 101 (bMin (Y3 (0, k, 4)) (Y3 (0, k, 0) 3)) (numF Y3 (0, k, 5) 101 (bMin (Y3 (0, k, 4)) (Y3 (0, k, 0) 3)) + 1))
    (hm1 : m1 = if 20 < Y (0, k, 0) 0 + b / 2 - (Y (0, k, 0) 0 - 20) / 25 then Y (0, k, 0) 0 + b / 2 - (Y (0, k, 0) 0 - 20) / 25 else 20)
    (h5 : Y5 = up Y4 (0, k, 0) 0 m1)
    (hm2 : m2 = if Y5 (0, k, 0) 2 < Y5 (0, k, 0) 0 - Y5 (0, k, 0) 1 then Y5 (0, k, 0) 0 - Y5 (0, k, 0) 1 else Y5 (0, k, 0) 2)
    (h6 : Y6 = up Y5 (0, k, 0) 2 m2)
    (h7 : Y7 = up (up (up (up (up Y6 (0, k, 6) (nn (s 12) % 12 * 4) (Y6 (0, k, 0) 0)) (0, k, 6) (nn (s 12) % 12 * 4 + 1) (Y6 (0, k, 0) 3)) (0, k, 6) (nn (s 12) % 12 * 4 + 2) (Y (0, k, 0) 1 - Y (0, k, 0) 0)) (0, k, 6) (nn (s 12) % 12 * 4 + 3) b) (0, k, 4) 0 (nI (nn (s 12) + 1)))
    (hm3 : m3 = if 0 ≤ Y7 (0, k, 0) 0 - Y (0, k, 0) 0 then Y7 (0, k, 0) 0 - Y (0, k, 0) 0 else 0 - (Y7 (0, k, 0) 0 - Y (0, k, 0) 0))
    (h8 : Y8 = potG (fun i => pMin (Y7 (1, k, i)) (Y7 (0, k, 0) 0) m3) Y7 k (nn (s 15))) : RKi Y8 k (minute s) ∧ FrK Y Y8 k := by
  obtain ⟨lg, bb, d, e8, l5, el, hbu, hb2, e0, d1, d2, hv, hj, hm⟩ := min_start hI hn
  obtain ⟨mi1, mi2⟩ := hI.mi (by omega)
  obtain ⟨hmb, ⟨d', a, mi, g0, -, -, g1, a1, a2, g12, g13, g14⟩, hG, hp1, hp2, w', hw', hw4⟩ := hI
  obtain ⟨n15, np8⟩ := hmb.np
  obtain ⟨⟨r0, r1, r2, r3⟩, ⟨q0, q1, q2, q3, q4, q5⟩, ⟨x0, x1⟩, ⟨b0, b1, b2, b3⟩, am, lo6, c0, cp⟩ := hR
  rw [el] at hdue h1 x1
  have hdb := dN_b d1 d2 hb2
  -- what is wanted, the error
  have he : Y (0, k, 0) 1 - Y (0, k, 0) 0 = mErr s := by rw [r0, r1]; rfl
  have hsum : rSum (Y (0, k, 1)) (mErr s) = mSum s := by rw [rSum, q4, q3]; rfl
  have hwant : w = mWant s := by
    rw [hw, he, fdv_clamp, rWant, hsum, q0, q1, q2, q5]
    rfl
  have hdue' : due = mFirst s lg := by
    rw [hdue, mFirst, lagR]
    by_cases c : lg = 0
    · rw [if_pos c, if_pos c, hwant]
    · rw [if_neg c, if_neg c, mS2_n (by decide) (by decide), x1 0 (by omega)]
  -- cell by cell
  have y1 : ∀ i : Id3, i ≠ (0, k, 3) → Y1 i = Y i := by
    intro i hi
    rw [h1]
    split
    · rfl
    · exact setA_n hi
  have n01 : ((0, k, 0) : Id3) ≠ (0, k, 1) := nej (by decide)
  rw [he] at h2
  have y2_0 : Y2 (0, k, 0) = Y (0, k, 0) := by rw [h2, setA_n n01, y1 _ (nej (by decide))]
  have y2_1 : Y2 (0, k, 1) = upd (upd (Y (0, k, 1)) 4 (mSum s)) 5 (mErr s) := by rw [h2, setA_s, y1 _ (nej (by decide)), hsum]
  have y2_n : ∀ i : Id3, i ≠ (0, k, 1) → i ≠ (0, k, 3) → Y2 i = Y i := fun i hi hi3 => by rw [h2, setA_n hi, y1 i hi3]
  have y2_3 : Y2 (0, k, 3) = Y1 (0, k, 3) := by rw [h2, setA_n (nej (by decide))]
  rw [y2_0] at h3
  have hdam : clampI due (Y (0, k, 0) 3 - 20) (Y (0, k, 0) 3 + 20) = mS11 s lg 9 := by rw [v_9 l5 hbu hb2, hdue', r3]
  rw [hdam] at h3
  have y3_0 : Y3 (0, k, 0) = upd (Y (0, k, 0)) 3 (mS11 s lg 9) := by rw [h3, up_s, y2_0]
  have y3_n : ∀ i : Id3, i ≠ (0, k, 0) → Y3 i = Y2 i := fun i hi => by rw [h3, up_n hi]
  have y3_4 : Y3 (0, k, 4) = Y (0, k, 4) := by rw [y3_n _ (nej (by decide)), y2_n _ (nej (by decide)) (nej (by decide))]
  have y3_5 : Y3 (0, k, 5) = Y (0, k, 5) := by rw [y3_n _ (nej (by decide)), y2_n _ (nej (by decide)) (nej (by decide))]
  have hbm : bMin (Y3 (0, k, 4)) (Y3 (0, k, 0) 3) = nI bb := by
    rw [y3_4, y3_0, upd_s, bMin, b1, burn_eq, ← hbu, mBurn, s4_10 l5, s4_9 l5, v_9 l5 hbu hb2]
  have hbb : b = nI bb := hb.trans hbm
  rw [hbm, numF, if_pos ⟨nI_pos' (by omega), nI_lt (show bb < 101 by omega) (by decide)⟩, nn_nI (by omega), setF_in (by omega) (by decide), y3_4, y3_5] at h4
  have y4_5 : Y4 (0, k, 5) = upd (Y (0, k, 5)) bb (Y (0, k, 5) bb + 1) := by rw [h4, up_s, setA_n (nej (by decide)), y3_5]
  have y4_4 : Y4 (0, k, 4) = upd (upd (Y (0, k, 4)) 1 (Y (0, k, 4) 1 - nI bb)) 3 (Y (0, k, 4) 3 + nI bb) := by rw [h4, up_n (nej (by decide)), setA_s]
  have y4_n : ∀ i : Id3, i ≠ (0, k, 4) → i ≠ (0, k, 5) → Y4 i = Y3 i := fun i hi hi5 => by rw [h4, up_n hi5, setA_n hi]
  have hdeg : Y (0, k, 0) 0 + b / 2 - (Y (0, k, 0) 0 - 20) / 25 = nI (dN d bb) := by rw [hbb, r0, e0, d_eq d1 d2 hb2]
  rw [hdeg] at hm1
  have hm1' : m1 = nI (dN d bb) := by
    rw [hm1]
    by_cases c : (20 : Int32) < nI (dN d bb)
    · rw [if_pos c]
    · rw [if_neg c]
      have : ¬ 20 < dN d bb := fun q => c (nI_lt (a := 20) q (by omega))
      rw [show dN d bb = 20 by omega]
      rfl
  have y5_0 : Y5 (0, k, 0) = upd (upd (Y (0, k, 0)) 3 (mS11 s lg 9)) 0 (nI (dN d bb)) := by rw [h5, up_s, y4_n _ (nej (by decide)) (nej (by decide)), y3_0, hm1']
  have y5_n : ∀ i : Id3, i ≠ (0, k, 0) → Y5 i = Y4 i := fun i hi => by rw [h5, up_n hi]
  have hm2' : m2 = mS11 s lg 13 := by
    rw [hm2, y5_0, upd_s, upd_n (show (2 : Nat) ≠ 0 by decide), upd_n (show (2 : Nat) ≠ 3 by decide), upd_n (show (1 : Nat) ≠ 0 by decide), upd_n (show (1 : Nat) ≠ 3 by decide), max_eq, v_13 l5 hbu hb2, hv, r1, r2, Int32.neg_sub]
  have y6_0 : Y6 (0, k, 0) = upd (upd (upd (Y (0, k, 0)) 3 (mS11 s lg 9)) 0 (nI (dN d bb))) 2 (mS11 s lg 13) := by rw [h6, up_s, y5_0, hm2']
  have y6_n : ∀ i : Id3, i ≠ (0, k, 0) → Y6 i = Y4 i := fun i hi => by rw [h6, up_n hi, y5_n i hi]
  have f00 : Y6 (0, k, 0) 0 = nI (dN d bb) := by rw [y6_0, upd_n (by decide), upd_s]
  have f03 : Y6 (0, k, 0) 3 = mS11 s lg 9 := by rw [y6_0, upd_n (by decide), upd_n (by decide), upd_s]
  rw [f00, f03, he, hbb] at h7
  have n46 : ((0, k, 4) : Id3) ≠ (0, k, 6) := nej (by decide)
  have y7_n : ∀ i : Id3, i ≠ (0, k, 4) → i ≠ (0, k, 6) → Y7 i = Y6 i := fun i h4' h6' => by rw [h7, up_n h4', up_n h6', up_n h6', up_n h6', up_n h6']
  have y7_4 : Y7 (0, k, 4) = upd (Y4 (0, k, 4)) 0 (nI (nn (s 12) + 1)) := by rw [h7, up_s, up_n n46, up_n n46, up_n n46, up_n n46, y6_n _ (nej (by decide))]
  have y7_6 : Y7 (0, k, 6) = upd (upd (upd (upd (Y (0, k, 6)) (nn (s 12) % 12 * 4) (nI (dN d bb))) (nn (s 12) % 12 * 4 + 1) (mS11 s lg 9)) (nn (s 12) % 12 * 4 + 2) (mErr s)) (nn (s 12) % 12 * 4 + 3) (nI bb) := by
    rw [h7, up_n (Ne.symm n46), up_s, up_s, up_s, up_s, y6_n _ (nej (by decide)), y4_n _ (nej (by decide)) (nej (by decide)), y3_n _ (nej (by decide)), y2_n _ (nej (by decide)) (nej (by decide))]
  have y7_0 : Y7 (0, k, 0) = Y6 (0, k, 0) := y7_n _ (nej (by decide)) (nej (by decide))
  rw [y7_0, f00, r0] at hm3
  have hm3' : m3 = nI (jN d (dN d bb)) := by
    rw [hm3, e0]
    unfold jN
    by_cases c : d ≤ dN d bb
    · rw [if_pos c, show nI (dN d bb) - nI d = nI (dN d bb - d) from pk_sub c, if_pos (nI_pos' (by omega))]
    · rw [if_neg c]
      have hneg : ¬ (0 : Int32) ≤ nI (dN d bb) - nI d := by
        rw [Int32.le_iff_toInt_le, pk_sub_toInt (by omega) (by omega), Int32.toInt_zero]
        omega
      rw [if_neg hneg, Int32.zero_sub, Int32.neg_sub]
      exact pk_sub (by omega)
  rw [y7_0, f00, hm3'] at h8
  have e15 : minute s 15 = s 15 := by rw [hm, htN_lo (by decide), v_x l5 hbu hb2 (by omega)]
  have lo : ∀ f, f < 195 → minute s f = mS11 s lg f := fun f hf => by rw [hm, htN_lo hf]
  have p8 : ∀ i : Id3, i.1 = 0 → Y8 i = Y7 i := fun i hi => by rw [h8, potG_n (fun q => by rw [hi] at q; exact absurd q.1 (by decide))]
  have y7_p : ∀ p, Y7 (1, k, p) = Y (1, k, p) := fun p => by
    have z : ∀ j, ((1, k, p) : Id3) ≠ (0, k, j) := fun j q => by injection q with q1; exact absurd q1 (by decide)
    rw [y7_n _ (z 4) (z 6), y6_n _ (z 0), y4_n _ (z 4) (z 5), y3_n _ (z 0), y2_n _ (z 1) (z 3)]
  have hmi12 : nn (s 12) = mi := by rw [g12, nn_nI (by omega)]
  have e12 : minute s 12 = nI (mi + 1) := by rw [lo _ (by decide), v_12 l5 hbu hb2, g12]; exact nI_add mi 1
  refine ⟨⟨⟨?_, ?_, ?_, ?_⟩, ⟨?_, ?_, ?_, ?_, ?_, ?_⟩, ⟨?_, ?_⟩, ⟨?_, ?_, ?_, ?_⟩, ?_, ?_, ?_, ?_⟩, ?_⟩
  · rw [p8 _ rfl, y7_0, f00, lo _ (by decide), hv]
  · rw [p8 _ rfl, y7_0, y6_0, upd_n (by decide), upd_n (by decide), upd_n (by decide), r1, lo _ (by decide), v_x l5 hbu hb2 (by omega)]
  · rw [p8 _ rfl, y7_0, y6_0, upd_s, lo _ (by decide)]
  · rw [p8 _ rfl, y7_0, f03, lo _ (by decide)]
  · rw [p8 _ rfl, y7_n _ (nej (by decide)) (nej (by decide)), y6_n _ (nej (by decide)), y4_n _ (nej (by decide)) (nej (by decide)), y3_n _ (nej (by decide)), y2_1, upd_n (by decide), upd_n (by decide), q0, lo _ (by decide), v_x l5 hbu hb2 (by omega)]
  · rw [p8 _ rfl, y7_n _ (nej (by decide)) (nej (by decide)), y6_n _ (nej (by decide)), y4_n _ (nej (by decide)) (nej (by decide)), y3_n _ (nej (by decide)), y2_1, upd_n (by decide), upd_n (by decide), q1, lo _ (by decide), v_x l5 hbu hb2 (by omega)]
  · rw [p8 _ rfl, y7_n _ (nej (by decide)) (nej (by decide)), y6_n _ (nej (by decide)), y4_n _ (nej (by decide)) (nej (by decide)), y3_n _ (nej (by decide)), y2_1, upd_n (by decide), upd_n (by decide), q2, lo _ (by decide), v_x l5 hbu hb2 (by omega)]
  · rw [p8 _ rfl, y7_n _ (nej (by decide)) (nej (by decide)), y6_n _ (nej (by decide)), y4_n _ (nej (by decide)) (nej (by decide)), y3_n _ (nej (by decide)), y2_1, upd_n (by decide), upd_n (by decide), q3, lo _ (by decide), v_x l5 hbu hb2 (by omega)]
  · rw [p8 _ rfl, y7_n _ (nej (by decide)) (nej (by decide)), y6_n _ (nej (by decide)), y4_n _ (nej (by decide)) (nej (by decide)), y3_n _ (nej (by decide)), y2_1, upd_n (by decide), upd_s, lo _ (by decide), v_5 l5 hbu hb2]
  · rw [p8 _ rfl, y7_n _ (nej (by decide)) (nej (by decide)), y6_n _ (nej (by decide)), y4_n _ (nej (by decide)) (nej (by decide)), y3_n _ (nej (by decide)), y2_1, upd_s, lo _ (by decide), v_7 l5 hbu hb2]
  · rw [p8 _ rfl, y7_n _ (nej (by decide)) (nej (by decide)), y6_n _ (nej (by decide)), y4_n _ (nej (by decide)) (nej (by decide)), y3_n _ (nej (by decide)), y2_n _ (nej (by decide)) (nej (by decide)), x0, lo _ (by decide), v_x l5 hbu hb2 (by omega)]
  · intro j hj
    rw [lo 8 (by decide), v_x l5 hbu hb2 (by omega), el] at hj
    rw [p8 _ rfl, y7_n _ (nej (by decide)) (nej (by decide)), y6_n _ (nej (by decide)), y4_n _ (nej (by decide)) (nej (by decide)), y3_n _ (nej (by decide)), y2_3, h1, if_neg (by omega), setA_s, lo _ (by omega), v_lag hj l5 hbu hb2]
    by_cases c : j + 1 = lg
    · rw [if_pos c, show lg - 1 = j by omega, upd_s, hwant]
    · rw [if_neg c, upd_n (by omega), shM, if_pos (by decide), shDn, if_pos (by omega)]
      exact x1 (j + 1) (by omega)
  · rw [p8 _ rfl, y7_4, upd_s, e12, hmi12]
  · rw [p8 _ rfl, y7_4, upd_n (by decide), y4_4, upd_n (by decide), upd_s, b1, lo _ (by decide), v_10 l5 hbu hb2, hbu]
  · rw [p8 _ rfl, y7_4, upd_n (by decide), y4_4, upd_n (by decide), upd_n (by decide), b2, lo _ (by decide), v_x l5 hbu hb2 (by omega)]
  · rw [p8 _ rfl, y7_4, upd_n (by decide), y4_4, upd_s, b3, lo _ (by decide), v_16 l5 hbu hb2, hbu]
  · intro j hj9
    rw [p8 _ rfl, y7_n _ (nej (by decide)) (nej (by decide)), y6_n _ (nej (by decide)), y4_5, lo _ (by omega), v_amt hj9 l5 hbu hb2]
    by_cases c : j = bb
    · rw [if_pos c, c, upd_s, am bb (by omega)]
    · rw [upd_n c, if_neg c, am j hj9]
  · intro p w2 hp hw2
    rw [e12, nn_nI (by omega)] at hp ⊢
    rw [p8 _ rfl, y7_6, hmi12]
    have h12 : mi % 12 < 12 := Nat.mod_lt _ (by decide)
    by_cases hp0 : p = 0
    · subst hp0
      have hz : (mi + 1 - 1 - 0) % 12 * 4 + w2 = mi % 12 * 4 + w2 := by rw [show mi + 1 - 1 - 0 = mi by omega]
      rw [hz, show 123 + 4 * 0 + w2 = 123 + w2 by omega, lo _ (by omega), v_log0 hw2 l5 hbu hb2]
      have hc : w2 = 0 ∨ w2 = 1 ∨ w2 = 2 ∨ w2 = 3 := by omega
      rcases hc with rfl | rfl | rfl | rfl
      · rw [if_pos rfl, upd_n (by omega), upd_n (by omega), upd_n (by omega), Nat.add_zero, upd_s, hv]
      · rw [if_neg (by decide), if_pos rfl, upd_n (by omega), upd_n (by omega), upd_s]
      · rw [if_neg (by decide), if_neg (by decide), if_pos rfl, upd_n (by omega), upd_s]
      · rw [if_neg (by decide), if_neg (by decide), if_neg (by decide), upd_s, hbu]
    · have hp12 : p ≤ 11 ∧ p ≤ mi := by
        unfold m12 at hp
        split at hp <;> omega
      have hne : (mi + 1 - 1 - p) % 12 ≠ mi % 12 := by omega
      have hne2 : (mi + 1 - 1 - p) % 12 < 12 := Nat.mod_lt _ (by decide)
      rw [upd_n (by omega), upd_n (by omega), upd_n (by omega), upd_n (by omega), lo _ (by omega), v_log (by omega) (by omega) l5 hbu hb2]
      have := lo6 (p - 1) w2 (by rw [hmi12]; unfold m12 at hp ⊢; split at hp <;> split <;> omega) hw2
      rw [hmi12, show mi - 1 - (p - 1) = mi + 1 - 1 - p by omega, show 123 + 4 * (p - 1) + w2 = 123 + 4 * p + w2 - 4 by omega] at this
      exact this
  · rw [p8 _ rfl, y7_n _ (nej (by decide)) (nej (by decide)), y6_n _ (nej (by decide)), y4_n _ (nej (by decide)) (nej (by decide)), y3_n _ (nej (by decide)), y2_n _ (nej (by decide)) (nej (by decide)), c0, e15]
  · intro p hp
    rw [e15] at hp
    rw [h8, potG_lt hp, y7_p]
    have hpots := htN_pots (s := mS11 s lg) hv hdb.2 (jN_b d2 hdb.2) (nn (s 15)) np8
    have hE : PotE s (mS11 s lg) p := x_pot l5 hbu hb2
    rw [hm]
    exact (hpots.2 p hp (Y (1, k, p)) (hE.I (hp1 p hp)) (hE.R (cp p hp))).1
  · intro i hi
    have z : ∀ j, i ≠ (0, k, j) := fun j q => hi (by rw [q]; exact ⟨Nat.zero_le 1, rfl⟩)
    rw [h8, potG_n (fun q => hi ⟨by omega, q.2⟩), y7_n _ (z 4) (z 6), y6_n _ (z 0), y4_n _ (z 4) (z 5), y3_n _ (z 0), y2_n _ (z 1) (z 3)]
