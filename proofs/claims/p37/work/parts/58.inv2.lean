/-! WHAT ELSE HOLDS OF EVERY ROW: fuel adds up, the log's first place, pots and their minutes; acts keep it. -/
def PotD (s : Nat → Int32) (p : Nat) : Prop := s (195 + p) = 2 ↔ s (203 + p) = s (187 + p)
def I2 (s : Nat → Int32) : Prop := (s 11 = s 10 + s 16 ∧ s 16 = baN s 101 ∧ bsN s 101 = s 12) ∧ 0 ≤ s 13 ∧ (s 12 = 0 → s 7 = 0) ∧ (¬ s 12 = 0 → s 123 = s 0 ∧ s 124 = s 9 ∧ s 125 = s 7 ∧ s 126 ≤ s 124) ∧ ∀ p, p < nn (s 15) → PotD s p
theorem baN_congr {s s' : Nat → Int32} : ∀ n, (∀ i, i < n → s' (22 + i) = s (22 + i)) → baN s' n = baN s n
  | 0, _ => rfl
  | n + 1, h => by rw [baN, baN, baN_congr n (fun i hi => h i (by omega)), h n (by omega)]
theorem bsN_congr {s s' : Nat → Int32} : ∀ n, (∀ i, i < n → s' (22 + i) = s (22 + i)) → bsN s' n = bsN s n
  | 0, _ => rfl
  | n + 1, h => by rw [bsN, bsN, bsN_congr n (fun i hi => h i (by omega)), h n (by omega)]
theorem baN_up {s s' : Nat → Int32} {b : Nat} (h : ∀ i, i < 101 → s' (22 + i) = if i = b then s (22 + i) + 1 else s (22 + i)) : ∀ n, n ≤ 101 → baN s' n = baN s n + (if b < n then nI b else 0)
  | 0, _ => by rw [if_neg (Nat.not_lt_zero b)]; rfl
  | n + 1, hn => by
    rw [baN, baN, baN_up h n (by omega), h n (by omega)]
    by_cases c : n = b
    · subst c
      rw [if_neg (Nat.lt_irrefl n), if_pos rfl, if_pos (Nat.lt_succ_self n), Int32.mul_add, Int32.mul_one, Int32.add_zero, Int32.add_assoc]
    · rw [if_neg c]
      by_cases c2 : b < n
      · rw [if_pos c2, if_pos (by omega), Int32.add_assoc, Int32.add_comm (nI b), ← Int32.add_assoc]
      · rw [if_neg c2, if_neg (by omega), Int32.add_zero, Int32.add_zero]
theorem bsN_up {s s' : Nat → Int32} {b : Nat} (h : ∀ i, i < 101 → s' (22 + i) = if i = b then s (22 + i) + 1 else s (22 + i)) : ∀ n, n ≤ 101 → bsN s' n = bsN s n + (if b < n then 1 else 0)
  | 0, _ => by rw [if_neg (Nat.not_lt_zero b)]; rfl
  | n + 1, hn => by
    rw [bsN, bsN, bsN_up h n (by omega), h n (by omega)]
    by_cases c : n = b
    · subst c
      rw [if_neg (Nat.lt_irrefl n), if_pos rfl, if_pos (Nat.lt_succ_self n), Int32.add_zero, Int32.add_assoc]
    · rw [if_neg c]
      by_cases c2 : b < n
      · rw [if_pos c2, if_pos (by omega), Int32.add_assoc, Int32.add_comm 1, ← Int32.add_assoc]
      · rw [if_neg c2, if_neg (by omega), Int32.add_zero, Int32.add_zero]
theorem I2.gen {s s' : Nat → Int32} (h : I2 s) (e : ∀ f, (f = 0 ∨ f = 7 ∨ f = 9 ∨ f = 12 ∨ f = 16 ∨ (22 ≤ f ∧ f < 127)) → s' f = s f) (hf : s' 11 = s' 10 + s' 16) (h13 : 0 ≤ s' 13) (hp : ∀ p, p < nn (s' 15) → PotD s' p) : I2 s' := by
  obtain ⟨⟨-, h2, h3⟩, -, h5, h6, -⟩ := h
  have e12 := e 12 (by omega)
  have e7 := e 7 (by omega)
  refine ⟨⟨hf, ?_, ?_⟩, h13, fun z => ?_, fun z => ?_, hp⟩
  · rw [e 16 (by omega), baN_congr (s := s) 101 (fun i hi => e _ (by omega))]
    exact h2
  · rw [e12, bsN_congr (s := s) 101 (fun i hi => e _ (by omega))]
    exact h3
  · rw [e12] at z
    rw [e7]
    exact h5 z
  · rw [e12] at z
    obtain ⟨g1, g2, g3, g4⟩ := h6 z
    rw [e 123 (by omega), e 124 (by omega), e 125 (by omega), e 126 (by omega), e 0 (by omega), e 9 (by omega), e7]
    exact ⟨g1, g2, g3, g4⟩
theorem I2.fu {s : Nat → Int32} (h : I2 s) : s 11 = s 10 + s 16 := h.1.1
theorem I2.ov {s : Nat → Int32} (h : I2 s) : 0 ≤ s 13 := h.2.1
theorem I2.po {s : Nat → Int32} (h : I2 s) : ∀ p, p < nn (s 15) → PotD s p := h.2.2.2.2
/-- all that counts is as it was -/
theorem I2.eq {s s' : Nat → Int32} (h : I2 s) (e : ∀ f, (f = 0 ∨ f = 7 ∨ (9 ≤ f ∧ f ≤ 13) ∨ f = 15 ∨ f = 16 ∨ (22 ≤ f ∧ f < 127) ∨ 171 ≤ f) → s' f = s f) : I2 s' := by
  refine h.gen (fun f hf => e f (by omega)) (by rw [e 11 (by omega), e 10 (by omega), e 16 (by omega)]; exact h.fu) (by rw [e 13 (by omega)]; exact h.ov) (fun p hp => ?_)
  rw [e 15 (by omega)] at hp
  unfold PotD
  rw [e _ (by omega), e _ (by omega), e _ (by omega)]
  exact h.po p hp
theorem pMin_1 {y : Nat → Int32} {d j : Int32} (h : y 3 = 1) : pMin y d j 2 = y 2 ∧ ((pMin y d j 3 = 3 ∧ pMin y d j 4 = y 4) ∨ ((pMin y d j 4 = y 4 ∨ pMin y d j 4 = y 4 + 1) ∧ ((pMin y d j 4 < y 2 ∧ pMin y d j 3 = 1) ∨ (¬ pMin y d j 4 < y 2 ∧ pMin y d j 3 = 2)))) := by
  have p1 : ∀ f, f ≠ 6 → pM1 y j f = y f := fun f hf => by rw [pM1, upd_n hf]
  have p2 : ∀ f, f ≠ 4 → f ≠ 6 → pM2 (pM1 y j) d f = y f := fun f h4 h6 => by
    unfold pM2
    split
    · exact p1 f h6
    · rw [upd_n h4]; exact p1 f h6
  have p4 : pM2 (pM1 y j) d 4 = y 4 ∨ pM2 (pM1 y j) d 4 = y 4 + 1 := by
    unfold pM2
    split
    · exact Or.inl (p1 4 (by decide))
    · rw [upd_s, p1 4 (by decide)]; exact Or.inr rfl
  unfold pMin
  rw [if_pos h]
  by_cases c1 : pM1 y j 0 < j
  · rw [if_pos c1]
    exact ⟨by rw [upd_n (by decide), p1 2 (by decide)], Or.inl ⟨upd_s, by rw [upd_n (by decide), p1 4 (by decide)]⟩⟩
  · rw [if_neg c1]
    by_cases c2 : d - pM1 y j 1 ≤ 80
    · rw [if_pos c2, p2 2 (by decide) (by decide)]
      by_cases c3 : pM2 (pM1 y j) d 4 < y 2
      · rw [if_pos c3]
        exact ⟨p2 2 (by decide) (by decide), Or.inr ⟨p4, Or.inl ⟨c3, by rw [p2 3 (by decide) (by decide), h]⟩⟩⟩
      · rw [if_neg c3]
        refine ⟨by rw [upd_n (by decide), p2 2 (by decide) (by decide)], Or.inr ⟨by rw [upd_n (by decide)]; exact p4, Or.inr ⟨by rw [upd_n (by decide)]; exact c3, upd_s⟩⟩⟩
    · rw [if_neg c2]
      exact ⟨by rw [upd_n (by decide), p1 2 (by decide)], Or.inl ⟨upd_s, by rw [upd_n (by decide), p1 4 (by decide)]⟩⟩
/-- what a minute makes of a pot -/
def PotT (s s' : Nat → Int32) (p : Nat) : Prop := s' (187 + p) = s (187 + p) ∧ (¬ s (195 + p) = 1 → s' (195 + p) = s (195 + p) ∧ s' (203 + p) = s (203 + p)) ∧ (s (195 + p) = 1 → (s' (195 + p) = 3 ∧ s' (203 + p) = s (203 + p)) ∨ ((s' (203 + p) = s (203 + p) ∨ s' (203 + p) = s (203 + p) + 1) ∧ ((s' (203 + p) < s (187 + p) ∧ s' (195 + p) = 1) ∨ (¬ s' (203 + p) < s (187 + p) ∧ s' (195 + p) = 2))))
theorem min_T {s : Nat → Int32} {n t : Nat} (h : Inv s n t) (hn : n ≤ 100000) {p : Nat} (hp : p < nn (s 15)) : PotT s (minute s) p := by
  obtain ⟨lg, bb, d, e8, l5, el, hb, hb2, e0, d1, d2, hv, hj, hm⟩ := min_start h hn
  have np8 := h.mb.np.2
  have hpots := (htN_pots (s := mS11 s lg) hv (dN_b d1 d2 hb2).2 (jN_b d2 (dN_b d1 d2 hb2).2) (nn (s 15)) np8).2 p hp
  obtain ⟨y, hy⟩ := PotR_ex s p
  have hx := x_pot (s := s) (p := p) l5 hb hb2
  obtain ⟨hR, -⟩ := hpots y (hx.I (h.2.2.2.1 p hp)) (hx.R hy)
  rw [← hm] at hR
  obtain ⟨-, -, r2, r3, r4, -, -⟩ := hR
  obtain ⟨-, -, y2, y3, y4, -, -⟩ := hy
  refine ⟨?_, fun h1 => ?_, fun h1 => ?_⟩
  · rw [← r2, ← y2]
    by_cases c : y 3 = 1
    · exact (pMin_1 c).1
    · unfold pMin; rw [if_neg c]
  · have c : ¬ y 3 = 1 := by rw [y3]; exact h1
    rw [← r3, ← r4, ← y3, ← y4]
    unfold pMin
    rw [if_neg c]
    exact ⟨rfl, rfl⟩
  · have c : y 3 = 1 := by rw [y3]; exact h1
    rw [← r3, ← r4, ← y4, ← y2]
    exact (pMin_1 c).2
theorem PotD_T {s s' : Nat → Int32} {p : Nat} (hi : PotI s p) (hd : PotD s p) (ht : PotT s s' p) : PotD s' p := by
  obtain ⟨sh, ne, ti, ho, so, i, -, -, -, -, e2, t2, e3, o3, e4, s4, s5, -⟩ := hi
  obtain ⟨g1, g2, g3⟩ := ht
  unfold PotD at *
  by_cases c : s (195 + p) = 1
  · have hso : so < ti := s5 (by
      rcases Nat.lt_or_ge 1 ho with q | q
      · rw [e3] at c
        have := (nI_eq (b := 1) (by omega) (by decide)).mp c
        omega
      · exact q)
    have n4 : ∀ w, w ≤ 100 → (nI w = nI ti ↔ w = ti) := fun w hw => nI_eq (by omega) (by omega)
    rw [g1, e2]
    rcases g3 c with ⟨z1, z2⟩ | ⟨z1, z2⟩
    · rw [z1, z2, e4]
      exact ⟨fun q => absurd q (by decide), fun q => absurd ((n4 so (by omega)).mp q) (by omega)⟩
    · have hw : ∃ w, w ≤ ti ∧ s' (203 + p) = nI w := by
        rcases z1 with z | z
        · exact ⟨so, by omega, by rw [z, e4]⟩
        · exact ⟨so + 1, by omega, by rw [z, e4]; exact nI_add so 1⟩
      obtain ⟨w, hw1, hw2⟩ := hw
      rw [hw2, e2] at z2
      rw [hw2]
      rcases z2 with ⟨z, z'⟩ | ⟨z, z'⟩
      · have := (nI_ltI (by omega) (by omega)).mp z
        rw [z']
        exact ⟨fun q => absurd q (by decide), fun q => absurd ((n4 w (by omega)).mp q) (by omega)⟩
      · have : ¬ w < ti := fun q => z (nI_lt q (by omega))
        rw [z']
        exact ⟨fun _ => (n4 w (by omega)).mpr (by omega), fun _ => rfl⟩
  · obtain ⟨q1, q2⟩ := g2 c
    rw [g1, q1, q2]
    exact hd
theorem v_logs {s : Nat → Int32} {lg bb : Nat} (hl : lg ≤ 5) (hb : mBurn s lg = nI bb) (hb2 : bb ≤ 100) : mS11 s lg 123 = mS11 s lg 0 ∧ mS11 s lg 124 = mS11 s lg 9 ∧ mS11 s lg 125 = mErr s ∧ mS11 s lg 126 = mBurn s lg :=
  ⟨(v_log0 (w := 0) (by decide) hl hb hb2).trans (if_pos rfl), (v_log0 (w := 1) (by decide) hl hb hb2).trans ((if_neg (by decide)).trans (if_pos rfl)), (v_log0 (w := 2) (by decide) hl hb hb2).trans ((if_neg (by decide)).trans ((if_neg (by decide)).trans (if_pos rfl))), (v_log0 (w := 3) (by decide) hl hb hb2).trans ((if_neg (by decide)).trans ((if_neg (by decide)).trans (if_neg (by decide))))⟩
theorem I2_minute {s : Nat → Int32} {n t : Nat} (h : Inv s n t) (hn : n ≤ 100000) (ht : 300 * n + t < 2 ^ 28) (h2 : I2 s) : I2 (minute s) := by
  obtain ⟨lg, bb, d, e8, l5, el, hb, hb2, e0, d1, d2, hv, hj, hm⟩ := min_start h hn
  have lo : ∀ f, f < 195 → minute s f = mS11 s lg f := fun f hf => by rw [hm, htN_lo hf]
  obtain ⟨⟨f1, f2, f3⟩, h13, -, -, hpd⟩ := h2
  obtain ⟨hmi, hmi2⟩ := h.mi (by omega)
  have amt : ∀ i, i < 101 → minute s (22 + i) = if i = bb then s (22 + i) + 1 else s (22 + i) := fun i hi => by rw [lo _ (by omega), v_amt hi l5 hb hb2]
  have e12 : minute s 12 = nI (nn (s 12) + 1) := by rw [lo _ (by decide), v_12 l5 hb hb2]; exact nadd (y := 1) (b := 1) hmi rfl
  have n12 : ¬ minute s 12 = 0 := fun z => by
    rw [e12] at z
    have := (nI_eq (b := 0) (by omega) (by decide)).mp z
    omega
  refine ⟨⟨?_, ?_, ?_⟩, ?_, fun z => absurd z n12, fun _ => ⟨?_, ?_, ?_, ?_⟩, fun p hp => ?_⟩
  · rw [lo 11 (by decide), lo 10 (by decide), lo 16 (by decide), v_x l5 hb hb2 (by omega), v_10 l5 hb hb2, v_16 l5 hb hb2, f1, Int32.add_comm (s 16), ← Int32.add_assoc, Int32.sub_add_cancel]
  · rw [baN_up amt 101 (Nat.le_refl _), if_pos (by omega), lo 16 (by decide), v_16 l5 hb hb2, hb, f2]
  · rw [bsN_up amt 101 (Nat.le_refl _), if_pos (by omega), lo 12 (by decide), v_12 l5 hb hb2, f3]
  · rw [lo 13 (by decide), v_13 l5 hb hb2]
    split
    · exact h13
    · rename_i c
      exact Int32.le_trans h13 (Int32.le_of_lt (Int32.not_le.mp c))
  · rw [lo _ (by decide), lo 0 (by decide)]
    exact (v_logs l5 hb hb2).1
  · rw [lo _ (by decide), lo 9 (by decide)]
    exact (v_logs l5 hb hb2).2.1
  · rw [lo _ (by decide), lo 7 (by decide), v_7 l5 hb hb2]
    exact (v_logs l5 hb hb2).2.2.1
  · rw [lo _ (by decide), lo 124 (by decide), (v_logs l5 hb hb2).2.2.2, (v_logs l5 hb hb2).2.1, v_9 l5 hb hb2, ← s4_9 l5]
    unfold mBurn
    split
    · assumption
    · exact Int32.le_refl _
  · have e15 : minute s 15 = s 15 := by rw [lo _ (by decide), v_x l5 hb hb2 (by omega)]
    rw [e15] at hp
    exact PotD_T (h.2.2.2.1 p hp) (hpd p hp) (min_T h hn hp)
theorem I2_mins {s : Nat → Int32} {n : Nat} (h : Inv s n 0) (hn : n ≤ 100000) (h2 : I2 s) : ∀ k, k ≤ 300 → I2 (mins k s)
  | 0, _ => h2
  | k + 1, hk => I2_minute (Inv_mins h hn k (by omega)) hn (by omega) (I2_mins h hn h2 k (by omega))
/-- an act that was done keeps all; its answer is no code -/
def AOK (n : Nat) (q : ActT) : Prop := (q.1 = 0 → Inv q.2.1 (n + 1) 0 ∧ 0 ≤ q.2.2 ∧ I2 q.2.1) ∧ (q.1 < 0 → q.1 = -10001 ∨ q.1 = -10002)
theorem iteA {n : Nat} {c : Prop} {dc : Decidable c} {u v : ActT} (hu : c → AOK n u) (hv : ¬ c → AOK n v) : AOK n (if c then u else v) := by
  by_cases h : c
  · rw [if_pos h]; exact hu h
  · rw [if_neg h]; exact hv h
theorem badA_A {n : Nat} {s : Nat → Int32} : AOK n (badA s) := ⟨fun h => absurd h (show ¬ (-10002 : Int32) = 0 by decide), fun _ => Or.inr rfl⟩
theorem noA_A {n : Nat} {s : Nat → Int32} {x : Int32} : AOK n (-10001, s, x) := ⟨fun h => absurd h (show ¬ (-10001 : Int32) = 0 by decide), fun _ => Or.inl rfl⟩
theorem refA_A {n : Nat} {s : Nat → Int32} {k x : Int32} (h : 0 < k) : AOK n (k, s, x) := ⟨fun z => absurd (show (0 : Int32) < 0 by have z' : k = 0 := z; rw [z'] at h; exact h) (by decide), fun z => absurd (Int32.lt_trans (show k < 0 from z) h) Int32.lt_irrefl⟩
/-- any row is a kiln's -/
theorem RKi_ex {s : Nat → Int32} {n : Nat} (h : Inv s n 0) (hn : n ≤ 100000) : ∃ Y : YT, RKi Y 0 s := by
  obtain ⟨m1, m2⟩ := h.mi (by omega)
  refine ⟨fun i => match i with
    | (0, _, 0) => fun f => if f = 0 then s 0 else if f = 1 then s 1 else if f = 2 then s 13 else s 9
    | (0, _, 1) => fun f => if f = 0 then s 2 else if f = 1 then s 3 else if f = 2 then s 4 else if f = 3 then s 6 else if f = 4 then s 5 else s 7
    | (0, _, 2) => fun _ => s 8
    | (0, _, 3) => fun j => s (17 + j)
    | (0, _, 4) => fun f => if f = 0 then s 12 else if f = 1 then s 10 else if f = 2 then s 11 else s 16
    | (0, _, 5) => fun j => s (22 + j)
    | (0, _, 6) => fun f => s (123 + 4 * ((nn (s 12) + 11 - f / 4) % 12) + f % 4)
    | (0, _, _) => fun _ => s 15
    | (_, _, p) => fun f => if f = 0 then s (171 + p) else if f = 1 then s (179 + p) else if f = 2 then s (187 + p) else if f = 3 then s (195 + p) else if f = 4 then s (203 + p) else if f = 5 then s (211 + p) else s (219 + p), ⟨rfl, rfl, rfl, rfl⟩, ⟨rfl, rfl, rfl, rfl, rfl, rfl⟩, ⟨rfl, fun j _ => rfl⟩, ⟨rfl, rfl, rfl, rfl⟩, fun j _ => rfl, fun p w hp hw => ?_, rfl, fun p _ => ⟨rfl, rfl, rfl, rfl, rfl, rfl, rfl⟩⟩
  have h12 : p < nn (s 12) ∧ p < 12 := by unfold m12 at hp; split at hp <;> omega
  show s (123 + 4 * ((nn (s 12) + 11 - ((nn (s 12) - 1 - p) % 12 * 4 + w) / 4) % 12) + ((nn (s 12) - 1 - p) % 12 * 4 + w) % 4) = s (123 + 4 * p + w)
  congr 1
  omega
section ACTS
variable {s : Nat → Int32} {n : Nat}
theorem aim_A (h : Inv s n 0) (hn : n ≤ 90000) (h2 : I2 s) (d : Int32) : AOK n (aimA s d) := by
  obtain ⟨Y, hY⟩ := RKi_ex h (by omega)
  have hC := (aim_C (rf := 3) (d := d) hY h ⟨rfl, rfl⟩).1
  unfold aimA at hC ⊢
  refine iteA (fun c => iteA (fun c2 => refA_A (by decide)) (fun c2 => ?_)) (fun _ => badA_A)
  rw [if_pos c, if_neg c2] at hC
  obtain ⟨-, a2, -, -, a5⟩ := hC rfl
  refine ⟨fun _ => ⟨a5, a2, h2.gen (fun f hf => by show upd _ _ _ f = _; rw [upd_n (by omega), upd_n (by omega)]) ?_ ?_ (fun p hp => ?_)⟩, fun z => absurd z (show ¬ (0 : Int32) < 0 by decide)⟩
  · show upd (upd s 1 d) 13 0 11 = upd (upd s 1 d) 13 0 10 + upd (upd s 1 d) 13 0 16
    simp only [upd_n (show (11 : Nat) ≠ 13 by decide), upd_n (show (11 : Nat) ≠ 1 by decide), upd_n (show (10 : Nat) ≠ 13 by decide), upd_n (show (10 : Nat) ≠ 1 by decide), upd_n (show (16 : Nat) ≠ 13 by decide), upd_n (show (16 : Nat) ≠ 1 by decide)]
    exact h2.fu
  · show 0 ≤ upd (upd s 1 d) 13 0 13
    rw [upd_s]
    exact Int32.le_refl 0
  · have hp' : p < nn (s 15) := hp
    show PotD (upd (upd s 1 d) 13 0) p
    unfold PotD
    rw [upd_n (by omega), upd_n (by omega), upd_n (by omega), upd_n (by omega), upd_n (by omega), upd_n (by omega)]
    exact h2.po p hp'
theorem gain_A (h : Inv s n 0) (hn : n ≤ 90000) (h2 : I2 s) (e u c : Int32) : AOK n (gainA s e u c) := by
  obtain ⟨Y, hY⟩ := RKi_ex h (by omega)
  have hC := (gain_C (rf := 3) (e := e) (u := u) (c := c) hY h ⟨rfl, rfl⟩).1
  unfold gainA at hC ⊢
  refine iteA (fun c1 => iteA (fun c2 => iteA (fun c3 => ?_) (fun _ => badA_A)) (fun _ => badA_A)) (fun _ => badA_A)
  rw [if_pos c1, if_pos c2, if_pos c3] at hC
  obtain ⟨-, a2, -, -, a5⟩ := hC rfl
  exact ⟨fun _ => ⟨a5, a2, h2.eq (fun f hf => by show upd _ _ _ f = _; rw [upd_n (by omega), upd_n (by omega), upd_n (by omega)])⟩, fun z => absurd z (show ¬ (0 : Int32) < 0 by decide)⟩
theorem cap_A (h : Inv s n 0) (hn : n ≤ 90000) (h2 : I2 s) (c : Int32) : AOK n (capA s c) := by
  obtain ⟨Y, hY⟩ := RKi_ex h (by omega)
  have hC := (cap_C (rf := 3) (c := c) hY h ⟨rfl, rfl⟩).1
  unfold capA at hC ⊢
  refine iteA (fun c1 => iteA (fun c2 => refA_A (by decide)) (fun c2 => ?_)) (fun _ => badA_A)
  rw [if_pos c1, if_neg c2] at hC
  obtain ⟨-, a2, -, -, a5⟩ := hC rfl
  exact ⟨fun _ => ⟨a5, a2, h2.eq (fun f hf => by show upd _ _ _ f = _; rw [upd_n (by omega), upd_n (by omega)])⟩, fun z => absurd z (show ¬ (0 : Int32) < 0 by decide)⟩
theorem fuel_A (h : Inv s n 0) (hn : n ≤ 90000) (h2 : I2 s) (x : Int32) : AOK n (fuelA s x) := by
  obtain ⟨Y, hY⟩ := RKi_ex h (by omega)
  have hC := (fuel_C (rf := 3) (f := x) hY h (by omega) ⟨rfl, rfl⟩).1
  unfold fuelA at hC ⊢
  refine iteA (fun c1 => ?_) (fun _ => badA_A)
  rw [if_pos c1] at hC
  obtain ⟨-, a2, -, -, a5⟩ := hC rfl
  refine ⟨fun _ => ⟨a5, a2, h2.gen (fun f hf => by show upd _ _ _ f = _; rw [upd_n (by omega), upd_n (by omega)]) ?_ ?_ (fun p hp => ?_)⟩, fun z => absurd z (show ¬ (0 : Int32) < 0 by decide)⟩
  · show upd (upd s 10 (s 10 + x)) 11 (s 11 + x) 11 = upd (upd s 10 (s 10 + x)) 11 (s 11 + x) 10 + upd (upd s 10 (s 10 + x)) 11 (s 11 + x) 16
    rw [upd_s, upd_n (show (10 : Nat) ≠ 11 by decide), upd_s, upd_n (show (16 : Nat) ≠ 11 by decide), upd_n (show (16 : Nat) ≠ 10 by decide), h2.fu, Int32.add_assoc, Int32.add_comm (s 16), ← Int32.add_assoc]
  · show 0 ≤ upd (upd s 10 (s 10 + x)) 11 (s 11 + x) 13
    rw [upd_n (by decide), upd_n (by decide)]
    exact h2.ov
  · have hp' : p < nn (s 15) := hp
    show PotD (upd (upd s 10 (s 10 + x)) 11 (s 11 + x)) p
    unfold PotD
    rw [upd_n (by omega), upd_n (by omega), upd_n (by omega), upd_n (by omega), upd_n (by omega), upd_n (by omega)]
    exact h2.po p hp'
theorem lag_A (h : Inv s n 0) (hn : n ≤ 90000) (h2 : I2 s) (m : Int32) : AOK n (lagA s m) := by
  obtain ⟨Y, hY⟩ := RKi_ex h (by omega)
  have hC := (lag_C (rf := 3) (m := m) hY h rfl ⟨rfl, rfl⟩).1
  have l5 := h.mb.lg.2
  unfold lagA at hC ⊢
  refine iteA (fun c1 => iteA (fun c2 => refA_A (by decide)) (fun c2 => ?_)) (fun _ => badA_A)
  rw [if_pos c1, if_neg c2] at hC
  obtain ⟨-, a2, -, -, a5⟩ := hC rfl
  obtain ⟨j, hj, rfl⟩ := rng_nI (m := 5) (by decide) (by decide) c1
  exact ⟨fun _ => ⟨a5, a2, h2.eq (fun f hf => lagSet_n l5 (by rw [nn_nI (by omega)]; exact hj) (by omega) (by omega))⟩, fun z => absurd z (show ¬ (0 : Int32) < 0 by decide)⟩
theorem go_A (h : Inv s n 0) (hn : n ≤ 90000) (h2 : I2 s) (m : Int32) : AOK n (goA s m) := by
  unfold goA
  refine iteA (fun c1 => ?_) (fun _ => badA_A)
  obtain ⟨j, hj, rfl⟩ := rng_nI (m := 300) (by decide) (by decide) c1
  have hI := Inv_mins h (by omega) (nn (nI j)) (by rw [nn_nI (by omega)]; omega)
  refine ⟨fun _ => ⟨hI.up (by omega) (by rw [nn_nI (by omega)]; omega), ?_, I2_mins h (by omega) h2 _ (by rw [nn_nI (by omega)]; exact hj)⟩, fun z => absurd z (show ¬ (0 : Int32) < 0 by decide)⟩
  obtain ⟨-, ⟨d, a, mi, e0, d1, d2, -⟩, -⟩ := hI
  show 0 ≤ mins (nn (nI j)) s 0
  rw [e0]
  exact Int32.not_lt.mp (nI_pos (by omega))
theorem pot_A (h : Inv s n 0) (hn : n ≤ 90000) (h2 : I2 s) (x y z : Int32) : AOK n (potA s x y z) := by
  obtain ⟨Y, hY⟩ := RKi_ex h (by omega)
  have hC := (pot_C (rf := 3) (sh := x) (ne := y) (so := z) hY h rfl ⟨rfl, rfl⟩).1
  obtain ⟨n15, np8⟩ := h.mb.np
  unfold potA at hC ⊢
  refine iteA (fun c1 => iteA (fun c2 => iteA (fun c3 => iteA (fun c4 => refA_A (by decide)) (fun c4 => ?_)) (fun _ => badA_A)) (fun _ => badA_A)) (fun _ => badA_A)
  rw [if_pos c1, if_pos c2, if_pos c3, if_neg c4] at hC
  obtain ⟨-, a2, -, -, a5⟩ := hC rfl
  have hlt : nn (s 15) < 8 := by
    rcases Nat.lt_or_ge (nn (s 15)) 8 with q | q
    · exact q
    · exact absurd (by rw [n15, show nn (s 15) = 8 by omega]; rfl) c4
  have hn' : ∀ f, f ≠ 15 → f ≠ 171 + nn (s 15) → f ≠ 179 + nn (s 15) → f ≠ 187 + nn (s 15) → potS s (nn (s 15)) x y z f = s f := fun f g0 g1 g2 g3 => by rw [potS, upd_n g0, upd_n g3, upd_n g2, upd_n g1]
  refine ⟨fun _ => ⟨a5, a2, h2.gen (fun f hf => hn' f (by omega) (by omega) (by omega) (by omega)) ?_ ?_ (fun p hp => ?_)⟩, fun z => absurd z (show ¬ (0 : Int32) < 0 by decide)⟩
  · show potS s (nn (s 15)) x y z 11 = potS s (nn (s 15)) x y z 10 + potS s (nn (s 15)) x y z 16
    rw [hn' _ (by omega) (by omega) (by omega) (by omega), hn' _ (by omega) (by omega) (by omega) (by omega), hn' _ (by omega) (by omega) (by omega) (by omega)]
    exact h2.fu
  · show 0 ≤ potS s (nn (s 15)) x y z 13
    rw [hn' _ (by omega) (by omega) (by omega) (by omega)]
    exact h2.ov
  · have e15 : potS s (nn (s 15)) x y z 15 = nI (nn (s 15) + 1) := by rw [potS, upd_s]; exact nI_add _ 1
    have hp' : p < nn (potS s (nn (s 15)) x y z 15) := hp
    rw [e15, nn_nI (by omega)] at hp'
    show PotD (potS s (nn (s 15)) x y z) p
    unfold PotD
    rw [hn' (195 + p) (by omega) (by omega) (by omega) (by omega), hn' (203 + p) (by omega) (by omega) (by omega) (by omega)]
    by_cases c : p = nn (s 15)
    · obtain ⟨z1, z2, -⟩ := h.2.2.2.2.1 p (by omega) (by omega)
      rw [z1, z2, potS, upd_n (by omega), c, upd_s]
      refine ⟨fun q => absurd q (by decide), fun q => ?_⟩
      rw [← q] at c3
      exact absurd c3.1 (by decide)
    · rw [potS, upd_n (by omega), upd_n (by omega), upd_n (by omega), upd_n (by omega)]
      exact h2.po p (by omega)
theorem put_A (h : Inv s n 0) (hn : n ≤ 90000) (h2 : I2 s) (p : Int32) : AOK n (putA s p) := by
  obtain ⟨Y, hY⟩ := RKi_ex h (by omega)
  have hC := (put_C (rf := 3) (p := p) (d := s 0) hY h rfl rfl ⟨rfl, rfl⟩).1
  obtain ⟨n15, np8⟩ := h.mb.np
  unfold putA at hC ⊢
  refine iteA (fun c1 => iteA (fun c2 => iteA (fun c3 => iteA (fun c4 => refA_A (by decide)) (fun c4 => ?_)) (fun _ => refA_A (by decide))) (fun _ => refA_A (by decide))) (fun _ => noA_A)
  rw [if_pos c1, if_pos c2, if_pos c3, if_neg c4] at hC
  obtain ⟨-, a2, -, -, a5⟩ := hC rfl
  have hn' : ∀ f, f < 195 ∨ 219 ≤ f → nn p < 8 → putS s (nn p) f = s f := fun f g hp8 => by rw [putS, upd_n (by omega), upd_n (by omega)]
  have hp8 : nn p < 8 := by
    obtain ⟨q, hq, rfl⟩ := pot_nI n15 np8 c1
    rw [nn_nI (by omega)]
    omega
  refine ⟨fun _ => ⟨a5, a2, h2.gen (fun f hf => hn' f (by omega) hp8) ?_ ?_ (fun r hr => ?_)⟩, fun z => absurd z (show ¬ (0 : Int32) < 0 by decide)⟩
  · show putS s (nn p) 11 = putS s (nn p) 10 + putS s (nn p) 16
    rw [hn' _ (by omega) hp8, hn' _ (by omega) hp8, hn' _ (by omega) hp8]
    exact h2.fu
  · show 0 ≤ putS s (nn p) 13
    rw [hn' _ (by omega) hp8]
    exact h2.ov
  · have hr' : r < nn (putS s (nn p) 15) := hr
    rw [hn' _ (by omega) hp8] at hr'
    have hd := h2.po r hr'
    show PotD (putS s (nn p)) r
    unfold PotD at hd ⊢
    rw [hn' (187 + r) (by omega) hp8, show putS s (nn p) (203 + r) = s (203 + r) by rw [putS, upd_n (by omega), upd_n (by omega)]]
    by_cases c : r = nn p
    · subst c
      rw [show putS s (nn p) (195 + nn p) = 1 by rw [putS, upd_n (by omega), upd_s]]
      rw [c2] at hd
      exact ⟨fun q => absurd q (by decide), fun q => absurd (hd.mpr q) (by decide)⟩
    · rw [show putS s (nn p) (195 + r) = s (195 + r) by rw [putS, upd_n (by omega), upd_n (by omega)]]
      exact hd
theorem take_A (h : Inv s n 0) (hn : n ≤ 90000) (h2 : I2 s) (p : Int32) : AOK n (takeA s p) := by
  obtain ⟨Y, hY⟩ := RKi_ex h (by omega)
  have hC := (take_C (rf := 3) (p := p) (d := s 0) hY h rfl rfl ⟨rfl, rfl⟩).1
  obtain ⟨n15, np8⟩ := h.mb.np
  unfold takeA at hC ⊢
  refine iteA (fun c1 => iteA (fun c2 => refA_A (by decide)) (fun c2 => iteA (fun c3 => ?_) (fun _ => refA_A (by decide)))) (fun _ => noA_A)
  rw [if_pos c1, if_neg c2, if_pos c3] at hC
  obtain ⟨-, a2, -, -, a5⟩ := hC rfl
  have hn' : ∀ f, f < 195 ∨ 219 ≤ f → nn p < 8 → takeS s (nn p) f = s f := fun f g hp8 => by rw [takeS, upd_n (by omega), upd_n (by omega)]
  have hp8 : nn p < 8 := by
    obtain ⟨q, hq, rfl⟩ := pot_nI n15 np8 c1
    rw [nn_nI (by omega)]
    omega
  refine ⟨fun _ => ⟨a5, a2, h2.gen (fun f hf => hn' f (by omega) hp8) ?_ ?_ (fun r hr => ?_)⟩, fun z => absurd z (show ¬ (0 : Int32) < 0 by decide)⟩
  · show takeS s (nn p) 11 = takeS s (nn p) 10 + takeS s (nn p) 16
    rw [hn' _ (by omega) hp8, hn' _ (by omega) hp8, hn' _ (by omega) hp8]
    exact h2.fu
  · show 0 ≤ takeS s (nn p) 13
    rw [hn' _ (by omega) hp8]
    exact h2.ov
  · have hr' : r < nn (takeS s (nn p) 15) := hr
    rw [hn' _ (by omega) hp8] at hr'
    have hd := h2.po r hr'
    show PotD (takeS s (nn p)) r
    unfold PotD at hd ⊢
    rw [hn' (187 + r) (by omega) hp8, show takeS s (nn p) (203 + r) = s (203 + r) by rw [takeS, upd_n (by omega), upd_n (by omega)]]
    by_cases c : r = nn p
    · subst c
      rw [show takeS s (nn p) (195 + nn p) = (if s (195 + nn p) = 1 then 0 else s (195 + nn p)) by rw [takeS, upd_s]]
      by_cases c1' : s (195 + nn p) = 1
      · rw [if_pos c1']
        rw [c1'] at hd
        exact ⟨fun q => absurd q (by decide), fun q => absurd (hd.mpr q) (by decide)⟩
      · rw [if_neg c1']
        exact hd
    · rw [show takeS s (nn p) (195 + r) = s (195 + r) by rw [takeS, upd_n (by omega), upd_n (by omega)]]
      exact hd
theorem doA_A (h : Inv s n 0) (hn : n ≤ 90000) (h2 : I2 s) (τ : Nat → Int32) (k : Nat) : AOK n (doA s τ k) := by
  unfold doA
  exact iteA (fun _ => aim_A h hn h2 _) (fun _ => iteA (fun _ => cap_A h hn h2 _) (fun _ => iteA (fun _ => fuel_A h hn h2 _) (fun _ => iteA (fun _ => lag_A h hn h2 _) (fun _ => iteA (fun _ => gain_A h hn h2 _ _ _) (fun _ => iteA (fun _ => pot_A h hn h2 _ _ _) (fun _ => iteA (fun _ => take_A h hn h2 _) (fun _ => iteA (fun _ => put_A h hn h2 _) (fun _ => go_A h hn h2 _))))))))
end ACTS
theorem exF_le (s τ : Nat → Int32) (o : Nat) : ∀ f k, k ≤ exF s τ o f k
  | 0, k => Nat.le_refl k
  | f + 1, k => by
    rw [exF]
    split
    · exact Nat.le_trans (Nat.le_succ k) (exF_le s τ o f (k + 1))
    · exact Nat.le_refl k
theorem exF_all {s τ : Nat → Int32} {o : Nat} : ∀ f k, k + f = o → exF s τ o f k = o → ∀ j, k ≤ j → j < o → (doA (exS s τ j) τ j).1 = 0
  | 0, k, hk, _, j, h1, h2 => by omega
  | f + 1, k, hk, he, j, h1, h2 => by
    rw [exF] at he
    by_cases c : (doA (exS s τ k) τ k).1 = 0
    · rw [if_pos c] at he
      rcases Nat.lt_or_ge k j with q | q
      · exact exF_all f (k + 1) (by omega) he j (by omega) h2
      · rw [show j = k by omega]
        exact c
    · rw [if_neg c] at he
      omega
theorem exS_A {s τ : Nat → Int32} {n o : Nat} (h : Inv s n 0) (h2 : I2 s) (hn : n + o ≤ 90000) (hd : ∀ j, j < o → (doA (exS s τ j) τ j).1 = 0) : ∀ k, k ≤ o → Inv (exS s τ k) (n + k) 0 ∧ I2 (exS s τ k)
  | 0, _ => ⟨h, h2⟩
  | k + 1, hk => by
    obtain ⟨g1, g2⟩ := exS_A h h2 hn hd k (by omega)
    obtain ⟨a1, -, a3⟩ := (doA_A g1 (by omega) g2 τ k).1 (hd k (by omega))
    exact ⟨a1, a3⟩
theorem parL_le (t : Nat → Int32) (e : Nat) : ∀ f o (p : PSt), (parL t e f o p).1 ≤ o + f ∧ o ≤ (parL t e f o p).1
  | 0, o, p => ⟨Nat.le_refl _, Nat.le_refl _⟩
  | f + 1, o, p => by
    rw [parL]
    split
    · have := parL_le t e f (o + 1) (oneP t e o (p.1 + 1, p.2.1, p.2.2))
      omega
    · exact ⟨Nat.le_add_right _ _, Nat.le_refl _⟩
