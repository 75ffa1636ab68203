/-! FACTS OF ROWS that the law asks for: ranks, when a pot is fired, which pots crack, the line's letters. -/
def cnt (P : Nat → Bool) : Nat → Nat
  | 0 => 0
  | m + 1 => cnt P m + if P m then 1 else 0
theorem cnt_le (P : Nat → Bool) : ∀ m, cnt P m ≤ m
  | 0 => Nat.le_refl 0
  | m + 1 => by
    have := cnt_le P m
    rw [cnt]
    split <;> omega
theorem cnt_mono {P P' : Nat → Bool} : ∀ m, (∀ q, q < m → P q = true → P' q = true) → cnt P m ≤ cnt P' m
  | 0, _ => Nat.le_refl 0
  | m + 1, h => by
    have ih := cnt_mono m (fun q hq => h q (by omega))
    have hm := h m (by omega)
    rw [cnt, cnt]
    by_cases c : P m = true
    · rw [if_pos c, if_pos (hm c)]
      omega
    · rw [if_neg c]
      split <;> omega
theorem cnt_lt {P P' : Nat → Bool} {x : Nat} (hx : P x = false) (hx' : P' x = true) : ∀ m, x < m → (∀ q, q < m → P q = true → P' q = true) → cnt P m < cnt P' m
  | 0, h, _ => absurd h (Nat.not_lt_zero x)
  | m + 1, hm, h => by
    rw [cnt, cnt]
    by_cases c : x = m
    · subst c
      have := cnt_mono x (fun q hq => h q (by omega))
      rw [hx, hx', if_neg (by decide), if_pos rfl]
      omega
    · have ih := cnt_lt hx hx' m (by omega) (fun q hq => h q (by omega))
      have hm := h m (by omega)
      by_cases c : P m = true
      · rw [if_pos c, if_pos (hm c)]
        omega
      · rw [if_neg c]
        split <;> omega
theorem cnt_t : ∀ m, cnt (fun _ => true) m = m
  | 0 => rfl
  | m + 1 => by rw [cnt, cnt_t m, if_pos rfl]
/-- as many places as things: each place is taken -/
theorem pig : ∀ (n : Nat) (f : Nat → Nat), (∀ i, i < n → f i < n) → (∀ i j, i < n → j < n → f i = f j → i = j) → ∀ k, k < n → ∃ i, i < n ∧ f i = k
  | 0, _, _, _, k, hk => absurd hk (Nat.not_lt_zero k)
  | n + 1, f, h1, h2, k, hk => by
    have hg1 : ∀ i, i < n → (if f i = n then f n else f i) < n := fun i hi => by
      have a1 := h1 i (by omega)
      have a2 := h1 n (by omega)
      split
      · rename_i c
        have : f n ≠ n := fun z => by
          have := h2 i n (by omega) (by omega) (by omega)
          omega
        omega
      · omega
    have hg2 : ∀ i j, i < n → j < n → (if f i = n then f n else f i) = (if f j = n then f n else f j) → i = j := fun i j hi hj hij => by
      by_cases ci : f i = n <;> by_cases cj : f j = n
      · exact h2 i j (by omega) (by omega) (by omega)
      · rw [if_pos ci, if_neg cj] at hij
        have := h2 n j (by omega) (by omega) hij
        omega
      · rw [if_neg ci, if_pos cj] at hij
        have := h2 i n (by omega) (by omega) hij
        omega
      · rw [if_neg ci, if_neg cj] at hij
        exact h2 i j (by omega) (by omega) hij
    have ih := pig n (fun i => if f i = n then f n else f i) hg1 hg2
    by_cases c : k = n
    · subst c
      by_cases c2 : f k = k
      · exact ⟨k, by omega, c2⟩
      · obtain ⟨i, hi, he⟩ := ih (f k) (by have := h1 k (by omega); omega)
        have he' : (if f i = k then f k else f i) = f k := he
        by_cases c3 : f i = k
        · exact ⟨i, by omega, c3⟩
        · rw [if_neg c3] at he'
          have := h2 i k (by omega) (by omega) he'
          omega
    · obtain ⟨i, hi, he⟩ := ih k (by omega)
      have he' : (if f i = n then f n else f i) = k := he
      by_cases c3 : f i = n
      · rw [if_pos c3] at he'
        exact ⟨n, by omega, he'⟩
      · rw [if_neg c3] at he'
        exact ⟨i, by omega, he'⟩
/-- a is ahead of b -/
def Ah (s : Nat → Int32) (a b : Nat) : Prop := (lf s a).toInt < (lf s b).toInt ∨ ((lf s a).toInt = (lf s b).toInt ∧ ((s (179 + b)).toInt < (s (179 + a)).toInt ∨ ((s (179 + a)).toInt = (s (179 + b)).toInt ∧ a < b)))
theorem ah_iff {s : Nat → Int32} {a b : Nat} (ha : a < 8) (hb : b < 8) : ¬ aheadI s a b = 0 ↔ Ah s a b := by
  unfold aheadI Ah
  have e1 : (lf s a = lf s b) ↔ (lf s a).toInt = (lf s b).toInt := ⟨fun h => by rw [h], fun h => Int32.toInt_inj.mp h⟩
  have e2 : (s (179 + a) = s (179 + b)) ↔ (s (179 + a)).toInt = (s (179 + b)).toInt := ⟨fun h => by rw [h], fun h => Int32.toInt_inj.mp h⟩
  have e3 : (s (179 + b) < s (179 + a)) ↔ (s (179 + b)).toInt < (s (179 + a)).toInt := Int32.lt_iff_toInt_lt
  have e4 : (lf s b ≤ lf s a) ↔ (lf s b).toInt ≤ (lf s a).toInt := Int32.le_iff_toInt_le
  have e5 : (nI b ≤ nI a) ↔ b ≤ a := nI_leI (by omega) (by omega)
  by_cases c1 : lf s a = lf s b
  · rw [if_pos c1]
    have c1' := e1.mp c1
    by_cases c2 : s (179 + b) < s (179 + a)
    · rw [if_pos c2]
      exact ⟨fun _ => Or.inr ⟨c1', Or.inl (e3.mp c2)⟩, fun _ => by decide⟩
    · rw [if_neg c2]
      have c2' : ¬ (s (179 + b)).toInt < (s (179 + a)).toInt := fun z => c2 (e3.mpr z)
      by_cases c3 : s (179 + a) = s (179 + b)
      · rw [if_pos c3]
        have c3' := e2.mp c3
        by_cases c4 : nI b ≤ nI a
        · rw [if_pos c4]
          have c4' := e5.mp c4
          exact ⟨fun h => absurd rfl h, fun h => by omega⟩
        · rw [if_neg c4]
          have c4' : ¬ b ≤ a := fun z => c4 (e5.mpr z)
          exact ⟨fun _ => Or.inr ⟨c1', Or.inr ⟨c3', by omega⟩⟩, fun _ => by decide⟩
      · rw [if_neg c3]
        have c3' : ¬ (s (179 + a)).toInt = (s (179 + b)).toInt := fun z => c3 (e2.mpr z)
        exact ⟨fun h => absurd rfl h, fun h => by omega⟩
  · rw [if_neg c1]
    have c1' : ¬ (lf s a).toInt = (lf s b).toInt := fun z => c1 (e1.mpr z)
    by_cases c4 : lf s b ≤ lf s a
    · rw [if_pos c4]
      have c4' := e4.mp c4
      exact ⟨fun h => absurd rfl h, fun h => by omega⟩
    · rw [if_neg c4]
      have c4' : ¬ (lf s b).toInt ≤ (lf s a).toInt := fun z => c4 (e4.mpr z)
      exact ⟨fun _ => Or.inl (by omega), fun _ => by decide⟩
theorem Ah.irr {s : Nat → Int32} {a : Nat} : ¬ Ah s a a := by unfold Ah; omega
theorem Ah.tr {s : Nat → Int32} {a b c : Nat} (h : Ah s a b) (k : Ah s b c) : Ah s a c := by unfold Ah at *; omega
theorem Ah.tot {s : Nat → Int32} {a b : Nat} (h : a ≠ b) : Ah s a b ∨ Ah s b a := by unfold Ah; omega
def ahB (s : Nat → Int32) (p q : Nat) : Bool := !decide (aheadI s q p = 0)
theorem ahB_iff {s : Nat → Int32} {p q : Nat} (hp : p < 8) (hq : q < 8) : ahB s p q = true ↔ Ah s q p := by
  rw [← ah_iff hq hp]
  unfold ahB
  simp
def rk (s : Nat → Int32) (np p : Nat) : Nat := cnt (ahB s p) np
theorem rk_C {s : Nat → Int32} {p : Nat} (hp : p < 8) : ∀ m, m ≤ 8 → aheadC s p m = nI (cnt (ahB s p) m)
  | 0, _ => rfl
  | m + 1, hm => by
    rw [aheadC, cnt, rk_C hp m (by omega)]
    by_cases c : m = p
    · subst c
      rw [if_pos rfl, show ahB s m m = false from Bool.eq_false_iff.mpr (fun z => Ah.irr ((ahB_iff hp hp).mp z)), if_neg (by decide), Int32.add_zero, Nat.add_zero]
    · rw [if_neg (fun z => c ((nI_eq (by omega) (by omega)).mp z))]
      by_cases c2 : aheadI s m p = 0
      · rw [if_pos c2, show ahB s p m = false by unfold ahB; simp [c2], if_neg (by decide), Int32.add_zero, Nat.add_zero]
      · rw [if_neg c2, show ahB s p m = true by unfold ahB; simp [c2], if_pos rfl]
        exact nI_add _ 1
theorem rk_lt {s : Nat → Int32} {np p : Nat} (hp : p < np) (h8 : np ≤ 8) : rk s np p < np := by
  have h := cnt_lt (P := ahB s p) (P' := fun _ => true) (x := p) (Bool.eq_false_iff.mpr (fun z => Ah.irr ((ahB_iff (by omega) (by omega)).mp z))) rfl np hp (fun _ _ _ => rfl)
  rw [cnt_t] at h
  exact h
theorem rk_up {s : Nat → Int32} {np p q : Nat} (hp : p < np) (hq : q < np) (h8 : np ≤ 8) (h : Ah s p q) : rk s np p < rk s np q :=
  cnt_lt (x := p) (Bool.eq_false_iff.mpr (fun z => Ah.irr ((ahB_iff (by omega) (by omega)).mp z))) ((ahB_iff (by omega) (by omega)).mpr h) np hp (fun r hr hb => (ahB_iff (by omega) (by omega)).mpr (((ahB_iff (by omega) (by omega)).mp hb).tr h))
theorem rk_inj {s : Nat → Int32} {np p q : Nat} (hp : p < np) (hq : q < np) (h8 : np ≤ 8) (h : rk s np p = rk s np q) : p = q := by
  by_cases c : p = q
  · exact c
  · rcases Ah.tot (s := s) c with z | z
    · have := rk_up hp hq h8 z
      omega
    · have := rk_up hq hp h8 z
      omega
theorem rankL_at {s : Nat → Int32} {np p : Nat} (hp : p < np) (h8 : np ≤ 8) : ∀ i, i ≤ p → rankL s np (nI (rk s np p)) np = rankL s np (nI (rk s np p)) (np - i)
  | 0, _ => rfl
  | i + 1, hi => by
    rw [rankL_at hp h8 i (by omega)]
    refine rankL_step (by omega) (fun z => ?_)
    rw [rk_C (by omega) np h8] at z
    have hz : rk s np i = rk s np p := (nI_eq (by have := rk_lt (s := s) (p := i) (by omega) h8; omega) (by have := rk_lt (s := s) hp h8; omega)).mp z
    have := rk_inj (by omega) hp h8 hz
    omega
theorem rankL_no {s : Nat → Int32} {np : Nat} (h8 : np ≤ 8) : ∀ i, i ≤ np → rankL s np (nI np) np = rankL s np (nI np) (np - i)
  | 0, _ => rfl
  | i + 1, hi => by
    rw [rankL_no h8 i (by omega)]
    refine rankL_step (by omega) (fun z => ?_)
    rw [rk_C (by omega) np h8] at z
    have hl := rk_lt (s := s) (p := i) (by omega) h8
    unfold rk at hl
    have := (nI_eq (by omega) (by omega)).mp z
    omega
theorem rank_facts {s : Nat → Int32} {np : Nat} (h8 : np ≤ 8) : ∃ R : Nat → Nat, (∀ p, p < np → R p < np ∧ rankL s np (nI p) np = nI (R p)) ∧ (∀ p, p + 1 < np → lf s (R p) ≤ lf s (R (p + 1))) ∧ rankL s np (nI np) np = -10001 := by
  have hx : ∀ p, ∃ q, p < np → q < np ∧ rk s np q = p := fun p => by
    by_cases hp : p < np
    · obtain ⟨q, h1, h2⟩ := pig np (rk s np) (fun i hi => rk_lt hi h8) (fun i j hi hj => rk_inj hi hj h8) p hp
      exact ⟨q, fun _ => ⟨h1, h2⟩⟩
    · exact ⟨0, fun z => absurd z hp⟩
  refine ⟨fun p => (hx p).choose, fun p hp => ?_, fun p hp => ?_, ?_⟩
  · obtain ⟨h1, h2⟩ := (hx p).choose_spec hp
    refine ⟨h1, ?_⟩
    have h3 := rankL_at (s := s) h1 h8 ((hx p).choose) (Nat.le_refl _)
    rw [h2] at h3
    rw [h3]
    exact rankL_hit h1 (by rw [rk_C (by omega) np h8]; exact congrArg nI h2)
  · obtain ⟨a1, a2⟩ := (hx p).choose_spec (by omega)
    obtain ⟨b1, b2⟩ := (hx (p + 1)).choose_spec hp
    have hne : (hx p).choose ≠ (hx (p + 1)).choose := fun z => by rw [z, b2] at a2; omega
    rcases Ah.tot (s := s) hne with z | z
    · rw [Int32.le_iff_toInt_le]
      unfold Ah at z
      show (lf s (hx p).choose).toInt ≤ (lf s (hx (p + 1)).choose).toInt
      omega
    · have := rk_up b1 a1 h8 z
      omega
  · rw [rankL_no h8 np (Nat.le_refl _), Nat.sub_self]
    rfl
/-- minutes and a pot -/
theorem stay {s : Nat → Int32} {n : Nat} (h : Inv s n 0) (hn : n ≤ 90000) {p : Nat} (hp : p < nn (s 15)) {v : Int32} {u : Nat} (hu : mins u s (195 + p) = v) (hv : ¬ v = 1) : ∀ k, u + k ≤ 1000 → mins (u + k) s (195 + p) = v
  | 0, _ => hu
  | k + 1, hk => by
    have ih := stay h hn hp hu hv k (by omega)
    have hI := Inv_mins h (by omega) (u + k) (by omega)
    have hp' : p < nn (mins (u + k) s 15) := by rw [mins_15 (h.mb.ok (by omega))]; exact hp
    show minute (mins (u + k) s) (195 + p) = v
    rw [((min_T hI (by omega) hp').2.1 (by rw [ih]; exact hv)).1]
    exact ih
theorem runU_spec {s : Nat → Int32} {q : Nat} : ∀ m n, n ≤ runU s q m n ∧ runU s q m n ≤ n + m ∧ ∀ j, n ≤ j → j < runU s q m n → mins j s (195 + q) = 1
  | 0, n => ⟨Nat.le_refl n, Nat.le_refl n, fun j h1 h2 => absurd h2 (Nat.not_lt.mpr h1)⟩
  | m + 1, n => by
    rw [runU]
    by_cases c : mins n s (195 + q) = 1
    · rw [if_pos c]
      obtain ⟨h1, h2, h3⟩ := runU_spec (s := s) (q := q) m (n + 1)
      refine ⟨by omega, by omega, fun j g1 g2 => ?_⟩
      by_cases e : j = n
      · rw [e]; exact c
      · exact h3 j (by omega) g2
    · rw [if_neg c]
      exact ⟨Nat.le_refl n, by omega, fun j h1 h2 => absurd h2 (Nat.not_lt.mpr h1)⟩
theorem mins_187 {s : Nat → Int32} {n : Nat} (h : Inv s n 0) (hn : n ≤ 90000) {p : Nat} (hp : p < nn (s 15)) : ∀ u, u ≤ 1000 → mins u s (187 + p) = s (187 + p)
  | 0, _ => rfl
  | u + 1, hu => by
    have hI := Inv_mins h (by omega) u (by omega)
    have hp' : p < nn (mins u s 15) := by rw [mins_15 (h.mb.ok (by omega))]; exact hp
    show minute (mins u s) (187 + p) = _
    rw [(min_T hI (by omega) hp').1]
    exact mins_187 h hn hp u (by omega)
theorem soak_le {s : Nat → Int32} {n : Nat} (h : Inv s n 0) (hn : n ≤ 90000) {p so : Nat} (hp : p < nn (s 15)) (h0 : s (203 + p) = nI so) (hso : so ≤ 100) : ∀ u, u ≤ 1000 → ∃ w, w ≤ so + u ∧ mins u s (203 + p) = nI w
  | 0, _ => ⟨so, Nat.le_refl _, h0⟩
  | u + 1, hu => by
    obtain ⟨w, hw, hw2⟩ := soak_le h hn hp h0 hso u (by omega)
    have hI := Inv_mins h (by omega) u (by omega)
    have hp' : p < nn (mins u s 15) := by rw [mins_15 (h.mb.ok (by omega))]; exact hp
    obtain ⟨-, g2, g3⟩ := min_T hI (by omega) hp'
    show ∃ w, w ≤ so + (u + 1) ∧ minute (mins u s) (203 + p) = nI w
    by_cases c : mins u s (195 + p) = 1
    · rcases g3 c with ⟨-, z⟩ | ⟨z | z, -⟩
      · exact ⟨w, by omega, by rw [z, hw2]⟩
      · exact ⟨w, by omega, by rw [z, hw2]⟩
      · exact ⟨w + 1, by omega, by rw [z, hw2]; exact nI_add w 1⟩
    · exact ⟨w, by omega, by rw [(g2 c).2, hw2]⟩
theorem fired_2 {s : Nat → Int32} {p : Nat} (h : s (195 + p) = 2) : firedF s p = 0 := by
  have e : runU s p 300 0 = 0 := by
    show runU s p (299 + 1) 0 = 0
    rw [runU, if_neg (show ¬ mins 0 s (195 + p) = 1 by show ¬ s (195 + p) = 1; rw [h]; decide)]
  unfold firedF
  rw [e, if_pos (show mins 0 s (195 + p) = 2 from h)]
  rfl
theorem fired_x {s : Nat → Int32} {p : Nat} (h : ¬ s (195 + p) = 1) (h2 : ¬ s (195 + p) = 2) : firedF s p = -10005 := by
  have e : runU s p 300 0 = 0 := by
    show runU s p (299 + 1) 0 = 0
    rw [runU, if_neg (show ¬ mins 0 s (195 + p) = 1 from h)]
  unfold firedF
  rw [e, if_neg (show ¬ mins 0 s (195 + p) = 2 from h2)]
theorem fired_f {s : Nat → Int32} {n p : Nat} (h : Inv s n 0) (hn : n ≤ 90000) (h2 : I2 s) (hp : p < nn (s 15)) : firedF s p = -10005 ∨ ∃ u, u ≤ 300 ∧ firedF s p = nI u ∧ lf s p ≤ nI u ∧ mins u s (195 + p) = 2 := by
  obtain ⟨r1, r2, r3⟩ := runU_spec (s := s) (q := p) 300 0
  unfold firedF
  by_cases c : mins (runU s p 300 0) s (195 + p) = 2
  · rw [if_pos c]
    refine Or.inr ⟨_, by omega, rfl, ?_, c⟩
    obtain ⟨sh, ne, ti, ho, so, i, -, -, -, -, e2, t2, e3, o3, e4, s4, s5, -⟩ := h.2.2.2.1 p hp
    obtain ⟨w, w1, w2⟩ := soak_le h hn hp e4 (by omega) (runU s p 300 0) (by omega)
    have hd := (I2_mins h (by omega) h2 (runU s p 300 0) (by omega)).po p (by rw [mins_15 (h.mb.ok (by omega))]; exact hp)
    unfold PotD at hd
    have he := hd.mp c
    rw [w2, mins_187 h hn hp _ (by omega), e2] at he
    have hw : w = ti := (nI_eq (by omega) (by omega)).mp he
    unfold lf
    rw [e2, e4, show nI ti - nI so = nI (ti - so) from pk_sub s4]
    exact nI_le (by omega) (by omega)
  · rw [if_neg c]
    exact Or.inl rfl
/-- which pots crack -/
def cb (s s' : Nat → Int32) (m : Nat) : Bool := decide (s' (195 + m) = 3) && !decide (s (195 + m) = 3)
def ckN (s s' : Nat → Int32) : Nat → Nat
  | 0 => 0
  | m + 1 => ckN s s' m + if cb s s' m then 2 ^ m else 0
theorem ckN_lt (s s' : Nat → Int32) : ∀ m, ckN s s' m < 2 ^ m
  | 0 => Nat.one_pos
  | m + 1 => by
    have := ckN_lt s s' m
    rw [ckN, Nat.pow_succ]
    split <;> omega
theorem or_bit : ∀ m, m < 8 → ∀ w, w < 2 ^ m → nI w ||| ((1 : Int32) <<< (nI m &&& 31)) = nI (w + 2 ^ m) := by decide +kernel
theorem crack_N (s s' : Nat → Int32) : ∀ m, m ≤ 8 → crackN s s' m = nI (ckN s s' m)
  | 0, _ => rfl
  | m + 1, hm => by
    rw [crackN, ckN, crack_N s s' m (by omega)]
    by_cases c : s' (195 + m) = 3
    · by_cases c2 : s (195 + m) = 3
      · rw [if_pos c, if_pos c2, show cb s s' m = false by simp [cb, c, c2], if_neg (by decide), Nat.add_zero]
        exact Int32.or_zero
      · rw [if_pos c, if_neg c2, show cb s s' m = true by simp [cb, c, c2], if_pos rfl]
        exact or_bit m (by omega) _ (ckN_lt s s' m)
    · rw [if_neg c, show cb s s' m = false by simp [cb, c], if_neg (by decide), Nat.add_zero]
      exact Int32.or_zero
theorem bit_lo : ∀ m, m < 8 → ∀ p, p < m → ∀ w, w < 2 ^ m → (w + 2 ^ m) / 2 ^ p % 2 = w / 2 ^ p % 2 := by decide +kernel
theorem bit_hi : ∀ m, m < 8 → ∀ w, w < 2 ^ m → (w + 2 ^ m) / 2 ^ m % 2 = 1 ∧ w / 2 ^ m % 2 = 0 := by decide +kernel
theorem ckN_bit {s s' : Nat → Int32} {p : Nat} : ∀ m, m ≤ 8 → p < m → ckN s s' m / 2 ^ p % 2 = if cb s s' p then 1 else 0
  | 0, _, h => absurd h (Nat.not_lt_zero p)
  | m + 1, hm, h => by
    have hl := ckN_lt s s' m
    rw [ckN]
    by_cases c : p = m
    · subst c
      obtain ⟨b1, b2⟩ := bit_hi p (by omega) _ hl
      by_cases c2 : cb s s' p = true
      · rw [if_pos c2, if_pos c2]; exact b1
      · rw [if_neg c2, if_neg c2, Nat.add_zero]; exact b2
    · have ih := ckN_bit (s := s) (s' := s') (p := p) m (by omega) (by omega)
      by_cases c2 : cb s s' m = true
      · rw [if_pos c2, bit_lo m (by omega) p (by omega) _ hl]; exact ih
      · rw [if_neg c2, Nat.add_zero]; exact ih
theorem shr_bit : ∀ p, p < 8 → ∀ w, w < 256 → (nI w >>> (nI p &&& 31)) &&& 1 = nI (w / 2 ^ p % 2) := by decide +kernel
def pop8 (w : Nat) : Nat := w % 2 + w / 2 % 2 + w / 4 % 2 + w / 8 % 2 + w / 16 % 2 + w / 32 % 2 + w / 64 % 2 + w / 128 % 2
theorem pop_add : ∀ m, m < 8 → ∀ w, w < 2 ^ m → pop8 (w + 2 ^ m) = pop8 w + 1 := by decide +kernel
theorem pop_le : ∀ w, w < 256 → pop8 w ≤ 8 := by decide +kernel
theorem many_ck {s s' : Nat → Int32} : ∀ m, m ≤ 8 → (∀ p, p < m → s (195 + p) = 3 → s' (195 + p) = 3) → manyN s' 3 m = manyN s 3 m + nI (pop8 (ckN s s' m))
  | 0, _, _ => by show (0 : Int32) = 0 + nI (pop8 0); decide
  | m + 1, hm, h => by
    rw [manyN, manyN, ckN, many_ck m (by omega) (fun p hp => h p (by omega))]
    by_cases c : s' (195 + m) = 3
    · by_cases c2 : s (195 + m) = 3
      · rw [if_pos c, if_pos c2, show cb s s' m = false by simp [cb, c, c2], if_neg (by decide), Nat.add_zero, Int32.add_assoc, Int32.add_assoc, Int32.add_comm (nI _) 1]
      · rw [if_pos c, if_neg c2, show cb s s' m = true by simp [cb, c, c2], if_pos rfl, pop_add m (by omega) _ (ckN_lt s s' m), Int32.add_zero, Int32.add_assoc]
        congr 1
        exact nI_add _ 1
    · rw [if_neg c, if_neg (fun z => c (h m (by omega) z)), show cb s s' m = false by simp [cb, c], if_neg (by decide), Nat.add_zero, Int32.add_zero, Int32.add_zero]
/-- a line of a kiln whose lag is not 0 has a sign of it -/
theorem tell_126 {s : Nat → Int32} {q : LSt} (i : Nat) : (tellL s i q).1 < (tellL s (i + 1) q).1 ∧ (tellL s (i + 1) q).2 (tellL s i q).1 = 126 := by
  refine ⟨?_, ?_⟩
  · show (tellL s i q).1 < (tellL s i q).1 + 1 + sb_dg (nn (s (17 + i)))
    omega
  · show lnI (upd (tellL s i q).2 (tellL s i q).1 126) ((tellL s i q).1 + 1) (nn (s (17 + i))) (sb_dg (nn (s (17 + i)))) (tellL s i q).1 = 126
    unfold lnI
    rw [if_neg (by omega), upd_s]
theorem cnt_pos {P : Nat → Bool} {x : Nat} (hx : P x = true) : ∀ m, x < m → 0 < cnt P m
  | 0, h => absurd h (Nat.not_lt_zero x)
  | m + 1, h => by
    rw [cnt]
    by_cases c : x = m
    · subst c
      rw [if_pos hx]
      omega
    · have := cnt_pos hx m (by omega)
      omega
theorem clamp_01 (v : Int32) : 0 ≤ clampI v 0 100 ∧ clampI v 0 100 ≤ 100 := by
  obtain ⟨r, h1, h2⟩ := clamp_100 v
  rw [h2]
  exact ⟨Int32.not_lt.mp (nI_pos (by omega)), nI_le (b := 100) h1 (by omega)⟩
theorem clampI_mm (d x : Int32) (h : d - 20 ≤ d + 20) : (if d - 20 < (if x < d + 20 then x else d + 20) then (if x < d + 20 then x else d + 20) else d - 20) = clampI x (d - 20) (d + 20) := by
  rw [Int32.le_iff_toInt_le] at h
  unfold clampI
  by_cases c1 : x < d + 20
  · rw [if_pos c1]
    by_cases c2 : d - 20 < x
    · rw [if_pos c2, if_neg (fun z => Int32.lt_irrefl (Int32.lt_trans c2 z)), if_neg (fun z => Int32.lt_irrefl (Int32.lt_trans c1 z))]
    · rw [if_neg c2]
      by_cases c3 : x < d - 20
      · rw [if_pos c3]
      · rw [if_neg c3, if_neg (fun z => Int32.lt_irrefl (Int32.lt_trans c1 z))]
        rw [Int32.lt_iff_toInt_lt] at c2 c3
        exact Int32.toInt_inj.mp (by omega)
  · rw [if_neg c1]
    have c1' : (d + 20).toInt ≤ x.toInt := by rw [Int32.lt_iff_toInt_lt] at c1; omega
    have c3 : ¬ x < d - 20 := fun z => by rw [Int32.lt_iff_toInt_lt] at z; omega
    rw [if_neg c3]
    by_cases c4 : d + 20 < x
    · rw [if_pos c4]
      by_cases c5 : d - 20 < d + 20
      · rw [if_pos c5]
      · rw [if_neg c5]
        rw [Int32.lt_iff_toInt_lt] at c5
        exact Int32.toInt_inj.mp (by omega)
    · rw [if_neg c4]
      have : x = d + 20 := by rw [Int32.lt_iff_toInt_lt] at c4; exact Int32.toInt_inj.mp (by omega)
      rw [this]
      by_cases c5 : d - 20 < d + 20
      · rw [if_pos c5]
      · rw [if_neg c5]
        rw [Int32.lt_iff_toInt_lt] at c5
        exact Int32.toInt_inj.mp (by omega)
/-- settling -/
theorem near_le (s : Nat → Int32) : ∀ n, n ≤ 1000 → ∃ w, w ≤ n ∧ near s n = nI w
  | 0, _ => ⟨0, Nat.le_refl 0, rfl⟩
  | n + 1, hn => by
    obtain ⟨w, h1, h2⟩ := near_le s n (by omega)
    rw [near]
    split
    · exact ⟨0, Nat.zero_le _, rfl⟩
    · exact ⟨w + 1, by omega, by rw [h2]; exact nI_add w 1⟩
theorem setU_le (s : Nat → Int32) : ∀ m n, setU s m n ≤ n + m
  | 0, n => Nat.le_refl n
  | m + 1, n => by
    rw [setU]
    split
    · omega
    · have := setU_le s m (n + 1)
      omega
theorem settle_f (s : Nat → Int32) : settleF s = -10005 ∨ ∃ u, 10 ≤ u ∧ u ≤ 300 ∧ settleF s = nI u := by
  unfold settleF
  by_cases c : near s (setU s 300 0) = 10
  · rw [if_pos c]
    have h3 := setU_le s 300 0
    obtain ⟨w, h1, h2⟩ := near_le s (setU s 300 0) (by omega)
    have : w = 10 := (nI_eq (b := 10) (by omega) (by decide)).mp (h2.symm.trans c)
    exact Or.inr ⟨_, by omega, by omega, rfl⟩
  · rw [if_neg c]
    exact Or.inl rfl
theorem bal_1 {s : Nat → Int32} {n : Nat} (h : Inv s n 0) (h2 : I2 s) : balF s (nn (s 15)) = 1 := by
  have hb : ∀ m, m ≤ nn (s 15) → balN s m = 1 := by
    intro m
    induction m with
    | zero => intro _; rw [balN, balW, if_pos h2.1.1, if_pos h2.1.2.1, if_pos h2.1.2.2]
    | succ m ih =>
      intro hm
      obtain ⟨sh, ne, ti, ho, so, i, -, -, -, -, e2, t2, e3, o3, e4, s4, -⟩ := h.2.2.2.1 m (by omega)
      rw [balN, ih (by omega), if_neg (by decide), if_neg]
      unfold lf
      rw [e2, e4, show nI ti - nI so = nI (ti - so) from pk_sub s4]
      exact nI_pos (by omega)
  unfold balF
  rw [hb _ (Nat.le_refl _), if_neg (by decide)]
