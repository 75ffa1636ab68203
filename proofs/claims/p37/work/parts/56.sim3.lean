/-! RUN AND ACCOUNT SIDE BY SIDE. -/
theorem acc_eq {Y : YT} {n c st tl ll : Nat} (h : Sim Y n c st tl ll) (w : Int32) : (if w = 16 then nI tl else if w = 17 then Y (2, 0, 1) 0 else accK Y 0 (nn (Y (4, 0, 0) 15)) w) = accF Y (nn (Y (4, 0, 0) 15)) w := by
  obtain ⟨⟨r00, r01, r02, r03⟩, ⟨r10, r11, r12, r13, r14, r15⟩, -, ⟨r40, r41, r42, r43⟩, -, -, r7, hpot⟩ := h.R
  have hpi : ∀ p, p < nn (Y (4, 0, 0) 15) → PotI (Y (4, 0, 0)) p := h.I.2.2.2.1
  have mn : ∀ x, mnK Y 0 x (nn (Y (4, 0, 0) 15)) = manyN (Y (4, 0, 0)) x (nn (Y (4, 0, 0) 15)) := fun x => mn_eq _ hpot
  have wi : wiK Y 0 (nn (Y (4, 0, 0) 15)) = wiN (Y (4, 0, 0)) (nn (Y (4, 0, 0) 15)) := wi_eq _ (fun p hp => ⟨hpot p hp, hpi p hp⟩)
  unfold accF accK
  by_cases h16 : w = 16
  · subst h16
    rw [if_pos rfl, if_neg (by decide)]
    repeat rw [if_neg (by decide)]
    rw [if_pos rfl]
    exact h.tx.2.1.symm
  rw [if_neg h16]
  by_cases h17 : w = 17
  · subst h17
    rw [if_pos rfl, if_neg (by decide)]
    repeat rw [if_neg (by decide)]
    rw [if_pos rfl, h.m5]
    exact h.k0
  rw [if_neg h17]
  by_cases h0 : w = 0
  · subst h0
    rw [if_neg (show ¬ ((11 : Int32) ≤ 0 ∧ (0 : Int32) ≤ 14) by decide)]
    show (_) = _
    rw [if_pos rfl, if_pos rfl]
    exact r40
  by_cases h1 : w = 1
  · subst h1
    rw [if_neg (show ¬ ((11 : Int32) ≤ 1 ∧ (1 : Int32) ≤ 14) by decide)]
    show (_) = _
    repeat rw [if_neg (by decide)]
    rw [if_pos rfl, if_pos rfl]
    exact r00
  by_cases h2 : w = 2
  · subst h2
    rw [if_neg (show ¬ ((11 : Int32) ≤ 2 ∧ (2 : Int32) ≤ 14) by decide)]
    show (_) = _
    repeat rw [if_neg (by decide)]
    rw [if_pos rfl, if_pos rfl]
    exact r01
  by_cases h3 : w = 3
  · subst h3
    rw [if_neg (show ¬ ((11 : Int32) ≤ 3 ∧ (3 : Int32) ≤ 14) by decide)]
    show (_) = _
    repeat rw [if_neg (by decide)]
    rw [if_pos rfl, if_pos rfl]
    rw [r01, r00]; rfl
  by_cases h4 : w = 4
  · subst h4
    rw [if_neg (show ¬ ((11 : Int32) ≤ 4 ∧ (4 : Int32) ≤ 14) by decide)]
    show (_) = _
    repeat rw [if_neg (by decide)]
    rw [if_pos rfl, if_pos rfl]
    exact r14
  by_cases h5 : w = 5
  · subst h5
    rw [if_neg (show ¬ ((11 : Int32) ≤ 5 ∧ (5 : Int32) ≤ 14) by decide)]
    show (_) = _
    repeat rw [if_neg (by decide)]
    rw [if_pos rfl, if_pos rfl]
    exact r15
  by_cases h6 : w = 6
  · subst h6
    rw [if_neg (show ¬ ((11 : Int32) ≤ 6 ∧ (6 : Int32) ≤ 14) by decide)]
    show (_) = _
    repeat rw [if_neg (by decide)]
    rw [if_pos rfl, if_pos rfl]
    exact r03
  by_cases h7 : w = 7
  · subst h7
    rw [if_neg (show ¬ ((11 : Int32) ≤ 7 ∧ (7 : Int32) ≤ 14) by decide)]
    show (_) = _
    repeat rw [if_neg (by decide)]
    rw [if_pos rfl, if_pos rfl]
    exact r41
  by_cases h8 : w = 8
  · subst h8
    rw [if_neg (show ¬ ((11 : Int32) ≤ 8 ∧ (8 : Int32) ≤ 14) by decide)]
    show (_) = _
    repeat rw [if_neg (by decide)]
    rw [if_pos rfl, if_pos rfl]
    exact r42
  by_cases h9 : w = 9
  · subst h9
    rw [if_neg (show ¬ ((11 : Int32) ≤ 9 ∧ (9 : Int32) ≤ 14) by decide)]
    show (_) = _
    repeat rw [if_neg (by decide)]
    rw [if_pos rfl, if_pos rfl]
    exact r02
  by_cases h10 : w = 10
  · subst h10
    rw [if_neg (show ¬ ((11 : Int32) ≤ 10 ∧ (10 : Int32) ≤ 14) by decide)]
    show (_) = _
    repeat rw [if_neg (by decide)]
    rw [if_pos rfl, if_pos rfl]
    exact r7
  by_cases h11 : w = 11
  · subst h11
    rw [if_pos (show (11 : Int32) ≤ 11 ∧ (11 : Int32) ≤ 14 by decide)]
    rw [if_neg (by decide), if_neg (by decide), if_neg (by decide), if_neg (by decide), if_neg (by decide), if_neg (by decide), if_neg (by decide), if_neg (by decide), if_neg (by decide), if_neg (by decide), if_neg (by decide), if_pos rfl, mn]
    rfl
  by_cases h12 : w = 12
  · subst h12
    rw [if_pos (show (11 : Int32) ≤ 12 ∧ (12 : Int32) ≤ 14 by decide)]
    rw [if_neg (by decide), if_neg (by decide), if_neg (by decide), if_neg (by decide), if_neg (by decide), if_neg (by decide), if_neg (by decide), if_neg (by decide), if_neg (by decide), if_neg (by decide), if_neg (by decide), if_neg (by decide), if_pos rfl, mn]
    rfl
  by_cases h13 : w = 13
  · subst h13
    rw [if_pos (show (11 : Int32) ≤ 13 ∧ (13 : Int32) ≤ 14 by decide)]
    rw [if_neg (by decide), if_neg (by decide), if_neg (by decide), if_neg (by decide), if_neg (by decide), if_neg (by decide), if_neg (by decide), if_neg (by decide), if_neg (by decide), if_neg (by decide), if_neg (by decide), if_neg (by decide), if_neg (by decide), if_pos rfl, mn]
    rfl
  by_cases h14 : w = 14
  · subst h14
    rw [if_pos (show (11 : Int32) ≤ 14 ∧ (14 : Int32) ≤ 14 by decide)]
    rw [if_neg (by decide), if_neg (by decide), if_neg (by decide), if_neg (by decide), if_neg (by decide), if_neg (by decide), if_neg (by decide), if_neg (by decide), if_neg (by decide), if_neg (by decide), if_neg (by decide), if_neg (by decide), if_neg (by decide), if_neg (by decide), if_pos rfl, mn]
    rfl
  by_cases h15 : w = 15
  · subst h15
    rw [if_neg (show ¬ ((11 : Int32) ≤ 15 ∧ (15 : Int32) ≤ 14) by decide)]
    show (_) = _
    repeat rw [if_neg (by decide)]
    rw [if_pos rfl, if_pos rfl]
    exact wi
  have hno : ¬ (11 ≤ w ∧ w ≤ 14) := fun z => by
    obtain ⟨z1, z2⟩ := z
    rw [Int32.le_iff_toInt_le] at z1 z2
    have i11 : w.toInt ≠ 11 := fun e => h11 (Int32.toInt_inj.mp e)
    have i12 : w.toInt ≠ 12 := fun e => h12 (Int32.toInt_inj.mp e)
    have i13 : w.toInt ≠ 13 := fun e => h13 (Int32.toInt_inj.mp e)
    have i14 : w.toInt ≠ 14 := fun e => h14 (Int32.toInt_inj.mp e)
    have k11 : (11 : Int32).toInt = 11 := rfl
    have k14 : (14 : Int32).toInt = 14 := rfl
    omega
  rw [if_neg hno, if_neg h0, if_neg h1, if_neg h2, if_neg h3, if_neg h4, if_neg h5, if_neg h6, if_neg h7, if_neg h8, if_neg h9, if_neg h10, if_neg h11, if_neg h12, if_neg h13, if_neg h14, if_neg h15, if_neg h0, if_neg h1, if_neg h2, if_neg h3, if_neg h4, if_neg h5, if_neg h6, if_neg h7, if_neg h8, if_neg h9, if_neg h10, if_neg h15, if_neg h16, if_neg h17]
theorem RunC.m {Y Y' : YT} {T τ0 : Nat → Int32} {e c st n : Nat} {s : Nat → Int32} {r : Int32} (h : RunC Y Y' T τ0 e c st n s r) (d : Nat) : Y' (4, 0, d) = Y (4, 0, d) := by
  have g1 : ¬ ((4, 0, d) : Id3).1 ≤ 1 := show ¬ (4 : Nat) ≤ 1 by decide
  have g3 : ((4, 0, d) : Id3).1 ≠ 3 := show (4 : Nat) ≠ 3 by decide
  have g5 : ((4, 0, d) : Id3) ≠ (5, 0, 0) := fun z => by injection z with z1; exact absurd z1 (by decide)
  have g2 : ∀ j, ((4, 0, d) : Id3) ≠ (2, 0, j) := fun j z => by injection z with z1; exact absurd z1 (by decide)
  by_cases hg : goodT T τ0 e
  · by_cases hk : exF s (runT T τ0 e).2.2.2 (runT T τ0 e).1 (runT T τ0 e).1 0 = (runT T τ0 e).1
    · exact ((h.2.2 hg).1 hk).2.2.2.2.2.2 _ g3 g5 (g2 4) (g2 1) (fun z => g1 z.1)
    · exact ((h.2.2 hg).2 hk).2.2.2.2 _ g3 g5 (g2 4) (g2 3) (fun z => g1 z.1)
  · exact (h.2.1 hg).2.2 _ g3 g5
theorem Sim.ob {Y Y' : YT} {n c st tl ll : Nat} (h : Sim Y n c st tl ll) (hO : Ob Y' Y) : Sim Y' n c st tl ll := h.fr (fun i _ _ _ h1 h3 h6 h8 => hO.1 i h1 h3 h6 h8) hO.2
theorem sim_run {Y Y1 Y2 : YT} {n c st tl ll : Nat} {r r' : Int32} (h : Sim Y n c st tl ll) (hn : n ≤ 90000) (h1 : RunC Y Y1 (Y (4, 0, 5)) (Y (4, 0, 6)) tl c st n (Y (4, 0, 0)) r) (hr : r' = runR Y1 tl) (hO : Ob Y2 (runO Y1 tl)) : r = r' ∧ SimE Y2 (n + 12) := by
  have hm := h1.m
  obtain ⟨R, hR⟩ : ∃ R, R = runT (Y (4, 0, 5)) (Y (4, 0, 6)) tl := ⟨_, rfl⟩
  have hP : runP Y1 tl = R := by rw [hR, ← hm 5, ← hm 6]; rfl
  have hK : runK Y1 tl = exF (Y (4, 0, 0)) R.2.2.2 R.1 R.1 0 := by rw [runK, hP, hm 0]
  obtain ⟨h50, hbad, hgood⟩ := h1
  have hgd : goodT (Y (4, 0, 5)) (Y (4, 0, 6)) tl ↔ (R.2.2.1 = 0 ∧ tl ≤ R.2.1) := by rw [hR]; exact Iff.rfl
  rw [← hR] at hbad hgood
  unfold runR at hr
  unfold runO at hO
  rw [hP, hK] at hr hO
  suffices hS : r = r' ∧ ∃ c st ll, Sim (if R.2.2.1 = 0 ∧ tl ≤ R.2.1 then (if exF (Y (4, 0, 0)) R.2.2.2 R.1 R.1 0 = R.1 then hpush (setA (rem1 (clrY Y1)) (4, 0, 0) (exS (Y1 (4, 0, 0)) R.2.2.2 R.1)) else up (up (clrY Y1) (4, 0, 8) 12 6) (4, 0, 8) 13 (nI (exF (Y (4, 0, 0)) R.2.2.2 R.1 R.1 0))) else clrY Y1) (n + 12) c st 0 ll by
    obtain ⟨e, c', st', ll', hS⟩ := hS
    exact ⟨e, c', st', 0, ll', hS.ob hO⟩
  rw [hm 0]
  have c8 : ∀ f, f ≠ 10 → clrY Y1 (4, 0, 8) f = Y (4, 0, 8) f := fun f hf => by rw [clrY, up_s, upd_n hf, hm 8]
  have c10 : clrY Y1 (4, 0, 8) 10 = 0 := by rw [clrY, up_s, upd_s]
  have cn : ∀ i : Id3, i ≠ (4, 0, 8) → clrY Y1 i = Y1 i := fun i hi => by rw [clrY, up_n hi]
  have hh := h
  obtain ⟨⟨a1, a2⟩, ⟨b1, b2, b3, b4, b5, b6⟩, ⟨c1, c2⟩, ⟨d1, d2⟩, ⟨t1, t2, t3, t4⟩, l1, l2, l3, l4⟩ := hh
  by_cases hg : R.2.2.1 = 0 ∧ tl ≤ R.2.1
  · rw [if_pos hg] at hr ⊢
    obtain ⟨hall, hsome⟩ := hgood (hgd.mpr hg)
    by_cases hk : exF (Y (4, 0, 0)) R.2.2.2 R.1 R.1 0 = R.1
    · rw [if_pos hk] at hr ⊢
      obtain ⟨g0, g1, g2, g3, g4, g5, g6⟩ := hall hk
      refine ⟨g0.trans hr.symm, ?_⟩
      have f : ∀ {a b d : Nat}, 2 ≤ a → a ≠ 3 → (a, b, d) ≠ ((5, 0, 0) : Id3) → (a, b, d) ≠ ((2, 0, 4) : Id3) → (a, b, d) ≠ ((2, 0, 1) : Id3) → Y1 (a, b, d) = Y (a, b, d) := fun {a b d} h2 h3 q1 q2 q3 => g6 _ h3 q1 q2 q3 (fun z => absurd z.1 (show ¬ a ≤ 1 by omega))
      have fk : ∀ k, k ≠ 0 → k ≠ 1 → k ≠ slot c st → ∀ i : Id3, i.1 ≤ 1 → i.2.1 = k → Y1 i = Y i := fun k e0 e1 e2 i h1 h2 => g6 i (by omega) (n4 h1 (by decide)) (n4 h1 (by decide)) (n4 h1 (by decide)) (fun z => by have := z.2; omega)
      obtain ⟨S', hS'⟩ : ∃ S', S' = exS (Y (4, 0, 0)) R.2.2.2 R.1 := ⟨_, rfl⟩
      rw [← hS'] at g1 g2 ⊢
      obtain ⟨Z, hZ⟩ : ∃ Z, Z = setA (rem1 (clrY Y1)) (4, 0, 0) S' := ⟨_, rfl⟩
      rw [← hZ]
      have zn : ∀ i : Id3, i ≠ (4, 0, 0) → i ≠ (4, 0, 1) → i ≠ (4, 0, 8) → Z i = Y1 i := fun i q0 q1 q8 => by rw [hZ, setA_n q0, rem1, setA_n q1, cn i q8]
      have z8 : ∀ f, f ≠ 10 → Z (4, 0, 8) f = Y (4, 0, 8) f := fun f hf => by rw [hZ, setA_n (by decide), rem1, setA_n (by decide), c8 f hf]
      have z10 : Z (4, 0, 8) 10 = 0 := by rw [hZ, setA_n (by decide), rem1, setA_n (by decide), c10]
      have hrk := ring_ok (Y' := hpush Z) (Z := Z) (W := Y1) (n := n) (s := Y (4, 0, 0)) b1 b2 b6 a2 g5 (fun k h3 hne => fk k (by omega) (by omega) hne) (by rw [z8 5 (by decide)]; exact b5) (by rw [hZ, setA_n (by decide), rem1, setA_s, cn _ (by decide), hm 0]) (by rw [zn _ (by decide) (by decide) (by decide), hm 4]) rfl (fun i h1 => by rw [hpush_n (n4 h1 (by decide)) (n4 h1 (by decide)), zn i (n4 h1 (by decide)) (n4 h1 (by decide)) (n4 h1 (by decide))])
      obtain ⟨k1, k2, k3, k4⟩ := hrk
      have dn : ∀ i : Id3, i ≠ (4, 0, 0) → i ≠ (4, 0, 1) → i ≠ (4, 0, 4) → i ≠ (4, 0, 8) → hpush Z i = Y1 i := fun i e0 e1 e4 e8 => by rw [hpush_n e4 e8, zn i e0 e1 e8]
      have dq : ∀ {a b d : Nat}, 2 ≤ a → a ≠ 3 → (a, b, d) ≠ ((5, 0, 0) : Id3) → (a, b, d) ≠ ((2, 0, 4) : Id3) → (a, b, d) ≠ ((2, 0, 1) : Id3) → (a, b, d) ≠ ((4, 0, 0) : Id3) → (a, b, d) ≠ ((4, 0, 1) : Id3) → (a, b, d) ≠ ((4, 0, 4) : Id3) → (a, b, d) ≠ ((4, 0, 8) : Id3) → hpush Z (a, b, d) = Y (a, b, d) := fun h2 h3 q1 q2 q3 q4 q5 q6 q7 => (dn _ q4 q5 q6 q7).trans (f h2 h3 q1 q2 q3)
      have d8 : ∀ f, f ≠ 5 → f ≠ 10 → hpush Z (4, 0, 8) f = Y (4, 0, 8) f := fun f e5 e10 => by rw [hpush_8 e5, z8 f e10]
      have d0 : hpush Z (4, 0, 0) = S' := by rw [hpush_n (by decide) (by decide), hZ, setA_s]
      have dk : ∀ i : Id3, i.1 ≤ 1 → hpush Z i = Y1 i := fun i h1 => dn i (n4 h1 (by decide)) (n4 h1 (by decide)) (n4 h1 (by decide)) (n4 h1 (by decide))
      refine ⟨(rg c st).1 + 1, (rg c st).2, ll, ⟨by rw [d0]; exact g1.congr (fun i h1 _ => dk i h1), by rw [d0]; exact g2⟩, ⟨k2, k3, by rw [dn _ (by decide) (by decide) (by decide) (by decide)]; exact g3, by rw [dn _ (by decide) (by decide) (by decide) (by decide)]; exact g4, k1, fun j hj => ⟨(k4 j hj).1, (k4 j hj).2.nn (by omega)⟩⟩, ⟨?_, fun z => ?_⟩, ⟨?_, ?_⟩, ⟨?_, ?_, by omega, fun j hj => absurd hj (Nat.not_lt_zero _)⟩, ?_, ?_, l3, fun j hj => ?_⟩
      · rw [dq (by decide) (by decide) (by decide) (by decide) (by decide) (by decide) (by decide) (by decide) (by decide), d8 6 (by decide) (by decide)]
        exact c1
      · rw [d8 6 (by decide) (by decide)] at z
        rw [dq (by decide) (by decide) (by decide) (by decide) (by decide) (by decide) (by decide) (by decide) (by decide)]
        have hs3 := slot_ge c st
        exact ⟨(c2 z).1.congr (fun i h1 h2 => by rw [dk i h1]; exact fk 2 (by decide) (by decide) (by omega) i h1 h2), (c2 z).2.nn (by omega)⟩
      · rw [dq (by decide) (by decide) (by decide) (by decide) (by decide) (by decide) (by decide) (by decide) (by decide), d8 12 (by decide) (by decide)]
        exact d1
      · rw [dq (by decide) (by decide) (by decide) (by decide) (by decide) (by decide) (by decide) (by decide) (by decide), d8 13 (by decide) (by decide)]
        exact d2
      · rw [dn _ (by decide) (by decide) (by decide) (by decide), h50]
        rfl
      · rw [hpush_8 (by decide), z10]
        rfl
      · rw [dq (by decide) (by decide) (by decide) (by decide) (by decide) (by decide) (by decide) (by decide) (by decide)]
        exact l1
      · rw [d8 11 (by decide) (by decide)]
        exact l2
      · rw [dq (by decide) (by decide) (by decide) (by decide) (by decide) (by decide) (by decide) (by decide) (by decide), dq (by decide) (by decide) (by decide) (by decide) (by decide) (by decide) (by decide) (by decide) (by decide)]
        exact l4 j hj
    · rw [if_neg hk] at hr ⊢
      obtain ⟨g0, g1, g2, g3, g6⟩ := hsome hk
      refine ⟨g0.trans hr.symm, ?_⟩
      obtain ⟨Z, hZ⟩ : ∃ Z, Z = up (up (clrY Y1) (4, 0, 8) 12 6) (4, 0, 8) 13 (nI (exF (Y (4, 0, 0)) R.2.2.2 R.1 R.1 0)) := ⟨_, rfl⟩
      rw [← hZ]
      have zn : ∀ i : Id3, i ≠ (4, 0, 8) → Z i = Y1 i := fun i q8 => by rw [hZ, up_n q8, up_n q8, cn i q8]
      have z8 : ∀ f, f ≠ 10 → f ≠ 12 → f ≠ 13 → Z (4, 0, 8) f = Y (4, 0, 8) f := fun f h10 h12 h13 => by rw [hZ, up_s, upd_n h13, up_s, upd_n h12, c8 f h10]
      have z10 : Z (4, 0, 8) 10 = 0 := by rw [hZ, up_s, upd_n (by decide), up_s, upd_n (by decide), c10]
      have z12 : Z (4, 0, 8) 12 = 6 := by rw [hZ, up_s, upd_n (by decide), up_s, upd_s]
      have z13 : Z (4, 0, 8) 13 = nI (exF (Y (4, 0, 0)) R.2.2.2 R.1 R.1 0) := by rw [hZ, up_s, upd_s]
      have dq : ∀ {a b d : Nat}, 2 ≤ a → a ≠ 3 → (a, b, d) ≠ ((5, 0, 0) : Id3) → (a, b, d) ≠ ((2, 0, 4) : Id3) → (a, b, d) ≠ ((2, 0, 3) : Id3) → (a, b, d) ≠ ((4, 0, 8) : Id3) → Z (a, b, d) = Y (a, b, d) := fun {a b d} h2 h3 q1 q2 q3 q8 => (zn _ q8).trans (g6 _ h3 q1 q2 q3 (fun z => absurd z.1 (show ¬ a ≤ 1 by omega)))
      have gk : ∀ k, 2 ≤ k → ∀ i : Id3, i.1 ≤ 1 → i.2.1 = k → Z i = Y i := fun k hk i h1 h2 => (zn i (n4 h1 (by decide))).trans (g6 i (by omega) (n4 h1 (by decide)) (n4 h1 (by decide)) (n4 h1 (by decide)) (fun z => by have := z.2; omega))
      refine ⟨c, st, ll, ⟨?_, ?_⟩, ⟨b1, b2, ?_, ?_, ?_, fun j hj => ?_⟩, ⟨?_, fun z => ?_⟩, ⟨?_, ?_⟩, ⟨?_, ?_, by omega, fun j hj => absurd hj (Nat.not_lt_zero _)⟩, ?_, ?_, l3, fun j hj => ?_⟩
      · rw [dq (by decide) (by decide) (by decide) (by decide) (by decide) (by decide)]
        exact g1.congr (fun i h1 _ => zn i (n4 h1 (by decide)))
      · rw [dq (by decide) (by decide) (by decide) (by decide) (by decide) (by decide)]
        exact a2.nn (by omega)
      · rw [dq (by decide) (by decide) (by decide) (by decide) (by decide) (by decide)]
        exact b3
      · rw [dq (by decide) (by decide) (by decide) (by decide) (by decide) (by decide)]
        exact b4
      · rw [z8 5 (by decide) (by decide) (by decide)]
        exact b5
      · rw [dq (by decide) (by decide) (by decide) (by decide) (by decide) (by decide)]
        exact ⟨(b6 j hj).1.congr (gk _ (by omega)), (b6 j hj).2.nn (by omega)⟩
      · rw [dq (by decide) (by decide) (by decide) (by decide) (by decide) (by decide), z8 6 (by decide) (by decide) (by decide)]
        exact c1
      · rw [z8 6 (by decide) (by decide) (by decide)] at z
        rw [dq (by decide) (by decide) (by decide) (by decide) (by decide) (by decide)]
        exact ⟨(c2 z).1.congr (gk _ (by decide)), (c2 z).2.nn (by omega)⟩
      · rw [zn _ (by decide), g2, z12]
      · rw [zn _ (by decide), g3, z13]
      · rw [zn _ (by decide), h50]
        rfl
      · rw [z10]
        rfl
      · rw [dq (by decide) (by decide) (by decide) (by decide) (by decide) (by decide)]
        exact l1
      · rw [z8 11 (by decide) (by decide) (by decide)]
        exact l2
      · rw [dq (by decide) (by decide) (by decide) (by decide) (by decide) (by decide), dq (by decide) (by decide) (by decide) (by decide) (by decide) (by decide)]
        exact l4 j hj
  · rw [if_neg hg] at hr ⊢
    obtain ⟨g0, g1, g6⟩ := hbad (fun z => hg (hgd.mp z))
    refine ⟨g0.trans hr.symm, c, st, ll, ?_⟩
    have dq : ∀ i : Id3, i.1 ≠ 3 → i ≠ (5, 0, 0) → i ≠ (4, 0, 8) → clrY Y1 i = Y i := fun i h3 q1 q8 => (cn i q8).trans (g6 i h3 q1)
    refine (h.up (Nat.le_add_right n 12)).tx2 (fun i h3 q5 _ _ _ q8 => dq i h3 q5 q8) (fun f _ h10 _ => c8 f h10) ⟨by rw [cn _ (by decide), h50]; rfl, by rw [c10]; rfl, by omega, fun j hj => absurd hj (Nat.not_lt_zero _)⟩ ⟨by rw [dq _ (by decide) (by decide) (by decide)]; exact l1, by rw [c8 11 (by decide)]; exact l2, l3, fun j hj => ?_⟩
    rw [dq _ (by decide) (by decide) (by decide), dq _ (by decide) (by decide) (by decide)]
    exact l4 j hj
