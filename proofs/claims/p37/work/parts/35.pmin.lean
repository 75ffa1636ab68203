/-! A MINUTE of the model, place by place; and that the class's minute is the same. -/
theorem pot_cases {f p : Nat} (h : f = 171 + p ∨ f = 179 + p ∨ f = 187 + p ∨ f = 195 + p ∨ f = 203 + p ∨ f = 211 + p ∨ f = 219 + p) (hp : p < 8) : 171 ≤ f ∧ f < 227 := by omega
theorem ht_n {s : Nat → Int32} {p f : Nat} {b : Int32} (h : f ≠ 195 + p ∧ f ≠ 203 + p ∧ f ≠ 219 + p) : ht s p b f = s f := by
  have h1 : ht1 s p b f = s f := by simp only [ht1]; rw [upd_n h.2.2]
  have h2 : ht2 (ht1 s p b) p f = s f := by simp only [ht2]; rw [upd_n h.2.1]; exact h1
  unfold ht
  split
  · rw [upd_n h.1]; exact h1
  · split
    · exact h1
    · split
      · rw [upd_n h.1]; exact h2
      · exact h2
/-- pot p's minute -/
theorem pot_min {s y : Nat → Int32} {p d j : Nat} (hp : p < 8) (hd : s 0 = nI d) (hd2 : d ≤ 1320) (hj : j ≤ 2000) (hi : PotI s p) (hr : PotR y s p) (h1 : s (195 + p) = 1) :
    PotR (pMin y (nI d) (nI j)) (ht s p (nI j)) p ∧ PotI (ht s p (nI j)) p := by
  obtain ⟨sh, ne, ti, ho, so, i, e1, e2, e3, e4, e5, e6, e7, e8, e9, e10, e11, e12, e13, e14, e15⟩ := hi
  obtain ⟨r0, r1, r2, r3, r4, r5, r6⟩ := hr
  have ho1 : ho = 1 := by
    rw [e7] at h1
    exact (nI_eq (b := 1) (by omega) (by decide)).mp h1
  have hso : so < ti := e11 (by omega)
  have hi1 : i = 1 := e15 ho1
  have m6 : (if y 6 < nI j then nI j else y 6) = (if nI j ≤ s (219 + p) then s (219 + p) else nI j) := by
    rw [r6]
    by_cases c : s (219 + p) < nI j
    · rw [if_pos c, if_neg (Int32.not_le.mpr c)]
    · rw [if_neg c, if_pos (Int32.not_lt.mp c)]
  have t1 : ht1 s p (nI j) (171 + p) = nI sh := by rw [ht1, upd_n (by omega), e1]
  have t2 : ht1 s p (nI j) (179 + p) = nI ne := by rw [ht1, upd_n (by omega), e3]
  have t3 : ht1 s p (nI j) 0 = nI d := by rw [ht1, upd_n (by omega), hd]
  have t4 : ht1 s p (nI j) (187 + p) = nI ti := by rw [ht1, upd_n (by omega), e5]
  have t5 : ht1 s p (nI j) (203 + p) = nI so := by rw [ht1, upd_n (by omega), e9]
  have t6 : ht1 s p (nI j) (219 + p) = (if nI j ≤ s (219 + p) then s (219 + p) else nI j) := by rw [ht1, upd_s]
  have t7 : ht1 s p (nI j) (195 + p) = nI ho := by rw [ht1, upd_n (by omega), e7]
  have t8 : ht1 s p (nI j) (211 + p) = nI i := by rw [ht1, upd_n (by omega), e12]
  have p0 : pM1 y (nI j) 0 = nI sh := by rw [pM1, upd_n (by decide), r0, e1]
  have p1 : pM1 y (nI j) 1 = nI ne := by rw [pM1, upd_n (by decide), r1, e3]
  have p2 : pM1 y (nI j) 2 = nI ti := by rw [pM1, upd_n (by decide), r2, e5]
  have p3 : pM1 y (nI j) 3 = nI ho := by rw [pM1, upd_n (by decide), r3, e7]
  have p4 : pM1 y (nI j) 4 = nI so := by rw [pM1, upd_n (by decide), r4, e9]
  have p5 : pM1 y (nI j) 5 = nI i := by rw [pM1, upd_n (by decide), r5, e12]
  have p6 : pM1 y (nI j) 6 = (if nI j ≤ s (219 + p) then s (219 + p) else nI j) := by rw [pM1, upd_s, m6]
  have c80 : nI d - nI ne ≤ 80 ↔ ¬ nI ne + 80 < nI d := by
    rw [show nI ne + 80 = nI (ne + 80) from nI_add ne 80, nI_ltI (by omega) (by omega), Int32.le_iff_toInt_le, pk_sub_toInt (by omega) (by omega), show (80 : Int32).toInt = 80 by decide]
    omega
  unfold ht pMin
  rw [if_pos (show y 3 = 1 by rw [r3]; exact h1), p0, p1, t1, t2, t3]
  by_cases a1 : nI sh < nI j
  · rw [if_pos a1, if_pos (Or.inl a1)]
    refine ⟨⟨?_, ?_, ?_, ?_, ?_, ?_, ?_⟩, sh, ne, ti, 3, so, i, ?_, e2, ?_, e4, ?_, e6, ?_, by omega, ?_, e10, by omega, ?_, e13, by omega, by omega⟩
    · rw [upd_n (by decide), p0, upd_n (by omega), t1]
    · rw [upd_n (by decide), p1, upd_n (by omega), t2]
    · rw [upd_n (by decide), p2, upd_n (by omega), t4]
    · rw [upd_s, upd_s]
    · rw [upd_n (by decide), p4, upd_n (by omega), t5]
    · rw [upd_n (by decide), p5, upd_n (by omega), t8]
    · rw [upd_n (by decide), p6, upd_n (by omega), t6]
    · rw [upd_n (by omega), t1]
    · rw [upd_n (by omega), t2]
    · rw [upd_n (by omega), t4]
    · rw [upd_s]; rfl
    · rw [upd_n (by omega), t5]
    · rw [upd_n (by omega), t8]
  · rw [if_neg a1]
    by_cases a2 : nI ne + 80 < nI d
    · rw [if_neg (show ¬ nI d - nI ne ≤ 80 from fun q => (c80.mp q) a2), if_pos (Or.inr a2)]
      refine ⟨⟨?_, ?_, ?_, ?_, ?_, ?_, ?_⟩, sh, ne, ti, 3, so, i, ?_, e2, ?_, e4, ?_, e6, ?_, by omega, ?_, e10, by omega, ?_, e13, by omega, by omega⟩
      · rw [upd_n (by decide), p0, upd_n (by omega), t1]
      · rw [upd_n (by decide), p1, upd_n (by omega), t2]
      · rw [upd_n (by decide), p2, upd_n (by omega), t4]
      · rw [upd_s, upd_s]
      · rw [upd_n (by decide), p4, upd_n (by omega), t5]
      · rw [upd_n (by decide), p5, upd_n (by omega), t8]
      · rw [upd_n (by decide), p6, upd_n (by omega), t6]
      · rw [upd_n (by omega), t1]
      · rw [upd_n (by omega), t2]
      · rw [upd_n (by omega), t4]
      · rw [upd_s]; rfl
      · rw [upd_n (by omega), t5]
      · rw [upd_n (by omega), t8]
    · rw [if_pos (c80.mpr a2), if_neg (show ¬ (nI sh < nI j ∨ nI ne + 80 < nI d) from fun q => q.elim a1 a2)]
      by_cases a3 : nI d < nI ne
      · rw [if_pos a3]
        have q : pM2 (pM1 y (nI j)) (nI d) = pM1 y (nI j) := by rw [pM2, p1, if_pos a3]
        rw [q, p4, p2, if_pos (nI_lt hso (by omega))]
        exact ⟨⟨by rw [p0, t1], by rw [p1, t2], by rw [p2, t4], by rw [p3, t7], by rw [p4, t5], by rw [p5, t8], by rw [p6, t6]⟩, sh, ne, ti, ho, so, i, t1, e2, t2, e4, t4, e6, t7, e8, t5, e10, e11, t8, e13, e14, e15⟩
      · rw [if_neg a3]
        have q : pM2 (pM1 y (nI j)) (nI d) = upd (pM1 y (nI j)) 4 (nI (so + 1)) := by rw [pM2, p1, if_neg a3, p4, show nI so + 1 = nI (so + 1) from nI_add so 1]
        have w : ht2 (ht1 s p (nI j)) p = upd (ht1 s p (nI j)) (203 + p) (nI (so + 1)) := by rw [ht2, t5, show nI so + 1 = nI (so + 1) from nI_add so 1]
        rw [q, w, upd_s, upd_s, upd_n (show (2 : Nat) ≠ 4 by decide), p2, upd_n (show 187 + p ≠ 203 + p by omega), t4]
        by_cases a4 : so + 1 = ti
        · rw [if_neg (nI_nlt (by omega) (by omega)), if_pos (by rw [a4])]
          refine ⟨⟨?_, ?_, ?_, ?_, ?_, ?_, ?_⟩, sh, ne, ti, 2, so + 1, i, ?_, e2, ?_, e4, ?_, e6, ?_, by omega, ?_, by omega, by omega, ?_, e13, by omega, by omega⟩
          · rw [upd_n (by decide), upd_n (by decide), p0, upd_n (by omega), upd_n (by omega), t1]
          · rw [upd_n (by decide), upd_n (by decide), p1, upd_n (by omega), upd_n (by omega), t2]
          · rw [upd_n (by decide), upd_n (by decide), p2, upd_n (by omega), upd_n (by omega), t4]
          · rw [upd_s, upd_s]
          · rw [upd_n (by decide), upd_s, upd_n (by omega), upd_s]
          · rw [upd_n (by decide), upd_n (by decide), p5, upd_n (by omega), upd_n (by omega), t8]
          · rw [upd_n (by decide), upd_n (by decide), p6, upd_n (by omega), upd_n (by omega), t6]
          · rw [upd_n (by omega), upd_n (by omega), t1]
          · rw [upd_n (by omega), upd_n (by omega), t2]
          · rw [upd_n (by omega), upd_n (by omega), t4]
          · rw [upd_s]; rfl
          · rw [upd_n (by omega), upd_s]
          · rw [upd_n (by omega), upd_n (by omega), t8]
        · rw [if_pos (nI_lt (by omega) (by omega)), if_neg (fun z => a4 ((nI_eq (by omega) (by omega)).mp z))]
          refine ⟨⟨?_, ?_, ?_, ?_, ?_, ?_, ?_⟩, sh, ne, ti, ho, so + 1, i, ?_, e2, ?_, e4, ?_, e6, ?_, by omega, ?_, by omega, by omega, ?_, e13, e14, e15⟩
          · rw [upd_n (by decide), p0, upd_n (by omega), t1]
          · rw [upd_n (by decide), p1, upd_n (by omega), t2]
          · rw [upd_n (by decide), p2, upd_n (by omega), t4]
          · rw [upd_n (by decide), p3, upd_n (by omega), t7]
          · rw [upd_s, upd_s]
          · rw [upd_n (by decide), p5, upd_n (by omega), t8]
          · rw [upd_n (by decide), p6, upd_n (by omega), t6]
          · rw [upd_n (by omega), t1]
          · rw [upd_n (by omega), t2]
          · rw [upd_n (by omega), t4]
          · rw [upd_n (by omega), t7]
          · rw [upd_s]
          · rw [upd_n (by omega), t8]
/-- what a pot's places hold -/
def PotE (s s' : Nat → Int32) (p : Nat) : Prop := s' (171 + p) = s (171 + p) ∧ s' (179 + p) = s (179 + p) ∧ s' (187 + p) = s (187 + p) ∧ s' (195 + p) = s (195 + p) ∧ s' (203 + p) = s (203 + p) ∧ s' (211 + p) = s (211 + p) ∧ s' (219 + p) = s (219 + p)
theorem PotE.R {s s' y : Nat → Int32} {p : Nat} (h : PotE s s' p) (hr : PotR y s p) : PotR y s' p := by
  obtain ⟨a1, a2, a3, a4, a5, a6, a7⟩ := h
  obtain ⟨b1, b2, b3, b4, b5, b6, b7⟩ := hr
  exact ⟨b1.trans a1.symm, b2.trans a2.symm, b3.trans a3.symm, b4.trans a4.symm, b5.trans a5.symm, b6.trans a6.symm, b7.trans a7.symm⟩
theorem PotE.I {s s' : Nat → Int32} {p : Nat} (h : PotE s s' p) (hi : PotI s p) : PotI s' p := by
  obtain ⟨a1, a2, a3, a4, a5, a6, a7⟩ := h
  unfold PotI
  rw [a1, a2, a3, a4, a5, a6]
  exact hi
theorem ht_E {s : Nat → Int32} {p q : Nat} {b : Int32} (h : q ≠ p) (hp : p < 8) (hq : q < 8) : PotE s (ht s p b) q := ⟨ht_n (by omega), ht_n (by omega), ht_n (by omega), ht_n (by omega), ht_n (by omega), ht_n (by omega), ht_n (by omega)⟩
theorem PotE.rf (s : Nat → Int32) (p : Nat) : PotE s s p := ⟨rfl, rfl, rfl, rfl, rfl, rfl, rfl⟩
theorem PotE.tr {s s' t : Nat → Int32} {p : Nat} (h : PotE s s' p) (k : PotE s' t p) : PotE s t p := ⟨k.1.trans h.1, k.2.1.trans h.2.1, k.2.2.1.trans h.2.2.1, k.2.2.2.1.trans h.2.2.2.1, k.2.2.2.2.1.trans h.2.2.2.2.1, k.2.2.2.2.2.1.trans h.2.2.2.2.2.1, k.2.2.2.2.2.2.trans h.2.2.2.2.2.2⟩
theorem htN_pots {s : Nat → Int32} {d j : Nat} (hd : s 0 = nI d) (hd2 : d ≤ 1320) (hj : j ≤ 2000) : ∀ n, n ≤ 8 → (∀ q, n ≤ q → q < 8 → PotE s (htN (nI j) n s) q) ∧ (∀ q, q < n → ∀ y, PotI s q → PotR y s q → PotR (pMin y (nI d) (nI j)) (htN (nI j) n s) q ∧ PotI (htN (nI j) n s) q)
  | 0, _ => ⟨fun q _ _ => PotE.rf s q, fun q hq => absurd hq (Nat.not_lt_zero q)⟩
  | n + 1, hn => by
    obtain ⟨h1, h2⟩ := htN_pots hd hd2 hj n (by omega)
    have hd' : htN (nI j) n s 0 = nI d := by rw [htN_lo (by decide), hd]
    rw [htN]
    by_cases c : htN (nI j) n s (195 + n) = 1
    · rw [if_pos c]
      refine ⟨fun q hq hq8 => (h1 q (by omega) hq8).tr (ht_E (by omega) (by omega) hq8), fun q hq y hi hr => ?_⟩
      by_cases e : q = n
      · subst e
        have hE := h1 q (Nat.le_refl q) (by omega)
        exact pot_min (by omega) hd' hd2 hj (hE.I hi) (hE.R hr) c
      · obtain ⟨g1, g2⟩ := h2 q (by omega) y hi hr
        have hE : PotE (htN (nI j) n s) (ht (htN (nI j) n s) n (nI j)) q := ht_E e (by omega) (by omega)
        exact ⟨hE.R g1, hE.I g2⟩
    · rw [if_neg c]
      refine ⟨fun q hq hq8 => h1 q (by omega) hq8, fun q hq y hi hr => ?_⟩
      by_cases e : q = n
      · subst e
        have hE := h1 q (Nat.le_refl q) (by omega)
        have h3 : ¬ y 3 = 1 := fun z => c (by rw [hE.2.2.2.1, ← hr.2.2.2.1]; exact z)
        rw [pMin, if_neg h3]
        exact ⟨hE.R hr, hE.I hi⟩
      · exact h2 q (by omega) y hi hr
