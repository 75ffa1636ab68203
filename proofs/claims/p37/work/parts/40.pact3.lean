/-! THE CLASS'S ACTS AND THE MODEL'S ARE ONE: what an act does to kiln k, out of what it does to the row s. -/
theorem R0.cs {y s s' : Nat → Int32} (h : R0 y s) (e : ∀ f, f = 0 ∨ f = 1 ∨ f = 9 ∨ f = 13 → s' f = s f) : R0 y s' :=
  ⟨h.1.trans (e 0 (by omega)).symm, h.2.1.trans (e 1 (by omega)).symm, h.2.2.1.trans (e 13 (by omega)).symm, h.2.2.2.trans (e 9 (by omega)).symm⟩
theorem R1.cs {y s s' : Nat → Int32} (h : R1 y s) (e : ∀ f, 2 ≤ f ∧ f ≤ 7 → s' f = s f) : R1 y s' :=
  ⟨h.1.trans (e 2 (by omega)).symm, h.2.1.trans (e 3 (by omega)).symm, h.2.2.1.trans (e 4 (by omega)).symm, h.2.2.2.1.trans (e 6 (by omega)).symm, h.2.2.2.2.1.trans (e 5 (by omega)).symm, h.2.2.2.2.2.trans (e 7 (by omega)).symm⟩
theorem R4.cs {y s s' : Nat → Int32} (h : R4 y s) (e : ∀ f, (10 ≤ f ∧ f ≤ 12) ∨ f = 16 → s' f = s f) : R4 y s' :=
  ⟨h.1.trans (e 12 (by omega)).symm, h.2.1.trans (e 10 (by omega)).symm, h.2.2.1.trans (e 11 (by omega)).symm, h.2.2.2.trans (e 16 (by omega)).symm⟩
theorem PotR.cs {y s s' : Nat → Int32} {p : Nat} (h : PotR y s p) (e : ∀ f, 171 ≤ f → s' f = s f) : PotR y s' p :=
  ⟨h.1.trans (e _ (by omega)).symm, h.2.1.trans (e _ (by omega)).symm, h.2.2.1.trans (e _ (by omega)).symm, h.2.2.2.1.trans (e _ (by omega)).symm, h.2.2.2.2.1.trans (e _ (by omega)).symm, h.2.2.2.2.2.1.trans (e _ (by omega)).symm, h.2.2.2.2.2.2.trans (e _ (by omega)).symm⟩
theorem RKi.gen {Y Y' : YT} {k : Nat} {s s' : Nat → Int32} (h : RKi Y k s) (g0 : R0 (Y' (0, k, 0)) s') (g1 : R1 (Y' (0, k, 1)) s') (g2 : Y' (0, k, 2) 0 = s' 8 ∧ ∀ j, j < nn (s' 8) → Y' (0, k, 3) j = s' (17 + j)) (g4 : R4 (Y' (0, k, 4)) s') (g5 : Y' (0, k, 5) = Y (0, k, 5)) (g6 : Y' (0, k, 6) = Y (0, k, 6)) (g7 : Y' (0, k, 7) 0 = s' 15 ∧ ∀ p, p < nn (s' 15) → PotR (Y' (1, k, p)) s' p) (e : ∀ f, (22 ≤ f ∧ f < 171) ∨ f = 12 → s' f = s f) : RKi Y' k s' := by
  obtain ⟨-, -, -, -, h5, h6, -⟩ := h
  refine ⟨g0, g1, g2, g4, fun j hj => ?_, fun p w hp hw => ?_, g7⟩
  · rw [g5, e _ (by omega)]
    exact h5 j hj
  · have e12 : s' 12 = s 12 := e 12 (by omega)
    rw [e12] at hp ⊢
    have h12 : m12 (nn (s 12)) ≤ 12 := by unfold m12; split <;> omega
    rw [g6, e _ (by omega)]
    exact h6 p w hp hw
theorem RKi.g2 {Y Y' : YT} {k : Nat} {s s' : Nat → Int32} (h : RKi Y k s) (e2 : Y' (0, k, 2) = Y (0, k, 2)) (e3 : Y' (0, k, 3) = Y (0, k, 3)) (e : ∀ f, f = 8 ∨ (17 ≤ f ∧ f < 22) → s' f = s f) (hl : nn (s 8) ≤ 5) : Y' (0, k, 2) 0 = s' 8 ∧ ∀ j, j < nn (s' 8) → Y' (0, k, 3) j = s' (17 + j) := by
  have e8 : s' 8 = s 8 := e 8 (by omega)
  rw [e8]
  exact ⟨by rw [e2]; exact h.2.2.1.1, fun j hj => by rw [e3, e _ (by omega)]; exact h.2.2.1.2 j hj⟩
theorem RKi.g7 {Y Y' : YT} {k : Nat} {s s' : Nat → Int32} (h : RKi Y k s) (e7 : Y' (0, k, 7) = Y (0, k, 7)) (ep : ∀ p, Y' (1, k, p) = Y (1, k, p)) (e : ∀ f, f = 15 ∨ 171 ≤ f → s' f = s f) : Y' (0, k, 7) 0 = s' 15 ∧ ∀ p, p < nn (s' 15) → PotR (Y' (1, k, p)) s' p := by
  have e15 : s' 15 = s 15 := e 15 (by omega)
  rw [e15]
  exact ⟨by rw [e7]; exact h.2.2.2.2.2.2.1, fun p hp => by rw [ep]; exact (h.2.2.2.2.2.2.2 p hp).cs (fun f hf => e f (by omega))⟩
theorem InvN.eq {s s' : Nat → Int32} {t : Nat} (h : InvN s t) (e : ∀ f, f = 0 ∨ f = 1 ∨ f = 12 ∨ f = 14 → s' f = s f) : InvN s' t := by
  obtain ⟨d, a, mi, h1, h2, h3, h4, h5, h6, h7, h8, h9⟩ := h
  exact ⟨d, a, mi, by rw [e 0 (by omega), h1], h2, h3, by rw [e 1 (by omega), h4], h5, h6, by rw [e 12 (by omega), h7], h8, by rw [e 14 (by omega), h9]⟩
theorem InvN.up {s : Nat → Int32} {t u : Nat} (h : InvN s t) (hu : t ≤ u) : InvN s u := by
  obtain ⟨d, a, mi, h1, h2, h3, h4, h5, h6, h7, h8, h9⟩ := h
  exact ⟨d, a, mi, h1, h2, h3, h4, h5, h6, h7, by omega, h9⟩
theorem InvG.eq {s s' : Nat → Int32} (h : InvG s) (e : ∀ f, f = 2 ∨ f = 3 ∨ f = 4 ∨ f = 6 → s' f = s f) : InvG s' := by
  obtain ⟨g, u, c, p, h1, h2, h3, h4, h5, h6, h7, h8⟩ := h
  exact ⟨g, u, c, p, by rw [e 2 (by omega), h1], h2, by rw [e 3 (by omega), h3], h4, by rw [e 4 (by omega), h5], h6, by rw [e 6 (by omega), h7], h8⟩
theorem PotI.eq {s s' : Nat → Int32} {p : Nat} (h : PotI s p) (e : ∀ f, f = 171 + p ∨ f = 179 + p ∨ f = 187 + p ∨ f = 195 + p ∨ f = 203 + p ∨ f = 211 + p → s' f = s f) : PotI s' p := by
  obtain ⟨sh, ne, ti, ho, so, i, e1, e2, e3, e4, e5, e6, e7, e8, e9, e10, e11, e12, e13, e14, e15⟩ := h
  exact ⟨sh, ne, ti, ho, so, i, by rw [e _ (by omega), e1], e2, by rw [e _ (by omega), e3], e4, by rw [e _ (by omega), e5], e6, by rw [e _ (by omega), e7], e8, by rw [e _ (by omega), e9], e10, e11, by rw [e _ (by omega), e12], e13, e14, e15⟩
theorem InvP.eq {s s' : Nat → Int32} (h : InvP s) (e : ∀ f, f = 15 ∨ 171 ≤ f → s' f = s f) : InvP s' := by
  obtain ⟨h1, h2, w, h3, h4⟩ := h
  have e15 : s' 15 = s 15 := e 15 (by omega)
  refine ⟨fun p hp => (h1 p (by rw [← e15]; exact hp)).eq (fun f hf => e f (by omega)), fun p hp hp8 => ?_, w, ?_, h4⟩
  · obtain ⟨a, b, c, d⟩ := h2 p (by rw [← e15]; exact hp) hp8
    exact ⟨by rw [e _ (by omega), a], by rw [e _ (by omega), b], by rw [e _ (by omega), c], by rw [e _ (by omega), d]⟩
  · rw [e15, ← h3]
    exact wiN_congr _ (fun p hp => e _ (by omega))
theorem Inv.up {s : Nat → Int32} {n t m u : Nat} (h : Inv s n t) (hn : n ≤ m) (ht : 300 * n + t ≤ 300 * m + u) : Inv s m u := ⟨h.1.up hn, h.2.1.up ht, h.2.2.1, h.2.2.2⟩
/-- what the class makes of an act that the model does as q -/
def ActC (Y Y' : YT) (k rf n : Nat) (q : ActT) (r : Int32) : Prop :=
  (q.1 = 0 → r = q.2.2 ∧ 0 ≤ q.2.2 ∧ RKi Y' k q.2.1 ∧ FrK Y Y' k ∧ Inv q.2.1 (n + 1) 0) ∧ (q.1 < 0 → r = q.1 ∧ Y' = Y) ∧ (0 < q.1 → r = -10004 ∧ Y' = up (up Y (2, 0, rf) 0 q.1) (2, 0, rf) 1 q.2.2)
theorem ActC.ok {Y Y' : YT} {k rf n : Nat} {s' : Nat → Int32} {v r : Int32} (h1 : r = v) (h2 : 0 ≤ v) (h3 : RKi Y' k s') (h4 : FrK Y Y' k) (h5 : Inv s' (n + 1) 0) : ActC Y Y' k rf n (0, s', v) r :=
  ⟨fun _ => ⟨h1, h2, h3, h4, h5⟩, fun q => absurd q (show ¬ (0 : Int32) < 0 by decide), fun q => absurd q (show ¬ (0 : Int32) < 0 by decide)⟩
theorem ActC.no {Y Y' : YT} {k rf n : Nat} {s' : Nat → Int32} {x v r : Int32} (hx : 0 < x) (h1 : r = -10004) (h2 : Y' = up (up Y (2, 0, rf) 0 x) (2, 0, rf) 1 v) : ActC Y Y' k rf n (x, s', v) r :=
  ⟨fun q => absurd (show (0 : Int32) < 0 by have q' : x = 0 := q; rw [q'] at hx; exact hx) (by decide), fun q => absurd (Int32.lt_trans hx q) (by decide), fun _ => ⟨h1, h2⟩⟩
theorem ActC.bad {Y Y' : YT} {k rf n : Nat} {s' : Nat → Int32} {x v r : Int32} (hx : x < 0) (h1 : r = x) (h2 : Y' = Y) : ActC Y Y' k rf n (x, s', v) r :=
  ⟨fun q => absurd (show (0 : Int32) < 0 by have q' : x = 0 := q; rw [q'] at hx; exact hx) (by decide), fun _ => ⟨h1, h2⟩, fun q => absurd (Int32.lt_trans q hx) (by decide)⟩
theorem FrK.set {Y : YT} {k j : Nat} {y : Nat → Int32} : FrK Y (setA Y (0, k, j) y) k := fun i hi => setA_n (fun q => hi (by rw [q]; exact ⟨Nat.zero_le 1, rfl⟩))
theorem FrK.setP {Y : YT} {k j : Nat} {y : Nat → Int32} : FrK Y (setA Y (1, k, j) y) k := fun i hi => setA_n (fun q => hi (by rw [q]; exact ⟨Nat.le_refl 1, rfl⟩))
theorem aim_C {Y Y' : YT} {k rf n : Nat} {s : Nat → Int32} {d r : Int32} (hR : RKi Y k s) (hI : Inv s n 0) (hp : r = (if 20 ≤ d ∧ d ≤ 1200 then (if d = Y (0, k, 0) 1 then -10004 else Y (0, k, 0) 1) else -10002) ∧ Y' = if 20 ≤ d ∧ d ≤ 1200 then (if d = Y (0, k, 0) 1 then up (up Y (2, 0, rf) 0 5) (2, 0, rf) 1 (Y (0, k, 0) 1) else setA Y (0, k, 0) (upd (upd (Y (0, k, 0)) 1 d) 2 0)) else Y) : ActC Y Y' k rf n (aimA s d) r := by
  have e1 : Y (0, k, 0) 1 = s 1 := hR.1.2.1
  rw [e1] at hp
  obtain ⟨rfl, rfl⟩ := hp
  unfold aimA
  by_cases c : 20 ≤ d ∧ d ≤ 1200
  · rw [if_pos c, if_pos c, if_pos c]
    by_cases c2 : d = s 1
    · rw [if_pos c2, if_pos c2, if_pos c2.symm]
      exact ActC.no (by decide) rfl (by rw [c2])
    · rw [if_neg c2, if_neg c2, if_neg (fun q => c2 q.symm)]
      obtain ⟨hmb, ⟨d0, a, mi, g0, d1, d2, g1, a1, a2, g12, g13, g14⟩, hg, hpp⟩ := hI
      obtain ⟨j, hj, hd⟩ := rng_nI (m := 1200) (by decide) (by decide) c
      have hj20 : 20 ≤ j := by have q := c.1; rw [hd] at q; exact nI_le_iff (n := 20) (by omega) (by decide) q
      refine ActC.ok rfl (by rw [g1]; exact nI_pos' (by omega)) ?_ FrK.set ⟨(hmb.eq (fun f hf => by rw [upd_n (by omega), upd_n (by omega)])).up (by omega), ⟨d0, j, mi, by rw [upd_n (by decide), upd_n (by decide), g0], d1, d2, by rw [upd_n (by decide), upd_s, hd], hj20, hj, by rw [upd_n (by decide), upd_n (by decide), g12], by omega, by rw [upd_n (by decide), upd_n (by decide), g14]⟩, hg.eq (fun f hf => by rw [upd_n (by omega), upd_n (by omega)]), hpp.eq (fun f hf => by rw [upd_n (by omega), upd_n (by omega)])⟩
      have es : ∀ f, f ≠ 1 → f ≠ 13 → upd (upd s 1 d) 13 0 f = s f := fun f h1 h2 => by rw [upd_n h2, upd_n h1]
      refine hR.gen ?_ ?_ ?_ ?_ (setA_n (nej (by decide))) (setA_n (nej (by decide))) ?_ (fun f hf => es f (by omega) (by omega))
      · rw [setA_s]
        exact ⟨by rw [upd_n (by decide), upd_n (by decide), es _ (by decide) (by decide)]; exact hR.1.1, by rw [upd_n (by decide), upd_s, upd_n (by decide), upd_s], by rw [upd_s, upd_s], by rw [upd_n (by decide), upd_n (by decide), es _ (by decide) (by decide)]; exact hR.1.2.2.2⟩
      · rw [setA_n (nej (by decide))]
        exact hR.2.1.cs (fun f hf => es f (by omega) (by omega))
      · exact hR.g2 (setA_n (nej (by decide))) (setA_n (nej (by decide))) (fun f hf => es f (by omega) (by omega)) hmb.lg.2
      · rw [setA_n (nej (by decide))]
        exact hR.2.2.2.1.cs (fun f hf => es f (by omega) (by omega))
      · exact hR.g7 (setA_n (nej (by decide))) (fun p => setA_n (fun q => by injection q with q1; exact absurd q1 (by decide))) (fun f hf => es f (by omega) (by omega))
  · rw [if_neg c, if_neg c, if_neg c]
    exact ActC.bad (by decide) rfl rfl
