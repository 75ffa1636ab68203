/-! CLASS AND MODEL SIDE BY SIDE. -/
def Sim (Y : YT) (n c st tl ll : Nat) : Prop :=
  (RKi Y 0 (Y (4, 0, 0)) ∧ Inv (Y (4, 0, 0)) n 0) ∧
  (c ≤ 8 ∧ st < 8 ∧ Y (2, 0, 1) 0 = nI c ∧ Y (2, 0, 1) 1 = nI st ∧ Y (4, 0, 8) 5 = nI c ∧ ∀ j, j < c → RKi Y (3 + (st + j) % 8) (hisF (Y (4, 0, 4)) j) ∧ Inv (hisF (Y (4, 0, 4)) j) n 0) ∧
  (Y (2, 0, 0) 3 = Y (4, 0, 8) 6 ∧ (¬ Y (4, 0, 8) 6 = 0 → RKi Y 2 (Y (4, 0, 2)) ∧ Inv (Y (4, 0, 2)) n 0)) ∧
  (Y (2, 0, 3) 0 = Y (4, 0, 8) 12 ∧ Y (2, 0, 3) 1 = Y (4, 0, 8) 13) ∧
  (Y (5, 0, 0) 0 = nI tl ∧ Y (4, 0, 8) 10 = nI tl ∧ tl ≤ 60 ∧ ∀ j, j < tl → Y (5, 0, 0) (1 + j) = Y (4, 0, 5) j) ∧
  (Y (5, 0, 1) 0 = nI ll ∧ Y (4, 0, 8) 11 = nI ll ∧ ll ≤ 80 ∧ ∀ j, j < ll → Y (5, 0, 1) (1 + j) = Y (4, 0, 7) j)
def SimE (Y : YT) (n : Nat) : Prop := ∃ c st tl ll : Nat, Sim Y n c st tl ll
theorem m12_le (m : Nat) : m12 m ≤ 12 := by unfold m12; split <;> omega
theorem MB.ss {s s' : Nat → Int32} {n : Nat} (h : MB s n) (e : ∀ f, f < 227 → s' f = s f) : MB s' n := h.eq (fun f hf => e f (by omega))
theorem RKi.ss {Y : YT} {k n : Nat} {s s' : Nat → Int32} (h : RKi Y k s) (hm : MB s n) (e : ∀ f, f < 227 → s' f = s f) : RKi Y k s' := by
  have e8 : s' 8 = s 8 := e 8 (by omega)
  have e12 : s' 12 = s 12 := e 12 (by omega)
  have e15 : s' 15 = s 15 := e 15 (by omega)
  have hl := hm.lg.2
  have hp := hm.np.2
  obtain ⟨h0, h1, h2, h4, h5, h6, h7, h8⟩ := h
  refine ⟨h0.cs (fun f hf => e f (by omega)), h1.cs (fun f hf => e f (by omega)), ⟨by rw [e8]; exact h2.1, fun j hj => ?_⟩, h4.cs (fun f hf => e f (by omega)), fun j hj => by rw [e _ (by omega)]; exact h5 j hj, fun p w hpp hw => ?_, by rw [e15]; exact h7, fun p hpp => ?_⟩
  · rw [e8] at hj
    rw [e _ (by omega)]
    exact h2.2 j hj
  · rw [e12] at hpp ⊢
    have := m12_le (nn (s 12))
    rw [e _ (by omega)]
    exact h6 p w hpp hw
  · rw [e15] at hpp
    obtain ⟨a1, a2, a3, a4, a5, a6, a7⟩ := h8 p hpp
    exact ⟨a1.trans (e _ (by omega)).symm, a2.trans (e _ (by omega)).symm, a3.trans (e _ (by omega)).symm, a4.trans (e _ (by omega)).symm, a5.trans (e _ (by omega)).symm, a6.trans (e _ (by omega)).symm, a7.trans (e _ (by omega)).symm⟩
theorem Inv.ss {s s' : Nat → Int32} {n t : Nat} (h : Inv s n t) (e : ∀ f, f < 227 → s' f = s f) : Inv s' n t := by
  have hp := h.mb.np.2
  have e15 : s' 15 = s 15 := e 15 (by omega)
  obtain ⟨hm, hN, hG, h1, h2, w, h3, h4⟩ := h
  refine ⟨hm.ss e, hN.eq (fun f hf => e f (by omega)), hG.eq (fun f hf => e f (by omega)), fun p hpp => ?_, fun p hpp hp8 => ?_, w, ?_, h4⟩
  · rw [e15] at hpp
    exact (h1 p hpp).eq (fun f hf => e f (by omega))
  · rw [e15] at hpp
    obtain ⟨a1, a2, a3, a4⟩ := h2 p hpp hp8
    exact ⟨(e _ (by omega)).trans a1, (e _ (by omega)).trans a2, (e _ (by omega)).trans a3, (e _ (by omega)).trans a4⟩
  · rw [e15, wiN_congr (s := s) _ (fun p hpp => e _ (by omega))]
    exact h3
theorem Inv.nn {s : Nat → Int32} {n m : Nat} (h : Inv s n 0) (hm : n ≤ m) : Inv s m 0 := h.up hm (by omega)
theorem Sim.up {Y : YT} {n m c st tl ll : Nat} (h : Sim Y n c st tl ll) (hm : n ≤ m) : Sim Y m c st tl ll := by
  obtain ⟨⟨a1, a2⟩, ⟨b1, b2, b3, b4, b5, b6⟩, ⟨c1, c2⟩, h4, h5, h6⟩ := h
  exact ⟨⟨a1, a2.nn hm⟩, ⟨b1, b2, b3, b4, b5, fun j hj => ⟨(b6 j hj).1, (b6 j hj).2.nn hm⟩⟩, ⟨c1, fun z => ⟨(c2 z).1, (c2 z).2.nn hm⟩⟩, h4, h5, h6⟩
theorem n4 {i : Id3} (h : i.1 ≤ 1) {a b c : Nat} (ha : 2 ≤ a) : i ≠ (a, b, c) := fun q => by rw [q] at h; exact absurd h (show ¬ a ≤ 1 by omega)
/-- what doesn't count may change -/
theorem Sim.fr {Y Y' : YT} {n c st tl ll : Nat} (h : Sim Y n c st tl ll) (hf : ∀ i : Id3, (i.1 ≤ 1 → i.2.1 ≠ 1) → i.1 ≠ 3 → i ≠ (2, 0, 4) → i ≠ (4, 0, 1) → i ≠ (4, 0, 3) → i ≠ (4, 0, 6) → i ≠ (4, 0, 8) → Y' i = Y i) (hg : ∀ f, f < 14 → Y' (4, 0, 8) f = Y (4, 0, 8) f) : Sim Y' n c st tl ll := by
  have q : ∀ {a b d : Nat}, 2 ≤ a → a ≠ 3 → (a, b, d) ≠ ((2, 0, 4) : Id3) → (a, b, d) ≠ ((4, 0, 1) : Id3) → (a, b, d) ≠ ((4, 0, 3) : Id3) → (a, b, d) ≠ ((4, 0, 6) : Id3) → (a, b, d) ≠ ((4, 0, 8) : Id3) → Y' (a, b, d) = Y (a, b, d) := fun {a b d} h2 h3 g1 g2 g3 g4 g5 => hf _ (fun z => absurd z (show ¬ a ≤ 1 by omega)) h3 g1 g2 g3 g4 g5
  have e40 : Y' (4, 0, 0) = Y (4, 0, 0) := q (by decide) (by decide) (by decide) (by decide) (by decide) (by decide) (by decide)
  have e42 : Y' (4, 0, 2) = Y (4, 0, 2) := q (by decide) (by decide) (by decide) (by decide) (by decide) (by decide) (by decide)
  have e44 : Y' (4, 0, 4) = Y (4, 0, 4) := q (by decide) (by decide) (by decide) (by decide) (by decide) (by decide) (by decide)
  have e45 : Y' (4, 0, 5) = Y (4, 0, 5) := q (by decide) (by decide) (by decide) (by decide) (by decide) (by decide) (by decide)
  have e47 : Y' (4, 0, 7) = Y (4, 0, 7) := q (by decide) (by decide) (by decide) (by decide) (by decide) (by decide) (by decide)
  have e20 : Y' (2, 0, 0) = Y (2, 0, 0) := q (by decide) (by decide) (by decide) (by decide) (by decide) (by decide) (by decide)
  have e21 : Y' (2, 0, 1) = Y (2, 0, 1) := q (by decide) (by decide) (by decide) (by decide) (by decide) (by decide) (by decide)
  have e23 : Y' (2, 0, 3) = Y (2, 0, 3) := q (by decide) (by decide) (by decide) (by decide) (by decide) (by decide) (by decide)
  have e50 : Y' (5, 0, 0) = Y (5, 0, 0) := q (by decide) (by decide) (by decide) (by decide) (by decide) (by decide) (by decide)
  have e51 : Y' (5, 0, 1) = Y (5, 0, 1) := q (by decide) (by decide) (by decide) (by decide) (by decide) (by decide) (by decide)
  have ek : ∀ k, k ≠ 1 → ∀ i : Id3, i.1 ≤ 1 → i.2.1 = k → Y' i = Y i := fun k hk i h1 h2 => hf i (fun _ z => hk (h2.symm.trans z)) (by omega) (n4 h1 (by decide)) (n4 h1 (by decide)) (n4 h1 (by decide)) (n4 h1 (by decide)) (n4 h1 (by decide))
  obtain ⟨⟨a1, a2⟩, ⟨b1, b2, b3, b4, b5, b6⟩, ⟨c1, c2⟩, ⟨d1, d2⟩, ⟨t1, t2, t3, t4⟩, l1, l2, l3, l4⟩ := h
  refine ⟨⟨by rw [e40]; exact a1.congr (ek 0 (by decide)), by rw [e40]; exact a2⟩, ⟨b1, b2, by rw [e21]; exact b3, by rw [e21]; exact b4, by rw [hg 5 (by decide)]; exact b5, fun j hj => ?_⟩, ⟨by rw [e20, hg 6 (by decide)]; exact c1, fun z => ?_⟩, ⟨by rw [e23, hg 12 (by decide)]; exact d1, by rw [e23, hg 13 (by decide)]; exact d2⟩, ⟨by rw [e50]; exact t1, by rw [hg 10 (by decide)]; exact t2, t3, fun j hj => by rw [e50, e45]; exact t4 j hj⟩, by rw [e51]; exact l1, by rw [hg 11 (by decide)]; exact l2, l3, fun j hj => by rw [e51, e47]; exact l4 j hj⟩
  · rw [e44]
    exact ⟨(b6 j hj).1.congr (ek _ (by omega)), (b6 j hj).2⟩
  · rw [hg 6 (by decide)] at z
    rw [e42]
    exact ⟨(c2 z).1.congr (ek 2 (by decide)), (c2 z).2⟩
theorem Sim.f1 {Y Y' : YT} {n c st tl ll : Nat} (h : Sim Y n c st tl ll) (hf : FrK Y Y' 1) : Sim Y' n c st tl ll := h.fr (fun i h1 _ _ _ _ _ _ => hf i (fun z => h1 z.1 z.2)) (fun f _ => by rw [hf _ (fun z => absurd z.1 (by decide))])
theorem Sim.m3 {Y : YT} {n c st tl ll : Nat} {y : Nat → Int32} (h : Sim Y n c st tl ll) : Sim (setA Y (4, 0, 3) y) n c st tl ll := h.fr (fun i _ _ _ _ h3 _ _ => setA_n h3) (fun f _ => by rw [setA_n (by decide)])
theorem Sim.m3i {Y : YT} {n c st tl ll : Nat} {y : Nat → Int32} {p : Prop} [Decidable p] (h : Sim Y n c st tl ll) : Sim (if p then setA Y (4, 0, 3) y else Y) n c st tl ll := by
  split
  · exact h.m3
  · exact h
/-- the new row of what was kept -/
theorem his_lay {h y : Nat → Int32} {c j f : Nat} (hf : f < 227) : hisF (lay h y (227 * c) 227) j f = if j = c then y f else hisF h j f := by
  unfold hisF lay
  by_cases e : j = c
  · subst e
    rw [if_pos rfl, if_pos (by omega), show 227 * j + f - 227 * j = f by omega]
  · rw [if_neg e, if_neg (by omega)]
theorem his_shl {h : Nat → Int32} {j f : Nat} (hj : j < 7) (hf : f < 227) : hisF (shl4 h 1589) j f = hisF h (j + 1) f := by
  unfold hisF shl4
  rw [if_pos (by omega), show 227 * j + f + 227 = 227 * (j + 1) + f by omega]
/-- Z: the model ahead of the pushing; Y': the class behind its own -/
theorem ring_ok {Y Y' Z W : YT} {n c st : Nat} {s : Nat → Int32} (b1 : c ≤ 8) (b2 : st < 8) (b6 : ∀ j, j < c → RKi Y (3 + (st + j) % 8) (hisF (Y (4, 0, 4)) j) ∧ Inv (hisF (Y (4, 0, 4)) j) n 0) (hs : Inv s n 0) (hslot : RKi W (slot c st) s) (hfr : ∀ k, 3 ≤ k → k ≠ slot c st → ∀ i : Id3, i.1 ≤ 1 → i.2.1 = k → W i = Y i)
    (z5 : Z (4, 0, 8) 5 = nI c) (z1 : Z (4, 0, 1) = s) (z4 : Z (4, 0, 4) = Y (4, 0, 4)) (hZ : Y' = hpush Z) (hW : ∀ i : Id3, i.1 ≤ 1 → Y' i = W i) :
    Y' (4, 0, 8) 5 = nI ((rg c st).1 + 1) ∧ (rg c st).1 + 1 ≤ 8 ∧ (rg c st).2 < 8 ∧ ∀ j, j < (rg c st).1 + 1 → RKi Y' (3 + ((rg c st).2 + j) % 8) (hisF (Y' (4, 0, 4)) j) ∧ Inv (hisF (Y' (4, 0, 4)) j) n 0 := by
  have hmv : ∀ {k : Nat} {r : Nat → Int32}, RKi W k r → RKi Y' k r := fun h => h.congr (fun i h1 _ => hW i h1)
  have hold : ∀ {k : Nat} {r : Nat → Int32}, 3 ≤ k → k ≠ slot c st → RKi Y k r → RKi Y' k r := fun h3 hne h => hmv (h.congr (hfr _ h3 hne))
  by_cases hc : c = 8
  · subst hc
    have hrg : rg 8 st = (7, (st + 1) % 8) := if_pos rfl
    have hsl : slot 8 st = 3 + ((st + 1) % 8 + 7) % 8 := by unfold slot; rw [hrg]
    have hp : hpush Z = setA Z (4, 0, 4) (lay (shl4 (Y (4, 0, 4)) 1589) s (227 * (8 - 1)) 227) := by
      unfold hpush
      rw [if_pos (by rw [z5]; rfl), z4, z1]
    have h4 : Y' (4, 0, 4) = lay (shl4 (Y (4, 0, 4)) 1589) s (227 * 7) 227 := by rw [hZ, hp, setA_s]
    rw [hrg]
    refine ⟨by rw [hZ, hp, setA_n (by decide), z5], (by decide : 7 + 1 ≤ 8), Nat.mod_lt _ (by decide), fun j hj => ?_⟩
    show RKi Y' (3 + ((st + 1) % 8 + j) % 8) _ ∧ _
    rw [h4]
    have hj8 : j < 8 := hj
    by_cases e : j = 7
    · subst e
      have hx : ∀ f, f < 227 → hisF (lay (shl4 (Y (4, 0, 4)) 1589) s (227 * 7) 227) 7 f = s f := fun f hf => by rw [his_lay hf, if_pos rfl]
      rw [← hsl]
      exact ⟨(hmv hslot).ss hs.mb hx, hs.ss hx⟩
    · obtain ⟨g1, g2⟩ := b6 (j + 1) (by omega)
      have hx : ∀ f, f < 227 → hisF (lay (shl4 (Y (4, 0, 4)) 1589) s (227 * 7) 227) j f = hisF (Y (4, 0, 4)) (j + 1) f := fun f hf => by rw [his_lay hf, if_neg e, his_shl (by omega) hf]
      have hk : 3 + ((st + 1) % 8 + j) % 8 = 3 + (st + (j + 1)) % 8 := by omega
      rw [hk]
      exact ⟨(hold (by omega) (by rw [hsl]; omega) g1).ss g2.mb hx, g2.ss hx⟩
  · have hrg : rg c st = (c, st) := if_neg hc
    have hsl : slot c st = 3 + (st + c) % 8 := by unfold slot; rw [hrg]
    have hp : hpush Z = setA (up Z (4, 0, 8) 5 (nI c + 1)) (4, 0, 4) (lay (Y (4, 0, 4)) s (227 * c) 227) := by
      unfold hpush
      rw [if_neg (by rw [z5]; exact fun q => hc ((nI_eq (b := 8) (by omega) (by decide)).mp q)), z4, z1, z5, nn_nI (by omega), show c + 1 - 1 = c by omega]
    have h4 : Y' (4, 0, 4) = lay (Y (4, 0, 4)) s (227 * c) 227 := by rw [hZ, hp, setA_s]
    rw [hrg]
    refine ⟨by rw [hZ, hp, setA_n (by decide), up_s, upd_s]; exact nI_add c 1, by show c + 1 ≤ 8; omega, b2, fun j hj => ?_⟩
    show RKi Y' (3 + (st + j) % 8) _ ∧ _
    rw [h4]
    have hjc : j < c + 1 := hj
    by_cases e : j = c
    · subst e
      have hx : ∀ f, f < 227 → hisF (lay (Y (4, 0, 4)) s (227 * j) 227) j f = s f := fun f hf => by rw [his_lay hf, if_pos rfl]
      rw [← hsl]
      exact ⟨(hmv hslot).ss hs.mb hx, hs.ss hx⟩
    · obtain ⟨g1, g2⟩ := b6 j (by omega)
      have hx : ∀ f, f < 227 → hisF (lay (Y (4, 0, 4)) s (227 * c) 227) j f = hisF (Y (4, 0, 4)) j f := fun f hf => by rw [his_lay hf, if_neg e]
      exact ⟨(hold (by omega) (by rw [hsl]; omega) g1).ss g2.mb hx, g2.ss hx⟩
theorem hpush_n {Z : YT} {i : Id3} (h4 : i ≠ (4, 0, 4)) (h8 : i ≠ (4, 0, 8)) : hpush Z i = Z i := by
  unfold hpush
  split
  · exact setA_n h4
  · rw [setA_n h4, up_n h8]
theorem hpush_8 {Z : YT} {f : Nat} (hf : f ≠ 5) : hpush Z (4, 0, 8) f = Z (4, 0, 8) f := by
  unfold hpush
  split
  · rw [setA_n (by decide)]
  · rw [setA_n (by decide), up_s, upd_n hf]
/-- an act, on both sides -/
theorem sim_act {Y Y1 Y2 : YT} {n c st tl ll : Nat} {q : ActT} {r r' : Int32} (h : Sim Y n c st tl ll) (hk : ActK Y Y1 c st n (Y (4, 0, 0)) q r) (hr : r' = doR Y1 q) (hY : Y2 = doY Y1 q) : r = r' ∧ SimE Y2 (n + 12) := by
  obtain ⟨⟨a1, a2⟩, ⟨b1, b2, b3, b4, b5, b6⟩, ⟨c1, c2⟩, ⟨d1, d2⟩, ⟨t1, t2, t3, t4⟩, l1, l2, l3, l4⟩ := id h
  subst hr hY
  by_cases h0 : q.1 = 0
  · obtain ⟨k1, k2, k3, k4, k5, k6, k7⟩ := hk.1 h0
    have f1 : ∀ {a b d : Nat}, 2 ≤ a → (a, b, d) ≠ ((2, 0, 1) : Id3) → Y1 (a, b, d) = Y (a, b, d) := fun {a b d} h2 h3 => k7 _ (fun z => absurd z.1 (show ¬ a ≤ 1 by omega)) h3
    have f2 : ∀ k, k ≠ 0 → k ≠ 1 → k ≠ slot c st → ∀ i : Id3, i.1 ≤ 1 → i.2.1 = k → Y1 i = Y i := fun k e0 e1 e2 i h1 h2 => k7 i (fun z => by have := z.2; omega) (ne21 h1)
    obtain ⟨Z, hZ⟩ : ∃ Z, Z = up (setA (rem1 Y1) (4, 0, 0) q.2.1) (4, 0, 8) 15 q.2.2 := ⟨_, rfl⟩
    have hd : doY Y1 q = hpush Z := by
      unfold doY endY
      rw [if_pos h0, setAct_0 h0, hZ]
    have hrr : doR Y1 q = q.2.2 := by
      unfold doR endX
      rw [if_pos h0, setAct_0 h0, up_s, upd_s]
    have zn : ∀ i : Id3, i ≠ (4, 0, 0) → i ≠ (4, 0, 1) → i ≠ (4, 0, 8) → Z i = Y1 i := fun i g0 g1 g8 => by rw [hZ, up_n g8, setA_n g0, rem1, setA_n g1]
    have z8 : ∀ f, f ≠ 15 → Z (4, 0, 8) f = Y (4, 0, 8) f := fun f hf => by rw [hZ, up_s, upd_n hf, setA_n (by decide), rem1, setA_n (by decide), f1 (by decide) (by decide)]
    have hrk := ring_ok (Y' := doY Y1 q) (Z := Z) (W := Y1) (n := n) (s := Y (4, 0, 0)) b1 b2 b6 a2 k6 (fun k h3 hne => f2 k (by omega) (by omega) hne) (by rw [z8 5 (by decide)]; exact b5) (by rw [hZ, up_n (by decide), setA_n (by decide), rem1, setA_s, f1 (by decide) (by decide)]) (by rw [zn _ (by decide) (by decide) (by decide), f1 (by decide) (by decide)]) hd (fun i h1 => by rw [hd, hpush_n (n4 h1 (by decide)) (n4 h1 (by decide)), zn i (n4 h1 (by decide)) (n4 h1 (by decide)) (n4 h1 (by decide))])
    obtain ⟨g1, g2, g3, g4⟩ := hrk
    have dn : ∀ i : Id3, i ≠ (4, 0, 0) → i ≠ (4, 0, 1) → i ≠ (4, 0, 4) → i ≠ (4, 0, 8) → doY Y1 q i = Y1 i := fun i e0 e1 e4 e8 => by rw [hd, hpush_n e4 e8, zn i e0 e1 e8]
    have d8 : ∀ f, f ≠ 5 → f ≠ 15 → doY Y1 q (4, 0, 8) f = Y (4, 0, 8) f := fun f e5 e15 => by rw [hd, hpush_8 e5, z8 f e15]
    have d0 : doY Y1 q (4, 0, 0) = q.2.1 := by rw [hd, hpush_n (by decide) (by decide), hZ, up_n (by decide), setA_s]
    have dk : ∀ i : Id3, i.1 ≤ 1 → doY Y1 q i = Y1 i := fun i h1 => dn i (n4 h1 (by decide)) (n4 h1 (by decide)) (n4 h1 (by decide)) (n4 h1 (by decide))
    refine ⟨k1.trans hrr.symm, (rg c st).1 + 1, (rg c st).2, tl, ll, ⟨by rw [d0]; exact k2.congr (fun i h1 _ => dk i h1), by rw [d0]; exact k3.nn (by omega)⟩, ⟨g2, g3, by rw [dn _ (by decide) (by decide) (by decide) (by decide)]; exact k4, by rw [dn _ (by decide) (by decide) (by decide) (by decide)]; exact k5, g1, fun j hj => ⟨(g4 j hj).1, (g4 j hj).2.nn (by omega)⟩⟩, ⟨?_, fun z => ?_⟩, ⟨?_, ?_⟩, ⟨?_, ?_, t3, fun j hj => ?_⟩, ?_, ?_, l3, fun j hj => ?_⟩
    · rw [dn _ (by decide) (by decide) (by decide) (by decide), f1 (by decide) (by decide), d8 6 (by decide) (by decide)]
      exact c1
    · rw [d8 6 (by decide) (by decide)] at z
      rw [dn (4, 0, 2) (by decide) (by decide) (by decide) (by decide), f1 (by decide) (by decide)]
      have hs3 := slot_ge c st
      exact ⟨(c2 z).1.congr (fun i h1 h2 => by rw [dk i h1]; exact f2 2 (by decide) (by decide) (by omega) i h1 h2), (c2 z).2.nn (by omega)⟩
    · rw [dn _ (by decide) (by decide) (by decide) (by decide), f1 (by decide) (by decide), d8 12 (by decide) (by decide)]
      exact d1
    · rw [dn _ (by decide) (by decide) (by decide) (by decide), f1 (by decide) (by decide), d8 13 (by decide) (by decide)]
      exact d2
    · rw [dn _ (by decide) (by decide) (by decide) (by decide), f1 (by decide) (by decide)]
      exact t1
    · rw [d8 10 (by decide) (by decide)]
      exact t2
    · rw [dn _ (by decide) (by decide) (by decide) (by decide), f1 (by decide) (by decide), dn _ (by decide) (by decide) (by decide) (by decide), f1 (by decide) (by decide)]
      exact t4 j hj
    · rw [dn _ (by decide) (by decide) (by decide) (by decide), f1 (by decide) (by decide)]
      exact l1
    · rw [d8 11 (by decide) (by decide)]
      exact l2
    · rw [dn _ (by decide) (by decide) (by decide) (by decide), f1 (by decide) (by decide), dn _ (by decide) (by decide) (by decide) (by decide), f1 (by decide) (by decide)]
      exact l4 j hj
  · obtain ⟨k1, k2, k3, k4, k5⟩ := hk.2 h0
    have f1 : ∀ i : Id3, ¬ (i.1 ≤ 1 ∧ i.2.1 ≤ 1) → i ≠ (2, 0, 3) → Y1 i = Y i := k5
    have f0 : ∀ {a b d : Nat}, 2 ≤ a → (a, b, d) ≠ ((2, 0, 3) : Id3) → Y1 (a, b, d) = Y (a, b, d) := fun {a b d} h2 h3 => k5 _ (fun z => absurd z.1 (show ¬ a ≤ 1 by omega)) h3
    -- the state but for the reason
    have hS : ∀ Y2 : YT, (∀ i : Id3, i ≠ (4, 0, 1) → i ≠ (4, 0, 8) → Y2 i = Y1 i) → (∀ f, f < 12 → Y2 (4, 0, 8) f = Y1 (4, 0, 8) f) → (Y2 (2, 0, 3) 0 = Y2 (4, 0, 8) 12 ∧ Y2 (2, 0, 3) 1 = Y2 (4, 0, 8) 13) → Sim Y2 (n + 12) c st tl ll := by
      intro Y2 p1 p2 p3
      have g : ∀ {a b d : Nat}, 2 ≤ a → (a, b, d) ≠ ((2, 0, 3) : Id3) → (a, b, d) ≠ ((4, 0, 1) : Id3) → (a, b, d) ≠ ((4, 0, 8) : Id3) → Y2 (a, b, d) = Y (a, b, d) := fun h2 h3 e1 e8 => (p1 _ e1 e8).trans (f0 h2 h3)
      have gk : ∀ k, 2 ≤ k → ∀ i : Id3, i.1 ≤ 1 → i.2.1 = k → Y2 i = Y i := fun k hk i h1 h2 => (p1 i (n4 h1 (by decide)) (n4 h1 (by decide))).trans (f1 i (fun z => by have := z.2; omega) (n4 h1 (by decide)))
      have g8 : ∀ f, f < 12 → Y2 (4, 0, 8) f = Y (4, 0, 8) f := fun f hf => by rw [p2 f hf, f0 (by decide) (by decide)]
      refine ⟨⟨?_, ?_⟩, ⟨b1, b2, ?_, ?_, ?_, fun j hj => ?_⟩, ⟨?_, fun z => ?_⟩, p3, ⟨?_, ?_, t3, fun j hj => ?_⟩, ?_, ?_, l3, fun j hj => ?_⟩
      · rw [g (by decide) (by decide) (by decide) (by decide)]
        exact k2.congr (fun i h1 _ => p1 i (n4 h1 (by decide)) (n4 h1 (by decide)))
      · rw [g (by decide) (by decide) (by decide) (by decide)]
        exact a2.nn (by omega)
      · rw [g (by decide) (by decide) (by decide) (by decide)]
        exact b3
      · rw [g (by decide) (by decide) (by decide) (by decide)]
        exact b4
      · rw [g8 5 (by decide)]
        exact b5
      · rw [g (by decide) (by decide) (by decide) (by decide)]
        exact ⟨(b6 j hj).1.congr (gk _ (by omega)), (b6 j hj).2.nn (by omega)⟩
      · rw [g (by decide) (by decide) (by decide) (by decide), g8 6 (by decide)]
        exact c1
      · rw [g8 6 (by decide)] at z
        rw [g (by decide) (by decide) (by decide) (by decide)]
        exact ⟨(c2 z).1.congr (gk _ (by decide)), (c2 z).2.nn (by omega)⟩
      · rw [g (by decide) (by decide) (by decide) (by decide)]
        exact t1
      · rw [g8 10 (by decide)]
        exact t2
      · rw [g (by decide) (by decide) (by decide) (by decide), g (by decide) (by decide) (by decide) (by decide)]
        exact t4 j hj
      · rw [g (by decide) (by decide) (by decide) (by decide)]
        exact l1
      · rw [g8 11 (by decide)]
        exact l2
      · rw [g (by decide) (by decide) (by decide) (by decide), g (by decide) (by decide) (by decide) (by decide)]
        exact l4 j hj
    by_cases hneg : q.1 < 0
    · have hd : doY Y1 q = rem1 Y1 := by
        unfold doY endY
        rw [if_neg h0, if_pos hneg, setAct_n h0 hneg]
      have hrr : doR Y1 q = q.1 := by
        unfold doR endX
        rw [if_neg h0, if_pos hneg]
      refine ⟨by rw [k1, if_pos hneg, hrr], c, st, tl, ll, hS _ (fun i e1 _ => by rw [hd, rem1, setA_n e1]) (fun f _ => by rw [hd, rem1, setA_n (by decide)]) ?_⟩
      rw [hd, rem1, setA_n (by decide), setA_n (by decide), k4 hneg, f0 (by decide) (by decide)]
      exact ⟨d1, d2⟩
    · have hpos : 0 < q.1 := ((tri q.1).resolve_left h0).resolve_left hneg
      have hd : doY Y1 q = up (up (up (rem1 Y1) (4, 0, 8) 14 q.2.2) (4, 0, 8) 12 q.1) (4, 0, 8) 13 q.2.2 := by
        unfold doY endY
        rw [if_neg h0, if_neg hneg, setAct_p h0 hneg, up_s, upd_s]
      have hrr : doR Y1 q = -10004 := by
        unfold doR endX
        rw [if_neg h0, if_neg hneg]
      refine ⟨by rw [k1, if_neg hneg, hrr], c, st, tl, ll, hS _ (fun i e1 e8 => by rw [hd, up_n e8, up_n e8, up_n e8, rem1, setA_n e1]) (fun f hf => by rw [hd, up_s, upd_n (by omega), up_s, upd_n (by omega), up_s, upd_n (by omega), rem1, setA_n (by decide)]) ?_⟩
      rw [hd, up_n (by decide), up_n (by decide), up_n (by decide), rem1, setA_n (by decide)]
      exact ⟨by rw [up_s, upd_n (by decide), up_s, upd_s]; exact (k3 hpos).1, by rw [up_s, upd_s]; exact (k3 hpos).2⟩
