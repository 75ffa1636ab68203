/-! THE OTHER CALLS SIDE BY SIDE. -/
theorem Sim.R {Y : YT} {n c st tl ll : Nat} (h : Sim Y n c st tl ll) : RKi Y 0 (Y (4, 0, 0)) := h.1.1
theorem Sim.I {Y : YT} {n c st tl ll : Nat} (h : Sim Y n c st tl ll) : Inv (Y (4, 0, 0)) n 0 := h.1.2
theorem Sim.c8 {Y : YT} {n c st tl ll : Nat} (h : Sim Y n c st tl ll) : c ≤ 8 := h.2.1.1
theorem Sim.s8 {Y : YT} {n c st tl ll : Nat} (h : Sim Y n c st tl ll) : st < 8 := h.2.1.2.1
theorem Sim.k0 {Y : YT} {n c st tl ll : Nat} (h : Sim Y n c st tl ll) : Y (2, 0, 1) 0 = nI c := h.2.1.2.2.1
theorem Sim.k1 {Y : YT} {n c st tl ll : Nat} (h : Sim Y n c st tl ll) : Y (2, 0, 1) 1 = nI st := h.2.1.2.2.2.1
theorem Sim.m5 {Y : YT} {n c st tl ll : Nat} (h : Sim Y n c st tl ll) : Y (4, 0, 8) 5 = nI c := h.2.1.2.2.2.2.1
theorem Sim.hs {Y : YT} {n c st tl ll : Nat} (h : Sim Y n c st tl ll) : ∀ j, j < c → RKi Y (3 + (st + j) % 8) (hisF (Y (4, 0, 4)) j) ∧ Inv (hisF (Y (4, 0, 4)) j) n 0 := h.2.1.2.2.2.2.2
theorem Sim.sv {Y : YT} {n c st tl ll : Nat} (h : Sim Y n c st tl ll) : Y (2, 0, 0) 3 = Y (4, 0, 8) 6 ∧ (¬ Y (4, 0, 8) 6 = 0 → RKi Y 2 (Y (4, 0, 2)) ∧ Inv (Y (4, 0, 2)) n 0) := h.2.2.1
theorem Sim.rs {Y : YT} {n c st tl ll : Nat} (h : Sim Y n c st tl ll) : Y (2, 0, 3) 0 = Y (4, 0, 8) 12 ∧ Y (2, 0, 3) 1 = Y (4, 0, 8) 13 := h.2.2.2.1
theorem Sim.tx {Y : YT} {n c st tl ll : Nat} (h : Sim Y n c st tl ll) : Y (5, 0, 0) 0 = nI tl ∧ Y (4, 0, 8) 10 = nI tl ∧ tl ≤ 60 ∧ ∀ j, j < tl → Y (5, 0, 0) (1 + j) = Y (4, 0, 5) j := h.2.2.2.2.1
theorem Sim.li {Y : YT} {n c st tl ll : Nat} (h : Sim Y n c st tl ll) : Y (5, 0, 1) 0 = nI ll ∧ Y (4, 0, 8) 11 = nI ll ∧ ll ≤ 80 ∧ ∀ j, j < ll → Y (5, 0, 1) (1 + j) = Y (4, 0, 7) j := h.2.2.2.2.2
theorem Sim.h15 {Y : YT} {n c st tl ll : Nat} (h : Sim Y n c st tl ll) : Y (4, 0, 0) 15 = nI (nn (Y (4, 0, 0) 15)) := h.I.mb.np.1
theorem Sim.np {Y : YT} {n c st tl ll : Nat} (h : Sim Y n c st tl ll) : nn (Y (4, 0, 0) 15) ≤ 8 := h.I.mb.np.2
theorem Sim.h8 {Y : YT} {n c st tl ll : Nat} (h : Sim Y n c st tl ll) : Y (4, 0, 0) 8 = nI (nn (Y (4, 0, 0) 8)) := h.I.mb.lg.1
theorem Sim.lg {Y : YT} {n c st tl ll : Nat} (h : Sim Y n c st tl ll) : nn (Y (4, 0, 0) 8) ≤ 5 := h.I.mb.lg.2
theorem Sim.ok {Y : YT} {n c st tl ll : Nat} (h : Sim Y n c st tl ll) (hn : n ≤ 90000) : MOK (Y (4, 0, 0)) := h.I.mb.ok (by omega)
theorem Sim.h14 {Y : YT} {n c st tl ll : Nat} (h : Sim Y n c st tl ll) : ∃ ln, ln ≤ 12 ∧ Y (4, 0, 0) 14 = nI ln := by
  obtain ⟨-, ⟨d, a, mi, -, -, -, -, -, -, -, -, e⟩, -⟩ := h.I
  exact ⟨m12 mi, m12_le mi, e⟩
theorem ActK.m {Y Y' : YT} {c st n : Nat} {s : Nat → Int32} {q : ActT} {r : Int32} (h : ActK Y Y' c st n s q r) (d : Nat) : Y' (4, 0, d) = Y (4, 0, d) := by
  by_cases h0 : q.1 = 0
  · exact (h.1 h0).2.2.2.2.2.2 _ (fun z => absurd z.1 (show ¬ (4 : Nat) ≤ 1 by decide)) (fun z => by injection z with z1; exact absurd z1 (by decide))
  · exact (h.2 h0).2.2.2.2 _ (fun z => absurd z.1 (show ¬ (4 : Nat) ≤ 1 by decide)) (fun z => by injection z with z1; exact absurd z1 (by decide))
theorem FrK.m {Y Y' : YT} {k : Nat} (h : FrK Y Y' k) (d : Nat) : Y' (4, 0, d) = Y (4, 0, d) := h _ (fun z => absurd z.1 (show ¬ (4 : Nat) ≤ 1 by decide))
/-- the texts may change -/
theorem Sim.tx2 {Y Y' : YT} {n c st tl ll tl' ll' : Nat} (h : Sim Y n c st tl ll) (hf : ∀ i : Id3, i.1 ≠ 3 → i ≠ (5, 0, 0) → i ≠ (5, 0, 1) → i ≠ (4, 0, 5) → i ≠ (4, 0, 7) → i ≠ (4, 0, 8) → Y' i = Y i) (hg : ∀ f, f < 14 → f ≠ 10 → f ≠ 11 → Y' (4, 0, 8) f = Y (4, 0, 8) f)
    (ht : Y' (5, 0, 0) 0 = nI tl' ∧ Y' (4, 0, 8) 10 = nI tl' ∧ tl' ≤ 60 ∧ ∀ j, j < tl' → Y' (5, 0, 0) (1 + j) = Y' (4, 0, 5) j) (hl : Y' (5, 0, 1) 0 = nI ll' ∧ Y' (4, 0, 8) 11 = nI ll' ∧ ll' ≤ 80 ∧ ∀ j, j < ll' → Y' (5, 0, 1) (1 + j) = Y' (4, 0, 7) j) : Sim Y' n c st tl' ll' := by
  have q : ∀ {a b d : Nat}, a ≠ 3 → (a, b, d) ≠ ((5, 0, 0) : Id3) → (a, b, d) ≠ ((5, 0, 1) : Id3) → (a, b, d) ≠ ((4, 0, 5) : Id3) → (a, b, d) ≠ ((4, 0, 7) : Id3) → (a, b, d) ≠ ((4, 0, 8) : Id3) → Y' (a, b, d) = Y (a, b, d) := fun {a b d} h3 g1 g2 g3 g4 g5 => hf _ h3 g1 g2 g3 g4 g5
  have e40 : Y' (4, 0, 0) = Y (4, 0, 0) := q (by decide) (by decide) (by decide) (by decide) (by decide) (by decide)
  have e42 : Y' (4, 0, 2) = Y (4, 0, 2) := q (by decide) (by decide) (by decide) (by decide) (by decide) (by decide)
  have e44 : Y' (4, 0, 4) = Y (4, 0, 4) := q (by decide) (by decide) (by decide) (by decide) (by decide) (by decide)
  have e20 : Y' (2, 0, 0) = Y (2, 0, 0) := q (by decide) (by decide) (by decide) (by decide) (by decide) (by decide)
  have e21 : Y' (2, 0, 1) = Y (2, 0, 1) := q (by decide) (by decide) (by decide) (by decide) (by decide) (by decide)
  have e23 : Y' (2, 0, 3) = Y (2, 0, 3) := q (by decide) (by decide) (by decide) (by decide) (by decide) (by decide)
  have ek : ∀ i : Id3, i.1 ≤ 1 → Y' i = Y i := fun i h1 => hf i (by omega) (n4 h1 (by decide)) (n4 h1 (by decide)) (n4 h1 (by decide)) (n4 h1 (by decide)) (n4 h1 (by decide))
  obtain ⟨⟨a1, a2⟩, ⟨b1, b2, b3, b4, b5, b6⟩, ⟨c1, c2⟩, ⟨d1, d2⟩, -, -⟩ := h
  refine ⟨⟨by rw [e40]; exact a1.congr (fun i h1 _ => ek i h1), by rw [e40]; exact a2⟩, ⟨b1, b2, by rw [e21]; exact b3, by rw [e21]; exact b4, by rw [hg 5 (by decide) (by decide) (by decide)]; exact b5, fun j hj => ?_⟩, ⟨by rw [e20, hg 6 (by decide) (by decide) (by decide)]; exact c1, fun z => ?_⟩, ⟨by rw [e23, hg 12 (by decide) (by decide) (by decide)]; exact d1, by rw [e23, hg 13 (by decide) (by decide) (by decide)]; exact d2⟩, ht, hl⟩
  · rw [e44]
    exact ⟨(b6 j hj).1.congr (fun i h1 _ => ek i h1), (b6 j hj).2⟩
  · rw [hg 6 (by decide) (by decide) (by decide)] at z
    rw [e42]
    exact ⟨(c2 z).1.congr (fun i h1 _ => ek i h1), (c2 z).2⟩
/-- two lines that agree as far as they are written -/
def AgL (q q' : LSt) : Prop := q.1 = q'.1 ∧ ∀ f, f < q.1 → q.2 f = q'.2 f
theorem AgL.c {q q' : LSt} (h : AgL q q') (x : Int32) : AgL (wC x q) (wC x q') := by
  refine ⟨by show q.1 + 1 = q'.1 + 1; rw [h.1], fun f hf => ?_⟩
  show upd q.2 q.1 x f = upd q'.2 q'.1 x f
  rw [← h.1]
  by_cases e : f = q.1
  · subst e
    rw [upd_s, upd_s]
  · rw [upd_n e, upd_n e]
    exact h.2 f (by have : f < q.1 + 1 := hf; omega)
theorem AgL.n {q q' : LSt} (h : AgL q q') (v : Nat) : AgL (wN v q) (wN v q') := by
  refine ⟨by show q.1 + _ = q'.1 + _; rw [h.1], fun f hf => ?_⟩
  show lnI q.2 q.1 v (sb_dg v) f = lnI q'.2 q'.1 v (sb_dg v) f
  rw [← h.1]
  unfold lnI
  by_cases e : q.1 ≤ f ∧ f < q.1 + sb_dg v
  · rw [if_pos e, if_pos e]
  · rw [if_neg e, if_neg e]
    exact h.2 f (by have : f < q.1 + sb_dg v := hf; omega)
theorem AgL.z (y z : Nat → Int32) : AgL (0, y) (0, z) := ⟨rfl, fun _ h => absurd h (Nat.not_lt_zero _)⟩
theorem ag_tell {s : Nat → Int32} {q q' : LSt} : ∀ i, AgL (tellL s i q) (tellL s i q')
  | 0 => (((((((AgL.z q.2 q'.2).n _).c _).n _).c _).n _).c _).n _
  | i + 1 => ((ag_tell i).c _).n _
theorem ag_tp {s : Nat → Int32} {p : Nat} {q q' : LSt} : AgL (tellPL s p q) (tellPL s p q') := ((((((((((AgL.z q.2 q'.2).n _).c _).n _).c _).n _).c _).n _).c _).n _).c _
theorem tp_le {s : Nat → Int32} {p : Nat} {q : LSt} (hp : p < 10000) (h1 : nn (s (171 + p)) < 10000) (h2 : nn (s (179 + p)) < 10000) (h3 : nn (s (203 + p)) < 10000) (h4 : nn (s (187 + p)) < 10000) : (tellPL s p q).1 ≤ 25 := by
  have := dg4 hp
  have := dg4 h1
  have := dg4 h2
  have := dg4 h3
  have := dg4 h4
  show 0 + sb_dg p + 1 + sb_dg (nn (s (171 + p))) + 1 + sb_dg (nn (s (179 + p))) + 1 + sb_dg (nn (s (203 + p))) + 1 + sb_dg (nn (s (187 + p))) + 1 ≤ 25
  omega
theorem Sim.ln {Y : YT} {n c st tl ll : Nat} {q q' : LSt} (h : Sim Y n c st tl ll) (ha : AgL q q') (h8 : q.1 ≤ 80) : nI q.1 = nI q'.1 ∧ Sim (lnP (lnS Y q) q') n c st tl q.1 := by
  have e : ∀ i : Id3, i ≠ (5, 0, 1) → i ≠ (4, 0, 7) → i ≠ (4, 0, 8) → lnP (lnS Y q) q' i = Y i := fun i h1 h2 h3 => by rw [lnP, setA_n h2, up_n h3, lnS_n h1]
  have e8 : lnP (lnS Y q) q' (4, 0, 8) = upd (Y (4, 0, 8)) 11 (nI q'.1) := by rw [lnP, setA_n (by decide), up_s, lnS_n (by decide)]
  have e51 : lnP (lnS Y q) q' (5, 0, 1) = lnS Y q (5, 0, 1) := by rw [lnP, setA_n (by decide), up_n (by decide)]
  obtain ⟨t1, t2, t3, t4⟩ := h.tx
  refine ⟨by rw [ha.1], h.tx2 (fun i _ _ h1 _ h2 h3 => e i h1 h2 h3) (fun f _ _ h11 => by rw [e8, upd_n h11]) ⟨by rw [e _ (by decide) (by decide) (by decide)]; exact t1, by rw [e8, upd_n (by decide)]; exact t2, t3, fun j hj => by rw [e _ (by decide) (by decide) (by decide), e _ (by decide) (by decide) (by decide)]; exact t4 j hj⟩ ⟨by rw [e51, lnS_0], by rw [e8, upd_s, ha.1], h8, fun j hj => ?_⟩⟩
  rw [e51, lnS_f, lnP, setA_s]
  exact ha.2 j hj
theorem sim_app {Y Y1 Y2 : YT} {n c st tl ll : Nat} {x r r' : Int32} (h : Sim Y n c st tl ll) (h1 : r = (if 32 ≤ x ∧ x ≤ 126 then (if tl = 60 then -10003 else nI (tl + 1)) else -10002) ∧ Y1 = if 32 ≤ x ∧ x ≤ 126 then (if tl = 60 then Y else sbC Y 0 tl x) else Y) (hr : r' = appR Y1 x) (hY : Y2 = appY Y1 x) : r = r' ∧ SimE Y2 n := by
  obtain ⟨h1, h2⟩ := h1
  subst h1 h2 hr hY
  obtain ⟨t1, t2, t3, t4⟩ := h.tx
  unfold appR appY
  by_cases hx : 32 ≤ x ∧ x ≤ 126
  · rw [if_pos hx, if_pos hx, if_pos hx, if_pos hx]
    by_cases h6 : tl = 60
    · rw [if_pos h6, if_pos h6, t2, if_pos (by rw [h6]; rfl), if_pos (by rw [h6]; rfl)]
      exact ⟨rfl, _, _, _, _, h⟩
    · have hne : ¬ nI tl = 60 := fun z => h6 ((nI_eq (b := 60) (by omega) (by decide)).mp z)
      have e8 : sbC Y 0 tl x (4, 0, 8) = Y (4, 0, 8) := by rw [sbC, setA_n (by decide)]
      rw [if_neg h6, if_neg h6, e8, t2, if_neg hne, if_neg hne, nn_nI (by omega), show nI tl + 1 = nI (tl + 1) from nI_add tl 1]
      refine ⟨rfl, c, st, tl + 1, ll, ?_⟩
      have e : ∀ i : Id3, i ≠ (5, 0, 0) → i ≠ (4, 0, 5) → i ≠ (4, 0, 8) → up (up (sbC Y 0 tl x) (4, 0, 5) tl x) (4, 0, 8) 10 (nI (tl + 1)) i = Y i := fun i g1 g2 g3 => by rw [up_n g3, up_n g2, sbC, setA_n g1]
      have f8 : up (up (sbC Y 0 tl x) (4, 0, 5) tl x) (4, 0, 8) 10 (nI (tl + 1)) (4, 0, 8) = upd (Y (4, 0, 8)) 10 (nI (tl + 1)) := by rw [up_s, up_n (by decide), e8]
      have f5 : up (up (sbC Y 0 tl x) (4, 0, 5) tl x) (4, 0, 8) 10 (nI (tl + 1)) (4, 0, 5) = upd (Y (4, 0, 5)) tl x := by rw [up_n (by decide), up_s, sbC, setA_n (by decide)]
      have f50 : up (up (sbC Y 0 tl x) (4, 0, 5) tl x) (4, 0, 8) 10 (nI (tl + 1)) (5, 0, 0) = upd (upd (Y (5, 0, 0)) (1 + tl) x) 0 (nI (tl + 1)) := by rw [up_n (by decide), up_n (by decide), sbC, setA_s]
      obtain ⟨l1, l2, l3, l4⟩ := h.li
      refine h.tx2 (fun i _ g1 _ g2 _ g3 => e i g1 g2 g3) (fun f _ h10 _ => by rw [f8, upd_n h10]) ⟨by rw [f50, upd_s], by rw [f8, upd_s], by omega, fun j hj => ?_⟩ ⟨by rw [e _ (by decide) (by decide) (by decide)]; exact l1, by rw [f8, upd_n (by decide)]; exact l2, l3, fun j hj => by rw [e _ (by decide) (by decide) (by decide), e _ (by decide) (by decide) (by decide)]; exact l4 j hj⟩
      rw [f50, f5, upd_n (by omega)]
      by_cases hj2 : j = tl
      · subst hj2
        rw [upd_s, upd_s]
      · rw [upd_n (by omega), upd_n hj2]
        exact t4 j (by omega)
  · rw [if_neg hx, if_neg hx, if_neg hx, if_neg hx]
    exact ⟨rfl, _, _, _, _, h⟩
theorem nn_lt {i : Int32} {m : Nat} (hm : m < 2 ^ 31) (h : 0 ≤ i ∧ i < nI m) : nn i < m := by
  obtain ⟨h1, h2⟩ := h
  rw [Int32.le_iff_toInt_le, Int32.toInt_zero] at h1
  rw [Int32.lt_iff_toInt_lt, nI_toInt hm] at h2
  have : nn i = i.toInt.toNat := rfl
  omega
theorem rng_ll {p : Int32} {m : Nat} (hm : m ≤ 80) : (0 ≤ p ∧ p < nI m) ↔ (0 ≤ p ∧ p ≤ nI m - 1) := by
  have hs : (nI m - 1).toInt = (m : Int) - 1 := pk_sub_toInt (b := 1) (by omega) (by decide)
  rw [Int32.lt_iff_toInt_lt, Int32.le_iff_toInt_le (x := p) (y := nI m - 1), hs, nI_toInt (by omega)]
  constructor
  · rintro ⟨h1, h2⟩
    exact ⟨h1, by omega⟩
  · rintro ⟨h1, h2⟩
    exact ⟨h1, by omega⟩
theorem sim_chr {Y : YT} {n c st tl ll : Nat} {i r r' : Int32} (h : Sim Y n c st tl ll) (h1 : r = (if 0 ≤ i ∧ i < nI ll then Y (5, 0, 1) (1 + nn i) else -10001)) (hr : r' = charF Y i) : r = r' := by
  subst h1 hr
  obtain ⟨l1, l2, l3, l4⟩ := h.li
  unfold charF
  rw [l2]
  by_cases hi : 0 ≤ i ∧ i < nI ll
  · rw [if_pos hi, if_pos ((rng_ll l3).mp hi)]
    exact l4 _ (nn_lt (by omega) hi)
  · rw [if_neg hi, if_neg (fun z => hi ((rng_ll l3).mpr z))]
theorem sim_why {Y : YT} {n c st tl ll : Nat} {b : Int32} (h : Sim Y n c st tl ll) : (if Y (2, 0, 3) 0 = 0 then -10005 else if b = 0 then Y (2, 0, 3) 0 else Y (2, 0, 3) 1) = reasF Y b := by
  rw [h.rs.1, h.rs.2]
  rfl
theorem sim_undo {Y Y1 Y2 : YT} {n c st tl ll : Nat} {r r' : Int32} (h : Sim Y n c st tl ll) (h1 : (c = 0 → r = -10005 ∧ Y1 = Y) ∧ (c ≠ 0 → r = nI (c - 1) ∧ Y1 (2, 0, 1) 0 = nI (c - 1) ∧ Y1 (2, 0, 1) 1 = nI st ∧ RKi Y1 0 (hisF (Y (4, 0, 4)) (c - 1)) ∧ ∀ i : Id3, ¬ (i.1 ≤ 1 ∧ i.2.1 = 0) → i ≠ (2, 0, 1) → Y1 i = Y i)) (hr : r' = undoR Y1) (hY : Y2 = undoY Y1) : r = r' ∧ SimE Y2 n := by
  subst hr hY
  have hc8 := h.c8
  unfold undoR undoY
  by_cases hc : c = 0
  · obtain ⟨rfl, rfl⟩ := h1.1 hc
    rw [h.m5, if_pos (by rw [hc]; rfl), if_pos (by rw [hc]; rfl)]
    exact ⟨rfl, _, _, _, _, h⟩
  · obtain ⟨rfl, g1, g2, g3, g4⟩ := h1.2 hc
    have f : ∀ {a b d : Nat}, 2 ≤ a → (a, b, d) ≠ ((2, 0, 1) : Id3) → Y1 (a, b, d) = Y (a, b, d) := fun {a b d} h2 h3 => g4 _ (fun z => absurd z.1 (show ¬ a ≤ 1 by omega)) h3
    have e8 : Y1 (4, 0, 8) = Y (4, 0, 8) := f (by decide) (by decide)
    have e4 : Y1 (4, 0, 4) = Y (4, 0, 4) := f (by decide) (by decide)
    have hne : ¬ nI c = 0 := fun z => hc ((nI_eq (b := 0) (by omega) (by decide)).mp z)
    have hpr : nI c - 1 = nI (c - 1) := by
      obtain ⟨d, rfl⟩ : ∃ d, c = d + 1 := ⟨c - 1, by omega⟩
      rw [nI_pred, Nat.add_sub_cancel]
    rw [e8, h.m5, if_neg hne, if_neg hne, hpr, nn_nI (by omega), e4]
    have k0 : ∀ i : Id3, i ≠ (4, 0, 0) → i ≠ (4, 0, 8) → setA (up Y1 (4, 0, 8) 5 (nI (c - 1))) (4, 0, 0) (hisF (Y (4, 0, 4)) (c - 1)) i = Y1 i := fun i q0 q8 => by rw [setA_n q0, up_n q8]
    have k4 : setA (up Y1 (4, 0, 8) 5 (nI (c - 1))) (4, 0, 0) (hisF (Y (4, 0, 4)) (c - 1)) (4, 0, 0) = hisF (Y (4, 0, 4)) (c - 1) := setA_s
    have k8 : setA (up Y1 (4, 0, 8) 5 (nI (c - 1))) (4, 0, 0) (hisF (Y (4, 0, 4)) (c - 1)) (4, 0, 8) = upd (Y (4, 0, 8)) 5 (nI (c - 1)) := by rw [setA_n (by decide), up_s, e8]
    have kk : ∀ {a b d : Nat}, 2 ≤ a → (a, b, d) ≠ ((2, 0, 1) : Id3) → (a, b, d) ≠ ((4, 0, 0) : Id3) → (a, b, d) ≠ ((4, 0, 8) : Id3) → setA (up Y1 (4, 0, 8) 5 (nI (c - 1))) (4, 0, 0) (hisF (Y (4, 0, 4)) (c - 1)) (a, b, d) = Y (a, b, d) := fun h2 h3 h4 h5 => (k0 _ h4 h5).trans (f h2 h3)
    have kr : ∀ i : Id3, i.1 ≤ 1 → i.2.1 ≠ 0 → setA (up Y1 (4, 0, 8) 5 (nI (c - 1))) (4, 0, 0) (hisF (Y (4, 0, 4)) (c - 1)) i = Y i := fun i h2 h3 => (k0 i (n4 h2 (by decide)) (n4 h2 (by decide))).trans (g4 i (fun z => h3 z.2) (n4 h2 (by decide)))
    obtain ⟨⟨a1, a2⟩, ⟨b1, b2, b3, b4, b5, b6⟩, ⟨c1, c2⟩, ⟨d1, d2⟩, ⟨t1, t2, t3, t4⟩, l1, l2, l3, l4⟩ := h
    refine ⟨rfl, c - 1, st, tl, ll, ⟨?_, ?_⟩, ⟨by omega, b2, ?_, ?_, ?_, fun j hj => ?_⟩, ⟨?_, fun z => ?_⟩, ⟨?_, ?_⟩, ⟨?_, ?_, t3, fun j hj => ?_⟩, ?_, ?_, l3, fun j hj => ?_⟩
    · rw [k4]
      exact g3.congr (fun i h1 _ => k0 i (n4 h1 (by decide)) (n4 h1 (by decide)))
    · rw [k4]
      exact (b6 (c - 1) (by omega)).2
    · rw [k0 _ (by decide) (by decide)]
      exact g1
    · rw [k0 _ (by decide) (by decide)]
      exact g2
    · rw [k8, upd_s]
    · rw [kk (by decide) (by decide) (by decide) (by decide)]
      exact ⟨(b6 j (by omega)).1.congr (fun i h1 h2 => kr i h1 (by omega)), (b6 j (by omega)).2⟩
    · rw [kk (by decide) (by decide) (by decide) (by decide), k8, upd_n (by decide)]
      exact c1
    · rw [k8, upd_n (by decide)] at z
      rw [kk (by decide) (by decide) (by decide) (by decide)]
      exact ⟨(c2 z).1.congr (fun i h1 h2 => kr i h1 (by omega)), (c2 z).2⟩
    · rw [kk (by decide) (by decide) (by decide) (by decide), k8, upd_n (by decide)]
      exact d1
    · rw [kk (by decide) (by decide) (by decide) (by decide), k8, upd_n (by decide)]
      exact d2
    · rw [kk (by decide) (by decide) (by decide) (by decide)]
      exact t1
    · rw [k8, upd_n (by decide)]
      exact t2
    · rw [kk (by decide) (by decide) (by decide) (by decide), kk (by decide) (by decide) (by decide) (by decide)]
      exact t4 j hj
    · rw [kk (by decide) (by decide) (by decide) (by decide)]
      exact l1
    · rw [k8, upd_n (by decide)]
      exact l2
    · rw [kk (by decide) (by decide) (by decide) (by decide), kk (by decide) (by decide) (by decide) (by decide)]
      exact l4 j hj
theorem sim_save {Y Y1 Y2 : YT} {n c st tl ll : Nat} {r r' : Int32} (h : Sim Y n c st tl ll) (h1 : r = Y (4, 0, 0) 12 ∧ RKi Y1 2 (Y (4, 0, 0)) ∧ Y1 (2, 0, 0) 3 = 1 ∧ ∀ i : Id3, ¬ (i.1 ≤ 1 ∧ i.2.1 = 2) → i ≠ (2, 0, 0) → Y1 i = Y i) (hr : r' = Y1 (4, 0, 0) 12) (hY : Y2 = saveY Y1) : r = r' ∧ SimE Y2 n := by
  obtain ⟨g0, g3, g2, g4⟩ := h1
  subst hr hY
  have f : ∀ {a b d : Nat}, 2 ≤ a → (a, b, d) ≠ ((2, 0, 0) : Id3) → Y1 (a, b, d) = Y (a, b, d) := fun {a b d} h2 h3 => g4 _ (fun z => absurd z.1 (show ¬ a ≤ 1 by omega)) h3
  have e0 : Y1 (4, 0, 0) = Y (4, 0, 0) := f (by decide) (by decide)
  obtain ⟨Z, hZ⟩ : ∃ Z, Z = saveY Y1 := ⟨_, rfl⟩
  rw [← hZ]
  have k0 : ∀ i : Id3, i ≠ (4, 0, 2) → i ≠ (4, 0, 8) → Z i = Y1 i := fun i q0 q8 => by rw [hZ, saveY, up_n q8, setA_n q0]
  have k2 : Z (4, 0, 2) = Y (4, 0, 0) := by rw [hZ, saveY, up_n (by decide), setA_s, e0]
  have k8 : Z (4, 0, 8) = upd (Y (4, 0, 8)) 6 1 := by rw [hZ, saveY, up_s, setA_n (by decide), f (by decide) (by decide)]
  have kk : ∀ {a b d : Nat}, 2 ≤ a → (a, b, d) ≠ ((2, 0, 0) : Id3) → (a, b, d) ≠ ((4, 0, 2) : Id3) → (a, b, d) ≠ ((4, 0, 8) : Id3) → Z (a, b, d) = Y (a, b, d) := fun h2 h3 h4 h5 => (k0 _ h4 h5).trans (f h2 h3)
  have kr : ∀ i : Id3, i.1 ≤ 1 → i.2.1 ≠ 2 → Z i = Y i := fun i h2 h3 => (k0 i (n4 h2 (by decide)) (n4 h2 (by decide))).trans (g4 i (fun z => h3 z.2) (n4 h2 (by decide)))
  obtain ⟨⟨a1, a2⟩, ⟨b1, b2, b3, b4, b5, b6⟩, ⟨c1, c2⟩, ⟨d1, d2⟩, ⟨t1, t2, t3, t4⟩, l1, l2, l3, l4⟩ := h
  refine ⟨by rw [g0, e0], c, st, tl, ll, ⟨?_, ?_⟩, ⟨b1, b2, ?_, ?_, ?_, fun j hj => ?_⟩, ⟨?_, fun z => ?_⟩, ⟨?_, ?_⟩, ⟨?_, ?_, t3, fun j hj => ?_⟩, ?_, ?_, l3, fun j hj => ?_⟩
  · rw [kk (by decide) (by decide) (by decide) (by decide)]
    exact a1.congr (fun i h1 h2 => kr i h1 (by omega))
  · rw [kk (by decide) (by decide) (by decide) (by decide)]
    exact a2
  · rw [kk (by decide) (by decide) (by decide) (by decide)]
    exact b3
  · rw [kk (by decide) (by decide) (by decide) (by decide)]
    exact b4
  · rw [k8, upd_n (by decide)]
    exact b5
  · rw [kk (by decide) (by decide) (by decide) (by decide)]
    exact ⟨(b6 j hj).1.congr (fun i h1 h2 => kr i h1 (by omega)), (b6 j hj).2⟩
  · rw [k0 _ (by decide) (by decide), g2, k8, upd_s]
  · rw [k2]
    exact ⟨g3.congr (fun i h1 _ => k0 i (n4 h1 (by decide)) (n4 h1 (by decide))), a2⟩
  · rw [kk (by decide) (by decide) (by decide) (by decide), k8, upd_n (by decide)]
    exact d1
  · rw [kk (by decide) (by decide) (by decide) (by decide), k8, upd_n (by decide)]
    exact d2
  · rw [kk (by decide) (by decide) (by decide) (by decide)]
    exact t1
  · rw [k8, upd_n (by decide)]
    exact t2
  · rw [kk (by decide) (by decide) (by decide) (by decide), kk (by decide) (by decide) (by decide) (by decide)]
    exact t4 j hj
  · rw [kk (by decide) (by decide) (by decide) (by decide)]
    exact l1
  · rw [k8, upd_n (by decide)]
    exact l2
  · rw [kk (by decide) (by decide) (by decide) (by decide), kk (by decide) (by decide) (by decide) (by decide)]
    exact l4 j hj
/-- the row that comes back -/
def bkS (Y : YT) : Nat → Int32 := if Y (4, 0, 8) 6 = 0 then Y (4, 0, 0) else Y (4, 0, 2)
theorem sim_bk {Y : YT} {n c st tl ll : Nat} (h : Sim Y n c st tl ll) : (¬ Y (2, 0, 0) 3 = 0 → RKi Y 2 (bkS Y)) ∧ MB (bkS Y) n := by
  obtain ⟨h1, h2⟩ := h.sv
  unfold bkS
  rw [h1]
  by_cases z : Y (4, 0, 8) 6 = 0
  · rw [if_pos z]
    exact ⟨fun q => absurd z q, h.I.mb⟩
  · rw [if_neg z]
    exact ⟨fun _ => (h2 z).1, (h2 z).2.mb⟩
theorem sim_rest {Y Y1 Y2 : YT} {n c st tl ll : Nat} {r r' : Int32} (h : Sim Y n c st tl ll) (h1 : (Y (2, 0, 0) 3 = 0 → r = -10005 ∧ Y1 = Y) ∧ (¬ Y (2, 0, 0) 3 = 0 → r = bkS Y 12 ∧ RKi Y1 0 (bkS Y) ∧ Y1 (2, 0, 1) 0 = 0 ∧ Y1 (2, 0, 1) 1 = Y (2, 0, 1) 1 ∧ ∀ i : Id3, ¬ (i.1 ≤ 1 ∧ i.2.1 = 0) → i ≠ (2, 0, 1) → Y1 i = Y i)) (hr : r' = restR Y1) (hY : Y2 = restY Y1) : r = r' ∧ SimE Y2 n := by
  obtain ⟨hv, hw⟩ := h.sv
  rw [hv] at h1
  by_cases z : Y (4, 0, 8) 6 = 0
  · obtain ⟨g1, g2⟩ := h1.1 z
    subst g2
    rw [restR, if_pos z] at hr
    rw [restY, if_pos z] at hY
    subst hY
    exact ⟨g1.trans hr.symm, _, _, _, _, h⟩
  · obtain ⟨g0, g3, g1, g2, g4⟩ := h1.2 z
    have hb : bkS Y = Y (4, 0, 2) := by rw [bkS, if_neg z]
    rw [hb] at g0 g3
    have f : ∀ {a b d : Nat}, 2 ≤ a → (a, b, d) ≠ ((2, 0, 1) : Id3) → Y1 (a, b, d) = Y (a, b, d) := fun {a b d} h2 h3 => g4 _ (fun z => absurd z.1 (show ¬ a ≤ 1 by omega)) h3
    have e8 : Y1 (4, 0, 8) = Y (4, 0, 8) := f (by decide) (by decide)
    have e2 : Y1 (4, 0, 2) = Y (4, 0, 2) := f (by decide) (by decide)
    rw [restR, e8, if_neg z, e2] at hr
    rw [restY, e8, if_neg z, e2] at hY
    subst hr
    have k0 : ∀ i : Id3, i ≠ (4, 0, 0) → i ≠ (4, 0, 8) → Y2 i = Y1 i := fun i q0 q8 => by rw [hY, up_n q8, setA_n q0]
    have k4 : Y2 (4, 0, 0) = Y (4, 0, 2) := by rw [hY, up_n (by decide), setA_s]
    have k8 : Y2 (4, 0, 8) = upd (Y (4, 0, 8)) 5 0 := by rw [hY, up_s, setA_n (by decide), e8]
    have kk : ∀ {a b d : Nat}, 2 ≤ a → (a, b, d) ≠ ((2, 0, 1) : Id3) → (a, b, d) ≠ ((4, 0, 0) : Id3) → (a, b, d) ≠ ((4, 0, 8) : Id3) → Y2 (a, b, d) = Y (a, b, d) := fun h2 h3 h4 h5 => (k0 _ h4 h5).trans (f h2 h3)
    have kr : ∀ i : Id3, i.1 ≤ 1 → i.2.1 ≠ 0 → Y2 i = Y i := fun i h2 h3 => (k0 i (n4 h2 (by decide)) (n4 h2 (by decide))).trans (g4 i (fun z => h3 z.2) (n4 h2 (by decide)))
    obtain ⟨⟨a1, a2⟩, ⟨b1, b2, b3, b4, b5, b6⟩, ⟨c1, c2⟩, ⟨d1, d2⟩, ⟨t1, t2, t3, t4⟩, l1, l2, l3, l4⟩ := h
    refine ⟨g0, 0, st, tl, ll, ⟨?_, ?_⟩, ⟨by omega, b2, ?_, ?_, ?_, fun j hj => absurd hj (Nat.not_lt_zero _)⟩, ⟨?_, fun z => ?_⟩, ⟨?_, ?_⟩, ⟨?_, ?_, t3, fun j hj => ?_⟩, ?_, ?_, l3, fun j hj => ?_⟩
    · rw [k4]
      exact g3.congr (fun i h1 _ => k0 i (n4 h1 (by decide)) (n4 h1 (by decide)))
    · rw [k4]
      exact (hw z).2
    · rw [k0 _ (by decide) (by decide)]
      exact g1
    · rw [k0 _ (by decide) (by decide), g2]
      exact b4
    · rw [k8, upd_s]
      rfl
    · rw [kk (by decide) (by decide) (by decide) (by decide), k8, upd_n (by decide)]
      exact c1
    · rw [k8, upd_n (by decide)] at z
      rw [kk (by decide) (by decide) (by decide) (by decide)]
      exact ⟨(c2 z).1.congr (fun i h1 h2 => kr i h1 (by omega)), (c2 z).2⟩
    · rw [kk (by decide) (by decide) (by decide) (by decide), k8, upd_n (by decide)]
      exact d1
    · rw [kk (by decide) (by decide) (by decide) (by decide), k8, upd_n (by decide)]
      exact d2
    · rw [kk (by decide) (by decide) (by decide) (by decide)]
      exact t1
    · rw [k8, upd_n (by decide)]
      exact t2
    · rw [kk (by decide) (by decide) (by decide) (by decide), kk (by decide) (by decide) (by decide) (by decide)]
      exact t4 j hj
    · rw [kk (by decide) (by decide) (by decide) (by decide)]
      exact l1
    · rw [k8, upd_n (by decide)]
      exact l2
    · rw [kk (by decide) (by decide) (by decide) (by decide), kk (by decide) (by decide) (by decide) (by decide)]
      exact l4 j hj
