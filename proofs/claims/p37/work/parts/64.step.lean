/-! WHAT A DRAWN CALL MAKES OF THE KEEPER: it is refused, and the rows stay; or it is done, and the row before it is kept. -/
def nxt (c : Nat) : Nat := if c = 8 then 8 else c + 1
theorem push_ok {Z : YT} {c : Nat} {s h : Nat → Int32} (hc : c ≤ 8) (z5 : Z (4, 0, 8) 5 = nI c) (z1 : Z (4, 0, 1) = s) (z4 : Z (4, 0, 4) = h) : hpush Z (4, 0, 8) 5 = nI (nxt c) ∧ cutS (hisF (hpush Z (4, 0, 4)) (nxt c - 1)) = cutS s ∧ ∀ j, j + 1 < nxt c → cutS (hisF (hpush Z (4, 0, 4)) j) = cutS (hisF h (if c = 8 then j + 1 else j)) := by
  by_cases h8 : c = 8
  · subst h8
    have e : hpush Z = setA Z (4, 0, 4) (lay (shl4 h 1589) s (227 * 7) 227) := by
      unfold hpush
      rw [if_pos (by rw [z5]; rfl), z4, z1]
    have n8 : nxt 8 = 8 := rfl
    have e4 : hpush Z (4, 0, 4) = lay (shl4 h 1589) s (227 * 7) 227 := by rw [e, setA_s]
    rw [n8, e4]
    refine ⟨by rw [e, setA_n (by decide), z5], cut_eq (fun f hf => by rw [his_lay hf, if_pos rfl]), fun j hj => ?_⟩
    rw [if_pos rfl]
    exact cut_eq (fun f hf => by rw [his_lay hf, if_neg (by omega), his_shl (by omega) hf])
  · have e : hpush Z = setA (up Z (4, 0, 8) 5 (nI c + 1)) (4, 0, 4) (lay h s (227 * c) 227) := by
      unfold hpush
      rw [if_neg (by rw [z5]; exact fun q => h8 ((nI_eq (b := 8) (by omega) (by decide)).mp q)), z4, z1, z5, nn_nI (by omega), show c + 1 - 1 = c by omega]
    have n8 : nxt c = c + 1 := if_neg h8
    have e4 : hpush Z (4, 0, 4) = lay h s (227 * c) 227 := by rw [e, setA_s]
    rw [n8, e4]
    refine ⟨by rw [e, setA_n (by decide), up_s, upd_s]; exact nI_add c 1, cut_eq (fun f hf => by rw [show c + 1 - 1 = c by omega, his_lay hf, if_pos rfl]), fun j hj => ?_⟩
    rw [if_neg h8]
    exact cut_eq (fun f hf => by rw [his_lay hf, if_neg (by omega)])
def StepG (c c' : Nat) (g g' : GH) (r : Int32) : Prop := (r ≤ -10001 ∧ c' = c ∧ g'.1 = g.1 ∧ g'.2.1 = g.2.1) ∨ (0 ≤ r ∧ c' = nxt c ∧ cutS (hisF g'.2.1 (c' - 1)) = cutS g.1 ∧ ∀ j, j + 1 < c' → cutS (hisF g'.2.1 j) = cutS (hisF g.2.1 (if c = 8 then j + 1 else j)))
def DP (n c : Nat) (g : GH) (r : Int32) (Y' : YT) : Prop := ¬ r = -1010002 ∧ ∃ (c' st' ll' : Nat) (g' : GH), SS Y' (n + 12) c' st' 0 ll' g' ∧ I2 g'.1 ∧ StepG c c' g g' r
theorem n1010 {r : Int32} (h : -100000 ≤ r) : ¬ r = -1010002 := fun z => by rw [z] at h; exact absurd h (by decide)
/-- the ghost of a world -/
def gho (Y : YT) : GH := (Y (4, 0, 0), Y (4, 0, 4), Y (4, 0, 2), Y (4, 0, 8) 6)
theorem SimE.ss {Y : YT} {n c : Nat} (h : SimE Y n) (h5 : Y (4, 0, 8) 5 = nI c) (hc : c ≤ 8) (h10 : Y (4, 0, 8) 10 = 0) : ∃ st ll, SS Y n c st 0 ll (gho Y) := by
  obtain ⟨c', st, tl, ll, hs⟩ := h
  have e1 : c' = c := (nI_eq (by have := hs.c8; omega) (by omega)).mp (hs.m5.symm.trans h5)
  have e2 : tl = 0 := (nI_eq (b := 0) (by have := hs.tx.2.2.1; omega) (by decide)).mp (hs.tx.2.1.symm.trans h10)
  subst e1 e2
  exact ⟨st, ll, hs, rfl, rfl, rfl, rfl⟩
theorem act_S {Y Y1 : YT} {n c st ll : Nat} {g : GH} {q : ActT} {r : Int32} (h : SS Y n c st 0 ll g) (h2 : I2 g.1) (hk : ActK Y Y1 c st n g.1 q r) (ho : AOK n q) : ∃ Y2 : YT, (∀ i : Id3, i.1 ≠ 4 → Y2 i = Y1 i) ∧ (∃ (c' st' ll' : Nat) (g' : GH), SS Y2 (n + 12) c' st' 0 ll' g' ∧ I2 g'.1 ∧ StepG c c' g g' r ∧ (q.1 = 0 → r = q.2.2 ∧ g'.1 = q.2.1)) ∧ -100000 ≤ r ∧ (¬ q.1 = 0 → r < 0) := by
  obtain ⟨hs, e0, e4, e2, e6⟩ := id h
  have hc8 := hs.c8
  have hm := hk.m
  have hk' : ActK Y Y1 c st n (Y (4, 0, 0)) q r := by rw [e0]; exact hk
  have hE := (sim_act hs hk' rfl rfl).2
  have t10 : Y (4, 0, 8) 10 = 0 := hs.tx.2.1
  by_cases h0 : q.1 = 0
  · obtain ⟨k1, -⟩ := hk.1 h0
    obtain ⟨o1, o2, o3⟩ := ho.1 h0
    obtain ⟨Z, hZ⟩ : ∃ Z, Z = up (setA (rem1 Y1) (4, 0, 0) q.2.1) (4, 0, 8) 15 q.2.2 := ⟨_, rfl⟩
    have hd : doY Y1 q = hpush Z := by
      unfold doY endY
      rw [if_pos h0, setAct_0 h0, hZ]
    have zn : ∀ i : Id3, i ≠ (4, 0, 0) → i ≠ (4, 0, 1) → i ≠ (4, 0, 8) → Z i = Y1 i := fun i g0 g1 g8 => by rw [hZ, up_n g8, setA_n g0, rem1, setA_n g1]
    have z8 : ∀ f, f ≠ 15 → Z (4, 0, 8) f = Y (4, 0, 8) f := fun f hf => by rw [hZ, up_s, upd_n hf, setA_n (by decide), rem1, setA_n (by decide), hm 8]
    have z1 : Z (4, 0, 1) = g.1 := by rw [hZ, up_n (by decide), setA_n (by decide), rem1, setA_s, hm 0, e0]
    have z4 : Z (4, 0, 4) = g.2.1 := by rw [zn _ (by decide) (by decide) (by decide), hm 4, e4]
    obtain ⟨p1, p2, p3⟩ := push_ok hc8 ((z8 5 (by decide)).trans hs.m5) z1 z4
    have d0 : doY Y1 q (4, 0, 0) = q.2.1 := by rw [hd, hpush_n (by decide) (by decide), hZ, up_n (by decide), setA_s]
    have d10 : doY Y1 q (4, 0, 8) 10 = 0 := by rw [hd, hpush_8 (by decide), z8 10 (by decide), t10]
    obtain ⟨st', ll', hS'⟩ := hE.ss (c := nxt c) (by rw [hd]; exact p1) (by unfold nxt; split <;> omega) d10
    have hr : -100000 ≤ r := by
      rw [k1]
      exact Int32.le_trans (by decide) o2
    refine ⟨doY Y1 q, fun i hi => ?_, ⟨nxt c, st', ll', gho (doY Y1 q), hS', ?_, Or.inr ⟨by rw [k1]; exact o2, rfl, ?_, fun j hj => ?_⟩, fun _ => ⟨k1, d0⟩⟩, hr, fun z => absurd h0 z⟩
    · rw [hd, hpush_n (fun z => hi (by rw [z])) (fun z => hi (by rw [z])), zn i (fun z => hi (by rw [z])) (fun z => hi (by rw [z])) (fun z => hi (by rw [z]))]
    · show I2 (doY Y1 q (4, 0, 0))
      rw [d0]
      exact o3
    · show cutS (hisF (doY Y1 q (4, 0, 4)) (nxt c - 1)) = cutS g.1
      rw [hd]
      exact p2
    · show cutS (hisF (doY Y1 q (4, 0, 4)) j) = _
      rw [hd]
      exact p3 j hj
  · obtain ⟨k1, -⟩ := hk.2 h0
    have hdn : (∀ i : Id3, i ≠ (4, 0, 1) → i ≠ (4, 0, 8) → doY Y1 q i = Y1 i) ∧ ∀ f, f < 12 → doY Y1 q (4, 0, 8) f = Y1 (4, 0, 8) f := by
      by_cases hneg : q.1 < 0
      · have hd : doY Y1 q = rem1 Y1 := by
          unfold doY endY
          rw [if_neg h0, if_pos hneg, setAct_n h0 hneg]
        rw [hd]
        exact ⟨fun i g1 _ => by rw [rem1, setA_n g1], fun f _ => by rw [rem1, setA_n (by decide)]⟩
      · have hd : doY Y1 q = up (up (up (rem1 Y1) (4, 0, 8) 14 q.2.2) (4, 0, 8) 12 q.1) (4, 0, 8) 13 q.2.2 := by
          unfold doY endY
          rw [if_neg h0, if_neg hneg, setAct_p h0 hneg, up_s, upd_s]
        rw [hd]
        exact ⟨fun i g1 g8 => by rw [up_n g8, up_n g8, up_n g8, rem1, setA_n g1], fun f hf => by rw [up_s, upd_n (by omega), up_s, upd_n (by omega), up_s, upd_n (by omega), rem1, setA_n (by decide)]⟩
    obtain ⟨dn, d8⟩ := hdn
    obtain ⟨st', ll', hS'⟩ := hE.ss (c := c) (by rw [d8 5 (by decide), hm 8]; exact hs.m5) hc8 (by rw [d8 10 (by decide), hm 8]; exact t10)
    have hr : -100000 ≤ r ∧ r ≤ -10001 ∧ r < 0 := by
      rw [k1]
      by_cases hneg : q.1 < 0
      · rw [if_pos hneg]
        rcases ho.2 hneg with z | z <;> rw [z] <;> decide
      · rw [if_neg hneg]; decide
    refine ⟨doY Y1 q, fun i hi => dn i (fun z => hi (by rw [z])) (fun z => hi (by rw [z])), ⟨c, st', ll', gho (doY Y1 q), hS', ?_, Or.inl ⟨hr.2.1, rfl, ?_, ?_⟩, fun z => absurd z h0⟩, hr.1, fun _ => hr.2.2⟩
    · show I2 (doY Y1 q (4, 0, 0))
      rw [dn _ (by decide) (by decide), hm 0, e0]
      exact h2
    · show doY Y1 q (4, 0, 0) = g.1
      rw [dn _ (by decide) (by decide), hm 0, e0]
    · show doY Y1 q (4, 0, 4) = g.2.1
      rw [dn _ (by decide) (by decide), hm 4, e4]
theorem act_DP {Y Y1 : YT} {n c st ll : Nat} {g : GH} {q : ActT} {r : Int32} (h : SS Y n c st 0 ll g) (h2 : I2 g.1) (hk : ActK Y Y1 c st n g.1 q r) (ho : AOK n q) : ∃ Y2 : YT, (∀ i : Id3, i.1 ≠ 4 → Y2 i = Y1 i) ∧ DP n c g r Y2 := by
  obtain ⟨Y2, k1, ⟨c', st', ll', g', k2, k3, k4, -⟩, k5, -⟩ := act_S h h2 hk ho
  exact ⟨Y2, k1, n1010 k5, c', st', ll', g', k2, k3, k4⟩
theorem parL_pos {t : Nat → Int32} {e : Nat} : ∀ f o (p : PSt), p.1 ≤ e → (parL t e f o p).2.1 ≤ e
  | 0, o, p, h => h
  | f + 1, o, p, h => by
    rw [parL]
    by_cases c : p.2.1 = 0 ∧ hereT t e p.1 = 59
    · rw [if_pos c]
      exact parL_pos f (o + 1) _ (oneP_le (show p.1 + 1 ≤ e from here_lt c.2 (by decide)))
    · rw [if_neg c]
      exact h
theorem run_DP {Y Y1 : YT} {n c st e ll : Nat} {g : GH} {r : Int32} (h : SS Y n c st e ll g) (h2 : I2 g.1) (hn : n ≤ 80000) (h1 : RunC Y Y1 (Y (4, 0, 5)) (Y (4, 0, 6)) e c st n g.1 r) : ∃ Y2 : YT, (∀ i : Id3, i.1 ≠ 4 → Y2 i = Y1 i) ∧ DP n c g r Y2 := by
  obtain ⟨hs, e0, e4, e2, e6⟩ := id h
  have hc8 := hs.c8
  have hm := h1.m
  have he60 := hs.tx.2.2.1
  have h1' : RunC Y Y1 (Y (4, 0, 5)) (Y (4, 0, 6)) e c st n (Y (4, 0, 0)) r := by rw [e0]; exact h1
  obtain ⟨hrr, hE⟩ := sim_run (Y2 := runO Y1 e) hs (by omega) h1' rfl (Ob.rf _)
  obtain ⟨R, hR⟩ : ∃ R, R = runP Y1 e := ⟨_, rfl⟩
  have hp60 : R.2.1 ≤ e := by rw [hR]; exact parL_pos 60 1 _ (oneP_le (Nat.zero_le e))
  have ho61 : R.1 ≤ 1 + 60 := by rw [hR]; exact (parL_le _ e 60 1 _).1
  unfold runR at hrr
  have hrun : runO Y1 e = if R.2.2.1 = 0 ∧ e ≤ R.2.1 then (if runK Y1 e = R.1 then hpush (setA (rem1 (clrY Y1)) (4, 0, 0) (exS (Y1 (4, 0, 0)) R.2.2.2 R.1)) else up (up (clrY Y1) (4, 0, 8) 12 6) (4, 0, 8) 13 (nI (runK Y1 e))) else clrY Y1 := by rw [hR]; rfl
  rw [← hR] at hrr
  have hk : runK Y1 e = exF g.1 R.2.2.2 R.1 R.1 0 := by rw [runK, ← hR, hm 0, e0]
  have c8 : ∀ f, f ≠ 10 → clrY Y1 (4, 0, 8) f = Y (4, 0, 8) f := fun f hf => by rw [clrY, up_s, upd_n hf, hm 8]
  have c10 : clrY Y1 (4, 0, 8) 10 = 0 := by rw [clrY, up_s, upd_s]
  have cn : ∀ i : Id3, i ≠ (4, 0, 8) → clrY Y1 i = Y1 i := fun i hi => by rw [clrY, up_n hi]
  have c00 : clrY Y1 (4, 0, 0) = g.1 := by rw [cn _ (by decide), hm 0, e0]
  have c44 : clrY Y1 (4, 0, 4) = g.2.1 := by rw [cn _ (by decide), hm 4, e4]
  by_cases hg : R.2.2.1 = 0 ∧ e ≤ R.2.1
  · rw [if_pos hg] at hrr hrun
    by_cases hk2 : runK Y1 e = R.1
    · rw [if_pos hk2] at hrr hrun
      obtain ⟨Z, hZ⟩ : ∃ Z, Z = setA (rem1 (clrY Y1)) (4, 0, 0) (exS (Y1 (4, 0, 0)) R.2.2.2 R.1) := ⟨_, rfl⟩
      rw [← hZ] at hrun
      have zn : ∀ i : Id3, i ≠ (4, 0, 0) → i ≠ (4, 0, 1) → Z i = clrY Y1 i := fun i q0 q1 => by rw [hZ, setA_n q0, rem1, setA_n q1]
      have z1 : Z (4, 0, 1) = g.1 := by rw [hZ, setA_n (by decide), rem1, setA_s, c00]
      have z4 : Z (4, 0, 4) = g.2.1 := by rw [zn _ (by decide) (by decide), c44]
      have z0 : Z (4, 0, 0) = exS g.1 R.2.2.2 R.1 := by rw [hZ, setA_s, hm 0, e0]
      have z8 : Z (4, 0, 8) = clrY Y1 (4, 0, 8) := zn _ (by decide) (by decide)
      obtain ⟨p1, p2, p3⟩ := push_ok hc8 (by rw [z8, c8 5 (by decide)]; exact hs.m5) z1 z4
      have d10 : hpush Z (4, 0, 8) 10 = 0 := by rw [hpush_8 (by decide), z8, c10]
      rw [hrun] at hE
      obtain ⟨st', ll', hS'⟩ := hE.ss (c := nxt c) p1 (by unfold nxt; split <;> omega) d10
      have hall := exF_all R.1 0 (Nat.zero_add _) (hk.symm.trans hk2)
      have hx := (exS_A h.I h2 (o := R.1) (by omega) (fun j hj => hall j (Nat.zero_le j) hj) R.1 (Nat.le_refl _)).2
      have r0 : 0 ≤ r := by rw [hrr]; exact nI_pos' (by omega)
      refine ⟨hpush Z, fun i hi => ?_, n1010 (Int32.le_trans (by decide) r0), nxt c, st', ll', gho (hpush Z), hS', ?_, Or.inr ⟨r0, rfl, p2, p3⟩⟩
      · rw [hpush_n (fun z => hi (by rw [z])) (fun z => hi (by rw [z])), zn i (fun z => hi (by rw [z])) (fun z => hi (by rw [z])), cn i (fun z => hi (by rw [z]))]
      · show I2 (hpush Z (4, 0, 0))
        rw [hpush_n (by decide) (by decide), z0]
        exact hx
    · rw [if_neg hk2] at hrr hrun
      obtain ⟨Z, hZ⟩ : ∃ Z, Z = up (up (clrY Y1) (4, 0, 8) 12 6) (4, 0, 8) 13 (nI (runK Y1 e)) := ⟨_, rfl⟩
      rw [← hZ] at hrun
      have zn : ∀ i : Id3, i ≠ (4, 0, 8) → Z i = clrY Y1 i := fun i q8 => by rw [hZ, up_n q8, up_n q8]
      have z8 : ∀ f, f < 12 → Z (4, 0, 8) f = clrY Y1 (4, 0, 8) f := fun f hf => by rw [hZ, up_s, upd_n (by omega), up_s, upd_n (by omega)]
      rw [hrun] at hE
      obtain ⟨st', ll', hS'⟩ := hE.ss (c := c) (by rw [z8 5 (by decide), c8 5 (by decide)]; exact hs.m5) hc8 (by rw [z8 10 (by decide), c10])
      refine ⟨Z, fun i hi => ?_, by rw [hrr]; decide, c, st', ll', gho Z, hS', ?_, Or.inl ⟨by rw [hrr]; decide, rfl, ?_, ?_⟩⟩
      · rw [zn i (fun z => hi (by rw [z])), cn i (fun z => hi (by rw [z]))]
      · show I2 (Z (4, 0, 0))
        rw [zn _ (by decide), c00]
        exact h2
      · show Z (4, 0, 0) = g.1
        rw [zn _ (by decide), c00]
      · show Z (4, 0, 4) = g.2.1
        rw [zn _ (by decide), c44]
  · rw [if_neg hg] at hrr hrun
    rw [hrun] at hE
    obtain ⟨st', ll', hS'⟩ := hE.ss (c := c) (by rw [c8 5 (by decide)]; exact hs.m5) hc8 c10
    have hb : -100000 ≤ r ∧ r ≤ -10001 := by
      rw [hrr, Int32.le_iff_toInt_le, Int32.le_iff_toInt_le, m2_toI (by omega), show (-100000 : Int32).toInt = -100000 by decide, show (-10001 : Int32).toInt = -10001 by decide]
      omega
    refine ⟨clrY Y1, fun i hi => cn i (fun z => hi (by rw [z])), n1010 hb.1, c, st', ll', gho (clrY Y1), hS', ?_, Or.inl ⟨hb.2, rfl, c00, c44⟩⟩
    show I2 (clrY Y1 (4, 0, 0))
    rw [c00]
    exact h2
