/-! THE OTHER ACTS: class = model. -/
theorem s_pot {a b c d : Nat} : ((1, a, b) : Id3) ≠ (0, c, d) := fun q => by injection q with q1; exact absurd q1 (by decide)
theorem s_kil {a b c d : Nat} : ((0, a, b) : Id3) ≠ (1, c, d) := fun q => by injection q with q1; exact absurd q1 (by decide)
theorem gain_C {Y Y' : YT} {k rf n : Nat} {s : Nat → Int32} {e u c r : Int32} (hR : RKi Y k s) (hI : Inv s n 0) (hp : r = (if (0 ≤ e ∧ e ≤ 50) ∧ (0 ≤ u ∧ u ≤ 50) ∧ (0 ≤ c ∧ c ≤ 50) then 10000 * Y (0, k, 1) 0 + 100 * Y (0, k, 1) 1 + Y (0, k, 1) 2 else -10002) ∧ Y' = if (0 ≤ e ∧ e ≤ 50) ∧ (0 ≤ u ∧ u ≤ 50) ∧ (0 ≤ c ∧ c ≤ 50) then setA Y (0, k, 1) (upd (upd (upd (Y (0, k, 1)) 0 e) 1 u) 2 c) else Y) : ActC Y Y' k rf n (gainA s e u c) r := by
  obtain ⟨f0, f1, f2, f3, f4, f5⟩ : R1 (Y (0, k, 1)) s := hR.2.1
  rw [f0, f1, f2] at hp
  obtain ⟨rfl, rfl⟩ := hp
  unfold gainA
  by_cases c1 : 0 ≤ e ∧ e ≤ 50
  · rw [if_pos c1]
    by_cases c2 : 0 ≤ u ∧ u ≤ 50
    · rw [if_pos c2]
      by_cases c3 : 0 ≤ c ∧ c ≤ 50
      · rw [if_pos c3, if_pos ⟨c1, c2, c3⟩, if_pos ⟨c1, c2, c3⟩]
        obtain ⟨hmb, hN, ⟨g, v, w, p, g1, g2, g3, g4, g5, g6, g7, g8⟩, hpp⟩ := hI
        obtain ⟨j1, hj1, e1⟩ := rng_nI (m := 50) (by decide) (by decide) c1
        obtain ⟨j2, hj2, e2⟩ := rng_nI (m := 50) (by decide) (by decide) c2
        obtain ⟨j3, hj3, e3⟩ := rng_nI (m := 50) (by decide) (by decide) c3
        have es : ∀ f, f ≠ 2 → f ≠ 3 → f ≠ 4 → upd (upd (upd s 2 e) 3 u) 4 c f = s f := fun f h1 h2 h3 => by rw [upd_n h3, upd_n h2, upd_n h1]
        have h0 : 0 ≤ 10000 * s 2 + 100 * s 3 + s 4 := by
          rw [g1, g3, g5, show (10000 : Int32) = nI 10000 from rfl, show (100 : Int32) = nI 100 from rfl, pk_mul, pk_mul, nI_add, nI_add]
          exact nI_pos' (by omega)
        refine ActC.ok rfl h0 ?_ FrK.set ⟨(hmb.eq (fun f hf => es f (by omega) (by omega) (by omega))).up (by omega), (hN.eq (fun f hf => es f (by omega) (by omega) (by omega))).up (by omega), ⟨j1, j2, j3, p, by rw [upd_n (by decide), upd_n (by decide), upd_s, e1], hj1, by rw [upd_n (by decide), upd_s, e2], hj2, by rw [upd_s, e3], hj3, by rw [es _ (by decide) (by decide) (by decide), g7], g8⟩, hpp.eq (fun f hf => es f (by omega) (by omega) (by omega))⟩
        refine hR.gen ?_ ?_ ?_ ?_ (setA_n (nej (by decide))) (setA_n (nej (by decide))) ?_ (fun f hf => es f (by omega) (by omega) (by omega))
        · rw [setA_n (nej (by decide))]
          exact hR.1.cs (fun f hf => es f (by omega) (by omega) (by omega))
        · rw [setA_s]
          exact ⟨by rw [upd_n (by decide), upd_n (by decide), upd_s, upd_n (by decide), upd_n (by decide), upd_s], by rw [upd_n (by decide), upd_s, upd_n (by decide), upd_s], by rw [upd_s, upd_s], by rw [upd_n (by decide), upd_n (by decide), upd_n (by decide), es _ (by decide) (by decide) (by decide), f3], by rw [upd_n (by decide), upd_n (by decide), upd_n (by decide), es _ (by decide) (by decide) (by decide), f4], by rw [upd_n (by decide), upd_n (by decide), upd_n (by decide), es _ (by decide) (by decide) (by decide), f5]⟩
        · exact hR.g2 (setA_n (nej (by decide))) (setA_n (nej (by decide))) (fun f hf => es f (by omega) (by omega) (by omega)) hmb.lg.2
        · rw [setA_n (nej (by decide))]
          exact hR.2.2.2.1.cs (fun f hf => es f (by omega) (by omega) (by omega))
        · exact hR.g7 (setA_n (nej (by decide))) (fun p => setA_n s_pot) (fun f hf => es f (by omega) (by omega) (by omega))
      · rw [if_neg c3, if_neg (fun q => c3 q.2.2), if_neg (fun q => c3 q.2.2)]
        exact ActC.bad (by decide) rfl rfl
    · rw [if_neg c2, if_neg (fun q => c2 q.2.1), if_neg (fun q => c2 q.2.1)]
      exact ActC.bad (by decide) rfl rfl
  · rw [if_neg c1, if_neg (fun q => c1 q.1), if_neg (fun q => c1 q.1)]
    exact ActC.bad (by decide) rfl rfl
theorem cap_C {Y Y' : YT} {k rf n : Nat} {s : Nat → Int32} {c r : Int32} (hR : RKi Y k s) (hI : Inv s n 0) (hp : r = (if 0 ≤ c ∧ c ≤ 9000 then (if c = Y (0, k, 1) 3 then -10004 else Y (0, k, 1) 3) else -10002) ∧ Y' = if 0 ≤ c ∧ c ≤ 9000 then (if c = Y (0, k, 1) 3 then up (up Y (2, 0, rf) 0 5) (2, 0, rf) 1 (Y (0, k, 1) 3) else setA Y (0, k, 1) (upd (upd (Y (0, k, 1)) 3 c) 4 (clampI (Y (0, k, 1) 4) (-c) c))) else Y) : ActC Y Y' k rf n (capA s c) r := by
  obtain ⟨f0, f1, f2, f3, f4, f5⟩ : R1 (Y (0, k, 1)) s := hR.2.1
  rw [f3, f4] at hp
  obtain ⟨rfl, rfl⟩ := hp
  unfold capA
  by_cases c1 : 0 ≤ c ∧ c ≤ 9000
  · rw [if_pos c1, if_pos c1, if_pos c1]
    by_cases c2 : c = s 6
    · rw [if_pos c2, if_pos c2, if_pos c2.symm]
      exact ActC.no (by decide) rfl (by rw [c2])
    · rw [if_neg c2, if_neg c2, if_neg (fun q => c2 q.symm)]
      obtain ⟨hmb, hN, ⟨g, v, w, p, g1, g2, g3, g4, g5, g6, g7, g8⟩, hpp⟩ := hI
      obtain ⟨j1, hj1, e1⟩ := rng_nI (m := 9000) (by decide) (by decide) c1
      have es : ∀ f, f ≠ 6 → f ≠ 5 → upd (upd s 6 c) 5 (clampI (s 5) (-c) c) f = s f := fun f h1 h2 => by rw [upd_n h2, upd_n h1]
      refine ActC.ok rfl (by rw [g7]; exact nI_pos' (by omega)) ?_ FrK.set ⟨(hmb.eq (fun f hf => es f (by omega) (by omega))).up (by omega), (hN.eq (fun f hf => es f (by omega) (by omega))).up (by omega), ⟨g, v, w, j1, by rw [es _ (by decide) (by decide), g1], g2, by rw [es _ (by decide) (by decide), g3], g4, by rw [es _ (by decide) (by decide), g5], g6, by rw [upd_n (by decide), upd_s, e1], hj1⟩, hpp.eq (fun f hf => es f (by omega) (by omega))⟩
      refine hR.gen ?_ ?_ ?_ ?_ (setA_n (nej (by decide))) (setA_n (nej (by decide))) ?_ (fun f hf => es f (by omega) (by omega))
      · rw [setA_n (nej (by decide))]
        exact hR.1.cs (fun f hf => es f (by omega) (by omega))
      · rw [setA_s]
        exact ⟨by rw [upd_n (by decide), upd_n (by decide), es _ (by decide) (by decide), f0], by rw [upd_n (by decide), upd_n (by decide), es _ (by decide) (by decide), f1], by rw [upd_n (by decide), upd_n (by decide), es _ (by decide) (by decide), f2], by rw [upd_n (by decide), upd_s, upd_n (by decide), upd_s], by rw [upd_s, upd_s], by rw [upd_n (by decide), upd_n (by decide), es _ (by decide) (by decide), f5]⟩
      · exact hR.g2 (setA_n (nej (by decide))) (setA_n (nej (by decide))) (fun f hf => es f (by omega) (by omega)) hmb.lg.2
      · rw [setA_n (nej (by decide))]
        exact hR.2.2.2.1.cs (fun f hf => es f (by omega) (by omega))
      · exact hR.g7 (setA_n (nej (by decide))) (fun p => setA_n s_pot) (fun f hf => es f (by omega) (by omega))
  · rw [if_neg c1, if_neg c1, if_neg c1]
    exact ActC.bad (by decide) rfl rfl
theorem fuel_C {Y Y' : YT} {k rf n : Nat} {s : Nat → Int32} {f r : Int32} (hR : RKi Y k s) (hI : Inv s n 0) (hn : n ≤ 100000) (hp : r = (if 1 ≤ f ∧ f ≤ 9999 then Y (0, k, 4) 1 + f else -10002) ∧ Y' = if 1 ≤ f ∧ f ≤ 9999 then setA Y (0, k, 4) (upd (upd (Y (0, k, 4)) 2 (Y (0, k, 4) 2 + f)) 1 (Y (0, k, 4) 1 + f)) else Y) : ActC Y Y' k rf n (fuelA s f) r := by
  obtain ⟨f0, f1, f2, f3⟩ : R4 (Y (0, k, 4)) s := hR.2.2.2.1
  rw [f1, f2] at hp
  obtain ⟨rfl, rfl⟩ := hp
  by_cases c : 1 ≤ f ∧ f ≤ 9999
  · have hmb' := fuelA_M (x := f) hI.mb (by rw [fuelA, if_pos c])
    rw [fuelA, if_pos c] at hmb' ⊢
    rw [if_pos c, if_pos c]
    obtain ⟨hmb, hN, hg, hpp⟩ := hI
    have es : ∀ g, g ≠ 10 → g ≠ 11 → upd (upd s 10 (s 10 + f)) 11 (s 11 + f) g = s g := fun g h1 h2 => by rw [upd_n h2, upd_n h1]
    have h0 : 0 ≤ s 10 + f := by
      obtain ⟨lg, np, d, fu, -, -, -, -, -, -, g, gb, -⟩ := hmb
      obtain ⟨j, hj, hf⟩ := rng_nI (m := 9999) (by decide) (by decide) c
      rw [g, hf, nI_add]
      exact nI_pos' (by omega)
    refine ActC.ok rfl h0 ?_ FrK.set ⟨hmb', (hN.eq (fun f hf => es f (by omega) (by omega))).up (by omega), hg.eq (fun f hf => es f (by omega) (by omega)), hpp.eq (fun f hf => es f (by omega) (by omega))⟩
    refine hR.gen ?_ ?_ ?_ ?_ (setA_n (nej (by decide))) (setA_n (nej (by decide))) ?_ (fun f hf => es f (by omega) (by omega))
    · rw [setA_n (nej (by decide))]
      exact hR.1.cs (fun f hf => es f (by omega) (by omega))
    · rw [setA_n (nej (by decide))]
      exact hR.2.1.cs (fun f hf => es f (by omega) (by omega))
    · exact hR.g2 (setA_n (nej (by decide))) (setA_n (nej (by decide))) (fun f hf => es f (by omega) (by omega)) hmb.lg.2
    · rw [setA_s]
      exact ⟨by rw [upd_n (by decide), upd_n (by decide), es _ (by decide) (by decide), f0], by rw [upd_s, upd_n (by decide), upd_s], by rw [upd_n (by decide), upd_s, upd_s], by rw [upd_n (by decide), upd_n (by decide), es _ (by decide) (by decide), f3]⟩
    · exact hR.g7 (setA_n (nej (by decide))) (fun p => setA_n s_pot) (fun f hf => es f (by omega) (by omega))
  · rw [fuelA, if_neg c, if_neg c, if_neg c]
    exact ActC.bad (by decide) rfl rfl
theorem go_C {Y Y' : YT} {k rf n : Nat} {s : Nat → Int32} {m r : Int32} (hI : Inv s n 0) (hn : n ≤ 100000) (hp : ((1 ≤ m ∧ m ≤ 300) → r = mins (nn m) s 0 ∧ RKi Y' k (mins (nn m) s) ∧ FrK Y Y' k) ∧ (¬ (1 ≤ m ∧ m ≤ 300) → r = -10002 ∧ Y' = Y)) : ActC Y Y' k rf n (goA s m) r := by
  unfold goA
  by_cases c : 1 ≤ m ∧ m ≤ 300
  · rw [if_pos c]
    obtain ⟨h1, h2, h3⟩ := hp.1 c
    obtain ⟨j, hj, hm⟩ := rng_nI (m := 300) (by decide) (by decide) c
    have hj2 : nn m = j := by rw [hm, nn_nI (by omega)]
    rw [hj2] at h1 h2 ⊢
    have hq := Inv_mins hI hn j (by omega)
    have hq0 := hq
    obtain ⟨-, ⟨d, a, mi, g0, d1, d2, -⟩, -⟩ := hq0
    exact ActC.ok h1 (by rw [g0]; exact nI_pos' (by omega)) h2 h3 (hq.up (by omega) (by omega))
  · rw [if_neg c]
    exact ActC.bad (by decide) (hp.2 c).1 (hp.2 c).2
theorem lag_C {Y Y' : YT} {k lg rf n : Nat} {s : Nat → Int32} {m r : Int32} (hR : RKi Y k s) (hI : Inv s n 0) (hlg : nn (s 8) = lg) (hp : r = (if 0 ≤ m ∧ m ≤ 5 then (if m = Y (0, k, 2) 0 then -10004 else Y (0, k, 2) 0) else -10002) ∧ Y' = if 0 ≤ m ∧ m ≤ 5 then (if m = Y (0, k, 2) 0 then up (up Y (2, 0, rf) 0 5) (2, 0, rf) 1 (Y (0, k, 2) 0) else setA (up Y (0, k, 2) 0 (nI (nn m))) (0, k, 3) (rsz (Y (0, k, 3)) (nn m) lg (Y (0, k, 0) 3) (nn m - lg))) else Y) : ActC Y Y' k rf n (lagA s m) r := by
  have f8 : Y (0, k, 2) 0 = s 8 := hR.2.2.1.1
  have f9 : Y (0, k, 0) 3 = s 9 := hR.1.2.2.2
  rw [f8, f9] at hp
  obtain ⟨rfl, rfl⟩ := hp
  by_cases c1 : 0 ≤ m ∧ m ≤ 5
  · by_cases c2 : m = s 8
    · rw [lagA, if_pos c1, if_pos c1, if_pos c1, if_pos c2, if_pos c2, if_pos c2.symm]
      exact ActC.no (by decide) rfl (by rw [c2])
    · have hmb' := lagA_M (m := m) hI.mb (by rw [lagA, if_pos c1, if_neg (fun q => c2 q.symm)])
      rw [lagA, if_pos c1, if_neg (fun q => c2 q.symm)] at hmb'
      rw [lagA, if_pos c1, if_pos c1, if_pos c1, if_neg c2, if_neg c2, if_neg (fun q => c2 q.symm)]
      obtain ⟨hmb, hN, hg, hpp⟩ := hI
      obtain ⟨h8, h85⟩ := hmb.lg
      rw [hlg] at h8 h85 hmb' ⊢
      obtain ⟨j, hj, hm⟩ := rng_nI (m := 5) (by decide) (by decide) c1
      have hj2 : nn m = j := by rw [hm, nn_nI (by omega)]
      rw [hj2] at hmb' ⊢
      have es : ∀ f, f ≠ 8 → (f < 17 ∨ 22 ≤ f) → lagSet s lg j f = s f := fun f h1 h2 => lagSet_n h85 hj h1 h2
      refine ActC.ok rfl (by rw [h8]; exact nI_pos' (by omega)) ?_ (FrK.tr (FrK.set (y := upd (Y (0, k, 2)) 0 (nI j))) FrK.set) ⟨hmb'.up (by omega), (hN.eq (fun f hf => es f (by omega) (by omega))).up (by omega), hg.eq (fun f hf => es f (by omega) (by omega)), hpp.eq (fun f hf => es f (by omega) (by omega))⟩
      refine hR.gen ?_ ?_ ?_ ?_ (by rw [setA_n (nej (by decide)), up_n (nej (by decide))]) (by rw [setA_n (nej (by decide)), up_n (nej (by decide))]) ?_ (fun f hf => es f (by omega) (by omega))
      · rw [setA_n (nej (by decide)), up_n (nej (by decide))]
        exact hR.1.cs (fun f hf => es f (by omega) (by omega))
      · rw [setA_n (nej (by decide)), up_n (nej (by decide))]
        exact hR.2.1.cs (fun f hf => es f (by omega) (by omega))
      · rw [setA_n (nej (by decide)), up_s, upd_s, setA_s, lagSet_8 h8, nn_nI (by omega)]
        refine ⟨rfl, fun i hi => ?_⟩
        have hd : ∀ q, q < lg → Y (0, k, 3) q = s (17 + q) := fun q hq => hR.2.2.1.2 q (by rw [hlg]; exact hq)
        rw [lagSet_r hi]
        unfold rsz shM shDn shUp
        by_cases a1 : i < j - lg
        · rw [if_pos a1, if_pos a1]
        · rw [if_neg a1, if_neg a1]
          by_cases a2 : j < lg
          · rw [if_pos a2, if_pos (by omega), hd _ (by omega)]
            congr 1
            omega
          · rw [if_neg a2, if_pos (by omega), hd _ (by omega)]
            congr 1
            omega
      · rw [setA_n (nej (by decide)), up_n (nej (by decide))]
        exact hR.2.2.2.1.cs (fun f hf => es f (by omega) (by omega))
      · exact hR.g7 (by rw [setA_n (nej (by decide)), up_n (nej (by decide))]) (fun p => by rw [setA_n s_pot, up_n s_pot]) (fun f hf => es f (by omega) (by omega))
  · rw [lagA, if_neg c1, if_neg c1, if_neg c1]
    exact ActC.bad (by decide) rfl rfl
/-! pots -/
theorem wi_eq {Y : YT} {k : Nat} {s : Nat → Int32} : ∀ n, (∀ p, p < n → PotR (Y (1, k, p)) s p ∧ PotI s p) → wiK Y k n = wiN s n
  | 0, _ => rfl
  | n + 1, h => by
    have ih := wi_eq n (fun p hp => h p (by omega))
    obtain ⟨⟨-, -, -, -, -, h5, -⟩, sh, ne, ti, ho, so, i, -, -, -, -, -, -, -, -, -, -, -, e, hi, -⟩ := h n (by omega)
    rw [wiK, wiN, ih, h5, e]
    rcases Nat.lt_or_ge i 1 with q | q
    · have : i = 0 := by omega
      subst this
      rw [show nI 0 = (0 : Int32) from rfl, if_pos rfl, Int32.add_zero]
    · have : i = 1 := by omega
      subst this
      rw [show nI 1 = (1 : Int32) from rfl, if_neg (by decide)]
theorem wiN_up {s : Nat → Int32} {q : Nat} {x : Int32} (h : s (211 + q) = 0) : ∀ n, wiN (upd s (211 + q) x) n = if q < n then wiN s n + x else wiN s n
  | 0 => by rw [if_neg (by omega)]; rfl
  | n + 1 => by
    have ih := wiN_up (x := x) h n
    rw [wiN, wiN, ih]
    by_cases a : q < n
    · rw [if_pos a, if_pos (by omega), upd_n (by omega), Int32.add_assoc, Int32.add_assoc, Int32.add_comm x]
    · rw [if_neg a]
      by_cases b : q = n
      · subst b
        rw [if_pos (by omega), upd_s, h, Int32.add_zero]
      · rw [if_neg (by omega), upd_n (by omega)]
theorem wiN_nat {s : Nat → Int32} : ∀ n, (∀ p, p < n → ∃ i, s (211 + p) = nI i ∧ i ≤ 1) → ∃ v, v ≤ n ∧ wiN s n = nI v
  | 0, _ => ⟨0, Nat.le_refl 0, rfl⟩
  | n + 1, h => by
    obtain ⟨v, hv, e⟩ := wiN_nat n (fun p hp => h p (by omega))
    obtain ⟨i, e2, hi⟩ := h n (by omega)
    exact ⟨v + i, by omega, by rw [wiN, e, e2, nI_add]⟩
theorem wiN_dn {s : Nat → Int32} {q : Nat} (h1 : s (211 + q) = 1) : ∀ n, q < n → (∀ p, p < n → ∃ i, s (211 + p) = nI i ∧ i ≤ 1) → ∃ v, v < n ∧ wiN s n = nI (v + 1) ∧ wiN (upd s (211 + q) 0) n = nI v
  | 0, hq, _ => absurd hq (Nat.not_lt_zero q)
  | n + 1, hq, h => by
    by_cases b : q = n
    · subst b
      obtain ⟨v, hv, e⟩ := wiN_nat q (fun p hp => h p (by omega))
      refine ⟨v, by omega, ?_, ?_⟩
      · rw [wiN, e, h1]
        exact nI_add v 1
      · rw [wiN, upd_s, Int32.add_zero, wiN_congr _ (fun p hp => upd_n (by omega)), e]
    · obtain ⟨v, hv, e, e2⟩ := wiN_dn h1 n (by omega) (fun p hp => h p (by omega))
      obtain ⟨i, e3, hi⟩ := h n (by omega)
      refine ⟨v + i, by omega, ?_, ?_⟩
      · rw [wiN, e, e3, nI_add]
        congr 1
        omega
      · rw [wiN, e2, upd_n (by omega), e3, nI_add]
theorem rng_iff {p c : Int32} {np : Nat} (hc : c = nI np) (hnp : np ≤ 8) : (0 ≤ p ∧ p < nI np) ↔ (0 ≤ p ∧ p ≤ c - 1) := by
  have hs : (c - 1).toInt = (np : Int) - 1 := by rw [hc]; exact pk_sub_toInt (b := 1) (by omega) (by decide)
  rw [Int32.lt_iff_toInt_lt, Int32.le_iff_toInt_le (x := p) (y := c - 1), hs, nI_toInt (by omega)]
  constructor
  · rintro ⟨h1, h2⟩
    exact ⟨h1, by omega⟩
  · rintro ⟨h1, h2⟩
    exact ⟨h1, by omega⟩
theorem MB.potI {s : Nat → Int32} {p : Nat} (h : PotI s p) : ∃ i, s (211 + p) = nI i ∧ i ≤ 1 := by
  obtain ⟨sh, ne, ti, ho, so, i, e1, e2, e3, e4, e5, e6, e7, e8, e9, e10, e11, e12, e13, e14, e15⟩ := h
  exact ⟨i, e12, e13⟩
theorem pot_C {Y Y' : YT} {k rf n np : Nat} {s : Nat → Int32} {sh ne so r : Int32} (hR : RKi Y k s) (hI : Inv s n 0) (hnp : nn (s 15) = np) (hp : r = (if (1 ≤ sh ∧ sh ≤ 60) ∧ (100 ≤ ne ∧ ne ≤ 1200) ∧ (1 ≤ so ∧ so ≤ 99) then (if Y (0, k, 7) 0 < 8 then Y (0, k, 7) 0 else -10004) else -10002) ∧ Y' = if (1 ≤ sh ∧ sh ≤ 60) ∧ (100 ≤ ne ∧ ne ≤ 1200) ∧ (1 ≤ so ∧ so ≤ 99) then (if Y (0, k, 7) 0 < 8 then setA (up Y (0, k, 7) 0 (nI (np + 1))) (1, k, np) (pot0 (Y (1, k, np)) sh ne so) else up (up Y (2, 0, rf) 0 1) (2, 0, rf) 1 (Y (0, k, 7) 0)) else Y) : ActC Y Y' k rf n (potA s sh ne so) r := by
  have f15 : Y (0, k, 7) 0 = s 15 := hR.2.2.2.2.2.2.1
  rw [f15] at hp
  obtain ⟨rfl, rfl⟩ := hp
  obtain ⟨h15, h158⟩ := hI.mb.np
  rw [hnp] at h15 h158
  by_cases c1 : 1 ≤ sh ∧ sh ≤ 60
  · by_cases c2 : 100 ≤ ne ∧ ne ≤ 1200
    · by_cases c3 : 1 ≤ so ∧ so ≤ 99
      · have hc3 : (1 ≤ sh ∧ sh ≤ 60) ∧ (100 ≤ ne ∧ ne ≤ 1200) ∧ (1 ≤ so ∧ so ≤ 99) := ⟨c1, c2, c3⟩
        by_cases c4 : np = 8
        · subst c4
          have e8 : s 15 = 8 := by rw [h15]; rfl
          have l8 : ¬ s 15 < 8 := by rw [h15]; decide
          simp only [potA, if_pos hc3, if_pos c1, if_pos c2, if_pos c3, if_pos e8, if_neg l8]
          exact ActC.no (by decide) rfl (by rw [h15]; rfl)
        · have hn8 : ¬ s 15 = 8 := fun q => c4 ((nI_eq (b := 8) (by omega) (by decide)).mp (h15.symm.trans q))
          have hl8 : s 15 < 8 := by rw [h15]; exact nI_lt (b := 8) (by omega) (by decide)
          have hmb' := potA_M (x := sh) (y := ne) (z := so) hI.mb (by rw [potA, if_pos c1, if_pos c2, if_pos c3, if_neg hn8])
          rw [potA, if_pos c1, if_pos c2, if_pos c3, if_neg hn8] at hmb'
          simp only [potA, if_pos hc3, if_pos c1, if_pos c2, if_pos c3, if_neg hn8, if_pos hl8]
          rw [hnp] at hmb' ⊢
          obtain ⟨hmb, hN, hg, hp1, hp2, w, hw, hw4⟩ := hI
          rw [hnp] at hp1 hp2 hw
          obtain ⟨z1, z2, z3, z4⟩ := hp2 np (Nat.le_refl np) (by omega)
          obtain ⟨j1, hj1, e1⟩ := rng_nI (m := 60) (by decide) (by decide) c1
          obtain ⟨j2, hj2, e2⟩ := rng_nI (m := 1200) (by decide) (by decide) c2
          obtain ⟨j3, hj3, e3⟩ := rng_nI (m := 99) (by decide) (by decide) c3
          have b1 : 1 ≤ j1 := by have q := c1.1; rw [e1] at q; exact nI_le_iff (n := 1) (by omega) (by decide) q
          have b2 : 100 ≤ j2 := by have q := c2.1; rw [e2] at q; exact nI_le_iff (n := 100) (by omega) (by decide) q
          have b3 : 1 ≤ j3 := by have q := c3.1; rw [e3] at q; exact nI_le_iff (n := 1) (by omega) (by decide) q
          have es : ∀ f, f ≠ 15 → f ≠ 171 + np → f ≠ 179 + np → f ≠ 187 + np → potS s np sh ne so f = s f := fun f h1 h2 h3 h4 => by rw [potS, upd_n h1, upd_n h4, upd_n h3, upd_n h2]
          have e15 : potS s np sh ne so 15 = nI (np + 1) := by rw [potS, upd_s]; exact nI_add np 1
          have n15 : nn (potS s np sh ne so 15) = np + 1 := by rw [e15, nn_nI (by omega)]
          have eS : potS s np sh ne so (171 + np) = sh := by rw [potS, upd_n (by omega), upd_n (by omega), upd_n (by omega), upd_s]
          have eN : potS s np sh ne so (179 + np) = ne := by rw [potS, upd_n (by omega), upd_n (by omega), upd_s]
          have eT : potS s np sh ne so (187 + np) = so := by rw [potS, upd_n (by omega), upd_s]
          have hFr : FrK Y (setA (up Y (0, k, 7) 0 (nI (np + 1))) (1, k, np) (pot0 (Y (1, k, np)) sh ne so)) k := FrK.tr (FrK.set (j := 7) (y := upd (Y (0, k, 7)) 0 (nI (np + 1)))) FrK.setP
          refine ActC.ok rfl (by rw [h15]; exact nI_pos' (by omega)) ?_ hFr ⟨hmb'.up (by omega), (hN.eq (fun f hf => es f (by omega) (by omega) (by omega) (by omega))).up (by omega), hg.eq (fun f hf => es f (by omega) (by omega) (by omega) (by omega)), ?_, ?_, w, ?_, hw4⟩
          · refine hR.gen ?_ ?_ ?_ ?_ (by rw [setA_n s_kil, up_n (nej (by decide))]) (by rw [setA_n s_kil, up_n (nej (by decide))]) ?_ (fun f hf => es f (by omega) (by omega) (by omega) (by omega))
            · rw [setA_n s_kil, up_n (nej (by decide))]
              exact hR.1.cs (fun f hf => es f (by omega) (by omega) (by omega) (by omega))
            · rw [setA_n s_kil, up_n (nej (by decide))]
              exact hR.2.1.cs (fun f hf => es f (by omega) (by omega) (by omega) (by omega))
            · exact hR.g2 (by rw [setA_n s_kil, up_n (nej (by decide))]) (by rw [setA_n s_kil, up_n (nej (by decide))]) (fun f hf => es f (by omega) (by omega) (by omega) (by omega)) hmb.lg.2
            · rw [setA_n s_kil, up_n (nej (by decide))]
              exact hR.2.2.2.1.cs (fun f hf => es f (by omega) (by omega) (by omega) (by omega))
            · rw [n15, e15, setA_n s_kil, up_s, upd_s]
              refine ⟨rfl, fun p hp => ?_⟩
              by_cases hpn : p = np
              · subst hpn
                rw [setA_s]
                unfold PotR
                rw [eS, eN, eT, es (195 + p) (by omega) (by omega) (by omega) (by omega), es (203 + p) (by omega) (by omega) (by omega) (by omega), es (211 + p) (by omega) (by omega) (by omega) (by omega), es (219 + p) (by omega) (by omega) (by omega) (by omega), z1, z2, z3, z4]
                exact ⟨rfl, rfl, rfl, rfl, rfl, rfl, rfl⟩
              · rw [setA_n (nej hpn), up_n s_pot]
                obtain ⟨a1, a2, a3, a4, a5, a6, a7⟩ := hR.2.2.2.2.2.2.2 p (by rw [hnp]; omega)
                exact ⟨by rw [es _ (by omega) (by omega) (by omega) (by omega), a1], by rw [es _ (by omega) (by omega) (by omega) (by omega), a2], by rw [es _ (by omega) (by omega) (by omega) (by omega), a3], by rw [es _ (by omega) (by omega) (by omega) (by omega), a4], by rw [es _ (by omega) (by omega) (by omega) (by omega), a5], by rw [es _ (by omega) (by omega) (by omega) (by omega), a6], by rw [es _ (by omega) (by omega) (by omega) (by omega), a7]⟩
          · rw [n15]
            intro p hp
            by_cases hpn : p = np
            · subst hpn
              exact ⟨j1, j2, j3, 0, 0, 0, by rw [eS, e1], ⟨b1, hj1⟩, by rw [eN, e2], ⟨b2, hj2⟩, by rw [eT, e3], ⟨b3, hj3⟩, by rw [es _ (by omega) (by omega) (by omega) (by omega), z1]; rfl, by omega, by rw [es _ (by omega) (by omega) (by omega) (by omega), z2]; rfl, by omega, fun _ => by omega, by rw [es _ (by omega) (by omega) (by omega) (by omega), z3]; rfl, by omega, fun _ => rfl, fun q => by omega⟩
            · exact (hp1 p (by omega)).eq (fun f hf => es f (by omega) (by omega) (by omega) (by omega))
          · rw [n15]
            intro p hp hp8
            obtain ⟨y1, y2, y3, y4⟩ := hp2 p (by omega) hp8
            exact ⟨by rw [es _ (by omega) (by omega) (by omega) (by omega), y1], by rw [es _ (by omega) (by omega) (by omega) (by omega), y2], by rw [es _ (by omega) (by omega) (by omega) (by omega), y3], by rw [es _ (by omega) (by omega) (by omega) (by omega), y4]⟩
          · rw [n15, wiN, wiN_congr (s := s) np (fun p hp => es _ (by omega) (by omega) (by omega) (by omega)), es _ (by omega) (by omega) (by omega) (by omega), z3, Int32.add_zero, hw]
      · rw [potA, if_pos c1, if_pos c2, if_neg c3, if_neg (fun q => c3 q.2.2), if_neg (fun q => c3 q.2.2)]
        exact ActC.bad (by decide) rfl rfl
    · rw [potA, if_pos c1, if_neg c2, if_neg (fun q => c2 q.2.1), if_neg (fun q => c2 q.2.1)]
      exact ActC.bad (by decide) rfl rfl
  · rw [potA, if_neg c1, if_neg (fun q => c1 q.1), if_neg (fun q => c1 q.1)]
    exact ActC.bad (by decide) rfl rfl
theorem put_C {Y Y' : YT} {k rf n np : Nat} {s : Nat → Int32} {p d r : Int32} (hR : RKi Y k s) (hI : Inv s n 0) (hnp : nn (s 15) = np) (hd : d = s 0) (hp : r = (if 0 ≤ p ∧ p < nI np then (if Y (1, k, nn p) 3 = 0 then (if d ≤ 60 then (if wiK Y k np < 4 then wiK Y k np + 1 else -10004) else -10004) else -10004) else -10001) ∧ Y' = if 0 ≤ p ∧ p < nI np then (if Y (1, k, nn p) 3 = 0 then (if d ≤ 60 then (if wiK Y k np < 4 then up (up Y (1, k, nn p) 3 1) (1, k, nn p) 5 1 else up (up Y (2, 0, rf) 0 1) (2, 0, rf) 1 (wiK Y k np)) else up (up Y (2, 0, rf) 0 4) (2, 0, rf) 1 d) else up (up Y (2, 0, rf) 0 2) (2, 0, rf) 1 (Y (1, k, nn p) 3)) else Y) : ActC Y Y' k rf n (putA s p) r := by
  subst hd
  obtain ⟨rfl, rfl⟩ := hp
  obtain ⟨h15, h158⟩ := hI.mb.np
  rw [hnp] at h15 h158
  by_cases c1 : 0 ≤ p ∧ p < nI np
  · have c1' := (rng_iff h15 h158).mp c1
    obtain ⟨q, hq, hpq⟩ := pot_nI h15 h158 c1'
    have hq2 : nn p = q := by rw [hpq, nn_nI (by omega)]
    rw [if_pos c1, if_pos c1, hq2]
    obtain ⟨a1, a2, a3, a4, a5, a6, a7⟩ := hR.2.2.2.2.2.2.2 q (by rw [hnp]; exact hq)
    rw [a4]
    by_cases c2 : s (195 + q) = 0
    · rw [if_pos c2, if_pos c2]
      by_cases c3 : s 0 ≤ 60
      · rw [if_pos c3, if_pos c3]
        have hmb' := putA_M (p := p) hI.mb
        obtain ⟨hmb, hN, hg, hp1, hp2, w, hw, hw4⟩ := hI
        rw [hnp] at hp1 hp2 hw
        have hwk : wiK Y k np = nI w := by rw [wi_eq np (fun p hp => ⟨hR.2.2.2.2.2.2.2 p (by rw [hnp]; exact hp), hp1 p hp⟩), hw]
        rw [hwk]
        by_cases c4 : w = 4
        · subst c4
          rw [putA, if_pos c1', hq2, if_pos c2, if_pos c3, hnp, hw, if_pos (show nI 4 = (4 : Int32) from rfl), if_neg (show ¬ nI 4 < (4 : Int32) by decide), if_neg (show ¬ nI 4 < (4 : Int32) by decide)]
          exact ActC.no (by decide) rfl rfl
        · have hn4 : ¬ nI w = 4 := fun z => c4 ((nI_eq (b := 4) (by omega) (by decide)).mp z)
          have hl4 : nI w < 4 := nI_lt (b := 4) (by omega) (by decide)
          rw [putA, if_pos c1', hq2, if_pos c2, if_pos c3, hnp, hw, if_neg hn4] at hmb' ⊢
          rw [if_pos hl4, if_pos hl4]
          obtain ⟨sh, ne, ti, ho, so, i, e1, e2, e3, e4, e5, e6, e7, e8, e9, e10, e11, e12, e13, e14, e15⟩ := hp1 q hq
          have ho0 : ho = 0 := (nI_eq (b := 0) (by omega) (by decide)).mp (e7.symm.trans c2)
          have hi0 : s (211 + q) = 0 := by rw [e12, e14 ho0]; rfl
          have es : ∀ f, f ≠ 195 + q → f ≠ 211 + q → putS s q f = s f := fun f h1 h2 => by rw [putS, upd_n h2, upd_n h1]
          have eH : putS s q (195 + q) = 1 := by rw [putS, upd_n (by omega), upd_s]
          have eI : putS s q (211 + q) = 1 := by rw [putS, upd_s]
          have n15 : nn (putS s q 15) = np := by rw [es _ (by omega) (by omega), hnp]
          have hwi : wiN (putS s q) np = nI (w + 1) := by
            rw [putS, wiN_up (by rw [upd_n (by omega)]; exact hi0), if_pos hq, wiN_congr (s := s) np (fun p hp => upd_n (by omega)), hw]
            exact nI_add w 1
          have hFr : FrK Y (up (up Y (1, k, q) 3 1) (1, k, q) 5 1) k := FrK.tr (FrK.setP (y := upd (Y (1, k, q)) 3 1)) FrK.setP
          refine ActC.ok (by rw [hwi]; exact nI_add w 1) (by rw [hwi]; exact nI_pos' (by omega)) ?_ hFr ⟨(hmb' rfl).up (by omega), (hN.eq (fun f hf => es f (by omega) (by omega))).up (by omega), hg.eq (fun f hf => es f (by omega) (by omega)), ?_, ?_, w + 1, ?_, by omega⟩
          · refine hR.gen ?_ ?_ ?_ ?_ (by rw [up_n s_kil, up_n s_kil]) (by rw [up_n s_kil, up_n s_kil]) ?_ (fun f hf => es f (by omega) (by omega))
            · rw [up_n s_kil, up_n s_kil]
              exact hR.1.cs (fun f hf => es f (by omega) (by omega))
            · rw [up_n s_kil, up_n s_kil]
              exact hR.2.1.cs (fun f hf => es f (by omega) (by omega))
            · exact hR.g2 (by rw [up_n s_kil, up_n s_kil]) (by rw [up_n s_kil, up_n s_kil]) (fun f hf => es f (by omega) (by omega)) hmb.lg.2
            · rw [up_n s_kil, up_n s_kil]
              exact hR.2.2.2.1.cs (fun f hf => es f (by omega) (by omega))
            · rw [n15, es 15 (by omega) (by omega), up_n s_kil, up_n s_kil]
              refine ⟨hR.2.2.2.2.2.2.1, fun p hp => ?_⟩
              by_cases hpn : p = q
              · subst hpn
                rw [up_s, up_s]
                exact ⟨by rw [upd_n (by decide), upd_n (by decide), es _ (by omega) (by omega), a1], by rw [upd_n (by decide), upd_n (by decide), es _ (by omega) (by omega), a2], by rw [upd_n (by decide), upd_n (by decide), es _ (by omega) (by omega), a3], by rw [upd_n (by decide), upd_s, eH], by rw [upd_n (by decide), upd_n (by decide), es _ (by omega) (by omega), a5], by rw [upd_s, eI], by rw [upd_n (by decide), upd_n (by decide), es _ (by omega) (by omega), a7]⟩
              · rw [up_n (nej hpn), up_n (nej hpn)]
                obtain ⟨a1, a2, a3, a4, a5, a6, a7⟩ := hR.2.2.2.2.2.2.2 p (by rw [hnp]; omega)
                exact ⟨by rw [es _ (by omega) (by omega), a1], by rw [es _ (by omega) (by omega), a2], by rw [es _ (by omega) (by omega), a3], by rw [es _ (by omega) (by omega), a4], by rw [es _ (by omega) (by omega), a5], by rw [es _ (by omega) (by omega), a6], by rw [es _ (by omega) (by omega), a7]⟩
          · rw [n15]
            intro p hp
            by_cases hpn : p = q
            · subst hpn
              exact ⟨sh, ne, ti, 1, so, 1, by rw [es _ (by omega) (by omega), e1], e2, by rw [es _ (by omega) (by omega), e3], e4, by rw [es _ (by omega) (by omega), e5], e6, by rw [eH]; rfl, by omega, by rw [es _ (by omega) (by omega), e9], e10, fun _ => e11 (by omega), by rw [eI]; rfl, by omega, fun z => by omega, fun _ => rfl⟩
            · exact (hp1 p (by omega)).eq (fun f hf => es f (by omega) (by omega))
          · rw [n15]
            intro p hp hp8
            obtain ⟨y1, y2, y3, y4⟩ := hp2 p (by omega) hp8
            exact ⟨by rw [es _ (by omega) (by omega), y1], by rw [es _ (by omega) (by omega), y2], by rw [es _ (by omega) (by omega), y3], by rw [es _ (by omega) (by omega), y4]⟩
          · rw [n15, hwi]
      · rw [putA, if_pos c1', hq2, if_pos c2, if_neg c3, if_neg c3, if_neg c3]
        exact ActC.no (by decide) rfl rfl
    · rw [putA, if_pos c1', hq2, if_neg c2, if_neg c2, if_neg c2]
      exact ActC.no (by decide) rfl rfl
  · rw [putA, if_neg c1, if_neg c1, if_neg (fun z => c1 ((rng_iff h15 h158).mpr z))]
    exact ActC.bad (by decide) rfl rfl
theorem take_C {Y Y' : YT} {k rf n np : Nat} {s : Nat → Int32} {p d r : Int32} (hR : RKi Y k s) (hI : Inv s n 0) (hnp : nn (s 15) = np) (hd : d = s 0) (hp : r = (if 0 ≤ p ∧ p < nI np then (if Y (1, k, nn p) 5 = 0 then -10004 else if d ≤ 60 then (if Y (1, k, nn p) 3 = 1 then 0 else Y (1, k, nn p) 3) else -10004) else -10001) ∧ Y' = if 0 ≤ p ∧ p < nI np then (if Y (1, k, nn p) 5 = 0 then up (up Y (2, 0, rf) 0 3) (2, 0, rf) 1 (Y (1, k, nn p) 3) else if d ≤ 60 then (if Y (1, k, nn p) 3 = 1 then up (up Y (1, k, nn p) 5 0) (1, k, nn p) 3 0 else up Y (1, k, nn p) 5 0) else up (up Y (2, 0, rf) 0 4) (2, 0, rf) 1 d) else Y) : ActC Y Y' k rf n (takeA s p) r := by
  subst hd
  obtain ⟨rfl, rfl⟩ := hp
  obtain ⟨h15, h158⟩ := hI.mb.np
  rw [hnp] at h15 h158
  by_cases c1 : 0 ≤ p ∧ p < nI np
  · have c1' := (rng_iff h15 h158).mp c1
    obtain ⟨q, hq, hpq⟩ := pot_nI h15 h158 c1'
    have hq2 : nn p = q := by rw [hpq, nn_nI (by omega)]
    rw [if_pos c1, if_pos c1, hq2]
    obtain ⟨a1, a2, a3, a4, a5, a6, a7⟩ := hR.2.2.2.2.2.2.2 q (by rw [hnp]; exact hq)
    rw [a4, a6]
    by_cases c2 : s (211 + q) = 0
    · rw [takeA, if_pos c1', hq2, if_pos c2, if_pos c2, if_pos c2]
      exact ActC.no (by decide) rfl rfl
    · rw [if_neg c2, if_neg c2]
      by_cases c3 : s 0 ≤ 60
      · rw [if_pos c3, if_pos c3]
        have hmb' := takeA_M (p := p) hI.mb
        obtain ⟨hmb, hN, hg, hp1, hp2, w, hw, hw4⟩ := hI
        rw [hnp] at hp1 hp2 hw
        rw [takeA, if_pos c1', hq2, if_neg c2, if_pos c3] at hmb' ⊢
        obtain ⟨sh, ne, ti, ho, so, i, e1, e2, e3, e4, e5, e6, e7, e8, e9, e10, e11, e12, e13, e14, e15⟩ := hp1 q hq
        have hi1 : i = 1 := by
          rcases Nat.lt_or_ge i 1 with z | z
          · exact absurd (by rw [e12, show i = 0 by omega]; rfl) c2
          · omega
        have es : ∀ f, f ≠ 195 + q → f ≠ 211 + q → takeS s q f = s f := fun f h1 h2 => by rw [takeS, upd_n h1, upd_n h2]
        have eH : takeS s q (195 + q) = if s (195 + q) = 1 then 0 else s (195 + q) := by rw [takeS, upd_s]
        have eI : takeS s q (211 + q) = 0 := by rw [takeS, upd_n (by omega), upd_s]
        have n15 : nn (takeS s q 15) = np := by rw [es _ (by omega) (by omega), hnp]
        obtain ⟨v, hv, v1, v2⟩ := wiN_dn (show s (211 + q) = 1 by rw [e12, hi1]; rfl) np hq (fun p hp => MB.potI (hp1 p hp))
        have hvw : v + 1 = w := (nI_eq (by omega) (by omega)).mp (v1.symm.trans hw)
        have hwi : wiN (takeS s q) np = nI v := by rw [takeS, wiN_congr (s := upd s (211 + q) 0) np (fun p hp => upd_n (by omega)), v2]
        have hh : ∃ h, h ≤ 3 ∧ h ≠ 1 ∧ (if s (195 + q) = 1 then 0 else s (195 + q)) = nI h ∧ (h ≤ 1 → so < ti) := by
          by_cases z : ho = 1
          · exact ⟨0, by omega, by omega, by rw [e7, z]; rfl, fun _ => e11 (by omega)⟩
          · exact ⟨ho, e8, z, by rw [if_neg (by rw [e7]; exact fun y => z ((nI_eq (b := 1) (by omega) (by decide)).mp y)), e7], e11⟩
        obtain ⟨h, hh3, hh1, hhe, hhs⟩ := hh
        have hb : ∃ y, (if s (195 + q) = 1 then up (up Y (1, k, q) 5 0) (1, k, q) 3 0 else up Y (1, k, q) 5 0) = setA Y (1, k, q) y ∧ y 0 = s (171 + q) ∧ y 1 = s (179 + q) ∧ y 2 = s (187 + q) ∧ y 3 = (if s (195 + q) = 1 then 0 else s (195 + q)) ∧ y 4 = s (203 + q) ∧ y 5 = 0 ∧ y 6 = s (219 + q) := by
          by_cases z : s (195 + q) = 1
          · rw [if_pos z, if_pos z]
            exact ⟨upd (upd (Y (1, k, q)) 5 0) 3 0, by simp only [up_setA, setA_setA, setA_s], by rw [upd_n (by decide), upd_n (by decide), a1], by rw [upd_n (by decide), upd_n (by decide), a2], by rw [upd_n (by decide), upd_n (by decide), a3], by rw [upd_s], by rw [upd_n (by decide), upd_n (by decide), a5], by rw [upd_n (by decide), upd_s], by rw [upd_n (by decide), upd_n (by decide), a7]⟩
          · rw [if_neg z, if_neg z]
            exact ⟨upd (Y (1, k, q)) 5 0, rfl, by rw [upd_n (by decide), a1], by rw [upd_n (by decide), a2], by rw [upd_n (by decide), a3], by rw [upd_n (by decide), a4], by rw [upd_n (by decide), a5], by rw [upd_s], by rw [upd_n (by decide), a7]⟩
        obtain ⟨y, hy, b0, b1, b2, b3, b4, b5, b6⟩ := hb
        rw [hy]
        refine ActC.ok rfl (by rw [hhe]; exact nI_pos' (by omega)) ?_ FrK.setP ⟨(hmb' rfl).up (by omega), (hN.eq (fun f hf => es f (by omega) (by omega))).up (by omega), hg.eq (fun f hf => es f (by omega) (by omega)), ?_, ?_, v, ?_, by omega⟩
        · refine hR.gen ?_ ?_ ?_ ?_ (by rw [setA_n s_kil]) (by rw [setA_n s_kil]) ?_ (fun f hf => es f (by omega) (by omega))
          · rw [setA_n s_kil]
            exact hR.1.cs (fun f hf => es f (by omega) (by omega))
          · rw [setA_n s_kil]
            exact hR.2.1.cs (fun f hf => es f (by omega) (by omega))
          · exact hR.g2 (by rw [setA_n s_kil]) (by rw [setA_n s_kil]) (fun f hf => es f (by omega) (by omega)) hmb.lg.2
          · rw [setA_n s_kil]
            exact hR.2.2.2.1.cs (fun f hf => es f (by omega) (by omega))
          · rw [n15, es 15 (by omega) (by omega), setA_n s_kil]
            refine ⟨hR.2.2.2.2.2.2.1, fun p hp => ?_⟩
            by_cases hpn : p = q
            · subst hpn
              rw [setA_s]
              exact ⟨by rw [es _ (by omega) (by omega), b0], by rw [es _ (by omega) (by omega), b1], by rw [es _ (by omega) (by omega), b2], by rw [eH, b3], by rw [es _ (by omega) (by omega), b4], by rw [eI, b5], by rw [es _ (by omega) (by omega), b6]⟩
            · rw [setA_n (nej hpn)]
              obtain ⟨a1, a2, a3, a4, a5, a6, a7⟩ := hR.2.2.2.2.2.2.2 p (by rw [hnp]; omega)
              exact ⟨by rw [es _ (by omega) (by omega), a1], by rw [es _ (by omega) (by omega), a2], by rw [es _ (by omega) (by omega), a3], by rw [es _ (by omega) (by omega), a4], by rw [es _ (by omega) (by omega), a5], by rw [es _ (by omega) (by omega), a6], by rw [es _ (by omega) (by omega), a7]⟩
        · rw [n15]
          intro p hp
          by_cases hpn : p = q
          · subst hpn
            exact ⟨sh, ne, ti, h, so, 0, by rw [es _ (by omega) (by omega), e1], e2, by rw [es _ (by omega) (by omega), e3], e4, by rw [es _ (by omega) (by omega), e5], e6, by rw [eH, hhe], hh3, by rw [es _ (by omega) (by omega), e9], e10, hhs, by rw [eI]; rfl, by omega, fun _ => rfl, fun z => absurd z hh1⟩
          · exact (hp1 p (by omega)).eq (fun f hf => es f (by omega) (by omega))
        · rw [n15]
          intro p hp hp8
          obtain ⟨y1, y2, y3, y4⟩ := hp2 p (by omega) hp8
          exact ⟨by rw [es _ (by omega) (by omega), y1], by rw [es _ (by omega) (by omega), y2], by rw [es _ (by omega) (by omega), y3], by rw [es _ (by omega) (by omega), y4]⟩
        · rw [n15, hwi]
      · rw [takeA, if_pos c1', hq2, if_neg c2, if_neg c3, if_neg c3, if_neg c3]
        exact ActC.no (by decide) rfl rfl
  · rw [takeA, if_neg c1, if_neg c1, if_neg (fun z => c1 ((rng_iff h15 h158).mpr z))]
    exact ActC.bad (by decide) rfl rfl
