/-! THE CLASS'S KILN k AND THE MODEL'S ROW s ARE ONE KILN; what holds of every row that comes up. -/
def PotR (y s : Nat → Int32) (p : Nat) : Prop := y 0 = s (171 + p) ∧ y 1 = s (179 + p) ∧ y 2 = s (187 + p) ∧ y 3 = s (195 + p) ∧ y 4 = s (203 + p) ∧ y 5 = s (211 + p) ∧ y 6 = s (219 + p)
def R0 (y s : Nat → Int32) : Prop := y 0 = s 0 ∧ y 1 = s 1 ∧ y 2 = s 13 ∧ y 3 = s 9
def R1 (y s : Nat → Int32) : Prop := y 0 = s 2 ∧ y 1 = s 3 ∧ y 2 = s 4 ∧ y 3 = s 6 ∧ y 4 = s 5 ∧ y 5 = s 7
def R4 (y s : Nat → Int32) : Prop := y 0 = s 12 ∧ y 1 = s 10 ∧ y 2 = s 11 ∧ y 3 = s 16
def RKi (Y : YT) (k : Nat) (s : Nat → Int32) : Prop :=
  R0 (Y (0, k, 0)) s ∧ R1 (Y (0, k, 1)) s ∧ (Y (0, k, 2) 0 = s 8 ∧ ∀ j, j < nn (s 8) → Y (0, k, 3) j = s (17 + j)) ∧ R4 (Y (0, k, 4)) s ∧ (∀ j, j < 101 → Y (0, k, 5) j = s (22 + j)) ∧
  (∀ p w, p < m12 (nn (s 12)) → w < 4 → Y (0, k, 6) ((nn (s 12) - 1 - p) % 12 * 4 + w) = s (123 + 4 * p + w)) ∧ (Y (0, k, 7) 0 = s 15 ∧ ∀ p, p < nn (s 15) → PotR (Y (1, k, p)) s p)
def PotI (s : Nat → Int32) (p : Nat) : Prop := ∃ sh ne ti ho so i : Nat, s (171 + p) = nI sh ∧ (1 ≤ sh ∧ sh ≤ 60) ∧ s (179 + p) = nI ne ∧ (100 ≤ ne ∧ ne ≤ 1200) ∧ s (187 + p) = nI ti ∧ (1 ≤ ti ∧ ti ≤ 99) ∧ s (195 + p) = nI ho ∧ ho ≤ 3 ∧ s (203 + p) = nI so ∧ so ≤ ti ∧ (ho ≤ 1 → so < ti) ∧ s (211 + p) = nI i ∧ i ≤ 1 ∧ (ho = 0 → i = 0) ∧ (ho = 1 → i = 1)
def InvN (s : Nat → Int32) (t : Nat) : Prop := ∃ d a mi : Nat, s 0 = nI d ∧ 20 ≤ d ∧ d ≤ 1320 ∧ s 1 = nI a ∧ 20 ≤ a ∧ a ≤ 1200 ∧ s 12 = nI mi ∧ mi ≤ t ∧ s 14 = nI (m12 mi)
def InvG (s : Nat → Int32) : Prop := ∃ g u c p : Nat, s 2 = nI g ∧ g ≤ 50 ∧ s 3 = nI u ∧ u ≤ 50 ∧ s 4 = nI c ∧ c ≤ 50 ∧ s 6 = nI p ∧ p ≤ 9000
def InvP (s : Nat → Int32) : Prop := (∀ p, p < nn (s 15) → PotI s p) ∧ (∀ p, nn (s 15) ≤ p → p < 8 → s (195 + p) = 0 ∧ s (203 + p) = 0 ∧ s (211 + p) = 0 ∧ s (219 + p) = 0) ∧ ∃ w, wiN s (nn (s 15)) = nI w ∧ w ≤ 4
/-- n acts behind it, and t minutes more -/
def Inv (s : Nat → Int32) (n t : Nat) : Prop := MB s n ∧ InvN s (300 * n + t) ∧ InvG s ∧ InvP s
def FrK (Y Y' : YT) (k : Nat) : Prop := ∀ i : Id3, ¬ (i.1 ≤ 1 ∧ i.2.1 = k) → Y' i = Y i
theorem FrK.rf (Y : YT) (k : Nat) : FrK Y Y k := fun _ _ => rfl
theorem FrK.tr {X Y Z : YT} {k : Nat} (h : FrK X Y k) (g : FrK Y Z k) : FrK X Z k := fun i hi => (g i hi).trans (h i hi)
theorem RKi.congr {Y Y' : YT} {k : Nat} {s : Nat → Int32} (h : RKi Y k s) (he : ∀ i : Id3, i.1 ≤ 1 → i.2.1 = k → Y' i = Y i) : RKi Y' k s := by
  obtain ⟨h0, h1, h2, h4, h5, h6, h7, h8⟩ := h
  refine ⟨by rw [he (0, k, 0) (Nat.zero_le 1) rfl]; exact h0, by rw [he (0, k, 1) (Nat.zero_le 1) rfl]; exact h1, ⟨by rw [he (0, k, 2) (Nat.zero_le 1) rfl]; exact h2.1, fun j hj => by rw [he (0, k, 3) (Nat.zero_le 1) rfl]; exact h2.2 j hj⟩, by rw [he (0, k, 4) (Nat.zero_le 1) rfl]; exact h4, fun j hj => by rw [he (0, k, 5) (Nat.zero_le 1) rfl]; exact h5 j hj, fun p w hp hw => by rw [he (0, k, 6) (Nat.zero_le 1) rfl]; exact h6 p w hp hw, by rw [he (0, k, 7) (Nat.zero_le 1) rfl]; exact h7, fun p hp => by rw [he (1, k, p) (Nat.le_refl 1) rfl]; exact h8 p hp⟩
theorem RKi.fr {Y Y' : YT} {k k2 : Nat} {s : Nat → Int32} (h : RKi Y k s) (hf : FrK Y Y' k2) (hk : k ≠ k2) : RKi Y' k s := h.congr (fun i _ h2 => hf i (fun q => hk (h2.symm.trans q.2)))
theorem setF_n {Y : YT} {i j : Id3} {len : Nat} {x v : Int32} (h : j ≠ i) : setF Y i len x v j = Y j := by
  unfold setF
  split
  · exact up_n h
  · rfl
/-- a copy is the same kiln -/
theorem copy_ok {Y Y' : YT} {k k2 : Nat} {s : Nat → Int32} (h : RKi Y k2 s)
    (c0 : ∀ f, f < 4 → Y' (0, k, 0) f = Y (0, k2, 0) f) (c1 : ∀ f, f < 6 → Y' (0, k, 1) f = Y (0, k2, 1) f) (c2 : Y' (0, k, 2) 0 = Y (0, k2, 2) 0) (c3 : ∀ f, f < 5 → Y' (0, k, 3) f = Y (0, k2, 3) f) (c4 : ∀ f, f < 4 → Y' (0, k, 4) f = Y (0, k2, 4) f) (c5 : ∀ f, f < 101 → Y' (0, k, 5) f = Y (0, k2, 5) f) (c6 : ∀ f, f < 48 → Y' (0, k, 6) f = Y (0, k2, 6) f) (c7 : Y' (0, k, 7) 0 = Y (0, k2, 7) 0) (c8 : ∀ p, p < nn (s 15) → ∀ f, f < 7 → Y' (1, k, p) f = Y (1, k2, p) f) (h5 : nn (s 8) ≤ 5) : RKi Y' k s := by
  obtain ⟨⟨a0, a1, a2, a3⟩, ⟨b0, b1, b2, b3, b4, b5⟩, h2, ⟨d0, d1, d2, d3⟩, h5', h6, h7, h8⟩ := h
  refine ⟨⟨by rw [c0 0 (by decide), a0], by rw [c0 1 (by decide), a1], by rw [c0 2 (by decide), a2], by rw [c0 3 (by decide), a3]⟩, ⟨by rw [c1 0 (by decide), b0], by rw [c1 1 (by decide), b1], by rw [c1 2 (by decide), b2], by rw [c1 3 (by decide), b3], by rw [c1 4 (by decide), b4], by rw [c1 5 (by decide), b5]⟩, ⟨c2.trans h2.1, fun j hj => by rw [c3 j (by omega)]; exact h2.2 j hj⟩, ⟨by rw [c4 0 (by decide), d0], by rw [c4 1 (by decide), d1], by rw [c4 2 (by decide), d2], by rw [c4 3 (by decide), d3]⟩, fun j hj => by rw [c5 j hj]; exact h5' j hj, fun p w hp hw => ?_, c7.trans h7, fun p hp => ?_⟩
  · rw [c6 _ (by have : (nn (s 12) - 1 - p) % 12 < 12 := Nat.mod_lt _ (by decide); omega)]
    exact h6 p w hp hw
  · obtain ⟨e0, e1, e2, e3, e4, e5, e6⟩ := h8 p hp
    exact ⟨by rw [c8 p hp 0 (by decide), e0], by rw [c8 p hp 1 (by decide), e1], by rw [c8 p hp 2 (by decide), e2], by rw [c8 p hp 3 (by decide), e3], by rw [c8 p hp 4 (by decide), e4], by rw [c8 p hp 5 (by decide), e5], by rw [c8 p hp 6 (by decide), e6]⟩
theorem Inv.mb {s : Nat → Int32} {n t : Nat} (h : Inv s n t) : MB s n := h.1
theorem MB.np {s : Nat → Int32} {n : Nat} (h : MB s n) : s 15 = nI (nn (s 15)) ∧ nn (s 15) ≤ 8 := by
  obtain ⟨lg, np, d, fu, h1, h2, h3, h4, -⟩ := h
  rw [h3, nn_nI (by omega)]
  exact ⟨rfl, h4⟩
theorem MB.lg {s : Nat → Int32} {n : Nat} (h : MB s n) : s 8 = nI (nn (s 8)) ∧ nn (s 8) ≤ 5 := by
  obtain ⟨lg, np, d, fu, h1, h2, -⟩ := h
  rw [h1, nn_nI (by omega)]
  exact ⟨rfl, h2⟩
theorem Inv.mi {s : Nat → Int32} {n t : Nat} (h : Inv s n t) (hb : 300 * n + t < 2 ^ 29) : s 12 = nI (nn (s 12)) ∧ nn (s 12) ≤ 300 * n + t := by
  obtain ⟨-, ⟨d, a, mi, -, -, -, -, -, -, h1, h2, -⟩, -⟩ := h
  rw [h1, nn_nI (by omega)]
  exact ⟨rfl, h2⟩
