
theorem refs0 (f : Nat → Nat) : (fun j => if j < 0 then some (f j) else none) = fun _ => (none : Option Nat) := by
  funext j
  rw [if_neg (Nat.not_lt_zero j)]
def PK (k : Nat) (i : Id3) : Prop := (i.1 = 0 ∧ i.2.1 = k ∧ i.2.2 < 9) ∨ (i.1 = 1 ∧ i.2.1 = k ∧ i.2.2 < 8)
def ClN (gf : Id3 → Nat) (c : Nat) (P : Id3 → Prop) : Prop := ∀ i, P i → gf i ≠ c ∧ ∀ z, rfs i z → gf z ≠ c
def ClE (gf : Id3 → Nat) (d : Nat) (P : Id3 → Prop) : Prop := ∀ i, P i → gf i = d ∧ ∀ z, rfs i z → gf z = d
theorem ClE.ne {gf : Id3 → Nat} {c d : Nat} {P : Id3 → Prop} (h : ClE gf d P) (hne : d ≠ c) : ClN gf c P := fun i hi => ⟨by rw [(h i hi).1]; exact hne, fun z hz => by rw [(h i hi).2 z hz]; exact hne⟩
theorem ClN.or {gf : Id3 → Nat} {c : Nat} {P P' : Id3 → Prop} (h : ClN gf c P) (h' : ClN gf c P') : ClN gf c (fun i => P i ∨ P' i) := fun i hi => hi.elim (h i) (h' i)
theorem ClN.F {gf : Id3 → Nat} {c : Nat} : ClN gf c (fun _ => False) := fun _ h => h.elim
theorem Acc.blk2 {G : GT} {P : Id3 → Prop} {a : Id3 → Nat} {M0 M : Mem} {t : Nat} {root : Id3} (h : Acc G P (fun q => q = t) a M0 M) (gf : Id3 → Nat) (hcl : ClN gf (gf root) P) (hrr : ∀ z, rfs root z → z ≠ root) (hc : ∀ a', (∀ i, i ≠ root → a' i = a i) → M t = some (cel0 G a' root)) : Blk G (fun i => P i ∨ i = root) root t M0 M :=
  h.blk (fun z => (hcl root z).1 rfl) (fun i hi z hz => hi.elim (fun hi e => (hcl i hi).2 z hz (by rw [e])) (fun hi => by rw [hi] at hz; exact hrr z hz)) hc
theorem Acc.closeA {G : GT} {P : Id3 → Prop} {T : Nat → Prop} {a : Id3 → Nat} {M0 M : Mem} {r : Nat} (i0 : Id3) (h : Acc G P (fun q => T q ∨ q = r) a M0 M) (h0 : M0 r = none) (hTr : ¬ T r) (hcl : ∀ i, P i → i ≠ i0 ∧ ∀ z, rfs i z → z ≠ i0) (hself : ∀ z, rfs i0 z → z ≠ i0) (hc : M r = some (cel0 G a i0)) : ∃ a', Acc G (fun i => P i ∨ i = i0) T a' M0 M ∧ a' i0 = r ∧ ∀ i, i ≠ i0 → a' i = a i := by
  have e : ∀ i, i ≠ i0 → (if i = i0 then r else a i) = a i := fun i hi => if_neg hi
  refine ⟨fun i => if i = i0 then r else a i, (h.congr (a' := fun i => if i = i0 then r else a i) (fun i hi => ⟨e i (hcl i hi).1, fun z hz => e z ((hcl i hi).2 z hz)⟩)).close h0 hTr (if_pos rfl) ?_, if_pos rfl, e⟩
  rw [hc]
  exact congrArg some (cel0_congr (fun z hz => (e z (hself z hz)).symm))
/-- inside a kiln -/
def gKn (i : Id3) : Nat := if i.1 = 1 then 7 else if i.2.2 = 3 then 2 else if i.2.2 = 5 ∨ i.2.2 = 6 then 4 else if i.2.2 = 8 then 7 else i.2.2
theorem cl_reg (k : Nat) : ClE gKn 1 (fun i => i = (0, k, 1)) := fun i hi => by subst hi; exact ⟨rfl, fun z hz => (rf_01 hz).elim⟩
theorem cl_lag (k : Nat) : ClE gKn 2 (fun i => i = (0, k, 2) ∨ i = (0, k, 3)) := fun i hi => by
  rcases hi with rfl | rfl
  · exact ⟨rfl, fun z hz => by rw [rf_02 hz]; rfl⟩
  · exact ⟨rfl, fun z hz => (rf_03 hz).elim⟩
theorem cl_book (k : Nat) : ClE gKn 4 (fun i => i = (0, k, 4) ∨ i = (0, k, 5) ∨ i = (0, k, 6)) := fun i hi => by
  rcases hi with rfl | rfl | rfl
  · refine ⟨rfl, fun z hz => ?_⟩
    rcases rf_04 hz with rfl | rfl <;> rfl
  · exact ⟨rfl, fun z hz => (rf_05 hz).elim⟩
  · exact ⟨rfl, fun z hz => (rf_06 hz).elim⟩
theorem cl_rack (k : Nat) : ClE gKn 7 (fun i => i = (0, k, 7) ∨ i = (0, k, 8) ∨ (i.1 = 1 ∧ i.2.1 = k ∧ i.2.2 < 8)) := fun i hi => by
  rcases hi with rfl | rfl | ⟨h1, h2, h3⟩
  · exact ⟨rfl, fun z hz => by rw [rf_07 hz]; rfl⟩
  · refine ⟨rfl, fun z hz => ?_⟩
    obtain ⟨j, rfl⟩ := rf_08 hz
    rfl
  · obtain ⟨x, y, p⟩ := i
    simp only at h1 h2 h3
    subst h1
    exact ⟨rfl, fun z hz => (rf_1 hz).elim⟩
theorem rfs_kiln {k : Nat} {i : Id3} (h : PK k i) {z : Id3} (hz : rfs i z) : z.1 ≤ 1 ∧ z.2.1 = k := by
  obtain ⟨x, y, q⟩ := i
  rcases h with ⟨h1, h2, h3⟩ | ⟨h1, h2, h3⟩
  · simp only at h1 h2 h3
    subst h1 h2
    have hc : q = 0 ∨ q = 1 ∨ q = 2 ∨ q = 3 ∨ q = 4 ∨ q = 5 ∨ q = 6 ∨ q = 7 ∨ q = 8 := by omega
    rcases hc with rfl | rfl | rfl | rfl | rfl | rfl | rfl | rfl | rfl
    · rcases rf_00 hz with rfl | rfl | rfl | rfl <;> exact ⟨Nat.zero_le 1, rfl⟩
    · exact (rf_01 hz).elim
    · rw [rf_02 hz]; exact ⟨Nat.zero_le 1, rfl⟩
    · exact (rf_03 hz).elim
    · rcases rf_04 hz with rfl | rfl <;> exact ⟨Nat.zero_le 1, rfl⟩
    · exact (rf_05 hz).elim
    · exact (rf_06 hz).elim
    · rw [rf_07 hz]; exact ⟨Nat.zero_le 1, rfl⟩
    · obtain ⟨j, rfl⟩ := rf_08 hz
      exact ⟨Nat.le_refl 1, rfl⟩
  · simp only at h1 h2 h3
    subst h1
    exact (rf_1 hz).elim
theorem PK.le {k : Nat} {i : Id3} (h : PK k i) : i.1 ≤ 1 ∧ i.2.1 = k := by
  rcases h with ⟨h1, h2, h3⟩ | ⟨h1, h2, h3⟩
  · exact ⟨by omega, h2⟩
  · exact ⟨by omega, h2⟩
theorem PK.parts {k : Nat} {i : Id3} (h : PK k i) : ((((False ∨ i = (0, k, 1)) ∨ (i = (0, k, 2) ∨ i = (0, k, 3))) ∨ (i = (0, k, 4) ∨ i = (0, k, 5) ∨ i = (0, k, 6))) ∨ (i = (0, k, 7) ∨ i = (0, k, 8) ∨ (i.1 = 1 ∧ i.2.1 = k ∧ i.2.2 < 8))) ∨ i = (0, k, 0) := by
  rcases h with ⟨h1, h2, h3⟩ | h
  · obtain ⟨x, y, q⟩ := i
    simp only at h1 h2 h3
    subst h1 h2
    have hc : q = 0 ∨ q = 1 ∨ q = 2 ∨ q = 3 ∨ q = 4 ∨ q = 5 ∨ q = 6 ∨ q = 7 ∨ q = 8 := by omega
    rcases hc with rfl | rfl | rfl | rfl | rfl | rfl | rfl | rfl | rfl
    · exact Or.inr rfl
    · exact Or.inl (Or.inl (Or.inl (Or.inl (Or.inr rfl))))
    · exact Or.inl (Or.inl (Or.inl (Or.inr (Or.inl rfl))))
    · exact Or.inl (Or.inl (Or.inl (Or.inr (Or.inr rfl))))
    · exact Or.inl (Or.inl (Or.inr (Or.inl rfl)))
    · exact Or.inl (Or.inl (Or.inr (Or.inr (Or.inl rfl))))
    · exact Or.inl (Or.inl (Or.inr (Or.inr (Or.inr rfl))))
    · exact Or.inl (Or.inr (Or.inl rfl))
    · exact Or.inl (Or.inr (Or.inr (Or.inl rfl)))
  · exact Or.inl (Or.inr (Or.inr (Or.inr h)))
/-- the kilns of the changes; the orders of the reader; the keeper's own -/
def gC (i : Id3) : Nat := if i.1 ≤ 1 then 1 + i.2.1 else 0
theorem clC (k : Nat) : ClE gC (1 + k) (PK k) := fun i hi => by
  obtain ⟨h1, h2⟩ := hi.le
  refine ⟨by rw [gC, if_pos h1, h2], fun z hz => ?_⟩
  obtain ⟨g1, g2⟩ := rfs_kiln hi hz
  rw [gC, if_pos g1, g2]
def PO (k : Nat) (i : Id3) : Prop := i = (3, k, 0) ∨ i = (3, k, 1)
def gO (i : Id3) : Nat := if i.1 = 3 then 1 + i.2.1 else 0
theorem clO (k : Nat) : ClE gO (1 + k) (PO k) := fun i hi => by
  rcases hi with rfl | rfl
  · exact ⟨rfl, fun z hz => by rw [rf_30 hz]; rfl⟩
  · exact ⟨rfl, fun z hz => (rf_31 hz).elim⟩
def PS (j : Nat) (i : Id3) : Prop := i = (5, 0, j) ∨ i = (5, 1, j)
theorem clS (j : Nat) (gf : Id3 → Nat) (d : Nat) (h : gf (5, 0, j) = d ∧ gf (5, 1, j) = d) : ClE gf d (PS j) := fun i hi => by
  rcases hi with rfl | rfl
  · exact ⟨h.1, fun z hz => by rw [rf_50 hz]; exact h.2⟩
  · exact ⟨h.2, fun z hz => (rf_51 hz).elim⟩

def PC (i : Id3) : Prop := i = (2, 0, 1) ∨ i = (2, 0, 2) ∨ ∃ j, j < 8 ∧ PK (3 + j) i
def PRd (i : Id3) : Prop := i = (2, 0, 5) ∨ i = (2, 0, 6) ∨ PS 0 i ∨ ∃ j, j < 12 ∧ PO j i
def gT (i : Id3) : Nat := if i.1 ≤ 1 then (if i.2.1 < 3 then i.2.1 + 1 else 4) else if i.1 = 3 then 7 else if i.1 = 5 then (if i.2.2 = 0 then 7 else 8) else if i.1 = 2 then (if i.2.2 = 0 then 0 else if i.2.2 ≤ 2 then 4 else if i.2.2 = 3 then 5 else if i.2.2 = 4 then 6 else 7) else 9
theorem gT_k {z : Id3} {k : Nat} (h1 : z.1 ≤ 1) (h2 : z.2.1 = k) : gT z = if k < 3 then k + 1 else 4 := by rw [gT, if_pos h1, h2]
theorem clT_k (k : Nat) (hk : k < 3) : ClE gT (k + 1) (PK k) := fun i hi => by
  refine ⟨by rw [gT_k hi.le.1 hi.le.2, if_pos hk], fun z hz => ?_⟩
  obtain ⟨g1, g2⟩ := rfs_kiln hi hz
  rw [gT_k g1 g2, if_pos hk]
theorem clT_c : ClE gT 4 PC := fun i hi => by
  rcases hi with rfl | rfl | ⟨j, hj, hi⟩
  · exact ⟨rfl, fun z hz => by rw [rf_21 hz]; rfl⟩
  · refine ⟨rfl, fun z hz => ?_⟩
    obtain ⟨j, rfl⟩ := rf_22 hz
    rw [gT_k (Nat.zero_le 1) rfl, if_neg (show ¬ 3 + j < 3 by omega)]
  · refine ⟨by rw [gT_k hi.le.1 hi.le.2, if_neg (by omega)], fun z hz => ?_⟩
    obtain ⟨g1, g2⟩ := rfs_kiln hi hz
    rw [gT_k g1 g2, if_neg (by omega)]
theorem clT_3 : ClE gT 5 (fun i => i = (2, 0, 3)) := fun i hi => by subst hi; exact ⟨rfl, fun z hz => (rf_23 hz).elim⟩
theorem clT_4 : ClE gT 6 (fun i => i = (2, 0, 4)) := fun i hi => by subst hi; exact ⟨rfl, fun z hz => (rf_24 hz).elim⟩
theorem clT_r : ClE gT 7 PRd := fun i hi => by
  rcases hi with rfl | rfl | hi | ⟨j, hj, hi⟩
  · refine ⟨rfl, fun z hz => ?_⟩
    rcases rf_25 hz with rfl | rfl <;> rfl
  · refine ⟨rfl, fun z hz => ?_⟩
    obtain ⟨j, rfl⟩ := rf_26 hz
    rfl
  · exact clS 0 gT 7 ⟨rfl, rfl⟩ i hi
  · rcases hi with rfl | rfl
    · exact ⟨rfl, fun z hz => by rw [rf_30 hz]; rfl⟩
    · exact ⟨rfl, fun z hz => (rf_31 hz).elim⟩
def PKp (i : Id3) : Prop := ((((((((False ∨ PK 0 i) ∨ PK 1 i) ∨ PK 2 i) ∨ PC i) ∨ i = (2, 0, 3)) ∨ i = (2, 0, 4)) ∨ PRd i) ∨ PS 1 i) ∨ i = (2, 0, 0)
theorem fp_X12_10 : FLP "KilnKeeper" 10 11 0 (.object "KilnKeeper$Kiln") true := ⟨RX12, TX12, 9, tyX12, rfl, by decide, aw_307, in_TX12, tyX12_ok, nmX12, rfl, rfl, fun h => by first | exact rfl | cases h⟩
theorem fp_X12_16 : FLP "KilnKeeper" 16 11 1 (.object "KilnKeeper$Kiln") true := ⟨RX12, TX12, 9, tyX12, rfl, by decide, aw_308, in_TX12, tyX12_ok, nmX12, rfl, rfl, fun h => by first | exact rfl | cases h⟩
theorem fp_X12_19 : FLP "KilnKeeper" 19 11 2 (.object "KilnKeeper$Kiln") true := ⟨RX12, TX12, 9, tyX12, rfl, by decide, aw_309, in_TX12, tyX12_ok, nmX12, rfl, rfl, fun h => by first | exact rfl | cases h⟩
theorem fp_X12_29 : FLP "KilnKeeper" 29 11 4 (.object "KilnKeeper$Changes") true := ⟨RX12, TX12, 9, tyX12, rfl, by decide, aw_311, in_TX12, tyX12_ok, nmX12, rfl, rfl, fun h => by first | exact rfl | cases h⟩
theorem fp_X12_36 : FLP "KilnKeeper" 36 11 5 (.object "KilnKeeper$Refusal") true := ⟨RX12, TX12, 9, tyX12, rfl, by decide, aw_312, in_TX12, tyX12_ok, nmX12, rfl, rfl, fun h => by first | exact rfl | cases h⟩
theorem fp_X12_40 : FLP "KilnKeeper" 40 11 6 (.object "KilnKeeper$Refusal") true := ⟨RX12, TX12, 9, tyX12, rfl, by decide, aw_313, in_TX12, tyX12_ok, nmX12, rfl, rfl, fun h => by first | exact rfl | cases h⟩
theorem fp_X12_46 : FLP "KilnKeeper" 46 11 7 (.object "KilnKeeper$Reader") true := ⟨RX12, TX12, 9, tyX12, rfl, by decide, aw_314, in_TX12, tyX12_ok, nmX12, rfl, rfl, fun h => by first | exact rfl | cases h⟩
theorem fp_X12_53 : FLP "KilnKeeper" 53 11 8 (.object "java/lang/StringBuilder") true := ⟨RX12, TX12, 9, tyX12, rfl, by decide, aw_315, in_TX12, tyX12_ok, nmX12, rfl, rfl, fun h => by first | exact rfl | cases h⟩
theorem fp_X2_20 : FLP "KilnKeeper$Changes" 20 2 2 (.array (.object "KilnKeeper$Kiln")) true := ⟨RX2, TX2, 3, tyX2, rfl, by decide, aw_218, in_TX2, tyX2_ok, nmX2, rfl, rfl, fun h => by first | exact rfl | cases h⟩
theorem fp_X3_27 : FLP "KilnKeeper$Kiln" 27 3 4 (.object "KilnKeeper$Regulator") true := ⟨RX3, TX3, 8, tyX3, rfl, by decide, aw_182, in_TX3, tyX3_ok, nmX3, rfl, rfl, fun h => by first | exact rfl | cases h⟩
theorem fp_X3_34 : FLP "KilnKeeper$Kiln" 34 3 5 (.object "KilnKeeper$LagRow") true := ⟨RX3, TX3, 8, tyX3, rfl, by decide, aw_184, in_TX3, tyX3_ok, nmX3, rfl, rfl, fun h => by first | exact rfl | cases h⟩
theorem fp_X3_41 : FLP "KilnKeeper$Kiln" 41 3 6 (.object "KilnKeeper$Book") true := ⟨RX3, TX3, 8, tyX3, rfl, by decide, aw_185, in_TX3, tyX3_ok, nmX3, rfl, rfl, fun h => by first | exact rfl | cases h⟩
theorem fp_X3_48 : FLP "KilnKeeper$Kiln" 48 3 7 (.object "KilnKeeper$Rack") true := ⟨RX3, TX3, 8, tyX3, rfl, by decide, aw_187, in_TX3, tyX3_ok, nmX3, rfl, rfl, fun h => by first | exact rfl | cases h⟩
theorem fp_X7_17 : FLP "KilnKeeper$Rack" 17 7 1 (.array (.object "KilnKeeper$Pot")) true := ⟨RX7, TX7, 2, tyX7, rfl, by decide, aw_170, in_TX7, tyX7_ok, nmX7, rfl, rfl, fun h => by first | exact rfl | cases h⟩
theorem fp_X8_12 : FLP "KilnKeeper$Reader" 12 8 0 (.object "java/lang/StringBuilder") true := ⟨RX8, TX8, 2, tyX8, rfl, by decide, aw_298, in_TX8, tyX8_ok, nmX8, rfl, rfl, fun h => by first | exact rfl | cases h⟩
theorem fp_X8_20 : FLP "KilnKeeper$Reader" 20 8 1 (.array (.object "KilnKeeper$Order")) true := ⟨RX8, TX8, 2, tyX8, rfl, by decide, aw_299, in_TX8, tyX8_ok, nmX8, rfl, rfl, fun h => by first | exact rfl | cases h⟩
theorem my_J4_init_da8c8 : MI yJ4_init_da8c8 cJ4_init_da8c8 1 0 := ⟨aw_249, aw_26, ⟨by decide, by decide, by decide +kernel⟩, aw_248, rfl⟩
theorem my_X10_init : MI yX10_init cX10_init 1 0 := ⟨aw_58, aw_17, ⟨by decide, by decide, by decide +kernel⟩, aw_57, rfl⟩
theorem my_X1_init : MI yX1_init cX1_init 1 0 := ⟨aw_100, aw_19, ⟨by decide, by decide, by decide +kernel⟩, aw_99, rfl⟩
theorem my_X2_init : MI yX2_init cX2_init 2 0 := ⟨aw_210, aw_22, ⟨by decide, by decide, by decide +kernel⟩, aw_209, rfl⟩
theorem my_X3_init : MI yX3_init cX3_init 1 0 := ⟨aw_52, aw_16, ⟨by decide, by decide, by decide +kernel⟩, aw_51, rfl⟩
theorem my_X4_init : MI yX4_init cX4_init 1 0 := ⟨aw_85, aw_18, ⟨by decide, by decide, by decide +kernel⟩, aw_84, rfl⟩
theorem my_X5_init : MI yX5_init cX5_init 1 0 := ⟨aw_283, aw_29, ⟨by decide, by decide, by decide +kernel⟩, aw_282, rfl⟩
theorem my_X6_init : MI yX6_init cX6_init 1 0 := ⟨aw_138, aw_21, ⟨by decide, by decide, by decide +kernel⟩, aw_137, rfl⟩
theorem my_X7_init : MI yX7_init cX7_init 2 0 := ⟨aw_131, aw_20, ⟨by decide, by decide, by decide +kernel⟩, aw_130, rfl⟩
theorem my_X8_init : MI yX8_init cX8_init 2 0 := ⟨aw_243, aw_24, ⟨by decide, by decide, by decide +kernel⟩, aw_242, rfl⟩
theorem my_X9_init : MI yX9_init cX9_init 1 0 := ⟨aw_230, aw_23, ⟨by decide, by decide, by decide +kernel⟩, aw_229, rfl⟩
theorem cn_X12_7 : CN "KilnKeeper" 7 3 8 tyX3 := ⟨RX3, TX3, rfl, aw_48, aw_49, aw_16, in_TX3, tyX3_ok⟩
theorem cn_X12_26 : CN "KilnKeeper" 26 2 3 tyX2 := ⟨RX2, TX2, rfl, aw_206, aw_207, aw_22, in_TX2, tyX2_ok⟩
theorem cn_X12_33 : CN "KilnKeeper" 33 9 2 tyX9 := ⟨RX9, TX9, rfl, aw_226, aw_227, aw_23, in_TX9, tyX9_ok⟩
theorem cn_X12_43 : CN "KilnKeeper" 43 8 2 tyX8 := ⟨RX8, TX8, rfl, aw_239, aw_240, aw_24, in_TX8, tyX8_ok⟩
theorem cn_X12_50 : CN "KilnKeeper" 50 0 4 tyJ4 := ⟨RJ4, TJ4, rfl, aw_305, aw_246, aw_26, in_TJ4, tyJ4_ok⟩
theorem cn_X2_18 : CN "KilnKeeper$Changes" 18 3 8 tyX3 := ⟨RX3, TX3, rfl, aw_212, aw_49, aw_16, in_TX3, tyX3_ok⟩
theorem cn_X3_24 : CN "KilnKeeper$Kiln" 24 10 6 tyX10 := ⟨RX10, TX10, rfl, aw_54, aw_55, aw_17, in_TX10, tyX10_ok⟩
theorem cn_X3_31 : CN "KilnKeeper$Kiln" 31 4 2 tyX4 := ⟨RX4, TX4, rfl, aw_81, aw_82, aw_18, in_TX4, tyX4_ok⟩
theorem cn_X3_38 : CN "KilnKeeper$Kiln" 38 1 6 tyX1 := ⟨RX1, TX1, rfl, aw_96, aw_97, aw_19, in_TX1, tyX1_ok⟩
theorem cn_X3_45 : CN "KilnKeeper$Kiln" 45 7 2 tyX7 := ⟨RX7, TX7, rfl, aw_127, aw_128, aw_20, in_TX7, tyX7_ok⟩
theorem cn_X7_15 : CN "KilnKeeper$Rack" 15 6 7 tyX6 := ⟨RX6, TX6, rfl, aw_133, aw_135, aw_21, in_TX6, tyX6_ok⟩
theorem cn_X8_9 : CN "KilnKeeper$Reader" 9 0 4 tyJ4 := ⟨RJ4, TJ4, rfl, aw_245, aw_246, aw_26, in_TJ4, tyJ4_ok⟩
theorem cn_X8_18 : CN "KilnKeeper$Reader" 18 5 2 tyX5 := ⟨RX5, TX5, rfl, aw_278, aw_280, aw_29, in_TX5, tyX5_ok⟩
theorem ZD_0 : ∀ j, j < 4 → defaultValue (tyJ4 j) = vp_V [.null, .int 0, .int 0, .int 0] j := zd_of rfl
theorem ZD_1 : ∀ j, j < 6 → defaultValue (tyX1 j) = vp_V [.int 0, .int 0, .int 0, .int 0, .null, .null] j := zd_of rfl
theorem ZD_2 : ∀ j, j < 3 → defaultValue (tyX2 j) = vp_V [.int 0, .int 0, .null] j := zd_of rfl
theorem ZD_3 : ∀ j, j < 8 → defaultValue (tyX3 j) = vp_V [.int 0, .int 0, .int 0, .int 0, .null, .null, .null, .null] j := zd_of rfl
theorem ZD_4 : ∀ j, j < 2 → defaultValue (tyX4 j) = vp_V [.int 0, .null] j := zd_of rfl
theorem ZD_5 : ∀ j, j < 2 → defaultValue (tyX5 j) = vp_V [.null, .null] j := zd_of rfl
theorem ZD_6 : ∀ j, j < 7 → defaultValue (tyX6 j) = vp_V [.int 0, .int 0, .int 0, .int 0, .int 0, .int 0, .int 0] j := zd_of rfl
theorem ZD_7 : ∀ j, j < 2 → defaultValue (tyX7 j) = vp_V [.int 0, .null] j := zd_of rfl
theorem ZD_8 : ∀ j, j < 2 → defaultValue (tyX8 j) = vp_V [.null, .null] j := zd_of rfl
theorem ZD_9 : ∀ j, j < 2 → defaultValue (tyX9 j) = vp_V [.int 0, .int 0] j := zd_of rfl
theorem ZD_10 : ∀ j, j < 6 → defaultValue (tyX10 j) = vp_V [.int 0, .int 0, .int 0, .int 0, .int 0, .int 0] j := zd_of rfl
-- KilnKeeper$Rack.<init>
set_option maxHeartbeats 1000000 in
set_option maxRecDepth 20000 in
theorem j_X7_init (l : Launch) (G : GT) (M : Mem) (t : Nat) (k : Nat) (h_t : M t = some (.inr (7, [.int 0, .null])))  : Ct l G yX7_init cX7_init 2 none ({ frames := 2, cells := 9, slots := 64, locals := 40 } : Room) [.ref t] M (fun ov M' => ov = none ∧ (Blk G (fun i => i = (0, k, 7) ∨ i = (0, k, 8) ∨ (i.1 = 1 ∧ i.2.1 = k ∧ i.2.2 < 8)) (0, k, 7) t M M')) := by
  refine Ct.of (by decide) rfl (Nat.le_of_ble_eq_true rfl) ?_
  intro X A C hl hin
  subst hl
  have A_0 : Acc G (fun _ => False) (fun q => q = t) (fun _ => t) M M := Acc.nil (fun q hq => by rw [hq, h_t]; simp)
  refine r_aload_n C dX7_init_0 rfl ?_
  refine r_objInit C aw_132 aw_46 aw_47 rfl rfl dX7_init_1 ?_
  refine r_aload_n C dX7_init_4 rfl ?_
  refine r_iconst (v := 0) C dX7_init_5 (by decide) ?_
  refine r_putf C fp_X7_9 h_t (Nat.le_of_ble_eq_true rfl) rfl rfl dX7_init_6 ?_
  refine r_named (e' := .inr (7, [.int 0, .null])) rfl (fun M6 hM6 => ?_)
  have f6_t : M6 t = some (.inr (7, [.int 0, .null])) := by rw [hM6]; exact mup_s
  have A_6 := A_0.put rfl hM6
  refine r_aload_n C dX7_init_9 rfl ?_
  refine r_bipush (v := 8) C dX7_init_10 (by decide) ?_
  refine r_newQ C 2 rfl aw_133 (va_AO.use (C.ev.2.2.2.2.2.2.2.2.2.2.2.1 _ (List.mem_cons_of_mem _ (List.mem_cons_of_mem _ List.mem_cons_self)))) (by decide) (N := 8) (by decide) rfl rfl rfl dX7_init_12 (fun a12 hn12 => ?_)
  have ne12_t : t ≠ a12 := fun h_ => by have q_ := f6_t; rw [h_] at q_; cases q_.symm.trans hn12
  refine r_named (e' := .inl (gc G 2, 8, .inr (.inr (.inr (.inr (fun _ => none)))))) rfl (fun M12 hM12 => ?_)
  have f12_a12 : M12 a12 = some (.inl (gc G 2, 8, .inr (.inr (.inr (.inr (fun _ => none)))))) := by rw [hM12]; exact mup_s
  have f12_t : M12 t = some (.inr (7, [.int 0, .null])) := by rw [hM12, mup_n (by first | assumption | exact Ne.symm (by assumption) | exact fun h_ => by rw [h_] at f6_t; cases f6_t.symm.trans hn12)]; exact f6_t
  have o_12 := A_6.old hn12
  have nt_12 := fun z => A_6.2.2.2 _ z hn12
  have A_12 := A_6.fresh hn12 hM12
  refine r_putF C fp_X7_17 hin f12_t (Nat.le_of_ble_eq_true rfl) rfl rfl dX7_init_15 ?_
  refine r_named (e' := .inr (7, [.int 0, .ref a12])) rfl (fun M15 hM15 => ?_)
  have f15_t : M15 t = some (.inr (7, [.int 0, .ref a12])) := by rw [hM15]; exact mup_s
  have f15_a12 : M15 a12 = some (.inl (gc G 2, 8, .inr (.inr (.inr (.inr (fun _ => none)))))) := by rw [hM15, mup_n (by first | assumption | exact Ne.symm (by assumption) | exact fun h_ => by rw [h_] at f12_a12; cases f12_a12.symm.trans f12_t)]; exact f12_a12
  have A_15 := A_12.put (Or.inl rfl) hM15
  refine r_iconst (v := 0) C dX7_init_18 (by decide) ?_
  refine r_istore_n C dX7_init_19 (by decide) ?_
  refine r_widen (k' := (1 + 0)) (n' := (8 + 7 * 0)) (by (try dsimp only); omega) (by (try dsimp only); omega) ?_
  suffices K : ∀ (fu_ i : Nat) (Ml : Mem), i ≤ 8 → 8 < fu_ + i → (∃ a : Id3 → Nat, Acc G (fun x : Id3 => x.1 = 1 ∧ x.2.1 = k ∧ x.2.2 < i) (fun q => (fun q => q = t) q ∨ q = a12) a M Ml ∧ Ml t = some (.inr (7, [.int 0, .ref a12])) ∧ Ml a12 = some (.inl (gc G 2, 8, .inr (.inr (.inr (.inr (fun j => if j < i then some (a (1, k, j)) else none)))))) ∧ ∀ i, (fun _ : Id3 => False) i → a i = (fun _ : Id3 => t) i) → WM X G A Ml (1 + i) (8 + 7 * i) _ 20 [some (.ref t), some (.int (nI i))] [] from K (8 + 1) 0 _ (by omega) (by omega) ⟨fun _ => t, A_15.mono (fun i hi => absurd hi.2.2 (Nat.not_lt_zero _)), f15_t, (by have q_ := f15_a12; rw [← refs0 (fun j => (fun _ : Id3 => t) (1, k, j))] at q_; exact q_), fun _ h => h.elim⟩
  intro fu_
  induction fu_ with
  | zero => intro i Ml h1 h2; omega
  | succ fu_ ih =>
    intro i Ml hi hm hx
    obtain ⟨al, Al, ft, fa, hbase⟩ := hx
    refine r_iload_n C dX7_init_20 rfl ?_
    refine r_aload_n C dX7_init_21 rfl ?_
    refine r_getf C fl_X7_17 ft rfl dX7_init_22 ?_
    refine r_alen C 2 rfl fa dX7_init_25 ?_
    refine r_ic_ge (tgt := 48) C dX7_init_26 (by decide) (fun c_26 => ?_) (fun c_26 => ?_)
    · have hb : 8 ≤ i := nI_le_iff (by omega) (by omega) c_26
      have e8 : i = 8 := by omega
      subst e8
      refine r_arrQ fa (z := fun j => some (al (1, k, j))) (fun j hj => (if_pos hj).symm) (fun Mz hMz => ?_)
      refine r_return C rfl dX7_init_48 ?_ rfl rfl
      have hta : t ≠ a12 := fun z => by rw [z, o_12] at h_t; cases h_t
      have Az := Al.put (Or.inr rfl) hMz
      have fz : Mz a12 = some (cel0 G al (0, k, 8)) := by rw [hMz, mup_s]; rfl
      have ftz : Mz t = some (.inr (7, [.int 0, .ref a12])) := by rw [hMz, mup_n hta]; exact ft
      obtain ⟨az, Bz, gz, hz⟩ := Acc.closeA (0, k, 8) Az o_12 nt_12 (fun x hx => ⟨fun z => by rw [z] at hx; exact absurd hx.1 (show ¬ (0 : Nat) = 1 by decide), fun z hz => by obtain ⟨u, v, w⟩ := x; have h1 : u = 1 := hx.1; subst h1; exact (rf_1 hz).elim⟩) (fun z hz => by obtain ⟨j, rfl⟩ := rf_08 hz; exact fun q => by injection q with q1; exact absurd q1 (by decide)) fz
      refine ⟨rfl, (Bz.blk (root := (0, k, 7)) (fun q => ?_) (fun x hx z hz2 => ?_) (fun a' ha => ?_)).mono (fun x hx => ?_)⟩
      · rcases q with q | q
        · exact absurd q.1 (show ¬ (0 : Nat) = 1 by decide)
        · injection q with _ q; injection q with _ q; exact absurd q (by decide)
      · rcases hx with (hx | hx) | hx
        · obtain ⟨u, v, w⟩ := x; have h1 : u = 1 := hx.1; subst h1; exact (rf_1 hz2).elim
        · subst hx; obtain ⟨j, rfl⟩ := rf_08 hz2; exact fun q => by injection q with q1; exact absurd q1 (by decide)
        · subst hx; rw [rf_07 hz2]; exact fun q => by injection q with _ q; injection q with _ q; exact absurd q (by decide)
      · have q_ := ftz
        rw [show a12 = a' (0, k, 8) from by rw [ha _ (fun q => by injection q with _ q; injection q with _ q; exact absurd q (by decide)), gz]] at q_
        exact q_
      · rcases hx with hx | hx | hx
        · exact Or.inr hx
        · exact Or.inl (Or.inr hx)
        · exact Or.inl (Or.inl hx)
    · have hb : i < 8 := nI_nle_iff (by omega) (by omega) c_26
      refine r_aload_n C dX7_init_29 rfl ?_
      refine r_getf C fl_X7_17 ft rfl dX7_init_30 ?_
      refine r_iload_n C dX7_init_33 rfl ?_
      refine r_new C cn_X7_15 (fs := [.int 0, .int 0, .int 0, .int 0, .int 0, .int 0, .int 0]) ZD_6 (by simp only [Nat.ble_eq]; omega) (by simp only [Nat.ble_eq]; omega) dX7_init_34 (fun a34 hn34 => ?_)
      have ne34_t : t ≠ a34 := fun h_ => by have q_ := ft; rw [h_] at q_; cases q_.symm.trans hn34
      have ne34_a12 : a12 ≠ a34 := fun h_ => by have q_ := fa; rw [h_] at q_; cases q_.symm.trans hn34
      refine r_named (e' := .inr (6, [.int 0, .int 0, .int 0, .int 0, .int 0, .int 0, .int 0])) rfl (fun M34 hM34 => ?_)
      have f34_a34 : M34 a34 = some (.inr (6, [.int 0, .int 0, .int 0, .int 0, .int 0, .int 0, .int 0])) := by rw [hM34]; exact mup_s
      have f34_t : M34 t = some (.inr (7, [.int 0, .ref a12])) := by rw [hM34, mup_n (by first | assumption | exact Ne.symm (by assumption) | exact fun h_ => by rw [h_] at ft; cases ft.symm.trans hn34)]; exact ft
      have f34_a12 : M34 a12 = some (.inl (gc G 2, 8, .inr (.inr (.inr (.inr (fun j => if j < i then some (al (1, k, j)) else none)))))) := by rw [hM34, mup_n (by first | assumption | exact Ne.symm (by assumption) | exact fun h_ => by rw [h_] at fa; cases fa.symm.trans hn34)]; exact fa
      refine r_dup C dX7_init_37 rfl ?_
      refine r_cIN C (j_X6_init _ G M34 a34 k i f34_a34) my_X6_init nw_136 rfl rfl (Nat.le_of_ble_eq_true rfl) (by simp only [roomOk, Bool.and_eq_true, Nat.ble_eq]; omega) dX7_init_38 (r_void fun M38 hp38 => ?_)
      obtain ⟨b_38, A_38, r_38, e_38, x_38⟩ := Acc.sub (root := (1, k, i)) Al hn34 hM34 hp38 rfl (fun x => x.2.2) i (fun x hx => by subst hx; exact ⟨rfl, fun z hz => (rf_1 hz).elim⟩) (fun x hx => ⟨by have := hx.2.2; show x.2.2 ≠ i; omega, fun z hz => by obtain ⟨u, v, w⟩ := x; have h1 : u = 1 := hx.1; subst h1; exact (rf_1 hz).elim⟩)
      have f38_t : M38 t = some (.inr (7, [.int 0, .ref a12])) := by have h_ := f34_t; rw [hM34, mup_n ne34_t] at h_; rw [x_38 t (by rw [h_]; simp)]; exact h_
      have f38_a12 : M38 a12 = some (.inl (gc G 2, 8, .inr (.inr (.inr (.inr (fun j => if j < i then some (al (1, k, j)) else none)))))) := by have h_ := f34_a12; rw [hM34, mup_n ne34_a12] at h_; rw [x_38 a12 (by rw [h_]; simp)]; exact h_
      refine r_aast C 2 rfl f38_a12 (by have h_ := (A_38.1 (1, k, i) (Or.inr rfl)).1; rw [r_38] at h_; exact h_) rfl (pk_in i 8 hb) dX7_init_41 ?_
      refine r_named (e' := .inl (gc G 2, 8, .inr (.inr (.inr (.inr (fun j => if j < i + 1 then some (b_38 (1, k, j)) else none)))))) (by rw [up_refs (i := i) (f := fun j => al (1, k, j)) (f' := fun j => b_38 (1, k, j)) (by omega) (fun j hj => e_38 _ (show j ≠ i by omega)) r_38]) (fun M41 hM41 => ?_)
      have f41_a12 : M41 a12 = some (.inl (gc G 2, 8, .inr (.inr (.inr (.inr (fun j => if j < i + 1 then some (b_38 (1, k, j)) else none)))))) := by rw [hM41]; exact mup_s
      have f41_t : M41 t = some (.inr (7, [.int 0, .ref a12])) := by rw [hM41, mup_n (by first | assumption | exact Ne.symm (by assumption) | exact fun h_ => by rw [h_] at f38_t; cases f38_t.symm.trans f38_a12)]; exact f38_t
      have A_41 := A_38.put (Or.inr rfl) hM41
      refine r_iinc (v := (nI (i + 1))) C dX7_init_42 rfl (nI_1 i) (by decide) ?_
      refine r_goto (tgt := 20) C dX7_init_45 (by decide) ?_
      refine r_widen (k' := (1 + (i + 1))) (n' := (8 + 7 * (i + 1))) (by (try dsimp only); omega) (by (try dsimp only); omega) ?_
      exact ih (i + 1) _ (by omega) (by omega) ⟨b_38, A_41.mono (fun x hx => (Nat.lt_or_ge x.2.2 i).elim (fun z => Or.inl ⟨hx.1, hx.2.1, z⟩) (fun z => Or.inr (by obtain ⟨u, v, w⟩ := x; have h1 : u = 1 := hx.1; have h2 : v = k := hx.2.1; have h3 : w = i := (by have := hx.2.2; simp only at z this; omega); subst h1 h2 h3; rfl))), f41_t, f41_a12, fun _ h => h.elim⟩
-- KilnKeeper$Kiln.<init>
set_option maxHeartbeats 1000000 in
set_option maxRecDepth 20000 in
theorem j_X3_init (l : Launch) (G : GT) (M : Mem) (t : Nat) (k : Nat) (h_t : M t = some (.inr (3, [.int 0, .int 0, .int 0, .int 0, .null, .null, .null, .null])))  : Ct l G yX3_init cX3_init 1 none ({ frames := 3, cells := 16, slots := 234, locals := 61 } : Room) [.ref t] M (fun ov M' => ov = none ∧ (Blk G (PK k) (0, k, 0) t M M')) := by
  refine Ct.of (by decide) rfl (Nat.le_of_ble_eq_true rfl) ?_
  intro X A C hl hin
  subst hl
  have A_0 : Acc G (fun _ => False) (fun q => q = t) (fun _ => t) M M := Acc.nil (fun q hq => by rw [hq, h_t]; simp)
  refine r_aload_n C dX3_init_0 rfl ?_
  refine r_objInit C aw_53 aw_46 aw_47 rfl rfl dX3_init_1 ?_
  refine r_aload_n C dX3_init_4 rfl ?_
  refine r_bipush (v := 20) C dX3_init_5 (by decide) ?_
  refine r_putf C fp_X3_9 h_t (Nat.le_of_ble_eq_true rfl) rfl rfl dX3_init_7 ?_
  refine r_named (e' := .inr (3, [.int 20, .int 0, .int 0, .int 0, .null, .null, .null, .null])) rfl (fun M7 hM7 => ?_)
  have f7_t : M7 t = some (.inr (3, [.int 20, .int 0, .int 0, .int 0, .null, .null, .null, .null])) := by rw [hM7]; exact mup_s
  have A_7 := A_0.put rfl hM7
  refine r_aload_n C dX3_init_10 rfl ?_
  refine r_bipush (v := 20) C dX3_init_11 (by decide) ?_
  refine r_putf C fp_X3_15 f7_t (Nat.le_of_ble_eq_true rfl) rfl rfl dX3_init_13 ?_
  refine r_named (e' := .inr (3, [.int 20, .int 20, .int 0, .int 0, .null, .null, .null, .null])) rfl (fun M13 hM13 => ?_)
  have f13_t : M13 t = some (.inr (3, [.int 20, .int 20, .int 0, .int 0, .null, .null, .null, .null])) := by rw [hM13]; exact mup_s
  have A_13 := A_7.put rfl hM13
  refine r_aload_n C dX3_init_16 rfl ?_
  refine r_iconst (v := 0) C dX3_init_17 (by decide) ?_
  refine r_putf C fp_X3_18 f13_t (Nat.le_of_ble_eq_true rfl) rfl rfl dX3_init_18 ?_
  refine r_named (e' := .inr (3, [.int 20, .int 20, .int 0, .int 0, .null, .null, .null, .null])) rfl (fun M18 hM18 => ?_)
  have f18_t : M18 t = some (.inr (3, [.int 20, .int 20, .int 0, .int 0, .null, .null, .null, .null])) := by rw [hM18]; exact mup_s
  have A_18 := A_13.put rfl hM18
  refine r_aload_n C dX3_init_21 rfl ?_
  refine r_iconst (v := 0) C dX3_init_22 (by decide) ?_
  refine r_putf C fp_X3_21 f18_t (Nat.le_of_ble_eq_true rfl) rfl rfl dX3_init_23 ?_
  refine r_named (e' := .inr (3, [.int 20, .int 20, .int 0, .int 0, .null, .null, .null, .null])) rfl (fun M23 hM23 => ?_)
  have f23_t : M23 t = some (.inr (3, [.int 20, .int 20, .int 0, .int 0, .null, .null, .null, .null])) := by rw [hM23]; exact mup_s
  have A_23 := A_18.put rfl hM23
  refine r_aload_n C dX3_init_26 rfl ?_
  refine r_new C cn_X3_24 (fs := [.int 0, .int 0, .int 0, .int 0, .int 0, .int 0]) ZD_10 rfl rfl dX3_init_27 (fun a27 hn27 => ?_)
  have ne27_t : t ≠ a27 := fun h_ => by have q_ := f23_t; rw [h_] at q_; cases q_.symm.trans hn27
  refine r_named (e' := .inr (10, [.int 0, .int 0, .int 0, .int 0, .int 0, .int 0])) rfl (fun M27 hM27 => ?_)
  have f27_a27 : M27 a27 = some (.inr (10, [.int 0, .int 0, .int 0, .int 0, .int 0, .int 0])) := by rw [hM27]; exact mup_s
  have f27_t : M27 t = some (.inr (3, [.int 20, .int 20, .int 0, .int 0, .null, .null, .null, .null])) := by rw [hM27, mup_n (by first | assumption | exact Ne.symm (by assumption) | exact fun h_ => by rw [h_] at f23_t; cases f23_t.symm.trans hn27)]; exact f23_t
  refine r_dup C dX3_init_30 rfl ?_
  refine r_cIN C (j_X10_init _ G M27 a27 k f27_a27) my_X10_init nw_56 rfl rfl (Nat.le_of_ble_eq_true rfl) rfl dX3_init_31 (r_void fun M31 hp31 => ?_)
  obtain ⟨b_31, A_31, r_31, e_31, x_31⟩ := Acc.sub (root := (0, k, 1)) A_23 hn27 hM27 hp31 rfl gKn 1 (cl_reg k) ClN.F
  have f31_t : M31 t = some (.inr (3, [.int 20, .int 20, .int 0, .int 0, .null, .null, .null, .null])) := by have h_ := f27_t; rw [hM27, mup_n ne27_t] at h_; rw [x_31 t (by rw [h_]; simp)]; exact h_
  refine r_putF C fp_X3_27 hin f31_t (Nat.le_of_ble_eq_true rfl) rfl rfl dX3_init_34 ?_
  refine r_named (e' := .inr (3, [.int 20, .int 20, .int 0, .int 0, .ref a27, .null, .null, .null])) rfl (fun M34 hM34 => ?_)
  have f34_t : M34 t = some (.inr (3, [.int 20, .int 20, .int 0, .int 0, .ref a27, .null, .null, .null])) := by rw [hM34]; exact mup_s
  have A_34 := A_31.put rfl hM34
  refine r_aload_n C dX3_init_37 rfl ?_
  refine r_new C cn_X3_31 (fs := [.int 0, .null]) ZD_4 rfl rfl dX3_init_38 (fun a38 hn38 => ?_)
  have ne38_t : t ≠ a38 := fun h_ => by have q_ := f34_t; rw [h_] at q_; cases q_.symm.trans hn38
  refine r_named (e' := .inr (4, [.int 0, .null])) rfl (fun M38 hM38 => ?_)
  have f38_a38 : M38 a38 = some (.inr (4, [.int 0, .null])) := by rw [hM38]; exact mup_s
  have f38_t : M38 t = some (.inr (3, [.int 20, .int 20, .int 0, .int 0, .ref a27, .null, .null, .null])) := by rw [hM38, mup_n (by first | assumption | exact Ne.symm (by assumption) | exact fun h_ => by rw [h_] at f34_t; cases f34_t.symm.trans hn38)]; exact f34_t
  refine r_dup C dX3_init_41 rfl ?_
  refine r_cIN C (j_X4_init _ G M38 a38 k f38_a38) my_X4_init nw_83 rfl rfl (Nat.le_of_ble_eq_true rfl) rfl dX3_init_42 (r_void fun M42 hp42 => ?_)
  obtain ⟨b_42, A_42, r_42, e_42, x_42⟩ := Acc.sub (root := (0, k, 2)) A_34 hn38 hM38 hp42 (Or.inl rfl) gKn 2 (cl_lag k) (ClN.or ClN.F (ClE.ne (cl_reg k) (by decide : (1 : Nat) ≠ 2)))
  have f42_t : M42 t = some (.inr (3, [.int 20, .int 20, .int 0, .int 0, .ref a27, .null, .null, .null])) := by have h_ := f38_t; rw [hM38, mup_n ne38_t] at h_; rw [x_42 t (by rw [h_]; simp)]; exact h_
  refine r_putF C fp_X3_34 hin f42_t (Nat.le_of_ble_eq_true rfl) rfl rfl dX3_init_45 ?_
  refine r_named (e' := .inr (3, [.int 20, .int 20, .int 0, .int 0, .ref a27, .ref a38, .null, .null])) rfl (fun M45 hM45 => ?_)
  have f45_t : M45 t = some (.inr (3, [.int 20, .int 20, .int 0, .int 0, .ref a27, .ref a38, .null, .null])) := by rw [hM45]; exact mup_s
  have A_45 := A_42.put rfl hM45
  refine r_aload_n C dX3_init_48 rfl ?_
  refine r_new C cn_X3_38 (fs := [.int 0, .int 0, .int 0, .int 0, .null, .null]) ZD_1 rfl rfl dX3_init_49 (fun a49 hn49 => ?_)
  have ne49_t : t ≠ a49 := fun h_ => by have q_ := f45_t; rw [h_] at q_; cases q_.symm.trans hn49
  refine r_named (e' := .inr (1, [.int 0, .int 0, .int 0, .int 0, .null, .null])) rfl (fun M49 hM49 => ?_)
  have f49_a49 : M49 a49 = some (.inr (1, [.int 0, .int 0, .int 0, .int 0, .null, .null])) := by rw [hM49]; exact mup_s
  have f49_t : M49 t = some (.inr (3, [.int 20, .int 20, .int 0, .int 0, .ref a27, .ref a38, .null, .null])) := by rw [hM49, mup_n (by first | assumption | exact Ne.symm (by assumption) | exact fun h_ => by rw [h_] at f45_t; cases f45_t.symm.trans hn49)]; exact f45_t
  refine r_dup C dX3_init_52 rfl ?_
  refine r_cIN C (j_X1_init _ G M49 a49 k f49_a49) my_X1_init nw_98 rfl rfl (Nat.le_of_ble_eq_true rfl) rfl dX3_init_53 (r_void fun M53 hp53 => ?_)
  obtain ⟨b_53, A_53, r_53, e_53, x_53⟩ := Acc.sub (root := (0, k, 4)) A_45 hn49 hM49 hp53 (Or.inl rfl) gKn 4 (cl_book k) (ClN.or (ClN.or ClN.F (ClE.ne (cl_reg k) (by decide : (1 : Nat) ≠ 4))) (ClE.ne (cl_lag k) (by decide : (2 : Nat) ≠ 4)))
  have f53_t : M53 t = some (.inr (3, [.int 20, .int 20, .int 0, .int 0, .ref a27, .ref a38, .null, .null])) := by have h_ := f49_t; rw [hM49, mup_n ne49_t] at h_; rw [x_53 t (by rw [h_]; simp)]; exact h_
  refine r_putF C fp_X3_41 hin f53_t (Nat.le_of_ble_eq_true rfl) rfl rfl dX3_init_56 ?_
  refine r_named (e' := .inr (3, [.int 20, .int 20, .int 0, .int 0, .ref a27, .ref a38, .ref a49, .null])) rfl (fun M56 hM56 => ?_)
  have f56_t : M56 t = some (.inr (3, [.int 20, .int 20, .int 0, .int 0, .ref a27, .ref a38, .ref a49, .null])) := by rw [hM56]; exact mup_s
  have A_56 := A_53.put rfl hM56
  refine r_aload_n C dX3_init_59 rfl ?_
  refine r_new C cn_X3_45 (fs := [.int 0, .null]) ZD_7 rfl rfl dX3_init_60 (fun a60 hn60 => ?_)
  have ne60_t : t ≠ a60 := fun h_ => by have q_ := f56_t; rw [h_] at q_; cases q_.symm.trans hn60
  refine r_named (e' := .inr (7, [.int 0, .null])) rfl (fun M60 hM60 => ?_)
  have f60_a60 : M60 a60 = some (.inr (7, [.int 0, .null])) := by rw [hM60]; exact mup_s
  have f60_t : M60 t = some (.inr (3, [.int 20, .int 20, .int 0, .int 0, .ref a27, .ref a38, .ref a49, .null])) := by rw [hM60, mup_n (by first | assumption | exact Ne.symm (by assumption) | exact fun h_ => by rw [h_] at f56_t; cases f56_t.symm.trans hn60)]; exact f56_t
  refine r_dup C dX3_init_63 rfl ?_
  refine r_cI C (j_X7_init _ G M60 a60 k f60_a60) my_X7_init aw_129 rfl rfl (Nat.le_of_ble_eq_true rfl) rfl dX3_init_64 (r_void fun M64 hp64 => ?_)
  obtain ⟨b_64, A_64, r_64, e_64, x_64⟩ := Acc.sub (root := (0, k, 7)) A_56 hn60 hM60 hp64 (Or.inl rfl) gKn 7 (cl_rack k) (ClN.or (ClN.or (ClN.or ClN.F (ClE.ne (cl_reg k) (by decide : (1 : Nat) ≠ 7))) (ClE.ne (cl_lag k) (by decide : (2 : Nat) ≠ 7))) (ClE.ne (cl_book k) (by decide : (4 : Nat) ≠ 7)))
  have f64_t : M64 t = some (.inr (3, [.int 20, .int 20, .int 0, .int 0, .ref a27, .ref a38, .ref a49, .null])) := by have h_ := f60_t; rw [hM60, mup_n ne60_t] at h_; rw [x_64 t (by rw [h_]; simp)]; exact h_
  refine r_putF C fp_X3_48 hin f64_t (Nat.le_of_ble_eq_true rfl) rfl rfl dX3_init_67 ?_
  refine r_named (e' := .inr (3, [.int 20, .int 20, .int 0, .int 0, .ref a27, .ref a38, .ref a49, .ref a60])) rfl (fun M67 hM67 => ?_)
  have f67_t : M67 t = some (.inr (3, [.int 20, .int 20, .int 0, .int 0, .ref a27, .ref a38, .ref a49, .ref a60])) := by rw [hM67]; exact mup_s
  have A_67 := A_64.put rfl hM67
  refine r_return C rfl dX3_init_70 ?_ rfl rfl
  refine ⟨rfl, (A_67.blk2 (root := (0, k, 0)) gKn (ClN.or (ClN.or (ClN.or (ClN.or ClN.F (ClE.ne (cl_reg k) (by decide : (1 : Nat) ≠ 0))) (ClE.ne (cl_lag k) (by decide : (2 : Nat) ≠ 0))) (ClE.ne (cl_book k) (by decide : (4 : Nat) ≠ 0))) (ClE.ne (cl_rack k) (by decide : (7 : Nat) ≠ 0))) (fun z hz => ?_) (fun a' ha => ?_)).mono (fun x hx => PK.parts hx)⟩
  · rcases rf_00 hz with rfl | rfl | rfl | rfl <;> exact nej (by decide)
  · have q_ := f67_t
    have h31 : a27 = a' (0, k, 1) := by rw [ha (0, k, 1) (nej (by decide)), e_64 (0, k, 1) (by decide : (1 : Nat) ≠ 7), e_53 (0, k, 1) (by decide : (1 : Nat) ≠ 4), e_42 (0, k, 1) (by decide : (1 : Nat) ≠ 2), r_31]
    have h42 : a38 = a' (0, k, 2) := by rw [ha (0, k, 2) (nej (by decide)), e_64 (0, k, 2) (by decide : (2 : Nat) ≠ 7), e_53 (0, k, 2) (by decide : (2 : Nat) ≠ 4), r_42]
    have h53 : a49 = a' (0, k, 4) := by rw [ha (0, k, 4) (nej (by decide)), e_64 (0, k, 4) (by decide : (4 : Nat) ≠ 7), r_53]
    have h64 : a60 = a' (0, k, 7) := by rw [ha (0, k, 7) (nej (by decide)), r_64]
    rw [h31, h42, h53, h64] at q_
    exact q_
-- KilnKeeper$Changes.<init>
set_option maxHeartbeats 1000000 in
set_option maxRecDepth 20000 in
theorem j_X2_init (l : Launch) (G : GT) (M : Mem) (t : Nat)  (h_t : M t = some (.inr (2, [.int 0, .int 0, .null])))  : Ct l G yX2_init cX2_init 2 none ({ frames := 4, cells := 137, slots := 1944, locals := 81 } : Room) [.ref t] M (fun ov M' => ov = none ∧ (Blk G PC (2, 0, 1) t M M')) := by
  refine Ct.of (by decide) rfl (Nat.le_of_ble_eq_true rfl) ?_
  intro X A C hl hin
  subst hl
  have A_0 : Acc G (fun _ => False) (fun q => q = t) (fun _ => t) M M := Acc.nil (fun q hq => by rw [hq, h_t]; simp)
  refine r_aload_n C dX2_init_0 rfl ?_
  refine r_objInit C aw_211 aw_46 aw_47 rfl rfl dX2_init_1 ?_
  refine r_aload_n C dX2_init_4 rfl ?_
  refine r_iconst (v := 0) C dX2_init_5 (by decide) ?_
  refine r_putf C fp_X2_9 h_t (Nat.le_of_ble_eq_true rfl) rfl rfl dX2_init_6 ?_
  refine r_named (e' := .inr (2, [.int 0, .int 0, .null])) rfl (fun M6 hM6 => ?_)
  have f6_t : M6 t = some (.inr (2, [.int 0, .int 0, .null])) := by rw [hM6]; exact mup_s
  have A_6 := A_0.put rfl hM6
  refine r_aload_n C dX2_init_9 rfl ?_
  refine r_iconst (v := 0) C dX2_init_10 (by decide) ?_
  refine r_putf C fp_X2_15 f6_t (Nat.le_of_ble_eq_true rfl) rfl rfl dX2_init_11 ?_
  refine r_named (e' := .inr (2, [.int 0, .int 0, .null])) rfl (fun M11 hM11 => ?_)
  have f11_t : M11 t = some (.inr (2, [.int 0, .int 0, .null])) := by rw [hM11]; exact mup_s
  have A_11 := A_6.put rfl hM11
  refine r_aload_n C dX2_init_14 rfl ?_
  refine r_bipush (v := 8) C dX2_init_15 (by decide) ?_
  refine r_newQ C 3 rfl aw_212 (va_AO.use (C.ev.2.2.2.2.2.2.2.2.2.2.2.1 _ (List.mem_cons_of_mem _ (List.mem_cons_of_mem _ (List.mem_cons_of_mem _ List.mem_cons_self))))) (by decide) (N := 8) (by decide) rfl rfl rfl dX2_init_17 (fun a17 hn17 => ?_)
  have ne17_t : t ≠ a17 := fun h_ => by have q_ := f11_t; rw [h_] at q_; cases q_.symm.trans hn17
  refine r_named (e' := .inl (gc G 3, 8, .inr (.inr (.inr (.inr (fun _ => none)))))) rfl (fun M17 hM17 => ?_)
  have f17_a17 : M17 a17 = some (.inl (gc G 3, 8, .inr (.inr (.inr (.inr (fun _ => none)))))) := by rw [hM17]; exact mup_s
  have f17_t : M17 t = some (.inr (2, [.int 0, .int 0, .null])) := by rw [hM17, mup_n (by first | assumption | exact Ne.symm (by assumption) | exact fun h_ => by rw [h_] at f11_t; cases f11_t.symm.trans hn17)]; exact f11_t
  have o_17 := A_11.old hn17
  have nt_17 := fun z => A_11.2.2.2 _ z hn17
  have A_17 := A_11.fresh hn17 hM17
  refine r_putF C fp_X2_20 hin f17_t (Nat.le_of_ble_eq_true rfl) rfl rfl dX2_init_20 ?_
  refine r_named (e' := .inr (2, [.int 0, .int 0, .ref a17])) rfl (fun M20 hM20 => ?_)
  have f20_t : M20 t = some (.inr (2, [.int 0, .int 0, .ref a17])) := by rw [hM20]; exact mup_s
  have f20_a17 : M20 a17 = some (.inl (gc G 3, 8, .inr (.inr (.inr (.inr (fun _ => none)))))) := by rw [hM20, mup_n (by first | assumption | exact Ne.symm (by assumption) | exact fun h_ => by rw [h_] at f17_a17; cases f17_a17.symm.trans f17_t)]; exact f17_a17
  have A_20 := A_17.put (Or.inl rfl) hM20
  refine r_iconst (v := 0) C dX2_init_23 (by decide) ?_
  refine r_istore_n C dX2_init_24 (by decide) ?_
  refine r_widen (k' := (1 + 17 * 0)) (n' := (8 + 242 * 0)) (by (try dsimp only); omega) (by (try dsimp only); omega) ?_
  suffices K : ∀ (fu_ i : Nat) (Ml : Mem), i ≤ 8 → 8 < fu_ + i → (∃ a : Id3 → Nat, Acc G (fun x : Id3 => ∃ j, j < i ∧ PK (3 + j) x) (fun q => (fun q => q = t) q ∨ q = a17) a M Ml ∧ Ml t = some (.inr (2, [.int 0, .int 0, .ref a17])) ∧ Ml a17 = some (.inl (gc G 3, 8, .inr (.inr (.inr (.inr (fun j => if j < i then some (a (0, 3 + j, 0)) else none)))))) ∧ ∀ i, (fun _ : Id3 => False) i → a i = (fun _ : Id3 => t) i) → WM X G A Ml (1 + 17 * i) (8 + 242 * i) _ 25 [some (.ref t), some (.int (nI i))] [] from K (8 + 1) 0 _ (by omega) (by omega) ⟨fun _ => t, A_20.mono (fun i hi => by obtain ⟨j, hj, _⟩ := hi; exact absurd hj (Nat.not_lt_zero _)), f20_t, (by have q_ := f20_a17; rw [← refs0 (fun j => (fun _ : Id3 => t) (0, 3 + j, 0))] at q_; exact q_), fun _ h => h.elim⟩
  intro fu_
  induction fu_ with
  | zero => intro i Ml h1 h2; omega
  | succ fu_ ih =>
    intro i Ml hi hm hx
    obtain ⟨al, Al, ft, fa, hbase⟩ := hx
    refine r_iload_n C dX2_init_25 rfl ?_
    refine r_aload_n C dX2_init_26 rfl ?_
    refine r_getf C fl_X2_20 ft rfl dX2_init_27 ?_
    refine r_alen C 3 rfl fa dX2_init_30 ?_
    refine r_ic_ge (tgt := 53) C dX2_init_31 (by decide) (fun c_31 => ?_) (fun c_31 => ?_)
    · have hb : 8 ≤ i := nI_le_iff (by omega) (by omega) c_31
      have e8 : i = 8 := by omega
      subst e8
      refine r_arrQ fa (z := fun j => some (al (0, 3 + j, 0))) (fun j hj => (if_pos hj).symm) (fun Mz hMz => ?_)
      refine r_return C rfl dX2_init_53 ?_ rfl rfl
      have hta : t ≠ a17 := fun z => by rw [z, o_17] at h_t; cases h_t
      have Az := Al.put (Or.inr rfl) hMz
      have fz : Mz a17 = some (cel0 G al (2, 0, 2)) := by rw [hMz, mup_s]; rfl
      have ftz : Mz t = some (.inr (2, [.int 0, .int 0, .ref a17])) := by rw [hMz, mup_n hta]; exact ft
      have h1 : ∀ {x : Id3} {b : Nat}, x.1 ≤ 1 → x ≠ (2, 0, b) := fun h z => by rw [z] at h; exact absurd h (show ¬ (2 : Nat) ≤ 1 by decide)
      obtain ⟨az, Bz, gz, hz⟩ := Acc.closeA (2, 0, 2) Az o_17 nt_17 (fun x hx => by obtain ⟨j, hj, hx⟩ := hx; exact ⟨h1 hx.le.1, fun z hz => h1 (rfs_kiln hx hz).1⟩) (fun z hz => by obtain ⟨j, rfl⟩ := rf_22 hz; exact h1 (Nat.zero_le 1)) fz
      refine ⟨rfl, (Bz.blk (root := (2, 0, 1)) (fun q => ?_) (fun x hx z hz2 => ?_) (fun a' ha => ?_)).mono (fun x hx => ?_)⟩
      · rcases q with ⟨j, hj, q⟩ | q
        · exact h1 q.le.1 rfl
        · exact absurd q (by decide)
      · rcases hx with (⟨j, hj, hx⟩ | hx) | hx
        · exact h1 (rfs_kiln hx hz2).1
        · subst hx; obtain ⟨j, rfl⟩ := rf_22 hz2; exact h1 (Nat.zero_le 1)
        · subst hx; rw [rf_21 hz2]; decide
      · have q_ := ftz
        rw [show a17 = a' (2, 0, 2) from by rw [ha _ (by decide), gz]] at q_
        exact q_
      · rcases hx with hx | hx | hx
        · exact Or.inr hx
        · exact Or.inl (Or.inr hx)
        · exact Or.inl (Or.inl hx)
    · have hb : i < 8 := nI_nle_iff (by omega) (by omega) c_31
      refine r_aload_n C dX2_init_34 rfl ?_
      refine r_getf C fl_X2_20 ft rfl dX2_init_35 ?_
      refine r_iload_n C dX2_init_38 rfl ?_
      refine r_new C cn_X2_18 (fs := [.int 0, .int 0, .int 0, .int 0, .null, .null, .null, .null]) ZD_3 (by simp only [Nat.ble_eq]; omega) (by simp only [Nat.ble_eq]; omega) dX2_init_39 (fun a39 hn39 => ?_)
      have ne39_t : t ≠ a39 := fun h_ => by have q_ := ft; rw [h_] at q_; cases q_.symm.trans hn39
      have ne39_a17 : a17 ≠ a39 := fun h_ => by have q_ := fa; rw [h_] at q_; cases q_.symm.trans hn39
      refine r_named (e' := .inr (3, [.int 0, .int 0, .int 0, .int 0, .null, .null, .null, .null])) rfl (fun M39 hM39 => ?_)
      have f39_a39 : M39 a39 = some (.inr (3, [.int 0, .int 0, .int 0, .int 0, .null, .null, .null, .null])) := by rw [hM39]; exact mup_s
      have f39_t : M39 t = some (.inr (2, [.int 0, .int 0, .ref a17])) := by rw [hM39, mup_n (by first | assumption | exact Ne.symm (by assumption) | exact fun h_ => by rw [h_] at ft; cases ft.symm.trans hn39)]; exact ft
      have f39_a17 : M39 a17 = some (.inl (gc G 3, 8, .inr (.inr (.inr (.inr (fun j => if j < i then some (al (0, 3 + j, 0)) else none)))))) := by rw [hM39, mup_n (by first | assumption | exact Ne.symm (by assumption) | exact fun h_ => by rw [h_] at fa; cases fa.symm.trans hn39)]; exact fa
      refine r_dup C dX2_init_42 rfl ?_
      refine r_cIN C (j_X3_init _ G M39 a39 (3 + i) f39_a39) my_X3_init nw_214 rfl rfl (Nat.le_of_ble_eq_true rfl) (by simp only [roomOk, Bool.and_eq_true, Nat.ble_eq]; omega) dX2_init_43 (r_void fun M43 hp43 => ?_)
      obtain ⟨b_43, A_43, r_43, e_43, x_43⟩ := Acc.sub (root := (0, 3 + i, 0)) Al hn39 hM39 hp43 (Or.inl ⟨rfl, rfl, (by decide : (0 : Nat) < 9)⟩) gC (1 + (3 + i)) (clC (3 + i)) (fun x hx => by obtain ⟨j, hj, hx⟩ := hx; exact (clC (3 + j)).ne (by omega) x hx)
      have f43_t : M43 t = some (.inr (2, [.int 0, .int 0, .ref a17])) := by have h_ := f39_t; rw [hM39, mup_n ne39_t] at h_; rw [x_43 t (by rw [h_]; simp)]; exact h_
      have f43_a17 : M43 a17 = some (.inl (gc G 3, 8, .inr (.inr (.inr (.inr (fun j => if j < i then some (al (0, 3 + j, 0)) else none)))))) := by have h_ := f39_a17; rw [hM39, mup_n ne39_a17] at h_; rw [x_43 a17 (by rw [h_]; simp)]; exact h_
      refine r_aast C 3 rfl f43_a17 (by have h_ := (A_43.1 (0, 3 + i, 0) (Or.inr (Or.inl ⟨rfl, rfl, (by decide : (0 : Nat) < 9)⟩))).1; rw [r_43] at h_; exact h_) rfl (pk_in i 8 hb) dX2_init_46 ?_
      refine r_named (e' := .inl (gc G 3, 8, .inr (.inr (.inr (.inr (fun j => if j < i + 1 then some (b_43 (0, 3 + j, 0)) else none)))))) (by rw [up_refs (i := i) (f := fun j => al (0, 3 + j, 0)) (f' := fun j => b_43 (0, 3 + j, 0)) (by omega) (fun j hj => e_43 _ (show 1 + (3 + j) ≠ 1 + (3 + i) by omega)) r_43]) (fun M46 hM46 => ?_)
      have f46_a17 : M46 a17 = some (.inl (gc G 3, 8, .inr (.inr (.inr (.inr (fun j => if j < i + 1 then some (b_43 (0, 3 + j, 0)) else none)))))) := by rw [hM46]; exact mup_s
      have f46_t : M46 t = some (.inr (2, [.int 0, .int 0, .ref a17])) := by rw [hM46, mup_n (by first | assumption | exact Ne.symm (by assumption) | exact fun h_ => by rw [h_] at f43_t; cases f43_t.symm.trans f43_a17)]; exact f43_t
      have A_46 := A_43.put (Or.inr rfl) hM46
      refine r_iinc (v := (nI (i + 1))) C dX2_init_47 rfl (nI_1 i) (by decide) ?_
      refine r_goto (tgt := 25) C dX2_init_50 (by decide) ?_
      refine r_widen (k' := (1 + 17 * (i + 1))) (n' := (8 + 242 * (i + 1))) (by (try dsimp only); omega) (by (try dsimp only); omega) ?_
      exact ih (i + 1) _ (by omega) (by omega) ⟨b_43, A_46.mono (fun x hx => by obtain ⟨j, hj, hx⟩ := hx; exact (Nat.lt_or_ge j i).elim (fun z => Or.inl ⟨j, z, hx⟩) (fun z => Or.inr (by rw [show i = j by omega]; exact hx))), f46_t, f46_a17, fun _ h => h.elim⟩
-- KilnKeeper$Reader.<init>
set_option maxHeartbeats 1000000 in
set_option maxRecDepth 20000 in
theorem j_X8_init (l : Launch) (G : GT) (M : Mem) (t : Nat)  (h_t : M t = some (.inr (8, [.null, .null])))  : Ct l G yX8_init cX8_init 2 none ({ frames := 4, cells := 27, slots := 92, locals := 81 } : Room) [.ref t] M (fun ov M' => ov = none ∧ (Blk G PRd (2, 0, 5) t M M')) := by
  refine Ct.of (by decide) rfl (Nat.le_of_ble_eq_true rfl) ?_
  intro X A C hl hin
  subst hl
  have A_0 : Acc G (fun _ => False) (fun q => q = t) (fun _ => t) M M := Acc.nil (fun q hq => by rw [hq, h_t]; simp)
  refine r_aload_n C dX8_init_0 rfl ?_
  refine r_objInit C aw_244 aw_46 aw_47 rfl rfl dX8_init_1 ?_
  refine r_aload_n C dX8_init_4 rfl ?_
  refine r_new C cn_X8_9 (fs := [.null, .int 0, .int 0, .int 0]) ZD_0 rfl rfl dX8_init_5 (fun a5 hn5 => ?_)
  have ne5_t : t ≠ a5 := fun h_ => by have q_ := h_t; rw [h_] at q_; cases q_.symm.trans hn5
  refine r_named (e' := .inr (0, [.null, .int 0, .int 0, .int 0])) rfl (fun M5 hM5 => ?_)
  have f5_a5 : M5 a5 = some (.inr (0, [.null, .int 0, .int 0, .int 0])) := by rw [hM5]; exact mup_s
  have f5_t : M5 t = some (.inr (8, [.null, .null])) := by rw [hM5, mup_n (by first | assumption | exact Ne.symm (by assumption) | exact fun h_ => by rw [h_] at h_t; cases h_t.symm.trans hn5)]; exact h_t
  refine r_dup C dX8_init_8 rfl ?_
  refine r_cI C (j_J4_init_da8c8 _ G M5 a5 a5 f5_a5) my_J4_init_da8c8 aw_247 rfl rfl (Nat.le_of_ble_eq_true rfl) rfl dX8_init_9 (r_void fun M9 hp9 => ?_)
  obtain ⟨w_9, hs_9⟩ := hp9
  have hp9 := SB_blk (j := 0) hs_9
  obtain ⟨b_9, A_9, r_9, e_9, x_9⟩ := Acc.sub (root := (5, 0, 0)) A_0 hn5 hM5 hp9 (Or.inl rfl) gO 0 (clS 0 gO 0 ⟨rfl, rfl⟩) ClN.F
  have f9_t : M9 t = some (.inr (8, [.null, .null])) := by have h_ := f5_t; rw [hM5, mup_n ne5_t] at h_; rw [x_9 t (by rw [h_]; simp)]; exact h_
  refine r_putF C fp_X8_12 hin f9_t (Nat.le_of_ble_eq_true rfl) rfl rfl dX8_init_12 ?_
  refine r_named (e' := .inr (8, [.ref a5, .null])) rfl (fun M12 hM12 => ?_)
  have f12_t : M12 t = some (.inr (8, [.ref a5, .null])) := by rw [hM12]; exact mup_s
  have A_12 := A_9.put rfl hM12
  refine r_aload_n C dX8_init_15 rfl ?_
  refine r_bipush (v := 12) C dX8_init_16 (by decide) ?_
  refine r_newQ C 4 rfl aw_278 (va_AO.use (C.ev.2.2.2.2.2.2.2.2.2.2.2.1 _ (List.mem_cons_of_mem _ (List.mem_cons_of_mem _ (List.mem_cons_of_mem _ (List.mem_cons_of_mem _ List.mem_cons_self)))))) (by decide) (N := 12) (by decide) rfl rfl rfl dX8_init_18 (fun a18 hn18 => ?_)
  have ne18_t : t ≠ a18 := fun h_ => by have q_ := f12_t; rw [h_] at q_; cases q_.symm.trans hn18
  refine r_named (e' := .inl (gc G 4, 12, .inr (.inr (.inr (.inr (fun _ => none)))))) rfl (fun M18 hM18 => ?_)
  have f18_a18 : M18 a18 = some (.inl (gc G 4, 12, .inr (.inr (.inr (.inr (fun _ => none)))))) := by rw [hM18]; exact mup_s
  have f18_t : M18 t = some (.inr (8, [.ref a5, .null])) := by rw [hM18, mup_n (by first | assumption | exact Ne.symm (by assumption) | exact fun h_ => by rw [h_] at f12_t; cases f12_t.symm.trans hn18)]; exact f12_t
  have o_18 := A_12.old hn18
  have nt_18 := fun z => A_12.2.2.2 _ z hn18
  have A_18 := A_12.fresh hn18 hM18
  refine r_putF C fp_X8_20 hin f18_t (Nat.le_of_ble_eq_true rfl) rfl rfl dX8_init_21 ?_
  refine r_named (e' := .inr (8, [.ref a5, .ref a18])) rfl (fun M21 hM21 => ?_)
  have f21_t : M21 t = some (.inr (8, [.ref a5, .ref a18])) := by rw [hM21]; exact mup_s
  have f21_a18 : M21 a18 = some (.inl (gc G 4, 12, .inr (.inr (.inr (.inr (fun _ => none)))))) := by rw [hM21, mup_n (by first | assumption | exact Ne.symm (by assumption) | exact fun h_ => by rw [h_] at f18_a18; cases f18_a18.symm.trans f18_t)]; exact f18_a18
  have A_21 := A_18.put (Or.inl rfl) hM21
  refine r_iconst (v := 0) C dX8_init_24 (by decide) ?_
  refine r_istore_n C dX8_init_25 (by decide) ?_
  refine r_widen (k' := (3 + 2 * 0)) (n' := (32 + 5 * 0)) (by (try dsimp only); omega) (by (try dsimp only); omega) ?_
  suffices K : ∀ (fu_ i : Nat) (Ml : Mem), i ≤ 12 → 12 < fu_ + i → (∃ a : Id3 → Nat, Acc G (fun x : Id3 => PS 0 x ∨ ∃ j, j < i ∧ PO j x) (fun q => (fun q => q = t) q ∨ q = a18) a M Ml ∧ Ml t = some (.inr (8, [.ref a5, .ref a18])) ∧ Ml a18 = some (.inl (gc G 4, 12, .inr (.inr (.inr (.inr (fun j => if j < i then some (a (3, j, 0)) else none)))))) ∧ ∀ i, PS 0 i → a i = b_9 i) → WM X G A Ml (3 + 2 * i) (32 + 5 * i) _ 26 [some (.ref t), some (.int (nI i))] [] from K (12 + 1) 0 _ (by omega) (by omega) ⟨b_9, A_21.mono (fun i hi => hi.elim Or.inr (fun hi => by obtain ⟨j, hj, _⟩ := hi; exact absurd hj (Nat.not_lt_zero _))), f21_t, (by have q_ := f21_a18; rw [← refs0 (fun j => b_9 (3, j, 0))] at q_; exact q_), fun _ _ => rfl⟩
  intro fu_
  induction fu_ with
  | zero => intro i Ml h1 h2; omega
  | succ fu_ ih =>
    intro i Ml hi hm hx
    obtain ⟨al, Al, ft, fa, hbase⟩ := hx
    refine r_iload_n C dX8_init_26 rfl ?_
    refine r_aload_n C dX8_init_27 rfl ?_
    refine r_getf C fl_X8_20 ft rfl dX8_init_28 ?_
    refine r_alen C 4 rfl fa dX8_init_31 ?_
    refine r_ic_ge (tgt := 54) C dX8_init_32 (by decide) (fun c_32 => ?_) (fun c_32 => ?_)
    · have hb : 12 ≤ i := nI_le_iff (by omega) (by omega) c_32
      have e8 : i = 12 := by omega
      subst e8
      refine r_arrQ fa (z := fun j => some (al (3, j, 0))) (fun j hj => (if_pos hj).symm) (fun Mz hMz => ?_)
      refine r_return C rfl dX8_init_54 ?_ rfl rfl
      have hta : t ≠ a18 := fun z => by rw [z, o_18] at h_t; cases h_t
      have Az := Al.put (Or.inr rfl) hMz
      have fz : Mz a18 = some (cel0 G al (2, 0, 6)) := by rw [hMz, mup_s]; rfl
      have ftz : Mz t = some (.inr (8, [.ref a5, .ref a18])) := by rw [hMz, mup_n hta]; exact ft
      have h2 : ∀ {x : Id3} {b : Nat}, (PS 0 x ∨ ∃ j, j < 12 ∧ PO j x) → x ≠ (2, 0, b) := fun h z => by
        subst z
        rcases h with (h | h) | ⟨j, hj, h | h⟩
        · injection h with q; exact absurd q (by decide)
        · injection h with q; exact absurd q (by decide)
        · injection h with q; exact absurd q (by decide)
        · injection h with q; exact absurd q (by decide)
      have h3 : ∀ {x z : Id3} {b : Nat}, (PS 0 x ∨ ∃ j, j < 12 ∧ PO j x) → rfs x z → z ≠ (2, 0, b) := fun h hz q => by
        rcases h with (h | h) | ⟨j, hj, h | h⟩
        · subst h; rw [rf_50 hz] at q; injection q with q; exact absurd q (by decide)
        · subst h; exact (rf_51 hz).elim
        · subst h; rw [rf_30 hz] at q; injection q with q; exact absurd q (by decide)
        · subst h; exact (rf_31 hz).elim
      have h6 : ∀ {z : Id3} {b : Nat}, rfs (2, 0, 6) z → z ≠ (2, 0, b) := fun hz q => by obtain ⟨j, hj⟩ := rf_26 hz; rw [hj] at q; injection q with q; exact absurd q (by decide)
      obtain ⟨az, Bz, gz, hz⟩ := Acc.closeA (2, 0, 6) Az o_18 nt_18 (fun x hx => ⟨h2 hx, fun z hz => h3 hx hz⟩) (fun z hz => h6 hz) fz
      refine ⟨rfl, (Bz.blk (root := (2, 0, 5)) (fun q => ?_) (fun x hx z hz2 => ?_) (fun a' ha => ?_)).mono (fun x hx => ?_)⟩
      · rcases q with q | q
        · exact h2 q rfl
        · exact absurd q (by decide)
      · rcases hx with (hx | hx) | hx
        · exact h3 hx hz2
        · subst hx; exact h6 hz2
        · subst hx
          rcases rf_25 hz2 with rfl | rfl
          · decide
          · decide
      · have q_ := ftz
        rw [show a18 = a' (2, 0, 6) from by rw [ha _ (by decide), gz], show a5 = a' (5, 0, 0) from by rw [ha _ (by decide), hz _ (by decide), hbase _ (Or.inl rfl), r_9]] at q_
        exact q_
      · rcases hx with hx | hx | hx | hx
        · exact Or.inr hx
        · exact Or.inl (Or.inr hx)
        · exact Or.inl (Or.inl (Or.inl hx))
        · exact Or.inl (Or.inl (Or.inr hx))
    · have hb : i < 12 := nI_nle_iff (by omega) (by omega) c_32
      refine r_aload_n C dX8_init_35 rfl ?_
      refine r_getf C fl_X8_20 ft rfl dX8_init_36 ?_
      refine r_iload_n C dX8_init_39 rfl ?_
      refine r_new C cn_X8_18 (fs := [.null, .null]) ZD_5 (by simp only [Nat.ble_eq]; omega) (by simp only [Nat.ble_eq]; omega) dX8_init_40 (fun a40 hn40 => ?_)
      have ne40_t : t ≠ a40 := fun h_ => by have q_ := ft; rw [h_] at q_; cases q_.symm.trans hn40
      have ne40_a18 : a18 ≠ a40 := fun h_ => by have q_ := fa; rw [h_] at q_; cases q_.symm.trans hn40
      refine r_named (e' := .inr (5, [.null, .null])) rfl (fun M40 hM40 => ?_)
      have f40_a40 : M40 a40 = some (.inr (5, [.null, .null])) := by rw [hM40]; exact mup_s
      have f40_t : M40 t = some (.inr (8, [.ref a5, .ref a18])) := by rw [hM40, mup_n (by first | assumption | exact Ne.symm (by assumption) | exact fun h_ => by rw [h_] at ft; cases ft.symm.trans hn40)]; exact ft
      have f40_a18 : M40 a18 = some (.inl (gc G 4, 12, .inr (.inr (.inr (.inr (fun j => if j < i then some (al (3, j, 0)) else none)))))) := by rw [hM40, mup_n (by first | assumption | exact Ne.symm (by assumption) | exact fun h_ => by rw [h_] at fa; cases fa.symm.trans hn40)]; exact fa
      refine r_dup C dX8_init_43 rfl ?_
      refine r_cIN C (j_X5_init _ G M40 a40 i f40_a40) my_X5_init nw_281 rfl rfl (Nat.le_of_ble_eq_true rfl) (by simp only [roomOk, Bool.and_eq_true, Nat.ble_eq]; omega) dX8_init_44 (r_void fun M44 hp44 => ?_)
      obtain ⟨b_44, A_44, r_44, e_44, x_44⟩ := Acc.sub (root := (3, i, 0)) Al hn40 hM40 hp44 (Or.inl rfl) gO (1 + i) (clO i) (fun x hx => hx.elim ((clS 0 gO 0 ⟨rfl, rfl⟩).ne (by omega) x) (fun hx => by obtain ⟨j, hj, hx⟩ := hx; exact (clO j).ne (by omega) x hx))
      have f44_t : M44 t = some (.inr (8, [.ref a5, .ref a18])) := by have h_ := f40_t; rw [hM40, mup_n ne40_t] at h_; rw [x_44 t (by rw [h_]; simp)]; exact h_
      have f44_a18 : M44 a18 = some (.inl (gc G 4, 12, .inr (.inr (.inr (.inr (fun j => if j < i then some (al (3, j, 0)) else none)))))) := by have h_ := f40_a18; rw [hM40, mup_n ne40_a18] at h_; rw [x_44 a18 (by rw [h_]; simp)]; exact h_
      refine r_aast C 4 rfl f44_a18 (by have h_ := (A_44.1 (3, i, 0) (Or.inr (Or.inl rfl))).1; rw [r_44] at h_; exact h_) rfl (pk_in i 12 hb) dX8_init_47 ?_
      refine r_named (e' := .inl (gc G 4, 12, .inr (.inr (.inr (.inr (fun j => if j < i + 1 then some (b_44 (3, j, 0)) else none)))))) (by rw [up_refs (i := i) (f := fun j => al (3, j, 0)) (f' := fun j => b_44 (3, j, 0)) (by omega) (fun j hj => e_44 _ (show 1 + j ≠ 1 + i by omega)) r_44]) (fun M47 hM47 => ?_)
      have f47_a18 : M47 a18 = some (.inl (gc G 4, 12, .inr (.inr (.inr (.inr (fun j => if j < i + 1 then some (b_44 (3, j, 0)) else none)))))) := by rw [hM47]; exact mup_s
      have f47_t : M47 t = some (.inr (8, [.ref a5, .ref a18])) := by rw [hM47, mup_n (by first | assumption | exact Ne.symm (by assumption) | exact fun h_ => by rw [h_] at f44_t; cases f44_t.symm.trans f44_a18)]; exact f44_t
      have A_47 := A_44.put (Or.inr rfl) hM47
      refine r_iinc (v := (nI (i + 1))) C dX8_init_48 rfl (nI_1 i) (by decide) ?_
      refine r_goto (tgt := 26) C dX8_init_51 (by decide) ?_
      refine r_widen (k' := (3 + 2 * (i + 1))) (n' := (32 + 5 * (i + 1))) (by (try dsimp only); omega) (by (try dsimp only); omega) ?_
      exact ih (i + 1) _ (by omega) (by omega) ⟨b_44, A_47.mono (fun x hx => hx.elim (fun h => Or.inl (Or.inl h)) (fun hx => by obtain ⟨j, hj, hx⟩ := hx; exact (Nat.lt_or_ge j i).elim (fun z => Or.inl (Or.inr ⟨j, z, hx⟩)) (fun z => Or.inr (by rw [show i = j by omega]; exact hx)))), f47_t, f47_a18, fun x hx => (e_44 x (((clS 0 gO 0 ⟨rfl, rfl⟩).ne (c := 1 + i) (by omega) x hx).1)).trans (hbase x hx)⟩
-- KilnKeeper.<init>
set_option maxHeartbeats 1000000 in
set_option maxRecDepth 20000 in
theorem j_X12_init (l : Launch) (G : GT) (M : Mem) (t : Nat)  (h_t : M t = some (.inr (11, [.null, .null, .null, .int 0, .null, .null, .null, .null, .null])))  : Ct l G yX12_init cX12_init 1 none ({ frames := 5, cells := 221, slots := 2791, locals := 102 } : Room) [.ref t] M (fun ov M' => ov = none ∧ (Blk G PKp (2, 0, 0) t M M')) := by
  refine Ct.of (by decide) rfl (Nat.le_of_ble_eq_true rfl) ?_
  intro X A C hl hin
  subst hl
  have A_0 : Acc G (fun _ => False) (fun q => q = t) (fun _ => t) M M := Acc.nil (fun q hq => by rw [hq, h_t]; simp)
  refine r_aload_n C dX12_init_0 rfl ?_
  refine r_objInit C aw_45 aw_46 aw_47 rfl rfl dX12_init_1 ?_
  refine r_aload_n C dX12_init_4 rfl ?_
  refine r_new C cn_X12_7 (fs := [.int 0, .int 0, .int 0, .int 0, .null, .null, .null, .null]) ZD_3 rfl rfl dX12_init_5 (fun a5 hn5 => ?_)
  have ne5_t : t ≠ a5 := fun h_ => by have q_ := h_t; rw [h_] at q_; cases q_.symm.trans hn5
  refine r_named (e' := .inr (3, [.int 0, .int 0, .int 0, .int 0, .null, .null, .null, .null])) rfl (fun M5 hM5 => ?_)
  have f5_a5 : M5 a5 = some (.inr (3, [.int 0, .int 0, .int 0, .int 0, .null, .null, .null, .null])) := by rw [hM5]; exact mup_s
  have f5_t : M5 t = some (.inr (11, [.null, .null, .null, .int 0, .null, .null, .null, .null, .null])) := by rw [hM5, mup_n (by first | assumption | exact Ne.symm (by assumption) | exact fun h_ => by rw [h_] at h_t; cases h_t.symm.trans hn5)]; exact h_t
  refine r_dup C dX12_init_8 rfl ?_
  refine r_cIN C (j_X3_init _ G M5 a5 0 f5_a5) my_X3_init nw_50 rfl rfl (Nat.le_of_ble_eq_true rfl) rfl dX12_init_9 (r_void fun M9 hp9 => ?_)
  obtain ⟨b_9, A_9, r_9, e_9, x_9⟩ := Acc.sub (root := (0, 0, 0)) A_0 hn5 hM5 hp9 (Or.inl ⟨rfl, rfl, by decide⟩) gT 1 (clT_k 0 (by decide)) ClN.F
  have f9_t : M9 t = some (.inr (11, [.null, .null, .null, .int 0, .null, .null, .null, .null, .null])) := by have h_ := f5_t; rw [hM5, mup_n ne5_t] at h_; rw [x_9 t (by rw [h_]; simp)]; exact h_
  refine r_putF C fp_X12_10 hin f9_t (Nat.le_of_ble_eq_true rfl) rfl rfl dX12_init_12 ?_
  refine r_named (e' := .inr (11, [.ref a5, .null, .null, .int 0, .null, .null, .null, .null, .null])) rfl (fun M12 hM12 => ?_)
  have f12_t : M12 t = some (.inr (11, [.ref a5, .null, .null, .int 0, .null, .null, .null, .null, .null])) := by rw [hM12]; exact mup_s
  have A_12 := A_9.put rfl hM12
  refine r_aload_n C dX12_init_15 rfl ?_
  refine r_new C cn_X12_7 (fs := [.int 0, .int 0, .int 0, .int 0, .null, .null, .null, .null]) ZD_3 rfl rfl dX12_init_16 (fun a16 hn16 => ?_)
  have ne16_t : t ≠ a16 := fun h_ => by have q_ := f12_t; rw [h_] at q_; cases q_.symm.trans hn16
  refine r_named (e' := .inr (3, [.int 0, .int 0, .int 0, .int 0, .null, .null, .null, .null])) rfl (fun M16 hM16 => ?_)
  have f16_a16 : M16 a16 = some (.inr (3, [.int 0, .int 0, .int 0, .int 0, .null, .null, .null, .null])) := by rw [hM16]; exact mup_s
  have f16_t : M16 t = some (.inr (11, [.ref a5, .null, .null, .int 0, .null, .null, .null, .null, .null])) := by rw [hM16, mup_n (by first | assumption | exact Ne.symm (by assumption) | exact fun h_ => by rw [h_] at f12_t; cases f12_t.symm.trans hn16)]; exact f12_t
  refine r_dup C dX12_init_19 rfl ?_
  refine r_cIN C (j_X3_init _ G M16 a16 1 f16_a16) my_X3_init nw_50 rfl rfl (Nat.le_of_ble_eq_true rfl) rfl dX12_init_20 (r_void fun M20 hp20 => ?_)
  obtain ⟨b_20, A_20, r_20, e_20, x_20⟩ := Acc.sub (root := (0, 1, 0)) A_12 hn16 hM16 hp20 (Or.inl ⟨rfl, rfl, by decide⟩) gT 2 (clT_k 1 (by decide)) (ClN.or ClN.F (ClE.ne (clT_k 0 (by decide)) (by decide : (1 : Nat) ≠ 2)))
  have f20_t : M20 t = some (.inr (11, [.ref a5, .null, .null, .int 0, .null, .null, .null, .null, .null])) := by have h_ := f16_t; rw [hM16, mup_n ne16_t] at h_; rw [x_20 t (by rw [h_]; simp)]; exact h_
  refine r_putF C fp_X12_16 hin f20_t (Nat.le_of_ble_eq_true rfl) rfl rfl dX12_init_23 ?_
  refine r_named (e' := .inr (11, [.ref a5, .ref a16, .null, .int 0, .null, .null, .null, .null, .null])) rfl (fun M23 hM23 => ?_)
  have f23_t : M23 t = some (.inr (11, [.ref a5, .ref a16, .null, .int 0, .null, .null, .null, .null, .null])) := by rw [hM23]; exact mup_s
  have A_23 := A_20.put rfl hM23
  refine r_aload_n C dX12_init_26 rfl ?_
  refine r_new C cn_X12_7 (fs := [.int 0, .int 0, .int 0, .int 0, .null, .null, .null, .null]) ZD_3 rfl rfl dX12_init_27 (fun a27 hn27 => ?_)
  have ne27_t : t ≠ a27 := fun h_ => by have q_ := f23_t; rw [h_] at q_; cases q_.symm.trans hn27
  refine r_named (e' := .inr (3, [.int 0, .int 0, .int 0, .int 0, .null, .null, .null, .null])) rfl (fun M27 hM27 => ?_)
  have f27_a27 : M27 a27 = some (.inr (3, [.int 0, .int 0, .int 0, .int 0, .null, .null, .null, .null])) := by rw [hM27]; exact mup_s
  have f27_t : M27 t = some (.inr (11, [.ref a5, .ref a16, .null, .int 0, .null, .null, .null, .null, .null])) := by rw [hM27, mup_n (by first | assumption | exact Ne.symm (by assumption) | exact fun h_ => by rw [h_] at f23_t; cases f23_t.symm.trans hn27)]; exact f23_t
  refine r_dup C dX12_init_30 rfl ?_
  refine r_cIN C (j_X3_init _ G M27 a27 2 f27_a27) my_X3_init nw_50 rfl rfl (Nat.le_of_ble_eq_true rfl) rfl dX12_init_31 (r_void fun M31 hp31 => ?_)
  obtain ⟨b_31, A_31, r_31, e_31, x_31⟩ := Acc.sub (root := (0, 2, 0)) A_23 hn27 hM27 hp31 (Or.inl ⟨rfl, rfl, by decide⟩) gT 3 (clT_k 2 (by decide)) (ClN.or (ClN.or ClN.F (ClE.ne (clT_k 0 (by decide)) (by decide : (1 : Nat) ≠ 3))) (ClE.ne (clT_k 1 (by decide)) (by decide : (2 : Nat) ≠ 3)))
  have f31_t : M31 t = some (.inr (11, [.ref a5, .ref a16, .null, .int 0, .null, .null, .null, .null, .null])) := by have h_ := f27_t; rw [hM27, mup_n ne27_t] at h_; rw [x_31 t (by rw [h_]; simp)]; exact h_
  refine r_putF C fp_X12_19 hin f31_t (Nat.le_of_ble_eq_true rfl) rfl rfl dX12_init_34 ?_
  refine r_named (e' := .inr (11, [.ref a5, .ref a16, .ref a27, .int 0, .null, .null, .null, .null, .null])) rfl (fun M34 hM34 => ?_)
  have f34_t : M34 t = some (.inr (11, [.ref a5, .ref a16, .ref a27, .int 0, .null, .null, .null, .null, .null])) := by rw [hM34]; exact mup_s
  have A_34 := A_31.put rfl hM34
  refine r_aload_n C dX12_init_37 rfl ?_
  refine r_iconst (v := 0) C dX12_init_38 (by decide) ?_
  refine r_putf C fp_X12_22 f34_t (Nat.le_of_ble_eq_true rfl) rfl rfl dX12_init_39 ?_
  refine r_named (e' := .inr (11, [.ref a5, .ref a16, .ref a27, .int 0, .null, .null, .null, .null, .null])) rfl (fun M39 hM39 => ?_)
  have f39_t : M39 t = some (.inr (11, [.ref a5, .ref a16, .ref a27, .int 0, .null, .null, .null, .null, .null])) := by rw [hM39]; exact mup_s
  have A_39 := A_34.put rfl hM39
  refine r_aload_n C dX12_init_42 rfl ?_
  refine r_new C cn_X12_26 (fs := [.int 0, .int 0, .null]) ZD_2 rfl rfl dX12_init_43 (fun a43 hn43 => ?_)
  have ne43_t : t ≠ a43 := fun h_ => by have q_ := f39_t; rw [h_] at q_; cases q_.symm.trans hn43
  refine r_named (e' := .inr (2, [.int 0, .int 0, .null])) rfl (fun M43 hM43 => ?_)
  have f43_a43 : M43 a43 = some (.inr (2, [.int 0, .int 0, .null])) := by rw [hM43]; exact mup_s
  have f43_t : M43 t = some (.inr (11, [.ref a5, .ref a16, .ref a27, .int 0, .null, .null, .null, .null, .null])) := by rw [hM43, mup_n (by first | assumption | exact Ne.symm (by assumption) | exact fun h_ => by rw [h_] at f39_t; cases f39_t.symm.trans hn43)]; exact f39_t
  refine r_dup C dX12_init_46 rfl ?_
  refine r_cI C (j_X2_init _ G M43 a43 f43_a43) my_X2_init aw_208 rfl rfl (Nat.le_of_ble_eq_true rfl) rfl dX12_init_47 (r_void fun M47 hp47 => ?_)
  obtain ⟨b_47, A_47, r_47, e_47, x_47⟩ := Acc.sub (root := (2, 0, 1)) A_39 hn43 hM43 hp47 (Or.inl rfl) gT 4 clT_c (ClN.or (ClN.or (ClN.or ClN.F (ClE.ne (clT_k 0 (by decide)) (by decide : (1 : Nat) ≠ 4))) (ClE.ne (clT_k 1 (by decide)) (by decide : (2 : Nat) ≠ 4))) (ClE.ne (clT_k 2 (by decide)) (by decide : (3 : Nat) ≠ 4)))
  have f47_t : M47 t = some (.inr (11, [.ref a5, .ref a16, .ref a27, .int 0, .null, .null, .null, .null, .null])) := by have h_ := f43_t; rw [hM43, mup_n ne43_t] at h_; rw [x_47 t (by rw [h_]; simp)]; exact h_
  refine r_putF C fp_X12_29 hin f47_t (Nat.le_of_ble_eq_true rfl) rfl rfl dX12_init_50 ?_
  refine r_named (e' := .inr (11, [.ref a5, .ref a16, .ref a27, .int 0, .ref a43, .null, .null, .null, .null])) rfl (fun M50 hM50 => ?_)
  have f50_t : M50 t = some (.inr (11, [.ref a5, .ref a16, .ref a27, .int 0, .ref a43, .null, .null, .null, .null])) := by rw [hM50]; exact mup_s
  have A_50 := A_47.put rfl hM50
  refine r_aload_n C dX12_init_53 rfl ?_
  refine r_new C cn_X12_33 (fs := [.int 0, .int 0]) ZD_9 rfl rfl dX12_init_54 (fun a54 hn54 => ?_)
  have ne54_t : t ≠ a54 := fun h_ => by have q_ := f50_t; rw [h_] at q_; cases q_.symm.trans hn54
  refine r_named (e' := .inr (9, [.int 0, .int 0])) rfl (fun M54 hM54 => ?_)
  have f54_a54 : M54 a54 = some (.inr (9, [.int 0, .int 0])) := by rw [hM54]; exact mup_s
  have f54_t : M54 t = some (.inr (11, [.ref a5, .ref a16, .ref a27, .int 0, .ref a43, .null, .null, .null, .null])) := by rw [hM54, mup_n (by first | assumption | exact Ne.symm (by assumption) | exact fun h_ => by rw [h_] at f50_t; cases f50_t.symm.trans hn54)]; exact f50_t
  refine r_dup C dX12_init_57 rfl ?_
  refine r_cIN C (j_X9_init _ G M54 a54 3 f54_a54 (Or.inl rfl)) my_X9_init nw_228 rfl rfl (Nat.le_of_ble_eq_true rfl) rfl dX12_init_58 (r_void fun M58 hp58 => ?_)
  obtain ⟨b_58, A_58, r_58, e_58, x_58⟩ := Acc.sub (root := (2, 0, 3)) A_50 hn54 hM54 hp58 rfl gT 5 clT_3 (ClN.or (ClN.or (ClN.or (ClN.or ClN.F (ClE.ne (clT_k 0 (by decide)) (by decide : (1 : Nat) ≠ 5))) (ClE.ne (clT_k 1 (by decide)) (by decide : (2 : Nat) ≠ 5))) (ClE.ne (clT_k 2 (by decide)) (by decide : (3 : Nat) ≠ 5))) (ClE.ne clT_c (by decide : (4 : Nat) ≠ 5)))
  have f58_t : M58 t = some (.inr (11, [.ref a5, .ref a16, .ref a27, .int 0, .ref a43, .null, .null, .null, .null])) := by have h_ := f54_t; rw [hM54, mup_n ne54_t] at h_; rw [x_58 t (by rw [h_]; simp)]; exact h_
  refine r_putF C fp_X12_36 hin f58_t (Nat.le_of_ble_eq_true rfl) rfl rfl dX12_init_61 ?_
  refine r_named (e' := .inr (11, [.ref a5, .ref a16, .ref a27, .int 0, .ref a43, .ref a54, .null, .null, .null])) rfl (fun M61 hM61 => ?_)
  have f61_t : M61 t = some (.inr (11, [.ref a5, .ref a16, .ref a27, .int 0, .ref a43, .ref a54, .null, .null, .null])) := by rw [hM61]; exact mup_s
  have A_61 := A_58.put rfl hM61
  refine r_aload_n C dX12_init_64 rfl ?_
  refine r_new C cn_X12_33 (fs := [.int 0, .int 0]) ZD_9 rfl rfl dX12_init_65 (fun a65 hn65 => ?_)
  have ne65_t : t ≠ a65 := fun h_ => by have q_ := f61_t; rw [h_] at q_; cases q_.symm.trans hn65
  refine r_named (e' := .inr (9, [.int 0, .int 0])) rfl (fun M65 hM65 => ?_)
  have f65_a65 : M65 a65 = some (.inr (9, [.int 0, .int 0])) := by rw [hM65]; exact mup_s
  have f65_t : M65 t = some (.inr (11, [.ref a5, .ref a16, .ref a27, .int 0, .ref a43, .ref a54, .null, .null, .null])) := by rw [hM65, mup_n (by first | assumption | exact Ne.symm (by assumption) | exact fun h_ => by rw [h_] at f61_t; cases f61_t.symm.trans hn65)]; exact f61_t
  refine r_dup C dX12_init_68 rfl ?_
  refine r_cIN C (j_X9_init _ G M65 a65 4 f65_a65 (Or.inr rfl)) my_X9_init nw_228 rfl rfl (Nat.le_of_ble_eq_true rfl) rfl dX12_init_69 (r_void fun M69 hp69 => ?_)
  obtain ⟨b_69, A_69, r_69, e_69, x_69⟩ := Acc.sub (root := (2, 0, 4)) A_61 hn65 hM65 hp69 rfl gT 6 clT_4 (ClN.or (ClN.or (ClN.or (ClN.or (ClN.or ClN.F (ClE.ne (clT_k 0 (by decide)) (by decide : (1 : Nat) ≠ 6))) (ClE.ne (clT_k 1 (by decide)) (by decide : (2 : Nat) ≠ 6))) (ClE.ne (clT_k 2 (by decide)) (by decide : (3 : Nat) ≠ 6))) (ClE.ne clT_c (by decide : (4 : Nat) ≠ 6))) (ClE.ne clT_3 (by decide : (5 : Nat) ≠ 6)))
  have f69_t : M69 t = some (.inr (11, [.ref a5, .ref a16, .ref a27, .int 0, .ref a43, .ref a54, .null, .null, .null])) := by have h_ := f65_t; rw [hM65, mup_n ne65_t] at h_; rw [x_69 t (by rw [h_]; simp)]; exact h_
  refine r_putF C fp_X12_40 hin f69_t (Nat.le_of_ble_eq_true rfl) rfl rfl dX12_init_72 ?_
  refine r_named (e' := .inr (11, [.ref a5, .ref a16, .ref a27, .int 0, .ref a43, .ref a54, .ref a65, .null, .null])) rfl (fun M72 hM72 => ?_)
  have f72_t : M72 t = some (.inr (11, [.ref a5, .ref a16, .ref a27, .int 0, .ref a43, .ref a54, .ref a65, .null, .null])) := by rw [hM72]; exact mup_s
  have A_72 := A_69.put rfl hM72
  refine r_aload_n C dX12_init_75 rfl ?_
  refine r_new C cn_X12_43 (fs := [.null, .null]) ZD_8 rfl rfl dX12_init_76 (fun a76 hn76 => ?_)
  have ne76_t : t ≠ a76 := fun h_ => by have q_ := f72_t; rw [h_] at q_; cases q_.symm.trans hn76
  refine r_named (e' := .inr (8, [.null, .null])) rfl (fun M76 hM76 => ?_)
  have f76_a76 : M76 a76 = some (.inr (8, [.null, .null])) := by rw [hM76]; exact mup_s
  have f76_t : M76 t = some (.inr (11, [.ref a5, .ref a16, .ref a27, .int 0, .ref a43, .ref a54, .ref a65, .null, .null])) := by rw [hM76, mup_n (by first | assumption | exact Ne.symm (by assumption) | exact fun h_ => by rw [h_] at f72_t; cases f72_t.symm.trans hn76)]; exact f72_t
  refine r_dup C dX12_init_79 rfl ?_
  refine r_cI C (j_X8_init _ G M76 a76 f76_a76) my_X8_init aw_241 rfl rfl (Nat.le_of_ble_eq_true rfl) rfl dX12_init_80 (r_void fun M80 hp80 => ?_)
  obtain ⟨b_80, A_80, r_80, e_80, x_80⟩ := Acc.sub (root := (2, 0, 5)) A_72 hn76 hM76 hp80 (Or.inl rfl) gT 7 clT_r (ClN.or (ClN.or (ClN.or (ClN.or (ClN.or (ClN.or ClN.F (ClE.ne (clT_k 0 (by decide)) (by decide : (1 : Nat) ≠ 7))) (ClE.ne (clT_k 1 (by decide)) (by decide : (2 : Nat) ≠ 7))) (ClE.ne (clT_k 2 (by decide)) (by decide : (3 : Nat) ≠ 7))) (ClE.ne clT_c (by decide : (4 : Nat) ≠ 7))) (ClE.ne clT_3 (by decide : (5 : Nat) ≠ 7))) (ClE.ne clT_4 (by decide : (6 : Nat) ≠ 7)))
  have f80_t : M80 t = some (.inr (11, [.ref a5, .ref a16, .ref a27, .int 0, .ref a43, .ref a54, .ref a65, .null, .null])) := by have h_ := f76_t; rw [hM76, mup_n ne76_t] at h_; rw [x_80 t (by rw [h_]; simp)]; exact h_
  refine r_putF C fp_X12_46 hin f80_t (Nat.le_of_ble_eq_true rfl) rfl rfl dX12_init_83 ?_
  refine r_named (e' := .inr (11, [.ref a5, .ref a16, .ref a27, .int 0, .ref a43, .ref a54, .ref a65, .ref a76, .null])) rfl (fun M83 hM83 => ?_)
  have f83_t : M83 t = some (.inr (11, [.ref a5, .ref a16, .ref a27, .int 0, .ref a43, .ref a54, .ref a65, .ref a76, .null])) := by rw [hM83]; exact mup_s
  have A_83 := A_80.put rfl hM83
  refine r_aload_n C dX12_init_86 rfl ?_
  refine r_new C cn_X12_50 (fs := [.null, .int 0, .int 0, .int 0]) ZD_0 rfl rfl dX12_init_87 (fun a87 hn87 => ?_)
  have ne87_t : t ≠ a87 := fun h_ => by have q_ := f83_t; rw [h_] at q_; cases q_.symm.trans hn87
  refine r_named (e' := .inr (0, [.null, .int 0, .int 0, .int 0])) rfl (fun M87 hM87 => ?_)
  have f87_a87 : M87 a87 = some (.inr (0, [.null, .int 0, .int 0, .int 0])) := by rw [hM87]; exact mup_s
  have f87_t : M87 t = some (.inr (11, [.ref a5, .ref a16, .ref a27, .int 0, .ref a43, .ref a54, .ref a65, .ref a76, .null])) := by rw [hM87, mup_n (by first | assumption | exact Ne.symm (by assumption) | exact fun h_ => by rw [h_] at f83_t; cases f83_t.symm.trans hn87)]; exact f83_t
  refine r_dup C dX12_init_90 rfl ?_
  refine r_cI C (j_J4_init_da8c8 _ G M87 a87 a87 f87_a87) my_J4_init_da8c8 aw_306 rfl rfl (Nat.le_of_ble_eq_true rfl) rfl dX12_init_91 (r_void fun M91 hp91 => ?_)
  obtain ⟨w_91, hs_91⟩ := hp91
  have hp91 := SB_blk (j := 1) hs_91
  obtain ⟨b_91, A_91, r_91, e_91, x_91⟩ := Acc.sub (root := (5, 0, 1)) A_83 hn87 hM87 hp91 (Or.inl rfl) gT 8 (clS 1 gT 8 ⟨rfl, rfl⟩) (ClN.or (ClN.or (ClN.or (ClN.or (ClN.or (ClN.or (ClN.or ClN.F (ClE.ne (clT_k 0 (by decide)) (by decide : (1 : Nat) ≠ 8))) (ClE.ne (clT_k 1 (by decide)) (by decide : (2 : Nat) ≠ 8))) (ClE.ne (clT_k 2 (by decide)) (by decide : (3 : Nat) ≠ 8))) (ClE.ne clT_c (by decide : (4 : Nat) ≠ 8))) (ClE.ne clT_3 (by decide : (5 : Nat) ≠ 8))) (ClE.ne clT_4 (by decide : (6 : Nat) ≠ 8))) (ClE.ne clT_r (by decide : (7 : Nat) ≠ 8)))
  have f91_t : M91 t = some (.inr (11, [.ref a5, .ref a16, .ref a27, .int 0, .ref a43, .ref a54, .ref a65, .ref a76, .null])) := by have h_ := f87_t; rw [hM87, mup_n ne87_t] at h_; rw [x_91 t (by rw [h_]; simp)]; exact h_
  refine r_putF C fp_X12_53 hin f91_t (Nat.le_of_ble_eq_true rfl) rfl rfl dX12_init_94 ?_
  refine r_named (e' := .inr (11, [.ref a5, .ref a16, .ref a27, .int 0, .ref a43, .ref a54, .ref a65, .ref a76, .ref a87])) rfl (fun M94 hM94 => ?_)
  have f94_t : M94 t = some (.inr (11, [.ref a5, .ref a16, .ref a27, .int 0, .ref a43, .ref a54, .ref a65, .ref a76, .ref a87])) := by rw [hM94]; exact mup_s
  have A_94 := A_91.put rfl hM94
  refine r_return C rfl dX12_init_97 ?_ rfl rfl
  refine ⟨rfl, (A_94.blk2 (root := (2, 0, 0)) gT (ClN.or (ClN.or (ClN.or (ClN.or (ClN.or (ClN.or (ClN.or (ClN.or ClN.F (ClE.ne (clT_k 0 (by decide)) (by decide : (1 : Nat) ≠ 0))) (ClE.ne (clT_k 1 (by decide)) (by decide : (2 : Nat) ≠ 0))) (ClE.ne (clT_k 2 (by decide)) (by decide : (3 : Nat) ≠ 0))) (ClE.ne clT_c (by decide : (4 : Nat) ≠ 0))) (ClE.ne clT_3 (by decide : (5 : Nat) ≠ 0))) (ClE.ne clT_4 (by decide : (6 : Nat) ≠ 0))) (ClE.ne clT_r (by decide : (7 : Nat) ≠ 0))) (ClE.ne (clS 1 gT 8 ⟨rfl, rfl⟩) (by decide : (8 : Nat) ≠ 0))) (fun z hz => ?_) (fun a' ha => ?_)).mono (fun x hx => hx)⟩
  · rcases rf_20 hz with rfl | rfl | rfl | rfl | rfl | rfl | rfl | rfl <;> decide
  · have q_ := f94_t
    have h9 : a5 = a' (0, 0, 0) := by rw [ha (0, 0, 0) (by decide), e_91 (0, 0, 0) (by decide : (1 : Nat) ≠ 8), e_80 (0, 0, 0) (by decide : (1 : Nat) ≠ 7), e_69 (0, 0, 0) (by decide : (1 : Nat) ≠ 6), e_58 (0, 0, 0) (by decide : (1 : Nat) ≠ 5), e_47 (0, 0, 0) (by decide : (1 : Nat) ≠ 4), e_31 (0, 0, 0) (by decide : (1 : Nat) ≠ 3), e_20 (0, 0, 0) (by decide : (1 : Nat) ≠ 2), r_9]
    have h20 : a16 = a' (0, 1, 0) := by rw [ha (0, 1, 0) (by decide), e_91 (0, 1, 0) (by decide : (2 : Nat) ≠ 8), e_80 (0, 1, 0) (by decide : (2 : Nat) ≠ 7), e_69 (0, 1, 0) (by decide : (2 : Nat) ≠ 6), e_58 (0, 1, 0) (by decide : (2 : Nat) ≠ 5), e_47 (0, 1, 0) (by decide : (2 : Nat) ≠ 4), e_31 (0, 1, 0) (by decide : (2 : Nat) ≠ 3), r_20]
    have h31 : a27 = a' (0, 2, 0) := by rw [ha (0, 2, 0) (by decide), e_91 (0, 2, 0) (by decide : (3 : Nat) ≠ 8), e_80 (0, 2, 0) (by decide : (3 : Nat) ≠ 7), e_69 (0, 2, 0) (by decide : (3 : Nat) ≠ 6), e_58 (0, 2, 0) (by decide : (3 : Nat) ≠ 5), e_47 (0, 2, 0) (by decide : (3 : Nat) ≠ 4), r_31]
    have h47 : a43 = a' (2, 0, 1) := by rw [ha (2, 0, 1) (by decide), e_91 (2, 0, 1) (by decide : (4 : Nat) ≠ 8), e_80 (2, 0, 1) (by decide : (4 : Nat) ≠ 7), e_69 (2, 0, 1) (by decide : (4 : Nat) ≠ 6), e_58 (2, 0, 1) (by decide : (4 : Nat) ≠ 5), r_47]
    have h58 : a54 = a' (2, 0, 3) := by rw [ha (2, 0, 3) (by decide), e_91 (2, 0, 3) (by decide : (5 : Nat) ≠ 8), e_80 (2, 0, 3) (by decide : (5 : Nat) ≠ 7), e_69 (2, 0, 3) (by decide : (5 : Nat) ≠ 6), r_58]
    have h69 : a65 = a' (2, 0, 4) := by rw [ha (2, 0, 4) (by decide), e_91 (2, 0, 4) (by decide : (6 : Nat) ≠ 8), e_80 (2, 0, 4) (by decide : (6 : Nat) ≠ 7), r_69]
    have h80 : a76 = a' (2, 0, 5) := by rw [ha (2, 0, 5) (by decide), e_91 (2, 0, 5) (by decide : (7 : Nat) ≠ 8), r_80]
    have h91 : a87 = a' (5, 0, 1) := by rw [ha (5, 0, 1) (by decide), r_91]
    rw [h9, h20, h31, h47, h58, h69, h80, h91] at q_
    exact q_
