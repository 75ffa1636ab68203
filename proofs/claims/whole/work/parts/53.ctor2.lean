
theorem refs0 (f : Nat → Nat) : (fun j => if j < 0 then some (f j) else none) = fun _ => (none : Option Nat) := by
  funext j
  rw [if_neg (Nat.not_lt_zero j)]
def PK (k : Nat) (i : Id3) : Prop := (i.1 = 0 ∧ i.2.1 = k ∧ i.2.2 < 9) ∨ (i.1 = 1 ∧ i.2.1 = k ∧ i.2.2 < 8)
def ClN (gf : Id3 → Nat) (c : Nat) (P : Id3 → Prop) : Prop := ∀ i, P i → gf i ≠ c ∧ ∀ z, rfs i z → gf z ≠ c
def ClE (gf : Id3 → Nat) (d : Nat) (P : Id3 → Prop) : Prop := ∀ i, P i → gf i = d ∧ ∀ z, rfs i z → gf z = d
theorem ClE.ne {gf : Id3 → Nat} {c d : Nat} {P : Id3 → Prop} (h : ClE gf d P) (hne : d ≠ c) : ClN gf c P := fun i hi => ⟨by rw [(h i hi).1]; exact hne, fun z hz => by rw [(h i hi).2 z hz]; exact hne⟩
theorem ClN.or {gf : Id3 → Nat} {c : Nat} {P P' : Id3 → Prop} (h : ClN gf c P) (h' : ClN gf c P') : ClN gf c (fun i => P i ∨ P' i) := fun i hi => hi.elim (h i) (h' i)
theorem ClN.F {gf : Id3 → Nat} {c : Nat} : ClN gf c (fun _ => False) := fun _ h => h.elim
theorem Acc.blk2 {G : GT} {P : Id3 → Prop} {a : Id3 → Nat} {M0 M : Mem} {t : Nat} {root : Id3} (h : Acc G P (fun q => q = t) a M0 M) (gf : Id3 → Nat) (hcl : ClN gf (gf root) P) (hrr : ∀ z, rfs root z → z ≠ root) (hc : ∀ a', (∀ i, i ≠ root → a' i = a i) → M t = some (cel0 G a' root)) : Blk G (fun i => P i ∨ i = root) root t M0 M :=
  h.blk (fun z => (hcl root z).1 rfl) (fun i hi z hz => hi.elim (fun hi e => (hcl i hi).2 z hz (by rw [e])) (fun hi => by rw [hi] at hz; exact hrr z hz)) hc
theorem Acc.closeA {G : GT} {P : Id3 → Prop} {T : Nat → Prop} {a : Id3 → Nat} {M0 M : Mem} {r : Nat} (i0 : Id3) (h : Acc G P (fun q => T q ∨ q = r) a M0 M) (h0 : M0 r = none) (hTr : ¬ T r) (hcl : ∀ i, P i → i ≠ i0 ∧ ∀ z, rfs i z → z ≠ i0) (hself : ∀ z, rfs i0 z → z ≠ i0) (hc : M r = some (cel0 G a i0)) : ∃ a', Acc G (fun i => P i ∨ i = i0) T a' M0 M ∧ a' i0 = r ∧ ∀ i, i ≠ i0 → a' i = a i := by
  have e : ∀ i, i ≠ i0 → (if i = i0 then r else a i) = a i := fun i hi => if_neg hi
  refine ⟨fun i => if i = i0 then r else a i, (h.congr (a' := fun i => if i = i0 then r else a i) (fun i hi => ⟨e i (hcl i hi).1, fun z hz => e z ((hcl i hi).2 z hz)⟩)).close h0 hTr (if_pos rfl) ?_, if_pos rfl, e⟩
  rw [hc]
  exact congrArg some (cel0_congr (fun z hz => (e z (hself z hz)).symm))
/-- inside a kiln -/
def gKn (i : Id3) : Nat := if i.1 = 1 then 7 else if i.2.2 = 3 then 2 else if i.2.2 = 5 ∨ i.2.2 = 6 then 4 else if i.2.2 = 8 then 7 else i.2.2
theorem cl_reg (k : Nat) : ClE gKn 1 (fun i => i = (0, k, 1)) := fun i hi => by subst hi; exact ⟨rfl, fun z hz => (rf_01 hz).elim⟩
theorem cl_lag (k : Nat) : ClE gKn 2 (fun i => i = (0, k, 2) ∨ i = (0, k, 3)) := fun i hi => by
  rcases hi with rfl | rfl
  · exact ⟨rfl, fun z hz => by rw [rf_02 hz]; rfl⟩
  · exact ⟨rfl, fun z hz => (rf_03 hz).elim⟩
theorem cl_book (k : Nat) : ClE gKn 4 (fun i => i = (0, k, 4) ∨ i = (0, k, 5) ∨ i = (0, k, 6)) := fun i hi => by
  rcases hi with rfl | rfl | rfl
  · refine ⟨rfl, fun z hz => ?_⟩
    rcases rf_04 hz with rfl | rfl <;> rfl
  · exact ⟨rfl, fun z hz => (rf_05 hz).elim⟩
  · exact ⟨rfl, fun z hz => (rf_06 hz).elim⟩
theorem cl_rack (k : Nat) : ClE gKn 7 (fun i => i = (0, k, 7) ∨ i = (0, k, 8) ∨ (i.1 = 1 ∧ i.2.1 = k ∧ i.2.2 < 8)) := fun i hi => by
  rcases hi with rfl | rfl | ⟨h1, h2, h3⟩
  · exact ⟨rfl, fun z hz => by rw [rf_07 hz]; rfl⟩
  · refine ⟨rfl, fun z hz => ?_⟩
    obtain ⟨j, rfl⟩ := rf_08 hz
    rfl
  · obtain ⟨x, y, p⟩ := i
    simp only at h1 h2 h3
    subst h1
    exact ⟨rfl, fun z hz => (rf_1 hz).elim⟩
theorem rfs_kiln {k : Nat} {i : Id3} (h : PK k i) {z : Id3} (hz : rfs i z) : z.1 ≤ 1 ∧ z.2.1 = k := by
  obtain ⟨x, y, q⟩ := i
  rcases h with ⟨h1, h2, h3⟩ | ⟨h1, h2, h3⟩
  · simp only at h1 h2 h3
    subst h1 h2
    have hc : q = 0 ∨ q = 1 ∨ q = 2 ∨ q = 3 ∨ q = 4 ∨ q = 5 ∨ q = 6 ∨ q = 7 ∨ q = 8 := by omega
    rcases hc with rfl | rfl | rfl | rfl | rfl | rfl | rfl | rfl | rfl
    · rcases rf_00 hz with rfl | rfl | rfl | rfl <;> exact ⟨Nat.zero_le 1, rfl⟩
    · exact (rf_01 hz).elim
    · rw [rf_02 hz]; exact ⟨Nat.zero_le 1, rfl⟩
    · exact (rf_03 hz).elim
    · rcases rf_04 hz with rfl | rfl <;> exact ⟨Nat.zero_le 1, rfl⟩
    · exact (rf_05 hz).elim
    · exact (rf_06 hz).elim
    · rw [rf_07 hz]; exact ⟨Nat.zero_le 1, rfl⟩
    · obtain ⟨j, rfl⟩ := rf_08 hz
      exact ⟨Nat.le_refl 1, rfl⟩
  · simp only at h1 h2 h3
    subst h1
    exact (rf_1 hz).elim
theorem PK.le {k : Nat} {i : Id3} (h : PK k i) : i.1 ≤ 1 ∧ i.2.1 = k := by
  rcases h with ⟨h1, h2, h3⟩ | ⟨h1, h2, h3⟩
  · exact ⟨by omega, h2⟩
  · exact ⟨by omega, h2⟩
theorem PK.parts {k : Nat} {i : Id3} (h : PK k i) : ((((False ∨ i = (0, k, 1)) ∨ (i = (0, k, 2) ∨ i = (0, k, 3))) ∨ (i = (0, k, 4) ∨ i = (0, k, 5) ∨ i = (0, k, 6))) ∨ (i = (0, k, 7) ∨ i = (0, k, 8) ∨ (i.1 = 1 ∧ i.2.1 = k ∧ i.2.2 < 8))) ∨ i = (0, k, 0) := by
  rcases h with ⟨h1, h2, h3⟩ | h
  · obtain ⟨x, y, q⟩ := i
    simp only at h1 h2 h3
    subst h1 h2
    have hc : q = 0 ∨ q = 1 ∨ q = 2 ∨ q = 3 ∨ q = 4 ∨ q = 5 ∨ q = 6 ∨ q = 7 ∨ q = 8 := by omega
    rcases hc with rfl | rfl | rfl | rfl | rfl | rfl | rfl | rfl | rfl
    · exact Or.inr rfl
    · exact Or.inl (Or.inl (Or.inl (Or.inl (Or.inr rfl))))
    · exact Or.inl (Or.inl (Or.inl (Or.inr (Or.inl rfl))))
    · exact Or.inl (Or.inl (Or.inl (Or.inr (Or.inr rfl))))
    · exact Or.inl (Or.inl (Or.inr (Or.inl rfl)))
    · exact Or.inl (Or.inl (Or.inr (Or.inr (Or.inl rfl))))
    · exact Or.inl (Or.inl (Or.inr (Or.inr (Or.inr rfl))))
    · exact Or.inl (Or.inr (Or.inl rfl))
    · exact Or.inl (Or.inr (Or.inr (Or.inl rfl)))
  · exact Or.inl (Or.inr (Or.inr (Or.inr h)))
/-- the kilns of the changes; the orders of the reader; the keeper's own -/
def gC (i : Id3) : Nat := if i.1 ≤ 1 then 1 + i.2.1 else 0
theorem clC (k : Nat) : ClE gC (1 + k) (PK k) := fun i hi => by
  obtain ⟨h1, h2⟩ := hi.le
  refine ⟨by rw [gC, if_pos h1, h2], fun z hz => ?_⟩
  obtain ⟨g1, g2⟩ := rfs_kiln hi hz
  rw [gC, if_pos g1, g2]
def PO (k : Nat) (i : Id3) : Prop := i = (3, k, 0) ∨ i = (3, k, 1)
def gO (i : Id3) : Nat := if i.1 = 3 then 1 + i.2.1 else 0
theorem clO (k : Nat) : ClE gO (1 + k) (PO k) := fun i hi => by
  rcases hi with rfl | rfl
  · exact ⟨rfl, fun z hz => by rw [rf_30 hz]; rfl⟩
  · exact ⟨rfl, fun z hz => (rf_31 hz).elim⟩
def PS (j : Nat) (i : Id3) : Prop := i = (5, 0, j) ∨ i = (5, 1, j)
theorem clS (j : Nat) (gf : Id3 → Nat) (d : Nat) (h : gf (5, 0, j) = d ∧ gf (5, 1, j) = d) : ClE gf d (PS j) := fun i hi => by
  rcases hi with rfl | rfl
  · exact ⟨h.1, fun z hz => by rw [rf_50 hz]; exact h.2⟩
  · exact ⟨h.2, fun z hz => (rf_51 hz).elim⟩
theorem fp_X3_27 : FLP "KilnKeeper$Kiln" 27 3 4 (.object "KilnKeeper$Regulator") true := ⟨RX3, TX3, 8, tyX3, rfl, by decide, aw_222, in_TX3, tyX3_ok, nmX3, rfl, rfl, fun h => by first | exact rfl | cases h⟩
theorem fp_X3_34 : FLP "KilnKeeper$Kiln" 34 3 5 (.object "KilnKeeper$LagRow") true := ⟨RX3, TX3, 8, tyX3, rfl, by decide, aw_224, in_TX3, tyX3_ok, nmX3, rfl, rfl, fun h => by first | exact rfl | cases h⟩
theorem fp_X3_41 : FLP "KilnKeeper$Kiln" 41 3 6 (.object "KilnKeeper$Book") true := ⟨RX3, TX3, 8, tyX3, rfl, by decide, aw_225, in_TX3, tyX3_ok, nmX3, rfl, rfl, fun h => by first | exact rfl | cases h⟩
theorem fp_X3_48 : FLP "KilnKeeper$Kiln" 48 3 7 (.object "KilnKeeper$Rack") true := ⟨RX3, TX3, 8, tyX3, rfl, by decide, aw_227, in_TX3, tyX3_ok, nmX3, rfl, rfl, fun h => by first | exact rfl | cases h⟩
theorem fp_X7_17 : FLP "KilnKeeper$Rack" 17 7 1 (.array (.object "KilnKeeper$Pot")) true := ⟨RX7, TX7, 2, tyX7, rfl, by decide, aw_210, in_TX7, tyX7_ok, nmX7, rfl, rfl, fun h => by first | exact rfl | cases h⟩
theorem my_X10_init : MI yX10_init cX10_init 1 0 := ⟨aw_98, aw_56, ⟨by decide, by decide, by decide +kernel⟩, aw_97, rfl⟩
theorem my_X1_init : MI yX1_init cX1_init 1 0 := ⟨aw_140, aw_58, ⟨by decide, by decide, by decide +kernel⟩, aw_139, rfl⟩
theorem my_X4_init : MI yX4_init cX4_init 1 0 := ⟨aw_125, aw_57, ⟨by decide, by decide, by decide +kernel⟩, aw_124, rfl⟩
theorem my_X6_init : MI yX6_init cX6_init 1 0 := ⟨aw_178, aw_60, ⟨by decide, by decide, by decide +kernel⟩, aw_177, rfl⟩
theorem my_X7_init : MI yX7_init cX7_init 2 0 := ⟨aw_171, aw_59, ⟨by decide, by decide, by decide +kernel⟩, aw_170, rfl⟩
theorem cn_X3_24 : CN "KilnKeeper$Kiln" 24 10 6 tyX10 := ⟨RX10, TX10, rfl, aw_94, aw_95, aw_56, in_TX10, tyX10_ok⟩
theorem cn_X3_31 : CN "KilnKeeper$Kiln" 31 4 2 tyX4 := ⟨RX4, TX4, rfl, aw_121, aw_122, aw_57, in_TX4, tyX4_ok⟩
theorem cn_X3_38 : CN "KilnKeeper$Kiln" 38 1 6 tyX1 := ⟨RX1, TX1, rfl, aw_136, aw_137, aw_58, in_TX1, tyX1_ok⟩
theorem cn_X3_45 : CN "KilnKeeper$Kiln" 45 7 2 tyX7 := ⟨RX7, TX7, rfl, aw_167, aw_168, aw_59, in_TX7, tyX7_ok⟩
theorem cn_X7_15 : CN "KilnKeeper$Rack" 15 6 7 tyX6 := ⟨RX6, TX6, rfl, aw_173, aw_175, aw_60, in_TX6, tyX6_ok⟩
theorem ZD_1 : ∀ j, j < 6 → defaultValue (tyX1 j) = vp_V [.int 0, .int 0, .int 0, .int 0, .null, .null] j := zd_of rfl
theorem ZD_4 : ∀ j, j < 2 → defaultValue (tyX4 j) = vp_V [.int 0, .null] j := zd_of rfl
theorem ZD_6 : ∀ j, j < 7 → defaultValue (tyX6 j) = vp_V [.int 0, .int 0, .int 0, .int 0, .int 0, .int 0, .int 0] j := zd_of rfl
theorem ZD_7 : ∀ j, j < 2 → defaultValue (tyX7 j) = vp_V [.int 0, .null] j := zd_of rfl
theorem ZD_10 : ∀ j, j < 6 → defaultValue (tyX10 j) = vp_V [.int 0, .int 0, .int 0, .int 0, .int 0, .int 0] j := zd_of rfl
-- KilnKeeper$Rack.<init>
set_option maxHeartbeats 1000000 in
set_option maxRecDepth 20000 in
theorem j_X7_init (l : Launch) (G : GT) (M : Mem) (t : Nat) (k : Nat) (h_t : M t = some (.inr (7, [.int 0, .null])))  : Ct l G yX7_init cX7_init 2 none ({ frames := 2, cells := 9, slots := 64, locals := 40 } : Room) [.ref t] M (fun ov M' => ov = none ∧ (Blk G (fun i => i = (0, k, 7) ∨ i = (0, k, 8) ∨ (i.1 = 1 ∧ i.2.1 = k ∧ i.2.2 < 8)) (0, k, 7) t M M')) := by
  refine Ct.of (by decide) rfl (Nat.le_of_ble_eq_true rfl) ?_
  intro X A C hl hin
  subst hl
  have A_0 : Acc G (fun _ => False) (fun q => q = t) (fun _ => t) M M := Acc.nil (fun q hq => by rw [hq, h_t]; simp)
  refine r_aload_n C dX7_init_0 rfl ?_
  refine r_objInit C aw_172 aw_86 aw_87 rfl rfl dX7_init_1 ?_
  refine r_aload_n C dX7_init_4 rfl ?_
  refine r_iconst (v := 0) C dX7_init_5 (by decide) ?_
  refine r_putf C fp_X7_9 h_t (Nat.le_of_ble_eq_true rfl) rfl rfl dX7_init_6 ?_
  refine r_named (e' := .inr (7, [.int 0, .null])) rfl (fun M6 hM6 => ?_)
  have f6_t : M6 t = some (.inr (7, [.int 0, .null])) := by rw [hM6]; exact mup_s
  have A_6 := A_0.put rfl hM6
  refine r_aload_n C dX7_init_9 rfl ?_
  refine r_bipush (v := 8) C dX7_init_10 (by decide) ?_
  refine r_newQ C 2 rfl aw_173 (va_AO.use (C.ev.2.2.2.2.2.2.2.2.2.2.2 _ (List.mem_cons_of_mem _ (List.mem_cons_of_mem _ List.mem_cons_self)))) (by decide) (N := 8) (by decide) rfl rfl rfl dX7_init_12 (fun a12 hn12 => ?_)
  have ne12_t : t ≠ a12 := fun h_ => by have q_ := f6_t; rw [h_] at q_; cases q_.symm.trans hn12
  refine r_named (e' := .inl (gc G 2, 8, .inr (.inr (.inr (.inr (fun _ => none)))))) rfl (fun M12 hM12 => ?_)
  have f12_a12 : M12 a12 = some (.inl (gc G 2, 8, .inr (.inr (.inr (.inr (fun _ => none)))))) := by rw [hM12]; exact mup_s
  have f12_t : M12 t = some (.inr (7, [.int 0, .null])) := by rw [hM12, mup_n (by first | assumption | exact Ne.symm (by assumption) | exact fun h_ => by rw [h_] at f6_t; cases f6_t.symm.trans hn12)]; exact f6_t
  have o_12 := A_6.old hn12
  have nt_12 := fun z => A_6.2.2.2 _ z hn12
  have A_12 := A_6.fresh hn12 hM12
  refine r_putF C fp_X7_17 hin f12_t (Nat.le_of_ble_eq_true rfl) rfl rfl dX7_init_15 ?_
  refine r_named (e' := .inr (7, [.int 0, .ref a12])) rfl (fun M15 hM15 => ?_)
  have f15_t : M15 t = some (.inr (7, [.int 0, .ref a12])) := by rw [hM15]; exact mup_s
  have f15_a12 : M15 a12 = some (.inl (gc G 2, 8, .inr (.inr (.inr (.inr (fun _ => none)))))) := by rw [hM15, mup_n (by first | assumption | exact Ne.symm (by assumption) | exact fun h_ => by rw [h_] at f12_a12; cases f12_a12.symm.trans f12_t)]; exact f12_a12
  have A_15 := A_12.put (Or.inl rfl) hM15
  refine r_iconst (v := 0) C dX7_init_18 (by decide) ?_
  refine r_istore_n C dX7_init_19 (by decide) ?_
  refine r_widen (k' := (1 + 0)) (n' := (8 + 7 * 0)) (by omega) (by omega) ?_
  suffices K : ∀ (fu_ i : Nat) (Ml : Mem), i ≤ 8 → 8 < fu_ + i → (∃ a : Id3 → Nat, Acc G (fun x : Id3 => x.1 = 1 ∧ x.2.1 = k ∧ x.2.2 < i) (fun q => (fun q => q = t) q ∨ q = a12) a M Ml ∧ Ml t = some (.inr (7, [.int 0, .ref a12])) ∧ Ml a12 = some (.inl (gc G 2, 8, .inr (.inr (.inr (.inr (fun j => if j < i then some (a (1, k, j)) else none)))))) ∧ ∀ i, (fun _ : Id3 => False) i → a i = (fun _ : Id3 => t) i) → WM X G A Ml (1 + i) (8 + 7 * i) _ 20 [some (.ref t), some (.int (nI i))] [] from K (8 + 1) 0 _ (by omega) (by omega) ⟨fun _ => t, A_15.mono (fun i hi => absurd hi.2.2 (Nat.not_lt_zero _)), f15_t, (by have q_ := f15_a12; rw [← refs0 (fun j => (fun _ : Id3 => t) (1, k, j))] at q_; exact q_), fun _ h => h.elim⟩
  intro fu_
  induction fu_ with
  | zero => intro i Ml h1 h2; omega
  | succ fu_ ih =>
    intro i Ml hi hm hx
    obtain ⟨al, Al, ft, fa, hbase⟩ := hx
    refine r_iload_n C dX7_init_20 rfl ?_
    refine r_aload_n C dX7_init_21 rfl ?_
    refine r_getf C fl_X7_17 ft rfl dX7_init_22 ?_
    refine r_alen C 2 rfl fa dX7_init_25 ?_
    refine r_ic_ge (tgt := 48) C dX7_init_26 (by decide) (fun c_26 => ?_) (fun c_26 => ?_)
    · have hb : 8 ≤ i := nI_le_iff (by omega) (by omega) c_26
      have e8 : i = 8 := by omega
      subst e8
      refine r_arrQ fa (z := fun j => some (al (1, k, j))) (fun j hj => (if_pos hj).symm) (fun Mz hMz => ?_)
      refine r_return C rfl dX7_init_48 ?_ rfl rfl
      have hta : t ≠ a12 := fun z => by rw [z, o_12] at h_t; cases h_t
      have Az := Al.put (Or.inr rfl) hMz
      have fz : Mz a12 = some (cel0 G al (0, k, 8)) := by rw [hMz, mup_s]; rfl
      have ftz : Mz t = some (.inr (7, [.int 0, .ref a12])) := by rw [hMz, mup_n hta]; exact ft
      obtain ⟨az, Bz, gz, hz⟩ := Acc.closeA (0, k, 8) Az o_12 nt_12 (fun x hx => ⟨fun z => by rw [z] at hx; exact absurd hx.1 (show ¬ (0 : Nat) = 1 by decide), fun z hz => by obtain ⟨u, v, w⟩ := x; have h1 : u = 1 := hx.1; subst h1; exact (rf_1 hz).elim⟩) (fun z hz => by obtain ⟨j, rfl⟩ := rf_08 hz; exact fun q => by injection q with q1; exact absurd q1 (by decide)) fz
      refine ⟨rfl, (Bz.blk (root := (0, k, 7)) (fun q => ?_) (fun x hx z hz2 => ?_) (fun a' ha => ?_)).mono (fun x hx => ?_)⟩
      · rcases q with q | q
        · exact absurd q.1 (show ¬ (0 : Nat) = 1 by decide)
        · injection q with _ q; injection q with _ q; exact absurd q (by decide)
      · rcases hx with (hx | hx) | hx
        · obtain ⟨u, v, w⟩ := x; have h1 : u = 1 := hx.1; subst h1; exact (rf_1 hz2).elim
        · subst hx; obtain ⟨j, rfl⟩ := rf_08 hz2; exact fun q => by injection q with q1; exact absurd q1 (by decide)
        · subst hx; rw [rf_07 hz2]; exact fun q => by injection q with _ q; injection q with _ q; exact absurd q (by decide)
      · have q_ := ftz
        rw [show a12 = a' (0, k, 8) from by rw [ha _ (fun q => by injection q with _ q; injection q with _ q; exact absurd q (by decide)), gz]] at q_
        exact q_
      · rcases hx with hx | hx | hx
        · exact Or.inr hx
        · exact Or.inl (Or.inr hx)
        · exact Or.inl (Or.inl hx)
    · have hb : i < 8 := nI_nle_iff (by omega) (by omega) c_26
      refine r_aload_n C dX7_init_29 rfl ?_
      refine r_getf C fl_X7_17 ft rfl dX7_init_30 ?_
      refine r_iload_n C dX7_init_33 rfl ?_
      refine r_new C cn_X7_15 (fs := [.int 0, .int 0, .int 0, .int 0, .int 0, .int 0, .int 0]) ZD_6 (by simp only [Nat.ble_eq]; omega) (by simp only [Nat.ble_eq]; omega) dX7_init_34 (fun a34 hn34 => ?_)
      have ne34_t : t ≠ a34 := fun h_ => by have q_ := ft; rw [h_] at q_; cases q_.symm.trans hn34
      have ne34_a12 : a12 ≠ a34 := fun h_ => by have q_ := fa; rw [h_] at q_; cases q_.symm.trans hn34
      refine r_named (e' := .inr (6, [.int 0, .int 0, .int 0, .int 0, .int 0, .int 0, .int 0])) rfl (fun M34 hM34 => ?_)
      have f34_a34 : M34 a34 = some (.inr (6, [.int 0, .int 0, .int 0, .int 0, .int 0, .int 0, .int 0])) := by rw [hM34]; exact mup_s
      have f34_t : M34 t = some (.inr (7, [.int 0, .ref a12])) := by rw [hM34, mup_n (by first | assumption | exact Ne.symm (by assumption) | exact fun h_ => by rw [h_] at ft; cases ft.symm.trans hn34)]; exact ft
      have f34_a12 : M34 a12 = some (.inl (gc G 2, 8, .inr (.inr (.inr (.inr (fun j => if j < i then some (al (1, k, j)) else none)))))) := by rw [hM34, mup_n (by first | assumption | exact Ne.symm (by assumption) | exact fun h_ => by rw [h_] at fa; cases fa.symm.trans hn34)]; exact fa
      refine r_dup C dX7_init_37 rfl ?_
      refine r_cIN C (j_X6_init _ G M34 a34 k i f34_a34) my_X6_init nw_176 rfl rfl (Nat.le_of_ble_eq_true rfl) (by simp only [roomOk, Bool.and_eq_true, Nat.ble_eq]; omega) dX7_init_38 (r_void fun M38 hp38 => ?_)
      obtain ⟨b_38, A_38, r_38, e_38, x_38⟩ := Acc.sub (root := (1, k, i)) Al hn34 hM34 hp38 rfl (fun x => x.2.2) i (fun x hx => by subst hx; exact ⟨rfl, fun z hz => (rf_1 hz).elim⟩) (fun x hx => ⟨by have := hx.2.2; show x.2.2 ≠ i; omega, fun z hz => by obtain ⟨u, v, w⟩ := x; have h1 : u = 1 := hx.1; subst h1; exact (rf_1 hz).elim⟩)
      have f38_t : M38 t = some (.inr (7, [.int 0, .ref a12])) := by have h_ := f34_t; rw [hM34, mup_n ne34_t] at h_; rw [x_38 t (by rw [h_]; simp)]; exact h_
      have f38_a12 : M38 a12 = some (.inl (gc G 2, 8, .inr (.inr (.inr (.inr (fun j => if j < i then some (al (1, k, j)) else none)))))) := by have h_ := f34_a12; rw [hM34, mup_n ne34_a12] at h_; rw [x_38 a12 (by rw [h_]; simp)]; exact h_
      refine r_aast C 2 rfl f38_a12 (by have h_ := (A_38.1 (1, k, i) (Or.inr rfl)).1; rw [r_38] at h_; exact h_) rfl (pk_in i 8 hb) dX7_init_41 ?_
      refine r_named (e' := .inl (gc G 2, 8, .inr (.inr (.inr (.inr (fun j => if j < i + 1 then some (b_38 (1, k, j)) else none)))))) (by rw [up_refs (i := i) (f := fun j => al (1, k, j)) (f' := fun j => b_38 (1, k, j)) (by omega) (fun j hj => e_38 _ (show j ≠ i by omega)) r_38]) (fun M41 hM41 => ?_)
      have f41_a12 : M41 a12 = some (.inl (gc G 2, 8, .inr (.inr (.inr (.inr (fun j => if j < i + 1 then some (b_38 (1, k, j)) else none)))))) := by rw [hM41]; exact mup_s
      have f41_t : M41 t = some (.inr (7, [.int 0, .ref a12])) := by rw [hM41, mup_n (by first | assumption | exact Ne.symm (by assumption) | exact fun h_ => by rw [h_] at f38_t; cases f38_t.symm.trans f38_a12)]; exact f38_t
      have A_41 := A_38.put (Or.inr rfl) hM41
      refine r_iinc (v := (nI (i + 1))) C dX7_init_42 rfl (nI_1 i) (by decide) ?_
      refine r_goto (tgt := 20) C dX7_init_45 (by decide) ?_
      refine r_widen (k' := (1 + (i + 1))) (n' := (8 + 7 * (i + 1))) (by (try dsimp only); omega) (by (try dsimp only); omega) ?_
      exact ih (i + 1) _ (by omega) (by omega) ⟨b_38, A_41.mono (fun x hx => (Nat.lt_or_ge x.2.2 i).elim (fun z => Or.inl ⟨hx.1, hx.2.1, z⟩) (fun z => Or.inr (by obtain ⟨u, v, w⟩ := x; have h1 : u = 1 := hx.1; have h2 : v = k := hx.2.1; have h3 : w = i := (by have := hx.2.2; simp only at z this; omega); subst h1 h2 h3; rfl))), f41_t, f41_a12, fun _ h => h.elim⟩
-- KilnKeeper$Kiln.<init>
set_option maxHeartbeats 1000000 in
set_option maxRecDepth 20000 in
theorem j_X3_init (l : Launch) (G : GT) (M : Mem) (t : Nat) (k : Nat) (h_t : M t = some (.inr (3, [.int 0, .int 0, .int 0, .int 0, .null, .null, .null, .null])))  : Ct l G yX3_init cX3_init 1 none ({ frames := 3, cells := 16, slots := 234, locals := 61 } : Room) [.ref t] M (fun ov M' => ov = none ∧ (Blk G (PK k) (0, k, 0) t M M')) := by
  refine Ct.of (by decide) rfl (Nat.le_of_ble_eq_true rfl) ?_
  intro X A C hl hin
  subst hl
  have A_0 : Acc G (fun _ => False) (fun q => q = t) (fun _ => t) M M := Acc.nil (fun q hq => by rw [hq, h_t]; simp)
  refine r_aload_n C dX3_init_0 rfl ?_
  refine r_objInit C aw_93 aw_86 aw_87 rfl rfl dX3_init_1 ?_
  refine r_aload_n C dX3_init_4 rfl ?_
  refine r_bipush (v := 20) C dX3_init_5 (by decide) ?_
  refine r_putf C fp_X3_9 h_t (Nat.le_of_ble_eq_true rfl) rfl rfl dX3_init_7 ?_
  refine r_named (e' := .inr (3, [.int 20, .int 0, .int 0, .int 0, .null, .null, .null, .null])) rfl (fun M7 hM7 => ?_)
  have f7_t : M7 t = some (.inr (3, [.int 20, .int 0, .int 0, .int 0, .null, .null, .null, .null])) := by rw [hM7]; exact mup_s
  have A_7 := A_0.put rfl hM7
  refine r_aload_n C dX3_init_10 rfl ?_
  refine r_bipush (v := 20) C dX3_init_11 (by decide) ?_
  refine r_putf C fp_X3_15 f7_t (Nat.le_of_ble_eq_true rfl) rfl rfl dX3_init_13 ?_
  refine r_named (e' := .inr (3, [.int 20, .int 20, .int 0, .int 0, .null, .null, .null, .null])) rfl (fun M13 hM13 => ?_)
  have f13_t : M13 t = some (.inr (3, [.int 20, .int 20, .int 0, .int 0, .null, .null, .null, .null])) := by rw [hM13]; exact mup_s
  have A_13 := A_7.put rfl hM13
  refine r_aload_n C dX3_init_16 rfl ?_
  refine r_iconst (v := 0) C dX3_init_17 (by decide) ?_
  refine r_putf C fp_X3_18 f13_t (Nat.le_of_ble_eq_true rfl) rfl rfl dX3_init_18 ?_
  refine r_named (e' := .inr (3, [.int 20, .int 20, .int 0, .int 0, .null, .null, .null, .null])) rfl (fun M18 hM18 => ?_)
  have f18_t : M18 t = some (.inr (3, [.int 20, .int 20, .int 0, .int 0, .null, .null, .null, .null])) := by rw [hM18]; exact mup_s
  have A_18 := A_13.put rfl hM18
  refine r_aload_n C dX3_init_21 rfl ?_
  refine r_iconst (v := 0) C dX3_init_22 (by decide) ?_
  refine r_putf C fp_X3_21 f18_t (Nat.le_of_ble_eq_true rfl) rfl rfl dX3_init_23 ?_
  refine r_named (e' := .inr (3, [.int 20, .int 20, .int 0, .int 0, .null, .null, .null, .null])) rfl (fun M23 hM23 => ?_)
  have f23_t : M23 t = some (.inr (3, [.int 20, .int 20, .int 0, .int 0, .null, .null, .null, .null])) := by rw [hM23]; exact mup_s
  have A_23 := A_18.put rfl hM23
  refine r_aload_n C dX3_init_26 rfl ?_
  refine r_new C cn_X3_24 (fs := [.int 0, .int 0, .int 0, .int 0, .int 0, .int 0]) ZD_10 rfl rfl dX3_init_27 (fun a27 hn27 => ?_)
  have ne27_t : t ≠ a27 := fun h_ => by have q_ := f23_t; rw [h_] at q_; cases q_.symm.trans hn27
  refine r_named (e' := .inr (10, [.int 0, .int 0, .int 0, .int 0, .int 0, .int 0])) rfl (fun M27 hM27 => ?_)
  have f27_a27 : M27 a27 = some (.inr (10, [.int 0, .int 0, .int 0, .int 0, .int 0, .int 0])) := by rw [hM27]; exact mup_s
  have f27_t : M27 t = some (.inr (3, [.int 20, .int 20, .int 0, .int 0, .null, .null, .null, .null])) := by rw [hM27, mup_n (by first | assumption | exact Ne.symm (by assumption) | exact fun h_ => by rw [h_] at f23_t; cases f23_t.symm.trans hn27)]; exact f23_t
  refine r_dup C dX3_init_30 rfl ?_
  refine r_cIN C (j_X10_init _ G M27 a27 k f27_a27) my_X10_init nw_96 rfl rfl (Nat.le_of_ble_eq_true rfl) rfl dX3_init_31 (r_void fun M31 hp31 => ?_)
  obtain ⟨b_31, A_31, r_31, e_31, x_31⟩ := Acc.sub (root := (0, k, 1)) A_23 hn27 hM27 hp31 rfl gKn 1 (cl_reg k) ClN.F
  have f31_t : M31 t = some (.inr (3, [.int 20, .int 20, .int 0, .int 0, .null, .null, .null, .null])) := by have h_ := f27_t; rw [hM27, mup_n ne27_t] at h_; rw [x_31 t (by rw [h_]; simp)]; exact h_
  refine r_putF C fp_X3_27 hin f31_t (Nat.le_of_ble_eq_true rfl) rfl rfl dX3_init_34 ?_
  refine r_named (e' := .inr (3, [.int 20, .int 20, .int 0, .int 0, .ref a27, .null, .null, .null])) rfl (fun M34 hM34 => ?_)
  have f34_t : M34 t = some (.inr (3, [.int 20, .int 20, .int 0, .int 0, .ref a27, .null, .null, .null])) := by rw [hM34]; exact mup_s
  have A_34 := A_31.put rfl hM34
  refine r_aload_n C dX3_init_37 rfl ?_
  refine r_new C cn_X3_31 (fs := [.int 0, .null]) ZD_4 rfl rfl dX3_init_38 (fun a38 hn38 => ?_)
  have ne38_t : t ≠ a38 := fun h_ => by have q_ := f34_t; rw [h_] at q_; cases q_.symm.trans hn38
  refine r_named (e' := .inr (4, [.int 0, .null])) rfl (fun M38 hM38 => ?_)
  have f38_a38 : M38 a38 = some (.inr (4, [.int 0, .null])) := by rw [hM38]; exact mup_s
  have f38_t : M38 t = some (.inr (3, [.int 20, .int 20, .int 0, .int 0, .ref a27, .null, .null, .null])) := by rw [hM38, mup_n (by first | assumption | exact Ne.symm (by assumption) | exact fun h_ => by rw [h_] at f34_t; cases f34_t.symm.trans hn38)]; exact f34_t
  refine r_dup C dX3_init_41 rfl ?_
  refine r_cIN C (j_X4_init _ G M38 a38 k f38_a38) my_X4_init nw_123 rfl rfl (Nat.le_of_ble_eq_true rfl) rfl dX3_init_42 (r_void fun M42 hp42 => ?_)
  obtain ⟨b_42, A_42, r_42, e_42, x_42⟩ := Acc.sub (root := (0, k, 2)) A_34 hn38 hM38 hp42 (Or.inl rfl) gKn 2 (cl_lag k) (ClN.or ClN.F (ClE.ne (cl_reg k) (by decide : (1 : Nat) ≠ 2)))
  have f42_t : M42 t = some (.inr (3, [.int 20, .int 20, .int 0, .int 0, .ref a27, .null, .null, .null])) := by have h_ := f38_t; rw [hM38, mup_n ne38_t] at h_; rw [x_42 t (by rw [h_]; simp)]; exact h_
  refine r_putF C fp_X3_34 hin f42_t (Nat.le_of_ble_eq_true rfl) rfl rfl dX3_init_45 ?_
  refine r_named (e' := .inr (3, [.int 20, .int 20, .int 0, .int 0, .ref a27, .ref a38, .null, .null])) rfl (fun M45 hM45 => ?_)
  have f45_t : M45 t = some (.inr (3, [.int 20, .int 20, .int 0, .int 0, .ref a27, .ref a38, .null, .null])) := by rw [hM45]; exact mup_s
  have A_45 := A_42.put rfl hM45
  refine r_aload_n C dX3_init_48 rfl ?_
  refine r_new C cn_X3_38 (fs := [.int 0, .int 0, .int 0, .int 0, .null, .null]) ZD_1 rfl rfl dX3_init_49 (fun a49 hn49 => ?_)
  have ne49_t : t ≠ a49 := fun h_ => by have q_ := f45_t; rw [h_] at q_; cases q_.symm.trans hn49
  refine r_named (e' := .inr (1, [.int 0, .int 0, .int 0, .int 0, .null, .null])) rfl (fun M49 hM49 => ?_)
  have f49_a49 : M49 a49 = some (.inr (1, [.int 0, .int 0, .int 0, .int 0, .null, .null])) := by rw [hM49]; exact mup_s
  have f49_t : M49 t = some (.inr (3, [.int 20, .int 20, .int 0, .int 0, .ref a27, .ref a38, .null, .null])) := by rw [hM49, mup_n (by first | assumption | exact Ne.symm (by assumption) | exact fun h_ => by rw [h_] at f45_t; cases f45_t.symm.trans hn49)]; exact f45_t
  refine r_dup C dX3_init_52 rfl ?_
  refine r_cIN C (j_X1_init _ G M49 a49 k f49_a49) my_X1_init nw_138 rfl rfl (Nat.le_of_ble_eq_true rfl) rfl dX3_init_53 (r_void fun M53 hp53 => ?_)
  obtain ⟨b_53, A_53, r_53, e_53, x_53⟩ := Acc.sub (root := (0, k, 4)) A_45 hn49 hM49 hp53 (Or.inl rfl) gKn 4 (cl_book k) (ClN.or (ClN.or ClN.F (ClE.ne (cl_reg k) (by decide : (1 : Nat) ≠ 4))) (ClE.ne (cl_lag k) (by decide : (2 : Nat) ≠ 4)))
  have f53_t : M53 t = some (.inr (3, [.int 20, .int 20, .int 0, .int 0, .ref a27, .ref a38, .null, .null])) := by have h_ := f49_t; rw [hM49, mup_n ne49_t] at h_; rw [x_53 t (by rw [h_]; simp)]; exact h_
  refine r_putF C fp_X3_41 hin f53_t (Nat.le_of_ble_eq_true rfl) rfl rfl dX3_init_56 ?_
  refine r_named (e' := .inr (3, [.int 20, .int 20, .int 0, .int 0, .ref a27, .ref a38, .ref a49, .null])) rfl (fun M56 hM56 => ?_)
  have f56_t : M56 t = some (.inr (3, [.int 20, .int 20, .int 0, .int 0, .ref a27, .ref a38, .ref a49, .null])) := by rw [hM56]; exact mup_s
  have A_56 := A_53.put rfl hM56
  refine r_aload_n C dX3_init_59 rfl ?_
  refine r_new C cn_X3_45 (fs := [.int 0, .null]) ZD_7 rfl rfl dX3_init_60 (fun a60 hn60 => ?_)
  have ne60_t : t ≠ a60 := fun h_ => by have q_ := f56_t; rw [h_] at q_; cases q_.symm.trans hn60
  refine r_named (e' := .inr (7, [.int 0, .null])) rfl (fun M60 hM60 => ?_)
  have f60_a60 : M60 a60 = some (.inr (7, [.int 0, .null])) := by rw [hM60]; exact mup_s
  have f60_t : M60 t = some (.inr (3, [.int 20, .int 20, .int 0, .int 0, .ref a27, .ref a38, .ref a49, .null])) := by rw [hM60, mup_n (by first | assumption | exact Ne.symm (by assumption) | exact fun h_ => by rw [h_] at f56_t; cases f56_t.symm.trans hn60)]; exact f56_t
  refine r_dup C dX3_init_63 rfl ?_
  refine r_cI C (j_X7_init _ G M60 a60 k f60_a60) my_X7_init aw_169 rfl rfl (Nat.le_of_ble_eq_true rfl) rfl dX3_init_64 (r_void fun M64 hp64 => ?_)
  obtain ⟨b_64, A_64, r_64, e_64, x_64⟩ := Acc.sub (root := (0, k, 7)) A_56 hn60 hM60 hp64 (Or.inl rfl) gKn 7 (cl_rack k) (ClN.or (ClN.or (ClN.or ClN.F (ClE.ne (cl_reg k) (by decide : (1 : Nat) ≠ 7))) (ClE.ne (cl_lag k) (by decide : (2 : Nat) ≠ 7))) (ClE.ne (cl_book k) (by decide : (4 : Nat) ≠ 7)))
  have f64_t : M64 t = some (.inr (3, [.int 20, .int 20, .int 0, .int 0, .ref a27, .ref a38, .ref a49, .null])) := by have h_ := f60_t; rw [hM60, mup_n ne60_t] at h_; rw [x_64 t (by rw [h_]; simp)]; exact h_
  refine r_putF C fp_X3_48 hin f64_t (Nat.le_of_ble_eq_true rfl) rfl rfl dX3_init_67 ?_
  refine r_named (e' := .inr (3, [.int 20, .int 20, .int 0, .int 0, .ref a27, .ref a38, .ref a49, .ref a60])) rfl (fun M67 hM67 => ?_)
  have f67_t : M67 t = some (.inr (3, [.int 20, .int 20, .int 0, .int 0, .ref a27, .ref a38, .ref a49, .ref a60])) := by rw [hM67]; exact mup_s
  have A_67 := A_64.put rfl hM67
  refine r_return C rfl dX3_init_70 ?_ rfl rfl
  refine ⟨rfl, (A_67.blk2 (root := (0, k, 0)) gKn (ClN.or (ClN.or (ClN.or (ClN.or ClN.F (ClE.ne (cl_reg k) (by decide : (1 : Nat) ≠ 0))) (ClE.ne (cl_lag k) (by decide : (2 : Nat) ≠ 0))) (ClE.ne (cl_book k) (by decide : (4 : Nat) ≠ 0))) (ClE.ne (cl_rack k) (by decide : (7 : Nat) ≠ 0))) (fun z hz => ?_) (fun a' ha => ?_)).mono (fun x hx => PK.parts hx)⟩
  · rcases rf_00 hz with rfl | rfl | rfl | rfl <;> exact nej (by decide)
  · have q_ := f67_t
    have h31 : a27 = a' (0, k, 1) := by rw [ha (0, k, 1) (nej (by decide)), e_64 (0, k, 1) (by decide : (1 : Nat) ≠ 7), e_53 (0, k, 1) (by decide : (1 : Nat) ≠ 4), e_42 (0, k, 1) (by decide : (1 : Nat) ≠ 2), r_31]
    have h42 : a38 = a' (0, k, 2) := by rw [ha (0, k, 2) (nej (by decide)), e_64 (0, k, 2) (by decide : (2 : Nat) ≠ 7), e_53 (0, k, 2) (by decide : (2 : Nat) ≠ 4), r_42]
    have h53 : a49 = a' (0, k, 4) := by rw [ha (0, k, 4) (nej (by decide)), e_64 (0, k, 4) (by decide : (4 : Nat) ≠ 7), r_53]
    have h64 : a60 = a' (0, k, 7) := by rw [ha (0, k, 7) (nej (by decide)), r_64]
    rw [h31, h42, h53, h64] at q_
    exact q_
