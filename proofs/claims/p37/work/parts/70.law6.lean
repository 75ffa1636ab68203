/-! THE LAW: isKept. -/
/-- the row that undo brings back -/
def unS (Y : YT) (c : Nat) : Nat → Int32 := if c = 0 then Y (4, 0, 0) else hisF (Y (4, 0, 4)) (c - 1)
theorem sim_un {Y : YT} {n c st tl ll : Nat} (h : Sim Y n c st tl ll) : (c ≠ 0 → RKi Y (3 + (st + (c - 1)) % 8) (unS Y c)) ∧ MB (unS Y c) n := by
  unfold unS
  by_cases hc : c = 0
  · rw [if_pos hc]
    exact ⟨fun z => absurd hc z, h.I.mb⟩
  · rw [if_neg hc]
    obtain ⟨-, ⟨-, -, -, -, -, h6⟩, -⟩ := h
    exact ⟨fun _ => (h6 (c - 1) (by omega)).1, (h6 (c - 1) (by omega)).2.mb⟩
theorem ss_save {Y Y1 : YT} {n c st tl ll : Nat} {g : GH} {r : Int32} (h : SS Y n c st tl ll g) (h1 : r = Y (4, 0, 0) 12 ∧ RKi Y1 2 (Y (4, 0, 0)) ∧ Y1 (2, 0, 0) 3 = 1 ∧ ∀ i : Id3, ¬ (i.1 ≤ 1 ∧ i.2.1 = 2) → i ≠ (2, 0, 0) → Y1 i = Y i) : r = g.1 12 ∧ ∃ (Y2 : YT) (st' ll' : Nat), (∀ i : Id3, i.1 ≠ 4 → Y2 i = Y1 i) ∧ SS Y2 n c st' tl ll' (g.1, g.2.1, g.1, 1) := by
  obtain ⟨hs, e0, e4, e2, e6⟩ := h
  have hE := (sim_save hs h1 rfl rfl).2
  have y1 : ∀ i : Id3, i.1 = 4 → Y1 i = Y i := fun i hi => h1.2.2.2 i (fun z => by rw [hi] at z; exact absurd z.1 (by decide)) (fun z => by rw [z] at hi; exact absurd hi (show ¬ (2 : Nat) = 4 by decide))
  have d0 : ∀ i : Id3, i ≠ (4, 0, 2) → i ≠ (4, 0, 8) → saveY Y1 i = Y1 i := fun i q2 q8 => by rw [saveY, up_n q8, setA_n q2]
  have d8 : ∀ f, f ≠ 6 → saveY Y1 (4, 0, 8) f = Y (4, 0, 8) f := fun f hf => by rw [saveY, up_s, upd_n hf, setA_n (by decide), y1 _ rfl]
  obtain ⟨st', ll', hS⟩ := hE.ssT (c := c) (tl := tl) ((d8 5 (by decide)).trans hs.m5) hs.c8 ((d8 10 (by decide)).trans hs.tx.2.1) hs.tx.2.2.1
  refine ⟨by rw [h1.1, e0], saveY Y1, st', ll', fun i hi => d0 i (fun z => hi (by rw [z])) (fun z => hi (by rw [z])), hS.1, ?_, ?_, ?_, ?_⟩
  · rw [d0 _ (by decide) (by decide), y1 _ rfl, e0]
  · rw [d0 _ (by decide) (by decide), y1 _ rfl, e4]
  · rw [saveY, up_n (by decide), setA_s, y1 _ rfl, e0]
  · rw [saveY, up_s, upd_s]
theorem ss_undo {Y Y1 : YT} {n c st tl ll : Nat} {g : GH} {r : Int32} (h : SS Y n c st tl ll g) (h1 : (c = 0 → r = -10005 ∧ Y1 = Y) ∧ (c ≠ 0 → r = nI (c - 1) ∧ Y1 (2, 0, 1) 0 = nI (c - 1) ∧ Y1 (2, 0, 1) 1 = nI st ∧ RKi Y1 0 (unS Y c) ∧ ∀ i : Id3, ¬ (i.1 ≤ 1 ∧ i.2.1 = 0) → i ≠ (2, 0, 1) → Y1 i = Y i)) (hc : c ≠ 0) : r = nI (c - 1) ∧ ∃ (Y2 : YT) (st' ll' : Nat), (∀ i : Id3, i.1 ≠ 4 → Y2 i = Y1 i) ∧ SS Y2 n (c - 1) st' tl ll' (hisF g.2.1 (c - 1), g.2) := by
  obtain ⟨hs, e0, e4, e2, e6⟩ := h
  have hp := h1.2 hc
  rw [unS, if_neg hc] at hp
  have hc8 := hs.c8
  have hE := (sim_undo hs ⟨fun z => absurd z hc, fun _ => hp⟩ rfl rfl).2
  have y1 : ∀ i : Id3, i.1 = 4 → Y1 i = Y i := fun i hi => hp.2.2.2.2 i (fun z => by rw [hi] at z; exact absurd z.1 (by decide)) (fun z => by rw [z] at hi; exact absurd hi (show ¬ (2 : Nat) = 4 by decide))
  have h5 : Y1 (4, 0, 8) 5 = nI c := by rw [y1 _ rfl]; exact hs.m5
  have hn0 : ¬ Y1 (4, 0, 8) 5 = 0 := by rw [h5]; exact fun z => hc ((nI_eq (b := 0) (by omega) (by decide)).mp z)
  have hpr : nI c - 1 = nI (c - 1) := pk_sub (b := 1) (by omega)
  have hd : undoY Y1 = setA (up Y1 (4, 0, 8) 5 (nI (c - 1))) (4, 0, 0) (hisF (Y1 (4, 0, 4)) (c - 1)) := by rw [undoY, if_neg hn0, h5, hpr, nn_nI (by omega)]
  have d0 : ∀ i : Id3, i ≠ (4, 0, 0) → i ≠ (4, 0, 8) → undoY Y1 i = Y1 i := fun i q2 q8 => by rw [hd, setA_n q2, up_n q8]
  have d8 : ∀ f, f ≠ 5 → undoY Y1 (4, 0, 8) f = Y (4, 0, 8) f := fun f hf => by rw [hd, setA_n (by decide), up_s, upd_n hf, y1 _ rfl]
  obtain ⟨st', ll', hS⟩ := hE.ssT (c := c - 1) (tl := tl) (by rw [hd, setA_n (by decide), up_s, upd_s]) (by omega) ((d8 10 (by decide)).trans hs.tx.2.1) hs.tx.2.2.1
  refine ⟨hp.1, undoY Y1, st', ll', fun i hi => d0 i (fun z => hi (by rw [z])) (fun z => hi (by rw [z])), hS.1, ?_, ?_, ?_, ?_⟩
  · rw [hd, setA_s, y1 _ rfl, e4]
  · rw [d0 _ (by decide) (by decide), y1 _ rfl, e4]
  · rw [d0 _ (by decide) (by decide), y1 _ rfl, e2]
  · rw [d8 6 (by decide), e6]
theorem ss_rest {Y Y1 : YT} {n c st tl ll : Nat} {g : GH} {r : Int32} (h : SS Y n c st tl ll g) (h0 : ¬ g.2.2.2 = 0) (h1 : (Y (2, 0, 0) 3 = 0 → r = -10005 ∧ Y1 = Y) ∧ (¬ Y (2, 0, 0) 3 = 0 → r = bkS Y 12 ∧ RKi Y1 0 (bkS Y) ∧ Y1 (2, 0, 1) 0 = 0 ∧ Y1 (2, 0, 1) 1 = Y (2, 0, 1) 1 ∧ ∀ i : Id3, ¬ (i.1 ≤ 1 ∧ i.2.1 = 0) → i ≠ (2, 0, 1) → Y1 i = Y i)) : r = g.2.2.1 12 ∧ ∃ (Y2 : YT) (st' ll' : Nat), (∀ i : Id3, i.1 ≠ 4 → Y2 i = Y1 i) ∧ SS Y2 n 0 st' tl ll' (g.2.2.1, g.2) := by
  obtain ⟨hs, e0, e4, e2, e6⟩ := h
  have hE := (sim_rest hs h1 rfl rfl).2
  have hv := hs.sv.1
  have hz : ¬ Y (4, 0, 8) 6 = 0 := by rw [e6]; exact h0
  have hp := h1.2 (by rw [hv]; exact hz)
  have y1 : ∀ i : Id3, i.1 = 4 → Y1 i = Y i := fun i hi => hp.2.2.2.2 i (fun z => by rw [hi] at z; exact absurd z.1 (by decide)) (fun z => by rw [z] at hi; exact absurd hi (show ¬ (2 : Nat) = 4 by decide))
  have hz1 : ¬ Y1 (4, 0, 8) 6 = 0 := by rw [y1 _ rfl]; exact hz
  have hd : restY Y1 = up (setA Y1 (4, 0, 0) (Y1 (4, 0, 2))) (4, 0, 8) 5 0 := by rw [restY, if_neg hz1]
  have d0 : ∀ i : Id3, i ≠ (4, 0, 0) → i ≠ (4, 0, 8) → restY Y1 i = Y1 i := fun i q2 q8 => by rw [hd, up_n q8, setA_n q2]
  have d8 : ∀ f, f ≠ 5 → restY Y1 (4, 0, 8) f = Y (4, 0, 8) f := fun f hf => by rw [hd, up_s, upd_n hf, setA_n (by decide), y1 _ rfl]
  obtain ⟨st', ll', hS⟩ := hE.ssT (c := 0) (tl := tl) (by rw [hd, up_s, upd_s]; rfl) (by omega) ((d8 10 (by decide)).trans hs.tx.2.1) hs.tx.2.2.1
  refine ⟨by rw [hp.1, bkS, if_neg hz, e2], restY Y1, st', ll', fun i hi => d0 i (fun z => hi (by rw [z])) (fun z => hi (by rw [z])), hS.1, ?_, ?_, ?_, ?_⟩
  · rw [hd, up_n (by decide), setA_s, y1 _ rfl, e2]
  · rw [d0 _ (by decide) (by decide), y1 _ rfl, e4]
  · rw [d0 _ (by decide) (by decide), y1 _ rfl, e2]
  · rw [d8 6 (by decide), e6]
theorem lgc_self (x : Int64) : lg_cmp x x = 0 := by
  unfold lg_cmp
  simp
set_option maxHeartbeats 4000000 in
set_option maxRecDepth 20000 in
theorem c_L_isKept (l : Launch) (G : GT) (a : Id3 → Nat) (Y : YT) (E : Mem) (n c st ll : Nat) (g : GH) (b made : Nat) (z : Nat → Int64) (hS : SS Y n c st 0 ll g) (hn : n ≤ 90000) (hb : E b = some (.inl (gc G 5, 60, .inr (.inl z)))) (hm : made ≤ 50) (hc : c = if made < 8 then made else 8) (hz : z made = sumS g.1) (hzj : ∀ j, j < c → z (made - c + j) = sumS (hisF g.2.1 j)) : CtE l G a yL_isKept cL_isKept 6 (some .boolean) ({ frames := 12, cells := 162, slots := 32400, locals := 266 } : Room) [.ref (a (2, 0, 0)), .ref b, .int (nI made)] Y E (PI (fun r Y' => r = 1)) := by
  refine CtE.of (by decide) (Nat.le_of_ble_eq_true rfl) ?_
  intro X A C hl
  subst hl
  generalize hQ : MEnd X G A ({ frames := 12, cells := 162, slots := 32400, locals := 266 } : Room) (PYE G a E (PI (fun r Y' => r = 1))) = Q
  have hc8 : c ≤ 8 ∧ c ≤ made := by rw [hc]; split <;> omega
  have hmin : (if nI made < 8 then nI made else 8) = nI c := (nI_minN (m := 8) (p := made) (by decide) (by omega)).trans (congrArg nI hc.symm)
  refine e_aload_n (pc' := 1) (x := (a (2, 0, 0))) rfl C dL_isKept_0 rfl ?_
  refine e_iconst (pc' := 2) (v := 0) rfl C dL_isKept_1 (by decide) ?_
  refine e_q (pc' := 5) (k' := 0) (n' := 0) rfl C (q_account _ G a hS 0 (R := g.1 12) acc_0) my_X12_account aw_335 rfl rfl rfl (Nat.le_of_ble_eq_true rfl) rfl dL_isKept_2 rfl rfl ?_
  refine e_istore_n (pc' := 6) (D' := [(3, .int (g.1 12)), (0, .ref (a (2, 0, 0))), (1, .ref b), (2, .int (nI made))]) rfl C dL_isKept_5 (by decide) rfl ?_
  refine e_aload_n (pc' := 7) (x := (a (2, 0, 0))) rfl C dL_isKept_6 rfl ?_
  refine e_i (pc' := 10) (k' := 0) (n' := 0) rfl C (As := []) (c_X12_save _ G a Y n (Y (4, 0, 0)) hS.1.R hS.1.I.mb) my_X12_save aw_1088 rfl rfl rfl (Nat.le_of_ble_eq_true rfl) rfl dL_isKept_7 rfl rfl (fun r7 Y7 hK7 => ?_)
  obtain ⟨hr, Y2, s2, l2, hg2, hS2⟩ := ss_save hS hK7
  refine e_gh hg2 ?_
  rw [hr]
  refine e_iload_n (pc' := 11) (x := (g.1 12)) rfl C dL_isKept_10 rfl ?_
  refine e_ic_neF (pc' := 14) (tgt := 29) rfl C dL_isKept_11 (by decide) rfl ?_
  refine e_aload_n (pc' := 15) (x := (a (2, 0, 0))) rfl C dL_isKept_14 rfl ?_
  refine e_bipush (pc' := 17) (v := 17) rfl C dL_isKept_15 (by decide) ?_
  refine e_q (pc' := 20) (k' := 0) (n' := 0) rfl C (q_account _ G a hS2 17 (R := (nI c)) acc_17) my_X12_account aw_335 rfl rfl rfl (Nat.le_of_ble_eq_true rfl) rfl dL_isKept_17 rfl rfl ?_
  refine e_bipush (pc' := 22) (v := 8) rfl C dL_isKept_20 (by decide) ?_
  refine e_iload_n (pc' := 23) (x := (nI made)) rfl C dL_isKept_22 rfl ?_
  refine e_min (pc' := 26) rfl C aw_1000 rfl rfl rfl rfl dL_isKept_23 ?_
  refine e_top (y := (nI c)) hmin ?_
  refine e_ic_eqT (tgt := 31) C dL_isKept_26 (by decide) rfl ?_
  refine e_bipush (pc' := 33) (v := 8) rfl C dL_isKept_31 (by decide) ?_
  refine e_iload_n (pc' := 34) (x := (nI made)) rfl C dL_isKept_33 rfl ?_
  refine e_min (pc' := 37) rfl C aw_1000 rfl rfl rfl rfl dL_isKept_34 ?_
  refine e_top (y := (nI c)) hmin ?_
  refine e_istore (pc' := 39) (D' := [(4, .int (nI c)), (3, .int (g.1 12)), (0, .ref (a (2, 0, 0))), (1, .ref b), (2, .int (nI made))]) rfl C dL_isKept_37 (by decide) rfl ?_
  refine e_iload_n (pc' := 40) (x := (nI made)) rfl C dL_isKept_39 rfl ?_
  refine e_iconst (pc' := 41) (v := 1) rfl C dL_isKept_40 (by decide) ?_
  refine e_isub (pc' := 42) rfl C dL_isKept_41 ?_
  refine e_istore (pc' := 44) (D' := [(5, .int ((nI made) - 1)), (4, .int (nI c)), (3, .int (g.1 12)), (0, .ref (a (2, 0, 0))), (1, .ref b), (2, .int (nI made))]) rfl C dL_isKept_42 (by decide) rfl ?_
  refine e_D (D' := [(5, .int (nI (made - 0) - 1)), (4, .int (nI (c - 0))), (3, .int (g.1 12)), (2, .int (nI made)), (1, .ref b), (0, .ref (a (2, 0, 0)))]) (List.forall_mem_cons.mpr ⟨rfl, List.forall_mem_cons.mpr ⟨rfl, List.forall_mem_cons.mpr ⟨rfl, List.forall_mem_cons.mpr ⟨rfl, List.forall_mem_cons.mpr ⟨rfl, List.forall_mem_cons.mpr ⟨rfl, fun _ h => absurd h List.not_mem_nil⟩⟩⟩⟩⟩⟩) ?_
  refine e_wid (k' := 18 * 0) (n' := 3600 * 0) (Nat.le_refl _) (Nat.le_refl _) ?_
  refine nat_loop (P := fun i44 => ∀ (Y3 : YT) (s3 l3 : Nat) (R3 : Nat → Int32), SS Y3 n (c - i44) s3 0 l3 (R3, g.2.1, g.1, 1) → WE X G A a Y3 E (18 * i44) (3600 * i44) Q 44 [(5, .int (nI (made - i44) - 1)), (4, .int (nI (c - i44))), (3, .int (g.1 12)), (2, .int (nI made)), (1, .ref b), (0, .ref (a (2, 0, 0)))] []) (B := c) (fun i44 hi44 ih44 => ?_) ?_ 0 (Nat.zero_le _) _ _ _ _ hS2
  · intro Y3 s3 l3 R3 hS3
    refine e_iload (pc' := 46) (x := (nI (c - i44))) rfl C dL_isKept_44 rfl ?_
    refine e_if_leF (pc' := 49) (tgt := 81) rfl C dL_isKept_46 (by decide) (show ¬ nI (c - i44) ≤ nI 0 from nnle (by omega) (by omega)) ?_
    refine e_iinc (pc' := 52) (j := 1) (v := (nI ((c - i44) - 1))) (D' := [(4, .int (nI ((c - i44) - 1))), (5, .int (nI (made - i44) - 1)), (3, .int (g.1 12)), (2, .int (nI made)), (1, .ref b), (0, .ref (a (2, 0, 0)))]) rfl C dL_isKept_49 rfl (sb_m1 (by omega)) (by decide) rfl ?_
    refine e_aload_n (pc' := 53) (x := (a (2, 0, 0))) rfl C dL_isKept_52 rfl ?_
    refine e_i (pc' := 56) (k' := (18 * i44)) (n' := (3600 * i44)) rfl C (As := []) (c_X12_undo _ G a Y3 (c - i44) s3 n (unS Y3 (c - i44)) hS3.1.k0 hS3.1.c8 hS3.1.k1 hS3.1.s8 (sim_un hS3.1).1 (sim_un hS3.1).2) my_X12_undo aw_1092 rfl rfl rfl (Nat.le_of_ble_eq_true rfl) (rok rfl rfl (show (18 * i44) + 0 ≤ 162 by omega) (show (3600 * i44) + 0 ≤ 32400 by omega)) dL_isKept_53 rfl rfl (fun r53 Y53 hK53 => ?_)
    obtain ⟨hr, Y4, s4, l4, hg4, hS4⟩ := ss_undo hS3 hK53 (by omega)
    refine e_gh hg4 ?_
    rw [hr]
    refine e_iload (pc' := 58) (x := (nI ((c - i44) - 1))) rfl C dL_isKept_56 rfl ?_
    refine e_ic_neF (pc' := 61) (tgt := 73) rfl C dL_isKept_58 (by decide) rfl ?_
    refine e_aload_n (pc' := 62) (x := (a (2, 0, 0))) rfl C dL_isKept_61 rfl ?_
    refine e_Sl (pc' := 65) (k' := (18 * (i44 + 1))) (n' := (3600 * (i44 + 1))) rfl C (As := [.ref (a (2, 0, 0))]) (c_L_sum _ G a Y4 n (c - i44 - 1) s4 0 l4 _ hS4 hn) my_L_sum aw_1011 rfl rfl (Nat.le_of_ble_eq_true rfl) (rok rfl rfl (show (18 * i44) + 18 ≤ 162 by omega) (show (3600 * i44) + 3600 ≤ 32400 by omega)) dL_isKept_62 (Nat.mul_succ 18 _).symm (Nat.mul_succ 3600 _).symm (fun r5 Y5 hp5 => ?_)
    obtain ⟨hr5, l5, hS5⟩ := hp5
    rw [hr5]
    refine e_aload_n (pc' := 66) (x := b) rfl C dL_isKept_65 rfl ?_
    refine e_iload (pc' := 68) (x := (nI (made - i44) - 1)) rfl C dL_isKept_66 rfl ?_
    refine e_top (y := (nI (made - i44 - 1))) (pk_sub (b := 1) (by omega)) ?_
    refine e_lald (pc' := 69) rfl C hb (vp_in_nI (by omega) (by decide)) dL_isKept_68 ?_
    refine e_topl (y := (sumS (hisF g.2.1 (c - i44 - 1)))) (by rw [nI_clamp (n := made - i44 - 1) (by omega), ← hzj (c - i44 - 1) (by omega), show made - c + (c - i44 - 1) = made - i44 - 1 by omega]) ?_
    refine e_lcmp (pc' := 70) rfl C dL_isKept_69 ?_
    refine e_top (y := 0) (lgc_self _) ?_
    refine e_if_eqT (tgt := 75) C dL_isKept_70 (by decide) rfl ?_
    -- 75
    refine e_iinc (pc' := 78) (j := 1) (v := (nI (made - (i44 + 1)) - 1)) (D' := [(5, .int (nI (made - (i44 + 1)) - 1)), (4, .int (nI ((c - i44) - 1))), (3, .int (g.1 12)), (2, .int (nI made)), (1, .ref b), (0, .ref (a (2, 0, 0)))]) rfl C dL_isKept_75 rfl (by rw [show nI (made - i44) - 1 = nI (made - i44 - 1) from pk_sub (b := 1) (by omega), Int32.sub_eq_add_neg]; rfl) (by decide) rfl ?_
    refine e_goto (tgt := 44) C dL_isKept_78 (by decide) ?_
    refine e_D (D' := [(5, .int (nI (made - (i44 + 1)) - 1)), (4, .int (nI (c - (i44 + 1)))), (3, .int (g.1 12)), (2, .int (nI made)), (1, .ref b), (0, .ref (a (2, 0, 0)))]) (List.forall_mem_cons.mpr ⟨rfl, List.forall_mem_cons.mpr ⟨rfl, List.forall_mem_cons.mpr ⟨rfl, List.forall_mem_cons.mpr ⟨rfl, List.forall_mem_cons.mpr ⟨rfl, List.forall_mem_cons.mpr ⟨rfl, fun _ h => absurd h List.not_mem_nil⟩⟩⟩⟩⟩⟩) ?_
    exact ih44 _ _ _ _ hS5
  · intro Y3 s3 l3 R3 hS3
    rw [Nat.sub_self] at hS3
    refine e_iload (pc' := 46) (x := (nI (c - c))) rfl C dL_isKept_44 rfl ?_
    refine e_if_leT (tgt := 81) C dL_isKept_46 (by decide) (by rw [Nat.sub_self]; decide) ?_
    refine e_aload_n (pc' := 82) (x := (a (2, 0, 0))) rfl C dL_isKept_81 rfl ?_
    refine e_i (pc' := 85) (k' := (18 * c)) (n' := (3600 * c)) rfl C (As := []) (c_X12_undo _ G a Y3 0 s3 n (unS Y3 0) hS3.1.k0 hS3.1.c8 hS3.1.k1 hS3.1.s8 (sim_un hS3.1).1 (sim_un hS3.1).2) my_X12_undo aw_1092 rfl rfl rfl (Nat.le_of_ble_eq_true rfl) (rok rfl rfl (show (18 * c) + 0 ≤ 162 by omega) (show (3600 * c) + 0 ≤ 32400 by omega)) dL_isKept_82 rfl rfl (fun r82 Y82 hK82 => ?_)
    obtain ⟨hr, hY⟩ := hK82.1 rfl
    rw [hr, hY]
    refine e_sipush (pc' := 88) (v := (-10005)) rfl C dL_isKept_85 (by decide) ?_
    refine e_ic_neF (pc' := 91) (tgt := 124) rfl C dL_isKept_88 (by decide) rfl ?_
    refine e_aload_n (pc' := 92) (x := (a (2, 0, 0))) rfl C dL_isKept_91 rfl ?_
    refine e_i (pc' := 95) (k' := (18 * c)) (n' := (3600 * c)) rfl C (As := []) (c_X12_restore _ G a Y3 n (bkS Y3) (sim_bk hS3.1).1 (sim_bk hS3.1).2) my_X12_restore aw_1100 rfl rfl rfl (Nat.le_of_ble_eq_true rfl) (rok rfl rfl (show 18 * c + 0 ≤ 162 by omega) (show 3600 * c + 0 ≤ 32400 by omega)) dL_isKept_92 rfl rfl (fun r92 Y92 hK92 => ?_)
    obtain ⟨hr2, Y4, s4, l4, hg4, hS4⟩ := ss_rest hS3 (show ¬ (1 : Int32) = 0 by decide) hK92
    refine e_gh hg4 ?_
    rw [hr2]
    refine e_iload_n (pc' := 96) (x := (g.1 12)) rfl C dL_isKept_95 rfl ?_
    refine e_ic_neF (pc' := 99) (tgt := 124) rfl C dL_isKept_96 (by decide) rfl ?_
    refine e_aload_n (pc' := 100) (x := (a (2, 0, 0))) rfl C dL_isKept_99 rfl ?_
    refine e_Sl (pc' := 103) (k' := (18 * c + 18)) (n' := (3600 * c + 3600)) rfl C (As := [.ref (a (2, 0, 0))]) (c_L_sum _ G a Y4 n 0 s4 0 l4 _ hS4 hn) my_L_sum aw_1011 rfl rfl (Nat.le_of_ble_eq_true rfl) (rok rfl rfl (show (18 * c) + 18 ≤ 162 by omega) (show (3600 * c) + 3600 ≤ 32400 by omega)) dL_isKept_100 rfl rfl (fun r5 Y5 hp5 => ?_)
    obtain ⟨hr5, l5, hS5⟩ := hp5
    rw [hr5]
    refine e_aload_n (pc' := 104) (x := b) rfl C dL_isKept_103 rfl ?_
    refine e_iload_n (pc' := 105) (x := (nI made)) rfl C dL_isKept_104 rfl ?_
    refine e_lald (pc' := 106) rfl C hb (vp_in_nI (by omega) (by decide)) dL_isKept_105 ?_
    refine e_topl (y := (sumS g.1)) (by rw [nI_clamp (n := made) (by omega)]; exact hz) ?_
    refine e_lcmp (pc' := 107) rfl C dL_isKept_106 ?_
    refine e_top (y := 0) (lgc_self _) ?_
    refine e_if_neF (pc' := 110) (tgt := 124) rfl C dL_isKept_107 (by decide) rfl ?_
    refine e_aload_n (pc' := 111) (x := (a (2, 0, 0))) rfl C dL_isKept_110 rfl ?_
    refine e_i (pc' := 114) (k' := (18 * c + 18)) (n' := (3600 * c + 3600)) rfl C (As := []) (c_X12_undo _ G a Y5 0 s4 n (unS Y5 0) hS5.1.k0 hS5.1.c8 hS5.1.k1 hS5.1.s8 (sim_un hS5.1).1 (sim_un hS5.1).2) my_X12_undo aw_1092 rfl rfl rfl (Nat.le_of_ble_eq_true rfl) (rok rfl rfl (show (18 * c + 18) + 0 ≤ 162 by omega) (show (3600 * c + 3600) + 0 ≤ 32400 by omega)) dL_isKept_111 rfl rfl (fun r111 Y111 hK111 => ?_)
    obtain ⟨hr3, hY3⟩ := hK111.1 rfl
    rw [hr3, hY3]
    refine e_sipush (pc' := 117) (v := (-10005)) rfl C dL_isKept_114 (by decide) ?_
    refine e_ic_neF (pc' := 120) (tgt := 124) rfl C dL_isKept_117 (by decide) rfl ?_
    refine e_iconst (pc' := 121) (v := 1) rfl C dL_isKept_120 (by decide) ?_
    refine e_goto (tgt := 125) C dL_isKept_121 (by decide) ?_
    refine e_wid (k' := 162) (n' := 32400) (by omega) (by omega) ?_
    subst hQ
    exact e_ireturnE C rfl rfl dL_isKept_125 rfl rfl rfl
