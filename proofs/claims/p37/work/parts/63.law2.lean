/-! THE LAW: isWhole. -/
theorem potF_at {s : Nat → Int32} {p : Nat} (n15 : s 15 = nI (nn (s 15))) (np8 : nn (s 15) ≤ 8) (hp : p < nn (s 15)) : potF s (nI p) 2 = s (187 + p) ∧ potF s (nI p) 3 = s (195 + p) ∧ potF s (nI p) 4 = s (203 + p) ∧ potF s (nI p) 5 = s (211 + p) := by
  have hc : 0 ≤ nI p ∧ nI p ≤ s 15 - 1 := (rng_iff n15 np8).mp ⟨nI_pos' (by omega), nI_lt hp (by omega)⟩
  have e : nn (nI p) = p := nn_nI (by omega)
  unfold potF
  rw [if_pos hc, if_pos hc, if_pos hc, if_pos hc, e]
  refine ⟨?_, ?_, ?_, ?_⟩
  · rw [if_neg (by decide), if_neg (by decide), if_pos rfl]
  · rw [if_neg (by decide), if_neg (by decide), if_neg (by decide), if_pos rfl]
  · rw [if_neg (by decide), if_neg (by decide), if_neg (by decide), if_neg (by decide), if_pos rfl]
  · rw [if_neg (by decide), if_neg (by decide), if_neg (by decide), if_neg (by decide), if_neg (by decide), if_pos rfl]
theorem firedA_at {s : Nat → Int32} {p : Nat} (n15 : s 15 = nI (nn (s 15))) (np8 : nn (s 15) ≤ 8) (hp : p < nn (s 15)) : firedA s (nI p) = firedF s p := by
  have hc : 0 ≤ nI p ∧ nI p ≤ s 15 - 1 := (rng_iff n15 np8).mp ⟨nI_pos' (by omega), nI_lt hp (by omega)⟩
  unfold firedA
  rw [if_pos hc, nn_nI (by omega)]
theorem mw_at {s : Nat → Int32} {i : Nat} (hi : i < 101) : mwF s (nI i) = s (22 + i) := by
  unfold mwF
  rw [if_pos ⟨nI_pos' (by omega), nI_le (b := 100) (by omega) (by omega)⟩, nn_nI (by omega)]
theorem crack_0 (s : Nat → Int32) : ∀ m, crackN s s m = 0
  | 0 => rfl
  | m + 1 => by
    rw [crackN, crack_0 s m]
    by_cases c : s (195 + m) = 3
    · rw [if_pos c, if_pos c]; decide
    · rw [if_neg c]; decide
theorem many_step {s z : Nat → Int32} {p k : Nat} (hz : ∀ h, h < 4 → z h = manyN s (nI h) p) (hk : k < 4) (hs : s (195 + p) = nI k) : ∀ h, h < 4 → upd z (nI k).toNatClampNeg (z k + 1) h = manyN s (nI h) (p + 1) := by
  intro h hh
  rw [show (nI k).toNatClampNeg = k from nn_nI (by omega), manyN, hs]
  by_cases c : h = k
  · subst c
    rw [upd_s, if_pos rfl, hz h hh]
  · rw [upd_n c, if_neg (fun q => c ((nI_eq (by omega) (by omega)).mp q).symm), hz h hh, Int32.add_zero]
theorem baN_s {s : Nat → Int32} {i : Nat} : baN s i + nI i * s (22 + i) = baN s (i + 1) := rfl
theorem bsN_s {s : Nat → Int32} {i : Nat} : bsN s i + s (22 + i) = bsN s (i + 1) := rfl
theorem wiN_s {s : Nat → Int32} {i : Nat} : wiN s i + s (211 + i) = wiN s (i + 1) := rfl
theorem log_no {s : Nat → Int32} (h : s 14 = 0) : loggedF s 0 0 = -10001 := by
  unfold loggedF
  rw [h, if_neg (by decide)]
theorem log_at {s : Nat → Int32} {m : Nat} (h : s 14 = nI m) (h0 : 0 < m) (hm : m ≤ 12) : loggedF s 0 0 = s 123 ∧ loggedF s 0 1 = s 124 ∧ loggedF s 0 2 = s 125 ∧ loggedF s 0 3 = s 126 := by
  have hc : (0 : Int32) ≤ 0 ∧ (0 : Int32) ≤ s 14 - 1 := ⟨Int32.le_refl 0, by rw [h, show nI m - 1 = nI (m - 1) from pk_sub (b := 1) h0]; exact nI_pos' (by omega)⟩
  unfold loggedF
  rw [if_pos hc, if_pos hc, if_pos hc, if_pos hc, if_pos (by decide), if_pos (by decide), if_pos (by decide), if_pos (by decide)]
  exact ⟨rfl, rfl, rfl, rfl⟩
theorem mb_cmp (b m : Int32) : Op.cmpValue (FP.dcmp (mbF b m) (mbF b m)) .l = 0 := by rw [mb_self]; rfl
theorem fs_cmp (b m : Int32) : Op.cmpValue (FP.fcmp (fsF b m) (fsF b m)) .l = 0 := by rw [fs_self]; rfl
theorem mb_0 {b m : Int32} (h : m = 0) : mbF b m = FP.dconst0 := if_pos h
theorem mb_n {b m : Int32} (h : ¬ m = 0) : mbF b m = FP.ddiv (FP.i2d b) (FP.i2d m) := if_neg h
theorem fs_0 {b m : Int32} (h : m = 0) : fsF b m = FP.fconst0 := if_pos h
theorem fs_n {b m : Int32} (h : ¬ m = 0) : fsF b m = FP.fdiv (FP.i2f b) (FP.i2f m) := if_neg h
section TOPS
variable {X : XT} {G : GT} {A : Nat → Prop} {a : Id3 → Nat} {Y : YT} {E : Mem} {k n : Nat} {Q : State → Prop} {pc : Nat} {D : List (Nat × Value)} {st : List Value}
theorem e_topd {x y : UInt64} (h : x = y) (kk : WE X G A a Y E k n Q pc D (.double y :: st)) : WE X G A a Y E k n Q pc D (.double x :: st) := by subst h; exact kk
theorem e_topf {x y : UInt32} (h : x = y) (kk : WE X G A a Y E k n Q pc D (.float y :: st)) : WE X G A a Y E k n Q pc D (.float x :: st) := by subst h; exact kk
end TOPS
set_option maxHeartbeats 2000000 in
set_option maxRecDepth 20000 in
theorem c_L_isWhole (l : Launch) (G : GT) (a : Id3 → Nat) (Y : YT) (n c st tl ll : Nat) (g : GH) (hS : SS Y n c st tl ll g) (hn : n ≤ 90000) (h2 : I2 g.1) : CtY l G a yL_isWhole cL_isWhole 13 (some .boolean) ({ frames := 6, cells := 1, slots := 4, locals := 136 } : Room) [.ref (a (2, 0, 0))] Y (PI (fun r Y' => r = 1 ∧ ∃ ll', SS Y' n c st tl ll' g)) := by
  refine CtY.ofE (by decide) (Nat.le_of_ble_eq_true rfl) ?_
  intro X A C hl
  subst hl
  generalize hQ : MEnd X G A ({ frames := 6, cells := 1, slots := 4, locals := 136 } : Room) (PY G a (PI (fun r Y' => r = 1 ∧ ∃ ll', SS Y' n c st tl ll' g))) = Q
  obtain ⟨n15, np8⟩ := hS.I.mb.np
  obtain ⟨Rk, hRk, hle, hno⟩ := rank_facts (s := g.1) np8
  obtain ⟨⟨lg_, np_, dm, fu_, -, -, -, -, e9, d9, e10, f10, -⟩, ⟨dd, aa, mi, e0, d20, d13, -, -, -, e12, m12b, e14⟩, -, -, -, wn, ewn, wn4⟩ := id hS.I
  obtain ⟨hw0, hw1⟩ := clamp_01 ((10 * g.1 2 * mErr g.1 + g.1 3 * mSum g.1 + 10 * g.1 4 * (mErr g.1 - g.1 7)) / 100)
  refine e_iconst (pc' := 1) (v := 0) rfl C dL_isWhole_0 (by decide) ?_
  refine e_istore_n (pc' := 2) (D' := [(1, .int 0), (0, .ref (a (2, 0, 0)))]) rfl C dL_isWhole_1 (by decide) rfl ?_
  refine e_iconst (pc' := 3) (v := 0) rfl C dL_isWhole_2 (by decide) ?_
  refine e_istore_n (pc' := 4) (D' := [(2, .int 0), (1, .int 0), (0, .ref (a (2, 0, 0)))]) rfl C dL_isWhole_3 (by decide) rfl ?_
  refine e_iconst (pc' := 5) (v := 0) rfl C dL_isWhole_4 (by decide) ?_
  refine e_istore_n (pc' := 6) (D' := [(3, .int 0), (2, .int 0), (1, .int 0), (0, .ref (a (2, 0, 0)))]) rfl C dL_isWhole_5 (by decide) rfl ?_
  refine e_D (D' := [(3, .int (nI 0)), (2, .int (baN g.1 0)), (1, .int (bsN g.1 0)), (0, .ref (a (2, 0, 0)))]) (List.forall_mem_cons.mpr ⟨rfl, List.forall_mem_cons.mpr ⟨rfl, List.forall_mem_cons.mpr ⟨rfl, List.forall_mem_cons.mpr ⟨rfl, fun _ h => absurd h List.not_mem_nil⟩⟩⟩⟩) ?_
  refine nat_loop (P := fun i6 => WE X G A a Y nilE 0 0 Q 6 [(3, .int (nI i6)), (2, .int (baN g.1 i6)), (1, .int (bsN g.1 i6)), (0, .ref (a (2, 0, 0)))] []) (B := 101) (fun i6 hi6 ih6 => ?_) ?_ 0 (by omega)
  · refine e_iload_n (pc' := 7) (x := (nI i6)) rfl C dL_isWhole_6 rfl ?_
    refine e_bipush (pc' := 9) (v := 100) rfl C dL_isWhole_7 (by decide) ?_
    refine e_ic_gtF (pc' := 12) (tgt := 36) rfl C dL_isWhole_9 (by decide) (show ¬ nI 100 < nI i6 from nI_nlt (by omega) (by decide)) ?_
    refine e_iload_n (pc' := 13) (x := (bsN g.1 i6)) rfl C dL_isWhole_12 rfl ?_
    refine e_aload_n (pc' := 14) (x := (a (2, 0, 0))) rfl C dL_isWhole_13 rfl ?_
    refine e_iload_n (pc' := 15) (x := (nI i6)) rfl C dL_isWhole_14 rfl ?_
    refine e_q (pc' := 18) (k' := 0) (n' := 0) rfl C (q_minutesWith _ G a hS hn (nI i6) (R := (g.1 (22 + i6))) (mw_at hi6)) my_X12_minutesWith aw_1031 rfl rfl rfl (Nat.le_of_ble_eq_true rfl) rfl dL_isWhole_15 rfl rfl ?_
    refine e_iadd (pc' := 19) rfl C dL_isWhole_18 ?_
    refine e_top (y := (bsN g.1 (i6 + 1))) bsN_s ?_
    refine e_istore_n (pc' := 20) (D' := [(1, .int (bsN g.1 (i6 + 1))), (3, .int (nI i6)), (2, .int (baN g.1 i6)), (0, .ref (a (2, 0, 0)))]) rfl C dL_isWhole_19 (by decide) rfl ?_
    refine e_iload_n (pc' := 21) (x := (baN g.1 i6)) rfl C dL_isWhole_20 rfl ?_
    refine e_iload_n (pc' := 22) (x := (nI i6)) rfl C dL_isWhole_21 rfl ?_
    refine e_aload_n (pc' := 23) (x := (a (2, 0, 0))) rfl C dL_isWhole_22 rfl ?_
    refine e_iload_n (pc' := 24) (x := (nI i6)) rfl C dL_isWhole_23 rfl ?_
    refine e_q (pc' := 27) (k' := 0) (n' := 0) rfl C (q_minutesWith _ G a hS hn (nI i6) (R := (g.1 (22 + i6))) (mw_at hi6)) my_X12_minutesWith aw_1031 rfl rfl rfl (Nat.le_of_ble_eq_true rfl) rfl dL_isWhole_24 rfl rfl ?_
    refine e_imul (pc' := 28) rfl C dL_isWhole_27 ?_
    refine e_iadd (pc' := 29) rfl C dL_isWhole_28 ?_
    refine e_top (y := (baN g.1 (i6 + 1))) baN_s ?_
    refine e_istore_n (pc' := 30) (D' := [(2, .int (baN g.1 (i6 + 1))), (1, .int (bsN g.1 (i6 + 1))), (3, .int (nI i6)), (0, .ref (a (2, 0, 0)))]) rfl C dL_isWhole_29 (by decide) rfl ?_
    refine e_iinc (pc' := 33) (j := 2) (v := (nI (i6 + 1))) (D' := [(3, .int (nI (i6 + 1))), (2, .int (baN g.1 (i6 + 1))), (1, .int (bsN g.1 (i6 + 1))), (0, .ref (a (2, 0, 0)))]) rfl C dL_isWhole_30 rfl (nI_1 _) (by decide) rfl ?_
    refine e_goto (tgt := 6) C dL_isWhole_33 (by decide) ?_
    refine e_D (D' := [(3, .int (nI (i6 + 1))), (2, .int (baN g.1 (i6 + 1))), (1, .int (bsN g.1 (i6 + 1))), (0, .ref (a (2, 0, 0)))]) (List.forall_mem_cons.mpr ⟨rfl, List.forall_mem_cons.mpr ⟨rfl, List.forall_mem_cons.mpr ⟨rfl, List.forall_mem_cons.mpr ⟨rfl, fun _ h => absurd h List.not_mem_nil⟩⟩⟩⟩) ?_
    exact ih6
  · refine e_iload_n (pc' := 7) (x := (nI 101)) rfl C dL_isWhole_6 rfl ?_
    refine e_bipush (pc' := 9) (v := 100) rfl C dL_isWhole_7 (by decide) ?_
    refine e_ic_gtT (tgt := 36) C dL_isWhole_9 (by decide) (show nI 100 < nI 101 from nI_lt (by decide) (by decide)) ?_
    refine e_D (D' := [(2, .int (g.1 16)), (1, .int (g.1 12)), (0, .ref (a (2, 0, 0)))]) (List.forall_mem_cons.mpr ⟨((show lk [(3, .int (nI 101)), (2, .int (baN g.1 101)), (1, .int (bsN g.1 101)), (0, .ref (a (2, 0, 0)))] 2 = some (.int (baN g.1 101)) from rfl).trans (congrArg (fun z => some (Value.int z)) h2.1.2.1.symm)), List.forall_mem_cons.mpr ⟨((show lk [(3, .int (nI 101)), (2, .int (baN g.1 101)), (1, .int (bsN g.1 101)), (0, .ref (a (2, 0, 0)))] 1 = some (.int (bsN g.1 101)) from rfl).trans (congrArg (fun z => some (Value.int z)) h2.1.2.2)), List.forall_mem_cons.mpr ⟨rfl, fun _ h => absurd h List.not_mem_nil⟩⟩⟩) ?_
    refine e_iconst (pc' := 37) (v := 4) rfl C dL_isWhole_36 (by decide) ?_
    refine e_newI (pc' := 39) rfl C aw_95 (N := 4) (by decide) rfl rfl rfl rfl dL_isWhole_37 (fun b hb0 => ?_)
    refine e_astore_n (pc' := 40) (D' := [(3, .ref b), (2, .int (g.1 16)), (1, .int (g.1 12)), (0, .ref (a (2, 0, 0)))]) rfl C dL_isWhole_39 (by decide) rfl ?_
    refine e_iconst (pc' := 41) (v := 0) rfl C dL_isWhole_40 (by decide) ?_
    refine e_istore (pc' := 43) (D' := [(4, .int 0), (3, .ref b), (2, .int (g.1 16)), (1, .int (g.1 12)), (0, .ref (a (2, 0, 0)))]) rfl C dL_isWhole_41 (by decide) rfl ?_
    refine e_iconst (pc' := 44) (v := 0) rfl C dL_isWhole_43 (by decide) ?_
    refine e_istore (pc' := 46) (D' := [(5, .int 0), (4, .int 0), (3, .ref b), (2, .int (g.1 16)), (1, .int (g.1 12)), (0, .ref (a (2, 0, 0)))]) rfl C dL_isWhole_44 (by decide) rfl ?_
    refine e_D (D' := [(5, .int (nI 0)), (4, .int (wiN g.1 0)), (3, .ref b), (2, .int (g.1 16)), (1, .int (g.1 12)), (0, .ref (a (2, 0, 0)))]) (List.forall_mem_cons.mpr ⟨rfl, List.forall_mem_cons.mpr ⟨rfl, List.forall_mem_cons.mpr ⟨rfl, List.forall_mem_cons.mpr ⟨rfl, List.forall_mem_cons.mpr ⟨rfl, List.forall_mem_cons.mpr ⟨rfl, fun _ h => absurd h List.not_mem_nil⟩⟩⟩⟩⟩⟩) ?_
    have hz0 : ∀ h, h < 4 → (fun _ : Nat => (0 : Int32)) h = manyN g.1 (nI h) 0 := fun _ _ => rfl
    refine nat_loop (P := fun i46 => ∀ (Y46 : YT) (z46 : Nat → Int32), SS Y46 n c st tl ll g → (∀ h, h < 4 → z46 h = manyN g.1 (nI h) i46) → WE X G A a Y46 (mup nilE b (.inl (gc G 0, 4, .inl z46))) 1 4 Q 46 [(5, .int (nI i46)), (4, .int (wiN g.1 i46)), (3, .ref b), (2, .int (g.1 16)), (1, .int (g.1 12)), (0, .ref (a (2, 0, 0)))] []) (B := (nn (g.1 15))) (fun i46 hi46 ih46 => ?_) ?_ 0 (Nat.zero_le _) _ _ hS hz0
    · intro Y46 z46 hS46 hz46
      refine e_iload (pc' := 48) (x := (nI i46)) rfl C dL_isWhole_46 rfl ?_
      refine e_aload_n (pc' := 49) (x := (a (2, 0, 0))) rfl C dL_isWhole_48 rfl ?_
      refine e_bipush (pc' := 51) (v := 10) rfl C dL_isWhole_49 (by decide) ?_
      refine e_q (pc' := 54) (k' := 1) (n' := 4) rfl C (q_account _ G a hS46 10 (R := g.1 15) acc_10) my_X12_account aw_335 rfl rfl rfl (Nat.le_of_ble_eq_true rfl) rfl dL_isWhole_51 rfl rfl ?_
      refine e_top (y := (nI (nn (g.1 15)))) n15 ?_
      refine e_ic_geF (pc' := 57) (tgt := 361) rfl C dL_isWhole_54 (by decide) (nnle hi46 (by omega)) ?_
      obtain ⟨sh, ne, ti, ho, so, iw, -, -, -, -, e2, t2, e3, o3, e4, s4, s5, e6, i1, i0, i11⟩ := hS.I.2.2.2.1 i46 hi46
      obtain ⟨p2, p3, p4, p5⟩ := potF_at n15 np8 hi46
      have hd := h2.po i46 hi46
      unfold PotD at hd
      have hfa := firedA_at n15 np8 hi46
      have q2 : potF g.1 (nI i46) 2 = nI ti := p2.trans e2
      have q3 : potF g.1 (nI i46) 3 = nI ho := p3.trans e3
      have q4 : potF g.1 (nI i46) 4 = nI so := p4.trans e4
      have eb : (mup nilE b (.inl (gc G 0, 4, .inl z46))) b = some (.inl (gc G 0, 4, .inl z46)) := mup_s
      have t4 : ∀ v, v ≤ 99 → (nI v = nI ti ↔ v = ti) := fun v hv => nI_eq (by omega) (by omega)
      refine e_aload_n (pc' := 58) (x := (a (2, 0, 0))) rfl C dL_isWhole_57 rfl ?_
      refine e_iload (pc' := 60) (x := (nI i46)) rfl C dL_isWhole_58 rfl ?_
      refine e_iconst (pc' := 61) (v := 3) rfl C dL_isWhole_60 (by decide) ?_
      refine e_q (pc' := 64) (k' := 1) (n' := 4) rfl C (q_potOf _ G a hS46 hn (nI i46) 3 (R := (nI ho)) q3) my_X12_potOf aw_1002 rfl rfl rfl (Nat.le_of_ble_eq_true rfl) rfl dL_isWhole_61 rfl rfl ?_
      refine e_istore (pc' := 66) (D' := [(6, .int (nI ho)), (5, .int (nI i46)), (4, .int (wiN g.1 i46)), (3, .ref b), (2, .int (g.1 16)), (1, .int (g.1 12)), (0, .ref (a (2, 0, 0)))]) rfl C dL_isWhole_64 (by decide) rfl ?_
      refine e_aload_n (pc' := 67) (x := b) rfl C dL_isWhole_66 rfl ?_
      refine e_iload (pc' := 69) (x := (nI ho)) rfl C dL_isWhole_67 rfl ?_
      refine e_dup2 (pc' := 70) rfl C dL_isWhole_69 rfl rfl ?_
      refine e_iald (pc' := 71) rfl C eb (vp_in_nI (show ho < 4 by omega) (by decide)) dL_isWhole_70 ?_
      refine e_top (y := (z46 ho)) (congrArg z46 (nn_nI (by omega))) ?_
      refine e_iconst (pc' := 72) (v := 1) rfl C dL_isWhole_71 (by decide) ?_
      refine e_iadd (pc' := 73) rfl C dL_isWhole_72 ?_
      refine e_iast (pc' := 74) rfl C eb (vp_in_nI (show ho < 4 by omega) (by decide)) dL_isWhole_73 ?_
      rw [mup_mup]
      refine e_iload (pc' := 76) (x := (wiN g.1 i46)) rfl C dL_isWhole_74 rfl ?_
      refine e_aload_n (pc' := 77) (x := (a (2, 0, 0))) rfl C dL_isWhole_76 rfl ?_
      refine e_iload (pc' := 79) (x := (nI i46)) rfl C dL_isWhole_77 rfl ?_
      refine e_iconst (pc' := 80) (v := 5) rfl C dL_isWhole_79 (by decide) ?_
      refine e_q (pc' := 83) (k' := 1) (n' := 4) rfl C (q_potOf _ G a hS46 hn (nI i46) 5 (R := (g.1 (211 + i46))) p5) my_X12_potOf aw_1002 rfl rfl rfl (Nat.le_of_ble_eq_true rfl) rfl dL_isWhole_80 rfl rfl ?_
      refine e_iadd (pc' := 84) rfl C dL_isWhole_83 ?_
      refine e_top (y := (wiN g.1 (i46 + 1))) wiN_s ?_
      refine e_istore (pc' := 86) (D' := [(4, .int (wiN g.1 (i46 + 1))), (6, .int (nI ho)), (5, .int (nI i46)), (3, .ref b), (2, .int (g.1 16)), (1, .int (g.1 12)), (0, .ref (a (2, 0, 0)))]) rfl C dL_isWhole_84 (by decide) rfl ?_
      suffices K176 : WE X G A a Y46 (mup nilE b (.inl (gc G 0, 4, .inl (upd z46 (nI ho).toNatClampNeg (z46 ho + 1))))) 1 4 Q 176 [(4, .int (wiN g.1 (i46 + 1))), (6, .int (nI ho)), (5, .int (nI i46)), (3, .ref b), (2, .int (g.1 16)), (1, .int (g.1 12)), (0, .ref (a (2, 0, 0)))] [.int 1] by
        refine e_aload_n (pc' := 87) (x := (a (2, 0, 0))) rfl C dL_isWhole_86 rfl ?_
        refine e_iload (pc' := 89) (x := (nI i46)) rfl C dL_isWhole_87 rfl ?_
        refine e_iconst (pc' := 90) (v := 4) rfl C dL_isWhole_89 (by decide) ?_
        refine e_q (pc' := 93) (k' := 1) (n' := 4) rfl C (q_potOf _ G a hS46 hn (nI i46) 4 (R := (nI so)) q4) my_X12_potOf aw_1002 rfl rfl rfl (Nat.le_of_ble_eq_true rfl) rfl dL_isWhole_90 rfl rfl ?_
        refine e_aload_n (pc' := 94) (x := (a (2, 0, 0))) rfl C dL_isWhole_93 rfl ?_
        refine e_iload (pc' := 96) (x := (nI i46)) rfl C dL_isWhole_94 rfl ?_
        refine e_iconst (pc' := 97) (v := 2) rfl C dL_isWhole_96 (by decide) ?_
        refine e_q (pc' := 100) (k' := 1) (n' := 4) rfl C (q_potOf _ G a hS46 hn (nI i46) 2 (R := (nI ti)) q2) my_X12_potOf aw_1002 rfl rfl rfl (Nat.le_of_ble_eq_true rfl) rfl dL_isWhole_97 rfl rfl ?_
        refine e_ic_gtF (pc' := 103) (tgt := 175) rfl C dL_isWhole_100 (by decide) (nI_nlt s4 (by omega)) ?_
        have h4 : ho = 0 ∨ ho = 1 ∨ ho = 2 ∨ ho = 3 := by omega
        rcases h4 with rfl | rfl | rfl | rfl
        · have hst : ¬ so = ti := fun z => absurd (e3.symm.trans (hd.mpr (by rw [e4, e2, z]))) (by decide)
          refine e_aload_n (pc' := 104) (x := (a (2, 0, 0))) rfl C dL_isWhole_103 rfl ?_
          refine e_iload (pc' := 106) (x := (nI i46)) rfl C dL_isWhole_104 rfl ?_
          refine e_iconst (pc' := 107) (v := 4) rfl C dL_isWhole_106 (by decide) ?_
          refine e_q (pc' := 110) (k' := 1) (n' := 4) rfl C (q_potOf _ G a hS46 hn (nI i46) 4 (R := (nI so)) q4) my_X12_potOf aw_1002 rfl rfl rfl (Nat.le_of_ble_eq_true rfl) rfl dL_isWhole_107 rfl rfl ?_
          refine e_aload_n (pc' := 111) (x := (a (2, 0, 0))) rfl C dL_isWhole_110 rfl ?_
          refine e_iload (pc' := 113) (x := (nI i46)) rfl C dL_isWhole_111 rfl ?_
          refine e_iconst (pc' := 114) (v := 2) rfl C dL_isWhole_113 (by decide) ?_
          refine e_q (pc' := 117) (k' := 1) (n' := 4) rfl C (q_potOf _ G a hS46 hn (nI i46) 2 (R := (nI ti)) q2) my_X12_potOf aw_1002 rfl rfl rfl (Nat.le_of_ble_eq_true rfl) rfl dL_isWhole_114 rfl rfl ?_
          refine e_ic_neT (tgt := 124) C dL_isWhole_117 (by decide) (fun z => hst ((t4 so (by omega)).mp z)) ?_
          refine e_iconst (pc' := 125) (v := 0) rfl C dL_isWhole_124 (by decide) ?_
          refine e_iload (pc' := 127) (x := (nI 0)) rfl C dL_isWhole_125 rfl ?_
          refine e_iconst (pc' := 128) (v := 2) rfl C dL_isWhole_127 (by decide) ?_
          refine e_ic_neT (tgt := 135) C dL_isWhole_128 (by decide) (by decide) ?_
          refine e_iconst (pc' := 136) (v := 0) rfl C dL_isWhole_135 (by decide) ?_
          refine e_ic_neF (pc' := 139) (tgt := 175) rfl C dL_isWhole_136 (by decide) rfl ?_
          refine e_iload (pc' := 141) (x := (nI 0)) rfl C dL_isWhole_139 rfl ?_
          refine e_iconst (pc' := 142) (v := 1) rfl C dL_isWhole_141 (by decide) ?_
          refine e_ic_neT (tgt := 156) C dL_isWhole_142 (by decide) (by decide) ?_
          refine e_iload (pc' := 158) (x := (nI 0)) rfl C dL_isWhole_156 rfl ?_
          refine e_if_neF (pc' := 161) (tgt := 171) rfl C dL_isWhole_158 (by decide) rfl ?_
          refine e_aload_n (pc' := 162) (x := (a (2, 0, 0))) rfl C dL_isWhole_161 rfl ?_
          refine e_iload (pc' := 164) (x := (nI i46)) rfl C dL_isWhole_162 rfl ?_
          refine e_iconst (pc' := 165) (v := 5) rfl C dL_isWhole_164 (by decide) ?_
          refine e_q (pc' := 168) (k' := 1) (n' := 4) rfl C (q_potOf _ G a hS46 hn (nI i46) 5 (R := (g.1 (211 + i46))) p5) my_X12_potOf aw_1002 rfl rfl rfl (Nat.le_of_ble_eq_true rfl) rfl dL_isWhole_165 rfl rfl ?_
          refine e_if_neF (pc' := 171) (tgt := 175) rfl C dL_isWhole_168 (by decide) (e6.trans (congrArg nI (i0 rfl))) ?_
          refine e_iconst (pc' := 172) (v := 1) rfl C dL_isWhole_171 (by decide) ?_
          refine e_goto (tgt := 176) C dL_isWhole_172 (by decide) ?_
          exact K176
        · have hst : ¬ so = ti := fun z => absurd (e3.symm.trans (hd.mpr (by rw [e4, e2, z]))) (by decide)
          refine e_aload_n (pc' := 104) (x := (a (2, 0, 0))) rfl C dL_isWhole_103 rfl ?_
          refine e_iload (pc' := 106) (x := (nI i46)) rfl C dL_isWhole_104 rfl ?_
          refine e_iconst (pc' := 107) (v := 4) rfl C dL_isWhole_106 (by decide) ?_
          refine e_q (pc' := 110) (k' := 1) (n' := 4) rfl C (q_potOf _ G a hS46 hn (nI i46) 4 (R := (nI so)) q4) my_X12_potOf aw_1002 rfl rfl rfl (Nat.le_of_ble_eq_true rfl) rfl dL_isWhole_107 rfl rfl ?_
          refine e_aload_n (pc' := 111) (x := (a (2, 0, 0))) rfl C dL_isWhole_110 rfl ?_
          refine e_iload (pc' := 113) (x := (nI i46)) rfl C dL_isWhole_111 rfl ?_
          refine e_iconst (pc' := 114) (v := 2) rfl C dL_isWhole_113 (by decide) ?_
          refine e_q (pc' := 117) (k' := 1) (n' := 4) rfl C (q_potOf _ G a hS46 hn (nI i46) 2 (R := (nI ti)) q2) my_X12_potOf aw_1002 rfl rfl rfl (Nat.le_of_ble_eq_true rfl) rfl dL_isWhole_114 rfl rfl ?_
          refine e_ic_neT (tgt := 124) C dL_isWhole_117 (by decide) (fun z => hst ((t4 so (by omega)).mp z)) ?_
          refine e_iconst (pc' := 125) (v := 0) rfl C dL_isWhole_124 (by decide) ?_
          refine e_iload (pc' := 127) (x := (nI 1)) rfl C dL_isWhole_125 rfl ?_
          refine e_iconst (pc' := 128) (v := 2) rfl C dL_isWhole_127 (by decide) ?_
          refine e_ic_neT (tgt := 135) C dL_isWhole_128 (by decide) (by decide) ?_
          refine e_iconst (pc' := 136) (v := 0) rfl C dL_isWhole_135 (by decide) ?_
          refine e_ic_neF (pc' := 139) (tgt := 175) rfl C dL_isWhole_136 (by decide) rfl ?_
          refine e_iload (pc' := 141) (x := (nI 1)) rfl C dL_isWhole_139 rfl ?_
          refine e_iconst (pc' := 142) (v := 1) rfl C dL_isWhole_141 (by decide) ?_
          refine e_ic_neF (pc' := 145) (tgt := 156) rfl C dL_isWhole_142 (by decide) rfl ?_
          refine e_aload_n (pc' := 146) (x := (a (2, 0, 0))) rfl C dL_isWhole_145 rfl ?_
          refine e_iload (pc' := 148) (x := (nI i46)) rfl C dL_isWhole_146 rfl ?_
          refine e_iconst (pc' := 149) (v := 5) rfl C dL_isWhole_148 (by decide) ?_
          refine e_q (pc' := 152) (k' := 1) (n' := 4) rfl C (q_potOf _ G a hS46 hn (nI i46) 5 (R := (g.1 (211 + i46))) p5) my_X12_potOf aw_1002 rfl rfl rfl (Nat.le_of_ble_eq_true rfl) rfl dL_isWhole_149 rfl rfl ?_
          refine e_iconst (pc' := 153) (v := 1) rfl C dL_isWhole_152 (by decide) ?_
          refine e_ic_neF (pc' := 156) (tgt := 175) rfl C dL_isWhole_153 (by decide) (e6.trans (congrArg nI (i11 rfl))) ?_
          refine e_iload (pc' := 158) (x := (nI 1)) rfl C dL_isWhole_156 rfl ?_
          refine e_if_neT (tgt := 171) C dL_isWhole_158 (by decide) (by decide) ?_
          refine e_iconst (pc' := 172) (v := 1) rfl C dL_isWhole_171 (by decide) ?_
          refine e_goto (tgt := 176) C dL_isWhole_172 (by decide) ?_
          exact K176
        · have hst : so = ti := (t4 so (by omega)).mp (by rw [← e4, ← e2]; exact hd.mp (e3.trans rfl))
          refine e_aload_n (pc' := 104) (x := (a (2, 0, 0))) rfl C dL_isWhole_103 rfl ?_
          refine e_iload (pc' := 106) (x := (nI i46)) rfl C dL_isWhole_104 rfl ?_
          refine e_iconst (pc' := 107) (v := 4) rfl C dL_isWhole_106 (by decide) ?_
          refine e_q (pc' := 110) (k' := 1) (n' := 4) rfl C (q_potOf _ G a hS46 hn (nI i46) 4 (R := (nI so)) q4) my_X12_potOf aw_1002 rfl rfl rfl (Nat.le_of_ble_eq_true rfl) rfl dL_isWhole_107 rfl rfl ?_
          refine e_aload_n (pc' := 111) (x := (a (2, 0, 0))) rfl C dL_isWhole_110 rfl ?_
          refine e_iload (pc' := 113) (x := (nI i46)) rfl C dL_isWhole_111 rfl ?_
          refine e_iconst (pc' := 114) (v := 2) rfl C dL_isWhole_113 (by decide) ?_
          refine e_q (pc' := 117) (k' := 1) (n' := 4) rfl C (q_potOf _ G a hS46 hn (nI i46) 2 (R := (nI ti)) q2) my_X12_potOf aw_1002 rfl rfl rfl (Nat.le_of_ble_eq_true rfl) rfl dL_isWhole_114 rfl rfl ?_
          refine e_ic_neF (pc' := 120) (tgt := 124) rfl C dL_isWhole_117 (by decide) ((t4 so (by omega)).mpr hst) ?_
          refine e_iconst (pc' := 121) (v := 1) rfl C dL_isWhole_120 (by decide) ?_
          refine e_goto (tgt := 125) C dL_isWhole_121 (by decide) ?_
          refine e_iload (pc' := 127) (x := (nI 2)) rfl C dL_isWhole_125 rfl ?_
          refine e_iconst (pc' := 128) (v := 2) rfl C dL_isWhole_127 (by decide) ?_
          refine e_ic_neF (pc' := 131) (tgt := 135) rfl C dL_isWhole_128 (by decide) rfl ?_
          refine e_iconst (pc' := 132) (v := 1) rfl C dL_isWhole_131 (by decide) ?_
          refine e_goto (tgt := 136) C dL_isWhole_132 (by decide) ?_
          refine e_ic_neF (pc' := 139) (tgt := 175) rfl C dL_isWhole_136 (by decide) rfl ?_
          refine e_iload (pc' := 141) (x := (nI 2)) rfl C dL_isWhole_139 rfl ?_
          refine e_iconst (pc' := 142) (v := 1) rfl C dL_isWhole_141 (by decide) ?_
          refine e_ic_neT (tgt := 156) C dL_isWhole_142 (by decide) (by decide) ?_
          refine e_iload (pc' := 158) (x := (nI 2)) rfl C dL_isWhole_156 rfl ?_
          refine e_if_neT (tgt := 171) C dL_isWhole_158 (by decide) (by decide) ?_
          refine e_iconst (pc' := 172) (v := 1) rfl C dL_isWhole_171 (by decide) ?_
          refine e_goto (tgt := 176) C dL_isWhole_172 (by decide) ?_
          exact K176
        · have hst : ¬ so = ti := fun z => absurd (e3.symm.trans (hd.mpr (by rw [e4, e2, z]))) (by decide)
          refine e_aload_n (pc' := 104) (x := (a (2, 0, 0))) rfl C dL_isWhole_103 rfl ?_
          refine e_iload (pc' := 106) (x := (nI i46)) rfl C dL_isWhole_104 rfl ?_
          refine e_iconst (pc' := 107) (v := 4) rfl C dL_isWhole_106 (by decide) ?_
          refine e_q (pc' := 110) (k' := 1) (n' := 4) rfl C (q_potOf _ G a hS46 hn (nI i46) 4 (R := (nI so)) q4) my_X12_potOf aw_1002 rfl rfl rfl (Nat.le_of_ble_eq_true rfl) rfl dL_isWhole_107 rfl rfl ?_
          refine e_aload_n (pc' := 111) (x := (a (2, 0, 0))) rfl C dL_isWhole_110 rfl ?_
          refine e_iload (pc' := 113) (x := (nI i46)) rfl C dL_isWhole_111 rfl ?_
          refine e_iconst (pc' := 114) (v := 2) rfl C dL_isWhole_113 (by decide) ?_
          refine e_q (pc' := 117) (k' := 1) (n' := 4) rfl C (q_potOf _ G a hS46 hn (nI i46) 2 (R := (nI ti)) q2) my_X12_potOf aw_1002 rfl rfl rfl (Nat.le_of_ble_eq_true rfl) rfl dL_isWhole_114 rfl rfl ?_
          refine e_ic_neT (tgt := 124) C dL_isWhole_117 (by decide) (fun z => hst ((t4 so (by omega)).mp z)) ?_
          refine e_iconst (pc' := 125) (v := 0) rfl C dL_isWhole_124 (by decide) ?_
          refine e_iload (pc' := 127) (x := (nI 3)) rfl C dL_isWhole_125 rfl ?_
          refine e_iconst (pc' := 128) (v := 2) rfl C dL_isWhole_127 (by decide) ?_
          refine e_ic_neT (tgt := 135) C dL_isWhole_128 (by decide) (by decide) ?_
          refine e_iconst (pc' := 136) (v := 0) rfl C dL_isWhole_135 (by decide) ?_
          refine e_ic_neF (pc' := 139) (tgt := 175) rfl C dL_isWhole_136 (by decide) rfl ?_
          refine e_iload (pc' := 141) (x := (nI 3)) rfl C dL_isWhole_139 rfl ?_
          refine e_iconst (pc' := 142) (v := 1) rfl C dL_isWhole_141 (by decide) ?_
          refine e_ic_neT (tgt := 156) C dL_isWhole_142 (by decide) (by decide) ?_
          refine e_iload (pc' := 158) (x := (nI 3)) rfl C dL_isWhole_156 rfl ?_
          refine e_if_neT (tgt := 171) C dL_isWhole_158 (by decide) (by decide) ?_
          refine e_iconst (pc' := 172) (v := 1) rfl C dL_isWhole_171 (by decide) ?_
          refine e_goto (tgt := 176) C dL_isWhole_172 (by decide) ?_
          exact K176
      refine e_istore (pc' := 178) (D' := [(7, .int 1), (4, .int (wiN g.1 (i46 + 1))), (6, .int (nI ho)), (5, .int (nI i46)), (3, .ref b), (2, .int (g.1 16)), (1, .int (g.1 12)), (0, .ref (a (2, 0, 0)))]) rfl C dL_isWhole_176 (by decide) rfl ?_
      suffices K268 : ∀ Yf : YT, SS Yf n c st tl ll g → WE X G A a Yf (mup nilE b (.inl (gc G 0, 4, .inl (upd z46 (nI ho).toNatClampNeg (z46 ho + 1))))) 1 4 Q 268 [(7, .int 1), (4, .int (wiN g.1 (i46 + 1))), (6, .int (nI ho)), (5, .int (nI i46)), (3, .ref b), (2, .int (g.1 16)), (1, .int (g.1 12)), (0, .ref (a (2, 0, 0)))] [.int 1] by
        have h4 : ho = 0 ∨ ho = 1 ∨ ho = 2 ∨ ho = 3 := by omega
        rcases h4 with rfl | rfl | rfl | rfl
        · have hf : firedA g.1 (nI i46) = -10005 := hfa.trans (fired_x (by rw [e3]; decide) (by rw [e3]; decide))
          refine e_iload (pc' := 180) (x := (nI 0)) rfl C dL_isWhole_178 rfl ?_
          refine e_iconst (pc' := 181) (v := 2) rfl C dL_isWhole_180 (by decide) ?_
          refine e_ic_neT (tgt := 201) C dL_isWhole_181 (by decide) (by decide) ?_
          refine e_iload (pc' := 203) (x := (nI 0)) rfl C dL_isWhole_201 rfl ?_
          refine e_iconst (pc' := 204) (v := 1) rfl C dL_isWhole_203 (by decide) ?_
          refine e_ic_neT (tgt := 251) C dL_isWhole_204 (by decide) (by decide) ?_
          refine e_aload_n (pc' := 252) (x := (a (2, 0, 0))) rfl C dL_isWhole_251 rfl ?_
          refine e_iload (pc' := 254) (x := (nI i46)) rfl C dL_isWhole_252 rfl ?_
          refine e_f (pc' := 257) (k' := 1) (n' := 4) rfl C (q_firedIn _ G a hS46 hn (nI i46) (R := (-10005)) hf) my_X12_firedIn aw_985 rfl rfl rfl (Nat.le_of_ble_eq_true rfl) rfl dL_isWhole_254 rfl rfl (fun Y_254 hF_254 => ?_)
          have hS_254 := hS46.f hF_254
          refine e_sipush (pc' := 260) (v := (-10005)) rfl C dL_isWhole_257 (by decide) ?_
          refine e_ic_neF (pc' := 263) (tgt := 267) rfl C dL_isWhole_260 (by decide) rfl ?_
          refine e_iconst (pc' := 264) (v := 1) rfl C dL_isWhole_263 (by decide) ?_
          refine e_goto (tgt := 268) C dL_isWhole_264 (by decide) ?_
          exact K268 _ hS_254
        · rcases fired_f hS.I hn h2 hi46 with hz | ⟨u, u3, hz, hu, -⟩
          · refine e_iload (pc' := 180) (x := (nI 1)) rfl C dL_isWhole_178 rfl ?_
            refine e_iconst (pc' := 181) (v := 2) rfl C dL_isWhole_180 (by decide) ?_
            refine e_ic_neT (tgt := 201) C dL_isWhole_181 (by decide) (by decide) ?_
            refine e_iload (pc' := 203) (x := (nI 1)) rfl C dL_isWhole_201 rfl ?_
            refine e_iconst (pc' := 204) (v := 1) rfl C dL_isWhole_203 (by decide) ?_
            refine e_ic_neF (pc' := 207) (tgt := 251) rfl C dL_isWhole_204 (by decide) rfl ?_
            refine e_aload_n (pc' := 208) (x := (a (2, 0, 0))) rfl C dL_isWhole_207 rfl ?_
            refine e_iload (pc' := 210) (x := (nI i46)) rfl C dL_isWhole_208 rfl ?_
            refine e_f (pc' := 213) (k' := 1) (n' := 4) rfl C (q_firedIn _ G a hS46 hn (nI i46) (R := (-10005)) (hfa.trans hz)) my_X12_firedIn aw_985 rfl rfl rfl (Nat.le_of_ble_eq_true rfl) rfl dL_isWhole_210 rfl rfl (fun Y_210 hF_210 => ?_)
            have hS_210 := hS46.f hF_210
            refine e_sipush (pc' := 216) (v := (-10005)) rfl C dL_isWhole_213 (by decide) ?_
            refine e_ic_eqT (tgt := 243) C dL_isWhole_216 (by decide) rfl ?_
            refine e_iconst (pc' := 244) (v := 1) rfl C dL_isWhole_243 (by decide) ?_
            refine e_goto (tgt := 268) C dL_isWhole_244 (by decide) ?_
            exact K268 _ hS_210
          · refine e_iload (pc' := 180) (x := (nI 1)) rfl C dL_isWhole_178 rfl ?_
            refine e_iconst (pc' := 181) (v := 2) rfl C dL_isWhole_180 (by decide) ?_
            refine e_ic_neT (tgt := 201) C dL_isWhole_181 (by decide) (by decide) ?_
            refine e_iload (pc' := 203) (x := (nI 1)) rfl C dL_isWhole_201 rfl ?_
            refine e_iconst (pc' := 204) (v := 1) rfl C dL_isWhole_203 (by decide) ?_
            refine e_ic_neF (pc' := 207) (tgt := 251) rfl C dL_isWhole_204 (by decide) rfl ?_
            refine e_aload_n (pc' := 208) (x := (a (2, 0, 0))) rfl C dL_isWhole_207 rfl ?_
            refine e_iload (pc' := 210) (x := (nI i46)) rfl C dL_isWhole_208 rfl ?_
            refine e_f (pc' := 213) (k' := 1) (n' := 4) rfl C (q_firedIn _ G a hS46 hn (nI i46) (R := (nI u)) (hfa.trans hz)) my_X12_firedIn aw_985 rfl rfl rfl (Nat.le_of_ble_eq_true rfl) rfl dL_isWhole_210 rfl rfl (fun Y_210 hF_210 => ?_)
            have hS_210 := hS46.f hF_210
            refine e_sipush (pc' := 216) (v := (-10005)) rfl C dL_isWhole_213 (by decide) ?_
            refine e_ic_eqF (pc' := 219) (tgt := 243) rfl C dL_isWhole_216 (by decide) (fun z => by have := congrArg Int32.toInt z; rw [nI_toInt (by omega), show (-10005 : Int32).toInt = -10005 by decide] at this; omega) ?_
            refine e_aload_n (pc' := 220) (x := (a (2, 0, 0))) rfl C dL_isWhole_219 rfl ?_
            refine e_iload (pc' := 222) (x := (nI i46)) rfl C dL_isWhole_220 rfl ?_
            refine e_f (pc' := 225) (k' := 1) (n' := 4) rfl C (q_firedIn _ G a hS_210 hn (nI i46) (R := (nI u)) (hfa.trans hz)) my_X12_firedIn aw_985 rfl rfl rfl (Nat.le_of_ble_eq_true rfl) rfl dL_isWhole_222 rfl rfl (fun Y_222 hF_222 => ?_)
            have hS_222 := hS_210.f hF_222
            refine e_aload_n (pc' := 226) (x := (a (2, 0, 0))) rfl C dL_isWhole_225 rfl ?_
            refine e_iload (pc' := 228) (x := (nI i46)) rfl C dL_isWhole_226 rfl ?_
            refine e_iconst (pc' := 229) (v := 2) rfl C dL_isWhole_228 (by decide) ?_
            refine e_q (pc' := 232) (k' := 1) (n' := 4) rfl C (q_potOf _ G a hS_222 hn (nI i46) 2 (R := (nI ti)) q2) my_X12_potOf aw_1002 rfl rfl rfl (Nat.le_of_ble_eq_true rfl) rfl dL_isWhole_229 rfl rfl ?_
            refine e_aload_n (pc' := 233) (x := (a (2, 0, 0))) rfl C dL_isWhole_232 rfl ?_
            refine e_iload (pc' := 235) (x := (nI i46)) rfl C dL_isWhole_233 rfl ?_
            refine e_iconst (pc' := 236) (v := 4) rfl C dL_isWhole_235 (by decide) ?_
            refine e_q (pc' := 239) (k' := 1) (n' := 4) rfl C (q_potOf _ G a hS_222 hn (nI i46) 4 (R := (nI so)) q4) my_X12_potOf aw_1002 rfl rfl rfl (Nat.le_of_ble_eq_true rfl) rfl dL_isWhole_236 rfl rfl ?_
            refine e_isub (pc' := 240) rfl C dL_isWhole_239 ?_
            refine e_ic_ltF (pc' := 243) (tgt := 247) rfl C dL_isWhole_240 (by decide) (Int32.not_lt.mpr (by unfold lf at hu; rw [e2, e4] at hu; exact hu)) ?_
            refine e_iconst (pc' := 244) (v := 1) rfl C dL_isWhole_243 (by decide) ?_
            refine e_goto (tgt := 268) C dL_isWhole_244 (by decide) ?_
            exact K268 _ hS_222
        · have hf : firedA g.1 (nI i46) = 0 := hfa.trans (fired_2 (e3.trans rfl))
          refine e_iload (pc' := 180) (x := (nI 2)) rfl C dL_isWhole_178 rfl ?_
          refine e_iconst (pc' := 181) (v := 2) rfl C dL_isWhole_180 (by decide) ?_
          refine e_ic_neF (pc' := 184) (tgt := 201) rfl C dL_isWhole_181 (by decide) rfl ?_
          refine e_aload_n (pc' := 185) (x := (a (2, 0, 0))) rfl C dL_isWhole_184 rfl ?_
          refine e_iload (pc' := 187) (x := (nI i46)) rfl C dL_isWhole_185 rfl ?_
          refine e_f (pc' := 190) (k' := 1) (n' := 4) rfl C (q_firedIn _ G a hS46 hn (nI i46) (R := 0) hf) my_X12_firedIn aw_985 rfl rfl rfl (Nat.le_of_ble_eq_true rfl) rfl dL_isWhole_187 rfl rfl (fun Y_187 hF_187 => ?_)
          have hS_187 := hS46.f hF_187
          refine e_if_neF (pc' := 193) (tgt := 197) rfl C dL_isWhole_190 (by decide) rfl ?_
          refine e_iconst (pc' := 194) (v := 1) rfl C dL_isWhole_193 (by decide) ?_
          refine e_goto (tgt := 268) C dL_isWhole_194 (by decide) ?_
          exact K268 _ hS_187
        · have hf : firedA g.1 (nI i46) = -10005 := hfa.trans (fired_x (by rw [e3]; decide) (by rw [e3]; decide))
          refine e_iload (pc' := 180) (x := (nI 3)) rfl C dL_isWhole_178 rfl ?_
          refine e_iconst (pc' := 181) (v := 2) rfl C dL_isWhole_180 (by decide) ?_
          refine e_ic_neT (tgt := 201) C dL_isWhole_181 (by decide) (by decide) ?_
          refine e_iload (pc' := 203) (x := (nI 3)) rfl C dL_isWhole_201 rfl ?_
          refine e_iconst (pc' := 204) (v := 1) rfl C dL_isWhole_203 (by decide) ?_
          refine e_ic_neT (tgt := 251) C dL_isWhole_204 (by decide) (by decide) ?_
          refine e_aload_n (pc' := 252) (x := (a (2, 0, 0))) rfl C dL_isWhole_251 rfl ?_
          refine e_iload (pc' := 254) (x := (nI i46)) rfl C dL_isWhole_252 rfl ?_
          refine e_f (pc' := 257) (k' := 1) (n' := 4) rfl C (q_firedIn _ G a hS46 hn (nI i46) (R := (-10005)) hf) my_X12_firedIn aw_985 rfl rfl rfl (Nat.le_of_ble_eq_true rfl) rfl dL_isWhole_254 rfl rfl (fun Y_254 hF_254 => ?_)
          have hS_254 := hS46.f hF_254
          refine e_sipush (pc' := 260) (v := (-10005)) rfl C dL_isWhole_257 (by decide) ?_
          refine e_ic_neF (pc' := 263) (tgt := 267) rfl C dL_isWhole_260 (by decide) rfl ?_
          refine e_iconst (pc' := 264) (v := 1) rfl C dL_isWhole_263 (by decide) ?_
          refine e_goto (tgt := 268) C dL_isWhole_264 (by decide) ?_
          exact K268 _ hS_254
      intro Yf hSf
      refine e_istore (pc' := 270) (D' := [(8, .int 1), (7, .int 1), (4, .int (wiN g.1 (i46 + 1))), (6, .int (nI ho)), (5, .int (nI i46)), (3, .ref b), (2, .int (g.1 16)), (1, .int (g.1 12)), (0, .ref (a (2, 0, 0)))]) rfl C dL_isWhole_268 (by decide) rfl ?_
      refine e_aload_n (pc' := 271) (x := (a (2, 0, 0))) rfl C dL_isWhole_270 rfl ?_
      refine e_iload (pc' := 273) (x := (nI i46)) rfl C dL_isWhole_271 rfl ?_
      refine e_q (pc' := 276) (k' := 1) (n' := 4) rfl C (q_ranked _ G a hSf hn (nI i46) (R := (nI (Rk i46))) (hRk i46 hi46).2) my_X12_ranked aw_1035 rfl rfl rfl (Nat.le_of_ble_eq_true rfl) rfl dL_isWhole_273 rfl rfl ?_
      refine e_istore (pc' := 278) (D' := [(9, .int (nI (Rk i46))), (8, .int 1), (7, .int 1), (4, .int (wiN g.1 (i46 + 1))), (6, .int (nI ho)), (5, .int (nI i46)), (3, .ref b), (2, .int (g.1 16)), (1, .int (g.1 12)), (0, .ref (a (2, 0, 0)))]) rfl C dL_isWhole_276 (by decide) rfl ?_
      refine e_iload (pc' := 280) (x := (nI i46)) rfl C dL_isWhole_278 rfl ?_
      suffices K296 : WE X G A a Yf (mup nilE b (.inl (gc G 0, 4, .inl (upd z46 (nI ho).toNatClampNeg (z46 ho + 1))))) 1 4 Q 296 [(9, .int (nI (Rk i46))), (8, .int 1), (7, .int 1), (4, .int (wiN g.1 (i46 + 1))), (6, .int (nI ho)), (5, .int (nI i46)), (3, .ref b), (2, .int (g.1 16)), (1, .int (g.1 12)), (0, .ref (a (2, 0, 0)))] [.int (nI (Rk (i46 - 1)))] by
        refine e_if_ne (pc' := 283) (tgt := 288) rfl C dL_isWhole_280 (by decide) (fun c_280 => ?_) (fun c_280 => ?_)
        · have h0 : 0 < i46 := Nat.pos_of_ne_zero (fun z => c_280 (by rw [z]; rfl))
          refine e_aload_n (pc' := 289) (x := (a (2, 0, 0))) rfl C dL_isWhole_288 rfl ?_
          refine e_iload (pc' := 291) (x := (nI i46)) rfl C dL_isWhole_289 rfl ?_
          refine e_iconst (pc' := 292) (v := 1) rfl C dL_isWhole_291 (by decide) ?_
          refine e_isub (pc' := 293) rfl C dL_isWhole_292 ?_
          refine e_top (y := (nI (i46 - 1))) (show nI i46 - 1 = nI (i46 - 1) from pk_sub (b := 1) h0) ?_
          refine e_q (pc' := 296) (k' := 1) (n' := 4) rfl C (q_ranked _ G a hSf hn (nI (i46 - 1)) (R := (nI (Rk (i46 - 1)))) (hRk (i46 - 1) (by omega)).2) my_X12_ranked aw_1035 rfl rfl rfl (Nat.le_of_ble_eq_true rfl) rfl dL_isWhole_293 rfl rfl ?_
          exact K296
        · have h0 : i46 = 0 := (nI_eq (b := 0) (by omega) (by decide)).mp c_280
          refine e_iload (pc' := 285) (x := (nI (Rk i46))) rfl C dL_isWhole_283 rfl ?_
          refine e_top (y := (nI (Rk (i46 - 1)))) (by rw [h0]) ?_
          refine e_goto (tgt := 296) C dL_isWhole_285 (by decide) ?_
          exact K296
      have hb1 : i46 - 1 < nn (g.1 15) := by omega
      obtain ⟨a2, -, a4, -⟩ := potF_at n15 np8 (hRk i46 hi46).1
      obtain ⟨b2, -, b4, -⟩ := potF_at n15 np8 (hRk (i46 - 1) hb1).1
      have hlf : lf g.1 (Rk (i46 - 1)) ≤ lf g.1 (Rk i46) := by
        by_cases h0 : i46 = 0
        · rw [h0]; exact Int32.le_refl _
        · have := hle (i46 - 1) (by omega)
          rw [show i46 - 1 + 1 = i46 by omega] at this
          exact this
      refine e_istore (pc' := 298) (D' := [(10, .int (nI (Rk (i46 - 1)))), (9, .int (nI (Rk i46))), (8, .int 1), (7, .int 1), (4, .int (wiN g.1 (i46 + 1))), (6, .int (nI ho)), (5, .int (nI i46)), (3, .ref b), (2, .int (g.1 16)), (1, .int (g.1 12)), (0, .ref (a (2, 0, 0)))]) rfl C dL_isWhole_296 (by decide) rfl ?_
      refine e_aload_n (pc' := 299) (x := (a (2, 0, 0))) rfl C dL_isWhole_298 rfl ?_
      refine e_iload (pc' := 301) (x := (nI (Rk (i46 - 1)))) rfl C dL_isWhole_299 rfl ?_
      refine e_iconst (pc' := 302) (v := 2) rfl C dL_isWhole_301 (by decide) ?_
      refine e_q (pc' := 305) (k' := 1) (n' := 4) rfl C (q_potOf _ G a hSf hn (nI (Rk (i46 - 1))) 2 (R := (g.1 (187 + Rk (i46 - 1)))) b2) my_X12_potOf aw_1002 rfl rfl rfl (Nat.le_of_ble_eq_true rfl) rfl dL_isWhole_302 rfl rfl ?_
      refine e_aload_n (pc' := 306) (x := (a (2, 0, 0))) rfl C dL_isWhole_305 rfl ?_
      refine e_iload (pc' := 308) (x := (nI (Rk (i46 - 1)))) rfl C dL_isWhole_306 rfl ?_
      refine e_iconst (pc' := 309) (v := 4) rfl C dL_isWhole_308 (by decide) ?_
      refine e_q (pc' := 312) (k' := 1) (n' := 4) rfl C (q_potOf _ G a hSf hn (nI (Rk (i46 - 1))) 4 (R := (g.1 (203 + Rk (i46 - 1)))) b4) my_X12_potOf aw_1002 rfl rfl rfl (Nat.le_of_ble_eq_true rfl) rfl dL_isWhole_309 rfl rfl ?_
      refine e_isub (pc' := 313) rfl C dL_isWhole_312 ?_
      refine e_aload_n (pc' := 314) (x := (a (2, 0, 0))) rfl C dL_isWhole_313 rfl ?_
      refine e_iload (pc' := 316) (x := (nI (Rk i46))) rfl C dL_isWhole_314 rfl ?_
      refine e_iconst (pc' := 317) (v := 2) rfl C dL_isWhole_316 (by decide) ?_
      refine e_q (pc' := 320) (k' := 1) (n' := 4) rfl C (q_potOf _ G a hSf hn (nI (Rk i46)) 2 (R := (g.1 (187 + Rk i46))) a2) my_X12_potOf aw_1002 rfl rfl rfl (Nat.le_of_ble_eq_true rfl) rfl dL_isWhole_317 rfl rfl ?_
      refine e_aload_n (pc' := 321) (x := (a (2, 0, 0))) rfl C dL_isWhole_320 rfl ?_
      refine e_iload (pc' := 323) (x := (nI (Rk i46))) rfl C dL_isWhole_321 rfl ?_
      refine e_iconst (pc' := 324) (v := 4) rfl C dL_isWhole_323 (by decide) ?_
      refine e_q (pc' := 327) (k' := 1) (n' := 4) rfl C (q_potOf _ G a hSf hn (nI (Rk i46)) 4 (R := (g.1 (203 + Rk i46))) a4) my_X12_potOf aw_1002 rfl rfl rfl (Nat.le_of_ble_eq_true rfl) rfl dL_isWhole_324 rfl rfl ?_
      refine e_isub (pc' := 328) rfl C dL_isWhole_327 ?_
      refine e_ic_gtF (pc' := 331) (tgt := 335) rfl C dL_isWhole_328 (by decide) (Int32.not_lt.mpr hlf) ?_
      refine e_iconst (pc' := 332) (v := 1) rfl C dL_isWhole_331 (by decide) ?_
      refine e_goto (tgt := 336) C dL_isWhole_332 (by decide) ?_
      refine e_istore (pc' := 338) (D' := [(11, .int 1), (10, .int (nI (Rk (i46 - 1)))), (9, .int (nI (Rk i46))), (8, .int 1), (7, .int 1), (4, .int (wiN g.1 (i46 + 1))), (6, .int (nI ho)), (5, .int (nI i46)), (3, .ref b), (2, .int (g.1 16)), (1, .int (g.1 12)), (0, .ref (a (2, 0, 0)))]) rfl C dL_isWhole_336 (by decide) rfl ?_
      refine e_iload (pc' := 340) (x := 1) rfl C dL_isWhole_338 rfl ?_
      refine e_if_eqF (pc' := 343) (tgt := 353) rfl C dL_isWhole_340 (by decide) (by decide) ?_
      refine e_iload (pc' := 345) (x := 1) rfl C dL_isWhole_343 rfl ?_
      refine e_if_eqF (pc' := 348) (tgt := 353) rfl C dL_isWhole_345 (by decide) (by decide) ?_
      refine e_iload (pc' := 350) (x := 1) rfl C dL_isWhole_348 rfl ?_
      refine e_if_neT (tgt := 355) C dL_isWhole_350 (by decide) (by decide) ?_
      refine e_iinc (pc' := 358) (j := 7) (v := (nI (i46 + 1))) (D' := [(5, .int (nI (i46 + 1))), (11, .int 1), (10, .int (nI (Rk (i46 - 1)))), (9, .int (nI (Rk i46))), (8, .int 1), (7, .int 1), (4, .int (wiN g.1 (i46 + 1))), (6, .int (nI ho)), (3, .ref b), (2, .int (g.1 16)), (1, .int (g.1 12)), (0, .ref (a (2, 0, 0)))]) rfl C dL_isWhole_355 rfl (nI_1 _) (by decide) rfl ?_
      refine e_goto (tgt := 46) C dL_isWhole_358 (by decide) ?_
      refine e_D (D' := [(5, .int (nI (i46 + 1))), (4, .int (wiN g.1 (i46 + 1))), (3, .ref b), (2, .int (g.1 16)), (1, .int (g.1 12)), (0, .ref (a (2, 0, 0)))]) (List.forall_mem_cons.mpr ⟨rfl, List.forall_mem_cons.mpr ⟨rfl, List.forall_mem_cons.mpr ⟨rfl, List.forall_mem_cons.mpr ⟨rfl, List.forall_mem_cons.mpr ⟨rfl, List.forall_mem_cons.mpr ⟨rfl, fun _ h => absurd h List.not_mem_nil⟩⟩⟩⟩⟩⟩) ?_
      exact ih46 _ _ hSf (many_step hz46 (by omega) e3)
    · intro Y46 z46 hS46 hz46
      have eb : (mup nilE b (.inl (gc G 0, 4, .inl z46))) b = some (.inl (gc G 0, 4, .inl z46)) := mup_s
      refine e_iload (pc' := 48) (x := (nI (nn (g.1 15)))) rfl C dL_isWhole_46 rfl ?_
      refine e_aload_n (pc' := 49) (x := (a (2, 0, 0))) rfl C dL_isWhole_48 rfl ?_
      refine e_bipush (pc' := 51) (v := 10) rfl C dL_isWhole_49 (by decide) ?_
      refine e_q (pc' := 54) (k' := 1) (n' := 4) rfl C (q_account _ G a hS46 10 (R := g.1 15) acc_10) my_X12_account aw_335 rfl rfl rfl (Nat.le_of_ble_eq_true rfl) rfl dL_isWhole_51 rfl rfl ?_
      refine e_top (y := (nI (nn (g.1 15)))) n15 ?_
      refine e_ic_geT (tgt := 361) C dL_isWhole_54 (by decide) (Int32.le_refl _) ?_
      refine e_aload_n (pc' := 362) (x := b) rfl C dL_isWhole_361 rfl ?_
      refine e_iconst (pc' := 363) (v := 0) rfl C dL_isWhole_362 (by decide) ?_
      refine e_iald (pc' := 364) rfl C eb (show vp_in (nI 0) 4 from vp_in_nI (by decide) (by decide)) dL_isWhole_363 ?_
      refine e_top (y := (manyN g.1 0 (nn (g.1 15)))) ((show z46 (Int32.toNatClampNeg 0) = z46 0 from rfl).trans (hz46 0 (by decide))) ?_
      refine e_aload_n (pc' := 365) (x := (a (2, 0, 0))) rfl C dL_isWhole_364 rfl ?_
      refine e_bipush (pc' := 367) (v := 11) rfl C dL_isWhole_365 (by decide) ?_
      refine e_q (pc' := 370) (k' := 1) (n' := 4) rfl C (q_account _ G a hS46 11 (R := manyN g.1 0 (nn (g.1 15))) acc_11) my_X12_account aw_335 rfl rfl rfl (Nat.le_of_ble_eq_true rfl) rfl dL_isWhole_367 rfl rfl ?_
      refine e_ic_neF (pc' := 373) (tgt := 430) rfl C dL_isWhole_370 (by decide) rfl ?_
      refine e_aload_n (pc' := 374) (x := b) rfl C dL_isWhole_373 rfl ?_
      refine e_iconst (pc' := 375) (v := 1) rfl C dL_isWhole_374 (by decide) ?_
      refine e_iald (pc' := 376) rfl C eb (show vp_in (nI 1) 4 from vp_in_nI (by decide) (by decide)) dL_isWhole_375 ?_
      refine e_top (y := (manyN g.1 1 (nn (g.1 15)))) ((show z46 (Int32.toNatClampNeg 1) = z46 1 from rfl).trans (hz46 1 (by decide))) ?_
      refine e_aload_n (pc' := 377) (x := (a (2, 0, 0))) rfl C dL_isWhole_376 rfl ?_
      refine e_bipush (pc' := 379) (v := 12) rfl C dL_isWhole_377 (by decide) ?_
      refine e_q (pc' := 382) (k' := 1) (n' := 4) rfl C (q_account _ G a hS46 12 (R := manyN g.1 1 (nn (g.1 15))) acc_12) my_X12_account aw_335 rfl rfl rfl (Nat.le_of_ble_eq_true rfl) rfl dL_isWhole_379 rfl rfl ?_
      refine e_ic_neF (pc' := 385) (tgt := 430) rfl C dL_isWhole_382 (by decide) rfl ?_
      refine e_aload_n (pc' := 386) (x := b) rfl C dL_isWhole_385 rfl ?_
      refine e_iconst (pc' := 387) (v := 2) rfl C dL_isWhole_386 (by decide) ?_
      refine e_iald (pc' := 388) rfl C eb (show vp_in (nI 2) 4 from vp_in_nI (by decide) (by decide)) dL_isWhole_387 ?_
      refine e_top (y := (manyN g.1 2 (nn (g.1 15)))) ((show z46 (Int32.toNatClampNeg 2) = z46 2 from rfl).trans (hz46 2 (by decide))) ?_
      refine e_aload_n (pc' := 389) (x := (a (2, 0, 0))) rfl C dL_isWhole_388 rfl ?_
      refine e_bipush (pc' := 391) (v := 13) rfl C dL_isWhole_389 (by decide) ?_
      refine e_q (pc' := 394) (k' := 1) (n' := 4) rfl C (q_account _ G a hS46 13 (R := manyN g.1 2 (nn (g.1 15))) acc_13) my_X12_account aw_335 rfl rfl rfl (Nat.le_of_ble_eq_true rfl) rfl dL_isWhole_391 rfl rfl ?_
      refine e_ic_neF (pc' := 397) (tgt := 430) rfl C dL_isWhole_394 (by decide) rfl ?_
      refine e_aload_n (pc' := 398) (x := b) rfl C dL_isWhole_397 rfl ?_
      refine e_iconst (pc' := 399) (v := 3) rfl C dL_isWhole_398 (by decide) ?_
      refine e_iald (pc' := 400) rfl C eb (show vp_in (nI 3) 4 from vp_in_nI (by decide) (by decide)) dL_isWhole_399 ?_
      refine e_top (y := (manyN g.1 3 (nn (g.1 15)))) ((show z46 (Int32.toNatClampNeg 3) = z46 3 from rfl).trans (hz46 3 (by decide))) ?_
      refine e_aload_n (pc' := 401) (x := (a (2, 0, 0))) rfl C dL_isWhole_400 rfl ?_
      refine e_bipush (pc' := 403) (v := 14) rfl C dL_isWhole_401 (by decide) ?_
      refine e_q (pc' := 406) (k' := 1) (n' := 4) rfl C (q_account _ G a hS46 14 (R := manyN g.1 3 (nn (g.1 15))) acc_14) my_X12_account aw_335 rfl rfl rfl (Nat.le_of_ble_eq_true rfl) rfl dL_isWhole_403 rfl rfl ?_
      refine e_ic_neF (pc' := 409) (tgt := 430) rfl C dL_isWhole_406 (by decide) rfl ?_
      refine e_iload (pc' := 411) (x := (wiN g.1 (nn (g.1 15)))) rfl C dL_isWhole_409 rfl ?_
      refine e_aload_n (pc' := 412) (x := (a (2, 0, 0))) rfl C dL_isWhole_411 rfl ?_
      refine e_bipush (pc' := 414) (v := 15) rfl C dL_isWhole_412 (by decide) ?_
      refine e_q (pc' := 417) (k' := 1) (n' := 4) rfl C (q_account _ G a hS46 15 (R := wiN g.1 (nn (g.1 15))) acc_15) my_X12_account aw_335 rfl rfl rfl (Nat.le_of_ble_eq_true rfl) rfl dL_isWhole_414 rfl rfl ?_
      refine e_ic_neF (pc' := 420) (tgt := 430) rfl C dL_isWhole_417 (by decide) rfl ?_
      refine e_iload (pc' := 422) (x := (wiN g.1 (nn (g.1 15)))) rfl C dL_isWhole_420 rfl ?_
      refine e_iconst (pc' := 423) (v := 4) rfl C dL_isWhole_422 (by decide) ?_
      refine e_ic_gtF (pc' := 426) (tgt := 430) rfl C dL_isWhole_423 (by decide) (by rw [ewn]; exact nI_nlt (a := 4) wn4 (by decide)) ?_
      refine e_iconst (pc' := 427) (v := 1) rfl C dL_isWhole_426 (by decide) ?_
      refine e_goto (tgt := 431) C dL_isWhole_427 (by decide) ?_
      refine e_istore (pc' := 433) (D' := [(5, .int 1), (4, .int (wiN g.1 (nn (g.1 15)))), (3, .ref b), (2, .int (g.1 16)), (1, .int (g.1 12)), (0, .ref (a (2, 0, 0)))]) rfl C dL_isWhole_431 (by decide) rfl ?_
      refine e_iload_n (pc' := 434) (x := (g.1 12)) rfl C dL_isWhole_433 rfl ?_
      refine e_aload_n (pc' := 435) (x := (a (2, 0, 0))) rfl C dL_isWhole_434 rfl ?_
      refine e_iconst (pc' := 436) (v := 0) rfl C dL_isWhole_435 (by decide) ?_
      refine e_q (pc' := 439) (k' := 1) (n' := 4) rfl C (q_account _ G a hS46 0 (R := g.1 12) acc_0) my_X12_account aw_335 rfl rfl rfl (Nat.le_of_ble_eq_true rfl) rfl dL_isWhole_436 rfl rfl ?_
      refine e_ic_neF (pc' := 442) (tgt := 488) rfl C dL_isWhole_439 (by decide) rfl ?_
      refine e_iload_n (pc' := 443) (x := (g.1 16)) rfl C dL_isWhole_442 rfl ?_
      refine e_aload_n (pc' := 444) (x := (a (2, 0, 0))) rfl C dL_isWhole_443 rfl ?_
      refine e_q (pc' := 447) (k' := 1) (n' := 4) rfl C (q_burnt _ G a hS46 hn  (R := g.1 16) rfl) my_X12_burnt aw_1024 rfl rfl rfl (Nat.le_of_ble_eq_true rfl) rfl dL_isWhole_444 rfl rfl ?_
      refine e_ic_neF (pc' := 450) (tgt := 488) rfl C dL_isWhole_447 (by decide) rfl ?_
      refine e_iload_n (pc' := 451) (x := (g.1 16)) rfl C dL_isWhole_450 rfl ?_
      refine e_aload_n (pc' := 452) (x := (a (2, 0, 0))) rfl C dL_isWhole_451 rfl ?_
      refine e_q (pc' := 455) (k' := 1) (n' := 4) rfl C (q_burntAgain _ G a hS46 hn  (R := (g.1 16)) h2.1.2.1.symm) my_X12_burntAgain aw_1051 rfl rfl rfl (Nat.le_of_ble_eq_true rfl) rfl dL_isWhole_452 rfl rfl ?_
      refine e_ic_neF (pc' := 458) (tgt := 488) rfl C dL_isWhole_455 (by decide) rfl ?_
      refine e_aload_n (pc' := 459) (x := (a (2, 0, 0))) rfl C dL_isWhole_458 rfl ?_
      refine e_bipush (pc' := 461) (v := 8) rfl C dL_isWhole_459 (by decide) ?_
      refine e_q (pc' := 464) (k' := 1) (n' := 4) rfl C (q_account _ G a hS46 8 (R := g.1 11) acc_8) my_X12_account aw_335 rfl rfl rfl (Nat.le_of_ble_eq_true rfl) rfl dL_isWhole_461 rfl rfl ?_
      refine e_aload_n (pc' := 465) (x := (a (2, 0, 0))) rfl C dL_isWhole_464 rfl ?_
      refine e_bipush (pc' := 467) (v := 7) rfl C dL_isWhole_465 (by decide) ?_
      refine e_q (pc' := 470) (k' := 1) (n' := 4) rfl C (q_account _ G a hS46 7 (R := g.1 10) acc_7) my_X12_account aw_335 rfl rfl rfl (Nat.le_of_ble_eq_true rfl) rfl dL_isWhole_467 rfl rfl ?_
      refine e_iload_n (pc' := 471) (x := (g.1 16)) rfl C dL_isWhole_470 rfl ?_
      refine e_iadd (pc' := 472) rfl C dL_isWhole_471 ?_
      refine e_ic_neF (pc' := 475) (tgt := 488) rfl C dL_isWhole_472 (by decide) h2.fu ?_
      refine e_aload_n (pc' := 476) (x := (a (2, 0, 0))) rfl C dL_isWhole_475 rfl ?_
      refine e_bipush (pc' := 478) (v := 7) rfl C dL_isWhole_476 (by decide) ?_
      refine e_q (pc' := 481) (k' := 1) (n' := 4) rfl C (q_account _ G a hS46 7 (R := g.1 10) acc_7) my_X12_account aw_335 rfl rfl rfl (Nat.le_of_ble_eq_true rfl) rfl dL_isWhole_478 rfl rfl ?_
      refine e_if_ltF (pc' := 484) (tgt := 488) rfl C dL_isWhole_481 (by decide) (by rw [e10]; exact nI_pos (by omega)) ?_
      refine e_iconst (pc' := 485) (v := 1) rfl C dL_isWhole_484 (by decide) ?_
      refine e_goto (tgt := 489) C dL_isWhole_485 (by decide) ?_
      refine e_istore (pc' := 491) (D' := [(6, .int 1), (5, .int 1), (4, .int (wiN g.1 (nn (g.1 15)))), (3, .ref b), (2, .int (g.1 16)), (1, .int (g.1 12)), (0, .ref (a (2, 0, 0)))]) rfl C dL_isWhole_489 (by decide) rfl ?_
      refine e_aload_n (pc' := 492) (x := (a (2, 0, 0))) rfl C dL_isWhole_491 rfl ?_
      refine e_iconst (pc' := 493) (v := 1) rfl C dL_isWhole_492 (by decide) ?_
      refine e_q (pc' := 496) (k' := 1) (n' := 4) rfl C (q_account _ G a hS46 1 (R := g.1 0) acc_1) my_X12_account aw_335 rfl rfl rfl (Nat.le_of_ble_eq_true rfl) rfl dL_isWhole_493 rfl rfl ?_
      refine e_bipush (pc' := 498) (v := 20) rfl C dL_isWhole_496 (by decide) ?_
      refine e_ic_ltF (pc' := 501) (tgt := 604) rfl C dL_isWhole_498 (by decide) (by rw [e0]; exact nI_nlt (a := dd) (b := 20) d20 (by omega)) ?_
      refine e_aload_n (pc' := 502) (x := (a (2, 0, 0))) rfl C dL_isWhole_501 rfl ?_
      refine e_iconst (pc' := 503) (v := 3) rfl C dL_isWhole_502 (by decide) ?_
      refine e_q (pc' := 506) (k' := 1) (n' := 4) rfl C (q_account _ G a hS46 3 (R := mErr g.1) acc_3) my_X12_account aw_335 rfl rfl rfl (Nat.le_of_ble_eq_true rfl) rfl dL_isWhole_503 rfl rfl ?_
      refine e_aload_n (pc' := 507) (x := (a (2, 0, 0))) rfl C dL_isWhole_506 rfl ?_
      refine e_iconst (pc' := 508) (v := 2) rfl C dL_isWhole_507 (by decide) ?_
      refine e_q (pc' := 511) (k' := 1) (n' := 4) rfl C (q_account _ G a hS46 2 (R := g.1 1) acc_2) my_X12_account aw_335 rfl rfl rfl (Nat.le_of_ble_eq_true rfl) rfl dL_isWhole_508 rfl rfl ?_
      refine e_aload_n (pc' := 512) (x := (a (2, 0, 0))) rfl C dL_isWhole_511 rfl ?_
      refine e_iconst (pc' := 513) (v := 1) rfl C dL_isWhole_512 (by decide) ?_
      refine e_q (pc' := 516) (k' := 1) (n' := 4) rfl C (q_account _ G a hS46 1 (R := g.1 0) acc_1) my_X12_account aw_335 rfl rfl rfl (Nat.le_of_ble_eq_true rfl) rfl dL_isWhole_513 rfl rfl ?_
      refine e_isub (pc' := 517) rfl C dL_isWhole_516 ?_
      refine e_ic_neF (pc' := 520) (tgt := 604) rfl C dL_isWhole_517 (by decide) rfl ?_
      refine e_aload_n (pc' := 521) (x := (a (2, 0, 0))) rfl C dL_isWhole_520 rfl ?_
      refine e_bipush (pc' := 523) (v := 6) rfl C dL_isWhole_521 (by decide) ?_
      refine e_q (pc' := 526) (k' := 1) (n' := 4) rfl C (q_account _ G a hS46 6 (R := g.1 9) acc_6) my_X12_account aw_335 rfl rfl rfl (Nat.le_of_ble_eq_true rfl) rfl dL_isWhole_523 rfl rfl ?_
      refine e_if_ltF (pc' := 529) (tgt := 604) rfl C dL_isWhole_526 (by decide) (by rw [e9]; exact nI_pos (by omega)) ?_
      refine e_aload_n (pc' := 530) (x := (a (2, 0, 0))) rfl C dL_isWhole_529 rfl ?_
      refine e_bipush (pc' := 532) (v := 6) rfl C dL_isWhole_530 (by decide) ?_
      refine e_q (pc' := 535) (k' := 1) (n' := 4) rfl C (q_account _ G a hS46 6 (R := g.1 9) acc_6) my_X12_account aw_335 rfl rfl rfl (Nat.le_of_ble_eq_true rfl) rfl dL_isWhole_532 rfl rfl ?_
      refine e_bipush (pc' := 537) (v := 100) rfl C dL_isWhole_535 (by decide) ?_
      refine e_ic_gtF (pc' := 540) (tgt := 604) rfl C dL_isWhole_537 (by decide) (by rw [e9]; exact nI_nlt (a := 100) d9 (by decide)) ?_
      refine e_aload_n (pc' := 541) (x := (a (2, 0, 0))) rfl C dL_isWhole_540 rfl ?_
      refine e_bipush (pc' := 543) (v := 9) rfl C dL_isWhole_541 (by decide) ?_
      refine e_q (pc' := 546) (k' := 1) (n' := 4) rfl C (q_account _ G a hS46 9 (R := g.1 13) acc_9) my_X12_account aw_335 rfl rfl rfl (Nat.le_of_ble_eq_true rfl) rfl dL_isWhole_543 rfl rfl ?_
      refine e_if_ltF (pc' := 549) (tgt := 604) rfl C dL_isWhole_546 (by decide) (Int32.not_lt.mpr h2.ov) ?_
      refine e_aload_n (pc' := 550) (x := (a (2, 0, 0))) rfl C dL_isWhole_549 rfl ?_
      refine e_q (pc' := 553) (k' := 1) (n' := 4) rfl C (q_wanted _ G a hS46 hn  (R := mWant g.1) rfl) my_X12_wanted aw_956 rfl rfl rfl (Nat.le_of_ble_eq_true rfl) rfl dL_isWhole_550 rfl rfl ?_
      refine e_if_ltF (pc' := 556) (tgt := 604) rfl C dL_isWhole_553 (by decide) (Int32.not_lt.mpr hw0) ?_
      refine e_aload_n (pc' := 557) (x := (a (2, 0, 0))) rfl C dL_isWhole_556 rfl ?_
      refine e_q (pc' := 560) (k' := 1) (n' := 4) rfl C (q_wanted _ G a hS46 hn  (R := mWant g.1) rfl) my_X12_wanted aw_956 rfl rfl rfl (Nat.le_of_ble_eq_true rfl) rfl dL_isWhole_557 rfl rfl ?_
      refine e_bipush (pc' := 562) (v := 100) rfl C dL_isWhole_560 (by decide) ?_
      refine e_ic_gtF (pc' := 565) (tgt := 604) rfl C dL_isWhole_562 (by decide) (Int32.not_lt.mpr hw1) ?_
      refine e_aload_n (pc' := 566) (x := (a (2, 0, 0))) rfl C dL_isWhole_565 rfl ?_
      refine e_iconst (pc' := 567) (v := 0) rfl C dL_isWhole_566 (by decide) ?_
      refine e_f (pc' := 570) (k' := 1) (n' := 4) rfl C (q_degreesIn _ G a hS46 hn 0 (R := (g.1 0)) (if_pos (by decide))) my_X12_degreesIn aw_934 rfl rfl rfl (Nat.le_of_ble_eq_true rfl) rfl dL_isWhole_567 rfl rfl (fun Y_567 hF_567 => ?_)
      have hS_567 := hS46.f hF_567
      refine e_aload_n (pc' := 571) (x := (a (2, 0, 0))) rfl C dL_isWhole_570 rfl ?_
      refine e_iconst (pc' := 572) (v := 1) rfl C dL_isWhole_571 (by decide) ?_
      refine e_q (pc' := 575) (k' := 1) (n' := 4) rfl C (q_account _ G a hS_567 1 (R := g.1 0) acc_1) my_X12_account aw_335 rfl rfl rfl (Nat.le_of_ble_eq_true rfl) rfl dL_isWhole_572 rfl rfl ?_
      refine e_ic_neF (pc' := 578) (tgt := 604) rfl C dL_isWhole_575 (by decide) rfl ?_
      refine e_aload_n (pc' := 579) (x := (a (2, 0, 0))) rfl C dL_isWhole_578 rfl ?_
      refine e_iconst (pc' := 580) (v := 0) rfl C dL_isWhole_579 (by decide) ?_
      refine e_f (pc' := 583) (k' := 1) (n' := 4) rfl C (q_wouldOvershoot _ G a hS_567 hn 0 (R := (g.1 13)) (if_pos (by decide))) my_X12_wouldOvershoot aw_944 rfl rfl rfl (Nat.le_of_ble_eq_true rfl) rfl dL_isWhole_580 rfl rfl (fun Y_580 hF_580 => ?_)
      have hS_580 := hS_567.f hF_580
      refine e_aload_n (pc' := 584) (x := (a (2, 0, 0))) rfl C dL_isWhole_583 rfl ?_
      refine e_bipush (pc' := 586) (v := 9) rfl C dL_isWhole_584 (by decide) ?_
      refine e_q (pc' := 589) (k' := 1) (n' := 4) rfl C (q_account _ G a hS_580 9 (R := g.1 13) acc_9) my_X12_account aw_335 rfl rfl rfl (Nat.le_of_ble_eq_true rfl) rfl dL_isWhole_586 rfl rfl ?_
      refine e_ic_neF (pc' := 592) (tgt := 604) rfl C dL_isWhole_589 (by decide) rfl ?_
      refine e_aload_n (pc' := 593) (x := (a (2, 0, 0))) rfl C dL_isWhole_592 rfl ?_
      refine e_iconst (pc' := 594) (v := 0) rfl C dL_isWhole_593 (by decide) ?_
      refine e_f (pc' := 597) (k' := 1) (n' := 4) rfl C (q_wouldCrack _ G a hS_580 hn 0 (R := 0) ((if_pos (by decide)).trans (crack_0 g.1 _))) my_X12_wouldCrack aw_948 rfl rfl rfl (Nat.le_of_ble_eq_true rfl) rfl dL_isWhole_594 rfl rfl (fun Y_594 hF_594 => ?_)
      have hS_594 := hS_580.f hF_594
      refine e_if_neF (pc' := 600) (tgt := 604) rfl C dL_isWhole_597 (by decide) rfl ?_
      refine e_iconst (pc' := 601) (v := 1) rfl C dL_isWhole_600 (by decide) ?_
      refine e_goto (tgt := 605) C dL_isWhole_601 (by decide) ?_
      refine e_istore (pc' := 607) (D' := [(7, .int 1), (6, .int 1), (5, .int 1), (4, .int (wiN g.1 (nn (g.1 15)))), (3, .ref b), (2, .int (g.1 16)), (1, .int (g.1 12)), (0, .ref (a (2, 0, 0)))]) rfl C dL_isWhole_605 (by decide) rfl ?_
      refine e_iload_n (pc' := 608) (x := (g.1 12)) rfl C dL_isWhole_607 rfl ?_
      suffices K702 : WE X G A a Y_594 (mup nilE b (.inl (gc G 0, 4, .inl z46))) 1 4 Q 702 [(7, .int 1), (6, .int 1), (5, .int 1), (4, .int (wiN g.1 (nn (g.1 15)))), (3, .ref b), (2, .int (g.1 16)), (1, .int (g.1 12)), (0, .ref (a (2, 0, 0)))] [.int 1] by
        refine e_if_ne (pc' := 611) (tgt := 639) rfl C dL_isWhole_608 (by decide) (fun c_608 => ?_) (fun c_608 => ?_)
        · have m0 : 0 < mi := Nat.pos_of_ne_zero (fun z => c_608 (by rw [e12, z]; rfl))
          have mm : 0 < m12 mi ∧ m12 mi ≤ 12 := by unfold m12; split <;> omega
          obtain ⟨l0, l1, l2, l3⟩ := log_at e14 mm.1 mm.2
          obtain ⟨k0, k1, k2, k3⟩ := h2.2.2.2.1 c_608
          refine e_aload_n (pc' := 640) (x := (a (2, 0, 0))) rfl C dL_isWhole_639 rfl ?_
          refine e_iconst (pc' := 641) (v := 0) rfl C dL_isWhole_640 (by decide) ?_
          refine e_iconst (pc' := 642) (v := 0) rfl C dL_isWhole_641 (by decide) ?_
          refine e_q (pc' := 645) (k' := 1) (n' := 4) rfl C (q_logged _ G a hS_594 hn 0 0 (R := (g.1 0)) (l0.trans k0)) my_X12_logged aw_1015 rfl rfl rfl (Nat.le_of_ble_eq_true rfl) rfl dL_isWhole_642 rfl rfl ?_
          refine e_aload_n (pc' := 646) (x := (a (2, 0, 0))) rfl C dL_isWhole_645 rfl ?_
          refine e_iconst (pc' := 647) (v := 1) rfl C dL_isWhole_646 (by decide) ?_
          refine e_q (pc' := 650) (k' := 1) (n' := 4) rfl C (q_account _ G a hS_594 1 (R := g.1 0) acc_1) my_X12_account aw_335 rfl rfl rfl (Nat.le_of_ble_eq_true rfl) rfl dL_isWhole_647 rfl rfl ?_
          refine e_ic_neF (pc' := 653) (tgt := 701) rfl C dL_isWhole_650 (by decide) rfl ?_
          refine e_aload_n (pc' := 654) (x := (a (2, 0, 0))) rfl C dL_isWhole_653 rfl ?_
          refine e_iconst (pc' := 655) (v := 0) rfl C dL_isWhole_654 (by decide) ?_
          refine e_iconst (pc' := 656) (v := 1) rfl C dL_isWhole_655 (by decide) ?_
          refine e_q (pc' := 659) (k' := 1) (n' := 4) rfl C (q_logged _ G a hS_594 hn 0 1 (R := (g.1 9)) (l1.trans k1)) my_X12_logged aw_1015 rfl rfl rfl (Nat.le_of_ble_eq_true rfl) rfl dL_isWhole_656 rfl rfl ?_
          refine e_aload_n (pc' := 660) (x := (a (2, 0, 0))) rfl C dL_isWhole_659 rfl ?_
          refine e_bipush (pc' := 662) (v := 6) rfl C dL_isWhole_660 (by decide) ?_
          refine e_q (pc' := 665) (k' := 1) (n' := 4) rfl C (q_account _ G a hS_594 6 (R := g.1 9) acc_6) my_X12_account aw_335 rfl rfl rfl (Nat.le_of_ble_eq_true rfl) rfl dL_isWhole_662 rfl rfl ?_
          refine e_ic_neF (pc' := 668) (tgt := 701) rfl C dL_isWhole_665 (by decide) rfl ?_
          refine e_aload_n (pc' := 669) (x := (a (2, 0, 0))) rfl C dL_isWhole_668 rfl ?_
          refine e_iconst (pc' := 670) (v := 0) rfl C dL_isWhole_669 (by decide) ?_
          refine e_iconst (pc' := 671) (v := 2) rfl C dL_isWhole_670 (by decide) ?_
          refine e_q (pc' := 674) (k' := 1) (n' := 4) rfl C (q_logged _ G a hS_594 hn 0 2 (R := (g.1 7)) (l2.trans k2)) my_X12_logged aw_1015 rfl rfl rfl (Nat.le_of_ble_eq_true rfl) rfl dL_isWhole_671 rfl rfl ?_
          refine e_aload_n (pc' := 675) (x := (a (2, 0, 0))) rfl C dL_isWhole_674 rfl ?_
          refine e_iconst (pc' := 676) (v := 5) rfl C dL_isWhole_675 (by decide) ?_
          refine e_q (pc' := 679) (k' := 1) (n' := 4) rfl C (q_account _ G a hS_594 5 (R := g.1 7) acc_5) my_X12_account aw_335 rfl rfl rfl (Nat.le_of_ble_eq_true rfl) rfl dL_isWhole_676 rfl rfl ?_
          refine e_ic_neF (pc' := 682) (tgt := 701) rfl C dL_isWhole_679 (by decide) rfl ?_
          refine e_aload_n (pc' := 683) (x := (a (2, 0, 0))) rfl C dL_isWhole_682 rfl ?_
          refine e_iconst (pc' := 684) (v := 0) rfl C dL_isWhole_683 (by decide) ?_
          refine e_iconst (pc' := 685) (v := 3) rfl C dL_isWhole_684 (by decide) ?_
          refine e_q (pc' := 688) (k' := 1) (n' := 4) rfl C (q_logged _ G a hS_594 hn 0 3 (R := (g.1 126)) l3) my_X12_logged aw_1015 rfl rfl rfl (Nat.le_of_ble_eq_true rfl) rfl dL_isWhole_685 rfl rfl ?_
          refine e_aload_n (pc' := 689) (x := (a (2, 0, 0))) rfl C dL_isWhole_688 rfl ?_
          refine e_iconst (pc' := 690) (v := 0) rfl C dL_isWhole_689 (by decide) ?_
          refine e_iconst (pc' := 691) (v := 1) rfl C dL_isWhole_690 (by decide) ?_
          refine e_q (pc' := 694) (k' := 1) (n' := 4) rfl C (q_logged _ G a hS_594 hn 0 1 (R := (g.1 124)) l1) my_X12_logged aw_1015 rfl rfl rfl (Nat.le_of_ble_eq_true rfl) rfl dL_isWhole_691 rfl rfl ?_
          refine e_ic_gtF (pc' := 697) (tgt := 701) rfl C dL_isWhole_694 (by decide) (Int32.not_lt.mpr k3) ?_
          refine e_iconst (pc' := 698) (v := 1) rfl C dL_isWhole_697 (by decide) ?_
          refine e_goto (tgt := 702) C dL_isWhole_698 (by decide) ?_
          exact K702
        · have m0 : mi = 0 := (nI_eq (b := 0) (by omega) (by decide)).mp (e12.symm.trans c_608)
          refine e_aload_n (pc' := 612) (x := (a (2, 0, 0))) rfl C dL_isWhole_611 rfl ?_
          refine e_iconst (pc' := 613) (v := 0) rfl C dL_isWhole_612 (by decide) ?_
          refine e_iconst (pc' := 614) (v := 0) rfl C dL_isWhole_613 (by decide) ?_
          refine e_q (pc' := 617) (k' := 1) (n' := 4) rfl C (q_logged _ G a hS_594 hn 0 0 (R := (-10001)) (log_no (by rw [e14, m0]; rfl))) my_X12_logged aw_1015 rfl rfl rfl (Nat.le_of_ble_eq_true rfl) rfl dL_isWhole_614 rfl rfl ?_
          refine e_sipush (pc' := 620) (v := (-10001)) rfl C dL_isWhole_617 (by decide) ?_
          refine e_ic_neF (pc' := 623) (tgt := 635) rfl C dL_isWhole_620 (by decide) rfl ?_
          refine e_aload_n (pc' := 624) (x := (a (2, 0, 0))) rfl C dL_isWhole_623 rfl ?_
          refine e_iconst (pc' := 625) (v := 5) rfl C dL_isWhole_624 (by decide) ?_
          refine e_q (pc' := 628) (k' := 1) (n' := 4) rfl C (q_account _ G a hS_594 5 (R := g.1 7) acc_5) my_X12_account aw_335 rfl rfl rfl (Nat.le_of_ble_eq_true rfl) rfl dL_isWhole_625 rfl rfl ?_
          refine e_if_neF (pc' := 631) (tgt := 635) rfl C dL_isWhole_628 (by decide) (h2.2.2.1 c_608) ?_
          refine e_iconst (pc' := 632) (v := 1) rfl C dL_isWhole_631 (by decide) ?_
          refine e_goto (tgt := 702) C dL_isWhole_632 (by decide) ?_
          exact K702
      refine e_istore (pc' := 704) (D' := [(8, .int 1), (7, .int 1), (6, .int 1), (5, .int 1), (4, .int (wiN g.1 (nn (g.1 15)))), (3, .ref b), (2, .int (g.1 16)), (1, .int (g.1 12)), (0, .ref (a (2, 0, 0)))]) rfl C dL_isWhole_702 (by decide) rfl ?_
      refine e_aload_n (pc' := 705) (x := (a (2, 0, 0))) rfl C dL_isWhole_704 rfl ?_
      refine e_f (pc' := 708) (k' := 1) (n' := 4) rfl C (q_settlesIn _ G a hS_594 hn  (R := settleF g.1) rfl) my_X12_settlesIn aw_1059 rfl rfl rfl (Nat.le_of_ble_eq_true rfl) rfl dL_isWhole_705 rfl rfl (fun Y_705 hF_705 => ?_)
      have hS_705 := hS_594.f hF_705
      refine e_istore (pc' := 710) (D' := [(9, .int (settleF g.1)), (8, .int 1), (7, .int 1), (6, .int 1), (5, .int 1), (4, .int (wiN g.1 (nn (g.1 15)))), (3, .ref b), (2, .int (g.1 16)), (1, .int (g.1 12)), (0, .ref (a (2, 0, 0)))]) rfl C dL_isWhole_708 (by decide) rfl ?_
      refine e_iload_n (pc' := 711) (x := (g.1 12)) rfl C dL_isWhole_710 rfl ?_
      suffices K723 : WE X G A a Y_705 (mup nilE b (.inl (gc G 0, 4, .inl z46))) 1 4 Q 723 [(9, .int (settleF g.1)), (8, .int 1), (7, .int 1), (6, .int 1), (5, .int 1), (4, .int (wiN g.1 (nn (g.1 15)))), (3, .ref b), (2, .int (g.1 16)), (1, .int (g.1 12)), (0, .ref (a (2, 0, 0)))] [.double (mbF (g.1 16) (g.1 12))] by
        refine e_if_ne (pc' := 714) (tgt := 718) rfl C dL_isWhole_711 (by decide) (fun c_711 => ?_) (fun c_711 => ?_)
        · refine e_iload_n (pc' := 719) (x := (g.1 16)) rfl C dL_isWhole_718 rfl ?_
          refine e_i2d (pc' := 720) rfl C dL_isWhole_719 ?_
          refine e_iload_n (pc' := 721) (x := (g.1 12)) rfl C dL_isWhole_720 rfl ?_
          refine e_i2d (pc' := 722) rfl C dL_isWhole_721 ?_
          refine e_ddiv (pc' := 723) rfl C (vf64_of (dv_n c_711)) dL_isWhole_722 ?_
          exact e_topd (mb_n c_711).symm K723
        · refine e_dconst (pc' := 715) rfl C dL_isWhole_714 ?_
          refine e_goto (tgt := 723) C dL_isWhole_715 (by decide) ?_
          exact e_topd (mb_0 c_711).symm K723
      refine e_dstore (pc' := 725) (D' := [(10, .double (mbF (g.1 16) (g.1 12))), (9, .int (settleF g.1)), (8, .int 1), (7, .int 1), (6, .int 1), (5, .int 1), (4, .int (wiN g.1 (nn (g.1 15)))), (3, .ref b), (2, .int (g.1 16)), (1, .int (g.1 12)), (0, .ref (a (2, 0, 0)))]) rfl C dL_isWhole_723 (by decide) rfl ?_
      refine e_aload_n (pc' := 726) (x := (a (2, 0, 0))) rfl C dL_isWhole_725 rfl ?_
      refine e_bipush (pc' := 728) (v := 10) rfl C dL_isWhole_726 (by decide) ?_
      refine e_q (pc' := 731) (k' := 1) (n' := 4) rfl C (q_account _ G a hS_705 10 (R := g.1 15) acc_10) my_X12_account aw_335 rfl rfl rfl (Nat.le_of_ble_eq_true rfl) rfl dL_isWhole_728 rfl rfl ?_
      suffices K750 : WE X G A a Y_705 (mup nilE b (.inl (gc G 0, 4, .inl z46))) 1 4 Q 750 [(10, .double (mbF (g.1 16) (g.1 12))), (9, .int (settleF g.1)), (8, .int 1), (7, .int 1), (6, .int 1), (5, .int 1), (4, .int (wiN g.1 (nn (g.1 15)))), (3, .ref b), (2, .int (g.1 16)), (1, .int (g.1 12)), (0, .ref (a (2, 0, 0)))] [.float (fsF (manyN g.1 2 (nn (g.1 15))) (g.1 15))] by
        refine e_if_ne (pc' := 734) (tgt := 738) rfl C dL_isWhole_731 (by decide) (fun c_731 => ?_) (fun c_731 => ?_)
        · refine e_aload_n (pc' := 739) (x := b) rfl C dL_isWhole_738 rfl ?_
          refine e_iconst (pc' := 740) (v := 2) rfl C dL_isWhole_739 (by decide) ?_
          refine e_iald (pc' := 741) rfl C eb (show vp_in (nI 2) 4 from vp_in_nI (by decide) (by decide)) dL_isWhole_740 ?_
          refine e_top (y := (manyN g.1 2 (nn (g.1 15)))) ((show z46 (Int32.toNatClampNeg 2) = z46 2 from rfl).trans (hz46 2 (by decide))) ?_
          refine e_i2f (pc' := 742) rfl C dL_isWhole_741 ?_
          refine e_aload_n (pc' := 743) (x := (a (2, 0, 0))) rfl C dL_isWhole_742 rfl ?_
          refine e_bipush (pc' := 745) (v := 10) rfl C dL_isWhole_743 (by decide) ?_
          refine e_q (pc' := 748) (k' := 1) (n' := 4) rfl C (q_account _ G a hS_705 10 (R := g.1 15) acc_10) my_X12_account aw_335 rfl rfl rfl (Nat.le_of_ble_eq_true rfl) rfl dL_isWhole_745 rfl rfl ?_
          refine e_i2f (pc' := 749) rfl C dL_isWhole_748 ?_
          refine e_fdiv (pc' := 750) rfl C (vf32_of (fv_n c_731)) dL_isWhole_749 ?_
          exact e_topf (fs_n c_731).symm K750
        · refine e_fconst (pc' := 735) rfl C dL_isWhole_734 ?_
          refine e_goto (tgt := 750) C dL_isWhole_735 (by decide) ?_
          exact e_topf (fs_0 c_731).symm K750
      refine e_fstore (pc' := 752) (D' := [(12, .float (fsF (manyN g.1 2 (nn (g.1 15))) (g.1 15))), (10, .double (mbF (g.1 16) (g.1 12))), (9, .int (settleF g.1)), (8, .int 1), (7, .int 1), (6, .int 1), (5, .int 1), (4, .int (wiN g.1 (nn (g.1 15)))), (3, .ref b), (2, .int (g.1 16)), (1, .int (g.1 12)), (0, .ref (a (2, 0, 0)))]) rfl C dL_isWhole_750 (by decide) rfl ?_
      refine e_iload (pc' := 754) (x := 1) rfl C dL_isWhole_752 rfl ?_
      refine e_if_eqF (pc' := 757) (tgt := 843) rfl C dL_isWhole_754 (by decide) (by decide) ?_
      refine e_iload (pc' := 759) (x := 1) rfl C dL_isWhole_757 rfl ?_
      refine e_if_eqF (pc' := 762) (tgt := 843) rfl C dL_isWhole_759 (by decide) (by decide) ?_
      refine e_iload (pc' := 764) (x := 1) rfl C dL_isWhole_762 rfl ?_
      refine e_if_eqF (pc' := 767) (tgt := 843) rfl C dL_isWhole_764 (by decide) (by decide) ?_
      refine e_iload (pc' := 769) (x := 1) rfl C dL_isWhole_767 rfl ?_
      refine e_if_eqF (pc' := 772) (tgt := 843) rfl C dL_isWhole_769 (by decide) (by decide) ?_
      refine e_iload (pc' := 774) (x := (settleF g.1)) rfl C dL_isWhole_772 rfl ?_
      refine e_sipush (pc' := 777) (v := (-10005)) rfl C dL_isWhole_774 (by decide) ?_
      suffices K795 : WE X G A a Y_705 (mup nilE b (.inl (gc G 0, 4, .inl z46))) 1 4 Q 795 [(12, .float (fsF (manyN g.1 2 (nn (g.1 15))) (g.1 15))), (10, .double (mbF (g.1 16) (g.1 12))), (9, .int (settleF g.1)), (8, .int 1), (7, .int 1), (6, .int 1), (5, .int 1), (4, .int (wiN g.1 (nn (g.1 15)))), (3, .ref b), (2, .int (g.1 16)), (1, .int (g.1 12)), (0, .ref (a (2, 0, 0)))] [] by
        refine e_ic_eq (pc' := 780) (tgt := 795) rfl C dL_isWhole_777 (by decide) (fun c_777 => ?_) (fun c_777 => ?_)
        · exact K795
        · obtain ⟨u, u1, u2, hu⟩ := (settle_f g.1).resolve_left c_777
          refine e_iload (pc' := 782) (x := (settleF g.1)) rfl C dL_isWhole_780 rfl ?_
          refine e_bipush (pc' := 784) (v := 10) rfl C dL_isWhole_782 (by decide) ?_
          refine e_ic_ltF (pc' := 787) (tgt := 843) rfl C dL_isWhole_784 (by decide) (by rw [hu]; exact nI_nlt (a := u) (b := 10) u1 (by omega)) ?_
          refine e_iload (pc' := 789) (x := (settleF g.1)) rfl C dL_isWhole_787 rfl ?_
          refine e_sipush (pc' := 792) (v := 300) rfl C dL_isWhole_789 (by decide) ?_
          refine e_ic_gtF (pc' := 795) (tgt := 843) rfl C dL_isWhole_792 (by decide) (by rw [hu]; exact nI_nlt (a := 300) u2 (by decide)) ?_
          exact K795
      refine e_aload_n (pc' := 796) (x := (a (2, 0, 0))) rfl C dL_isWhole_795 rfl ?_
      refine e_cV (pc' := 799) (k' := 1) (n' := 4) rfl C (i := (2, 0, 0)) (q_meanBurnt _ G a hS_705 hn) my_X12_meanBurnt aw_1063 (v2 rfl) rfl rfl rfl (As := []) rfl rfl (Nat.le_of_ble_eq_true rfl) rfl dL_isWhole_796 rfl rfl (fun v Ym hp => ?_)
      obtain ⟨r, rfl, hr, hY⟩ := hp
      subst hr
      cases hY
      refine e_dload (pc' := 801) (x := (mbF (g.1 16) (g.1 12))) rfl C dL_isWhole_799 rfl ?_
      refine e_dcmp (pc' := 802) rfl C dL_isWhole_801 ?_
      refine e_top (y := 0) (mb_cmp _ _) ?_
      refine e_if_neF (pc' := 805) (tgt := 843) rfl C dL_isWhole_802 (by decide) rfl ?_
      refine e_aload_n (pc' := 806) (x := (a (2, 0, 0))) rfl C dL_isWhole_805 rfl ?_
      refine e_cV (pc' := 809) (k' := 1) (n' := 4) rfl C (i := (2, 0, 0)) (q_firedShare _ G a hS_705 hn) my_X12_firedShare aw_1067 (v2 rfl) rfl rfl rfl (As := []) rfl rfl (Nat.le_of_ble_eq_true rfl) rfl dL_isWhole_806 rfl rfl (fun v Ym hp => ?_)
      obtain ⟨r, rfl, hr, hY⟩ := hp
      subst hr
      cases hY
      refine e_fload (pc' := 811) (x := (fsF (manyN g.1 2 (nn (g.1 15))) (g.1 15))) rfl C dL_isWhole_809 rfl ?_
      refine e_fcmp (pc' := 812) rfl C dL_isWhole_811 ?_
      refine e_top (y := 0) (fs_cmp _ _) ?_
      refine e_if_neF (pc' := 815) (tgt := 843) rfl C dL_isWhole_812 (by decide) rfl ?_
      refine e_aload_n (pc' := 816) (x := (a (2, 0, 0))) rfl C dL_isWhole_815 rfl ?_
      refine e_q (pc' := 819) (k' := 1) (n' := 4) rfl C (q_isBalanced _ G a hS_705 hn  (R := 1) (bal_1 hS.I h2)) my_X12_isBalanced aw_1072 rfl rfl rfl (Nat.le_of_ble_eq_true rfl) rfl dL_isWhole_816 rfl rfl ?_
      refine e_iconst (pc' := 820) (v := 1) rfl C dL_isWhole_819 (by decide) ?_
      refine e_ic_neF (pc' := 823) (tgt := 843) rfl C dL_isWhole_820 (by decide) rfl ?_
      refine e_aload_n (pc' := 824) (x := (a (2, 0, 0))) rfl C dL_isWhole_823 rfl ?_
      refine e_aload_n (pc' := 825) (x := (a (2, 0, 0))) rfl C dL_isWhole_824 rfl ?_
      refine e_bipush (pc' := 827) (v := 10) rfl C dL_isWhole_825 (by decide) ?_
      refine e_q (pc' := 830) (k' := 1) (n' := 4) rfl C (q_account _ G a hS_705 10 (R := (nI (nn (g.1 15)))) (acc_10.trans n15)) my_X12_account aw_335 rfl rfl rfl (Nat.le_of_ble_eq_true rfl) rfl dL_isWhole_827 rfl rfl ?_
      refine e_q (pc' := 833) (k' := 1) (n' := 4) rfl C (q_ranked _ G a hS_705 hn (nI (nn (g.1 15))) (R := (-10001)) hno) my_X12_ranked aw_1035 rfl rfl rfl (Nat.le_of_ble_eq_true rfl) rfl dL_isWhole_830 rfl rfl ?_
      refine e_sipush (pc' := 836) (v := (-10001)) rfl C dL_isWhole_833 (by decide) ?_
      refine e_ic_neF (pc' := 839) (tgt := 843) rfl C dL_isWhole_836 (by decide) rfl ?_
      refine e_iconst (pc' := 840) (v := 1) rfl C dL_isWhole_839 (by decide) ?_
      refine e_goto (tgt := 844) C dL_isWhole_840 (by decide) ?_
      subst hQ
      exact e_ireturn C rfl (by decide) dL_isWhole_844 rfl rfl ⟨rfl, _, hS_705⟩
