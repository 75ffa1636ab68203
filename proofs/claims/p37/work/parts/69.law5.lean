/-! THE LAW: does; its builders and Strings lie in E. -/
theorem my_J4_append_15ec4 : MV yJ4_append_15ec4 cJ4_append_15ec4 2 (some (.object "java/lang/StringBuilder")) 1 := ⟨aw_529, aw_26, ⟨by decide, by decide, by decide +kernel⟩, aw_527, aw_528⟩
theorem my_J4_append_bf812 : MV yJ4_append_bf812 cJ4_append_bf812 2 (some (.object "java/lang/StringBuilder")) 1 := ⟨aw_649, aw_26, ⟨by decide, by decide, by decide +kernel⟩, aw_647, aw_648⟩
theorem my_J4_toString_0e30d : MV yJ4_toString_0e30d cJ4_toString_0e30d 1 (some (.object "java/lang/String")) 0 := ⟨aw_677, aw_26, ⟨by decide, by decide, by decide +kernel⟩, aw_675, aw_676⟩
def CH (z : Nat → Int32) (n : Nat) : Prop := ∀ j, j < n → ∃ w, 32 ≤ w ∧ w ≤ 126 ∧ z j = nI w
/-- a builder b over the bytes v, with B characters at most -/
def SBE (G : GT) (E : Mem) (b v B : Nat) : Prop := ∃ (n cap : Nat) (ml : Int32) (z : Nat → Int32), n ≤ B ∧ E b = some (.inr (0, [.ref v, .int 0, .int ml, .int (nI n)])) ∧ E v = some (.inl (gc G 1, cap, .inl z)) ∧ n ≤ cap ∧ cap ≤ 200 ∧ sb_Fit z ∧ CH z n
def STE (G : GT) (E : Mem) (x u B : Nat) : Prop := ∃ (m : Nat) (hs hz : Int32) (y : Nat → Int32), m ≤ B ∧ E x = some (.inr (12, [.ref u, .int 0, .int hs, .int hz])) ∧ E u = some (.inl (gc G 1, m, .inl y)) ∧ sb_Fit y ∧ CH y m
def FRB (E E' : Mem) (b v w : Nat) : Prop := (w = v ∨ E w = none) ∧ ∀ q, q ≠ b → q ≠ v → E q ≠ none → E' q = E q
theorem frb_of {G : GT} {E E' : Mem} {b v n w cap : Nat} {ml : Int32} {z : Nat → Int32} (h : SBx G E E' b v n ml w cap z) : FRB E E' b v w := by
  obtain ⟨h1, h2, h3, h4, h5, h6⟩ := h
  refine ⟨h5, fun q g1 g2 g3 => h6 q g1 (fun z => ?_)⟩
  rcases h5 with e | e
  · exact g2 (z.trans e)
  · rw [z] at g3
    exact g3 e
theorem ch_app {z z' y : Nat → Int32} {n N : Nat} (h : CH z n) (h1 : ∀ j, j < n → z' j = z j) (h2 : ∀ i, i < N → z' (n + i) = y i) (hy : CH y N) : CH z' (n + N) := by
  intro j hj
  rcases Nat.lt_or_ge j n with c | c
  · rw [h1 j c]
    exact h j c
  · have e := h2 (j - n) (by omega)
    rw [show n + (j - n) = j by omega] at e
    rw [e]
    exact hy (j - n) (by omega)
theorem ch_cst : ∀ i, 19 ≤ i ∧ i < 25 → slen.getD i 0 ≤ 5 ∧ CH (fun j => (sbyt.getD i []).getD j 0) (slen.getD i 0) := by
  have h0 : ∀ i, i < 25 → 19 ≤ i → slen.getD i 0 ≤ 5 ∧ ∀ j, j < slen.getD i 0 → 32 ≤ nn ((sbyt.getD i []).getD j 0) ∧ nn ((sbyt.getD i []).getD j 0) ≤ 126 ∧ (sbyt.getD i []).getD j 0 = nI (nn ((sbyt.getD i []).getD j 0)) := by decide
  intro i hi
  obtain ⟨h1, h2⟩ := h0 i hi.2 hi.1
  exact ⟨h1, fun j hj => ⟨_, h2 j hj⟩⟩
theorem ch_dec (x : Nat) : CH (fun i => nI (sb_dec x i)) (sb_dg x) := fun i _ => ⟨sb_dec x i, by unfold sb_dec; omega, by unfold sb_dec; omega, rfl⟩
theorem dg3' {x : Nat} (h : x < 1000) : sb_dg x ≤ 3 := by
  unfold sb_dg
  (repeat' split) <;> omega
theorem k_init (l : Launch) (G : GT) (E : Mem) (b : Nat) (hb : E b = some (.inr (0, [.null, .int 0, .int 0, .int 0]))) : Ct l G yJ4_init_da8c8 cJ4_init_da8c8 1 none ({ frames := 3, cells := 1, slots := 16, locals := 61 } : Room) [.ref b] E (fun ov E' => ov = none ∧ ∃ w, SBE G E' b w 0 ∧ E w = none ∧ ∀ q, q ≠ b → E q ≠ none → E' q = E q) := by
  refine (j_J4_init_da8c8 l G E b b hb).mono (fun ov E' hp => ?_)
  obtain ⟨h0, w, h1, h2, h3, h4, h5, h6⟩ := hp
  have hw : E w = none := by
    rcases h5 with e | e
    · rw [e, h1] at h2
      cases h2
    · exact e
  exact ⟨h0, w, ⟨0, 16, 0, _, Nat.le_refl _, h1, h2, by omega, h3, h4, fun j hj => absurd hj (Nat.not_lt_zero j)⟩, hw, fun q g1 g2 => h6 q g1 (fun e => by rw [e] at g2; exact g2 hw)⟩
theorem k_apc (l : Launch) (G : GT) (E : Mem) (b v B i : Nat) (h : SBE G E b v B) (hi : 19 ≤ i ∧ i < 25) (hB : B + 5 ≤ 90) : Ct l G yJ4_append_15ec4 cJ4_append_15ec4 2 (some (.object "java/lang/StringBuilder")) ({ frames := 9, cells := 1, slots := 200, locals := 202 } : Room) [.ref b, .ref (gK G i)] E (fun ov E' => ∃ r, ov = some (.ref r) ∧ (r = b ∧ ∃ w, SBE G E' b w (B + 5) ∧ FRB E E' b v w)) := by
  obtain ⟨n, cap, ml, z, h0, h1, h2, h3, h4, h5, h6⟩ := h
  obtain ⟨s5, sc⟩ := ch_cst i hi
  refine (j_J4c_append l G E b v n cap ml z i h1 h2 ⟨by omega, hi.2⟩ h3 h4 h5 (by omega)).mono (fun ov E' hp => ?_)
  obtain ⟨r, g0, g1, w, cap', z', g2, g3, g4, g5⟩ := hp
  exact ⟨r, g0, g1, w, ⟨_, cap', ml, z', by omega, g2.1, g2.2.1, g3, g2.2.2.1, g2.2.2.2.1, ch_app h6 g4 g5 sc⟩, frb_of g2⟩
theorem k_api (l : Launch) (G : GT) (E : Mem) (b v B x : Nat) (h : SBE G E b v B) (hx : x < 1000) (hB : B + 3 ≤ 90) : Ct l G yJ4_append_bf812 cJ4_append_bf812 2 (some (.object "java/lang/StringBuilder")) ({ frames := 5, cells := 1, slots := 200, locals := 127 } : Room) [.ref b, .int (nI x)] E (fun ov E' => ∃ r, ov = some (.ref r) ∧ (r = b ∧ ∃ w, SBE G E' b w (B + 3) ∧ FRB E E' b v w)) := by
  obtain ⟨n, cap, ml, z, h0, h1, h2, h3, h4, h5, h6⟩ := h
  have s3 := dg3' hx
  refine (j_J4_append_bf812 l G E b v n cap x ml z h1 h2 h3 h4 h5 (by omega) (by omega)).mono (fun ov E' hp => ?_)
  obtain ⟨r, g0, g1, w, cap', z', g2, g3, g4, g5⟩ := hp
  exact ⟨r, g0, g1, w, ⟨_, cap', ml, z', by omega, g2.1, g2.2.1, g3, g2.2.2.1, g2.2.2.2.1, ch_app h6 g4 g5 (ch_dec x)⟩, frb_of g2⟩
theorem k_apd (l : Launch) (G : GT) (E : Mem) (b v B x u B2 : Nat) (h : SBE G E b v B) (hs : STE G E x u B2) (huv : u ≠ v) (hB : B + B2 ≤ 90) : Ct l G yJ4_append_15ec4 cJ4_append_15ec4 2 (some (.object "java/lang/StringBuilder")) ({ frames := 9, cells := 1, slots := 200, locals := 202 } : Room) [.ref b, .ref x] E (fun ov E' => ∃ r, ov = some (.ref r) ∧ (r = b ∧ ∃ w, SBE G E' b w (B + B2) ∧ FRB E E' b v w)) := by
  obtain ⟨n, cap, ml, z, h0, h1, h2, h3, h4, h5, h6⟩ := h
  obtain ⟨m, a1, a2, y, k0, k1, k2, k3, k4⟩ := hs
  refine (j_J4d_append l G E b v n cap ml z x u a1 a2 m y h1 h2 k1 k2 h3 h4 h5 (by omega) k3 huv).mono (fun ov E' hp => ?_)
  obtain ⟨r, g0, g1, w, cap', z', g2, g3, g4, g5⟩ := hp
  exact ⟨r, g0, g1, w, ⟨_, cap', ml, z', by omega, g2.1, g2.2.1, g3, g2.2.2.1, g2.2.2.2.1, ch_app h6 g4 g5 k4⟩, frb_of g2⟩
theorem k_tos (l : Launch) (G : GT) (E : Mem) (b v B : Nat) (h : SBE G E b v B) : Ct l G yJ4_toString_0e30d cJ4_toString_0e30d 1 (some (.object "java/lang/String")) ({ frames := 7, cells := 2, slots := 204, locals := 163 } : Room) [.ref b] E (fun ov E' => ∃ r, ov = some (.ref r) ∧ (∃ u, STE G E' r u B ∧ E r = none ∧ E u = none ∧ ∀ q, E q ≠ none → E' q = E q)) := by
  obtain ⟨n, cap, ml, z, h0, h1, h2, h3, h4, h5, h6⟩ := h
  refine (j_J4_toString_0e30d l G E b v n cap ml z h1 h2 h3 h4 h5).mono (fun ov E' hp => ?_)
  obtain ⟨r, g0, g1, w, y, g2, g3, g4, g5, g6, g7⟩ := hp
  exact ⟨r, g0, w, ⟨n, 0, 0, y, h0, g2, g3, g4, fun j hj => by rw [g5 j hj]; exact h6 j hj⟩, g1, g6, fun q hq => g7 q (fun e => hq (by rw [e]; exact g1)) (fun e => hq (by rw [e]; exact g6))⟩
theorem SBE.ne {G : GT} {E : Mem} {b v B : Nat} (h : SBE G E b v B) : E b ≠ none ∧ E v ≠ none ∧ b ≠ v := by
  obtain ⟨n, cap, ml, z, h0, h1, h2, -⟩ := h
  exact ⟨by rw [h1]; simp, by rw [h2]; simp, fun e => by rw [e, h2] at h1; cases h1⟩
theorem SBE.kept {G : GT} {E E' : Mem} {b v B : Nat} (h : SBE G E b v B) (e1 : E' b = E b) (e2 : E' v = E v) : SBE G E' b v B := by
  obtain ⟨n, cap, ml, z, h0, h1, h2, h3⟩ := h
  exact ⟨n, cap, ml, z, h0, e1.trans h1, e2.trans h2, h3⟩
/-- an outer builder, and an inner one apart from it -/
def P2 (G : GT) (E : Mem) (b v B c w C : Nat) : Prop := SBE G E b v B ∧ SBE G E c w C ∧ b ≠ c ∧ b ≠ w ∧ v ≠ c ∧ v ≠ w
theorem P2.step {G : GT} {E E' : Mem} {b v B c w C w' C' : Nat} (h : P2 G E b v B c w C) (h1 : SBE G E' c w' C') (h2 : FRB E E' c w w') : P2 G E' b v B c w' C' := by
  obtain ⟨g1, g2, g3, g4, g5, g6⟩ := h
  obtain ⟨k1, k2, -⟩ := g1.ne
  have hw : ∀ q, q ≠ w → E q ≠ none → q ≠ w' := fun q hq hn e => by
    rcases h2.1 with z | z
    · exact hq (e.trans z)
    · rw [e] at hn
      exact hn z
  exact ⟨g1.kept (h2.2 b g3 g4 k1) (h2.2 v g5 g6 k2), h1, g3, hw b g4 k1, g5, hw v g6 k2⟩
theorem cn_L_90 : CN "KilnKeeperLaw" 90 0 4 tyJ4 := ⟨RJ4, TJ4, rfl, aw_523, aw_246, aw_26, in_TJ4, tyJ4_ok⟩
set_option maxHeartbeats 4000000 in
set_option maxRecDepth 20000 in
theorem c_L_does (l : Launch) (G : GT) (a : Id3 → Nat) (Y : YT) (n c st ll : Nat) (g : GH) (k kd : Nat) (hS : SS Y n c st 0 ll g) (hn8 : n ≤ 80000) (h2 : I2 g.1) (hk : k < 10000) (hkd : kd < 22) (hg : gst G 5 ≤ 260) : CtY l G a yL_does cL_does 6 (some .int) ({ frames := 12, cells := 80, slots := 14848, locals := 275 } : Room) [.ref (gst G 4), .int (nI k), .int (nI kd), .ref (a (2, 0, 0))] Y (PI (fun r Y' => DP n c g r Y')) := by
  refine CtY.ofE (by decide) (Nat.le_of_ble_eq_true rfl) ?_
  intro X A C hl
  subst hl
  generalize hQ : MEnd X G A ({ frames := 12, cells := 80, slots := 14848, locals := 275 } : Room) (PY G a (PI (fun r Y' => DP n c g r Y'))) = Q
  refine e_aload_n (pc' := 1) (x := (gst G 4)) rfl C dL_does_0 rfl ?_
  refine e_iload_n (pc' := 2) (x := (nI k)) rfl C dL_does_1 rfl ?_
  refine e_iconst (pc' := 3) (v := 1) rfl C dL_does_2 (by decide) ?_
  refine e_iadd (pc' := 4) rfl C dL_does_3 ?_
  refine e_top (y := (nI (k + 1))) (nI_add k 1) ?_
  refine e_sipush (pc' := 7) (v := 1000) rfl C dL_does_4 (by decide) ?_
  refine e_Si (pc' := 10) (k' := 0) (n' := 0) rfl C (c_L_pick _ G a Y (k + 1) 1000 (by omega) hg (by decide) (by decide)) my_L_pick aw_370 rfl rfl (Nat.le_of_ble_eq_true rfl) rfl dL_does_7 rfl rfl (fun r1 Y1 hp1 => ?_)
  obtain ⟨hY1, v, hv, hr1⟩ := hp1
  subst hr1
  cases hY1
  refine e_istore (pc' := 12) (D' := [(4, .int (nI v)), (0, .ref (gst G 4)), (1, .int (nI k)), (2, .int (nI kd)), (3, .ref (a (2, 0, 0)))]) rfl C dL_does_10 (by decide) rfl ?_
  refine e_aload_n (pc' := 13) (x := (gst G 4)) rfl C dL_does_12 rfl ?_
  refine e_iload_n (pc' := 14) (x := (nI k)) rfl C dL_does_13 rfl ?_
  refine e_iconst (pc' := 15) (v := 2) rfl C dL_does_14 (by decide) ?_
  refine e_iadd (pc' := 16) rfl C dL_does_15 ?_
  refine e_top (y := (nI (k + 2))) (nI_add k 2) ?_
  refine e_sipush (pc' := 19) (v := 1000) rfl C dL_does_16 (by decide) ?_
  refine e_Si (pc' := 22) (k' := 0) (n' := 0) rfl C (c_L_pick _ G a Y (k + 2) 1000 (by omega) hg (by decide) (by decide)) my_L_pick aw_370 rfl rfl (Nat.le_of_ble_eq_true rfl) rfl dL_does_19 rfl rfl (fun r2 Y2 hp2 => ?_)
  obtain ⟨hY2, u, hu, hr2⟩ := hp2
  subst hr2
  cases hY2
  refine e_istore (pc' := 24) (D' := [(5, .int (nI u)), (4, .int (nI v)), (0, .ref (gst G 4)), (1, .int (nI k)), (2, .int (nI kd)), (3, .ref (a (2, 0, 0)))]) rfl C dL_does_22 (by decide) rfl ?_
  refine e_iload_n (pc' := 25) (x := (nI kd)) rfl C dL_does_24 rfl ?_
  refine e_D (D' := [(5, .int (nI u)), (4, .int (nI v)), (3, .ref (a (2, 0, 0)))]) (List.forall_mem_cons.mpr ⟨rfl, List.forall_mem_cons.mpr ⟨rfl, List.forall_mem_cons.mpr ⟨rfl, fun _ h => absurd h List.not_mem_nil⟩⟩⟩) ?_
  suffices K108 : WE X G A a Y nilE 0 0 Q 108 [(5, .int (nI u)), (4, .int (nI v)), (3, .ref (a (2, 0, 0)))] [] by
    suffices K136 : WE X G A a Y nilE 0 0 Q 136 [(5, .int (nI u)), (4, .int (nI v)), (3, .ref (a (2, 0, 0)))] [] by
      suffices K156 : WE X G A a Y nilE 0 0 Q 156 [(5, .int (nI u)), (4, .int (nI v)), (3, .ref (a (2, 0, 0)))] [] by
        suffices K182 : WE X G A a Y nilE 0 0 Q 182 [(5, .int (nI u)), (4, .int (nI v)), (3, .ref (a (2, 0, 0)))] [] by
          suffices K192 : WE X G A a Y nilE 0 0 Q 192 [(5, .int (nI u)), (4, .int (nI v)), (3, .ref (a (2, 0, 0)))] [] by
            suffices K217 : WE X G A a Y nilE 0 0 Q 217 [(5, .int (nI u)), (4, .int (nI v)), (3, .ref (a (2, 0, 0)))] [] by
              suffices K241 : WE X G A a Y nilE 0 0 Q 241 [(5, .int (nI u)), (4, .int (nI v)), (3, .ref (a (2, 0, 0)))] [] by
                suffices K251 : WE X G A a Y nilE 0 0 Q 251 [(5, .int (nI u)), (4, .int (nI v)), (3, .ref (a (2, 0, 0)))] [] by
                  suffices K261 : WE X G A a Y nilE 0 0 Q 261 [(5, .int (nI u)), (4, .int (nI v)), (3, .ref (a (2, 0, 0)))] [] by
                    suffices K406 : WE X G A a Y nilE 0 0 Q 406 [(5, .int (nI u)), (4, .int (nI v)), (3, .ref (a (2, 0, 0)))] [] by
                      rcases Nat.lt_or_ge kd 17 with hk17 | hk17
                      · clear hkd
                        match kd, hk17 with
                        | 0, _ => exact e_tabC (tgt := 108) (v := 0) C rfl dL_does_25 (by decide) (by decide) rfl (by decide) K108
                        | 1, _ => exact e_tabC (tgt := 108) (v := 1) C rfl dL_does_25 (by decide) (by decide) rfl (by decide) K108
                        | 2, _ => exact e_tabC (tgt := 136) (v := 2) C rfl dL_does_25 (by decide) (by decide) rfl (by decide) K136
                        | 3, _ => exact e_tabC (tgt := 136) (v := 3) C rfl dL_does_25 (by decide) (by decide) rfl (by decide) K136
                        | 4, _ => exact e_tabC (tgt := 156) (v := 4) C rfl dL_does_25 (by decide) (by decide) rfl (by decide) K156
                        | 5, _ => exact e_tabC (tgt := 182) (v := 5) C rfl dL_does_25 (by decide) (by decide) rfl (by decide) K182
                        | 6, _ => exact e_tabC (tgt := 182) (v := 6) C rfl dL_does_25 (by decide) (by decide) rfl (by decide) K182
                        | 7, _ => exact e_tabC (tgt := 192) (v := 7) C rfl dL_does_25 (by decide) (by decide) rfl (by decide) K192
                        | 8, _ => exact e_tabC (tgt := 192) (v := 8) C rfl dL_does_25 (by decide) (by decide) rfl (by decide) K192
                        | 9, _ => exact e_tabC (tgt := 192) (v := 9) C rfl dL_does_25 (by decide) (by decide) rfl (by decide) K192
                        | 10, _ => exact e_tabC (tgt := 217) (v := 10) C rfl dL_does_25 (by decide) (by decide) rfl (by decide) K217
                        | 11, _ => exact e_tabC (tgt := 217) (v := 11) C rfl dL_does_25 (by decide) (by decide) rfl (by decide) K217
                        | 12, _ => exact e_tabC (tgt := 241) (v := 12) C rfl dL_does_25 (by decide) (by decide) rfl (by decide) K241
                        | 13, _ => exact e_tabC (tgt := 241) (v := 13) C rfl dL_does_25 (by decide) (by decide) rfl (by decide) K241
                        | 14, _ => exact e_tabC (tgt := 241) (v := 14) C rfl dL_does_25 (by decide) (by decide) rfl (by decide) K241
                        | 15, _ => exact e_tabC (tgt := 251) (v := 15) C rfl dL_does_25 (by decide) (by decide) rfl (by decide) K251
                        | 16, _ => exact e_tabC (tgt := 261) (v := 16) C rfl dL_does_25 (by decide) (by decide) rfl (by decide) K261
                        | q + 17, hq => exact absurd hq (by omega)
                      · exact e_tabO (tgt := 406) C dL_does_25 (Or.inr (by rw [nI_toInt (by omega)]; omega)) (by decide) K406
                    refine e_aload_n (pc' := 407) (x := (a (2, 0, 0))) rfl C dL_does_406 rfl ?_
                    refine e_iload (pc' := 409) (x := (nI v)) rfl C dL_does_407 rfl ?_
                    refine e_bipush (pc' := 411) (v := 6) rfl C dL_does_409 (by decide) ?_
                    refine e_irem (pc' := 412) rfl C (by decide) dL_does_411 ?_
                    refine e_if_ne (pc' := 415) (tgt := 424) rfl C dL_does_412 (by decide) (fun c_412 => ?_) (fun c_412 => ?_)
                    · refine e_iconst (pc' := 425) (v := 1) rfl C dL_does_424 (by decide) ?_
                      refine e_iload (pc' := 427) (x := (nI v)) rfl C dL_does_425 rfl ?_
                      refine e_bipush (pc' := 429) (v := 9) rfl C dL_does_427 (by decide) ?_
                      refine e_irem (pc' := 430) rfl C (by decide) dL_does_429 ?_
                      refine e_iadd (pc' := 431) rfl C dL_does_430 ?_
                      refine e_Si (pc' := 434) (k' := 19) (n' := 3608) rfl C (As := [.ref (a (2, 0, 0)), .int (1 + ((nI v) - (nI v) / 9 * 9))]) (c_L_goes _ G a Y n c st ll g (1 + ((nI v) - (nI v) / 9 * 9)) hS hn8 h2) my_L_goes aw_931 rfl rfl (Nat.le_of_ble_eq_true rfl) rfl dL_does_431 rfl rfl (fun r Y1 hDP => ?_)
                      subst hQ
                      exact e_ireturn C rfl rfl dL_does_434 rfl rfl hDP
                    · refine e_iload (pc' := 417) (x := (nI v)) rfl C dL_does_415 rfl ?_
                      refine e_sipush (pc' := 420) (v := 305) rfl C dL_does_417 (by decide) ?_
                      refine e_irem (pc' := 421) rfl C (by decide) dL_does_420 ?_
                      refine e_goto (tgt := 431) C dL_does_421 (by decide) ?_
                      refine e_Si (pc' := 434) (k' := 19) (n' := 3608) rfl C (As := [.ref (a (2, 0, 0)), .int ((nI v) - (nI v) / 305 * 305)]) (c_L_goes _ G a Y n c st ll g ((nI v) - (nI v) / 305 * 305) hS hn8 h2) my_L_goes aw_931 rfl rfl (Nat.le_of_ble_eq_true rfl) rfl dL_does_431 rfl rfl (fun r Y1 hDP => ?_)
                      subst hQ
                      exact e_ireturn C rfl rfl dL_does_434 rfl rfl hDP
                  have hC : CX X G A yL_does.cls cL_does 6 (some .int) ({ frames := 12, cells := 80, slots := 14848, locals := 275 } : Room) := C
                  refine e_aload_n (pc' := 262) (x := (a (2, 0, 0))) rfl C dL_does_261 rfl ?_
                  refine e_new (pc' := 265) rfl C cn_L_90 (fs := [.null, .int 0, .int 0, .int 0]) ZD_0 rfl rfl dL_does_262 (fun b hb => ?_)
                  refine e_dup (pc' := 266) rfl C dL_does_265 rfl ?_
                  have he1 : (mup nilE b (.inr (0, [.null, .int 0, .int 0, .int 0]))) b = some (.inr (0, [.null, .int 0, .int 0, .int 0])) := mup_s
                  refine e_oIv (pc' := 269) (k' := 2) (n' := 20) rfl C (As := []) (k_init _ G (mup nilE b (.inr (0, [.null, .int 0, .int 0, .int 0]))) b he1) my_J4_init_da8c8 aw_524 rfl rfl (Nat.le_of_ble_eq_true rfl) rfl dL_does_266 rfl rfl (fun E1 hp1 => ?_)
                  obtain ⟨v1, hB1, hv1, hf1⟩ := hp1
                  refine e_ldcS (pc' := 271) (i := 19) rfl C (by decide) rfl rfl dL_does_269 ?_
                  obtain ⟨n2, cap2, ml2, z2, -, ho2, -⟩ := id hB1
                  refine e_oVr (pc' := 274) (k' := 3) (n' := 220) rfl C (As := [.ref (gK G 19)]) (k_apc _ G E1 b v1 0 19 hB1 (by decide) (by decide)) my_J4_append_15ec4 aw_526 ho2 rfl rfl rfl (Nat.le_of_ble_eq_true rfl) rfl dL_does_271 rfl rfl (fun r2 E2 hp2 => ?_)
                  obtain ⟨hr2, v2, hB2, hF2⟩ := hp2
                  rw [hr2]
                  refine e_iconst (pc' := 275) (v := 1) rfl C dL_does_274 (by decide) ?_
                  refine e_iload (pc' := 277) (x := (nI v)) rfl C dL_does_275 rfl ?_
                  refine e_sipush (pc' := 280) (v := 300) rfl C dL_does_277 (by decide) ?_
                  refine e_irem (pc' := 281) rfl C (by decide) dL_does_280 ?_
                  refine e_top (y := (nI (v % 300))) (nrem rfl rfl (by omega) (by decide) (by decide)) ?_
                  refine e_iadd (pc' := 282) rfl C dL_does_281 ?_
                  refine e_top (y := (nI (1 + v % 300))) (nI_add 1 _) ?_
                  obtain ⟨n3, cap3, ml3, z3, -, ho3, -⟩ := id hB2
                  refine e_oVr (pc' := 285) (k' := 4) (n' := 420) rfl C (As := [.int (nI (1 + v % 300))]) (k_api _ G E2 b v2 5 (1 + v % 300) hB2 (by omega) (by decide)) my_J4_append_bf812 aw_646 ho3 rfl rfl rfl (Nat.le_of_ble_eq_true rfl) rfl dL_does_282 rfl rfl (fun r3 E3 hp3 => ?_)
                  obtain ⟨hr3, v3, hB3, hF3⟩ := hp3
                  rw [hr3]
                  refine e_ldcS (pc' := 287) (i := 20) rfl C (by decide) rfl rfl dL_does_285 ?_
                  obtain ⟨n4, cap4, ml4, z4, -, ho4, -⟩ := id hB3
                  refine e_oVr (pc' := 290) (k' := 5) (n' := 620) rfl C (As := [.ref (gK G 20)]) (k_apc _ G E3 b v3 8 20 hB3 (by decide) (by decide)) my_J4_append_15ec4 aw_526 ho4 rfl rfl rfl (Nat.le_of_ble_eq_true rfl) rfl dL_does_287 rfl rfl (fun r4 E4 hp4 => ?_)
                  obtain ⟨hr4, v4, hB4, hF4⟩ := hp4
                  rw [hr4]
                  refine e_iload (pc' := 292) (x := (nI v)) rfl C dL_does_290 rfl ?_
                  refine e_bipush (pc' := 294) (v := 62) rfl C dL_does_292 (by decide) ?_
                  refine e_irem (pc' := 295) rfl C (by decide) dL_does_294 ?_
                  refine e_top (y := (nI (v % 62))) (nrem rfl rfl (by omega) (by decide) (by decide)) ?_
                  obtain ⟨n5, cap5, ml5, z5, -, ho5, -⟩ := id hB4
                  refine e_oVr (pc' := 298) (k' := 6) (n' := 820) rfl C (As := [.int (nI (v % 62))]) (k_api _ G E4 b v4 13 (v % 62) hB4 (by omega) (by decide)) my_J4_append_bf812 aw_646 ho5 rfl rfl rfl (Nat.le_of_ble_eq_true rfl) rfl dL_does_295 rfl rfl (fun r5 E5 hp5 => ?_)
                  obtain ⟨hr5, v5, hB5, hF5⟩ := hp5
                  rw [hr5]
                  refine e_ldcS (pc' := 300) (i := 21) rfl C (by decide) rfl rfl dL_does_298 ?_
                  obtain ⟨n6, cap6, ml6, z6, -, ho6, -⟩ := id hB5
                  refine e_oVr (pc' := 303) (k' := 7) (n' := 1020) rfl C (As := [.ref (gK G 21)]) (k_apc _ G E5 b v5 16 21 hB5 (by decide) (by decide)) my_J4_append_15ec4 aw_526 ho6 rfl rfl rfl (Nat.le_of_ble_eq_true rfl) rfl dL_does_300 rfl rfl (fun r6 E6 hp6 => ?_)
                  obtain ⟨hr6, v6, hB6, hF6⟩ := hp6
                  rw [hr6]
                  refine e_bipush (pc' := 305) (v := 95) rfl C dL_does_303 (by decide) ?_
                  refine e_iload (pc' := 307) (x := (nI u)) rfl C dL_does_305 rfl ?_
                  refine e_bipush (pc' := 309) (v := 99) rfl C dL_does_307 (by decide) ?_
                  refine e_irem (pc' := 310) rfl C (by decide) dL_does_309 ?_
                  refine e_top (y := (nI (u % 99))) (nrem rfl rfl (by omega) (by decide) (by decide)) ?_
                  refine e_iadd (pc' := 311) rfl C dL_does_310 ?_
                  refine e_top (y := (nI (95 + u % 99))) (nI_add 95 _) ?_
                  obtain ⟨n7, cap7, ml7, z7, -, ho7, -⟩ := id hB6
                  refine e_oVr (pc' := 314) (k' := 8) (n' := 1220) rfl C (As := [.int (nI (95 + u % 99))]) (k_api _ G E6 b v6 21 (95 + u % 99) hB6 (by omega) (by decide)) my_J4_append_bf812 aw_646 ho7 rfl rfl rfl (Nat.le_of_ble_eq_true rfl) rfl dL_does_311 rfl rfl (fun r7 E7 hp7 => ?_)
                  obtain ⟨hr7, v7, hB7, hF7⟩ := hp7
                  rw [hr7]
                  refine e_ldcS (pc' := 316) (i := 21) rfl C (by decide) rfl rfl dL_does_314 ?_
                  obtain ⟨n8, cap8, ml8, z8, -, ho8, -⟩ := id hB7
                  refine e_oVr (pc' := 319) (k' := 9) (n' := 1420) rfl C (As := [.ref (gK G 21)]) (k_apc _ G E7 b v7 24 21 hB7 (by decide) (by decide)) my_J4_append_15ec4 aw_526 ho8 rfl rfl rfl (Nat.le_of_ble_eq_true rfl) rfl dL_does_316 rfl rfl (fun r8 E8 hp8 => ?_)
                  obtain ⟨hr8, v8, hB8, hF8⟩ := hp8
                  rw [hr8]
                  refine e_iload (pc' := 321) (x := (nI v)) rfl C dL_does_319 rfl ?_
                  refine e_bipush (pc' := 323) (v := 9) rfl C dL_does_321 (by decide) ?_
                  refine e_irem (pc' := 324) rfl C (by decide) dL_does_323 ?_
                  refine e_top (y := (nI (v % 9))) (nrem rfl rfl (by omega) (by decide) (by decide)) ?_
                  obtain ⟨n9, cap9, ml9, z9, -, ho9, -⟩ := id hB8
                  refine e_oVr (pc' := 327) (k' := 10) (n' := 1620) rfl C (As := [.int (nI (v % 9))]) (k_api _ G E8 b v8 29 (v % 9) hB8 (by omega) (by decide)) my_J4_append_bf812 aw_646 ho9 rfl rfl rfl (Nat.le_of_ble_eq_true rfl) rfl dL_does_324 rfl rfl (fun r9 E9 hp9 => ?_)
                  obtain ⟨hr9, v9, hB9, hF9⟩ := hp9
                  rw [hr9]
                  refine e_iload (pc' := 329) (x := (nI v)) rfl C dL_does_327 rfl ?_
                  refine e_iconst (pc' := 330) (v := 3) rfl C dL_does_329 (by decide) ?_
                  refine e_irem (pc' := 331) rfl C (by decide) dL_does_330 ?_
                  refine e_if_ne (pc' := 334) (tgt := 360) rfl C dL_does_331 (by decide) (fun c_331 => ?_) (fun c_331 => ?_)
                  · refine e_iload (pc' := 362) (x := (nI v)) rfl C dL_does_360 rfl ?_
                    refine e_iconst (pc' := 363) (v := 3) rfl C dL_does_362 (by decide) ?_
                    refine e_irem (pc' := 364) rfl C (by decide) dL_does_363 ?_
                    refine e_iconst (pc' := 365) (v := 1) rfl C dL_does_364 (by decide) ?_
                    refine e_ic_ne (pc' := 368) (tgt := 394) rfl C dL_does_365 (by decide) (fun c_365 => ?_) (fun c_365 => ?_)
                    · refine e_ldcS (pc' := 396) (i := 24) rfl C (by decide) rfl rfl dL_does_394 ?_
                      obtain ⟨n10, cap10, ml10, z10, -, ho10, -⟩ := id hB9
                      refine e_oVr (pc' := 399) (k' := 11) (n' := 1820) rfl C (As := [.ref (gK G 24)]) (k_apc _ G E9 b v9 32 24 hB9 (by decide) (by decide)) my_J4_append_15ec4 aw_526 ho10 rfl rfl rfl (Nat.le_of_ble_eq_true rfl) rfl dL_does_396 rfl rfl (fun r10 E10 hp10 => ?_)
                      obtain ⟨hr10, v10, hB10, hF10⟩ := hp10
                      rw [hr10]
                      obtain ⟨n11, cap11, ml11, z11, -, ho11, -⟩ := id hB10
                      refine e_oVr (pc' := 402) (k' := 13) (n' := 2024) rfl C (As := []) (k_tos _ G E10 b v10 37 hB10) my_J4_toString_0e30d aw_674 ho11 rfl rfl rfl (Nat.le_of_ble_eq_true rfl) rfl dL_does_399 rfl rfl (fun x11 E11 hp11 => ?_)
                      obtain ⟨u11, hT11, hx11, hu11, hf11⟩ := hp11
                      obtain ⟨m, hs, hz, y, hm, hx, hu, hy, hc⟩ := hT11
                      refine e_cX (pc' := 405) (k' := 74) (n' := 14224) rfl C (As := [.ref (a (2, 0, 0)), .ref x11]) (c_L_runs _ G a Y E11 n c st ll g x11 u11 m hs hz y hS hn8 h2 hx hu (Nat.le_trans hm (by decide)) hc) my_L_runs aw_729 rfl rfl (Nat.le_of_ble_eq_true rfl) rfl dL_does_402 rfl rfl (fun vv Y1 hp => ?_)
                      obtain ⟨r, hvv, hDP⟩ := hp
                      rw [hvv]
                      subst hQ
                      exact e_ireturn C rfl rfl dL_does_405 rfl rfl hDP
                    · refine e_new (pc' := 371) rfl C cn_L_90 (fs := [.null, .int 0, .int 0, .int 0]) ZD_0 rfl rfl dL_does_368 (fun b2 hb2 => ?_)
                      refine e_dup (pc' := 372) rfl C dL_does_371 rfl ?_
                      have nb2 : b2 ≠ b ∧ b2 ≠ v9 := ⟨fun e => hB9.ne.1 (by rw [← e]; exact hb2), fun e => hB9.ne.2.1 (by rw [← e]; exact hb2)⟩
                      have hO : SBE G (mup E9 b2 (.inr (0, [.null, .int 0, .int 0, .int 0]))) b v9 32 := hB9.kept (mup_n (Ne.symm nb2.1)) (mup_n (Ne.symm nb2.2))
                      have he12 : (mup E9 b2 (.inr (0, [.null, .int 0, .int 0, .int 0]))) b2 = some (.inr (0, [.null, .int 0, .int 0, .int 0])) := mup_s
                      refine e_oIv (pc' := 375) (k' := 12) (n' := 1640) rfl C (As := []) (k_init _ G (mup E9 b2 (.inr (0, [.null, .int 0, .int 0, .int 0]))) b2 he12) my_J4_init_da8c8 aw_524 rfl rfl (Nat.le_of_ble_eq_true rfl) rfl dL_does_372 rfl rfl (fun E12 hp12 => ?_)
                      obtain ⟨v12, hB12, hv12, hf12⟩ := hp12
                      have hP12 : P2 G E12 b v9 32 b2 v12 0 := ⟨hO.kept (hf12 b (Ne.symm nb2.1) hO.ne.1) (hf12 v9 (Ne.symm nb2.2) hO.ne.2.1), hB12, Ne.symm nb2.1, fun e => hO.ne.1 (by rw [e]; exact hv12), Ne.symm nb2.2, fun e => hO.ne.2.1 (by rw [e]; exact hv12)⟩
                      refine e_ldcS (pc' := 377) (i := 23) rfl C (by decide) rfl rfl dL_does_375 ?_
                      obtain ⟨n13, cap13, ml13, z13, -, ho13, -⟩ := id hB12
                      refine e_oVr (pc' := 380) (k' := 13) (n' := 1840) rfl C (As := [.ref (gK G 23)]) (k_apc _ G E12 b2 v12 0 23 hB12 (by decide) (by decide)) my_J4_append_15ec4 aw_526 ho13 rfl rfl rfl (Nat.le_of_ble_eq_true rfl) rfl dL_does_377 rfl rfl (fun r13 E13 hp13 => ?_)
                      obtain ⟨hr13, v13, hB13, hF13⟩ := hp13
                      rw [hr13]
                      have hP13 := hP12.step hB13 hF13
                      refine e_iload (pc' := 382) (x := (nI u)) rfl C dL_does_380 rfl ?_
                      refine e_bipush (pc' := 384) (v := 7) rfl C dL_does_382 (by decide) ?_
                      refine e_irem (pc' := 385) rfl C (by decide) dL_does_384 ?_
                      refine e_top (y := (nI (u % 7))) (nrem rfl rfl (by omega) (by decide) (by decide)) ?_
                      obtain ⟨n14, cap14, ml14, z14, -, ho14, -⟩ := id hB13
                      refine e_oVr (pc' := 388) (k' := 14) (n' := 2040) rfl C (As := [.int (nI (u % 7))]) (k_api _ G E13 b2 v13 5 (u % 7) hB13 (by omega) (by decide)) my_J4_append_bf812 aw_646 ho14 rfl rfl rfl (Nat.le_of_ble_eq_true rfl) rfl dL_does_385 rfl rfl (fun r14 E14 hp14 => ?_)
                      obtain ⟨hr14, v14, hB14, hF14⟩ := hp14
                      rw [hr14]
                      have hP14 := hP13.step hB14 hF14
                      obtain ⟨n15, cap15, ml15, z15, -, ho15, -⟩ := id hB14
                      refine e_oVr (pc' := 391) (k' := 16) (n' := 2244) rfl C (As := []) (k_tos _ G E14 b2 v14 8 hB14) my_J4_toString_0e30d aw_674 ho15 rfl rfl rfl (Nat.le_of_ble_eq_true rfl) rfl dL_does_388 rfl rfl (fun x15 E15 hp15 => ?_)
                      obtain ⟨u15, hT15, hx15, hu15, hf15⟩ := hp15
                      have hO2 : SBE G E15 b v9 32 := hP14.1.kept (hf15 b hP14.1.ne.1) (hf15 v9 hP14.1.ne.2.1)
                      have huv : u15 ≠ v9 := fun e => hP14.1.ne.2.1 (by rw [← e]; exact hu15)
                      refine e_goto (tgt := 396) C dL_does_391 (by decide) ?_
                      obtain ⟨n16, cap16, ml16, z16, -, ho16, -⟩ := id hO2
                      refine e_oVr (pc' := 399) (k' := 17) (n' := 2444) rfl C (As := [.ref x15]) (k_apd _ G E15 b v9 32 x15 u15 8 hO2 hT15 huv (by decide)) my_J4_append_15ec4 aw_526 ho16 rfl rfl rfl (Nat.le_of_ble_eq_true rfl) rfl dL_does_396 rfl rfl (fun r16 E16 hp16 => ?_)
                      obtain ⟨hr16, v16, hB16, hF16⟩ := hp16
                      rw [hr16]
                      obtain ⟨n17, cap17, ml17, z17, -, ho17, -⟩ := id hB16
                      refine e_oVr (pc' := 402) (k' := 19) (n' := 2648) rfl C (As := []) (k_tos _ G E16 b v16 40 hB16) my_J4_toString_0e30d aw_674 ho17 rfl rfl rfl (Nat.le_of_ble_eq_true rfl) rfl dL_does_399 rfl rfl (fun x17 E17 hp17 => ?_)
                      obtain ⟨u17, hT17, hx17, hu17, hf17⟩ := hp17
                      obtain ⟨m, hs, hz, y, hm, hx, hu, hy, hc⟩ := hT17
                      refine e_cX (pc' := 405) (k' := 80) (n' := 14848) rfl C (As := [.ref (a (2, 0, 0)), .ref x17]) (c_L_runs _ G a Y E17 n c st ll g x17 u17 m hs hz y hS hn8 h2 hx hu (Nat.le_trans hm (by decide)) hc) my_L_runs aw_729 rfl rfl (Nat.le_of_ble_eq_true rfl) rfl dL_does_402 rfl rfl (fun vv Y1 hp => ?_)
                      obtain ⟨r, hvv, hDP⟩ := hp
                      rw [hvv]
                      subst hQ
                      exact e_ireturn C rfl rfl dL_does_405 rfl rfl hDP
                  · refine e_new (pc' := 337) rfl C cn_L_90 (fs := [.null, .int 0, .int 0, .int 0]) ZD_0 rfl rfl dL_does_334 (fun b2 hb2 => ?_)
                    refine e_dup (pc' := 338) rfl C dL_does_337 rfl ?_
                    have nb2 : b2 ≠ b ∧ b2 ≠ v9 := ⟨fun e => hB9.ne.1 (by rw [← e]; exact hb2), fun e => hB9.ne.2.1 (by rw [← e]; exact hb2)⟩
                    have hO : SBE G (mup E9 b2 (.inr (0, [.null, .int 0, .int 0, .int 0]))) b v9 32 := hB9.kept (mup_n (Ne.symm nb2.1)) (mup_n (Ne.symm nb2.2))
                    have he18 : (mup E9 b2 (.inr (0, [.null, .int 0, .int 0, .int 0]))) b2 = some (.inr (0, [.null, .int 0, .int 0, .int 0])) := mup_s
                    refine e_oIv (pc' := 341) (k' := 12) (n' := 1640) rfl C (As := []) (k_init _ G (mup E9 b2 (.inr (0, [.null, .int 0, .int 0, .int 0]))) b2 he18) my_J4_init_da8c8 aw_524 rfl rfl (Nat.le_of_ble_eq_true rfl) rfl dL_does_338 rfl rfl (fun E18 hp18 => ?_)
                    obtain ⟨v18, hB18, hv18, hf18⟩ := hp18
                    have hP18 : P2 G E18 b v9 32 b2 v18 0 := ⟨hO.kept (hf18 b (Ne.symm nb2.1) hO.ne.1) (hf18 v9 (Ne.symm nb2.2) hO.ne.2.1), hB18, Ne.symm nb2.1, fun e => hO.ne.1 (by rw [e]; exact hv18), Ne.symm nb2.2, fun e => hO.ne.2.1 (by rw [e]; exact hv18)⟩
                    refine e_ldcS (pc' := 343) (i := 22) rfl C (by decide) rfl rfl dL_does_341 ?_
                    obtain ⟨n19, cap19, ml19, z19, -, ho19, -⟩ := id hB18
                    refine e_oVr (pc' := 346) (k' := 13) (n' := 1840) rfl C (As := [.ref (gK G 22)]) (k_apc _ G E18 b2 v18 0 22 hB18 (by decide) (by decide)) my_J4_append_15ec4 aw_526 ho19 rfl rfl rfl (Nat.le_of_ble_eq_true rfl) rfl dL_does_343 rfl rfl (fun r19 E19 hp19 => ?_)
                    obtain ⟨hr19, v19, hB19, hF19⟩ := hp19
                    rw [hr19]
                    have hP19 := hP18.step hB19 hF19
                    refine e_iload (pc' := 348) (x := (nI u)) rfl C dL_does_346 rfl ?_
                    refine e_bipush (pc' := 350) (v := 8) rfl C dL_does_348 (by decide) ?_
                    refine e_irem (pc' := 351) rfl C (by decide) dL_does_350 ?_
                    refine e_top (y := (nI (u % 8))) (nrem rfl rfl (by omega) (by decide) (by decide)) ?_
                    obtain ⟨n20, cap20, ml20, z20, -, ho20, -⟩ := id hB19
                    refine e_oVr (pc' := 354) (k' := 14) (n' := 2040) rfl C (As := [.int (nI (u % 8))]) (k_api _ G E19 b2 v19 5 (u % 8) hB19 (by omega) (by decide)) my_J4_append_bf812 aw_646 ho20 rfl rfl rfl (Nat.le_of_ble_eq_true rfl) rfl dL_does_351 rfl rfl (fun r20 E20 hp20 => ?_)
                    obtain ⟨hr20, v20, hB20, hF20⟩ := hp20
                    rw [hr20]
                    have hP20 := hP19.step hB20 hF20
                    obtain ⟨n21, cap21, ml21, z21, -, ho21, -⟩ := id hB20
                    refine e_oVr (pc' := 357) (k' := 16) (n' := 2244) rfl C (As := []) (k_tos _ G E20 b2 v20 8 hB20) my_J4_toString_0e30d aw_674 ho21 rfl rfl rfl (Nat.le_of_ble_eq_true rfl) rfl dL_does_354 rfl rfl (fun x21 E21 hp21 => ?_)
                    obtain ⟨u21, hT21, hx21, hu21, hf21⟩ := hp21
                    have hO2 : SBE G E21 b v9 32 := hP20.1.kept (hf21 b hP20.1.ne.1) (hf21 v9 hP20.1.ne.2.1)
                    have huv : u21 ≠ v9 := fun e => hP20.1.ne.2.1 (by rw [← e]; exact hu21)
                    refine e_goto (tgt := 396) C dL_does_357 (by decide) ?_
                    obtain ⟨n22, cap22, ml22, z22, -, ho22, -⟩ := id hO2
                    refine e_oVr (pc' := 399) (k' := 17) (n' := 2444) rfl C (As := [.ref x21]) (k_apd _ G E21 b v9 32 x21 u21 8 hO2 hT21 huv (by decide)) my_J4_append_15ec4 aw_526 ho22 rfl rfl rfl (Nat.le_of_ble_eq_true rfl) rfl dL_does_396 rfl rfl (fun r22 E22 hp22 => ?_)
                    obtain ⟨hr22, v22, hB22, hF22⟩ := hp22
                    rw [hr22]
                    obtain ⟨n23, cap23, ml23, z23, -, ho23, -⟩ := id hB22
                    refine e_oVr (pc' := 402) (k' := 19) (n' := 2648) rfl C (As := []) (k_tos _ G E22 b v22 40 hB22) my_J4_toString_0e30d aw_674 ho23 rfl rfl rfl (Nat.le_of_ble_eq_true rfl) rfl dL_does_399 rfl rfl (fun x23 E23 hp23 => ?_)
                    obtain ⟨u23, hT23, hx23, hu23, hf23⟩ := hp23
                    obtain ⟨m, hs, hz, y, hm, hx, hu, hy, hc⟩ := hT23
                    refine e_cX (pc' := 405) (k' := 80) (n' := 14848) rfl C (As := [.ref (a (2, 0, 0)), .ref x23]) (c_L_runs _ G a Y E23 n c st ll g x23 u23 m hs hz y hS hn8 h2 hx hu (Nat.le_trans hm (by decide)) hc) my_L_runs aw_729 rfl rfl (Nat.le_of_ble_eq_true rfl) rfl dL_does_402 rfl rfl (fun vv Y1 hp => ?_)
                    obtain ⟨r, hvv, hDP⟩ := hp
                    rw [hvv]
                    subst hQ
                    exact e_ireturn C rfl rfl dL_does_405 rfl rfl hDP
                refine e_aload_n (pc' := 252) (x := (a (2, 0, 0))) rfl C dL_does_251 rfl ?_
                refine e_iload (pc' := 254) (x := (nI u)) rfl C dL_does_252 rfl ?_
                refine e_bipush (pc' := 256) (v := 9) rfl C dL_does_254 (by decide) ?_
                refine e_irem (pc' := 257) rfl C (by decide) dL_does_256 ?_
                refine e_i (pc' := 260) (k' := 0) (n' := 0) rfl C (As := [.int ((nI u) - (nI u) / 9 * 9)]) (c_X12_take _ G a Y c st n g.1 ((nI u) - (nI u) / 9 * 9) hS.1.k0 hS.1.c8 hS.1.k1 hS.1.s8 hS.R hS.I (by omega)) my_X12_take aw_515 rfl rfl rfl (Nat.le_of_ble_eq_true rfl) rfl dL_does_257 rfl rfl (fun r Y1 hK => ?_)
                obtain ⟨Y2, hg2, hDP⟩ := act_DP hS h2 hK (take_A hS.I (by omega) h2 ((nI u) - (nI u) / 9 * 9))
                refine e_gh hg2 ?_
                subst hQ
                exact e_ireturn C rfl rfl dL_does_260 rfl rfl hDP
              refine e_aload_n (pc' := 242) (x := (a (2, 0, 0))) rfl C dL_does_241 rfl ?_
              refine e_iload (pc' := 244) (x := (nI u)) rfl C dL_does_242 rfl ?_
              refine e_bipush (pc' := 246) (v := 9) rfl C dL_does_244 (by decide) ?_
              refine e_irem (pc' := 247) rfl C (by decide) dL_does_246 ?_
              refine e_i (pc' := 250) (k' := 0) (n' := 0) rfl C (As := [.int ((nI u) - (nI u) / 9 * 9)]) (c_X12_put _ G a Y c st n g.1 ((nI u) - (nI u) / 9 * 9) hS.1.k0 hS.1.c8 hS.1.k1 hS.1.s8 hS.R hS.I (by omega)) my_X12_put aw_506 rfl rfl rfl (Nat.le_of_ble_eq_true rfl) rfl dL_does_247 rfl rfl (fun r Y1 hK => ?_)
              obtain ⟨Y2, hg2, hDP⟩ := act_DP hS h2 hK (put_A hS.I (by omega) h2 ((nI u) - (nI u) / 9 * 9))
              refine e_gh hg2 ?_
              subst hQ
              exact e_ireturn C rfl rfl dL_does_250 rfl rfl hDP
            refine e_aload_n (pc' := 218) (x := (a (2, 0, 0))) rfl C dL_does_217 rfl ?_
            refine e_iload (pc' := 220) (x := (nI v)) rfl C dL_does_218 rfl ?_
            refine e_bipush (pc' := 222) (v := 63) rfl C dL_does_220 (by decide) ?_
            refine e_irem (pc' := 223) rfl C (by decide) dL_does_222 ?_
            refine e_bipush (pc' := 225) (v := 90) rfl C dL_does_223 (by decide) ?_
            refine e_iload (pc' := 227) (x := (nI u)) rfl C dL_does_225 rfl ?_
            refine e_sipush (pc' := 230) (v := 300) rfl C dL_does_227 (by decide) ?_
            refine e_irem (pc' := 231) rfl C (by decide) dL_does_230 ?_
            refine e_iadd (pc' := 232) rfl C dL_does_231 ?_
            refine e_iload (pc' := 234) (x := (nI v)) rfl C dL_does_232 rfl ?_
            refine e_bipush (pc' := 236) (v := 14) rfl C dL_does_234 (by decide) ?_
            refine e_irem (pc' := 237) rfl C (by decide) dL_does_236 ?_
            refine e_i (pc' := 240) (k' := 0) (n' := 0) rfl C (As := [.int ((nI v) - (nI v) / 63 * 63), .int (90 + ((nI u) - (nI u) / 300 * 300)), .int ((nI v) - (nI v) / 14 * 14)]) (c_X12_pot _ G a Y c st n g.1 ((nI v) - (nI v) / 63 * 63) (90 + ((nI u) - (nI u) / 300 * 300)) ((nI v) - (nI v) / 14 * 14) hS.1.k0 hS.1.c8 hS.1.k1 hS.1.s8 hS.R hS.I (by omega)) my_X12_pot aw_492 rfl rfl rfl (Nat.le_of_ble_eq_true rfl) rfl dL_does_237 rfl rfl (fun r Y1 hK => ?_)
            obtain ⟨Y2, hg2, hDP⟩ := act_DP hS h2 hK (pot_A hS.I (by omega) h2 ((nI v) - (nI v) / 63 * 63) (90 + ((nI u) - (nI u) / 300 * 300)) ((nI v) - (nI v) / 14 * 14))
            refine e_gh hg2 ?_
            subst hQ
            exact e_ireturn C rfl rfl dL_does_240 rfl rfl hDP
          refine e_aload_n (pc' := 193) (x := (a (2, 0, 0))) rfl C dL_does_192 rfl ?_
          refine e_iload (pc' := 195) (x := (nI u)) rfl C dL_does_193 rfl ?_
          refine e_iconst (pc' := 196) (v := 3) rfl C dL_does_195 (by decide) ?_
          refine e_irem (pc' := 197) rfl C (by decide) dL_does_196 ?_
          refine e_if_ne (pc' := 200) (tgt := 208) rfl C dL_does_197 (by decide) (fun c_197 => ?_) (fun c_197 => ?_)
          · refine e_iload (pc' := 210) (x := (nI u)) rfl C dL_does_208 rfl ?_
            refine e_bipush (pc' := 212) (v := 120) rfl C dL_does_210 (by decide) ?_
            refine e_irem (pc' := 213) rfl C (by decide) dL_does_212 ?_
            refine e_i (pc' := 216) (k' := 0) (n' := 0) rfl C (As := [.int ((nI u) - (nI u) / 120 * 120)]) (c_X12_fuel _ G a Y c st n g.1 ((nI u) - (nI u) / 120 * 120) hS.1.k0 hS.1.c8 hS.1.k1 hS.1.s8 hS.R hS.I (by omega)) my_X12_fuel aw_483 rfl rfl rfl (Nat.le_of_ble_eq_true rfl) rfl dL_does_213 rfl rfl (fun r Y1 hK => ?_)
            obtain ⟨Y2, hg2, hDP⟩ := act_DP hS h2 hK (fuel_A hS.I (by omega) h2 ((nI u) - (nI u) / 120 * 120))
            refine e_gh hg2 ?_
            subst hQ
            exact e_ireturn C rfl rfl dL_does_216 rfl rfl hDP
          · refine e_bipush (pc' := 202) (v := 11) rfl C dL_does_200 (by decide) ?_
            refine e_iload (pc' := 204) (x := (nI u)) rfl C dL_does_202 rfl ?_
            refine e_imul (pc' := 205) rfl C dL_does_204 ?_
            refine e_goto (tgt := 213) C dL_does_205 (by decide) ?_
            refine e_i (pc' := 216) (k' := 0) (n' := 0) rfl C (As := [.int (11 * (nI u))]) (c_X12_fuel _ G a Y c st n g.1 (11 * (nI u)) hS.1.k0 hS.1.c8 hS.1.k1 hS.1.s8 hS.R hS.I (by omega)) my_X12_fuel aw_483 rfl rfl rfl (Nat.le_of_ble_eq_true rfl) rfl dL_does_213 rfl rfl (fun r Y1 hK => ?_)
            obtain ⟨Y2, hg2, hDP⟩ := act_DP hS h2 hK (fuel_A hS.I (by omega) h2 (11 * (nI u)))
            refine e_gh hg2 ?_
            subst hQ
            exact e_ireturn C rfl rfl dL_does_216 rfl rfl hDP
        refine e_aload_n (pc' := 183) (x := (a (2, 0, 0))) rfl C dL_does_182 rfl ?_
        refine e_iload (pc' := 185) (x := (nI u)) rfl C dL_does_183 rfl ?_
        refine e_bipush (pc' := 187) (v := 7) rfl C dL_does_185 (by decide) ?_
        refine e_irem (pc' := 188) rfl C (by decide) dL_does_187 ?_
        refine e_i (pc' := 191) (k' := 0) (n' := 0) rfl C (As := [.int ((nI u) - (nI u) / 7 * 7)]) (c_X12_lag _ G a Y c st n g.1 ((nI u) - (nI u) / 7 * 7) hS.1.k0 hS.1.c8 hS.1.k1 hS.1.s8 hS.R hS.I (by omega)) my_X12_lag aw_461 rfl rfl rfl (Nat.le_of_ble_eq_true rfl) rfl dL_does_188 rfl rfl (fun r Y1 hK => ?_)
        obtain ⟨Y2, hg2, hDP⟩ := act_DP hS h2 hK (lag_A hS.I (by omega) h2 ((nI u) - (nI u) / 7 * 7))
        refine e_gh hg2 ?_
        subst hQ
        exact e_ireturn C rfl rfl dL_does_191 rfl rfl hDP
      refine e_aload_n (pc' := 157) (x := (a (2, 0, 0))) rfl C dL_does_156 rfl ?_
      refine e_iload (pc' := 159) (x := (nI u)) rfl C dL_does_157 rfl ?_
      refine e_iconst (pc' := 160) (v := 5) rfl C dL_does_159 (by decide) ?_
      refine e_irem (pc' := 161) rfl C (by decide) dL_does_160 ?_
      refine e_if_ne (pc' := 164) (tgt := 172) rfl C dL_does_161 (by decide) (fun c_161 => ?_) (fun c_161 => ?_)
      · refine e_iload (pc' := 174) (x := (nI u)) rfl C dL_does_172 rfl ?_
        refine e_sipush (pc' := 177) (v := 400) rfl C dL_does_174 (by decide) ?_
        refine e_irem (pc' := 178) rfl C (by decide) dL_does_177 ?_
        refine e_i (pc' := 181) (k' := 0) (n' := 0) rfl C (As := [.int ((nI u) - (nI u) / 400 * 400)]) (c_X12_cap _ G a Y c st n g.1 ((nI u) - (nI u) / 400 * 400) hS.1.k0 hS.1.c8 hS.1.k1 hS.1.s8 hS.R hS.I (by omega)) my_X12_cap aw_449 rfl rfl rfl (Nat.le_of_ble_eq_true rfl) rfl dL_does_178 rfl rfl (fun r Y1 hK => ?_)
        obtain ⟨Y2, hg2, hDP⟩ := act_DP hS h2 hK (cap_A hS.I (by omega) h2 ((nI u) - (nI u) / 400 * 400))
        refine e_gh hg2 ?_
        subst hQ
        exact e_ireturn C rfl rfl dL_does_181 rfl rfl hDP
      · refine e_bipush (pc' := 166) (v := 10) rfl C dL_does_164 (by decide) ?_
        refine e_iload (pc' := 168) (x := (nI u)) rfl C dL_does_166 rfl ?_
        refine e_imul (pc' := 169) rfl C dL_does_168 ?_
        refine e_goto (tgt := 178) C dL_does_169 (by decide) ?_
        refine e_i (pc' := 181) (k' := 0) (n' := 0) rfl C (As := [.int (10 * (nI u))]) (c_X12_cap _ G a Y c st n g.1 (10 * (nI u)) hS.1.k0 hS.1.c8 hS.1.k1 hS.1.s8 hS.R hS.I (by omega)) my_X12_cap aw_449 rfl rfl rfl (Nat.le_of_ble_eq_true rfl) rfl dL_does_178 rfl rfl (fun r Y1 hK => ?_)
        obtain ⟨Y2, hg2, hDP⟩ := act_DP hS h2 hK (cap_A hS.I (by omega) h2 (10 * (nI u)))
        refine e_gh hg2 ?_
        subst hQ
        exact e_ireturn C rfl rfl dL_does_181 rfl rfl hDP
    refine e_aload_n (pc' := 137) (x := (a (2, 0, 0))) rfl C dL_does_136 rfl ?_
    refine e_iload (pc' := 139) (x := (nI v)) rfl C dL_does_137 rfl ?_
    refine e_bipush (pc' := 141) (v := 52) rfl C dL_does_139 (by decide) ?_
    refine e_irem (pc' := 142) rfl C (by decide) dL_does_141 ?_
    refine e_iload (pc' := 144) (x := (nI u)) rfl C dL_does_142 rfl ?_
    refine e_bipush (pc' := 146) (v := 40) rfl C dL_does_144 (by decide) ?_
    refine e_irem (pc' := 147) rfl C (by decide) dL_does_146 ?_
    refine e_iload (pc' := 149) (x := (nI v)) rfl C dL_does_147 rfl ?_
    refine e_bipush (pc' := 151) (v := 30) rfl C dL_does_149 (by decide) ?_
    refine e_idiv (pc' := 152) rfl C (by decide) dL_does_151 ?_
    refine e_i (pc' := 155) (k' := 0) (n' := 0) rfl C (As := [.int ((nI v) - (nI v) / 52 * 52), .int ((nI u) - (nI u) / 40 * 40), .int ((nI v) / 30)]) (c_X12_gains _ G a Y c st n g.1 ((nI v) - (nI v) / 52 * 52) ((nI u) - (nI u) / 40 * 40) ((nI v) / 30) hS.1.k0 hS.1.c8 hS.1.k1 hS.1.s8 hS.R hS.I (by omega)) my_X12_gains aw_440 rfl rfl rfl (Nat.le_of_ble_eq_true rfl) rfl dL_does_152 rfl rfl (fun r Y1 hK => ?_)
    obtain ⟨Y2, hg2, hDP⟩ := act_DP hS h2 hK (gain_A hS.I (by omega) h2 ((nI v) - (nI v) / 52 * 52) ((nI u) - (nI u) / 40 * 40) ((nI v) / 30))
    refine e_gh hg2 ?_
    subst hQ
    exact e_ireturn C rfl rfl dL_does_155 rfl rfl hDP
  refine e_aload_n (pc' := 109) (x := (a (2, 0, 0))) rfl C dL_does_108 rfl ?_
  refine e_iload (pc' := 111) (x := (nI u)) rfl C dL_does_109 rfl ?_
  refine e_iconst (pc' := 112) (v := 4) rfl C dL_does_111 (by decide) ?_
  refine e_irem (pc' := 113) rfl C (by decide) dL_does_112 ?_
  refine e_if_ne (pc' := 116) (tgt := 127) rfl C dL_does_113 (by decide) (fun c_113 => ?_) (fun c_113 => ?_)
  · refine e_bipush (pc' := 129) (v := 60) rfl C dL_does_127 (by decide) ?_
    refine e_iload (pc' := 131) (x := (nI u)) rfl C dL_does_129 rfl ?_
    refine e_iadd (pc' := 132) rfl C dL_does_131 ?_
    refine e_i (pc' := 135) (k' := 0) (n' := 0) rfl C (As := [.int (60 + (nI u))]) (c_X12_aim _ G a Y c st n g.1 (60 + (nI u)) hS.1.k0 hS.1.c8 hS.1.k1 hS.1.s8 hS.R hS.I (by omega)) my_X12_aim aw_380 rfl rfl rfl (Nat.le_of_ble_eq_true rfl) rfl dL_does_132 rfl rfl (fun r Y1 hK => ?_)
    obtain ⟨Y2, hg2, hDP⟩ := act_DP hS h2 hK (aim_A hS.I (by omega) h2 (60 + (nI u)))
    refine e_gh hg2 ?_
    subst hQ
    exact e_ireturn C rfl rfl dL_does_135 rfl rfl hDP
  · refine e_bipush (pc' := 118) (v := 10) rfl C dL_does_116 (by decide) ?_
    refine e_iload (pc' := 120) (x := (nI v)) rfl C dL_does_118 rfl ?_
    refine e_bipush (pc' := 122) (v := 60) rfl C dL_does_120 (by decide) ?_
    refine e_irem (pc' := 123) rfl C (by decide) dL_does_122 ?_
    refine e_iadd (pc' := 124) rfl C dL_does_123 ?_
    refine e_goto (tgt := 132) C dL_does_124 (by decide) ?_
    refine e_i (pc' := 135) (k' := 0) (n' := 0) rfl C (As := [.int (10 + ((nI v) - (nI v) / 60 * 60))]) (c_X12_aim _ G a Y c st n g.1 (10 + ((nI v) - (nI v) / 60 * 60)) hS.1.k0 hS.1.c8 hS.1.k1 hS.1.s8 hS.R hS.I (by omega)) my_X12_aim aw_380 rfl rfl rfl (Nat.le_of_ble_eq_true rfl) rfl dL_does_132 rfl rfl (fun r Y1 hK => ?_)
    obtain ⟨Y2, hg2, hDP⟩ := act_DP hS h2 hK (aim_A hS.I (by omega) h2 (10 + ((nI v) - (nI v) / 60 * 60)))
    refine e_gh hg2 ?_
    subst hQ
    exact e_ireturn C rfl rfl dL_does_135 rfl rfl hDP
