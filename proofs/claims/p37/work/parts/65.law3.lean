/-! THE LAW: goes. -/
def us (x y : Int32) : Int32 := (x.toUInt32 >>> (y.toUInt32 &&& Int32.toUInt32 31)).toInt32
def bc1 (x : Int32) : Int32 := x - (us x 1 &&& 1431655765)
def bc2 (x : Int32) : Int32 := (x &&& 858993459) + (us x 2 &&& 858993459)
def bc3 (x : Int32) : Int32 := (x + us x 4) &&& 252645135
def bc4 (x : Int32) : Int32 := x + us x 8
def bc5 (x : Int32) : Int32 := x + us x 16
theorem bc_pop : ∀ w, w < 256 → bc5 (bc4 (bc3 (bc2 (bc1 (nI w))))) &&& 63 = nI (pop8 w) := by decide +kernel
theorem e_ldcw {X : XT} {G : GT} {A : Nat → Prop} {a : Id3 → Nat} {own : String} {cc : ByteArray} {nL : Nat} {ret : Option FieldType} {rm : Room} {Y : YT} {E : Mem} {k n : Nat} {Q : State → Prop} {pc pc' : Nat} {D : List (Nat × Value)} {st : List Value} (hpc : pc + 3 = pc') (C : CX X G A own cc nL ret rm) {i : Nat} {v : Int32} (hw : Cond.constant own i v ∈ AW) (hdg : decode cc pc = .ok (.ldc_w i, 3)) (kk : WE X G A a Y E k n Q pc' D (.int v :: st)) : WE X G A a Y E k n Q pc D st := by subst hpc; exact fun M H locs ls hP hL => lv_ldcw C.ex C.cd C.ow (C.ts _ hw) hdg (kk M H locs ls hP hL)
set_option maxHeartbeats 2000000 in
set_option maxRecDepth 20000 in
theorem c_bitCount (l : Launch) (G : GT) (a : Id3 → Nat) (Y : YT) (w : Nat) (hw : w < 256) : CtY l G a yJ6_bitCount_0f7a4 cJ6_bitCount_0f7a4 1 (some .int) ({ frames := 0, cells := 0, slots := 0, locals := 0 } : Room) [.int (nI w)] Y (PI (fun r Y' => r = nI (pop8 w) ∧ Y' = Y)) := by
  refine CtY.ofE (by decide) (Nat.le_of_ble_eq_true rfl) ?_
  intro X A C hl
  subst hl
  refine e_iload_n (pc' := 1) (x := (nI w)) rfl C dJ6_bitCount_0f7a4_0 rfl ?_
  refine e_iload_n (pc' := 2) (x := (nI w)) rfl C dJ6_bitCount_0f7a4_1 rfl ?_
  refine e_iconst (pc' := 3) (v := 1) rfl C dJ6_bitCount_0f7a4_2 (by decide) ?_
  refine e_iushr (pc' := 4) (v := us (nI w) 1) rfl C dJ6_bitCount_0f7a4_3 rfl ?_
  refine e_ldcw (pc' := 7) (v := 1431655765) rfl C aw_997 dJ6_bitCount_0f7a4_4 ?_
  refine e_iand (pc' := 8) rfl C dJ6_bitCount_0f7a4_7 ?_
  refine e_isub (pc' := 9) rfl C dJ6_bitCount_0f7a4_8 ?_
  refine e_top (y := (bc1 (nI w))) rfl ?_
  refine e_istore_n (pc' := 10) (D' := [(0, .int (bc1 (nI w)))]) rfl C dJ6_bitCount_0f7a4_9 (by decide) rfl ?_
  refine e_iload_n (pc' := 11) (x := (bc1 (nI w))) rfl C dJ6_bitCount_0f7a4_10 rfl ?_
  refine e_ldcw (pc' := 14) (v := 858993459) rfl C aw_998 dJ6_bitCount_0f7a4_11 ?_
  refine e_iand (pc' := 15) rfl C dJ6_bitCount_0f7a4_14 ?_
  refine e_iload_n (pc' := 16) (x := (bc1 (nI w))) rfl C dJ6_bitCount_0f7a4_15 rfl ?_
  refine e_iconst (pc' := 17) (v := 2) rfl C dJ6_bitCount_0f7a4_16 (by decide) ?_
  refine e_iushr (pc' := 18) (v := us (bc1 (nI w)) 2) rfl C dJ6_bitCount_0f7a4_17 rfl ?_
  refine e_ldcw (pc' := 21) (v := 858993459) rfl C aw_998 dJ6_bitCount_0f7a4_18 ?_
  refine e_iand (pc' := 22) rfl C dJ6_bitCount_0f7a4_21 ?_
  refine e_iadd (pc' := 23) rfl C dJ6_bitCount_0f7a4_22 ?_
  refine e_top (y := (bc2 (bc1 (nI w)))) rfl ?_
  refine e_istore_n (pc' := 24) (D' := [(0, .int (bc2 (bc1 (nI w))))]) rfl C dJ6_bitCount_0f7a4_23 (by decide) rfl ?_
  refine e_iload_n (pc' := 25) (x := (bc2 (bc1 (nI w)))) rfl C dJ6_bitCount_0f7a4_24 rfl ?_
  refine e_iload_n (pc' := 26) (x := (bc2 (bc1 (nI w)))) rfl C dJ6_bitCount_0f7a4_25 rfl ?_
  refine e_iconst (pc' := 27) (v := 4) rfl C dJ6_bitCount_0f7a4_26 (by decide) ?_
  refine e_iushr (pc' := 28) (v := us (bc2 (bc1 (nI w))) 4) rfl C dJ6_bitCount_0f7a4_27 rfl ?_
  refine e_iadd (pc' := 29) rfl C dJ6_bitCount_0f7a4_28 ?_
  refine e_ldcw (pc' := 32) (v := 252645135) rfl C aw_999 dJ6_bitCount_0f7a4_29 ?_
  refine e_iand (pc' := 33) rfl C dJ6_bitCount_0f7a4_32 ?_
  refine e_top (y := (bc3 (bc2 (bc1 (nI w))))) rfl ?_
  refine e_istore_n (pc' := 34) (D' := [(0, .int (bc3 (bc2 (bc1 (nI w)))))]) rfl C dJ6_bitCount_0f7a4_33 (by decide) rfl ?_
  refine e_iload_n (pc' := 35) (x := (bc3 (bc2 (bc1 (nI w))))) rfl C dJ6_bitCount_0f7a4_34 rfl ?_
  refine e_iload_n (pc' := 36) (x := (bc3 (bc2 (bc1 (nI w))))) rfl C dJ6_bitCount_0f7a4_35 rfl ?_
  refine e_bipush (pc' := 38) (v := 8) rfl C dJ6_bitCount_0f7a4_36 (by decide) ?_
  refine e_iushr (pc' := 39) (v := us (bc3 (bc2 (bc1 (nI w)))) 8) rfl C dJ6_bitCount_0f7a4_38 rfl ?_
  refine e_iadd (pc' := 40) rfl C dJ6_bitCount_0f7a4_39 ?_
  refine e_top (y := (bc4 (bc3 (bc2 (bc1 (nI w)))))) rfl ?_
  refine e_istore_n (pc' := 41) (D' := [(0, .int (bc4 (bc3 (bc2 (bc1 (nI w))))))]) rfl C dJ6_bitCount_0f7a4_40 (by decide) rfl ?_
  refine e_iload_n (pc' := 42) (x := (bc4 (bc3 (bc2 (bc1 (nI w)))))) rfl C dJ6_bitCount_0f7a4_41 rfl ?_
  refine e_iload_n (pc' := 43) (x := (bc4 (bc3 (bc2 (bc1 (nI w)))))) rfl C dJ6_bitCount_0f7a4_42 rfl ?_
  refine e_bipush (pc' := 45) (v := 16) rfl C dJ6_bitCount_0f7a4_43 (by decide) ?_
  refine e_iushr (pc' := 46) (v := us (bc4 (bc3 (bc2 (bc1 (nI w))))) 16) rfl C dJ6_bitCount_0f7a4_45 rfl ?_
  refine e_iadd (pc' := 47) rfl C dJ6_bitCount_0f7a4_46 ?_
  refine e_top (y := (bc5 (bc4 (bc3 (bc2 (bc1 (nI w))))))) rfl ?_
  refine e_istore_n (pc' := 48) (D' := [(0, .int (bc5 (bc4 (bc3 (bc2 (bc1 (nI w)))))))]) rfl C dJ6_bitCount_0f7a4_47 (by decide) rfl ?_
  refine e_iload_n (pc' := 49) (x := (bc5 (bc4 (bc3 (bc2 (bc1 (nI w))))))) rfl C dJ6_bitCount_0f7a4_48 rfl ?_
  refine e_bipush (pc' := 51) (v := 63) rfl C dJ6_bitCount_0f7a4_49 (by decide) ?_
  refine e_iand (pc' := 52) rfl C dJ6_bitCount_0f7a4_51 ?_
  exact e_ireturn C rfl rfl dJ6_bitCount_0f7a4_52 rfl rfl ⟨bc_pop w hw, rfl⟩
theorem my_bitCount : MS yJ6_bitCount_0f7a4 cJ6_bitCount_0f7a4 1 (some .int) 1 := ⟨aw_996, aw_37, ⟨by decide, by decide, by decide +kernel⟩, aw_995⟩
def n126 (s : Nat → Int32) (i : Nat) : Nat := cnt (fun k => decide (chS s k = 126)) i
theorem n126_s {s : Nat → Int32} {i : Nat} : nI (n126 s i) + (if chS s i = 126 then 1 else 0) = nI (n126 s (i + 1)) := by
  unfold n126
  rw [cnt]
  by_cases c : chS s i = 126
  · rw [if_pos c, if_pos (by simp [c])]
    exact nI_add _ 1
  · rw [if_neg c, if_neg (by simp [c]), Int32.add_zero, Nat.add_zero]
theorem n126_le (s : Nat → Int32) (i : Nat) : n126 s i ≤ i := cnt_le _ i
theorem n126_pos {s : Nat → Int32} (h : ¬ nn (s 8) = 0) : 0 < n126 s (lenS s) := by
  obtain ⟨i, hi⟩ : ∃ i, nn (s 8) = i + 1 := ⟨nn (s 8) - 1, by omega⟩
  obtain ⟨h1, h2⟩ := tell_126 (s := s) (q := (0, fun _ => 0)) i
  refine cnt_pos (x := (tellL s i (0, fun _ => 0)).1) ?_ _ ?_
  · unfold chS lineS
    rw [hi]
    simp [h2]
  · unfold lenS lineS
    rw [hi]
    exact h1
/-- the damper behind one minute without lag -/
theorem damp_1 {s : Nat → Int32} {n : Nat} (h : Inv s n 0) (hn : n ≤ 90000) (h8 : nn (s 8) = 0) : mins 1 s 9 = clampI (mWant s) (s 9 - 20) (s 9 + 20) := by
  obtain ⟨lg, bb, d, e8, l5, el, hb, hb2, e0, d1, d2, hv, hj, hm⟩ := min_start h (by omega)
  have hl0 : lg = 0 := el.symm.trans h8
  subst hl0
  show minute s 9 = _
  rw [hm, htN_lo (by decide), v_9 l5 hb hb2]
  rfl
/-- the damper moves by 20 at most -/
theorem damp_le {s : Nat → Int32} {n : Nat} (h : Inv s n 0) : s 9 - 20 ≤ s 9 + 20 := by
  obtain ⟨lg, np, d, fu, -, -, -, -, e9, d9, -⟩ := h.mb
  rw [e9, Int32.le_iff_toInt_le, show (nI d - 20).toInt = (d : Int) - 20 from pk_sub_toInt (b := 20) (by omega) (by decide), show nI d + 20 = nI (d + 20) from nI_add d 20, nI_toInt (by omega)]
  omega
theorem fired_np {s : Nat → Int32} {p : Nat} (h15 : s 15 = nI (nn (s 15))) (np8 : nn (s 15) ≤ 8) (hp8 : p < 8) (hp : ¬ p < nn (s 15)) : firedA s (nI p) = -10001 := by
  unfold firedA
  rw [if_neg]
  rintro ⟨h1, h2⟩
  have := (rng_iff h15 np8).mpr ⟨h1, h2⟩
  exact hp ((nI_ltI (by omega) (by omega)).mp this.2)
set_option maxHeartbeats 2000000 in
set_option maxRecDepth 20000 in
theorem c_L_goes (l : Launch) (G : GT) (a : Id3 → Nat) (Y : YT) (n c st ll : Nat) (g : GH) (m : Int32) (hS : SS Y n c st 0 ll g) (hn8 : n ≤ 80000) (h2 : I2 g.1) : CtY l G a yL_goes cL_goes 14 (some .int) ({ frames := 11, cells := 19, slots := 3608, locals := 242 } : Room) [.ref (a (2, 0, 0)), .int m] Y (PI (fun r Y' => DP n c g r Y')) := by
  refine CtY.ofE (by decide) (Nat.le_of_ble_eq_true rfl) ?_
  intro X A C hl
  subst hl
  generalize hQ : MEnd X G A ({ frames := 11, cells := 19, slots := 3608, locals := 242 } : Room) (PY G a (PI (fun r Y' => DP n c g r Y'))) = Q
  obtain ⟨n15, np8⟩ := hS.I.mb.np
  have hn : n ≤ 90000 := by omega
  obtain ⟨dg, hdg⟩ : ∃ dg : Int32, (if 0 ≤ m ∧ m ≤ 300 then mins (nn m) g.1 0 else -10002) = dg := ⟨_, rfl⟩
  obtain ⟨ov, hov⟩ : ∃ ov : Int32, (if 0 ≤ m ∧ m ≤ 300 then mins (nn m) g.1 13 else -10002) = ov := ⟨_, rfl⟩
  obtain ⟨ck, hck⟩ : ∃ ck : Int32, (if 0 ≤ m ∧ m ≤ 300 then crackN g.1 (mins (nn m) g.1) (nn (g.1 15)) else -10002) = ck := ⟨_, rfl⟩
  refine e_aload_n (pc' := 1) (x := (a (2, 0, 0))) rfl C dL_goes_0 rfl ?_
  refine e_iload_n (pc' := 2) (x := m) rfl C dL_goes_1 rfl ?_
  refine e_f (pc' := 5) (k' := 0) (n' := 0) rfl C (q_degreesIn _ G a hS hn m (R := dg) hdg) my_X12_degreesIn aw_934 rfl rfl rfl (Nat.le_of_ble_eq_true rfl) rfl dL_goes_2 rfl rfl (fun Y_2 hF_2 => ?_)
  have hS_2 := hS.f hF_2
  refine e_istore_n (pc' := 6) (D' := [(2, .int dg), (0, .ref (a (2, 0, 0))), (1, .int m)]) rfl C dL_goes_5 (by decide) rfl ?_
  refine e_aload_n (pc' := 7) (x := (a (2, 0, 0))) rfl C dL_goes_6 rfl ?_
  refine e_iload_n (pc' := 8) (x := m) rfl C dL_goes_7 rfl ?_
  refine e_f (pc' := 11) (k' := 0) (n' := 0) rfl C (q_wouldOvershoot _ G a hS_2 hn m (R := ov) hov) my_X12_wouldOvershoot aw_944 rfl rfl rfl (Nat.le_of_ble_eq_true rfl) rfl dL_goes_8 rfl rfl (fun Y_8 hF_8 => ?_)
  have hS_8 := hS_2.f hF_8
  refine e_istore_n (pc' := 12) (D' := [(3, .int ov), (2, .int dg), (0, .ref (a (2, 0, 0))), (1, .int m)]) rfl C dL_goes_11 (by decide) rfl ?_
  refine e_aload_n (pc' := 13) (x := (a (2, 0, 0))) rfl C dL_goes_12 rfl ?_
  refine e_iload_n (pc' := 14) (x := m) rfl C dL_goes_13 rfl ?_
  refine e_f (pc' := 17) (k' := 0) (n' := 0) rfl C (q_wouldCrack _ G a hS_8 hn m (R := ck) hck) my_X12_wouldCrack aw_948 rfl rfl rfl (Nat.le_of_ble_eq_true rfl) rfl dL_goes_14 rfl rfl (fun Y_14 hF_14 => ?_)
  have hS_14 := hS_8.f hF_14
  refine e_istore (pc' := 19) (D' := [(4, .int ck), (3, .int ov), (2, .int dg), (0, .ref (a (2, 0, 0))), (1, .int m)]) rfl C dL_goes_17 (by decide) rfl ?_
  refine e_aload_n (pc' := 20) (x := (a (2, 0, 0))) rfl C dL_goes_19 rfl ?_
  refine e_bipush (pc' := 22) (v := 14) rfl C dL_goes_20 (by decide) ?_
  refine e_q (pc' := 25) (k' := 0) (n' := 0) rfl C (q_account _ G a hS_14 14 (R := manyN g.1 3 (nn (g.1 15))) acc_14) my_X12_account aw_335 rfl rfl rfl (Nat.le_of_ble_eq_true rfl) rfl dL_goes_22 rfl rfl ?_
  refine e_istore (pc' := 27) (D' := [(5, .int (manyN g.1 3 (nn (g.1 15)))), (4, .int ck), (3, .int ov), (2, .int dg), (0, .ref (a (2, 0, 0))), (1, .int m)]) rfl C dL_goes_25 (by decide) rfl ?_
  refine e_aload_n (pc' := 28) (x := (a (2, 0, 0))) rfl C dL_goes_27 rfl ?_
  refine e_q (pc' := 31) (k' := 0) (n' := 0) rfl C (q_wanted _ G a hS_14 hn  (R := mWant g.1) rfl) my_X12_wanted aw_956 rfl rfl rfl (Nat.le_of_ble_eq_true rfl) rfl dL_goes_28 rfl rfl ?_
  refine e_istore (pc' := 33) (D' := [(6, .int (mWant g.1)), (5, .int (manyN g.1 3 (nn (g.1 15)))), (4, .int ck), (3, .int ov), (2, .int dg), (0, .ref (a (2, 0, 0))), (1, .int m)]) rfl C dL_goes_31 (by decide) rfl ?_
  refine e_aload_n (pc' := 34) (x := (a (2, 0, 0))) rfl C dL_goes_33 rfl ?_
  refine e_bipush (pc' := 36) (v := 6) rfl C dL_goes_34 (by decide) ?_
  refine e_q (pc' := 39) (k' := 0) (n' := 0) rfl C (q_account _ G a hS_14 6 (R := g.1 9) acc_6) my_X12_account aw_335 rfl rfl rfl (Nat.le_of_ble_eq_true rfl) rfl dL_goes_36 rfl rfl ?_
  refine e_istore (pc' := 41) (D' := [(7, .int (g.1 9)), (6, .int (mWant g.1)), (5, .int (manyN g.1 3 (nn (g.1 15)))), (4, .int ck), (3, .int ov), (2, .int dg), (0, .ref (a (2, 0, 0))), (1, .int m)]) rfl C dL_goes_39 (by decide) rfl ?_
  refine e_iconst (pc' := 42) (v := 0) rfl C dL_goes_41 (by decide) ?_
  refine e_istore (pc' := 44) (D' := [(8, .int 0), (7, .int (g.1 9)), (6, .int (mWant g.1)), (5, .int (manyN g.1 3 (nn (g.1 15)))), (4, .int ck), (3, .int ov), (2, .int dg), (0, .ref (a (2, 0, 0))), (1, .int m)]) rfl C dL_goes_42 (by decide) rfl ?_
  refine e_aload_n (pc' := 45) (x := (a (2, 0, 0))) rfl C dL_goes_44 rfl ?_
  refine e_tell (pc' := 48) (k' := 18) (n' := 3600) rfl C hS_14 hn my_X12_tell aw_962 (Nat.le_of_ble_eq_true rfl) rfl dL_goes_45 rfl rfl (fun Y_45 hS_45 hT_45 => ?_)
  refine e_istore (pc' := 50) (D' := [(9, .int (nI (lenS g.1))), (8, .int 0), (7, .int (g.1 9)), (6, .int (mWant g.1)), (5, .int (manyN g.1 3 (nn (g.1 15)))), (4, .int ck), (3, .int ov), (2, .int dg), (0, .ref (a (2, 0, 0))), (1, .int m)]) rfl C dL_goes_48 (by decide) rfl ?_
  refine e_iconst (pc' := 51) (v := 0) rfl C dL_goes_50 (by decide) ?_
  refine e_istore (pc' := 53) (D' := [(10, .int 0), (9, .int (nI (lenS g.1))), (8, .int 0), (7, .int (g.1 9)), (6, .int (mWant g.1)), (5, .int (manyN g.1 3 (nn (g.1 15)))), (4, .int ck), (3, .int ov), (2, .int dg), (0, .ref (a (2, 0, 0))), (1, .int m)]) rfl C dL_goes_51 (by decide) rfl ?_
  refine e_D (D' := [(10, .int (nI 0)), (8, .int (nI (n126 g.1 0))), (9, .int (nI (lenS g.1))), (7, .int (g.1 9)), (6, .int (mWant g.1)), (5, .int (manyN g.1 3 (nn (g.1 15)))), (4, .int ck), (3, .int ov), (2, .int dg), (1, .int m), (0, .ref (a (2, 0, 0)))]) (List.forall_mem_cons.mpr ⟨rfl, List.forall_mem_cons.mpr ⟨((show lk [(10, .int 0), (9, .int (nI (lenS g.1))), (8, .int 0), (7, .int (g.1 9)), (6, .int (mWant g.1)), (5, .int (manyN g.1 3 (nn (g.1 15)))), (4, .int ck), (3, .int ov), (2, .int dg), (0, .ref (a (2, 0, 0))), (1, .int m)] 8 = some (.int 0) from rfl).trans (congrArg (fun z => some (Value.int z)) (show (0 : Int32) = nI (n126 g.1 0) from rfl))), List.forall_mem_cons.mpr ⟨rfl, List.forall_mem_cons.mpr ⟨rfl, List.forall_mem_cons.mpr ⟨rfl, List.forall_mem_cons.mpr ⟨rfl, List.forall_mem_cons.mpr ⟨rfl, List.forall_mem_cons.mpr ⟨rfl, List.forall_mem_cons.mpr ⟨rfl, List.forall_mem_cons.mpr ⟨rfl, List.forall_mem_cons.mpr ⟨rfl, fun _ h => absurd h List.not_mem_nil⟩⟩⟩⟩⟩⟩⟩⟩⟩⟩⟩) ?_
  have hl80 : lenS g.1 ≤ 80 := hS_45.1.li.2.2.1
  refine nat_loop (P := fun i53 => WE X G A a Y_45 nilE 18 3600 Q 53 [(10, .int (nI i53)), (8, .int (nI (n126 g.1 i53))), (9, .int (nI (lenS g.1))), (7, .int (g.1 9)), (6, .int (mWant g.1)), (5, .int (manyN g.1 3 (nn (g.1 15)))), (4, .int ck), (3, .int ov), (2, .int dg), (1, .int m), (0, .ref (a (2, 0, 0)))] []) (B := (lenS g.1)) (fun i53 hi53 ih53 => ?_) ?_ 0 (Nat.zero_le _)
  · refine e_iload (pc' := 55) (x := (nI i53)) rfl C dL_goes_53 rfl ?_
    refine e_iload (pc' := 57) (x := (nI (lenS g.1))) rfl C dL_goes_55 rfl ?_
    refine e_ic_geF (pc' := 60) (tgt := 87) rfl C dL_goes_57 (by decide) (nnle hi53 (by omega)) ?_
    refine e_iload (pc' := 62) (x := (nI (n126 g.1 i53))) rfl C dL_goes_60 rfl ?_
    refine e_aload_n (pc' := 63) (x := (a (2, 0, 0))) rfl C dL_goes_62 rfl ?_
    refine e_iload (pc' := 65) (x := (nI i53)) rfl C dL_goes_63 rfl ?_
    refine e_q (pc' := 68) (k' := 18) (n' := 3600) rfl C (q_character _ G a hS_45 hT_45 hi53) my_X12_character aw_980 rfl rfl rfl (Nat.le_of_ble_eq_true rfl) rfl dL_goes_65 rfl rfl ?_
    refine e_bipush (pc' := 70) (v := 126) rfl C dL_goes_68 (by decide) ?_
    suffices K78 : WE X G A a Y_45 nilE 18 3600 Q 78 [(10, .int (nI i53)), (8, .int (nI (n126 g.1 i53))), (9, .int (nI (lenS g.1))), (7, .int (g.1 9)), (6, .int (mWant g.1)), (5, .int (manyN g.1 3 (nn (g.1 15)))), (4, .int ck), (3, .int ov), (2, .int dg), (1, .int m), (0, .ref (a (2, 0, 0)))] [.int (if chS g.1 i53 = 126 then 1 else 0), .int (nI (n126 g.1 i53))] by
      refine e_ic_ne (pc' := 73) (tgt := 77) rfl C dL_goes_70 (by decide) (fun c_70 => ?_) (fun c_70 => ?_)
      · refine e_iconst (pc' := 78) (v := 0) rfl C dL_goes_77 (by decide) ?_
        exact e_top (if_neg c_70).symm K78
      · refine e_iconst (pc' := 74) (v := 1) rfl C dL_goes_73 (by decide) ?_
        refine e_goto (tgt := 78) C dL_goes_74 (by decide) ?_
        exact e_top (if_pos c_70).symm K78
    refine e_iadd (pc' := 79) rfl C dL_goes_78 ?_
    refine e_top (y := (nI (n126 g.1 (i53 + 1)))) n126_s ?_
    refine e_istore (pc' := 81) (D' := [(8, .int (nI (n126 g.1 (i53 + 1)))), (10, .int (nI i53)), (9, .int (nI (lenS g.1))), (7, .int (g.1 9)), (6, .int (mWant g.1)), (5, .int (manyN g.1 3 (nn (g.1 15)))), (4, .int ck), (3, .int ov), (2, .int dg), (1, .int m), (0, .ref (a (2, 0, 0)))]) rfl C dL_goes_79 (by decide) rfl ?_
    refine e_iinc (pc' := 84) (j := 1) (v := (nI (i53 + 1))) (D' := [(10, .int (nI (i53 + 1))), (8, .int (nI (n126 g.1 (i53 + 1)))), (9, .int (nI (lenS g.1))), (7, .int (g.1 9)), (6, .int (mWant g.1)), (5, .int (manyN g.1 3 (nn (g.1 15)))), (4, .int ck), (3, .int ov), (2, .int dg), (1, .int m), (0, .ref (a (2, 0, 0)))]) rfl C dL_goes_81 rfl (nI_1 _) (by decide) rfl ?_
    refine e_goto (tgt := 53) C dL_goes_84 (by decide) ?_
    refine e_D (D' := [(10, .int (nI (i53 + 1))), (8, .int (nI (n126 g.1 (i53 + 1)))), (9, .int (nI (lenS g.1))), (7, .int (g.1 9)), (6, .int (mWant g.1)), (5, .int (manyN g.1 3 (nn (g.1 15)))), (4, .int ck), (3, .int ov), (2, .int dg), (1, .int m), (0, .ref (a (2, 0, 0)))]) (List.forall_mem_cons.mpr ⟨rfl, List.forall_mem_cons.mpr ⟨rfl, List.forall_mem_cons.mpr ⟨rfl, List.forall_mem_cons.mpr ⟨rfl, List.forall_mem_cons.mpr ⟨rfl, List.forall_mem_cons.mpr ⟨rfl, List.forall_mem_cons.mpr ⟨rfl, List.forall_mem_cons.mpr ⟨rfl, List.forall_mem_cons.mpr ⟨rfl, List.forall_mem_cons.mpr ⟨rfl, List.forall_mem_cons.mpr ⟨rfl, fun _ h => absurd h List.not_mem_nil⟩⟩⟩⟩⟩⟩⟩⟩⟩⟩⟩) ?_
    exact ih53
  · refine e_iload (pc' := 55) (x := (nI (lenS g.1))) rfl C dL_goes_53 rfl ?_
    refine e_iload (pc' := 57) (x := (nI (lenS g.1))) rfl C dL_goes_55 rfl ?_
    refine e_ic_geT (tgt := 87) C dL_goes_57 (by decide) (Int32.le_refl _) ?_
    refine e_bipush (pc' := 89) (v := 8) rfl C dL_goes_87 (by decide) ?_
    refine e_newI (pc' := 91) rfl C aw_95 (N := 8) (by decide) rfl rfl rfl rfl dL_goes_89 (fun b hb0 => ?_)
    refine e_astore (pc' := 93) (D' := [(10, .ref b), (8, .int (nI (n126 g.1 (lenS g.1)))), (9, .int (nI (lenS g.1))), (7, .int (g.1 9)), (6, .int (mWant g.1)), (5, .int (manyN g.1 3 (nn (g.1 15)))), (4, .int ck), (3, .int ov), (2, .int dg), (1, .int m), (0, .ref (a (2, 0, 0)))]) rfl C dL_goes_91 (by decide) rfl ?_
    refine e_iconst (pc' := 94) (v := 0) rfl C dL_goes_93 (by decide) ?_
    refine e_istore (pc' := 96) (D' := [(11, .int 0), (10, .ref b), (8, .int (nI (n126 g.1 (lenS g.1)))), (9, .int (nI (lenS g.1))), (7, .int (g.1 9)), (6, .int (mWant g.1)), (5, .int (manyN g.1 3 (nn (g.1 15)))), (4, .int ck), (3, .int ov), (2, .int dg), (1, .int m), (0, .ref (a (2, 0, 0)))]) rfl C dL_goes_94 (by decide) rfl ?_
    refine e_D (D' := [(11, .int (nI 0)), (10, .ref b), (8, .int (nI (n126 g.1 (lenS g.1)))), (7, .int (g.1 9)), (6, .int (mWant g.1)), (5, .int (manyN g.1 3 (nn (g.1 15)))), (4, .int ck), (3, .int ov), (2, .int dg), (1, .int m), (0, .ref (a (2, 0, 0)))]) (List.forall_mem_cons.mpr ⟨rfl, List.forall_mem_cons.mpr ⟨rfl, List.forall_mem_cons.mpr ⟨rfl, List.forall_mem_cons.mpr ⟨rfl, List.forall_mem_cons.mpr ⟨rfl, List.forall_mem_cons.mpr ⟨rfl, List.forall_mem_cons.mpr ⟨rfl, List.forall_mem_cons.mpr ⟨rfl, List.forall_mem_cons.mpr ⟨rfl, List.forall_mem_cons.mpr ⟨rfl, List.forall_mem_cons.mpr ⟨rfl, fun _ h => absurd h List.not_mem_nil⟩⟩⟩⟩⟩⟩⟩⟩⟩⟩⟩) ?_
    have hz0 : ∀ h, h < 0 → (fun _ : Nat => (0 : Int32)) h = firedA g.1 (nI h) := fun h z => absurd z (Nat.not_lt_zero h)
    refine nat_loop (P := fun i96 => ∀ (Y96 : YT) (z96 : Nat → Int32), SS Y96 n c st 0 (lenS g.1) g → (∀ h, h < i96 → z96 h = firedA g.1 (nI h)) → WE X G A a Y96 (mup nilE b (.inl (gc G 0, 8, .inl z96))) 19 3608 Q 96 [(11, .int (nI i96)), (10, .ref b), (8, .int (nI (n126 g.1 (lenS g.1)))), (7, .int (g.1 9)), (6, .int (mWant g.1)), (5, .int (manyN g.1 3 (nn (g.1 15)))), (4, .int ck), (3, .int ov), (2, .int dg), (1, .int m), (0, .ref (a (2, 0, 0)))] []) (B := 8) (fun i96 hi96 ih96 => ?_) ?_ 0 (by omega) _ _ hS_45 hz0
    · intro Y96 z96 hS96 hz96
      refine e_iload (pc' := 98) (x := (nI i96)) rfl C dL_goes_96 rfl ?_
      refine e_bipush (pc' := 100) (v := 8) rfl C dL_goes_98 (by decide) ?_
      refine e_ic_geF (pc' := 103) (tgt := 120) rfl C dL_goes_100 (by decide) (show ¬ nI 8 ≤ nI i96 from nnle hi96 (by decide)) ?_
      refine e_aload (pc' := 105) (x := b) rfl C dL_goes_103 rfl ?_
      refine e_iload (pc' := 107) (x := (nI i96)) rfl C dL_goes_105 rfl ?_
      refine e_aload_n (pc' := 108) (x := (a (2, 0, 0))) rfl C dL_goes_107 rfl ?_
      refine e_iload (pc' := 110) (x := (nI i96)) rfl C dL_goes_108 rfl ?_
      refine e_f (pc' := 113) (k' := 19) (n' := 3608) rfl C (q_firedIn _ G a hS96 hn (nI i96) (R := firedA g.1 (nI i96)) rfl) my_X12_firedIn aw_985 rfl rfl rfl (Nat.le_of_ble_eq_true rfl) rfl dL_goes_110 rfl rfl (fun Y_110 hF_110 => ?_)
      have hS_110 := hS96.f hF_110
      have eb : (mup nilE b (.inl (gc G 0, 8, .inl z96))) b = some (.inl (gc G 0, 8, .inl z96)) := mup_s
      refine e_iast (pc' := 114) rfl C eb (vp_in_nI hi96 (by decide)) dL_goes_113 ?_
      rw [mup_mup]
      refine e_iinc (pc' := 117) (j := 0) (v := (nI (i96 + 1))) (D' := [(11, .int (nI (i96 + 1))), (10, .ref b), (8, .int (nI (n126 g.1 (lenS g.1)))), (7, .int (g.1 9)), (6, .int (mWant g.1)), (5, .int (manyN g.1 3 (nn (g.1 15)))), (4, .int ck), (3, .int ov), (2, .int dg), (1, .int m), (0, .ref (a (2, 0, 0)))]) rfl C dL_goes_114 rfl (nI_1 _) (by decide) rfl ?_
      refine e_goto (tgt := 96) C dL_goes_117 (by decide) ?_
      refine e_D (D' := [(11, .int (nI (i96 + 1))), (10, .ref b), (8, .int (nI (n126 g.1 (lenS g.1)))), (7, .int (g.1 9)), (6, .int (mWant g.1)), (5, .int (manyN g.1 3 (nn (g.1 15)))), (4, .int ck), (3, .int ov), (2, .int dg), (1, .int m), (0, .ref (a (2, 0, 0)))]) (List.forall_mem_cons.mpr ⟨rfl, List.forall_mem_cons.mpr ⟨rfl, List.forall_mem_cons.mpr ⟨rfl, List.forall_mem_cons.mpr ⟨rfl, List.forall_mem_cons.mpr ⟨rfl, List.forall_mem_cons.mpr ⟨rfl, List.forall_mem_cons.mpr ⟨rfl, List.forall_mem_cons.mpr ⟨rfl, List.forall_mem_cons.mpr ⟨rfl, List.forall_mem_cons.mpr ⟨rfl, List.forall_mem_cons.mpr ⟨rfl, fun _ h => absurd h List.not_mem_nil⟩⟩⟩⟩⟩⟩⟩⟩⟩⟩⟩) ?_
      refine ih96 _ _ hS_110 (fun h hh => ?_)
      rw [show (nI i96).toNatClampNeg = i96 from nn_nI (by omega)]
      by_cases ch : h = i96
      · rw [ch, upd_s]
      · rw [upd_n ch]; exact hz96 h (by omega)
    · intro Y96 z96 hS96 hz96
      have eb : (mup nilE b (.inl (gc G 0, 8, .inl z96))) b = some (.inl (gc G 0, 8, .inl z96)) := mup_s
      refine e_iload (pc' := 98) (x := (nI 8)) rfl C dL_goes_96 rfl ?_
      refine e_bipush (pc' := 100) (v := 8) rfl C dL_goes_98 (by decide) ?_
      refine e_ic_geT (tgt := 120) C dL_goes_100 (by decide) (show nI 8 ≤ nI 8 from Int32.le_refl _) ?_
      refine e_aload_n (pc' := 121) (x := (a (2, 0, 0))) rfl C dL_goes_120 rfl ?_
      refine e_iload_n (pc' := 122) (x := m) rfl C dL_goes_121 rfl ?_
      refine e_i (pc' := 125) (k' := 19) (n' := 3608) rfl C (As := [.int m]) (c_X12_go _ G a _ c st n g.1 m hS96.1.k0 hS96.1.c8 hS96.1.k1 hS96.1.s8 hS96.R hS96.I (by omega)) my_X12_go aw_990 rfl rfl rfl (Nat.le_of_ble_eq_true rfl) rfl dL_goes_122 rfl rfl (fun r Y1 hK => ?_)
      obtain ⟨Y2, hg2, ⟨c', st', ll', g', hS2, hi2, hst2, hq0⟩, hr1, hr2⟩ := act_S hS96 h2 hK (go_A hS96.I hn h2 m)
      refine e_gh hg2 ?_
      refine e_istore (pc' := 127) (D' := [(11, .int r), (10, .ref b), (8, .int (nI (n126 g.1 (lenS g.1)))), (7, .int (g.1 9)), (6, .int (mWant g.1)), (5, .int (manyN g.1 3 (nn (g.1 15)))), (4, .int ck), (3, .int ov), (2, .int dg), (1, .int m), (0, .ref (a (2, 0, 0)))]) rfl C dL_goes_125 (by decide) rfl ?_
      refine e_iload (pc' := 129) (x := r) rfl C dL_goes_127 rfl ?_
      by_cases hr0 : r < 0
      · refine e_if_geF (pc' := 132) (tgt := 135) rfl C dL_goes_129 (by decide) (Int32.not_le.mpr hr0) ?_
        refine e_iload (pc' := 134) (x := r) rfl C dL_goes_132 rfl ?_
        subst hQ
        exact e_ireturn C rfl rfl dL_goes_134 rfl rfl ⟨n1010 hr1, c', st', ll', g', hS2, hi2, hst2⟩
      refine e_if_geT (tgt := 135) C dL_goes_129 (by decide) (Int32.not_lt.mp hr0) ?_
      have hq : (goA g.1 m).1 = 0 := Classical.byContradiction (fun z => hr0 (hr2 z))
      have hm : 1 ≤ m ∧ m ≤ 300 := Classical.byContradiction (fun z => by unfold goA at hq; rw [if_neg z] at hq; exact absurd hq (show ¬ (-10002 : Int32) = 0 by decide))
      obtain ⟨mm, hm3, hmm⟩ := rng_nI (m := 300) (by decide) (by decide) hm
      have hm1 : 1 ≤ mm := by have h1 := hm.1; rw [hmm] at h1; exact (nI_leI (a := 1) (by decide) (by omega)).mp h1
      obtain ⟨s', hs'⟩ : ∃ s', s' = mins mm g.1 := ⟨_, rfl⟩
      obtain ⟨hr, hg1⟩ := hq0 hq
      have hgo : goA g.1 m = (0, s', s' 0) := by unfold goA; rw [if_pos hm, hs', hmm, nn_nI (by omega)]
      rw [hgo] at hr hg1
      have hr : r = s' 0 := hr
      have hg1 : g'.1 = s' := hg1
      have hc0 : 0 ≤ m ∧ m ≤ 300 := ⟨Int32.le_trans (by decide) hm.1, hm.2⟩
      have hnm : nn m = mm := by rw [hmm, nn_nI (by omega)]
      rw [if_pos hc0, hnm, ← hs'] at hdg hov hck
      have e15 : s' 15 = g.1 15 := by rw [hs', mins_15 (hS.I.mb.ok (by omega))]
      have hI' : ∀ p, p < nn (g.1 15) → ∀ v u : Nat, ∀ w : Int32, mins u g.1 (195 + p) = w → ¬ w = 1 → u ≤ mm → s' (195 + p) = w := fun p hp v u w hu hw hle => by
        have := stay hS.I hn hp hu hw (mm - u) (by omega)
        rw [show u + (mm - u) = mm by omega, ← hs'] at this
        exact this
      have h3 : ∀ p, p < nn (g.1 15) → g.1 (195 + p) = 3 → s' (195 + p) = 3 := fun p hp h => hI' p hp 0 0 3 h (by decide) (by omega)
      obtain ⟨W, hW⟩ : ∃ W, W = ckN g.1 s' (nn (g.1 15)) := ⟨_, rfl⟩
      have hW9 : W < 2 ^ 8 := by rw [hW]; exact Nat.lt_of_lt_of_le (ckN_lt g.1 s' _) (Nat.pow_le_pow_right (by decide) np8)
      have hW8 : W < 256 := hW9
      have hckW : ck = nI W := by rw [← hck, crack_N g.1 s' _ np8, hW]
      have a9 : ∀ tl c, accS g'.1 tl c 9 = s' 13 := fun tl c => by rw [hg1]; exact acc_9
      have a14 : ∀ tl c, accS g'.1 tl c 14 = manyN s' 3 (nn (g.1 15)) := fun tl c => by rw [hg1]; exact acc_14.trans (by rw [e15])
      have a6 : ∀ tl c, accS g'.1 tl c 6 = s' 9 := fun tl c => by rw [hg1]; exact acc_6
      have a10 : ∀ tl c, accS g'.1 tl c 10 = nI (nn (g.1 15)) := fun tl c => by rw [hg1]; exact acc_10.trans (e15.trans n15)
      have hmany := many_ck (s := g.1) (s' := s') (nn (g.1 15)) np8 h3
      rw [← hW] at hmany
      refine e_iload (pc' := 137) (x := r) rfl C dL_goes_135 rfl ?_
      refine e_iload_n (pc' := 138) (x := dg) rfl C dL_goes_137 rfl ?_
      refine e_ic_neF (pc' := 141) (tgt := 172) rfl C dL_goes_138 (by decide) (hr.trans hdg) ?_
      refine e_aload_n (pc' := 142) (x := (a (2, 0, 0))) rfl C dL_goes_141 rfl ?_
      refine e_bipush (pc' := 144) (v := 9) rfl C dL_goes_142 (by decide) ?_
      refine e_q (pc' := 147) (k' := 19) (n' := 3608) rfl C (q_account _ G a hS2 9 (R := (s' 13)) (a9 _ _)) my_X12_account aw_335 rfl rfl rfl (Nat.le_of_ble_eq_true rfl) rfl dL_goes_144 rfl rfl ?_
      refine e_iload_n (pc' := 148) (x := ov) rfl C dL_goes_147 rfl ?_
      refine e_ic_neF (pc' := 151) (tgt := 172) rfl C dL_goes_148 (by decide) hov ?_
      refine e_aload_n (pc' := 152) (x := (a (2, 0, 0))) rfl C dL_goes_151 rfl ?_
      refine e_bipush (pc' := 154) (v := 14) rfl C dL_goes_152 (by decide) ?_
      refine e_q (pc' := 157) (k' := 19) (n' := 3608) rfl C (q_account _ G a hS2 14 (R := (manyN s' 3 (nn (g.1 15)))) (a14 _ _)) my_X12_account aw_335 rfl rfl rfl (Nat.le_of_ble_eq_true rfl) rfl dL_goes_154 rfl rfl ?_
      refine e_iload (pc' := 159) (x := (manyN g.1 3 (nn (g.1 15)))) rfl C dL_goes_157 rfl ?_
      refine e_iload (pc' := 161) (x := ck) rfl C dL_goes_159 rfl ?_
      refine e_top (y := (nI W)) hckW ?_
      refine e_Si (pc' := 164) (k' := 19) (n' := 3608) rfl C (c_bitCount _ G a Y2 W hW8) my_bitCount aw_994 rfl rfl (Nat.le_of_ble_eq_true rfl) rfl dL_goes_161 rfl rfl (fun rb Yb hb => ?_)
      obtain ⟨hrb, hYb⟩ := hb
      subst hrb
      cases hYb
      refine e_iadd (pc' := 165) rfl C dL_goes_164 ?_
      refine e_ic_neF (pc' := 168) (tgt := 172) rfl C dL_goes_165 (by decide) hmany ?_
      refine e_iconst (pc' := 169) (v := 1) rfl C dL_goes_168 (by decide) ?_
      refine e_goto (tgt := 173) C dL_goes_169 (by decide) ?_
      refine e_istore (pc' := 175) (D' := [(12, .int 1), (11, .int r), (10, .ref b), (8, .int (nI (n126 g.1 (lenS g.1)))), (7, .int (g.1 9)), (6, .int (mWant g.1)), (5, .int (manyN g.1 3 (nn (g.1 15)))), (4, .int ck), (3, .int ov), (2, .int dg), (1, .int m), (0, .ref (a (2, 0, 0)))]) rfl C dL_goes_173 (by decide) rfl ?_
      refine e_iload (pc' := 177) (x := 1) rfl C dL_goes_175 rfl ?_
      suffices K219 : WE X G A a Y2 (mup nilE b (.inl (gc G 0, 8, .inl z96))) 19 3608 Q 219 [(12, .int 1), (11, .int r), (10, .ref b), (8, .int (nI (n126 g.1 (lenS g.1)))), (7, .int (g.1 9)), (6, .int (mWant g.1)), (5, .int (manyN g.1 3 (nn (g.1 15)))), (4, .int ck), (3, .int ov), (2, .int dg), (1, .int m), (0, .ref (a (2, 0, 0)))] [.int 1, .int 1] by
        refine e_iload_n (pc' := 178) (x := m) rfl C dL_goes_177 rfl ?_
        refine e_iconst (pc' := 179) (v := 1) rfl C dL_goes_178 (by decide) ?_
        refine e_ic_gt (pc' := 182) (tgt := 214) rfl C dL_goes_179 (by decide) (fun c_179 => ?_) (fun c_179 => ?_)
        · refine e_iconst (pc' := 215) (v := 1) rfl C dL_goes_214 (by decide) ?_
          refine e_goto (tgt := 219) C dL_goes_215 (by decide) ?_
          exact K219
        · refine e_iload (pc' := 184) (x := (nI (n126 g.1 (lenS g.1)))) rfl C dL_goes_182 rfl ?_
          refine e_if_gt (pc' := 187) (tgt := 214) rfl C dL_goes_184 (by decide) (fun c_184 => ?_) (fun c_184 => ?_)
          · refine e_iconst (pc' := 215) (v := 1) rfl C dL_goes_214 (by decide) ?_
            refine e_goto (tgt := 219) C dL_goes_215 (by decide) ?_
            exact K219
          · have h80 : nn (g.1 8) = 0 := Classical.byContradiction (fun z => c_184 (nI_lt (a := 0) (n126_pos z) (by have := n126_le g.1 (lenS g.1); have := hS96.1.li.2.2.1; omega)))
            have hm11 : mm = 1 := by
              have : ¬ 1 < mm := fun z => c_179 (by rw [hmm]; exact nI_lt (a := 1) z (by omega))
              omega
            have hdm := damp_1 hS.I hn h80
            rw [← hm11, ← hs'] at hdm
            refine e_aload_n (pc' := 188) (x := (a (2, 0, 0))) rfl C dL_goes_187 rfl ?_
            refine e_bipush (pc' := 190) (v := 6) rfl C dL_goes_188 (by decide) ?_
            refine e_q (pc' := 193) (k' := 19) (n' := 3608) rfl C (q_account _ G a hS2 6 (R := (s' 9)) (a6 _ _)) my_X12_account aw_335 rfl rfl rfl (Nat.le_of_ble_eq_true rfl) rfl dL_goes_190 rfl rfl ?_
            refine e_iload (pc' := 195) (x := (g.1 9)) rfl C dL_goes_193 rfl ?_
            refine e_bipush (pc' := 197) (v := 20) rfl C dL_goes_195 (by decide) ?_
            refine e_isub (pc' := 198) rfl C dL_goes_197 ?_
            refine e_iload (pc' := 200) (x := (g.1 9)) rfl C dL_goes_198 rfl ?_
            refine e_bipush (pc' := 202) (v := 20) rfl C dL_goes_200 (by decide) ?_
            refine e_iadd (pc' := 203) rfl C dL_goes_202 ?_
            refine e_iload (pc' := 205) (x := (mWant g.1)) rfl C dL_goes_203 rfl ?_
            refine e_min (pc' := 208) rfl C aw_1000 rfl rfl rfl rfl dL_goes_205 ?_
            refine e_max (pc' := 211) rfl C aw_1001 rfl rfl rfl rfl dL_goes_208 ?_
            refine e_ic_neF (pc' := 214) (tgt := 218) rfl C dL_goes_211 (by decide) (hdm.trans (clampI_mm _ _ (damp_le hS.I)).symm) ?_
            refine e_iconst (pc' := 215) (v := 1) rfl C dL_goes_214 (by decide) ?_
            refine e_goto (tgt := 219) C dL_goes_215 (by decide) ?_
            exact K219
      refine e_iand (pc' := 220) rfl C dL_goes_219 ?_
      refine e_top (y := 1) (by decide) ?_
      refine e_istore (pc' := 222) (D' := [(12, .int 1), (11, .int r), (10, .ref b), (8, .int (nI (n126 g.1 (lenS g.1)))), (7, .int (g.1 9)), (6, .int (mWant g.1)), (5, .int (manyN g.1 3 (nn (g.1 15)))), (4, .int ck), (3, .int ov), (2, .int dg), (1, .int m), (0, .ref (a (2, 0, 0)))]) rfl C dL_goes_220 (by decide) rfl ?_
      refine e_iconst (pc' := 223) (v := 0) rfl C dL_goes_222 (by decide) ?_
      refine e_istore (pc' := 225) (D' := [(13, .int 0), (12, .int 1), (11, .int r), (10, .ref b), (8, .int (nI (n126 g.1 (lenS g.1)))), (7, .int (g.1 9)), (6, .int (mWant g.1)), (5, .int (manyN g.1 3 (nn (g.1 15)))), (4, .int ck), (3, .int ov), (2, .int dg), (1, .int m), (0, .ref (a (2, 0, 0)))]) rfl C dL_goes_223 (by decide) rfl ?_
      refine e_D (D' := [(13, .int (nI 0)), (12, .int 1), (11, .int r), (10, .ref b), (8, .int (nI (n126 g.1 (lenS g.1)))), (7, .int (g.1 9)), (6, .int (mWant g.1)), (5, .int (manyN g.1 3 (nn (g.1 15)))), (4, .int ck), (3, .int ov), (2, .int dg), (1, .int m), (0, .ref (a (2, 0, 0)))]) (List.forall_mem_cons.mpr ⟨rfl, List.forall_mem_cons.mpr ⟨rfl, List.forall_mem_cons.mpr ⟨rfl, List.forall_mem_cons.mpr ⟨rfl, List.forall_mem_cons.mpr ⟨rfl, List.forall_mem_cons.mpr ⟨rfl, List.forall_mem_cons.mpr ⟨rfl, List.forall_mem_cons.mpr ⟨rfl, List.forall_mem_cons.mpr ⟨rfl, List.forall_mem_cons.mpr ⟨rfl, List.forall_mem_cons.mpr ⟨rfl, List.forall_mem_cons.mpr ⟨rfl, List.forall_mem_cons.mpr ⟨rfl, fun _ h => absurd h List.not_mem_nil⟩⟩⟩⟩⟩⟩⟩⟩⟩⟩⟩⟩⟩) ?_
      refine nat_loop (P := fun i225 => WE X G A a Y2 (mup nilE b (.inl (gc G 0, 8, .inl z96))) 19 3608 Q 225 [(13, .int (nI i225)), (12, .int 1), (11, .int r), (10, .ref b), (8, .int (nI (n126 g.1 (lenS g.1)))), (7, .int (g.1 9)), (6, .int (mWant g.1)), (5, .int (manyN g.1 3 (nn (g.1 15)))), (4, .int ck), (3, .int ov), (2, .int dg), (1, .int m), (0, .ref (a (2, 0, 0)))] []) (B := (nn (g.1 15))) (fun i225 hi225 ih225 => ?_) ?_ 0 (Nat.zero_le _)
      · have hp8 : i225 < 8 := by omega
        have hp' : i225 < nn (g'.1 15) := by rw [hg1, e15]; exact hi225
        obtain ⟨-, hp3, -⟩ := potF_at (s := g'.1) (by rw [hg1, e15]; exact n15) (by rw [hg1, e15]; exact np8) hp'
        have q3 : potF g'.1 (nI i225) 3 = s' (195 + i225) := by rw [hp3, hg1]
        have hz : z96 (nI i225).toNatClampNeg = firedF g.1 i225 := by
          rw [show (nI i225).toNatClampNeg = i225 from nn_nI (by omega), hz96 i225 hp8]
          exact firedA_at n15 np8 hi225
        have hbit : (ck >>> (nI i225 &&& 31)) &&& 1 = (if cb g.1 s' i225 = true then 1 else 0) := by
          rw [hckW, shr_bit i225 hp8 W hW8, hW, ckN_bit _ np8 hi225]
          split <;> rfl
        refine e_iload (pc' := 227) (x := (nI i225)) rfl C dL_goes_225 rfl ?_
        refine e_aload_n (pc' := 228) (x := (a (2, 0, 0))) rfl C dL_goes_227 rfl ?_
        refine e_bipush (pc' := 230) (v := 10) rfl C dL_goes_228 (by decide) ?_
        refine e_q (pc' := 233) (k' := 19) (n' := 3608) rfl C (q_account _ G a hS2 10 (R := (nI (nn (g.1 15)))) (a10 _ _)) my_X12_account aw_335 rfl rfl rfl (Nat.le_of_ble_eq_true rfl) rfl dL_goes_230 rfl rfl ?_
        refine e_ic_geF (pc' := 236) (tgt := 321) rfl C dL_goes_233 (by decide) (nnle hi225 (by omega)) ?_
        refine e_iload (pc' := 238) (x := 1) rfl C dL_goes_236 rfl ?_
        suffices K281 : WE X G A a Y2 (mup nilE b (.inl (gc G 0, 8, .inl z96))) 19 3608 Q 281 [(13, .int (nI i225)), (12, .int 1), (11, .int r), (10, .ref b), (8, .int (nI (n126 g.1 (lenS g.1)))), (7, .int (g.1 9)), (6, .int (mWant g.1)), (5, .int (manyN g.1 3 (nn (g.1 15)))), (4, .int ck), (3, .int ov), (2, .int dg), (1, .int m), (0, .ref (a (2, 0, 0)))] [.int 1, .int 1] by
          refine e_aload (pc' := 240) (x := b) rfl C dL_goes_238 rfl ?_
          refine e_iload (pc' := 242) (x := (nI i225)) rfl C dL_goes_240 rfl ?_
          refine e_iald (pc' := 243) rfl C eb (vp_in_nI hp8 (by decide)) dL_goes_242 ?_
          refine e_top (y := (firedF g.1 i225)) hz ?_
          refine e_if_lt (pc' := 246) (tgt := 276) rfl C dL_goes_243 (by decide) (fun c_243 => ?_) (fun c_243 => ?_)
          · refine e_iconst (pc' := 277) (v := 1) rfl C dL_goes_276 (by decide) ?_
            refine e_goto (tgt := 281) C dL_goes_277 (by decide) ?_
            exact K281
          · refine e_aload_n (pc' := 247) (x := (a (2, 0, 0))) rfl C dL_goes_246 rfl ?_
            refine e_iload (pc' := 249) (x := (nI i225)) rfl C dL_goes_247 rfl ?_
            refine e_iconst (pc' := 250) (v := 3) rfl C dL_goes_249 (by decide) ?_
            refine e_q (pc' := 253) (k' := 19) (n' := 3608) rfl C (q_potOf _ G a hS2 (by omega) (nI i225) 3 (R := (s' (195 + i225))) q3) my_X12_potOf aw_1002 rfl rfl rfl (Nat.le_of_ble_eq_true rfl) rfl dL_goes_250 rfl rfl ?_
            refine e_aload (pc' := 255) (x := b) rfl C dL_goes_253 rfl ?_
            refine e_iload (pc' := 257) (x := (nI i225)) rfl C dL_goes_255 rfl ?_
            refine e_iald (pc' := 258) rfl C eb (vp_in_nI hp8 (by decide)) dL_goes_257 ?_
            refine e_top (y := (firedF g.1 i225)) hz ?_
            refine e_iload_n (pc' := 259) (x := m) rfl C dL_goes_258 rfl ?_
            refine e_ic_gt (pc' := 262) (tgt := 266) rfl C dL_goes_259 (by decide) (fun c_259 => ?_) (fun c_259 => ?_)
            · refine e_aload_n (pc' := 267) (x := (a (2, 0, 0))) rfl C dL_goes_266 rfl ?_
              refine e_iload (pc' := 269) (x := (nI i225)) rfl C dL_goes_267 rfl ?_
              refine e_iconst (pc' := 270) (v := 3) rfl C dL_goes_269 (by decide) ?_
              refine e_q (pc' := 273) (k' := 19) (n' := 3608) rfl C (q_potOf _ G a hS2 (by omega) (nI i225) 3 (R := (s' (195 + i225))) q3) my_X12_potOf aw_1002 rfl rfl rfl (Nat.le_of_ble_eq_true rfl) rfl dL_goes_270 rfl rfl ?_
              refine e_ic_neF (pc' := 276) (tgt := 280) rfl C dL_goes_273 (by decide) rfl ?_
              refine e_iconst (pc' := 277) (v := 1) rfl C dL_goes_276 (by decide) ?_
              refine e_goto (tgt := 281) C dL_goes_277 (by decide) ?_
              exact K281
            · have hf2 : s' (195 + i225) = 2 := by
                rcases fired_f hS.I hn h2 hi225 with hz0 | ⟨u, u3, hu, -, hu2⟩
                · exact absurd (show firedF g.1 i225 < 0 by rw [hz0]; decide) c_243
                · refine hI' i225 hi225 0 u 2 hu2 (by decide) ?_
                  rw [hu, hmm] at c_259
                  exact Nat.not_lt.mp (fun z => c_259 (nI_lt z (by omega)))
              refine e_iconst (pc' := 263) (v := 2) rfl C dL_goes_262 (by decide) ?_
              refine e_goto (tgt := 273) C dL_goes_263 (by decide) ?_
              refine e_ic_neF (pc' := 276) (tgt := 280) rfl C dL_goes_273 (by decide) hf2 ?_
              refine e_iconst (pc' := 277) (v := 1) rfl C dL_goes_276 (by decide) ?_
              refine e_goto (tgt := 281) C dL_goes_277 (by decide) ?_
              exact K281
        refine e_iand (pc' := 282) rfl C dL_goes_281 ?_
        refine e_top (y := 1) (by decide) ?_
        refine e_istore (pc' := 284) (D' := [(12, .int 1), (13, .int (nI i225)), (11, .int r), (10, .ref b), (8, .int (nI (n126 g.1 (lenS g.1)))), (7, .int (g.1 9)), (6, .int (mWant g.1)), (5, .int (manyN g.1 3 (nn (g.1 15)))), (4, .int ck), (3, .int ov), (2, .int dg), (1, .int m), (0, .ref (a (2, 0, 0)))]) rfl C dL_goes_282 (by decide) rfl ?_
        refine e_iload (pc' := 286) (x := 1) rfl C dL_goes_284 rfl ?_
        suffices K312 : WE X G A a Y2 (mup nilE b (.inl (gc G 0, 8, .inl z96))) 19 3608 Q 312 [(12, .int 1), (13, .int (nI i225)), (11, .int r), (10, .ref b), (8, .int (nI (n126 g.1 (lenS g.1)))), (7, .int (g.1 9)), (6, .int (mWant g.1)), (5, .int (manyN g.1 3 (nn (g.1 15)))), (4, .int ck), (3, .int ov), (2, .int dg), (1, .int m), (0, .ref (a (2, 0, 0)))] [.int 1, .int 1] by
          refine e_iload (pc' := 288) (x := ck) rfl C dL_goes_286 rfl ?_
          refine e_iload (pc' := 290) (x := (nI i225)) rfl C dL_goes_288 rfl ?_
          refine e_ishr (pc' := 291) rfl C dL_goes_290 ?_
          refine e_iconst (pc' := 292) (v := 1) rfl C dL_goes_291 (by decide) ?_
          refine e_iand (pc' := 293) rfl C dL_goes_292 ?_
          refine e_top (y := (if cb g.1 s' i225 = true then 1 else 0)) hbit ?_
          refine e_if_eq (pc' := 296) (tgt := 307) rfl C dL_goes_293 (by decide) (fun c_293 => ?_) (fun c_293 => ?_)
          · refine e_iconst (pc' := 308) (v := 1) rfl C dL_goes_307 (by decide) ?_
            refine e_goto (tgt := 312) C dL_goes_308 (by decide) ?_
            exact K312
          · have hc3 : s' (195 + i225) = 3 := by
              by_cases hcb : cb g.1 s' i225 = true
              · unfold cb at hcb
                simp at hcb
                exact hcb.1
              · exact absurd (if_neg hcb) c_293
            refine e_aload_n (pc' := 297) (x := (a (2, 0, 0))) rfl C dL_goes_296 rfl ?_
            refine e_iload (pc' := 299) (x := (nI i225)) rfl C dL_goes_297 rfl ?_
            refine e_iconst (pc' := 300) (v := 3) rfl C dL_goes_299 (by decide) ?_
            refine e_q (pc' := 303) (k' := 19) (n' := 3608) rfl C (q_potOf _ G a hS2 (by omega) (nI i225) 3 (R := (s' (195 + i225))) q3) my_X12_potOf aw_1002 rfl rfl rfl (Nat.le_of_ble_eq_true rfl) rfl dL_goes_300 rfl rfl ?_
            refine e_iconst (pc' := 304) (v := 3) rfl C dL_goes_303 (by decide) ?_
            refine e_ic_neF (pc' := 307) (tgt := 311) rfl C dL_goes_304 (by decide) hc3 ?_
            refine e_iconst (pc' := 308) (v := 1) rfl C dL_goes_307 (by decide) ?_
            refine e_goto (tgt := 312) C dL_goes_308 (by decide) ?_
            exact K312
        refine e_iand (pc' := 313) rfl C dL_goes_312 ?_
        refine e_top (y := 1) (by decide) ?_
        refine e_istore (pc' := 315) (D' := [(12, .int 1), (13, .int (nI i225)), (11, .int r), (10, .ref b), (8, .int (nI (n126 g.1 (lenS g.1)))), (7, .int (g.1 9)), (6, .int (mWant g.1)), (5, .int (manyN g.1 3 (nn (g.1 15)))), (4, .int ck), (3, .int ov), (2, .int dg), (1, .int m), (0, .ref (a (2, 0, 0)))]) rfl C dL_goes_313 (by decide) rfl ?_
        refine e_iinc (pc' := 318) (j := 1) (v := (nI (i225 + 1))) (D' := [(13, .int (nI (i225 + 1))), (12, .int 1), (11, .int r), (10, .ref b), (8, .int (nI (n126 g.1 (lenS g.1)))), (7, .int (g.1 9)), (6, .int (mWant g.1)), (5, .int (manyN g.1 3 (nn (g.1 15)))), (4, .int ck), (3, .int ov), (2, .int dg), (1, .int m), (0, .ref (a (2, 0, 0)))]) rfl C dL_goes_315 rfl (nI_1 _) (by decide) rfl ?_
        refine e_goto (tgt := 225) C dL_goes_318 (by decide) ?_
        refine e_D (D' := [(13, .int (nI (i225 + 1))), (12, .int 1), (11, .int r), (10, .ref b), (8, .int (nI (n126 g.1 (lenS g.1)))), (7, .int (g.1 9)), (6, .int (mWant g.1)), (5, .int (manyN g.1 3 (nn (g.1 15)))), (4, .int ck), (3, .int ov), (2, .int dg), (1, .int m), (0, .ref (a (2, 0, 0)))]) (List.forall_mem_cons.mpr ⟨rfl, List.forall_mem_cons.mpr ⟨rfl, List.forall_mem_cons.mpr ⟨rfl, List.forall_mem_cons.mpr ⟨rfl, List.forall_mem_cons.mpr ⟨rfl, List.forall_mem_cons.mpr ⟨rfl, List.forall_mem_cons.mpr ⟨rfl, List.forall_mem_cons.mpr ⟨rfl, List.forall_mem_cons.mpr ⟨rfl, List.forall_mem_cons.mpr ⟨rfl, List.forall_mem_cons.mpr ⟨rfl, List.forall_mem_cons.mpr ⟨rfl, List.forall_mem_cons.mpr ⟨rfl, fun _ h => absurd h List.not_mem_nil⟩⟩⟩⟩⟩⟩⟩⟩⟩⟩⟩⟩⟩) ?_
        exact ih225
      · refine e_iload (pc' := 227) (x := (nI (nn (g.1 15)))) rfl C dL_goes_225 rfl ?_
        refine e_aload_n (pc' := 228) (x := (a (2, 0, 0))) rfl C dL_goes_227 rfl ?_
        refine e_bipush (pc' := 230) (v := 10) rfl C dL_goes_228 (by decide) ?_
        refine e_q (pc' := 233) (k' := 19) (n' := 3608) rfl C (q_account _ G a hS2 10 (R := (nI (nn (g.1 15)))) (a10 _ _)) my_X12_account aw_335 rfl rfl rfl (Nat.le_of_ble_eq_true rfl) rfl dL_goes_230 rfl rfl ?_
        refine e_ic_geT (tgt := 321) C dL_goes_233 (by decide) (Int32.le_refl _) ?_
        refine e_iload (pc' := 323) (x := 1) rfl C dL_goes_321 rfl ?_
        refine e_if_eqF (pc' := 326) (tgt := 331) rfl C dL_goes_323 (by decide) (by decide) ?_
        refine e_iload (pc' := 328) (x := r) rfl C dL_goes_326 rfl ?_
        refine e_goto (tgt := 333) C dL_goes_328 (by decide) ?_
        subst hQ
        exact e_ireturn C rfl rfl dL_goes_333 rfl rfl ⟨n1010 hr1, c', st', ll', g', hS2, hi2, hst2⟩
