/-! THE LAW: a cell of the script, a number drawn of it, the sum of what the keeper shows. -/
theorem nnle {i n : Nat} (h : i < n) (hn : n < 2 ^ 31) : ¬ nI n ≤ nI i := fun z => by
  have := (nI_leI hn (by omega)).mp z
  omega
theorem nat_loop {P : Nat → Prop} {B : Nat} (h1 : ∀ i, i < B → P (i + 1) → P i) (h2 : P B) : ∀ i, i ≤ B → P i := by
  intro i hi
  induction hd : B - i generalizing i with
  | zero => rw [show i = B by omega]; exact h2
  | succ d ih => exact h1 i (by omega) (ih (i + 1) (by omega) (by omega))
set_option maxHeartbeats 1000000 in
set_option maxRecDepth 20000 in
theorem c_L_cell (l : Launch) (G : GT) (a : Id3 → Nat) (Y : YT) (i : Nat) (hi : i < 2 ^ 20) (hg : gst G 5 ≤ 260) : CtY l G a yL_cell cL_cell 2 (some .int) ({ frames := 0, cells := 0, slots := 0, locals := 0 } : Room) [.ref (gst G 4), .int (nI i)] Y (PI (fun _ Y' => Y' = Y)) := by
  refine CtY.ofE (by decide) (Nat.le_of_ble_eq_true rfl) ?_
  intro X A C hl
  subst hl
  refine e_iload_n (pc' := 1) (x := (nI i)) rfl C dL_cell_0 rfl ?_
  refine e_aload_n (pc' := 2) (x := (gst G 4)) rfl C dL_cell_1 rfl ?_
  refine e_slen (pc' := 3) rfl C dL_cell_2 ?_
  refine e_ic_ge (pc' := 6) (tgt := 12) rfl C dL_cell_3 (by decide) (fun c_3 => ?_) (fun c_3 => ?_)
  · refine e_ldc (pc' := 14) (v := 40503) rfl C aw_376 dL_cell_12 ?_
    refine e_iload_n (pc' := 15) (x := (nI i)) rfl C dL_cell_14 rfl ?_
    refine e_imul (pc' := 16) rfl C dL_cell_15 ?_
    exact e_ireturn C rfl rfl dL_cell_16 rfl rfl rfl
  · refine e_aload_n (pc' := 7) (x := (gst G 4)) rfl C dL_cell_6 rfl ?_
    refine e_iload_n (pc' := 8) (x := (nI i)) rfl C dL_cell_7 rfl ?_
    have hlt : i < gst G 5 := Nat.not_le.mp (fun z => c_3 (nI_le z (by omega)))
    refine e_sald (pc' := 9) rfl C (vp_in_nI hlt (by omega)) dL_cell_8 ?_
    refine e_goto (tgt := 16) C dL_cell_9 (by decide) ?_
    exact e_ireturn C rfl rfl dL_cell_16 rfl rfl rfl
theorem ushr_1 (x : Int32) : ∃ u : Nat, u < 2 ^ 31 ∧ (x.toUInt32 >>> ((1 : Int32).toUInt32 &&& Int32.toUInt32 31)).toInt32 = nI u := by
  have e1 : ((1 : Int32).toUInt32 &&& Int32.toUInt32 31) = 1 := by decide
  rw [e1]
  obtain ⟨v, hv⟩ : ∃ v : UInt32, v = x.toUInt32 >>> 1 := ⟨_, rfl⟩
  have hu : v.toNat = x.toUInt32.toNat / 2 := by
    rw [hv, UInt32.toNat_shiftRight, show ((1 : UInt32).toNat % 32) = 1 by decide, Nat.shiftRight_eq_div_pow]
  have hx := x.toUInt32.toNat_lt
  refine ⟨v.toNat, by omega, ?_⟩
  rw [← hv]
  apply Int32.toInt_inj.mp
  rw [nI_toInt (by omega), UInt32.toInt32, Int32.toInt]
  show BitVec.toInt v.toBitVec = _
  rw [BitVec.toInt_eq_toNat_of_lt (by show 2 * v.toNat < _; omega)]
  rfl
set_option maxHeartbeats 1000000 in
set_option maxRecDepth 20000 in
theorem c_L_pick (l : Launch) (G : GT) (a : Id3 → Nat) (Y : YT) (i m : Nat) (hi : i < 2 ^ 20) (hg : gst G 5 ≤ 260) (hm : 0 < m) (hm2 : m ≤ 1000) : CtY l G a yL_pick cL_pick 3 (some .int) ({ frames := 1, cells := 0, slots := 0, locals := 21 } : Room) [.ref (gst G 4), .int (nI i), .int (nI m)] Y (PI (fun r Y' => Y' = Y ∧ ∃ w, w < m ∧ r = nI w)) := by
  refine CtY.ofE (by decide) (Nat.le_of_ble_eq_true rfl) ?_
  intro X A C hl
  subst hl
  refine e_aload_n (pc' := 1) (x := (gst G 4)) rfl C dL_pick_0 rfl ?_
  refine e_iload_n (pc' := 2) (x := (nI i)) rfl C dL_pick_1 rfl ?_
  refine e_Si (pc' := 5) (k' := 0) (n' := 0) rfl C (c_L_cell _ G a Y i hi hg) my_L_cell aw_373 rfl rfl (Nat.le_of_ble_eq_true rfl) rfl dL_pick_2 rfl rfl (fun x Y' hY => ?_)
  cases hY
  refine e_iconst (pc' := 6) (v := 1) rfl C dL_pick_5 (by decide) ?_
  obtain ⟨u, hu, hv⟩ := ushr_1 x
  refine e_iushr (pc' := 7) rfl C dL_pick_6 hv ?_
  refine e_iload_n (pc' := 8) (x := (nI m)) rfl C dL_pick_7 rfl ?_
  refine e_irem (pc' := 9) rfl C (fun z => by have := (nI_eq (b := 0) (by omega) (by decide)).mp z; omega) dL_pick_8 ?_
  exact e_ireturn C rfl rfl dL_pick_9 rfl rfl ⟨rfl, u % m, Nat.mod_lt _ hm, pk_rem hu hm (by omega)⟩
def fold31 (f : Nat → Int32) : Nat → Int64 → Int64
  | 0, v => v
  | i + 1, v => 31 * fold31 f i v + (f i).toInt64
def foldP (f : Nat → Nat → Int32) (m : Nat) : Nat → Int64 → Int64
  | 0, v => v
  | i + 1, v => fold31 (f i) m (foldP f m i v)
theorem f31_0 {f : Nat → Int32} {v : Int64} : v = fold31 f 0 v := rfl
theorem f31_s {f : Nat → Int32} {i : Nat} {v : Int64} : 31 * fold31 f i v + (f i).toInt64 = fold31 f (i + 1) v := rfl
theorem fP_0 {f : Nat → Nat → Int32} {m : Nat} {v : Int64} : v = foldP f m 0 v := rfl
theorem fP_s {f : Nat → Nat → Int32} {m i : Nat} {v : Int64} : fold31 (f i) m (foldP f m i v) = foldP f m (i + 1) v := rfl
def sumF (s : Nat → Int32) : Int64 := 31 * fold31 (chS s) (lenS s) (foldP (fun k w => loggedF s (nI k) (nI w)) 4 12 (foldP (fun p w => potF s (nI p) (nI w)) 7 (nn (s 15)) (fold31 (fun w => accS s 0 0 (nI w)) 16 0))) + 7 * (s 16).toInt64 + (mWant s).toInt64
def cutS (s : Nat → Int32) : Nat → Int32 := fun f => if f < 227 then s f else 0
theorem cut_f (s : Nat → Int32) : ∀ f, f < 227 → cutS s f = s f := fun f hf => if_pos hf
theorem cut_eq {s s' : Nat → Int32} (h : ∀ f, f < 227 → s' f = s f) : cutS s' = cutS s := by
  funext f
  unfold cutS
  by_cases hf : f < 227
  · rw [if_pos hf, if_pos hf, h f hf]
  · rw [if_neg hf, if_neg hf]
def sumS (s : Nat → Int32) : Int64 := sumF (cutS s)
/-- another row in the same place, alike as far as it counts -/
theorem SS.row {Y : YT} {n c st tl ll : Nat} {g : GH} (h : SS Y n c st tl ll g) {s' : Nat → Int32} (he : ∀ f, f < 227 → s' f = g.1 f) : SS (setA Y (4, 0, 0) s') n c st tl ll (s', g.2) := by
  obtain ⟨⟨⟨a1, a2⟩, ⟨b1, b2, b3, b4, b5, b6⟩, ⟨c1, c2⟩, ⟨d1, d2⟩, ⟨t1, t2, t3, t4⟩, l1, l2, l3, l4⟩, h2, h3, h4, h5⟩ := h
  rw [h2] at a1 a2
  have en : ∀ i : Id3, i ≠ (4, 0, 0) → setA Y (4, 0, 0) s' i = Y i := fun i hi => setA_n hi
  have e0 : setA Y (4, 0, 0) s' (4, 0, 0) = s' := setA_s
  have ek : ∀ i : Id3, i.1 ≤ 1 → setA Y (4, 0, 0) s' i = Y i := fun i hi => en i (n4 hi (by decide))
  refine ⟨⟨⟨by rw [e0]; exact (a1.ss a2.mb he).congr (fun i h1 _ => ek i h1), by rw [e0]; exact a2.ss he⟩, ⟨b1, b2, by rw [en _ (by decide)]; exact b3, by rw [en _ (by decide)]; exact b4, by rw [en _ (by decide)]; exact b5, fun j hj => ?_⟩, ⟨by rw [en _ (by decide), en _ (by decide)]; exact c1, fun z => ?_⟩, ⟨by rw [en _ (by decide), en _ (by decide)]; exact d1, by rw [en _ (by decide), en _ (by decide)]; exact d2⟩, ⟨by rw [en _ (by decide)]; exact t1, by rw [en _ (by decide)]; exact t2, t3, fun j hj => by rw [en _ (by decide), en _ (by decide)]; exact t4 j hj⟩, by rw [en _ (by decide)]; exact l1, by rw [en _ (by decide)]; exact l2, l3, fun j hj => by rw [en _ (by decide), en _ (by decide)]; exact l4 j hj⟩, e0, by rw [en _ (by decide)]; exact h3, by rw [en _ (by decide)]; exact h4, by rw [en _ (by decide)]; exact h5⟩
  · rw [en (4, 0, 4) (by decide)]
    exact ⟨(b6 j hj).1.congr (fun i h1 _ => ek i h1), (b6 j hj).2⟩
  · rw [en (4, 0, 8) (by decide)] at z
    rw [en (4, 0, 2) (by decide)]
    exact ⟨(c2 z).1.congr (fun i h1 _ => ek i h1), (c2 z).2⟩
set_option maxHeartbeats 1000000 in
set_option maxRecDepth 20000 in
theorem c_L_sum0 (l : Launch) (G : GT) (a : Id3 → Nat) (Y : YT) (n c st tl ll : Nat) (g : GH) (hS : SS Y n c st tl ll g) (hn : n ≤ 90000) : CtY l G a yL_sum cL_sum 5 (some .long) ({ frames := 11, cells := 18, slots := 3600, locals := 242 } : Room) [.ref (a (2, 0, 0))] Y (PL (fun r Y' => r = sumF g.1 ∧ ∃ ll', SS Y' n c st tl ll' g)) := by
  refine CtY.ofE (by decide) (Nat.le_of_ble_eq_true rfl) ?_
  intro X A C hl
  subst hl
  obtain ⟨n15, np8⟩ := hS.I.mb.np
  refine e_lconst (pc' := 1) rfl C dL_sum_0 ?_
  refine e_lstore_n (pc' := 2) (D' := [(1, .long 0), (0, .ref (a (2, 0, 0)))]) rfl C dL_sum_1 (by decide) rfl ?_
  refine e_iconst (pc' := 3) (v := 0) rfl C dL_sum_2 (by decide) ?_
  refine e_istore_n (pc' := 4) (D' := [(3, .int 0), (1, .long 0), (0, .ref (a (2, 0, 0)))]) rfl C dL_sum_3 (by decide) rfl ?_
  refine e_D (D' := [(3, .int (nI 0)), (1, .long (fold31 (fun w => accS g.1 0 0 (nI w)) 0 0)), (0, .ref (a (2, 0, 0)))]) (List.forall_mem_cons.mpr ⟨rfl, List.forall_mem_cons.mpr ⟨((show lk [(3, .int 0), (1, .long 0), (0, .ref (a (2, 0, 0)))] 1 = some (.long 0) from rfl).trans (congrArg (fun z => some (Value.long z)) f31_0)), List.forall_mem_cons.mpr ⟨rfl, fun _ h => absurd h List.not_mem_nil⟩⟩⟩) ?_
  refine nat_loop (P := fun i4 => WE X G A a Y nilE 0 0 _ 4 [(3, .int (nI i4)), (1, .long (fold31 (fun w => accS g.1 0 0 (nI w)) i4 0)), (0, .ref (a (2, 0, 0)))] []) (B := 16) (fun i4 hi4 ih4 => ?_) ?_ 0 (by omega)
  · refine e_iload_n (pc' := 5) (x := (nI i4)) rfl C dL_sum_4 rfl ?_
    refine e_bipush (pc' := 7) (v := 16) rfl C dL_sum_5 (by decide) ?_
    refine e_ic_geF (pc' := 10) (tgt := 29) rfl C dL_sum_7 (by decide) (show ¬ nI 16 ≤ nI i4 from nnle hi4 (by omega)) ?_
    refine e_ldc2 (pc' := 13) (v := 31) rfl C cl_161 dL_sum_10 ?_
    refine e_lload_n (pc' := 14) (x := (fold31 (fun w => accS g.1 0 0 (nI w)) i4 0)) rfl C dL_sum_13 rfl ?_
    refine e_lmul (pc' := 15) rfl C dL_sum_14 ?_
    refine e_aload_n (pc' := 16) (x := (a (2, 0, 0))) rfl C dL_sum_15 rfl ?_
    refine e_iload_n (pc' := 17) (x := (nI i4)) rfl C dL_sum_16 rfl ?_
    refine e_q (pc' := 20) (k' := 0) (n' := 0) rfl C (q_account _ G a hS (nI i4) (R := (accS g.1 0 0 (nI i4))) (acc_lt hi4)) my_X12_account aw_335 rfl rfl rfl (Nat.le_of_ble_eq_true rfl) rfl dL_sum_17 rfl rfl ?_
    refine e_i2l (pc' := 21) rfl C dL_sum_20 ?_
    refine e_ladd (pc' := 22) rfl C dL_sum_21 ?_
    refine e_topl (y := (fold31 (fun w => accS g.1 0 0 (nI w)) (i4 + 1) 0)) (f31_s (f := fun w => accS g.1 0 0 (nI w))) ?_
    refine e_lstore_n (pc' := 23) (D' := [(1, .long (fold31 (fun w => accS g.1 0 0 (nI w)) (i4 + 1) 0)), (3, .int (nI i4)), (0, .ref (a (2, 0, 0)))]) rfl C dL_sum_22 (by decide) rfl ?_
    refine e_iinc (pc' := 26) (j := 1) (v := (nI (i4 + 1))) (D' := [(3, .int (nI (i4 + 1))), (1, .long (fold31 (fun w => accS g.1 0 0 (nI w)) (i4 + 1) 0)), (0, .ref (a (2, 0, 0)))]) rfl C dL_sum_23 rfl (nI_1 _) (by decide) rfl ?_
    refine e_goto (tgt := 4) C dL_sum_26 (by decide) ?_
    refine e_D (D' := [(3, .int (nI (i4 + 1))), (1, .long (fold31 (fun w => accS g.1 0 0 (nI w)) (i4 + 1) 0)), (0, .ref (a (2, 0, 0)))]) (List.forall_mem_cons.mpr ⟨rfl, List.forall_mem_cons.mpr ⟨rfl, List.forall_mem_cons.mpr ⟨rfl, fun _ h => absurd h List.not_mem_nil⟩⟩⟩) ?_
    exact ih4
  · refine e_iload_n (pc' := 5) (x := (nI 16)) rfl C dL_sum_4 rfl ?_
    refine e_bipush (pc' := 7) (v := 16) rfl C dL_sum_5 (by decide) ?_
    refine e_ic_geT (tgt := 29) C dL_sum_7 (by decide) (Int32.le_refl _) ?_
    refine e_iconst (pc' := 30) (v := 0) rfl C dL_sum_29 (by decide) ?_
    refine e_istore_n (pc' := 31) (D' := [(3, .int 0), (1, .long (fold31 (fun w => accS g.1 0 0 (nI w)) 16 0)), (0, .ref (a (2, 0, 0)))]) rfl C dL_sum_30 (by decide) rfl ?_
    refine e_D (D' := [(3, .int (nI 0)), (1, .long (foldP (fun p w => potF g.1 (nI p) (nI w)) 7 0 (fold31 (fun w => accS g.1 0 0 (nI w)) 16 0))), (0, .ref (a (2, 0, 0)))]) (List.forall_mem_cons.mpr ⟨rfl, List.forall_mem_cons.mpr ⟨((show lk [(3, .int 0), (1, .long (fold31 (fun w => accS g.1 0 0 (nI w)) 16 0)), (0, .ref (a (2, 0, 0)))] 1 = some (.long (fold31 (fun w => accS g.1 0 0 (nI w)) 16 0)) from rfl).trans (congrArg (fun z => some (Value.long z)) fP_0)), List.forall_mem_cons.mpr ⟨rfl, fun _ h => absurd h List.not_mem_nil⟩⟩⟩) ?_
    refine nat_loop (P := fun i31 => WE X G A a Y nilE 0 0 _ 31 [(3, .int (nI i31)), (1, .long (foldP (fun p w => potF g.1 (nI p) (nI w)) 7 i31 (fold31 (fun w => accS g.1 0 0 (nI w)) 16 0))), (0, .ref (a (2, 0, 0)))] []) (B := (nn (g.1 15))) (fun i31 hi31 ih31 => ?_) ?_ 0 (by omega)
    · refine e_iload_n (pc' := 32) (x := (nI i31)) rfl C dL_sum_31 rfl ?_
      refine e_aload_n (pc' := 33) (x := (a (2, 0, 0))) rfl C dL_sum_32 rfl ?_
      refine e_bipush (pc' := 35) (v := 10) rfl C dL_sum_33 (by decide) ?_
      refine e_q (pc' := 38) (k' := 0) (n' := 0) rfl C (q_account _ G a hS 10 (R := g.1 15) acc_10) my_X12_account aw_335 rfl rfl rfl (Nat.le_of_ble_eq_true rfl) rfl dL_sum_35 rfl rfl ?_
      refine e_top (y := (nI (nn (g.1 15)))) n15 ?_
      refine e_ic_geF (pc' := 41) (tgt := 78) rfl C dL_sum_38 (by decide) (show ¬ nI _ ≤ nI i31 from nnle hi31 (by omega)) ?_
      refine e_iconst (pc' := 42) (v := 0) rfl C dL_sum_41 (by decide) ?_
      refine e_istore (pc' := 44) (D' := [(4, .int 0), (3, .int (nI i31)), (1, .long (foldP (fun p w => potF g.1 (nI p) (nI w)) 7 i31 (fold31 (fun w => accS g.1 0 0 (nI w)) 16 0))), (0, .ref (a (2, 0, 0)))]) rfl C dL_sum_42 (by decide) rfl ?_
      refine e_D (D' := [(4, .int (nI 0)), (1, .long (fold31 (fun w => potF g.1 (nI i31) (nI w)) 0 (foldP (fun p w => potF g.1 (nI p) (nI w)) 7 i31 (fold31 (fun w => accS g.1 0 0 (nI w)) 16 0)))), (3, .int (nI i31)), (0, .ref (a (2, 0, 0)))]) (List.forall_mem_cons.mpr ⟨rfl, List.forall_mem_cons.mpr ⟨((show lk [(4, .int 0), (3, .int (nI i31)), (1, .long (foldP (fun p w => potF g.1 (nI p) (nI w)) 7 i31 (fold31 (fun w => accS g.1 0 0 (nI w)) 16 0))), (0, .ref (a (2, 0, 0)))] 1 = some (.long (foldP (fun p w => potF g.1 (nI p) (nI w)) 7 i31 (fold31 (fun w => accS g.1 0 0 (nI w)) 16 0))) from rfl).trans (congrArg (fun z => some (Value.long z)) f31_0)), List.forall_mem_cons.mpr ⟨rfl, List.forall_mem_cons.mpr ⟨rfl, fun _ h => absurd h List.not_mem_nil⟩⟩⟩⟩) ?_
      refine nat_loop (P := fun i44 => WE X G A a Y nilE 0 0 _ 44 [(4, .int (nI i44)), (1, .long (fold31 (fun w => potF g.1 (nI i31) (nI w)) i44 (foldP (fun p w => potF g.1 (nI p) (nI w)) 7 i31 (fold31 (fun w => accS g.1 0 0 (nI w)) 16 0)))), (3, .int (nI i31)), (0, .ref (a (2, 0, 0)))] []) (B := 7) (fun i44 hi44 ih44 => ?_) ?_ 0 (by omega)
      · refine e_iload (pc' := 46) (x := (nI i44)) rfl C dL_sum_44 rfl ?_
        refine e_bipush (pc' := 48) (v := 7) rfl C dL_sum_46 (by decide) ?_
        refine e_ic_geF (pc' := 51) (tgt := 72) rfl C dL_sum_48 (by decide) (show ¬ nI 7 ≤ nI i44 from nnle hi44 (by omega)) ?_
        refine e_ldc2 (pc' := 54) (v := 31) rfl C cl_161 dL_sum_51 ?_
        refine e_lload_n (pc' := 55) (x := (fold31 (fun w => potF g.1 (nI i31) (nI w)) i44 (foldP (fun p w => potF g.1 (nI p) (nI w)) 7 i31 (fold31 (fun w => accS g.1 0 0 (nI w)) 16 0)))) rfl C dL_sum_54 rfl ?_
        refine e_lmul (pc' := 56) rfl C dL_sum_55 ?_
        refine e_aload_n (pc' := 57) (x := (a (2, 0, 0))) rfl C dL_sum_56 rfl ?_
        refine e_iload_n (pc' := 58) (x := (nI i31)) rfl C dL_sum_57 rfl ?_
        refine e_iload (pc' := 60) (x := (nI i44)) rfl C dL_sum_58 rfl ?_
        refine e_q (pc' := 63) (k' := 0) (n' := 0) rfl C (q_potOf _ G a hS hn (nI i31) (nI i44) (R := potF g.1 (nI i31) (nI i44)) rfl) my_X12_potOf aw_1002 rfl rfl rfl (Nat.le_of_ble_eq_true rfl) rfl dL_sum_60 rfl rfl ?_
        refine e_i2l (pc' := 64) rfl C dL_sum_63 ?_
        refine e_ladd (pc' := 65) rfl C dL_sum_64 ?_
        refine e_topl (y := (fold31 (fun w => potF g.1 (nI i31) (nI w)) (i44 + 1) (foldP (fun p w => potF g.1 (nI p) (nI w)) 7 i31 (fold31 (fun w => accS g.1 0 0 (nI w)) 16 0)))) (f31_s (f := fun w => potF g.1 (nI i31) (nI w))) ?_
        refine e_lstore_n (pc' := 66) (D' := [(1, .long (fold31 (fun w => potF g.1 (nI i31) (nI w)) (i44 + 1) (foldP (fun p w => potF g.1 (nI p) (nI w)) 7 i31 (fold31 (fun w => accS g.1 0 0 (nI w)) 16 0)))), (4, .int (nI i44)), (3, .int (nI i31)), (0, .ref (a (2, 0, 0)))]) rfl C dL_sum_65 (by decide) rfl ?_
        refine e_iinc (pc' := 69) (j := 1) (v := (nI (i44 + 1))) (D' := [(4, .int (nI (i44 + 1))), (1, .long (fold31 (fun w => potF g.1 (nI i31) (nI w)) (i44 + 1) (foldP (fun p w => potF g.1 (nI p) (nI w)) 7 i31 (fold31 (fun w => accS g.1 0 0 (nI w)) 16 0)))), (3, .int (nI i31)), (0, .ref (a (2, 0, 0)))]) rfl C dL_sum_66 rfl (nI_1 _) (by decide) rfl ?_
        refine e_goto (tgt := 44) C dL_sum_69 (by decide) ?_
        refine e_D (D' := [(4, .int (nI (i44 + 1))), (1, .long (fold31 (fun w => potF g.1 (nI i31) (nI w)) (i44 + 1) (foldP (fun p w => potF g.1 (nI p) (nI w)) 7 i31 (fold31 (fun w => accS g.1 0 0 (nI w)) 16 0)))), (3, .int (nI i31)), (0, .ref (a (2, 0, 0)))]) (List.forall_mem_cons.mpr ⟨rfl, List.forall_mem_cons.mpr ⟨rfl, List.forall_mem_cons.mpr ⟨rfl, List.forall_mem_cons.mpr ⟨rfl, fun _ h => absurd h List.not_mem_nil⟩⟩⟩⟩) ?_
        exact ih44
      · refine e_iload (pc' := 46) (x := (nI 7)) rfl C dL_sum_44 rfl ?_
        refine e_bipush (pc' := 48) (v := 7) rfl C dL_sum_46 (by decide) ?_
        refine e_ic_geT (tgt := 72) C dL_sum_48 (by decide) (Int32.le_refl _) ?_
        refine e_iinc (pc' := 75) (j := 2) (v := (nI (i31 + 1))) (D' := [(3, .int (nI (i31 + 1))), (4, .int (nI 7)), (1, .long (fold31 (fun w => potF g.1 (nI i31) (nI w)) 7 (foldP (fun p w => potF g.1 (nI p) (nI w)) 7 i31 (fold31 (fun w => accS g.1 0 0 (nI w)) 16 0)))), (0, .ref (a (2, 0, 0)))]) rfl C dL_sum_72 rfl (nI_1 _) (by decide) rfl ?_
        refine e_goto (tgt := 31) C dL_sum_75 (by decide) ?_
        refine e_D (D' := [(3, .int (nI (i31 + 1))), (1, .long (foldP (fun p w => potF g.1 (nI p) (nI w)) 7 (i31 + 1) (fold31 (fun w => accS g.1 0 0 (nI w)) 16 0))), (0, .ref (a (2, 0, 0)))]) (List.forall_mem_cons.mpr ⟨rfl, List.forall_mem_cons.mpr ⟨((show lk [(3, .int (nI (i31 + 1))), (4, .int (nI 7)), (1, .long (fold31 (fun w => potF g.1 (nI i31) (nI w)) 7 (foldP (fun p w => potF g.1 (nI p) (nI w)) 7 i31 (fold31 (fun w => accS g.1 0 0 (nI w)) 16 0)))), (0, .ref (a (2, 0, 0)))] 1 = some (.long (fold31 (fun w => potF g.1 (nI i31) (nI w)) 7 (foldP (fun p w => potF g.1 (nI p) (nI w)) 7 i31 (fold31 (fun w => accS g.1 0 0 (nI w)) 16 0)))) from rfl).trans (congrArg (fun z => some (Value.long z)) (fP_s (f := fun p w => potF g.1 (nI p) (nI w))))), List.forall_mem_cons.mpr ⟨rfl, fun _ h => absurd h List.not_mem_nil⟩⟩⟩) ?_
        exact ih31
    · refine e_iload_n (pc' := 32) (x := (nI (nn (g.1 15)))) rfl C dL_sum_31 rfl ?_
      refine e_aload_n (pc' := 33) (x := (a (2, 0, 0))) rfl C dL_sum_32 rfl ?_
      refine e_bipush (pc' := 35) (v := 10) rfl C dL_sum_33 (by decide) ?_
      refine e_q (pc' := 38) (k' := 0) (n' := 0) rfl C (q_account _ G a hS 10 (R := g.1 15) acc_10) my_X12_account aw_335 rfl rfl rfl (Nat.le_of_ble_eq_true rfl) rfl dL_sum_35 rfl rfl ?_
      refine e_top (y := (nI (nn (g.1 15)))) n15 ?_
      refine e_ic_geT (tgt := 78) C dL_sum_38 (by decide) (Int32.le_refl _) ?_
      refine e_iconst (pc' := 79) (v := 0) rfl C dL_sum_78 (by decide) ?_
      refine e_istore_n (pc' := 80) (D' := [(3, .int 0), (1, .long (foldP (fun p w => potF g.1 (nI p) (nI w)) 7 (nn (g.1 15)) (fold31 (fun w => accS g.1 0 0 (nI w)) 16 0))), (0, .ref (a (2, 0, 0)))]) rfl C dL_sum_79 (by decide) rfl ?_
      refine e_D (D' := [(3, .int (nI 0)), (1, .long (foldP (fun k w => loggedF g.1 (nI k) (nI w)) 4 0 (foldP (fun p w => potF g.1 (nI p) (nI w)) 7 (nn (g.1 15)) (fold31 (fun w => accS g.1 0 0 (nI w)) 16 0)))), (0, .ref (a (2, 0, 0)))]) (List.forall_mem_cons.mpr ⟨rfl, List.forall_mem_cons.mpr ⟨((show lk [(3, .int 0), (1, .long (foldP (fun p w => potF g.1 (nI p) (nI w)) 7 (nn (g.1 15)) (fold31 (fun w => accS g.1 0 0 (nI w)) 16 0))), (0, .ref (a (2, 0, 0)))] 1 = some (.long (foldP (fun p w => potF g.1 (nI p) (nI w)) 7 (nn (g.1 15)) (fold31 (fun w => accS g.1 0 0 (nI w)) 16 0))) from rfl).trans (congrArg (fun z => some (Value.long z)) fP_0)), List.forall_mem_cons.mpr ⟨rfl, fun _ h => absurd h List.not_mem_nil⟩⟩⟩) ?_
      refine nat_loop (P := fun i80 => WE X G A a Y nilE 0 0 _ 80 [(3, .int (nI i80)), (1, .long (foldP (fun k w => loggedF g.1 (nI k) (nI w)) 4 i80 (foldP (fun p w => potF g.1 (nI p) (nI w)) 7 (nn (g.1 15)) (fold31 (fun w => accS g.1 0 0 (nI w)) 16 0)))), (0, .ref (a (2, 0, 0)))] []) (B := 12) (fun i80 hi80 ih80 => ?_) ?_ 0 (by omega)
      · refine e_iload_n (pc' := 81) (x := (nI i80)) rfl C dL_sum_80 rfl ?_
        refine e_bipush (pc' := 83) (v := 12) rfl C dL_sum_81 (by decide) ?_
        refine e_ic_geF (pc' := 86) (tgt := 122) rfl C dL_sum_83 (by decide) (show ¬ nI 12 ≤ nI i80 from nnle hi80 (by omega)) ?_
        refine e_iconst (pc' := 87) (v := 0) rfl C dL_sum_86 (by decide) ?_
        refine e_istore (pc' := 89) (D' := [(4, .int 0), (3, .int (nI i80)), (1, .long (foldP (fun k w => loggedF g.1 (nI k) (nI w)) 4 i80 (foldP (fun p w => potF g.1 (nI p) (nI w)) 7 (nn (g.1 15)) (fold31 (fun w => accS g.1 0 0 (nI w)) 16 0)))), (0, .ref (a (2, 0, 0)))]) rfl C dL_sum_87 (by decide) rfl ?_
        refine e_D (D' := [(4, .int (nI 0)), (1, .long (fold31 (fun w => loggedF g.1 (nI i80) (nI w)) 0 (foldP (fun k w => loggedF g.1 (nI k) (nI w)) 4 i80 (foldP (fun p w => potF g.1 (nI p) (nI w)) 7 (nn (g.1 15)) (fold31 (fun w => accS g.1 0 0 (nI w)) 16 0))))), (3, .int (nI i80)), (0, .ref (a (2, 0, 0)))]) (List.forall_mem_cons.mpr ⟨rfl, List.forall_mem_cons.mpr ⟨((show lk [(4, .int 0), (3, .int (nI i80)), (1, .long (foldP (fun k w => loggedF g.1 (nI k) (nI w)) 4 i80 (foldP (fun p w => potF g.1 (nI p) (nI w)) 7 (nn (g.1 15)) (fold31 (fun w => accS g.1 0 0 (nI w)) 16 0)))), (0, .ref (a (2, 0, 0)))] 1 = some (.long (foldP (fun k w => loggedF g.1 (nI k) (nI w)) 4 i80 (foldP (fun p w => potF g.1 (nI p) (nI w)) 7 (nn (g.1 15)) (fold31 (fun w => accS g.1 0 0 (nI w)) 16 0)))) from rfl).trans (congrArg (fun z => some (Value.long z)) f31_0)), List.forall_mem_cons.mpr ⟨rfl, List.forall_mem_cons.mpr ⟨rfl, fun _ h => absurd h List.not_mem_nil⟩⟩⟩⟩) ?_
        refine nat_loop (P := fun i89 => WE X G A a Y nilE 0 0 _ 89 [(4, .int (nI i89)), (1, .long (fold31 (fun w => loggedF g.1 (nI i80) (nI w)) i89 (foldP (fun k w => loggedF g.1 (nI k) (nI w)) 4 i80 (foldP (fun p w => potF g.1 (nI p) (nI w)) 7 (nn (g.1 15)) (fold31 (fun w => accS g.1 0 0 (nI w)) 16 0))))), (3, .int (nI i80)), (0, .ref (a (2, 0, 0)))] []) (B := 4) (fun i89 hi89 ih89 => ?_) ?_ 0 (by omega)
        · refine e_iload (pc' := 91) (x := (nI i89)) rfl C dL_sum_89 rfl ?_
          refine e_iconst (pc' := 92) (v := 4) rfl C dL_sum_91 (by decide) ?_
          refine e_ic_geF (pc' := 95) (tgt := 116) rfl C dL_sum_92 (by decide) (show ¬ nI 4 ≤ nI i89 from nnle hi89 (by omega)) ?_
          refine e_ldc2 (pc' := 98) (v := 31) rfl C cl_161 dL_sum_95 ?_
          refine e_lload_n (pc' := 99) (x := (fold31 (fun w => loggedF g.1 (nI i80) (nI w)) i89 (foldP (fun k w => loggedF g.1 (nI k) (nI w)) 4 i80 (foldP (fun p w => potF g.1 (nI p) (nI w)) 7 (nn (g.1 15)) (fold31 (fun w => accS g.1 0 0 (nI w)) 16 0))))) rfl C dL_sum_98 rfl ?_
          refine e_lmul (pc' := 100) rfl C dL_sum_99 ?_
          refine e_aload_n (pc' := 101) (x := (a (2, 0, 0))) rfl C dL_sum_100 rfl ?_
          refine e_iload_n (pc' := 102) (x := (nI i80)) rfl C dL_sum_101 rfl ?_
          refine e_iload (pc' := 104) (x := (nI i89)) rfl C dL_sum_102 rfl ?_
          refine e_q (pc' := 107) (k' := 0) (n' := 0) rfl C (q_logged _ G a hS hn (nI i80) (nI i89) (R := loggedF g.1 (nI i80) (nI i89)) rfl) my_X12_logged aw_1015 rfl rfl rfl (Nat.le_of_ble_eq_true rfl) rfl dL_sum_104 rfl rfl ?_
          refine e_i2l (pc' := 108) rfl C dL_sum_107 ?_
          refine e_ladd (pc' := 109) rfl C dL_sum_108 ?_
          refine e_topl (y := (fold31 (fun w => loggedF g.1 (nI i80) (nI w)) (i89 + 1) (foldP (fun k w => loggedF g.1 (nI k) (nI w)) 4 i80 (foldP (fun p w => potF g.1 (nI p) (nI w)) 7 (nn (g.1 15)) (fold31 (fun w => accS g.1 0 0 (nI w)) 16 0))))) (f31_s (f := fun w => loggedF g.1 (nI i80) (nI w))) ?_
          refine e_lstore_n (pc' := 110) (D' := [(1, .long (fold31 (fun w => loggedF g.1 (nI i80) (nI w)) (i89 + 1) (foldP (fun k w => loggedF g.1 (nI k) (nI w)) 4 i80 (foldP (fun p w => potF g.1 (nI p) (nI w)) 7 (nn (g.1 15)) (fold31 (fun w => accS g.1 0 0 (nI w)) 16 0))))), (4, .int (nI i89)), (3, .int (nI i80)), (0, .ref (a (2, 0, 0)))]) rfl C dL_sum_109 (by decide) rfl ?_
          refine e_iinc (pc' := 113) (j := 1) (v := (nI (i89 + 1))) (D' := [(4, .int (nI (i89 + 1))), (1, .long (fold31 (fun w => loggedF g.1 (nI i80) (nI w)) (i89 + 1) (foldP (fun k w => loggedF g.1 (nI k) (nI w)) 4 i80 (foldP (fun p w => potF g.1 (nI p) (nI w)) 7 (nn (g.1 15)) (fold31 (fun w => accS g.1 0 0 (nI w)) 16 0))))), (3, .int (nI i80)), (0, .ref (a (2, 0, 0)))]) rfl C dL_sum_110 rfl (nI_1 _) (by decide) rfl ?_
          refine e_goto (tgt := 89) C dL_sum_113 (by decide) ?_
          refine e_D (D' := [(4, .int (nI (i89 + 1))), (1, .long (fold31 (fun w => loggedF g.1 (nI i80) (nI w)) (i89 + 1) (foldP (fun k w => loggedF g.1 (nI k) (nI w)) 4 i80 (foldP (fun p w => potF g.1 (nI p) (nI w)) 7 (nn (g.1 15)) (fold31 (fun w => accS g.1 0 0 (nI w)) 16 0))))), (3, .int (nI i80)), (0, .ref (a (2, 0, 0)))]) (List.forall_mem_cons.mpr ⟨rfl, List.forall_mem_cons.mpr ⟨rfl, List.forall_mem_cons.mpr ⟨rfl, List.forall_mem_cons.mpr ⟨rfl, fun _ h => absurd h List.not_mem_nil⟩⟩⟩⟩) ?_
          exact ih89
        · refine e_iload (pc' := 91) (x := (nI 4)) rfl C dL_sum_89 rfl ?_
          refine e_iconst (pc' := 92) (v := 4) rfl C dL_sum_91 (by decide) ?_
          refine e_ic_geT (tgt := 116) C dL_sum_92 (by decide) (Int32.le_refl _) ?_
          refine e_iinc (pc' := 119) (j := 2) (v := (nI (i80 + 1))) (D' := [(3, .int (nI (i80 + 1))), (4, .int (nI 4)), (1, .long (fold31 (fun w => loggedF g.1 (nI i80) (nI w)) 4 (foldP (fun k w => loggedF g.1 (nI k) (nI w)) 4 i80 (foldP (fun p w => potF g.1 (nI p) (nI w)) 7 (nn (g.1 15)) (fold31 (fun w => accS g.1 0 0 (nI w)) 16 0))))), (0, .ref (a (2, 0, 0)))]) rfl C dL_sum_116 rfl (nI_1 _) (by decide) rfl ?_
          refine e_goto (tgt := 80) C dL_sum_119 (by decide) ?_
          refine e_D (D' := [(3, .int (nI (i80 + 1))), (1, .long (foldP (fun k w => loggedF g.1 (nI k) (nI w)) 4 (i80 + 1) (foldP (fun p w => potF g.1 (nI p) (nI w)) 7 (nn (g.1 15)) (fold31 (fun w => accS g.1 0 0 (nI w)) 16 0)))), (0, .ref (a (2, 0, 0)))]) (List.forall_mem_cons.mpr ⟨rfl, List.forall_mem_cons.mpr ⟨((show lk [(3, .int (nI (i80 + 1))), (4, .int (nI 4)), (1, .long (fold31 (fun w => loggedF g.1 (nI i80) (nI w)) 4 (foldP (fun k w => loggedF g.1 (nI k) (nI w)) 4 i80 (foldP (fun p w => potF g.1 (nI p) (nI w)) 7 (nn (g.1 15)) (fold31 (fun w => accS g.1 0 0 (nI w)) 16 0))))), (0, .ref (a (2, 0, 0)))] 1 = some (.long (fold31 (fun w => loggedF g.1 (nI i80) (nI w)) 4 (foldP (fun k w => loggedF g.1 (nI k) (nI w)) 4 i80 (foldP (fun p w => potF g.1 (nI p) (nI w)) 7 (nn (g.1 15)) (fold31 (fun w => accS g.1 0 0 (nI w)) 16 0))))) from rfl).trans (congrArg (fun z => some (Value.long z)) (fP_s (f := fun k w => loggedF g.1 (nI k) (nI w))))), List.forall_mem_cons.mpr ⟨rfl, fun _ h => absurd h List.not_mem_nil⟩⟩⟩) ?_
          exact ih80
      · refine e_iload_n (pc' := 81) (x := (nI 12)) rfl C dL_sum_80 rfl ?_
        refine e_bipush (pc' := 83) (v := 12) rfl C dL_sum_81 (by decide) ?_
        refine e_ic_geT (tgt := 122) C dL_sum_83 (by decide) (Int32.le_refl _) ?_
        refine e_aload_n (pc' := 123) (x := (a (2, 0, 0))) rfl C dL_sum_122 rfl ?_
        refine e_tell (pc' := 126) (k' := 18) (n' := 3600) rfl C hS hn my_X12_tell aw_962 (Nat.le_of_ble_eq_true rfl) rfl dL_sum_123 rfl rfl (fun Y_123 hS_123 hT_123 => ?_)
        refine e_istore_n (pc' := 127) (D' := [(3, .int (nI (lenS g.1))), (1, .long (foldP (fun k w => loggedF g.1 (nI k) (nI w)) 4 12 (foldP (fun p w => potF g.1 (nI p) (nI w)) 7 (nn (g.1 15)) (fold31 (fun w => accS g.1 0 0 (nI w)) 16 0)))), (0, .ref (a (2, 0, 0)))]) rfl C dL_sum_126 (by decide) rfl ?_
        refine e_iconst (pc' := 128) (v := 0) rfl C dL_sum_127 (by decide) ?_
        refine e_istore (pc' := 130) (D' := [(4, .int 0), (3, .int (nI (lenS g.1))), (1, .long (foldP (fun k w => loggedF g.1 (nI k) (nI w)) 4 12 (foldP (fun p w => potF g.1 (nI p) (nI w)) 7 (nn (g.1 15)) (fold31 (fun w => accS g.1 0 0 (nI w)) 16 0)))), (0, .ref (a (2, 0, 0)))]) rfl C dL_sum_128 (by decide) rfl ?_
        refine e_D (D' := [(4, .int (nI 0)), (1, .long (fold31 (chS g.1) 0 (foldP (fun k w => loggedF g.1 (nI k) (nI w)) 4 12 (foldP (fun p w => potF g.1 (nI p) (nI w)) 7 (nn (g.1 15)) (fold31 (fun w => accS g.1 0 0 (nI w)) 16 0))))), (3, .int (nI (lenS g.1))), (0, .ref (a (2, 0, 0)))]) (List.forall_mem_cons.mpr ⟨rfl, List.forall_mem_cons.mpr ⟨((show lk [(4, .int 0), (3, .int (nI (lenS g.1))), (1, .long (foldP (fun k w => loggedF g.1 (nI k) (nI w)) 4 12 (foldP (fun p w => potF g.1 (nI p) (nI w)) 7 (nn (g.1 15)) (fold31 (fun w => accS g.1 0 0 (nI w)) 16 0)))), (0, .ref (a (2, 0, 0)))] 1 = some (.long (foldP (fun k w => loggedF g.1 (nI k) (nI w)) 4 12 (foldP (fun p w => potF g.1 (nI p) (nI w)) 7 (nn (g.1 15)) (fold31 (fun w => accS g.1 0 0 (nI w)) 16 0)))) from rfl).trans (congrArg (fun z => some (Value.long z)) f31_0)), List.forall_mem_cons.mpr ⟨rfl, List.forall_mem_cons.mpr ⟨rfl, fun _ h => absurd h List.not_mem_nil⟩⟩⟩⟩) ?_
        have hl80 : lenS g.1 ≤ 80 := hS_123.1.li.2.2.1
        refine nat_loop (P := fun i130 => WE X G A a Y_123 nilE 18 3600 _ 130 [(4, .int (nI i130)), (1, .long (fold31 (chS g.1) i130 (foldP (fun k w => loggedF g.1 (nI k) (nI w)) 4 12 (foldP (fun p w => potF g.1 (nI p) (nI w)) 7 (nn (g.1 15)) (fold31 (fun w => accS g.1 0 0 (nI w)) 16 0))))), (3, .int (nI (lenS g.1))), (0, .ref (a (2, 0, 0)))] []) (B := (lenS g.1)) (fun i130 hi130 ih130 => ?_) ?_ 0 (Nat.zero_le _)
        · refine e_iload (pc' := 132) (x := (nI i130)) rfl C dL_sum_130 rfl ?_
          refine e_iload_n (pc' := 133) (x := (nI (lenS g.1))) rfl C dL_sum_132 rfl ?_
          refine e_ic_geF (pc' := 136) (tgt := 156) rfl C dL_sum_133 (by decide) (show ¬ nI _ ≤ nI i130 from nnle hi130 (by omega)) ?_
          refine e_ldc2 (pc' := 139) (v := 31) rfl C cl_161 dL_sum_136 ?_
          refine e_lload_n (pc' := 140) (x := (fold31 (chS g.1) i130 (foldP (fun k w => loggedF g.1 (nI k) (nI w)) 4 12 (foldP (fun p w => potF g.1 (nI p) (nI w)) 7 (nn (g.1 15)) (fold31 (fun w => accS g.1 0 0 (nI w)) 16 0))))) rfl C dL_sum_139 rfl ?_
          refine e_lmul (pc' := 141) rfl C dL_sum_140 ?_
          refine e_aload_n (pc' := 142) (x := (a (2, 0, 0))) rfl C dL_sum_141 rfl ?_
          refine e_iload (pc' := 144) (x := (nI i130)) rfl C dL_sum_142 rfl ?_
          refine e_q (pc' := 147) (k' := 18) (n' := 3600) rfl C (q_character _ G a hS_123 hT_123 hi130) my_X12_character aw_980 rfl rfl rfl (Nat.le_of_ble_eq_true rfl) rfl dL_sum_144 rfl rfl ?_
          refine e_i2l (pc' := 148) rfl C dL_sum_147 ?_
          refine e_ladd (pc' := 149) rfl C dL_sum_148 ?_
          refine e_topl (y := (fold31 (chS g.1) (i130 + 1) (foldP (fun k w => loggedF g.1 (nI k) (nI w)) 4 12 (foldP (fun p w => potF g.1 (nI p) (nI w)) 7 (nn (g.1 15)) (fold31 (fun w => accS g.1 0 0 (nI w)) 16 0))))) (f31_s (f := chS g.1)) ?_
          refine e_lstore_n (pc' := 150) (D' := [(1, .long (fold31 (chS g.1) (i130 + 1) (foldP (fun k w => loggedF g.1 (nI k) (nI w)) 4 12 (foldP (fun p w => potF g.1 (nI p) (nI w)) 7 (nn (g.1 15)) (fold31 (fun w => accS g.1 0 0 (nI w)) 16 0))))), (4, .int (nI i130)), (3, .int (nI (lenS g.1))), (0, .ref (a (2, 0, 0)))]) rfl C dL_sum_149 (by decide) rfl ?_
          refine e_iinc (pc' := 153) (j := 1) (v := (nI (i130 + 1))) (D' := [(4, .int (nI (i130 + 1))), (1, .long (fold31 (chS g.1) (i130 + 1) (foldP (fun k w => loggedF g.1 (nI k) (nI w)) 4 12 (foldP (fun p w => potF g.1 (nI p) (nI w)) 7 (nn (g.1 15)) (fold31 (fun w => accS g.1 0 0 (nI w)) 16 0))))), (3, .int (nI (lenS g.1))), (0, .ref (a (2, 0, 0)))]) rfl C dL_sum_150 rfl (nI_1 _) (by decide) rfl ?_
          refine e_goto (tgt := 130) C dL_sum_153 (by decide) ?_
          refine e_D (D' := [(4, .int (nI (i130 + 1))), (1, .long (fold31 (chS g.1) (i130 + 1) (foldP (fun k w => loggedF g.1 (nI k) (nI w)) 4 12 (foldP (fun p w => potF g.1 (nI p) (nI w)) 7 (nn (g.1 15)) (fold31 (fun w => accS g.1 0 0 (nI w)) 16 0))))), (3, .int (nI (lenS g.1))), (0, .ref (a (2, 0, 0)))]) (List.forall_mem_cons.mpr ⟨rfl, List.forall_mem_cons.mpr ⟨rfl, List.forall_mem_cons.mpr ⟨rfl, List.forall_mem_cons.mpr ⟨rfl, fun _ h => absurd h List.not_mem_nil⟩⟩⟩⟩) ?_
          exact ih130
        · refine e_iload (pc' := 132) (x := (nI (lenS g.1))) rfl C dL_sum_130 rfl ?_
          refine e_iload_n (pc' := 133) (x := (nI (lenS g.1))) rfl C dL_sum_132 rfl ?_
          refine e_ic_geT (tgt := 156) C dL_sum_133 (by decide) (Int32.le_refl _) ?_
          refine e_ldc2 (pc' := 159) (v := 31) rfl C cl_161 dL_sum_156 ?_
          refine e_lload_n (pc' := 160) (x := (fold31 (chS g.1) (lenS g.1) (foldP (fun k w => loggedF g.1 (nI k) (nI w)) 4 12 (foldP (fun p w => potF g.1 (nI p) (nI w)) 7 (nn (g.1 15)) (fold31 (fun w => accS g.1 0 0 (nI w)) 16 0))))) rfl C dL_sum_159 rfl ?_
          refine e_lmul (pc' := 161) rfl C dL_sum_160 ?_
          refine e_ldc2 (pc' := 164) (v := 7) rfl C cl_166 dL_sum_161 ?_
          refine e_aload_n (pc' := 165) (x := (a (2, 0, 0))) rfl C dL_sum_164 rfl ?_
          refine e_q (pc' := 168) (k' := 18) (n' := 3600) rfl C (q_burnt _ G a hS_123 hn  (R := g.1 16) rfl) my_X12_burnt aw_1024 rfl rfl rfl (Nat.le_of_ble_eq_true rfl) rfl dL_sum_165 rfl rfl ?_
          refine e_i2l (pc' := 169) rfl C dL_sum_168 ?_
          refine e_lmul (pc' := 170) rfl C dL_sum_169 ?_
          refine e_ladd (pc' := 171) rfl C dL_sum_170 ?_
          refine e_aload_n (pc' := 172) (x := (a (2, 0, 0))) rfl C dL_sum_171 rfl ?_
          refine e_q (pc' := 175) (k' := 18) (n' := 3600) rfl C (q_wanted _ G a hS_123 hn  (R := mWant g.1) rfl) my_X12_wanted aw_956 rfl rfl rfl (Nat.le_of_ble_eq_true rfl) rfl dL_sum_172 rfl rfl ?_
          refine e_i2l (pc' := 176) rfl C dL_sum_175 ?_
          refine e_ladd (pc' := 177) rfl C dL_sum_176 ?_
          exact e_lreturn C rfl dL_sum_177 rfl rfl ⟨rfl, _, hS_123⟩
/-- the sum of what the keeper shows; its rows, and what it keeps, as they were -/
theorem c_L_sum (l : Launch) (G : GT) (a : Id3 → Nat) (Y : YT) (n c st tl ll : Nat) (g : GH) (hS : SS Y n c st tl ll g) (hn : n ≤ 90000) : CtY l G a yL_sum cL_sum 5 (some .long) ({ frames := 11, cells := 18, slots := 3600, locals := 242 } : Room) [.ref (a (2, 0, 0))] Y (PL (fun r Y' => r = sumS g.1 ∧ ∃ ll', SS Y' n c st tl ll' g)) := by
  intro M hM
  have hc := hS.row (s' := cutS g.1) (cut_f g.1)
  refine (c_L_sum0 l G a _ n c st tl ll _ hc hn M (hM.gh (fun i hi => setA_n (fun z => hi (by rw [z]))))).mono (fun v M' hq => ?_)
  obtain ⟨Y', h1, r, hr, h2, ll', h3⟩ := hq
  have h4 := h3.row (s' := g.1) (fun f hf => (cut_f g.1 f hf).symm)
  exact ⟨setA Y' (4, 0, 0) g.1, h1.gh (fun i hi => setA_n (fun z => hi (by rw [z]))), r, hr, h2, ll', h4⟩
