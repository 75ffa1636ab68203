def sbC (Y : YT) (j len : Nat) (c : Int32) : YT := setA Y (5, 0, j) (upd (upd (Y (5, 0, j)) (1 + len) c) 0 (nI (len + 1)))
def sbW (y : Nat → Int32) (len x : Nat) : Nat → Int32 := fun f => if 1 + len ≤ f ∧ f < 1 + len + sb_dg x then nI (sb_dec x (f - 1 - len)) else y f
def sbI (Y : YT) (j len x : Nat) : YT := setA Y (5, 0, j) (upd (sbW (Y (5, 0, j)) len x) 0 (nI (len + sb_dg x)))
def sb0 (Y : YT) (j : Nat) : YT := setA Y (5, 0, j) (upd (Y (5, 0, j)) 0 0)
theorem n_of {n len : Nat} {x : Int32} (h : x = nI n) (h2 : x = nI len) (hn : n ≤ 200) (hl : len ≤ 200) : n = len := (nI_eq (by omega) (by omega)).mp (h.symm.trans h2)
theorem c_J0_length_8abf5 (l : Launch) (G : GT) (a : Id3 → Nat) (Y : YT) (k : Nat) (hk : 10 ≤ k ∧ k < 25) : CtY l G a yJ0_length_8abf5 cJ0_length_8abf5 1 (some .int) ({ frames := 1, cells := 0, slots := 0, locals := 20 } : Room) [.ref (gK G k)] Y (PI (fun r Y' => r = nI (slen.getD k 0) ∧ Y' = Y)) := by
  exact CtY.pure (fun M => j_J0_length_8abf5 l G M k hk)
theorem c_J0_charAt_5068e (l : Launch) (G : GT) (a : Id3 → Nat) (Y : YT) (k i : Nat) (hk : 10 ≤ k ∧ k < 25) (hi : i < slen.getD k 0) : CtY l G a yJ0_charAt_5068e cJ0_charAt_5068e 2 (some .char) ({ frames := 4, cells := 0, slots := 0, locals := 85 } : Room) [.ref (gK G k), .int (nI i)] Y (PI (fun r Y' => r = sch k i ∧ Y' = Y)) := by
  exact CtY.pure (fun M => j_J0_charAt_5068e l G M k i hk hi)
theorem c_J9_floorDiv_7cf53 (l : Launch) (G : GT) (a : Id3 → Nat) (Y : YT) (x : Int32) : CtY l G a yJ9_floorDiv_7cf53 cJ9_floorDiv_7cf53 3 (some .int) ({ frames := 0, cells := 0, slots := 0, locals := 0 } : Room) [.int x, .int 100] Y (PI (fun r Y' => r = (if 0 ≤ x ^^^ 100 then x / 100 else if x / 100 * 100 = x then x / 100 else x / 100 - 1) ∧ Y' = Y)) := by
  exact CtY.pure (fun M => j_J9_floorDiv_7cf53 l G M x)
theorem c_Jx29ce0_ordinal_8abf5 (l : Launch) (G : GT) (a : Id3 → Nat) (Y : YT) (i : Nat) (hi : i < 9) : CtY l G a yJx29ce0_ordinal_8abf5 cJx29ce0_ordinal_8abf5 1 (some .int) ({ frames := 0, cells := 0, slots := 0, locals := 0 } : Room) [.ref (gad G i)] Y (PI (fun r Y' => r = nI i ∧ Y' = Y)) := by
  exact CtY.pure (fun M => j_Jx29ce0_ordinal_8abf5 l G M i hi)
theorem c_J4_length_8abf5 (l : Launch) (G : GT) (a : Id3 → Nat) (Y : YT) (j len : Nat) (hj : j < 2) (hl : Y (5, 0, j) 0 = nI len) : CtY l G a yJ4_length_8abf5 cJ4_length_8abf5 1 (some .int) ({ frames := 1, cells := 0, slots := 0, locals := 20 } : Room) [.ref (a (5, 0, j))] Y (PI (fun r Y' => r = nI len ∧ Y' = Y)) := by
  intro M hM
  obtain ⟨v, n, cap, ml, z, g1, g2, g3, -⟩ := hM.sbx hj
  rw [show nI len = nI n from hl.symm.trans g3]
  exact (j_J4_length_8abf5 l G M _ v n ml g1).mono (fun ov M' hp => ⟨Y, by rw [hp.2]; exact hM, _, hp.1, rfl, rfl⟩)
theorem c_J4_charAt_5068e (l : Launch) (G : GT) (a : Id3 → Nat) (Y : YT) (j len i : Nat) (hj : j < 2) (hl : Y (5, 0, j) 0 = nI len) (hl2 : len ≤ 90) (hi : i < len) : CtY l G a yJ4_charAt_5068e cJ4_charAt_5068e 2 (some .char) ({ frames := 3, cells := 0, slots := 0, locals := 67 } : Room) [.ref (a (5, 0, j)), .int (nI i)] Y (PI (fun r Y' => r = Y (5, 0, j) (1 + i) ∧ Y' = Y)) := by
  intro M hM
  obtain ⟨v, n, cap, ml, z, g1, g2, g3, g4, g5, g6, g7, -⟩ := hM.sbx hj
  obtain rfl := n_of g3 hl (by omega) (by omega)
  obtain ⟨e1, c, e2, e3⟩ := g7 i hi
  rw [e3]
  exact (j_J4_charAt_5068e l G M _ v n cap i c ml z g1 g2 g4 g5 hi (e1.trans e3) e2).mono (fun ov M' hp => ⟨Y, by rw [hp.2]; exact hM, _, hp.1, rfl, rfl⟩)
theorem c_J4_append_cf468 (l : Launch) (G : GT) (a : Id3 → Nat) (Y : YT) (j len c : Nat) (hj : j < 2) (hl : Y (5, 0, j) 0 = nI len) (hl2 : len + 1 ≤ 90) (hc : c < 128) : CtY l G a yJ4_append_cf468 cJ4_append_cf468 2 (some (.object "java/lang/StringBuilder")) ({ frames := 7, cells := 1, slots := 200, locals := 158 } : Room) [.ref (a (5, 0, j)), .int (nI c)] Y (PR (fun r Y' => r = .ref (a (5, 0, j)) ∧ Y' = sbC Y j len (nI c))) := by
  intro M hM
  obtain ⟨v, n, cap, ml, z, g1, g2, g3, g4, g5, g6, g7, g8⟩ := hM.sbx hj
  obtain rfl := n_of g3 hl (by omega) (by omega)
  refine (j_J4_append_cf468 l G M _ v n cap c ml z g1 g2 g4 g5 g6 hl2 hc).mono (fun ov M' hp => ?_)
  obtain ⟨r, rfl, rfl, w, cap', z', x1, x2, x3, x4⟩ := hp
  refine ⟨sbC Y j n (nI c), g8 M' w (n + 1) cap' ml z' _ x1 (by rw [pk_us]) x2 (fun t ht => ?_), _, rfl, rfl, rfl⟩
  rw [pk_un (by omega)]
  by_cases e : t = n
  · subst e
    rw [pk_us]
    exact ⟨x4, c, hc, rfl⟩
  · rw [pk_un (by omega), x3 t (by omega)]
    exact g7 t (by omega)
theorem c_J4_append_bf812 (l : Launch) (G : GT) (a : Id3 → Nat) (Y : YT) (j len x : Nat) (hj : j < 2) (hl : Y (5, 0, j) 0 = nI len) (hl2 : len + sb_dg x ≤ 90) (hx : x < 2 ^ 31) : CtY l G a yJ4_append_bf812 cJ4_append_bf812 2 (some (.object "java/lang/StringBuilder")) ({ frames := 5, cells := 1, slots := 200, locals := 127 } : Room) [.ref (a (5, 0, j)), .int (nI x)] Y (PR (fun r Y' => r = .ref (a (5, 0, j)) ∧ Y' = sbI Y j len x)) := by
  intro M hM
  obtain ⟨v, n, cap, ml, z, g1, g2, g3, g4, g5, g6, g7, g8⟩ := hM.sbx hj
  obtain rfl := n_of g3 hl (by omega) (by omega)
  refine (j_J4_append_bf812 l G M _ v n cap x ml z g1 g2 g4 g5 g6 hl2 hx).mono (fun ov M' hp => ?_)
  obtain ⟨r, rfl, rfl, w, cap', z', x1, x2, x3, x4⟩ := hp
  refine ⟨sbI Y j n x, g8 M' w (n + sb_dg x) cap' ml z' _ x1 (by rw [pk_us]) x2 (fun t ht => ?_), _, rfl, rfl, rfl⟩
  rw [pk_un (by omega)]
  unfold sbW
  by_cases e : t < n
  · rw [if_neg (by omega), x3 t e]
    exact g7 t e
  · rw [if_pos (by omega)]
    have h9 := x4 (t - n) (by omega)
    rw [show n + (t - n) = t by omega] at h9
    rw [show 1 + t - 1 - n = t - n by omega]
    exact ⟨h9, _, dec_lt _ _, rfl⟩
theorem c_J4_setLength_d00df (l : Launch) (G : GT) (a : Id3 → Nat) (Y : YT) (j : Nat) (hj : j < 2) : CtY l G a yJ4_setLength_d00df cJ4_setLength_d00df 2 none ({ frames := 5, cells := 1, slots := 200, locals := 125 } : Room) [.ref (a (5, 0, j)), .int 0] Y (PV (fun Y' => Y' = sb0 Y j)) := by
  intro M hM
  obtain ⟨v, n, cap, ml, z, g1, g2, g3, g4, g5, g6, g7, g8⟩ := hM.sbx hj
  refine (j_J4_setLength_d00df l G M _ v n cap ml z g1 g2 g4 g5 g6).mono (fun ov M' hp => ?_)
  obtain ⟨rfl, w, cap', z', ml', x1⟩ := hp
  exact ⟨sb0 Y j, g8 M' w 0 cap' ml' z' _ x1 (by rw [pk_us]; rfl) (Nat.zero_le _) (fun t ht => absurd ht (Nat.not_lt_zero t)), rfl, rfl⟩
