/-! WHAT KEEPS THE MODEL'S INDICES WITHIN THE ROW, with the fuel counted. -/
theorem lD_n {s : Nat → Int32} {l f : Nat} (hl : 0 < l) (h : f ≠ 8) (h2 : f < 17 ∨ 17 + l ≤ f) : lD s l f = s f := by
  rw [lD, upd_n (by omega), upd_n h, lagS_lo h2]
theorem lD_r {s : Nat → Int32} {l j : Nat} (h : j + 1 < l) : lD s l (17 + j) = s (17 + (j + 1)) := by
  rw [lD, upd_n (by omega), upd_n (by omega), lagS, if_neg (by omega), if_pos (by omega)]
  congr 1
theorem lDn_n {s : Nat → Int32} {l f : Nat} (h : f ≠ 8) (h2 : f < 17 ∨ 17 + l ≤ f) : ∀ n, n ≤ l → lDn s l n f = s f
  | 0, _ => rfl
  | n + 1, hn => by
    rw [lDn, lD_n (by omega) h (by omega)]
    exact lDn_n h h2 n (by omega)
theorem lDn_r {s : Nat → Int32} {l : Nat} : ∀ n j, j + n < l → lDn s l n (17 + j) = s (17 + (j + n))
  | 0, _, _ => rfl
  | n + 1, j, h => by
    rw [lDn, lD_r (by omega), lDn_r n (j + 1) (by omega)]
    congr 2
    omega
theorem lU_n {s : Nat → Int32} {l f : Nat} (h : f ≠ 8) (h2 : f < 17 ∨ 17 + l < f) : lU s l f = s f := by
  rw [lU, upd_n h, upd_n (by omega), shU_lo (Nat.le_refl l) (by omega)]
theorem lU_0 {s : Nat → Int32} {l : Nat} : lU s l 17 = s 9 := by
  rw [lU, upd_n (by decide), upd_s, shU_lo (Nat.le_refl l) (by omega)]
theorem lU_r {s : Nat → Int32} {l j : Nat} (h : j < l) : lU s l (17 + (j + 1)) = s (17 + j) := by
  rw [lU, upd_n (by omega), upd_n (by omega), shU, if_pos (by omega)]
  congr 1
theorem lUn_n {s : Nat → Int32} {l f : Nat} (h : f ≠ 8) : ∀ n, (f < 17 ∨ 17 + l + n ≤ f) → lUn s l n f = s f
  | 0, _ => rfl
  | n + 1, h2 => by
    rw [lUn, lU_n h (by omega)]
    exact lUn_n h n (by omega)
theorem lUn_r {s : Nat → Int32} {l : Nat} : ∀ n j, j < l + n → lUn s l n (17 + j) = if j < n then s 9 else s (17 + (j - n))
  | 0, j, h => by rw [if_neg (by omega)]; rfl
  | n + 1, j, h => by
    rw [lUn]
    cases j with
    | zero =>
      rw [if_pos (by omega), Nat.add_zero, lU_0, lUn_n (by decide) n (by omega)]
    | succ j =>
      rw [lU_r (by omega), lUn_r n j (by omega)]
      by_cases hj : j < n
      · rw [if_pos hj, if_pos (by omega)]
      · rw [if_neg hj, if_neg (by omega), show j + 1 - (n + 1) = j - n by omega]
theorem lagSet_8 {s : Nat → Int32} {l m : Nat} (h : s 8 = nI l) : lagSet s l m 8 = nI m := by
  unfold lagSet
  rw [lUn_8 (l := l - (l - m)) (lDn_8 h (l - m) (by omega))]
  congr 1
  omega
theorem lagSet_n {s : Nat → Int32} {l m f : Nat} (hl : l ≤ 5) (hm : m ≤ 5) (h : f ≠ 8) (h2 : f < 17 ∨ 22 ≤ f) : lagSet s l m f = s f := by
  unfold lagSet
  rw [lUn_n h _ (by omega), lDn_n h (by omega) _ (by omega)]
/-- the row of lag behind it: what went ahead is dropped, what is wanting is put ahead -/
theorem lagSet_r {s : Nat → Int32} {l m j : Nat} (hj : j < m) : lagSet s l m (17 + j) = if j < m - l then s 9 else s (17 + (j + l - m)) := by
  unfold lagSet
  rw [lUn_r _ j (by omega)]
  by_cases h : m ≤ l
  · rw [if_neg (by omega), if_neg (by omega), lDn_r _ _ (by omega)]
    congr 1
    omega
  · rw [show l - (l - m) = l by omega, show l - m = 0 by omega]
    by_cases h2 : j < m - l
    · rw [if_pos h2, if_pos h2]
      rfl
    · rw [if_neg h2, if_neg h2]
      show s _ = s _
      congr 1
      omega
def MB (s : Nat → Int32) (n : Nat) : Prop := ∃ lg np d fu : Nat, s 8 = nI lg ∧ lg ≤ 5 ∧ s 15 = nI np ∧ np ≤ 8 ∧ s 9 = nI d ∧ d ≤ 100 ∧ s 10 = nI fu ∧ fu ≤ 10000 * n ∧ ∀ j, j < lg → ∃ e, s (17 + j) = nI e ∧ e ≤ 100
theorem MB.ok {s : Nat → Int32} {n : Nat} (h : MB s n) (hn : n ≤ 100000) : MOK s := by
  obtain ⟨lg, np, d, fu, h1, h2, h3, h4, h5, h6, h7, h8, h9⟩ := h
  exact ⟨lg, np, d, fu, h1, h2, h3, h4, h5, h6, h7, by omega, h9⟩
theorem MB.up {s : Nat → Int32} {n m : Nat} (h : MB s n) (hn : n ≤ m) : MB s m := by
  obtain ⟨lg, np, d, fu, h1, h2, h3, h4, h5, h6, h7, h8, h9⟩ := h
  exact ⟨lg, np, d, fu, h1, h2, h3, h4, h5, h6, h7, by omega, h9⟩
theorem MB.eq {s s' : Nat → Int32} {n : Nat} (h : MB s n) (he : ∀ f, (f = 8 ∨ f = 9 ∨ f = 10 ∨ f = 15 ∨ (17 ≤ f ∧ f < 22)) → s' f = s f) : MB s' n := by
  obtain ⟨lg, np, d, fu, h1, h2, h3, h4, h5, h6, h7, h8, h9⟩ := h
  exact ⟨lg, np, d, fu, by rw [he 8 (by simp), h1], h2, by rw [he 15 (by simp), h3], h4, by rw [he 9 (by simp), h5], h6, by rw [he 10 (by simp), h7], h8, fun j hj => by rw [he (17 + j) (by omega)]; exact h9 j hj⟩
theorem min_fu {s : Nat → Int32} {fu : Nat} (h : MOK s) (hfu : s 10 = nI fu) (hf : fu < 2 ^ 30) : ∃ fu', minute s 10 = nI fu' ∧ fu' ≤ fu := by
  obtain ⟨b, fu0, hb1, hb2, h0, hbf, hfu2⟩ := mBurn_ok h
  obtain rfl : fu0 = fu := (nI_eq (by omega) (by omega)).mp (h0.symm.trans hfu)
  have h10 := mS4_10 h
  refine ⟨fu0 - b, ?_, by omega⟩
  unfold minute
  rw [htN_lo (by decide), mS11, nmS_lo (by decide) (by decide), mS10, upd_n (by decide), mS9, upd_n (by decide), upd_n (by decide), mS7, hb2, nn_nI (by omega), upd_n (by omega), mS6, upd_n (by decide), upd_s, h10, hfu]
  exact pk_sub hbf
theorem MB_minute {s : Nat → Int32} {n : Nat} (h : MB s n) (hn : n ≤ 100000) : MB (minute s) n := by
  have hok := h.ok hn
  obtain ⟨-, -, -, fu3, -, -, -, -, -, -, g7, g8, -⟩ := h
  obtain ⟨fu', e2, e3⟩ := min_fu hok g7 (by omega)
  obtain ⟨lg, np, d, fu2, h1, h2, h3, h4, h5, h6, h7, h8, h9⟩ := MOK_minute hok
  exact ⟨lg, np, d, fu', h1, h2, h3, h4, h5, h6, e2, by omega, h9⟩
theorem MB_mins {s : Nat → Int32} {n : Nat} (h : MB s n) (hn : n ≤ 100000) : ∀ k, MB (mins k s) n
  | 0 => h
  | k + 1 => MB_minute (MB_mins h hn k) hn
theorem rngN {v lo hi : Int32} {m : Nat} (hm : hi.toInt = m) (hlo : 0 ≤ lo) (h : lo ≤ v ∧ v ≤ hi) : ∃ j, j ≤ m ∧ v = nI j := rng_nI hm hlo h
theorem MB_act {s : Nat → Int32} {q : ActT} {n : Nat} (h : q.1 = 0 → MB q.2.1 n) : q.1 = 0 → MB q.2.1 n := h
theorem bad_0 {s : Nat → Int32} {n : Nat} : (badA s).1 = 0 → MB (badA s).2.1 n := fun h => absurd h (show ¬ (-10002 : Int32) = 0 by decide)
theorem iteM {c : Prop} {dc : Decidable c} {u v : ActT} {n : Nat} (hu : c → u.1 = 0 → MB u.2.1 n) (hv : v.1 = 0 → MB v.2.1 n) : (if c then u else v).1 = 0 → MB (if c then u else v).2.1 n := by
  by_cases h : c
  · rw [if_pos h]
    exact hu h
  · rw [if_neg h]
    exact hv
theorem ref_0 {k v : Int32} {s : Nat → Int32} {n : Nat} (h : ¬ k = 0) : ((k, s, v) : ActT).1 = 0 → MB ((k, s, v) : ActT).2.1 n := fun e => absurd e h
theorem aimA_M {s : Nat → Int32} {n : Nat} {d : Int32} (h : MB s n) : (aimA s d).1 = 0 → MB (aimA s d).2.1 n := by
  unfold aimA
  exact iteM (fun _ => iteM (fun _ => ref_0 (by decide)) (fun _ => h.eq (fun f hf => by show upd _ _ _ f = _; rw [upd_n (by omega), upd_n (by omega)]))) bad_0
theorem gainA_M {s : Nat → Int32} {n : Nat} {e u c : Int32} (h : MB s n) : (gainA s e u c).1 = 0 → MB (gainA s e u c).2.1 n := by
  unfold gainA
  exact iteM (fun _ => iteM (fun _ => iteM (fun _ _ => h.eq (fun f hf => by show upd _ _ _ f = _; rw [upd_n (by omega), upd_n (by omega), upd_n (by omega)])) bad_0) bad_0) bad_0
theorem capA_M {s : Nat → Int32} {n : Nat} {c : Int32} (h : MB s n) : (capA s c).1 = 0 → MB (capA s c).2.1 n := by
  unfold capA
  exact iteM (fun _ => iteM (fun _ => ref_0 (by decide)) (fun _ => h.eq (fun f hf => by show upd _ _ _ f = _; rw [upd_n (by omega), upd_n (by omega)]))) bad_0
theorem fuelA_M {s : Nat → Int32} {n : Nat} {x : Int32} (h : MB s n) : (fuelA s x).1 = 0 → MB (fuelA s x).2.1 (n + 1) := by
  unfold fuelA
  refine iteM (fun hc _ => ?_) bad_0
  obtain ⟨j, hj, rfl⟩ := rng_nI (m := 9999) (by decide) (by decide) hc
  obtain ⟨lg, np, d, fu, h1, h2, h3, h4, h5, h6, h7, h8, h9⟩ := h
  show MB (upd (upd s 10 (s 10 + nI j)) 11 (s 11 + nI j)) (n + 1)
  exact ⟨lg, np, d, fu + j, by show upd _ _ _ 8 = _; rw [upd_n (by decide), upd_n (by decide), h1], h2, by show upd _ _ _ 15 = _; rw [upd_n (by decide), upd_n (by decide), h3], h4, by show upd _ _ _ 9 = _; rw [upd_n (by decide), upd_n (by decide), h5], h6, by show upd _ _ _ 10 = _; rw [upd_n (by decide), upd_s, h7]; exact nI_add fu j, by omega, fun i hi => by show ∃ e, upd _ _ _ _ = _ ∧ _; rw [upd_n (by omega), upd_n (by omega)]; exact h9 i hi⟩
theorem goA_M {s : Nat → Int32} {n : Nat} {m : Int32} (h : MB s n) (hn : n ≤ 100000) : (goA s m).1 = 0 → MB (goA s m).2.1 n := by
  unfold goA
  exact iteM (fun _ _ => MB_mins h hn _) bad_0
theorem potA_M {s : Nat → Int32} {n : Nat} {x y z : Int32} (h : MB s n) : (potA s x y z).1 = 0 → MB (potA s x y z).2.1 n := by
  unfold potA
  refine iteM (fun _ => iteM (fun _ => iteM (fun _ => ?_) bad_0) bad_0) bad_0
  by_cases c : s 15 = 8
  · rw [if_pos c]
    exact ref_0 (by decide)
  · rw [if_neg c]
    intro _
    obtain ⟨lg, np, d, fu, h1, h2, h3, h4, h5, h6, h7, h8, h9⟩ := h
    have hnp : np < 8 := by
      rcases Nat.lt_or_ge np 8 with q | q
      · exact q
      · exact absurd (by rw [h3, show np = 8 by omega]; rfl) c
    show MB (potS s (nn (s 15)) x y z) n
    rw [h3, nn_nI (by omega)]
    unfold potS
    exact ⟨lg, np + 1, d, fu, by rw [upd_n (by decide), upd_n (by omega), upd_n (by omega), upd_n (by omega), h1], h2, by rw [upd_s]; exact nI_add np 1, by omega, by rw [upd_n (by decide), upd_n (by omega), upd_n (by omega), upd_n (by omega), h5], h6, by rw [upd_n (by decide), upd_n (by omega), upd_n (by omega), upd_n (by omega), h7], h8, fun i hi => by rw [upd_n (by omega), upd_n (by omega), upd_n (by omega), upd_n (by omega)]; exact h9 i hi⟩
theorem putA_M {s : Nat → Int32} {n : Nat} {p : Int32} (h : MB s n) : (putA s p).1 = 0 → MB (putA s p).2.1 n := by
  unfold putA
  refine iteM (fun _ => ?_) (ref_0 (by decide))
  by_cases c : s (195 + nn p) = 0
  · rw [if_pos c]
    by_cases c2 : s 0 ≤ 60
    · rw [if_pos c2]
      exact iteM (fun _ => ref_0 (by decide)) (fun _ => h.eq (fun f hf => by show upd _ _ _ f = _; rw [upd_n (by omega), upd_n (by omega)]))
    · rw [if_neg c2]
      exact ref_0 (by decide)
  · rw [if_neg c]
    exact ref_0 (by decide)
theorem takeA_M {s : Nat → Int32} {n : Nat} {p : Int32} (h : MB s n) : (takeA s p).1 = 0 → MB (takeA s p).2.1 n := by
  unfold takeA
  refine iteM (fun _ => ?_) (ref_0 (by decide))
  by_cases c : s (211 + nn p) = 0
  · rw [if_pos c]
    exact ref_0 (by decide)
  · rw [if_neg c]
    by_cases c2 : s 0 ≤ 60
    · rw [if_pos c2]
      exact fun _ => h.eq (fun f hf => by show upd _ _ _ f = _; rw [upd_n (by omega), upd_n (by omega)])
    · rw [if_neg c2]
      exact ref_0 (by decide)
theorem lagA_M {s : Nat → Int32} {n : Nat} {m : Int32} (h : MB s n) : (lagA s m).1 = 0 → MB (lagA s m).2.1 n := by
  unfold lagA
  refine iteM (fun hc => iteM (fun _ => ref_0 (by decide)) (fun _ => ?_)) bad_0
  obtain ⟨j, hj, rfl⟩ := rng_nI (m := 5) (by decide) (by decide) hc
  obtain ⟨lg, np, d, fu, h1, h2, h3, h4, h5, h6, h7, h8, h9⟩ := h
  show MB (lagSet s (nn (s 8)) (nn (nI j))) n
  rw [h1, nn_nI (by omega), nn_nI (by omega)]
  refine ⟨j, np, d, fu, lagSet_8 h1, hj, by rw [lagSet_n h2 hj (by decide) (by decide), h3], h4, by rw [lagSet_n h2 hj (by decide) (by decide), h5], h6, by rw [lagSet_n h2 hj (by decide) (by decide), h7], h8, fun i hi => ?_⟩
  rw [lagSet_r hi]
  by_cases c : i < j - lg
  · rw [if_pos c]
    exact ⟨d, h5, h6⟩
  · rw [if_neg c]
    exact h9 _ (by omega)
theorem doA_M {s τ : Nat → Int32} {n k : Nat} (h : MB s n) (hn : n ≤ 100000) : (doA s τ k).1 = 0 → MB (doA s τ k).2.1 (n + 1) := by
  have u : ∀ {q : ActT}, (q.1 = 0 → MB q.2.1 n) → (q.1 = 0 → MB q.2.1 (n + 1)) := fun hq h0 => (hq h0).up (by omega)
  unfold doA
  exact iteM (fun _ => u (aimA_M h)) (iteM (fun _ => u (capA_M h)) (iteM (fun _ => fuelA_M h) (iteM (fun _ => u (lagA_M h)) (iteM (fun _ => u (gainA_M h)) (iteM (fun _ => u (potA_M h)) (iteM (fun _ => u (takeA_M h)) (iteM (fun _ => u (putA_M h)) (u (goA_M h hn)))))))))
