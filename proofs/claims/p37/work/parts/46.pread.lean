/-! THE CLASS'S READER as a function of the text, and that it is the model's. -/
def litS (T : Nat → Int32) (e : Nat) (c : Int32) (u : PSt) : PSt := if u.2.1 = 0 then (if hereT T e u.1 = c then (u.1 + 1, 0, u.2.2) else (u.1, 1, u.2.2)) else u
def numS (T : Nat → Int32) (e m cnt : Nat) (u : PSt) : PSt := if u.2.1 = 0 then (if ndF T e u.1 m = 0 then (u.1, 1, u.2.2) else (u.1 + ndF T e u.1 m, 0, upd u.2.2 cnt (nvF T e u.1 (ndF T e u.1 m)))) else u
def cntK (k : Nat) : Nat → Nat
  | 0 => 0
  | i + 1 => if 49 ≤ sch k i ∧ sch k i ≤ 57 then cntK k i + 1 else cntK k i
def fmS (T : Nat → Int32) (e k sp : Nat) (n0 : Nat → Int32) : Nat → PSt
  | 0 => (sp, 0, n0)
  | i + 1 => if 49 ≤ sch k i ∧ sch k i ≤ 57 then numS T e (nn (sch k i - 48)) (cntK k i) (fmS T e k sp n0 i) else litS T e (sch k i) (fmS T e k sp n0 i)
theorem litS_x {T : Nat → Int32} {e : Nat} {c : Int32} {u : PSt} (h : ¬ u.2.1 = 0) : litS T e c u = u := if_neg h
theorem numS_x {T : Nat → Int32} {e m cnt : Nat} {u : PSt} (h : ¬ u.2.1 = 0) : numS T e m cnt u = u := if_neg h
theorem fmS_x {T : Nat → Int32} {e k sp : Nat} {n0 : Nat → Int32} {i : Nat} (h : ¬ (fmS T e k sp n0 i).2.1 = 0) : ∀ d, fmS T e k sp n0 (i + d) = fmS T e k sp n0 i
  | 0 => rfl
  | d + 1 => by
    have ih := fmS_x h d
    rw [show i + (d + 1) = i + d + 1 by omega, fmS, ih]
    split
    · exact numS_x h
    · exact litS_x h
theorem litS_b {T : Nat → Int32} {e : Nat} {c : Int32} {u : PSt} (h : isb u.2.1) : isb (litS T e c u).2.1 := by
  unfold litS
  split
  · split
    · exact Or.inl rfl
    · exact Or.inr rfl
  · exact h
theorem numS_b {T : Nat → Int32} {e m cnt : Nat} {u : PSt} (h : isb u.2.1) : isb (numS T e m cnt u).2.1 := by
  unfold numS
  split
  · split
    · exact Or.inr rfl
    · exact Or.inl rfl
  · exact h
theorem fmS_b {T : Nat → Int32} {e k sp : Nat} {n0 : Nat → Int32} : ∀ i, isb (fmS T e k sp n0 i).2.1
  | 0 => Or.inl rfl
  | i + 1 => by
    rw [fmS]
    split
    · exact numS_b (fmS_b i)
    · exact litS_b (fmS_b i)
theorem here_lt {T : Nat → Int32} {e i : Nat} {c : Int32} (h : hereT T e i = c) (hc : c ≠ -10001) : i < e := by
  unfold hereT at h
  split at h
  · assumption
  · exact absurd h.symm hc
theorem litS_le {T : Nat → Int32} {e : Nat} {c : Int32} {u : PSt} (hc : c ≠ -10001) (h : u.1 ≤ e) : (litS T e c u).1 ≤ e := by
  unfold litS
  split
  · split
    · have := here_lt (by assumption) hc
      show u.1 + 1 ≤ e
      omega
    · exact h
  · exact h
theorem numS_le {T : Nat → Int32} {e m cnt : Nat} {u : PSt} (h : u.1 ≤ e) : (numS T e m cnt u).1 ≤ e := by
  unfold numS
  split
  · split
    · exact h
    · exact ndF_end T e m u.1 h
  · exact h
theorem sch_ne : ∀ k, k < 19 → ∀ i, i < 12 → sch k i ≠ -10001 := by decide +kernel
theorem fmS_le {T : Nat → Int32} {e k sp : Nat} {n0 : Nat → Int32} (hk : k < 19) (h : sp ≤ e) : ∀ i, i ≤ 12 → (fmS T e k sp n0 i).1 ≤ e
  | 0, _ => h
  | i + 1, hi => by
    rw [fmS]
    split
    · exact numS_le (fmS_le hk h i (by omega))
    · exact litS_le (sch_ne k hk i (by omega)) (fmS_le hk h i (by omega))
theorem litS_p {T : Nat → Int32} {e : Nat} {c : Int32} {u v : PSt} (h1 : u.1 = v.1) (h2 : u.2.1 = v.2.1) : (litS T e c u).1 = (litS T e c v).1 ∧ (litS T e c u).2.1 = (litS T e c v).2.1 := by
  unfold litS
  rw [h1, h2]
  split
  · split
    · exact ⟨rfl, rfl⟩
    · exact ⟨rfl, rfl⟩
  · exact ⟨h1, h2⟩
theorem numS_p {T : Nat → Int32} {e m cnt : Nat} {u v : PSt} (h1 : u.1 = v.1) (h2 : u.2.1 = v.2.1) : (numS T e m cnt u).1 = (numS T e m cnt v).1 ∧ (numS T e m cnt u).2.1 = (numS T e m cnt v).2.1 := by
  unfold numS
  rw [h1, h2]
  split
  · split
    · exact ⟨rfl, rfl⟩
    · exact ⟨rfl, rfl⟩
  · exact ⟨h1, h2⟩
/-- where a form ends, and whether it went wrong, doesn't hang on the numbers that stood there -/
theorem fmS_p {T : Nat → Int32} {e k sp : Nat} {n0 n1 : Nat → Int32} : ∀ i, (fmS T e k sp n0 i).1 = (fmS T e k sp n1 i).1 ∧ (fmS T e k sp n0 i).2.1 = (fmS T e k sp n1 i).2.1
  | 0 => ⟨rfl, rfl⟩
  | i + 1 => by
    obtain ⟨h1, h2⟩ := fmS_p (n0 := n0) (n1 := n1) i
    rw [fmS, fmS]
    split
    · exact numS_p h1 h2
    · exact litS_p h1 h2
/-- the class's form and the model's word go together: c numbers are read -/
def RelF (o c : Nat) (u p : PSt) : Prop := u.1 = p.1 ∧ u.2.1 = p.2.1 ∧ isb p.2.1 ∧ (p.2.1 = 0 → ∀ j, j < c → u.2.2 j = p.2.2 (4 * o + 1 + j))
theorem RelF.lit {T : Nat → Int32} {e o c : Nat} {x : Int32} {u p : PSt} (h : RelF o c u p) : RelF o c (litS T e x u) (litS T e x p) := by
  obtain ⟨h1, h2, h3, h4⟩ := h
  obtain ⟨g1, g2⟩ := litS_p (T := T) (e := e) (c := x) h1 h2
  refine ⟨g1, g2, litS_b h3, fun hz j hj => ?_⟩
  unfold litS at hz ⊢
  rw [h2]
  by_cases a : p.2.1 = 0
  · rw [if_pos a] at hz
    rw [if_pos a, if_pos a, h1]
    by_cases b : hereT T e p.1 = x
    · rw [if_pos b, if_pos b]
      exact h4 a j hj
    · rw [if_neg b] at hz
      exact absurd hz (show ¬ (1 : Int32) = 0 by decide)
  · rw [if_neg a] at hz
    exact absurd hz a
theorem RelF.num {T : Nat → Int32} {e o c m : Nat} {u p : PSt} (h : RelF o c u p) : RelF o (c + 1) (numS T e m c u) (numQ T e o (c + 1) m p) := by
  obtain ⟨h1, h2, h3, h4⟩ := h
  unfold numQ numS numD
  rw [h2, h1]
  by_cases a : p.2.1 = 0
  · rw [if_pos a, if_pos a, if_pos a]
    by_cases b : ndF T e p.1 m = 0
    · rw [if_pos b, if_pos b, b]
      exact ⟨rfl, rfl, Or.inr rfl, fun hz => absurd hz (show ¬ (1 : Int32) = 0 by decide)⟩
    · rw [if_neg b, if_neg b]
      refine ⟨rfl, rfl, Or.inl rfl, fun _ j hj => ?_⟩
      show upd u.2.2 c _ j = upd p.2.2 (4 * o + (c + 1)) _ (4 * o + 1 + j)
      by_cases d : j = c
      · subst d
        rw [upd_s, show 4 * o + 1 + j = 4 * o + (j + 1) by omega, upd_s]
      · rw [upd_n d, upd_n (by omega)]
        exact h4 a j (by omega)
  · rw [if_neg a, if_neg a, if_neg a]
    have hp1 : p.2.1 = 1 := h3.resolve_left a
    exact ⟨h1, h2.trans hp1, Or.inr rfl, fun hz => absurd hz (show ¬ (1 : Int32) = 0 by decide)⟩
def wdI (T : Nat → Int32) (e k : Nat) (p : PSt) (i : Nat) : PSt := ((wdS T e k p.1 p.2.1 i).1, (wdS T e k p.1 p.2.1 i).2, p.2.2)
theorem wdI_s (T : Nat → Int32) (e k : Nat) (p : PSt) (i : Nat) : wdI T e k p (i + 1) = litS T e (sch k i) (wdI T e k p i) := by
  unfold wdI litS
  rw [wdS]
  by_cases a : (wdS T e k p.1 p.2.1 i).2 = 0
  · rw [if_pos a, if_pos a]
    by_cases b : hereT T e (wdS T e k p.1 p.2.1 i).1 = sch k i
    · rw [if_pos b, if_pos b]
    · rw [if_neg b, if_neg b]
  · rw [if_neg a, if_neg a]
theorem wdI_w (T : Nat → Int32) (e k : Nat) (p : PSt) : wdI T e k p (slen.getD k 0) = wordP T e k p := rfl
theorem word_sp (T : Nat → Int32) (e : Nat) (p : PSt) : wordP T e 1 p = litS T e 32 p := by
  rw [← wdI_w, show slen.getD 1 0 = 0 + 1 from rfl, wdI_s, show sch 1 0 = 32 by decide +kernel]
  rfl
theorem rel_word {T : Nat → Int32} {e o sp k k' : Nat} {n0 : Nat → Int32} {p : PSt} (hp : p.1 = sp ∧ p.2.1 = 0) (hs : ∀ j, j < slen.getD k' 0 → sch k j = sch k' j ∧ ¬ (49 ≤ sch k j ∧ sch k j ≤ 57)) : ∀ i, i ≤ slen.getD k' 0 → RelF o 0 (fmS T e k sp n0 i) (wdI T e k' p i)
  | 0, _ => ⟨hp.1.symm, hp.2.symm, Or.inl hp.2, fun _ j hj => absurd hj (Nat.not_lt_zero j)⟩
  | i + 1, hi => by
    have ih := rel_word (T := T) (e := e) (o := o) (n0 := n0) hp hs i (by omega)
    obtain ⟨h1, h2⟩ := hs i (by omega)
    rw [fmS, if_neg h2, wdI_s, h1]
    exact ih.lit
theorem rel_next {T : Nat → Int32} {e o sp k i c m : Nat} {n0 : Nat → Int32} {p : PSt} (h : RelF o c (fmS T e k sp n0 i) p) (h1 : sch k i = 32) (h2 : (49 ≤ sch k (i + 1) ∧ sch k (i + 1) ≤ 57) ∧ nn (sch k (i + 1) - 48) = m ∧ cntK k (i + 1) = c) : RelF o (c + 1) (fmS T e k sp n0 (i + 2)) (numP T e o (c + 1) m p) := by
  rw [show i + 2 = (i + 1) + 1 by omega, fmS, if_pos h2.1, h2.2.1, h2.2.2, fmS, if_neg (by rw [h1]; decide), h1, numP, word_sp]
  exact h.lit.num
theorem rel_reads {T : Nat → Int32} {e o sp k k' m : Nat} {n0 : Nat → Int32} {p : PSt} (hp : p.1 = sp ∧ p.2.1 = 0) (hs : ∀ j, j < slen.getD k' 0 → sch k j = sch k' j ∧ ¬ (49 ≤ sch k j ∧ sch k j ≤ 57)) (h1 : sch k (slen.getD k' 0) = 32) (h2 : (49 ≤ sch k (slen.getD k' 0 + 1) ∧ sch k (slen.getD k' 0 + 1) ≤ 57) ∧ nn (sch k (slen.getD k' 0 + 1) - 48) = m ∧ cntK k (slen.getD k' 0 + 1) = 0) : RelF o 1 (fmS T e k sp n0 (slen.getD k' 0 + 2)) (readsP T e o k' m p) :=
  rel_next (rel_word hp hs _ (Nat.le_refl _)) h1 h2
/-- the orders' letters, how many numbers they have, how long their forms are -/
def wcode : Nat → Int32
  | 0 => 97 | 1 => 110 | 2 => 99 | 3 => 108 | 4 => 112 | 5 => 117 | 6 => 116 | 7 => 102 | _ => 103
def wnum : Nat → Nat
  | 1 => 3 | 4 => 3 | _ => 1
def wlen (w : Nat) : Nat := slen.getD (10 + w) 0
/-- what the model reads where the word is w -/
def rdW (T : Nat → Int32) (e o : Nat) (p : PSt) : Nat → PSt
  | 0 => readsP T e o 0 4 p | 1 => numP T e o 3 2 (numP T e o 2 2 (readsP T e o 2 2 p)) | 2 => readsP T e o 3 4 p | 3 => readsP T e o 4 1 p | 4 => numP T e o 3 2 (numP T e o 2 4 (readsP T e o 5 2 p)) | 5 => readsP T e o 6 1 p | 6 => readsP T e o 7 1 p | 7 => readsP T e o 8 4 p | _ => readsP T e o 9 3 p
theorem rel_all {T : Nat → Int32} {e o sp w : Nat} {n0 : Nat → Int32} {p : PSt} (hw : w < 9) (hp : p.1 = sp ∧ p.2.1 = 0) : RelF o (wnum w) (fmS T e (10 + w) sp n0 (wlen w)) (rdW T e o p w) := by
  have hc : w = 0 ∨ w = 1 ∨ w = 2 ∨ w = 3 ∨ w = 4 ∨ w = 5 ∨ w = 6 ∨ w = 7 ∨ w = 8 := by omega
  rcases hc with rfl | rfl | rfl | rfl | rfl | rfl | rfl | rfl | rfl
  · exact rel_reads (k := 10) (k' := 0) hp (by decide +kernel) (by decide +kernel) (by decide +kernel)
  · exact rel_next (k := 11) (i := 8) (rel_next (k := 11) (i := 6) (rel_reads (k := 11) (k' := 2) hp (by decide +kernel) (by decide +kernel) (by decide +kernel)) (by decide +kernel) (by decide +kernel)) (by decide +kernel) (by decide +kernel)
  · exact rel_reads (k := 12) (k' := 3) hp (by decide +kernel) (by decide +kernel) (by decide +kernel)
  · exact rel_reads (k := 13) (k' := 4) hp (by decide +kernel) (by decide +kernel) (by decide +kernel)
  · exact rel_next (k := 14) (i := 7) (rel_next (k := 14) (i := 5) (rel_reads (k := 14) (k' := 5) hp (by decide +kernel) (by decide +kernel) (by decide +kernel)) (by decide +kernel) (by decide +kernel)) (by decide +kernel) (by decide +kernel)
  · exact rel_reads (k := 15) (k' := 6) hp (by decide +kernel) (by decide +kernel) (by decide +kernel)
  · exact rel_reads (k := 16) (k' := 7) hp (by decide +kernel) (by decide +kernel) (by decide +kernel)
  · exact rel_reads (k := 17) (k' := 8) hp (by decide +kernel) (by decide +kernel) (by decide +kernel)
  · exact rel_reads (k := 18) (k' := 9) hp (by decide +kernel) (by decide +kernel) (by decide +kernel)
/-- a form whose first letter isn't there; whose second isn't -/
theorem fm_first {T : Nat → Int32} {e k sp : Nat} {n0 : Nat → Int32} {L : Nat} (hL : 1 ≤ L) (h0 : ¬ (49 ≤ sch k 0 ∧ sch k 0 ≤ 57)) (h : ¬ hereT T e sp = sch k 0) : fmS T e k sp n0 L = (sp, 1, n0) := by
  have h1 : fmS T e k sp n0 1 = (sp, 1, n0) := by
    rw [show (1 : Nat) = 0 + 1 from rfl, fmS, if_neg h0, fmS]
    unfold litS
    rw [if_pos rfl, if_neg h]
  have := fmS_x (T := T) (e := e) (k := k) (sp := sp) (n0 := n0) (i := 1) (by rw [h1]; exact (by decide : ¬ (1 : Int32) = 0)) (L - 1)
  rw [show 1 + (L - 1) = L by omega, h1] at this
  exact this
theorem fm_second {T : Nat → Int32} {e k sp : Nat} {n0 : Nat → Int32} {L : Nat} (hL : 2 ≤ L) (h0 : ¬ (49 ≤ sch k 0 ∧ sch k 0 ≤ 57)) (h00 : ¬ (49 ≤ sch k 1 ∧ sch k 1 ≤ 57)) (h : hereT T e sp = sch k 0) (h' : ¬ hereT T e (sp + 1) = sch k 1) : fmS T e k sp n0 L = (sp + 1, 1, n0) := by
  have h1 : fmS T e k sp n0 1 = (sp + 1, 0, n0) := by
    rw [show (1 : Nat) = 0 + 1 from rfl, fmS, if_neg h0, fmS]
    unfold litS
    rw [if_pos rfl, if_pos h]
  have h2 : fmS T e k sp n0 2 = (sp + 1, 1, n0) := by
    rw [show (2 : Nat) = 1 + 1 from rfl, fmS, if_neg h00, h1]
    unfold litS
    rw [if_pos rfl, if_neg h']
  have := fmS_x (T := T) (e := e) (k := k) (sp := sp) (n0 := n0) (i := 2) (by rw [h2]; exact (by decide : ¬ (1 : Int32) = 0)) (L - 2)
  rw [show 2 + (L - 2) = L by omega, h2] at this
  exact this
theorem fm_ge1 {T : Nat → Int32} {e k sp : Nat} {n0 : Nat → Int32} {L : Nat} (hL : 1 ≤ L) (h0 : ¬ (49 ≤ sch k 0 ∧ sch k 0 ≤ 57)) (h : hereT T e sp = sch k 0) : sp + 1 ≤ (fmS T e k sp n0 L).1 := by
  have h1 : fmS T e k sp n0 1 = (sp + 1, 0, n0) := by
    rw [show (1 : Nat) = 0 + 1 from rfl, fmS, if_neg h0, fmS]
    unfold litS
    rw [if_pos rfl, if_pos h]
  have hm : ∀ d, sp + 1 ≤ (fmS T e k sp n0 (1 + d)).1 := by
    intro d
    induction d with
    | zero => rw [show 1 + 0 = 1 from rfl, h1]; exact Nat.le_refl _
    | succ d ih =>
      rw [show 1 + (d + 1) = 1 + d + 1 by omega, fmS]
      split
      · unfold numS
        split
        · split
          · exact ih
          · show _ ≤ _ + _; omega
        · exact ih
      · unfold litS
        split
        · split
          · show _ ≤ _ + _; omega
          · exact ih
        · exact ih
  have := hm (L - 1)
  rw [show 1 + (L - 1) = L by omega] at this
  exact this
theorem fm_ge {T : Nat → Int32} {e k sp : Nat} {n0 : Nat → Int32} : ∀ i, sp ≤ (fmS T e k sp n0 i).1
  | 0 => Nat.le_refl _
  | i + 1 => by
    have ih := fm_ge (T := T) (e := e) (k := k) (sp := sp) (n0 := n0) i
    rw [fmS]
    split
    · unfold numS
      split
      · split
        · exact ih
        · show _ ≤ _ + _; omega
      · exact ih
    · unfold litS
      split
      · split
        · show _ ≤ _ + _; omega
        · exact ih
      · exact ih
/-- which word the model takes, by the first letters: 9 for none -/
def wsel (T : Nat → Int32) (e sp : Nat) : Nat :=
  if hereT T e sp = 97 then 0 else if hereT T e sp = 103 then (if hereT T e (sp + 1) = 97 then 1 else 8) else if hereT T e sp = 99 then 2 else if hereT T e sp = 108 then 3 else if hereT T e sp = 112 then (if hereT T e (sp + 1) = 117 then 5 else 4) else if hereT T e sp = 116 then 6 else if hereT T e sp = 102 then 7 else 9
theorem first_l : ∀ w, w < 9 → ¬ (49 ≤ sch (10 + w) 0 ∧ sch (10 + w) 0 ≤ 57) ∧ ¬ (49 ≤ sch (10 + w) 1 ∧ sch (10 + w) 1 ≤ 57) ∧ 2 ≤ wlen w := by decide +kernel
theorem firsts : sch 10 0 = 97 ∧ sch 11 0 = 103 ∧ sch 12 0 = 99 ∧ sch 13 0 = 108 ∧ sch 14 0 = 112 ∧ sch 15 0 = 112 ∧ sch 16 0 = 116 ∧ sch 17 0 = 102 ∧ sch 18 0 = 103 ∧ sch 11 1 = 97 ∧ sch 18 1 = 111 ∧ sch 14 1 = 111 ∧ sch 15 1 = 117 := by decide +kernel
/-- the model's order is what it reads of the word that it takes -/
theorem one_sel {T : Nat → Int32} {e o : Nat} {p : PSt} (hw : wsel T e p.1 < 9) : oneP T e o p = rdW T e o (toldP o (wcode (wsel T e p.1)) p) (wsel T e p.1) := by
  unfold oneP
  unfold wsel at hw ⊢
  unfold sortF
  by_cases h1 : hereT T e p.1 = 97
  · have a : ¬ hereT T e p.1 = 103 := by rw [h1]; decide
    have b : ¬ hereT T e p.1 = 112 := by rw [h1]; decide
    simp only [if_neg a, if_neg b, if_pos h1, h1]
    rfl
  · by_cases h2 : hereT T e p.1 = 103
    · by_cases h3 : hereT T e (p.1 + 1) = 97
      · simp only [if_neg h1, if_pos h2, if_pos h3]
        rfl
      · simp only [if_neg h1, if_pos h2, if_neg h3]
        rfl
    · by_cases h3 : hereT T e p.1 = 99
      · have b : ¬ hereT T e p.1 = 112 := by rw [h3]; decide
        simp only [if_neg h1, if_neg h2, if_neg b, if_pos h3, h3]
        rfl
      · by_cases h4 : hereT T e p.1 = 108
        · have b : ¬ hereT T e p.1 = 112 := by rw [h4]; decide
          simp only [if_neg h1, if_neg h2, if_neg h3, if_neg b, if_pos h4, h4]
          rfl
        · by_cases h5 : hereT T e p.1 = 112
          · by_cases h6 : hereT T e (p.1 + 1) = 117
            · simp only [if_neg h1, if_neg h2, if_neg h3, if_neg h4, if_pos h5, if_pos h6]
              rfl
            · simp only [if_neg h1, if_neg h2, if_neg h3, if_neg h4, if_pos h5, if_neg h6]
              rfl
          · by_cases h6 : hereT T e p.1 = 116
            · simp only [if_neg h1, if_neg h2, if_neg h3, if_neg h4, if_neg h5, if_pos h6, h6]
              rfl
            · by_cases h7 : hereT T e p.1 = 102
              · simp only [if_neg h1, if_neg h2, if_neg h3, if_neg h4, if_neg h5, if_neg h6, if_pos h7, h7]
                rfl
              · simp only [if_neg h1, if_neg h2, if_neg h3, if_neg h4, if_neg h5, if_neg h6, if_neg h7] at hw
                exact absurd hw (by decide)
theorem one_none {T : Nat → Int32} {e o : Nat} {p : PSt} (hz : p.2.1 = 0) (hw : wsel T e p.1 = 9) : (oneP T e o p).1 = p.1 ∧ (oneP T e o p).2.1 = 1 := by
  unfold oneP
  unfold wsel at hw
  by_cases h1 : hereT T e p.1 = 97
  · simp only [if_pos h1] at hw
    exact absurd hw (by decide)
  · by_cases h2 : hereT T e p.1 = 103
    · simp only [if_neg h1, if_pos h2] at hw
      split at hw
      · exact absurd hw (by decide)
      · exact absurd hw (by decide)
    · by_cases h3 : hereT T e p.1 = 99
      · simp only [if_neg h1, if_neg h2, if_pos h3] at hw
        exact absurd hw (by decide)
      · by_cases h4 : hereT T e p.1 = 108
        · simp only [if_neg h1, if_neg h2, if_neg h3, if_pos h4] at hw
          exact absurd hw (by decide)
        · by_cases h5 : hereT T e p.1 = 112
          · simp only [if_neg h1, if_neg h2, if_neg h3, if_neg h4, if_pos h5] at hw
            split at hw
            · exact absurd hw (by decide)
            · exact absurd hw (by decide)
          · by_cases h6 : hereT T e p.1 = 116
            · simp only [if_neg h1, if_neg h2, if_neg h3, if_neg h4, if_neg h5, if_pos h6] at hw
              exact absurd hw (by decide)
            · by_cases h7 : hereT T e p.1 = 102
              · simp only [if_neg h1, if_neg h2, if_neg h3, if_neg h4, if_neg h5, if_neg h6, if_pos h7] at hw
                exact absurd hw (by decide)
              · have hs : sortF T e p.1 = hereT T e p.1 := by
                  unfold sortF
                  rw [if_neg h2, if_neg h5]
                have h8 : hereT T e p.1 = 110 ∨ hereT T e p.1 = 117 ∨ (¬ hereT T e p.1 = 110 ∧ ¬ hereT T e p.1 = 117) := by
                  by_cases a : hereT T e p.1 = 110
                  · exact Or.inl a
                  · by_cases b : hereT T e p.1 = 117
                    · exact Or.inr (Or.inl b)
                    · exact Or.inr (Or.inr ⟨a, b⟩)
                rw [hs]
                have hq : ∀ x, (toldP o x p).1 = p.1 ∧ (toldP o x p).2.1 = 0 := fun x => ⟨rfl, hz⟩
                rcases h8 with h8 | h8 | ⟨h8, h9⟩
                · have hr := rel_all (T := T) (e := e) (o := o) (n0 := fun _ => 0) (w := 1) (by decide) (hq (hereT T e p.1))
                  rw [show 10 + 1 = 11 from rfl, fm_first (by decide +kernel) (by decide +kernel) (by rw [h8]; decide +kernel)] at hr
                  have hc : caseP T e o (hereT T e p.1) (toldP o (hereT T e p.1) p) = rdW T e o (toldP o (hereT T e p.1) p) 1 := by
                    unfold caseP
                    rw [if_neg h1, if_neg h3, if_neg h7, if_neg h2, if_neg h4, if_pos h8]
                    rfl
                  rw [hc]
                  exact ⟨hr.1.symm, hr.2.1.symm⟩
                · have h8' : ¬ hereT T e p.1 = 110 := by rw [h8]; decide
                  have hr := rel_all (T := T) (e := e) (o := o) (n0 := fun _ => 0) (w := 5) (by decide) (hq (hereT T e p.1))
                  rw [show 10 + 5 = 15 from rfl, fm_first (by decide +kernel) (by decide +kernel) (by rw [h8]; decide +kernel)] at hr
                  have hc : caseP T e o (hereT T e p.1) (toldP o (hereT T e p.1) p) = rdW T e o (toldP o (hereT T e p.1) p) 5 := by
                    unfold caseP
                    rw [if_neg h1, if_neg h3, if_neg h7, if_neg h2, if_neg h4, if_neg h8', if_neg h5, if_neg h6, if_pos h8]
                    rfl
                  rw [hc]
                  exact ⟨hr.1.symm, hr.2.1.symm⟩
                · unfold caseP
                  rw [if_neg h1, if_neg h3, if_neg h7, if_neg h2, if_neg h4, if_neg h8, if_neg h5, if_neg h6, if_neg h9]
                  exact ⟨rfl, rfl⟩
/-- how far the forms go: the farthest of those that went wrong -/
def fltW (T : Nat → Int32) (e sp : Nat) : Nat → Nat
  | 0 => sp
  | i + 1 => if fltW T e sp i < (fmS T e (10 + i) sp (fun _ => 0) (wlen i)).1 then (fmS T e (10 + i) sp (fun _ => 0) (wlen i)).1 else fltW T e sp i
theorem flt_le {T : Nat → Int32} {e sp M : Nat} (h0 : sp ≤ M) : ∀ i, (∀ j, j < i → (fmS T e (10 + j) sp (fun _ => 0) (wlen j)).1 ≤ M) → fltW T e sp i ≤ M
  | 0, _ => h0
  | i + 1, h => by
    rw [fltW]
    split
    · exact h i (by omega)
    · exact flt_le h0 i (fun j hj => h j (by omega))
theorem flt_ge {T : Nat → Int32} {e sp : Nat} : ∀ i, sp ≤ fltW T e sp i ∧ ∀ j, j < i → (fmS T e (10 + j) sp (fun _ => 0) (wlen j)).1 ≤ fltW T e sp i
  | 0 => ⟨Nat.le_refl _, fun j hj => absurd hj (Nat.not_lt_zero j)⟩
  | i + 1 => by
    obtain ⟨h1, h2⟩ := flt_ge (T := T) (e := e) (sp := sp) i
    rw [fltW]
    split
    · refine ⟨by omega, fun j hj => ?_⟩
      by_cases a : j = i
      · subst a
        exact Nat.le_refl _
      · have := h2 j (by omega)
        omega
    · refine ⟨h1, fun j hj => ?_⟩
      by_cases a : j = i
      · subst a
        omega
      · exact h2 j (by omega)
/-- a form that isn't the model's word fails, and no farther than the model's word goes -/
theorem other_fails {T : Nat → Int32} {e sp w v : Nat} {n0 n1 : Nat → Int32} (hw : w < 9) (hv : wsel T e sp = v) (hne : w ≠ v) : (fmS T e (10 + w) sp n0 (wlen w)).2.1 = 1 ∧ ((fmS T e (10 + w) sp n0 (wlen w)).1 = sp ∨ (v < 9 ∧ (fmS T e (10 + w) sp n0 (wlen w)).1 ≤ (fmS T e (10 + v) sp n1 (wlen v)).1)) := by
  obtain ⟨d0, d1, hl⟩ := first_l w hw
  by_cases hf : hereT T e sp = sch (10 + w) 0
  · -- the same first letter: gain and go, pot and put
    obtain ⟨f0, f1, f2, f3, f4, f5, f6, f7, f8, g1, g8, g4, g5⟩ := firsts
    have hc : w = 0 ∨ w = 1 ∨ w = 2 ∨ w = 3 ∨ w = 4 ∨ w = 5 ∨ w = 6 ∨ w = 7 ∨ w = 8 := by omega
    unfold wsel at hv
    have key : ¬ hereT T e (sp + 1) = sch (10 + w) 1 → (v < 9 ∧ hereT T e sp = sch (10 + v) 0) → _ := fun h2 h3 => by
      have r := fm_second (T := T) (e := e) (n0 := n0) hl d0 d1 hf h2
      have r1 := fm_ge1 (T := T) (e := e) (n0 := n1) (show 1 ≤ wlen v by have := (first_l v h3.1).2.2; omega) (first_l v h3.1).1 h3.2
      exact (⟨by rw [r], Or.inr ⟨h3.1, by rw [r]; exact r1⟩⟩ : (fmS T e (10 + w) sp n0 (wlen w)).2.1 = 1 ∧ ((fmS T e (10 + w) sp n0 (wlen w)).1 = sp ∨ (v < 9 ∧ (fmS T e (10 + w) sp n0 (wlen w)).1 ≤ (fmS T e (10 + v) sp n1 (wlen v)).1)))
    rcases hc with rfl | rfl | rfl | rfl | rfl | rfl | rfl | rfl | rfl
    · rw [f0] at hf
      rw [if_pos hf] at hv
      exact absurd hv hne
    · rw [f1] at hf
      have n1 : ¬ hereT T e sp = 97 := by rw [hf]; decide
      rw [if_neg n1, if_pos hf] at hv
      by_cases a : hereT T e (sp + 1) = 97
      · rw [if_pos a] at hv
        exact absurd hv hne
      · rw [if_neg a] at hv
        subst hv
        exact key (by rw [g1]; exact a) ⟨by decide, by rw [f8]; exact hf⟩
    · rw [f2] at hf
      have n1 : ¬ hereT T e sp = 97 := by rw [hf]; decide
      have n2 : ¬ hereT T e sp = 103 := by rw [hf]; decide
      rw [if_neg n1, if_neg n2, if_pos hf] at hv
      exact absurd hv hne
    · rw [f3] at hf
      have n1 : ¬ hereT T e sp = 97 := by rw [hf]; decide
      have n2 : ¬ hereT T e sp = 103 := by rw [hf]; decide
      have n3 : ¬ hereT T e sp = 99 := by rw [hf]; decide
      rw [if_neg n1, if_neg n2, if_neg n3, if_pos hf] at hv
      exact absurd hv hne
    · rw [f4] at hf
      have n1 : ¬ hereT T e sp = 97 := by rw [hf]; decide
      have n2 : ¬ hereT T e sp = 103 := by rw [hf]; decide
      have n3 : ¬ hereT T e sp = 99 := by rw [hf]; decide
      have n4 : ¬ hereT T e sp = 108 := by rw [hf]; decide
      rw [if_neg n1, if_neg n2, if_neg n3, if_neg n4, if_pos hf] at hv
      by_cases a : hereT T e (sp + 1) = 117
      · rw [if_pos a] at hv
        subst hv
        exact key (by rw [g4, a]; decide) ⟨by decide, by rw [f5]; exact hf⟩
      · rw [if_neg a] at hv
        exact absurd hv hne
    · rw [f5] at hf
      have n1 : ¬ hereT T e sp = 97 := by rw [hf]; decide
      have n2 : ¬ hereT T e sp = 103 := by rw [hf]; decide
      have n3 : ¬ hereT T e sp = 99 := by rw [hf]; decide
      have n4 : ¬ hereT T e sp = 108 := by rw [hf]; decide
      rw [if_neg n1, if_neg n2, if_neg n3, if_neg n4, if_pos hf] at hv
      by_cases a : hereT T e (sp + 1) = 117
      · rw [if_pos a] at hv
        exact absurd hv hne
      · rw [if_neg a] at hv
        subst hv
        exact key (by rw [g5]; exact a) ⟨by decide, by rw [f4]; exact hf⟩
    · rw [f6] at hf
      have n1 : ¬ hereT T e sp = 97 := by rw [hf]; decide
      have n2 : ¬ hereT T e sp = 103 := by rw [hf]; decide
      have n3 : ¬ hereT T e sp = 99 := by rw [hf]; decide
      have n4 : ¬ hereT T e sp = 108 := by rw [hf]; decide
      have n5 : ¬ hereT T e sp = 112 := by rw [hf]; decide
      rw [if_neg n1, if_neg n2, if_neg n3, if_neg n4, if_neg n5, if_pos hf] at hv
      exact absurd hv hne
    · rw [f7] at hf
      have n1 : ¬ hereT T e sp = 97 := by rw [hf]; decide
      have n2 : ¬ hereT T e sp = 103 := by rw [hf]; decide
      have n3 : ¬ hereT T e sp = 99 := by rw [hf]; decide
      have n4 : ¬ hereT T e sp = 108 := by rw [hf]; decide
      have n5 : ¬ hereT T e sp = 112 := by rw [hf]; decide
      have n6 : ¬ hereT T e sp = 116 := by rw [hf]; decide
      rw [if_neg n1, if_neg n2, if_neg n3, if_neg n4, if_neg n5, if_neg n6, if_pos hf] at hv
      exact absurd hv hne
    · rw [f8] at hf
      have n1 : ¬ hereT T e sp = 97 := by rw [hf]; decide
      rw [if_neg n1, if_pos hf] at hv
      by_cases a : hereT T e (sp + 1) = 97
      · rw [if_pos a] at hv
        subst hv
        exact key (by rw [g8, a]; decide) ⟨by decide, by rw [f1]; exact hf⟩
      · rw [if_neg a] at hv
        exact absurd hv hne
  · have r := fm_first (T := T) (e := e) (n0 := n0) (show 1 ≤ wlen w by omega) d0 hf
    exact ⟨by rw [r], Or.inl (by rw [r])⟩
/-- an order of the class: its word and its numbers are the model's -/
def ordIs (w : Int32) (nums τ : Nat → Int32) (o : Nat) : Prop := ∃ v, v < 9 ∧ w = nI v ∧ τ (4 * o) = wcode v ∧ ∀ j, j < wnum v → nums j = τ (4 * o + 1 + j)
theorem numP_keep {T : Nat → Int32} {e o j m : Nat} {p : PSt} {f : Nat} (hf : f ≠ 4 * o + j) : (numP T e o j m p).2.2 f = p.2.2 f := by
  show upd p.2.2 (4 * o + j) _ f = _
  rw [upd_n hf]
theorem readsP_keep {T : Nat → Int32} {e o k m : Nat} {p : PSt} {f : Nat} (hf : f ≠ 4 * o + 1) : (readsP T e o k m p).2.2 f = p.2.2 f := by
  unfold readsP
  rw [numP_keep hf]
  rfl
theorem told_keep {T : Nat → Int32} {e o : Nat} {p : PSt} {f : Nat} (hf : f ≤ 4 * o ∨ 4 * o + 4 ≤ f) {w : Nat} (hw : w < 9) : (rdW T e o p w).2.2 f = p.2.2 f := by
  have hc : w = 0 ∨ w = 1 ∨ w = 2 ∨ w = 3 ∨ w = 4 ∨ w = 5 ∨ w = 6 ∨ w = 7 ∨ w = 8 := by omega
  have n1 : f ≠ 4 * o + 1 := by omega
  have n2 : f ≠ 4 * o + 2 := by omega
  have n3 : f ≠ 4 * o + 3 := by omega
  rcases hc with rfl | rfl | rfl | rfl | rfl | rfl | rfl | rfl | rfl
  · exact readsP_keep n1
  · exact (numP_keep n3).trans ((numP_keep n2).trans (readsP_keep n1))
  · exact readsP_keep n1
  · exact readsP_keep n1
  · exact (numP_keep n3).trans ((numP_keep n2).trans (readsP_keep n1))
  · exact readsP_keep n1
  · exact readsP_keep n1
  · exact readsP_keep n1
  · exact readsP_keep n1
/-- what the class's reading of an order comes to, in the model's words -/
theorem order_ok {T : Nat → Int32} {e o : Nat} {p : PSt} {n0 : Nat → Int32} {w : Nat} (hz : p.2.1 = 0) (hw : w < 9) (h0 : (fmS T e (10 + w) p.1 n0 (wlen w)).2.1 = 0) : (oneP T e o p).2.1 = 0 ∧ (oneP T e o p).1 = (fmS T e (10 + w) p.1 n0 (wlen w)).1 ∧ ordIs (nI w) (fmS T e (10 + w) p.1 n0 (wlen w)).2.2 (oneP T e o p).2.2 o := by
  have hv : wsel T e p.1 = w := by
    by_cases a : w = wsel T e p.1
    · exact a.symm
    · have := (other_fails (n0 := n0) (n1 := n0) hw rfl a).1
      rw [h0] at this
      exact absurd this (by decide)
  have h1 := one_sel (o := o) (show wsel T e p.1 < 9 by rw [hv]; exact hw)
  rw [hv] at h1
  obtain ⟨r1, r2, r3, r4⟩ := rel_all (T := T) (e := e) (o := o) (n0 := n0) hw (p := toldP o (wcode w) p) ⟨rfl, hz⟩
  have r2' : (rdW T e o (toldP o (wcode w) p) w).2.1 = 0 := by rw [← r2]; exact h0
  rw [h1]
  refine ⟨r2', r1.symm, w, hw, rfl, ?_, r4 r2'⟩
  rw [told_keep (Or.inl (Nat.le_refl _)) hw]
  show upd p.2.2 (4 * o) (wcode w) (4 * o) = _
  rw [upd_s]
theorem order_bad {T : Nat → Int32} {e o : Nat} {p : PSt} (hz : p.2.1 = 0) (h0 : ∀ w, w < 9 → ¬ (fmS T e (10 + w) p.1 (fun _ => 0) (wlen w)).2.1 = 0) : (oneP T e o p).2.1 = 1 ∧ (oneP T e o p).1 = fltW T e p.1 9 := by
  obtain ⟨g1, g2⟩ := flt_ge (T := T) (e := e) (sp := p.1) 9
  by_cases hs : wsel T e p.1 < 9
  · have h1 := one_sel (o := o) hs
    obtain ⟨r1, r2, r3, r4⟩ := rel_all (T := T) (e := e) (o := o) (n0 := fun _ => 0) hs (p := toldP o (wcode (wsel T e p.1)) p) ⟨rfl, hz⟩
    rw [h1]
    have hr1 : (rdW T e o (toldP o (wcode (wsel T e p.1)) p) (wsel T e p.1)).2.1 = 1 := r3.resolve_left (fun q => h0 _ hs (r2.trans q))
    refine ⟨hr1, ?_⟩
    rw [← r1]
    have hsp := fm_ge (T := T) (e := e) (k := 10 + wsel T e p.1) (sp := p.1) (n0 := fun _ => 0) (wlen (wsel T e p.1))
    apply Nat.le_antisymm
    · exact g2 _ hs
    · refine flt_le hsp 9 (fun j hj => ?_)
      by_cases a : j = wsel T e p.1
      · rw [a]
        exact Nat.le_refl _
      · rcases (other_fails (n0 := fun _ => 0) (n1 := fun _ => 0) hj rfl a).2 with b | b
        · rw [b]
          exact hsp
        · exact b.2
  · have h9 : wsel T e p.1 = 9 := by
      have : wsel T e p.1 ≤ 9 := by
        unfold wsel
        repeat' split
        all_goals decide
      omega
    obtain ⟨a1, a2⟩ := one_none (T := T) (e := e) (o := o) hz h9
    refine ⟨a2, ?_⟩
    rw [a1]
    apply Nat.le_antisymm g1
    refine flt_le (Nat.le_refl _) 9 (fun j hj => ?_)
    rcases (other_fails (n0 := fun _ => 0) (n1 := fun _ => 0) hj h9 (by omega)).2 with b | b
    · rw [b]
      exact Nat.le_refl _
    · exact absurd b.1 (by decide)
