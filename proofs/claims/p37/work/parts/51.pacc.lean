/-! CONSTRUCTORS: the world as it is made, cell by cell. -/
def Y0 : YT := fun i => match i with
  | (0, _, 0) => upd (upd (fun _ => 0) 0 20) 1 20
  | (0, _, 1) => upd (upd (fun _ => 0) 0 10) 3 2000
  | (3, _, 0) => upd (fun _ => 0) 0 (nI 8)
  | (4, _, 0) => upd (upd (upd (upd (fun _ => 0) 0 20) 1 20) 2 10) 6 2000
  | _ => fun _ => 0
def cel0 (G : GT) (a : Id3 → Nat) (i : Id3) : va_E := match i with
  | (5, 0, j) => .inr (0, [.ref (a (5, 1, j)), .int 0, .int 0, .int 0])
  | (5, _, _) => .inl (gc G 1, 16, .inl (fun _ => 0))
  | i => cel G a (Y0 i) i
def rfs (i z : Id3) : Prop := match i with
  | (5, 0, j) => z = (5, 1, j)
  | (5, _, _) => False
  | i => match tpl i with
    | .inl (_, l) => ∃ t ∈ l, t.1 = 1 ∧ t.2 = z
    | .inr (.inl _) => False
    | .inr (.inr (_, _, f)) => ∃ j, f j = z
theorem fvals_congr {G : GT} {a a' : Id3 → Nat} {y : Nat → Int32} : ∀ (l : List (Nat × Id3)) (b : Nat), (∀ t ∈ l, t.1 = 1 → a t.2 = a' t.2) → fvals G a y b l = fvals G a' y b l
  | [], _, _ => rfl
  | t :: l, b, h => by
    rw [fvals, fvals, fvals_congr l (b + 1) (fun u hu => h u (List.mem_cons_of_mem _ hu))]
    congr 1
    obtain ⟨x, z⟩ := t
    unfold fval
    by_cases hx : x = 1
    · subst hx
      show Value.ref (a z) = Value.ref (a' z)
      rw [h (1, z) List.mem_cons_self rfl]
    · split
      · exact absurd (by assumption) hx
      · rfl
      · rfl
theorem cel_congr {G : GT} {a a' : Id3 → Nat} {y : Nat → Int32} {i : Id3} (h : ∀ z, (match tpl i with | .inl (_, l) => ∃ t ∈ l, t.1 = 1 ∧ t.2 = z | .inr (.inl _) => False | .inr (.inr (_, _, f)) => ∃ j, f j = z) → a z = a' z) : cel G a y i = cel G a' y i := by
  unfold cel
  cases ht : tpl i with
  | inl q =>
    obtain ⟨ci, l⟩ := q
    rw [ht] at h
    show Sum.inr (ci, fvals G a y 0 l) = Sum.inr (ci, fvals G a' y 0 l)
    rw [fvals_congr l 0 (fun t hm h1 => h t.2 ⟨t, hm, h1, rfl⟩)]
  | inr q =>
    cases q with
    | inl len => rfl
    | inr q =>
      obtain ⟨t, len, f⟩ := q
      rw [ht] at h
      have e : (fun j => some (a (f j))) = fun j => some (a' (f j)) := by
        funext j
        rw [h (f j) ⟨j, rfl⟩]
      show (.inl (gc G t, len, .inr (.inr (.inr (.inr (fun j => some (a (f j))))))) : va_E) = .inl (gc G t, len, .inr (.inr (.inr (.inr (fun j => some (a' (f j)))))))
      rw [e]
theorem cel0_congr {G : GT} {a a' : Id3 → Nat} {i : Id3} (h : ∀ z, rfs i z → a z = a' z) : cel0 G a i = cel0 G a' i := by
  obtain ⟨x, y, z⟩ := i
  by_cases h5 : x = 5
  · subst h5
    cases y with
    | zero =>
      show Sum.inr (0, [Value.ref (a (5, 1, z)), .int 0, .int 0, .int 0]) = Sum.inr (0, [Value.ref (a' (5, 1, z)), .int 0, .int 0, .int 0])
      rw [h (5, 1, z) rfl]
    | succ y => rfl
  · have e1 : ∀ b, cel0 G b (x, y, z) = cel G b (Y0 (x, y, z)) (x, y, z) := fun b => by
      unfold cel0
      split
      · rename_i q; injection q with q1; exact absurd q1 h5
      · rename_i q; injection q with q1; exact absurd q1 h5
      · rfl
    rw [e1, e1]
    refine cel_congr (fun w hw => h w ?_)
    unfold rfs
    split
    · rename_i q; injection q with q1; exact absurd q1 h5
    · rename_i q; injection q with q1; exact absurd q1 h5
    · exact hw
/-- the cells P stand in M at a; they weren't in M0; T: the cells that are being made -/
def Acc (G : GT) (P : Id3 → Prop) (T : Nat → Prop) (a : Id3 → Nat) (M0 M : Mem) : Prop :=
  (∀ i, P i → M (a i) = some (cel0 G a i) ∧ M0 (a i) = none ∧ ¬ T (a i)) ∧ (∀ i j, P i → P j → a i = a j → i = j) ∧ (∀ q, M0 q ≠ none → ¬ T q → M q = M0 q) ∧ (∀ q, T q → M q ≠ none)
/-- what a constructor made of the object t, the place 'root' -/
def Blk (G : GT) (P : Id3 → Prop) (root : Id3) (t : Nat) (M M' : Mem) : Prop :=
  ∃ a : Id3 → Nat, a root = t ∧ (∀ i, P i → M' (a i) = some (cel0 G a i) ∧ (i ≠ root → M (a i) = none)) ∧ (∀ i j, P i → P j → a i = a j → i = j) ∧ (∀ q, M q ≠ none → q ≠ t → M' q = M q)
theorem Acc.nil {G : GT} {T : Nat → Prop} {a : Id3 → Nat} {M : Mem} (hT : ∀ q, T q → M q ≠ none) : Acc G (fun _ => False) T a M M := ⟨fun _ h => h.elim, fun _ _ h => h.elim, fun _ _ _ => rfl, hT⟩
theorem Acc.mono {G : GT} {P P' : Id3 → Prop} {T : Nat → Prop} {a : Id3 → Nat} {M0 M : Mem} (h : Acc G P T a M0 M) (hp : ∀ i, P' i → P i) : Acc G P' T a M0 M := ⟨fun i hi => h.1 i (hp i hi), fun i j hi hj => h.2.1 i j (hp i hi) (hp j hj), h.2.2⟩
/-- a bare cell changes -/
theorem Acc.put {G : GT} {P : Id3 → Prop} {T : Nat → Prop} {a : Id3 → Nat} {M0 M M1 : Mem} {t : Nat} {e : va_E} (h : Acc G P T a M0 M) (ht : T t) (hM : M1 = mup M t e) : Acc G P T a M0 M1 := by
  subst hM
  refine ⟨fun i hi => ⟨?_, (h.1 i hi).2⟩, h.2.1, fun q h0 hq => ?_, fun q hq => ?_⟩
  · rw [mup_n (fun z => (h.1 i hi).2.2 (by rw [z]; exact ht))]
    exact (h.1 i hi).1
  · rw [mup_n (fun z => hq (by rw [z]; exact ht))]
    exact h.2.2.1 q h0 hq
  · by_cases z : q = t
    · subst z
      rw [mup_s]
      simp
    · rw [mup_n z]
      exact h.2.2.2 q hq
/-- a new bare cell -/
theorem Acc.fresh {G : GT} {P : Id3 → Prop} {T : Nat → Prop} {a : Id3 → Nat} {M0 M M1 : Mem} {r : Nat} {e : va_E} (h : Acc G P T a M0 M) (hr : M r = none) (hM : M1 = mup M r e) : Acc G P (fun q => T q ∨ q = r) a M0 M1 := by
  subst hM
  have hn : ∀ i, P i → a i ≠ r := fun i hi z => by
    have := (h.1 i hi).1
    rw [z, hr] at this
    cases this
  refine ⟨fun i hi => ⟨?_, (h.1 i hi).2.1, fun z => z.elim (h.1 i hi).2.2 (hn i hi)⟩, h.2.1, fun q h0 hq => ?_, fun q hq => ?_⟩
  · rw [mup_n (hn i hi)]
    exact (h.1 i hi).1
  · rw [mup_n (fun z => hq (Or.inr z))]
    exact h.2.2.1 q h0 (fun z => hq (Or.inl z))
  · by_cases z : q = r
    · subst z
      rw [mup_s]
      simp
    · rw [mup_n z]
      exact h.2.2.2 q (hq.resolve_right z)
theorem Acc.old {G : GT} {P : Id3 → Prop} {T : Nat → Prop} {a : Id3 → Nat} {M0 M : Mem} (h : Acc G P T a M0 M) {q : Nat} (hq : M q = none) : M0 q = none := by
  cases h0 : M0 q with
  | none => rfl
  | some e =>
    by_cases z : T q
    · exact absurd hq (h.2.2.2 q z)
    · have := h.2.2.1 q (by rw [h0]; simp) z
      rw [hq, h0] at this
      cases this
/-- a part made by its own constructor -/
theorem Acc.sub {G : GT} {P P' : Id3 → Prop} {T : Nat → Prop} {a : Id3 → Nat} {M0 M Mn M' : Mem} {r : Nat} {e : va_E} {root : Id3} (h : Acc G P T a M0 M) (hr : M r = none) (hMn : Mn = mup M r e) (hb : Blk G P' root r Mn M') (hroot : P' root) (gf : Id3 → Nat) (c : Nat) (hP' : ∀ i, P' i → gf i = c ∧ ∀ z, rfs i z → gf z = c) (hP : ∀ i, P i → gf i ≠ c ∧ ∀ z, rfs i z → gf z ≠ c) :
    ∃ a', Acc G (fun i => P i ∨ P' i) T a' M0 M' ∧ a' root = r ∧ (∀ i, gf i ≠ c → a' i = a i) ∧ (∀ q, M q ≠ none → M' q = M q) := by
  subst hMn
  obtain ⟨b, hb0, hb1, hb2, hb3⟩ := hb
  have hx : ∀ q, M q ≠ none → M' q = M q := fun q hq => by
    have hqr : q ≠ r := fun z => hq (by rw [z]; exact hr)
    rw [hb3 q (by rw [mup_n hqr]; exact hq) hqr, mup_n hqr]
  have hf : ∀ i, P' i → M (b i) = none := fun i hi => by
    by_cases z : i = root
    · rw [z, hb0]
      exact hr
    · have := (hb1 i hi).2 z
      by_cases y : b i = r
      · rw [y]; exact hr
      · rw [mup_n y] at this
        exact this
  refine ⟨fun i => if gf i = c then b i else a i, ⟨fun i hi => ?_, fun i j hi hj e => ?_, fun q h0 hq => ?_, fun q hq => ?_⟩, ?_, fun i hi => if_neg hi, hx⟩
  · rcases hi with hi | hi
    · obtain ⟨p1, p2⟩ := hP i hi
      obtain ⟨q1, q2, q3⟩ := h.1 i hi
      show M' (if gf i = c then b i else a i) = _ ∧ M0 (if gf i = c then b i else a i) = none ∧ ¬ T (if gf i = c then b i else a i)
      rw [if_neg p1]
      refine ⟨?_, q2, q3⟩
      rw [hx _ (by rw [q1]; simp), q1]
      exact congrArg some (cel0_congr (fun z hz => (if_neg (p2 z hz)).symm))
    · obtain ⟨p1, p2⟩ := hP' i hi
      show M' (if gf i = c then b i else a i) = _ ∧ M0 (if gf i = c then b i else a i) = none ∧ ¬ T (if gf i = c then b i else a i)
      rw [if_pos p1]
      refine ⟨?_, h.old (hf i hi), fun z => h.2.2.2 _ z (hf i hi)⟩
      rw [(hb1 i hi).1]
      exact congrArg some (cel0_congr (fun z hz => (if_pos (p2 z hz)).symm))
  · have mix : ∀ i j, P i → P' j → a i ≠ b j := fun i j hi hj z => by
      have := (h.1 i hi).1
      rw [z, hf j hj] at this
      cases this
    rcases hi with hi | hi <;> rcases hj with hj | hj
    · simp only [if_neg (hP i hi).1, if_neg (hP j hj).1] at e
      exact h.2.1 i j hi hj e
    · simp only [if_neg (hP i hi).1, if_pos (hP' j hj).1] at e
      exact absurd e (mix i j hi hj)
    · simp only [if_pos (hP' i hi).1, if_neg (hP j hj).1] at e
      exact absurd e.symm (mix j i hj hi)
    · simp only [if_pos (hP' i hi).1, if_pos (hP' j hj).1] at e
      exact hb2 i j hi hj e
  · rw [← h.2.2.1 q h0 hq]
    exact hx q (by rw [h.2.2.1 q h0 hq]; exact h0)
  · rw [hx q (h.2.2.2 q hq)]
    exact h.2.2.2 q hq
  · show (if gf root = c then b root else a root) = r
    rw [if_pos (hP' root hroot).1, hb0]
/-- a bare cell that is as its place wants it: it counts -/
theorem Acc.close {G : GT} {P : Id3 → Prop} {T : Nat → Prop} {a : Id3 → Nat} {M0 M : Mem} {r : Nat} {i0 : Id3} (h : Acc G P (fun q => T q ∨ q = r) a M0 M) (h0 : M0 r = none) (hTr : ¬ T r) (hai : a i0 = r) (hc : M r = some (cel0 G a i0)) : Acc G (fun i => P i ∨ i = i0) T a M0 M := by
  refine ⟨fun i hi => ?_, fun i j hi hj e => ?_, fun q q0 hq => ?_, fun q hq => h.2.2.2 q (Or.inl hq)⟩
  · rcases hi with hi | hi
    · obtain ⟨q1, q2, q3⟩ := h.1 i hi
      exact ⟨q1, q2, fun z => q3 (Or.inl z)⟩
    · subst hi
      rw [hai]
      exact ⟨hc, h0, hTr⟩
  · rcases hi with hi | hi <;> rcases hj with hj | hj
    · exact h.2.1 i j hi hj e
    · subst hj
      rw [hai] at e
      exact absurd (Or.inr e) (h.1 i hi).2.2
    · subst hi
      rw [hai] at e
      exact absurd (Or.inr e.symm) (h.1 j hj).2.2
    · rw [hi, hj]
  · exact h.2.2.1 q q0 (fun z => z.elim hq (fun z => q0 (by rw [z]; exact h0)))
/-- the end: with the object itself, the constructor's block -/
theorem Acc.blk {G : GT} {P : Id3 → Prop} {a : Id3 → Nat} {M0 M : Mem} {t : Nat} {root : Id3} (h : Acc G P (fun q => q = t) a M0 M) (hP : ¬ P root) (hr : ∀ i, P i ∨ i = root → ∀ z, rfs i z → z ≠ root) (hc : ∀ a', (∀ i, i ≠ root → a' i = a i) → M t = some (cel0 G a' root)) : Blk G (fun i => P i ∨ i = root) root t M0 M := by
  refine ⟨fun i => if i = root then t else a i, if_pos rfl, fun i hi => ?_, fun i j hi hj e => ?_, fun q h0 hq => h.2.2.1 q h0 hq⟩
  · rcases hi with hi | hi
    · have hn : i ≠ root := fun z => hP (by rw [← z]; exact hi)
      obtain ⟨q1, q2, q3⟩ := h.1 i hi
      show M (if i = root then t else a i) = _ ∧ (i ≠ root → M0 (if i = root then t else a i) = none)
      rw [if_neg hn]
      refine ⟨?_, fun _ => q2⟩
      rw [q1]
      exact congrArg some (cel0_congr (fun z hz => (if_neg (hr i (Or.inl hi) z hz)).symm))
    · subst hi
      show M (if i = i then t else a i) = _ ∧ (i ≠ i → M0 (if i = i then t else a i) = none)
      rw [if_pos rfl]
      exact ⟨hc _ (fun j hj => if_neg hj), fun z => absurd rfl z⟩
  · have key : ∀ i, P i → i ≠ root ∧ a i ≠ t := fun i hi => ⟨fun z => hP (by rw [← z]; exact hi), (h.1 i hi).2.2⟩
    rcases hi with hi | hi <;> rcases hj with hj | hj
    · simp only [if_neg (key i hi).1, if_neg (key j hj).1] at e
      exact h.2.1 i j hi hj e
    · simp only [if_neg (key i hi).1, if_pos hj] at e
      exact absurd e (key i hi).2
    · simp only [if_pos hi, if_neg (key j hj).1] at e
      exact absurd e.symm (key j hj).2
    · rw [hi, hj]
theorem Blk.mono {G : GT} {P P' : Id3 → Prop} {root : Id3} {t : Nat} {M M' : Mem} (h : Blk G P root t M M') (hp : ∀ i, P' i → P i) : Blk G P' root t M M' := by
  obtain ⟨a, h0, h1, h2, h3⟩ := h
  exact ⟨a, h0, fun i hi => h1 i (hp i hi), fun i j hi hj => h2 i j (hp i hi) (hp j hj), h3⟩
/-- single objects -/
theorem Blk.one {G : GT} {root : Id3} {t : Nat} {M M' : Mem} (hc : ∀ a, M' t = some (cel0 G a root)) (hx : ∀ q, q ≠ t → M' q = M q) : Blk G (fun i => i = root) root t M M' :=
  ⟨fun _ => t, rfl, fun i hi => ⟨by rw [hi]; exact hc _, fun z => absurd hi z⟩, fun i j hi hj _ => by rw [hi, hj], fun q _ hq => hx q hq⟩
/-- what refers to what -/
theorem rf_00 {k : Nat} {z : Id3} (h : rfs (0, k, 0) z) : z = (0, k, 1) ∨ z = (0, k, 2) ∨ z = (0, k, 4) ∨ z = (0, k, 7) := by
  have h' : ∃ t ∈ ([tI, tI, tI, tI, (1, (0, k, 1)), (1, (0, k, 2)), (1, (0, k, 4)), (1, (0, k, 7))] : List (Nat × Id3)), t.1 = 1 ∧ t.2 = z := h
  obtain ⟨t, ht, h1, h2⟩ := h'
  simp only [List.mem_cons, List.not_mem_nil, or_false] at ht
  rcases ht with rfl | rfl | rfl | rfl | rfl | rfl | rfl | rfl
  · exact absurd h1 (by decide)
  · exact absurd h1 (by decide)
  · exact absurd h1 (by decide)
  · exact absurd h1 (by decide)
  · exact Or.inl h2.symm
  · exact Or.inr (Or.inl h2.symm)
  · exact Or.inr (Or.inr (Or.inl h2.symm))
  · exact Or.inr (Or.inr (Or.inr h2.symm))
theorem rf_01 {k : Nat} {z : Id3} (h : rfs (0, k, 1) z) : False := by
  have h' : ∃ t ∈ ([tI, tI, tI, tI, tI, tI] : List (Nat × Id3)), t.1 = 1 ∧ t.2 = z := h
  obtain ⟨t, ht, h1, h2⟩ := h'
  simp only [List.mem_cons, List.not_mem_nil, or_false] at ht
  rcases ht with rfl | rfl | rfl | rfl | rfl | rfl
  · exact absurd h1 (by decide)
  · exact absurd h1 (by decide)
  · exact absurd h1 (by decide)
  · exact absurd h1 (by decide)
  · exact absurd h1 (by decide)
  · exact absurd h1 (by decide)
theorem rf_02 {k : Nat} {z : Id3} (h : rfs (0, k, 2) z) : z = (0, k, 3) := by
  have h' : ∃ t ∈ ([tI, (1, (0, k, 3))] : List (Nat × Id3)), t.1 = 1 ∧ t.2 = z := h
  obtain ⟨t, ht, h1, h2⟩ := h'
  simp only [List.mem_cons, List.not_mem_nil, or_false] at ht
  rcases ht with rfl | rfl
  · exact absurd h1 (by decide)
  · exact h2.symm
theorem rf_03 {k : Nat} {z : Id3} (h : rfs (0, k, 3) z) : False := h
theorem rf_04 {k : Nat} {z : Id3} (h : rfs (0, k, 4) z) : z = (0, k, 5) ∨ z = (0, k, 6) := by
  have h' : ∃ t ∈ ([tI, tI, tI, tI, (1, (0, k, 5)), (1, (0, k, 6))] : List (Nat × Id3)), t.1 = 1 ∧ t.2 = z := h
  obtain ⟨t, ht, h1, h2⟩ := h'
  simp only [List.mem_cons, List.not_mem_nil, or_false] at ht
  rcases ht with rfl | rfl | rfl | rfl | rfl | rfl
  · exact absurd h1 (by decide)
  · exact absurd h1 (by decide)
  · exact absurd h1 (by decide)
  · exact absurd h1 (by decide)
  · exact Or.inl h2.symm
  · exact Or.inr (h2.symm)
theorem rf_05 {k : Nat} {z : Id3} (h : rfs (0, k, 5) z) : False := h
theorem rf_06 {k : Nat} {z : Id3} (h : rfs (0, k, 6) z) : False := h
theorem rf_07 {k : Nat} {z : Id3} (h : rfs (0, k, 7) z) : z = (0, k, 8) := by
  have h' : ∃ t ∈ ([tI, (1, (0, k, 8))] : List (Nat × Id3)), t.1 = 1 ∧ t.2 = z := h
  obtain ⟨t, ht, h1, h2⟩ := h'
  simp only [List.mem_cons, List.not_mem_nil, or_false] at ht
  rcases ht with rfl | rfl
  · exact absurd h1 (by decide)
  · exact h2.symm
theorem rf_08 {k : Nat} {z : Id3} (h : rfs (0, k, 8) z) : ∃ j, z = (1, k, j) := by
  have h' : ∃ j, ((1, k, j) : Id3) = z := h
  obtain ⟨j, hj⟩ := h'
  exact ⟨j, hj.symm⟩
theorem rf_1 {k p : Nat} {z : Id3} (h : rfs (1, k, p) z) : False := by
  have h' : ∃ t ∈ ([tI, tI, tI, tI, tI, tB, tI] : List (Nat × Id3)), t.1 = 1 ∧ t.2 = z := h
  obtain ⟨t, ht, h1, h2⟩ := h'
  simp only [List.mem_cons, List.not_mem_nil, or_false] at ht
  rcases ht with rfl | rfl | rfl | rfl | rfl | rfl | rfl
  · exact absurd h1 (by decide)
  · exact absurd h1 (by decide)
  · exact absurd h1 (by decide)
  · exact absurd h1 (by decide)
  · exact absurd h1 (by decide)
  · exact absurd h1 (by decide)
  · exact absurd h1 (by decide)
theorem rf_20 {z : Id3} (h : rfs (2, 0, 0) z) : z = (0, 0, 0) ∨ z = (0, 1, 0) ∨ z = (0, 2, 0) ∨ z = (2, 0, 1) ∨ z = (2, 0, 3) ∨ z = (2, 0, 4) ∨ z = (2, 0, 5) ∨ z = (5, 0, 1) := by
  have h' : ∃ t ∈ ([(1, (0, 0, 0)), (1, (0, 1, 0)), (1, (0, 2, 0)), tB, (1, (2, 0, 1)), (1, (2, 0, 3)), (1, (2, 0, 4)), (1, (2, 0, 5)), (1, (5, 0, 1))] : List (Nat × Id3)), t.1 = 1 ∧ t.2 = z := h
  obtain ⟨t, ht, h1, h2⟩ := h'
  simp only [List.mem_cons, List.not_mem_nil, or_false] at ht
  rcases ht with rfl | rfl | rfl | rfl | rfl | rfl | rfl | rfl | rfl
  · exact Or.inl h2.symm
  · exact Or.inr (Or.inl h2.symm)
  · exact Or.inr (Or.inr (Or.inl h2.symm))
  · exact absurd h1 (by decide)
  · exact Or.inr (Or.inr (Or.inr (Or.inl h2.symm)))
  · exact Or.inr (Or.inr (Or.inr (Or.inr (Or.inl h2.symm))))
  · exact Or.inr (Or.inr (Or.inr (Or.inr (Or.inr (Or.inl h2.symm)))))
  · exact Or.inr (Or.inr (Or.inr (Or.inr (Or.inr (Or.inr (Or.inl h2.symm))))))
  · exact Or.inr (Or.inr (Or.inr (Or.inr (Or.inr (Or.inr (Or.inr (h2.symm)))))))
theorem rf_21 {z : Id3} (h : rfs (2, 0, 1) z) : z = (2, 0, 2) := by
  have h' : ∃ t ∈ ([tI, tI, (1, (2, 0, 2))] : List (Nat × Id3)), t.1 = 1 ∧ t.2 = z := h
  obtain ⟨t, ht, h1, h2⟩ := h'
  simp only [List.mem_cons, List.not_mem_nil, or_false] at ht
  rcases ht with rfl | rfl | rfl
  · exact absurd h1 (by decide)
  · exact absurd h1 (by decide)
  · exact h2.symm
theorem rf_22 {z : Id3} (h : rfs (2, 0, 2) z) : ∃ j, z = (0, 3 + j, 0) := by
  have h' : ∃ j, ((0, 3 + j, 0) : Id3) = z := h
  obtain ⟨j, hj⟩ := h'
  exact ⟨j, hj.symm⟩
theorem rf_23 {z : Id3} (h : rfs (2, 0, 3) z) : False := by
  have h' : ∃ t ∈ ([tI, tI] : List (Nat × Id3)), t.1 = 1 ∧ t.2 = z := h
  obtain ⟨t, ht, h1, h2⟩ := h'
  simp only [List.mem_cons, List.not_mem_nil, or_false] at ht
  rcases ht with rfl | rfl
  · exact absurd h1 (by decide)
  · exact absurd h1 (by decide)
theorem rf_24 {z : Id3} (h : rfs (2, 0, 4) z) : False := by
  have h' : ∃ t ∈ ([tI, tI] : List (Nat × Id3)), t.1 = 1 ∧ t.2 = z := h
  obtain ⟨t, ht, h1, h2⟩ := h'
  simp only [List.mem_cons, List.not_mem_nil, or_false] at ht
  rcases ht with rfl | rfl
  · exact absurd h1 (by decide)
  · exact absurd h1 (by decide)
theorem rf_25 {z : Id3} (h : rfs (2, 0, 5) z) : z = (5, 0, 0) ∨ z = (2, 0, 6) := by
  have h' : ∃ t ∈ ([(1, (5, 0, 0)), (1, (2, 0, 6))] : List (Nat × Id3)), t.1 = 1 ∧ t.2 = z := h
  obtain ⟨t, ht, h1, h2⟩ := h'
  simp only [List.mem_cons, List.not_mem_nil, or_false] at ht
  rcases ht with rfl | rfl
  · exact Or.inl h2.symm
  · exact Or.inr (h2.symm)
theorem rf_26 {z : Id3} (h : rfs (2, 0, 6) z) : ∃ j, z = (3, j, 0) := by
  have h' : ∃ j, ((3, j, 0) : Id3) = z := h
  obtain ⟨j, hj⟩ := h'
  exact ⟨j, hj.symm⟩
theorem rf_30 {k : Nat} {z : Id3} (h : rfs (3, k, 0) z) : z = (3, k, 1) := by
  have h' : ∃ t ∈ ([tE, (1, (3, k, 1))] : List (Nat × Id3)), t.1 = 1 ∧ t.2 = z := h
  obtain ⟨t, ht, h1, h2⟩ := h'
  simp only [List.mem_cons, List.not_mem_nil, or_false] at ht
  rcases ht with rfl | rfl
  · exact absurd h1 (by decide)
  · exact h2.symm
theorem rf_31 {k : Nat} {z : Id3} (h : rfs (3, k, 1) z) : False := h
theorem rf_50 {j : Nat} {z : Id3} (h : rfs (5, 0, j) z) : z = (5, 1, j) := h
theorem rf_51 {j : Nat} {z : Id3} (h : rfs (5, 1, j) z) : False := h
