/-! small rows that the walks use -/
theorem v0 {k j : Nat} (hk : k < 11) (hj : Nat.ble (j + 1) 9 = true) : vld (0, k, j) := ⟨hk, Nat.le_of_ble_eq_true hj⟩
theorem v1 {k j : Nat} (hk : k < 11) (hj : j < 8) : vld (1, k, j) := ⟨hk, hj⟩
theorem v2 {j : Nat} (hj : Nat.ble (j + 1) 7 = true) : vld (2, 0, j) := ⟨rfl, Nat.le_of_ble_eq_true hj⟩
theorem v3 {k j : Nat} (hk : k < 12) (hj : Nat.ble (j + 1) 2 = true) : vld (3, k, j) := ⟨hk, Nat.le_of_ble_eq_true hj⟩
theorem v5 {j : Nat} (hj : Nat.ble (j + 1) 2 = true) : vld (5, 0, j) := ⟨rfl, Nat.le_of_ble_eq_true hj⟩
theorem k0 : 0 < 11 := by decide
theorem k1 : 1 < 11 := by decide
theorem k2 : 2 < 11 := by decide
theorem k3 {j : Nat} (h : j < 8) : 3 + j < 11 := by omega
theorem mm_max : MMx Lib.Math.max.name Lib.Math.max.code 2 := ⟨aw_549, aw_32, aw_550⟩
theorem mm_min : MMx Lib.Math.min.name Lib.Math.min.code 2 := ⟨aw_567, aw_32, aw_568⟩
theorem mm_abs : MMx Lib.Math.abs.name Lib.Math.abs.code 1 := ⟨aw_919, aw_32, aw_920⟩
/-- one whole cell anew -/
def setA (Y : YT) (i : Id3) (y : Nat → Int32) : YT := fun j => if j = i then y else Y j
theorem setA_s {Y : YT} {i : Id3} {y : Nat → Int32} : setA Y i y i = y := by simp [setA]
theorem setA_n {Y : YT} {i j : Id3} {y : Nat → Int32} (h : j ≠ i) : setA Y i y j = Y j := by simp [setA, h]
theorem up_setA (Y : YT) (i : Id3) (f : Nat) (x : Int32) : up Y i f x = setA Y i (upd (Y i) f x) := rfl
theorem setA_setA (Y : YT) (i : Id3) (y z : Nat → Int32) : setA (setA Y i y) i z = setA Y i z := by
  funext j
  by_cases h : j = i <;> simp [setA, h]
theorem setA_self (Y : YT) (i : Id3) : setA Y i (Y i) = Y := by
  funext j
  by_cases h : j = i
  · subst h; simp [setA]
  · simp [setA, h]
theorem setA_comm (Y : YT) {i j : Id3} (h : i ≠ j) (y z : Nat → Int32) : setA (setA Y i y) j z = setA (setA Y j z) i y := by
  funext b
  by_cases h1 : b = j
  · subst h1
    simp [setA, Ne.symm h]
  · by_cases h2 : b = i
    · subst h2
      simp [setA, h1]
    · simp [setA, h1, h2]
/-- f up to i, g behind -/
def fil (f g : Nat → Int32) (i : Nat) : Nat → Int32 := fun j => if j < i then f j else g j
theorem fil_0 (f g : Nat → Int32) : fil f g 0 = g := by funext j; simp [fil]
theorem fil_s (f g : Nat → Int32) (i : Nat) : upd (fil f g i) i (f i) = fil f g (i + 1) := by
  funext j
  by_cases h : j = i
  · subst h; simp [upd, fil]
  · by_cases h2 : j < i
    · simp [upd, fil, h, h2, Nat.lt_succ_of_lt h2]
    · simp [upd, fil, h, h2, show ¬ j < i + 1 by omega]
theorem fil_in {f g : Nat → Int32} {i j : Nat} (h : j < i) : fil f g i j = f j := by simp [fil, h]
theorem fil_out {f g : Nat → Int32} {i j : Nat} (h : i ≤ j) : fil f g i j = g j := by simp [fil, Nat.not_lt.mpr h]
def bi (p : Prop) [Decidable p] : Int32 := if p then 1 else 0
theorem bi_t {p : Prop} [Decidable p] (h : p) : bi p = 1 := by simp [bi, h]
theorem bi_f {p : Prop} [Decidable p] (h : ¬ p) : bi p = 0 := by simp [bi, h]
theorem bi_isb (p : Prop) [Decidable p] : isb (bi p) := by by_cases h : p <;> simp [bi, h, isb]
theorem bi_0 {p : Prop} [Decidable p] : bi p = 0 ↔ ¬ p := by by_cases h : p <;> simp [bi, h]
theorem nb_narrow {x : Int32} (h : isb x) : narrow .boolean (.int x) = .int x := (isb_nar h).1
theorem nb_eq {x : Int32} {p : Prop} [Decidable p] (h : x = bi p) : narrow .boolean (.int x) = .int x := nb_narrow (by rw [h]; exact bi_isb p)
def clampI (v lo hi : Int32) : Int32 := if v < lo then lo else if hi < v then hi else v
theorem nlt_le {x y : Int32} (h : ¬ x < y) : y ≤ x := Int32.not_lt.mp h
theorem nle_lt {x y : Int32} (h : ¬ x ≤ y) : y < x := Int32.not_le.mp h
theorem nI_nle_iff {i n : Nat} (hi : i < 2 ^ 31) (hn : n < 2 ^ 31) (h : ¬ nI n ≤ nI i) : i < n := by
  rcases Nat.lt_or_ge i n with q | q
  · exact q
  · exact absurd (nI_le q hi) h
theorem nI_le_iff {i n : Nat} (hi : i < 2 ^ 31) (hn : n < 2 ^ 31) (h : nI n ≤ nI i) : n ≤ i := (nI_leI hn hi).mp h
/-- an array of ints is what it holds within its length -/
theorem r_arr {X : XT} {G : GT} {A : Nat → Prop} {M : Mem} {k n : Nat} {Q : State → Prop} {pc : Nat} {L : List (Option Value)} {st : List Value} {b len : Nat} {cA : ClassId} {y z : Nat → Int32} (ha : M b = some (.inl (cA, len, .inl y))) (he : ∀ f, f < len → z f = y f) (kk : WM X G A (mup M b (.inl (cA, len, .inl z))) k n Q pc L st) : WM X G A M k n Q pc L st := by
  intro H locs ls hS hM hA hL
  have hb := hM _ _ ha
  refine kk H locs ls hS (hM.up ?_ (fun _ _ _ => rfl)) (mup_A hA (hA b (by rw [ha]; simp))) hL
  show H[b]? = some (vp_cell _ _)
  have hb' : H[b]? = some (vp_cell cA (len, .inl y)) := hb
  rw [hb', vp_cell_i, vp_cell_i]
  congr 1
  unfold arrV
  congr 1
  apply Array.ext
  · simp
  · intro i h1 h2
    simp at h1
    simp [he i h1]
theorem y_arr {X : XT} {G : GT} {A : Nat → Prop} {a : Id3 → Nat} {Y : YT} {k n : Nat} {Q : State → Prop} {pc : Nat} {L : List (Option Value)} {st : List Value} (i : Id3) {len : Nat} (z : Nat → Int32) (hi : vld i) (h5b : Nat.beq i.1 5 = false) (ht : tpl i = .inr (.inl len)) (he : ∀ f, f < len → z f = Y i f) (kk : WY X G A a (setA Y i z) k n Q pc L st) : WY X G A a Y k n Q pc L st := by
  intro M hM
  have h5 : i.1 ≠ 5 := fun e => by rw [e] at h5b; cases h5b
  have h1 := hM.1 i hi h5
  rw [cel, ht] at h1
  refine r_arr h1 he (kk _ ?_)
  obtain ⟨g1, g2, g3, q, g4, g5, g6⟩ := hM
  refine ⟨fun j hj h5j => ?_, g2, fun j ci f l zz hj htj hl => ?_, q, g4, g5, fun j hj => ?_⟩
  · by_cases hji : j = i
    · subst hji
      rw [mup_s, setA_s, cel, ht]
    · rw [mup_n (fun e => hji (g2 j i hj hi e)), setA_n hji]
      exact g1 j hj h5j
  · by_cases hji : j = i
    · subst hji
      rw [ht] at htj
      cases htj
    · rw [setA_n hji]
      exact g3 j ci f l zz hj htj hl
  · obtain ⟨cap, len', zz, ml, f1, f2, f3⟩ := g6 j hj
    have e5 : (5, 0, j) ≠ i := fun e => h5 (by rw [← e])
    refine ⟨cap, len', zz, ml, ?_, ?_, ?_⟩
    · rw [mup_n (fun e => e5 (g2 _ i ⟨rfl, hj⟩ hi e)), setA_n e5]
      exact f1
    · rw [mup_n (fun e => g4 i j hi e.symm)]
      exact f2
    · rw [setA_n e5]
      exact f3
theorem nadd {x y : Int32} {a b : Nat} (hx : x = nI a) (hy : y = nI b) : x + y = nI (a + b) := by rw [hx, hy]; exact nI_add a b
theorem nsub {x y : Int32} {a b : Nat} (hx : x = nI a) (hy : y = nI b) (h : b ≤ a) : x - y = nI (a - b) := by rw [hx, hy]; exact pk_sub h
theorem nmul {x y : Int32} {a b : Nat} (hx : x = nI a) (hy : y = nI b) : x * y = nI (a * b) := by rw [hx, hy]; exact pk_mul a b
def nn (x : Int32) : Nat := x.toNatClampNeg
theorem nn_nI {i : Nat} (h : i < 2 ^ 31) : nn (nI i) = i := nI_clamp h
theorem bi_n0 {p : Prop} [Decidable p] (h : ¬ bi p = 0) : p := Classical.not_not.mp (fun q => h (bi_0.mpr q))
theorem rng_nI {v lo hi : Int32} {m : Nat} (hm : hi.toInt = m) (hlo : 0 ≤ lo) (h : lo ≤ v ∧ v ≤ hi) : ∃ j, j ≤ m ∧ v = nI j := by
  have h0 : ¬ v < 0 := Int32.not_lt.mpr (Int32.le_trans hlo h.1)
  exact nI_of2 hm h0 h.2
theorem pot_nI {p c : Int32} {np : Nat} (hc : c = nI np) (hn : np ≤ 8) (h : 0 ≤ p ∧ p ≤ c - 1) : ∃ q, q < np ∧ p = nI q := by
  subst hc
  rcases Nat.eq_zero_or_pos np with h0 | h0
  · subst h0
    have h2 : (0 : Int32) ≤ nI 0 - 1 := Int32.le_trans h.1 h.2
    exact absurd h2 (by decide)
  · have e : nI np - 1 = nI (np - 1) := pk_sub (b := 1) h0
    rw [e] at h
    obtain ⟨j, h1, h2⟩ := rng_nI (m := np - 1) (nI_toInt (by omega)) (Int32.le_refl 0) h
    exact ⟨j, by omega, h2⟩
theorem nI_lt_iff {i n : Nat} (hi : i < 2 ^ 31) (hn : n < 2 ^ 31) (h : nI n < nI i) : n + 1 ≤ i := (nI_ltI hn hi).mp h
theorem nI_nlt_iff {i n : Nat} (hi : i < 2 ^ 31) (hn : n < 2 ^ 31) (h : ¬ nI n < nI i) : i < n + 1 := by
  rcases Nat.lt_or_ge i (n + 1) with q | q
  · exact q
  · exact absurd ((nI_ltI hn hi).mpr q) h
theorem bi_1 {p : Prop} [Decidable p] : bi p = 1 ↔ p := by by_cases h : p <;> simp [bi, h]
theorem ite_bi {p q : Prop} [Decidable p] [Decidable q] (h : p ↔ q) : (if p then (1 : Int32) else 0) = bi q := by
  by_cases c : p
  · rw [if_pos c, bi_t (h.mp c)]
  · rw [if_neg c, bi_f (fun z => c (h.mpr z))]
