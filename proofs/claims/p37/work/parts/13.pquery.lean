/-! WHAT THE MODEL'S QUESTIONS ANSWER, as functions of its row. -/
def lf (s : Nat → Int32) (p : Nat) : Int32 := s (187 + p) - s (203 + p)
def aheadI (s : Nat → Int32) (a b : Nat) : Int32 := if lf s a = lf s b then (if s (179 + b) < s (179 + a) then 1 else if s (179 + a) = s (179 + b) then (if nI b ≤ nI a then 0 else 1) else 0) else (if lf s b ≤ lf s a then 0 else 1)
def aheadC (s : Nat → Int32) (p : Nat) : Nat → Int32
  | 0 => 0
  | m + 1 => aheadC s p m + (if nI m = nI p then 0 else if aheadI s m p = 0 then 0 else 1)
def rankL (s : Nat → Int32) (np : Nat) (place : Int32) : Nat → Int32
  | 0 => -10001
  | m + 1 => if aheadC s (np - (m + 1)) np = place then nI (np - (m + 1)) else rankL s np place m
theorem aheadI_b (s : Nat → Int32) (a b : Nat) : isb (aheadI s a b) := by
  unfold aheadI
  split
  · split
    · exact Or.inr rfl
    · split
      · split
        · exact Or.inl rfl
        · exact Or.inr rfl
      · exact Or.inl rfl
  · split
    · exact Or.inl rfl
    · exact Or.inr rfl
theorem rankL_step {s : Nat → Int32} {np i : Nat} {place : Int32} (hi : i < np) (h : ¬ aheadC s i np = place) : rankL s np place (np - i) = rankL s np place (np - (i + 1)) := by
  rw [show np - i = (np - (i + 1)) + 1 by omega, rankL, show np - (np - (i + 1) + 1) = i by omega, if_neg h]
theorem rankL_hit {s : Nat → Int32} {np i : Nat} {place : Int32} (hi : i < np) (h : aheadC s i np = place) : rankL s np place (np - i) = nI i := by
  rw [show np - i = (np - (i + 1)) + 1 by omega, rankL, show np - (np - (i + 1) + 1) = i by omega, if_pos h]
/-- how many minutes a pot takes until it is no longer in the kiln -/
def runU (s : Nat → Int32) (q : Nat) : Nat → Nat → Nat
  | 0, n => n
  | m + 1, n => if mins n s (195 + q) = 1 then runU s q m (n + 1) else n
theorem runU_on {s : Nat → Int32} {q i : Nat} (hi : i < 300) (h : mins i s (195 + q) = 1) : runU s q (300 - i) i = runU s q (300 - (i + 1)) (i + 1) := by
  rw [show 300 - i = (300 - (i + 1)) + 1 by omega, runU, if_pos h]
theorem runU_off {s : Nat → Int32} {q i : Nat} (h : ¬ mins i s (195 + q) = 1) : runU s q (300 - i) i = i := by
  cases hm : 300 - i with
  | zero => rfl
  | succ m => rw [runU, if_neg h]
def firedF (s : Nat → Int32) (q : Nat) : Int32 := if mins (runU s q 300 0) s (195 + q) = 2 then nI (runU s q 300 0) else -10005
def near (s : Nat → Int32) : Nat → Int32
  | 0 => 0
  | n + 1 => if bi (-5 ≤ mErr (mins (n + 1) s) ∧ mErr (mins (n + 1) s) ≤ 5) = 0 then 0 else near s n + 1
def setU (s : Nat → Int32) : Nat → Nat → Nat
  | 0, n => n
  | m + 1, n => if 10 ≤ near s n then n else setU s m (n + 1)
theorem setU_on {s : Nat → Int32} {i : Nat} (hi : i < 300) (h : ¬ 10 ≤ near s i) : setU s (300 - i) i = setU s (300 - (i + 1)) (i + 1) := by
  rw [show 300 - i = (300 - (i + 1)) + 1 by omega, setU, if_neg h]
theorem setU_off {s : Nat → Int32} {i : Nat} (h : 10 ≤ near s i) : setU s (300 - i) i = i := by
  cases hm : 300 - i with
  | zero => rfl
  | succ m => rw [setU, if_pos h]
def settleF (s : Nat → Int32) : Int32 := if near s (setU s 300 0) = 10 then nI (setU s 300 0) else -10005
def crackN (s s' : Nat → Int32) : Nat → Int32
  | 0 => 0
  | m + 1 => crackN s s' m ||| (if s' (195 + m) = 3 then (if s (195 + m) = 3 then (0 : Int32) else ((1 : Int32) <<< (nI m &&& 31))) else 0)
def baN (s : Nat → Int32) : Nat → Int32
  | 0 => 0
  | n + 1 => baN s n + nI n * s (22 + n)
def bsN (s : Nat → Int32) : Nat → Int32
  | 0 => 0
  | n + 1 => bsN s n + s (22 + n)
def manyN (s : Nat → Int32) (h : Int32) : Nat → Int32
  | 0 => 0
  | n + 1 => manyN s h n + (if s (195 + n) = h then 1 else 0)
theorem fg_back (Y : YT) (y : Nat → Int32) : setA (setA (setA Y (4, 0, 3) (Y (4, 0, 0))) (4, 0, 0) y) (4, 0, 0) (setA (setA Y (4, 0, 3) (Y (4, 0, 0))) (4, 0, 0) y (4, 0, 3)) = setA Y (4, 0, 3) (Y (4, 0, 0)) := by
  rw [setA_setA, setA_n (show ((4, 0, 3) : Id3) ≠ (4, 0, 0) by decide), setA_s]
  have h : setA Y (4, 0, 3) (Y (4, 0, 0)) (4, 0, 0) = Y (4, 0, 0) := setA_n (by decide)
  conv => lhs; rw [← h]
  rw [h]
  have h2 := setA_self (setA Y (4, 0, 3) (Y (4, 0, 0))) (4, 0, 0)
  rw [h] at h2
  exact h2
theorem minute_lo {s : Nat → Int32} (h : MOK s) {f : Nat} (hf : f ∈ [1, 2, 3, 4, 6, 8, 15]) : minute s f = s f := by
  obtain ⟨b, fu0, hb1, hb2, -⟩ := mBurn_ok h
  obtain ⟨lg, np, d, fu, h1, h2, -⟩ := h
  have e8 : nn (s 8) = lg := by rw [h1, nn_nI (by omega)]
  rw [e8] at hb2
  unfold minute
  rw [e8, htN_lo (by simp at hf; omega), mS11_lo h2 hb2 hb1 (Or.inl hf)]
theorem mins_lo {s : Nat → Int32} (h : MOK s) {f : Nat} (hf : f ∈ [1, 2, 3, 4, 6, 8, 15]) : ∀ n, mins n s f = s f
  | 0 => rfl
  | n + 1 => by rw [mins, minute_lo (MOK_mins h n) hf]; exact mins_lo h hf n
theorem mins_15 {s : Nat → Int32} (h : MOK s) {n : Nat} : mins n s 15 = s 15 := mins_lo h (by decide) n
theorem wk_nil : ∀ (i : Nat) (v : Value), ([] : List (Option Value))[i]? = some (some v) → ([] : List (Option Value))[i]? = some (some v) := fun _ _ h => h
theorem wk_c {o : Option Value} {L' L : List (Option Value)} (h : ∀ (i : Nat) (v : Value), L'[i]? = some (some v) → L[i]? = some (some v)) : ∀ (i : Nat) (v : Value), (o :: L')[i]? = some (some v) → (o :: L)[i]? = some (some v)
  | 0, _, q => q
  | i + 1, v, q => h i v q
theorem wk_n {o : Option Value} {L' L : List (Option Value)} (h : ∀ (i : Nat) (v : Value), L'[i]? = some (some v) → L[i]? = some (some v)) : ∀ (i : Nat) (v : Value), (none :: L')[i]? = some (some v) → (o :: L)[i]? = some (some v)
  | 0, _, q => absurd q (by simp)
  | i + 1, v, q => h i v q
