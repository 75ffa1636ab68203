/-! THE MODEL'S KILN AS A FUNCTION of its row of numbers s: what a minute makes of it. -/
def mErr (s : Nat → Int32) : Int32 := s 1 - s 0
def mSum (s : Nat → Int32) : Int32 := clampI (s 5 + mErr s) (-(s 6)) (s 6)
def mWant (s : Nat → Int32) : Int32 := clampI ((10 * s 2 * mErr s + s 3 * mSum s + 10 * s 4 * (mErr s - s 7)) / 100) 0 100
def shf (s : Nat → Int32) (i : Nat) : Nat → Int32 := fun f => if 17 ≤ f ∧ f < 17 + i then s (f + 1) else s f
def lagS (s : Nat → Int32) (w : Int32) (lg : Nat) : Nat → Int32 := if lg = 0 then s else fun f => if 17 ≤ f ∧ f + 1 < 17 + lg then s (f + 1) else if f + 1 = 17 + lg then w else s f
def lagR (s : Nat → Int32) (w : Int32) (lg : Nat) : Int32 := if lg = 0 then w else s 17
theorem shf_0 (s : Nat → Int32) : shf s 0 = s := by
  funext f
  simp only [shf]
  rw [if_neg (by omega)]
theorem shf_s (s : Nat → Int32) (i : Nat) : upd (shf s i) (17 + i) (shf s i (17 + i + 1)) = shf s (i + 1) := by
  funext f
  simp only [upd, shf]
  by_cases h : f = 17 + i
  · subst h
    rw [if_pos rfl, if_neg (by omega), if_pos (by omega)]
  · rw [if_neg h]
    by_cases h2 : 17 ≤ f ∧ f < 17 + i
    · rw [if_pos h2, if_pos (by omega)]
    · rw [if_neg h2, if_neg (by omega)]
theorem shf_lo {s : Nat → Int32} {i f : Nat} (h : f < 17 ∨ 17 + i ≤ f) : shf s i f = s f := by simp only [shf]; rw [if_neg (by omega)]
theorem lagS_of {s : Nat → Int32} {w : Int32} {lg : Nat} (h : lg ≠ 0) : upd (shf s (lg - 1)) (17 + lg - 1) w = lagS s w lg := by
  funext f
  simp only [upd, shf, lagS, if_neg h]
  by_cases h1 : f = 17 + lg - 1
  · rw [if_pos h1, if_neg (by omega), if_pos (by omega)]
  · rw [if_neg h1]
    by_cases h2 : 17 ≤ f ∧ f < 17 + (lg - 1)
    · rw [if_pos h2, if_pos (by omega)]
    · rw [if_neg h2, if_neg (by omega), if_neg (by omega)]
theorem lagS_lo {s : Nat → Int32} {w : Int32} {lg f : Nat} (h : f < 17 ∨ 17 + lg ≤ f) : lagS s w lg f = s f := by
  simp only [lagS]
  by_cases h0 : lg = 0
  · rw [if_pos h0]
  · rw [if_neg h0]
    rw [if_neg (by omega), if_neg (by omega)]
def nmL (s : Nat → Int32) (i : Nat) : Nat → Int32 := fun f => if 171 - i ≤ f ∧ f < 171 then s (f - 4) else s f
theorem nmL_0 (s : Nat → Int32) : nmL s 0 = s := by
  funext f
  simp only [nmL]
  rw [if_neg (by omega)]
theorem nmL_s (s : Nat → Int32) (i : Nat) (h : i < 44) : upd (nmL s i) (123 + (47 - i)) (nmL s i (123 + (47 - i) - 4)) = nmL s (i + 1) := by
  funext f
  simp only [upd, nmL]
  by_cases h1 : f = 123 + (47 - i)
  · rw [if_pos h1, if_neg (by omega), if_pos (by omega), h1]
  · rw [if_neg h1]
    by_cases h2 : 171 - i ≤ f ∧ f < 171
    · rw [if_pos h2, if_pos (by omega)]
    · rw [if_neg h2, if_neg (by omega)]
def nmS (s : Nat → Int32) (e b : Int32) : Nat → Int32 := fun f => if f = 14 then s 14 + (if 12 ≤ s 14 then 0 else 1) else if f = 126 then b else if f = 125 then e else if f = 124 then s 9 else if f = 123 then s 0 else if 127 ≤ f ∧ f < 171 then s (f - 4) else s f
theorem nmS_of (s : Nat → Int32) (e b : Int32) : upd (upd (upd (upd (upd (nmL s 44) 123 (s 0)) 124 (s 9)) 125 e) 126 b) 14 (s 14 + (if 12 ≤ s 14 then 0 else 1)) = nmS s e b := by
  funext f
  simp only [upd, nmS, nmL]
theorem nmS_lo {s : Nat → Int32} {e b : Int32} {f : Nat} (h : f ≠ 14) (h2 : f < 123 ∨ 171 ≤ f) : nmS s e b f = s f := by
  simp only [nmS]
  rw [if_neg h, if_neg (by omega), if_neg (by omega), if_neg (by omega), if_neg (by omega), if_neg (by omega)]
/-- a pot that has a minute behind it -/
def ht1 (s : Nat → Int32) (p : Nat) (b : Int32) : Nat → Int32 := upd s (219 + p) (if b ≤ s (219 + p) then s (219 + p) else b)
def ht2 (s : Nat → Int32) (p : Nat) : Nat → Int32 := upd s (203 + p) (s (203 + p) + 1)
def ht (s : Nat → Int32) (p : Nat) (b : Int32) : Nat → Int32 :=
  if ht1 s p b (171 + p) < b ∨ ht1 s p b (179 + p) + 80 < ht1 s p b 0 then upd (ht1 s p b) (195 + p) 3
  else if ht1 s p b 0 < ht1 s p b (179 + p) then ht1 s p b
  else if ht2 (ht1 s p b) p (203 + p) = ht2 (ht1 s p b) p (187 + p) then upd (ht2 (ht1 s p b) p) (195 + p) 2 else ht2 (ht1 s p b) p
def htN (b : Int32) : Nat → (Nat → Int32) → (Nat → Int32)
  | 0, s => s
  | n + 1, s => if htN b n s (195 + n) = 1 then ht (htN b n s) n b else htN b n s
theorem ht_lo {s : Nat → Int32} {p f : Nat} {b : Int32} (h : f < 195) : ht s p b f = s f := by
  have h1 : ht1 s p b f = s f := by simp only [ht1, upd]; rw [if_neg (by omega)]
  have h2 : ht2 (ht1 s p b) p f = s f := by simp only [ht2, upd]; rw [if_neg (by omega)]; exact h1
  unfold ht
  split
  · simp only [upd]; rw [if_neg (by omega)]; exact h1
  · split
    · exact h1
    · split
      · simp only [upd]; rw [if_neg (by omega)]; exact h2
      · exact h2
theorem htN_lo {s : Nat → Int32} {f : Nat} {b : Int32} (h : f < 195) : ∀ n, htN b n s f = s f
  | 0 => rfl
  | n + 1 => by
    rw [htN]
    split
    · rw [ht_lo h]; exact htN_lo h n
    · exact htN_lo h n
def mS2 (s : Nat → Int32) : Nat → Int32 := upd (upd s 5 (mSum s)) 7 (mErr s)
def mS3 (s : Nat → Int32) (lg : Nat) : Nat → Int32 := lagS (mS2 s) (mWant s) lg
def mFirst (s : Nat → Int32) (lg : Nat) : Int32 := lagR (mS2 s) (mWant s) lg
def mS4 (s : Nat → Int32) (lg : Nat) : Nat → Int32 := upd (mS3 s lg) 9 (clampI (mFirst s lg) (mS3 s lg 9 - 20) (mS3 s lg 9 + 20))
def mBurn (s : Nat → Int32) (lg : Nat) : Int32 := if mS4 s lg 10 ≤ mS4 s lg 9 then mS4 s lg 10 else mS4 s lg 9
def mS6 (s : Nat → Int32) (b : Int32) : Nat → Int32 := upd (upd s 10 (s 10 - b)) 16 (upd s 10 (s 10 - b) 16 + b)
def mS7 (s : Nat → Int32) (b : Nat) : Nat → Int32 := upd s (22 + b) (s (22 + b) + 1)
def mS9 (s : Nat → Int32) (d b : Int32) : Nat → Int32 := upd (upd s 0 (d + b / 2 - (d - 20) / 25)) 12 (upd s 0 (d + b / 2 - (d - 20) / 25) 12 + 1)
def mS10 (s : Nat → Int32) : Nat → Int32 := upd s 13 (if -(mErr s) ≤ s 13 then s 13 else -(mErr s))
def mBy (d0 d1 : Int32) : Int32 := if d0 ≤ d1 then d1 - d0 else d0 - d1
/-- the row behind a minute, ahead of the pots -/
def mS11 (s : Nat → Int32) (lg : Nat) : Nat → Int32 := nmS (mS10 (mS9 (mS7 (mS6 (mS4 s lg) (mBurn s lg)) (nn (mBurn s lg))) (s 0) (mBurn s lg))) (mErr s) (mBurn s lg)
def minute (s : Nat → Int32) : Nat → Int32 := htN (mBy (s 0) (mS11 s (nn (s 8)) 0)) (nn (s 15)) (mS11 s (nn (s 8)))
/-- what keeps the indices within the row -/
def MOK (s : Nat → Int32) : Prop := ∃ lg np d fu : Nat, s 8 = nI lg ∧ lg ≤ 5 ∧ s 15 = nI np ∧ np ≤ 8 ∧ s 9 = nI d ∧ d ≤ 100 ∧ s 10 = nI fu ∧ fu < 2 ^ 30 ∧ ∀ j, j < lg → ∃ e, s (17 + j) = nI e ∧ e ≤ 100
theorem clamp_100 (v : Int32) : ∃ r, r ≤ 100 ∧ clampI v 0 100 = nI r := by
  unfold clampI
  by_cases c1 : v < 0
  · exact ⟨0, by omega, by rw [if_pos c1]; rfl⟩
  · rw [if_neg c1]
    by_cases c2 : 100 < v
    · exact ⟨100, by omega, by rw [if_pos c2]; rfl⟩
    · rw [if_neg c2]
      obtain ⟨j, h1, h2⟩ := nI_of2 (x := v) (M := 100) (n := 100) (by decide) c1 (Int32.not_lt.mp c2)
      exact ⟨j, h1, h2⟩
theorem clamp_dam {e d : Nat} (he : e ≤ 100) (hd : d ≤ 100) : ∃ r, r ≤ 100 ∧ clampI (nI e) (nI d - 20) (nI d + 20) = nI r := by
  have h1 : (nI d - 20).toInt = (d : Int) - 20 := pk_sub_toInt (b := 20) (by omega) (by omega)
  have h2 : nI d + 20 = nI (d + 20) := nI_add d 20
  unfold clampI
  by_cases c1 : nI e < nI d - 20
  · rw [if_pos c1]
    rw [Int32.lt_iff_toInt_lt, h1, nI_toInt (by omega)] at c1
    exact ⟨d - 20, by omega, pk_sub (b := 20) (by omega)⟩
  · rw [if_neg c1, h2]
    by_cases c2 : nI (d + 20) < nI e
    · rw [if_pos c2]
      rw [nI_ltI (by omega) (by omega)] at c2
      exact ⟨d + 20, by omega, rfl⟩
    · rw [if_neg c2]
      exact ⟨e, he, rfl⟩
theorem upd_n {f : Nat → Int32} {k j : Nat} {x : Int32} (h : j ≠ k) : upd f k x j = f j := pk_un h
theorem upd_s {f : Nat → Int32} {k : Nat} {x : Int32} : upd f k x k = x := pk_us
theorem mS2_n {s : Nat → Int32} {f : Nat} (h : f ≠ 5) (h2 : f ≠ 7) : mS2 s f = s f := by rw [mS2, upd_n h2, upd_n h]
theorem mS3_lo {s : Nat → Int32} {lg f : Nat} (h : f ≠ 5) (h2 : f ≠ 7) (h3 : f < 17 ∨ 22 ≤ f) (hl : lg ≤ 5) : mS3 s lg f = s f := by rw [mS3, lagS_lo (by omega), mS2_n h h2]
theorem mFirst_ok {s : Nat → Int32} {lg : Nat} (h : ∀ j, j < lg → ∃ e, s (17 + j) = nI e ∧ e ≤ 100) : ∃ e, e ≤ 100 ∧ mFirst s lg = nI e := by
  unfold mFirst lagR
  by_cases h0 : lg = 0
  · rw [if_pos h0]
    exact clamp_100 _
  · rw [if_neg h0, mS2_n (by decide) (by decide)]
    obtain ⟨e, h1, h2⟩ := h 0 (by omega)
    exact ⟨e, h2, h1⟩
theorem mS4_9 {s : Nat → Int32} (h : MOK s) : ∃ d, d ≤ 100 ∧ mS4 s (nn (s 8)) 9 = nI d := by
  obtain ⟨lg, np, d, fu, h1, h2, h3, h4, h5, h6, h7, h8, h9⟩ := h
  rw [h1, nn_nI (by omega)]
  obtain ⟨e, he, hf⟩ := mFirst_ok (lg := lg) h9
  rw [mS4, upd_s, hf, mS3_lo (by decide) (by decide) (by omega) h2, h5]
  exact clamp_dam he h6
theorem mS4_10 {s : Nat → Int32} (h : MOK s) : mS4 s (nn (s 8)) 10 = s 10 := by
  obtain ⟨lg, np, d, fu, h1, h2, -⟩ := h
  rw [h1, nn_nI (by omega), mS4, upd_n (by decide), mS3_lo (by decide) (by decide) (by omega) h2]
theorem mBurn_ok {s : Nat → Int32} (h : MOK s) : ∃ b fu, b ≤ 100 ∧ mBurn s (nn (s 8)) = nI b ∧ s 10 = nI fu ∧ b ≤ fu ∧ fu < 2 ^ 30 := by
  obtain ⟨d, hd, h9⟩ := mS4_9 h
  have h10 := mS4_10 h
  obtain ⟨lg, np, d0, fu, -, -, -, -, -, -, h7, h8, -⟩ := h
  rw [mBurn, h10, h9, h7]
  by_cases c : nI fu ≤ nI d
  · rw [if_pos c]
    have := (nI_leI (by omega) (by omega)).mp c
    exact ⟨fu, fu, by omega, rfl, rfl, by omega, h8⟩
  · rw [if_neg c]
    have : ¬ fu ≤ d := fun q => c ((nI_leI (by omega) (by omega)).mpr q)
    exact ⟨d, fu, hd, rfl, rfl, by omega, h8⟩
theorem mS11_lo {s : Nat → Int32} {lg f b : Nat} (hl : lg ≤ 5) (hb : mBurn s lg = nI b) (hb2 : b ≤ 100) (h : f ∈ [1, 2, 3, 4, 6, 8, 15] ∨ 171 ≤ f) : mS11 s lg f = s f := by
  have h' : f ≠ 0 ∧ f ≠ 5 ∧ f ≠ 7 ∧ f ≠ 9 ∧ f ≠ 10 ∧ f ≠ 12 ∧ f ≠ 13 ∧ f ≠ 14 ∧ f ≠ 16 ∧ (f < 17 ∨ 171 ≤ f) := by
    rcases h with h | h
    · simp at h
      omega
    · omega
  obtain ⟨a0, a5, a7, a9, a10, a12, a13, a14, a16, a17⟩ := h'
  rw [mS11, nmS_lo a14 (by omega), mS10, upd_n a13, mS9, upd_n a12, upd_n a0, mS7, hb, nn_nI (by omega), upd_n (by omega), mS6, upd_n a16, upd_n a10, mS4, upd_n a9, mS3_lo a5 a7 (by omega) hl]
theorem MOK_minute {s : Nat → Int32} (h : MOK s) : MOK (minute s) := by
  obtain ⟨b, fu0, hb1, hb2, hfu, hbf, hfu2⟩ := mBurn_ok h
  obtain ⟨d9, hd9, h9'⟩ := mS4_9 h
  have h10 := mS4_10 h
  obtain ⟨lg, np, d, fu, h1, h2, h3, h4, h5, h6, h7, h8, h9⟩ := h
  have e8 : nn (s 8) = lg := by rw [h1, nn_nI (by omega)]
  rw [e8] at hb2 h9' h10
  unfold minute
  rw [e8]
  have lo : ∀ f, f < 195 → ∀ bb n, htN bb n (mS11 s lg) f = mS11 s lg f := fun f hf bb n => htN_lo hf n
  have k9 : mS11 s lg 9 = nI d9 := by
    rw [mS11, nmS_lo (by decide) (by decide), mS10, upd_n (by decide), mS9, upd_n (by decide), upd_n (by decide), mS7, hb2, nn_nI (by omega), upd_n (by omega), mS6, upd_n (by decide), upd_n (by decide), h9']
  have k10 : mS11 s lg 10 = nI (fu0 - b) := by
    rw [mS11, nmS_lo (by decide) (by decide), mS10, upd_n (by decide), mS9, upd_n (by decide), upd_n (by decide), mS7, hb2, nn_nI (by omega), upd_n (by omega), mS6, upd_n (by decide), upd_s, h10, hfu]
    exact pk_sub hbf
  have k17 : ∀ j, j < lg → ∃ e, mS11 s lg (17 + j) = nI e ∧ e ≤ 100 := by
    intro j hj
    have e1 : mS11 s lg (17 + j) = mS3 s lg (17 + j) := by
      rw [mS11, nmS_lo (by omega) (by omega), mS10, upd_n (by omega), mS9, upd_n (by omega), upd_n (by omega), mS7, hb2, nn_nI (by omega), upd_n (by omega), mS6, upd_n (by omega), upd_n (by omega), mS4, upd_n (by omega)]
    rw [e1, mS3]
    simp only [lagS]
    rw [if_neg (by omega)]
    by_cases c : 17 ≤ 17 + j ∧ 17 + j + 1 < 17 + lg
    · rw [if_pos c, mS2_n (by omega) (by omega)]
      exact h9 (j + 1) (by omega)
    · rw [if_neg c, if_pos (by omega)]
      obtain ⟨r, h1, h2⟩ := clamp_100 ((10 * s 2 * mErr s + s 3 * mSum s + 10 * s 4 * (mErr s - s 7)) / 100)
      exact ⟨r, h2, h1⟩
  refine ⟨lg, np, d9, fu0 - b, ?_, h2, ?_, h4, ?_, hd9, ?_, by omega, fun j hj => ?_⟩
  · rw [lo _ (by decide), mS11_lo h2 hb2 hb1 (Or.inl (by decide)), h1]
  · rw [lo _ (by decide), mS11_lo h2 hb2 hb1 (Or.inl (by decide)), h3]
  · rw [lo _ (by decide), k9]
  · rw [lo _ (by decide), k10]
  · rw [lo _ (by omega)]
    exact k17 j hj
/-- n minutes -/
def mins : Nat → (Nat → Int32) → (Nat → Int32)
  | 0, s => s
  | n + 1, s => minute (mins n s)
theorem MOK_mins {s : Nat → Int32} (h : MOK s) : ∀ n, MOK (mins n s)
  | 0 => h
  | n + 1 => MOK_minute (MOK_mins h n)
