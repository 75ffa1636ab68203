/-! THE MODEL'S ACTS as functions of its row: what comes back (0 done, above 0 a reason, below 0 a code), the row behind it, what is answered or told. -/
abbrev ActT : Type := Int32 × (Nat → Int32) × Int32
def setAct (Y : YT) (q : ActT) : YT := if q.1 = 0 then up (setA Y (4, 0, 0) q.2.1) (4, 0, 8) 15 q.2.2 else if q.1 < 0 then Y else up Y (4, 0, 8) 14 q.2.2
theorem setAct_n {Y : YT} {q : ActT} (h0 : ¬ q.1 = 0) (h : q.1 < 0) : setAct Y q = Y := by rw [setAct, if_neg h0, if_pos h]
theorem setAct_p {Y : YT} {q : ActT} (h0 : ¬ q.1 = 0) (h : ¬ q.1 < 0) : setAct Y q = up Y (4, 0, 8) 14 q.2.2 := by rw [setAct, if_neg h0, if_neg h]
theorem setAct_0 {Y : YT} {q : ActT} (h0 : q.1 = 0) : setAct Y q = up (setA Y (4, 0, 0) q.2.1) (4, 0, 8) 15 q.2.2 := by rw [setAct, if_pos h0]
theorem setAct_r {Y : YT} {k v : Int32} {s : Nat → Int32} (h0 : ¬ k = 0) (h : ¬ k < 0) : setAct Y (k, s, v) = up Y (4, 0, 8) 14 v := setAct_p (q := (k, s, v)) h0 h
theorem setAct_d {Y : YT} {v : Int32} {s : Nat → Int32} : setAct Y (0, s, v) = up (setA Y (4, 0, 0) s) (4, 0, 8) 15 v := setAct_0 (q := (0, s, v)) rfl
def badA (s : Nat → Int32) : ActT := (-10002, s, 0)
theorem sa_bad (Y : YT) (s : Nat → Int32) : setAct Y (badA s) = Y := setAct_n (show ¬ (-10002 : Int32) = 0 by decide) (show (-10002 : Int32) < 0 by decide)
def aimA (s : Nat → Int32) (d : Int32) : ActT := if 20 ≤ d ∧ d ≤ 1200 then (if s 1 = d then (5, s, d) else (0, upd (upd s 1 d) 13 0, s 1)) else badA s
def gainA (s : Nat → Int32) (e u c : Int32) : ActT := if 0 ≤ e ∧ e ≤ 50 then (if 0 ≤ u ∧ u ≤ 50 then (if 0 ≤ c ∧ c ≤ 50 then (0, upd (upd (upd s 2 e) 3 u) 4 c, 10000 * s 2 + 100 * s 3 + s 4) else badA s) else badA s) else badA s
def capA (s : Nat → Int32) (c : Int32) : ActT := if 0 ≤ c ∧ c ≤ 9000 then (if s 6 = c then (5, s, c) else (0, upd (upd s 6 c) 5 (clampI (s 5) (-c) c), s 6)) else badA s
def fuelA (s : Nat → Int32) (f : Int32) : ActT := if 1 ≤ f ∧ f ≤ 9999 then (0, upd (upd s 10 (s 10 + f)) 11 (s 11 + f), s 10 + f) else badA s
def goA (s : Nat → Int32) (n : Int32) : ActT := if 1 ≤ n ∧ n ≤ 300 then (0, mins (nn n) s, mins (nn n) s 0) else badA s
def potS (s : Nat → Int32) (q : Nat) (sh de mi : Int32) : Nat → Int32 := upd (upd (upd (upd s (171 + q) sh) (179 + q) de) (187 + q) mi) 15 (nI q + 1)
def potA (s : Nat → Int32) (sh de mi : Int32) : ActT := if 1 ≤ sh ∧ sh ≤ 60 then (if 100 ≤ de ∧ de ≤ 1200 then (if 1 ≤ mi ∧ mi ≤ 99 then (if s 15 = 8 then (1, s, 8) else (0, potS s (nn (s 15)) sh de mi, s 15)) else badA s) else badA s) else badA s
def wiN (s : Nat → Int32) : Nat → Int32
  | 0 => 0
  | n + 1 => wiN s n + s (211 + n)
def putS (s : Nat → Int32) (q : Nat) : Nat → Int32 := upd (upd s (195 + q) 1) (211 + q) 1
def putA (s : Nat → Int32) (p : Int32) : ActT := if 0 ≤ p ∧ p ≤ s 15 - 1 then (if s (195 + nn p) = 0 then (if s 0 ≤ 60 then (if wiN s (nn (s 15)) = 4 then (1, s, 4) else (0, putS s (nn p), wiN (putS s (nn p)) (nn (s 15)))) else (4, s, s 0)) else (2, s, s (195 + nn p))) else (-10001, s, 0)
def takeS (s : Nat → Int32) (q : Nat) : Nat → Int32 := upd (upd s (211 + q) 0) (195 + q) (if s (195 + q) = 1 then 0 else s (195 + q))
def takeA (s : Nat → Int32) (p : Int32) : ActT := if 0 ≤ p ∧ p ≤ s 15 - 1 then (if s (211 + nn p) = 0 then (3, s, s (195 + nn p)) else (if s 0 ≤ 60 then (0, takeS s (nn p), if s (195 + nn p) = 1 then 0 else s (195 + nn p)) else (4, s, s 0))) else (-10001, s, 0)
def shl4 (h : Nat → Int32) (i : Nat) : Nat → Int32 := fun f => if f < i then h (f + 227) else h f
theorem shl4_0 (h : Nat → Int32) : shl4 h 0 = h := by funext f; simp [shl4]
theorem shl4_s (h : Nat → Int32) (i : Nat) : upd (shl4 h i) i (shl4 h i (i + 227)) = shl4 h (i + 1) := by
  funext f
  simp only [upd, shl4]
  by_cases h1 : f = i
  · subst h1; rw [if_pos rfl, if_neg (by omega), if_pos (by omega)]
  · rw [if_neg h1]
    by_cases h2 : f < i
    · rw [if_pos h2, if_pos (by omega)]
    · rw [if_neg h2, if_neg (by omega)]
def lay (h y : Nat → Int32) (b i : Nat) : Nat → Int32 := fun f => if b ≤ f ∧ f < b + i then y (f - b) else h f
theorem lay_0 (h y : Nat → Int32) (b : Nat) : lay h y b 0 = h := by
  funext f
  simp only [lay]
  rw [if_neg (by omega)]
theorem lay_s (h y : Nat → Int32) (b i : Nat) : upd (lay h y b i) (b + i) (y i) = lay h y b (i + 1) := by
  funext f
  simp only [upd, lay]
  by_cases h1 : f = b + i
  · subst h1; rw [if_pos rfl, if_pos (by omega), Nat.add_sub_cancel_left]
  · rw [if_neg h1]
    by_cases h2 : b ≤ f ∧ f < b + i
    · rw [if_pos h2, if_pos (by omega)]
    · rw [if_neg h2, if_neg (by omega)]
/-- a change is kept -/
def hpush (Y : YT) : YT := if Y (4, 0, 8) 5 = 8 then setA Y (4, 0, 4) (lay (shl4 (Y (4, 0, 4)) 1589) (Y (4, 0, 1)) (227 * (8 - 1)) 227) else setA (up Y (4, 0, 8) 5 (Y (4, 0, 8) 5 + 1)) (4, 0, 4) (lay (Y (4, 0, 4)) (Y (4, 0, 1)) (227 * (nn (Y (4, 0, 8) 5) + 1 - 1)) 227)
theorem sa_none (Y : YT) (s : Nat → Int32) : setAct Y (-10001, s, 0) = Y := setAct_n (show ¬ (-10001 : Int32) = 0 by decide) (show (-10001 : Int32) < 0 by decide)
def endY (Y : YT) (x : Int32) : YT := if x = 0 then hpush Y else if x < 0 then Y else up (up Y (4, 0, 8) 12 x) (4, 0, 8) 13 (Y (4, 0, 8) 14)
def endX (Y : YT) (x : Int32) : Int32 := if x = 0 then Y (4, 0, 8) 15 else if x < 0 then x else -10004
def rem1 (Y : YT) : YT := setA Y (4, 0, 1) (Y (4, 0, 0))
def doY (Y : YT) (q : ActT) : YT := endY (setAct (rem1 Y) q) q.1
def doR (Y : YT) (q : ActT) : Int32 := endX (setAct (rem1 Y) q) q.1
theorem rem1_s (Y : YT) : rem1 Y (4, 0, 0) = Y (4, 0, 0) := setA_n (by decide)
theorem rem1_8 (Y : YT) : rem1 Y (4, 0, 8) = Y (4, 0, 8) := setA_n (by decide)
theorem setAct_5 (Y : YT) (q : ActT) : setAct Y q (4, 0, 8) 5 = Y (4, 0, 8) 5 := by
  unfold setAct
  split
  · rw [up_s, upd_n (by decide), setA_n (by decide)]
  · split
    · rfl
    · rw [up_s, upd_n (by decide)]
