/-! THE MODEL'S LINE: how long it is, and its letters. -/
abbrev LSt : Type := Nat × (Nat → Int32)
def lnI (z : Nat → Int32) (ll v i : Nat) : Nat → Int32 := fun f => if ll ≤ f ∧ f < ll + i then nI (sb_dec v (f - ll)) else z f
theorem lnI_0 (z : Nat → Int32) (ll v : Nat) : lnI z ll v 0 = z := by
  funext f
  unfold lnI
  rw [if_neg (by omega)]
theorem lnI_s (z : Nat → Int32) (ll v i : Nat) : upd (lnI z ll v i) (ll + i) (nI (sb_dec v i)) = lnI z ll v (i + 1) := by
  funext f
  unfold lnI
  by_cases h : f = ll + i
  · subst h
    rw [upd_s, if_pos (by omega), Nat.add_sub_cancel_left]
  · rw [upd_n h]
    by_cases h2 : ll ≤ f ∧ f < ll + i
    · rw [if_pos h2, if_pos (by omega)]
    · rw [if_neg h2, if_neg (by omega)]
def wC (c : Int32) (q : LSt) : LSt := (q.1 + 1, upd q.2 q.1 c)
def wN (v : Nat) (q : LSt) : LSt := (q.1 + sb_dg v, lnI q.2 q.1 v (sb_dg v))
def lnP (Y : YT) (q : LSt) : YT := setA (up Y (4, 0, 8) 11 (nI q.1)) (4, 0, 7) q.2
theorem lnP_11 {Y : YT} {q : LSt} : lnP Y q (4, 0, 8) 11 = nI q.1 := by rw [lnP, setA_n (by decide), up_s, upd_s]
theorem lnP_7 {Y : YT} {q : LSt} : lnP Y q (4, 0, 7) = q.2 := setA_s
theorem lnP_n {Y : YT} {q : LSt} {i : Id3} (h : i ≠ (4, 0, 8)) (h2 : i ≠ (4, 0, 7)) : lnP Y q i = Y i := by rw [lnP, setA_n h2, up_n h]
theorem lnP_f {Y : YT} {q : LSt} {f : Nat} (h : f ≠ 11) : lnP Y q (4, 0, 8) f = Y (4, 0, 8) f := by rw [lnP, setA_n (by decide), up_s, upd_n h]
theorem lnP_lnP (Y : YT) (p q : LSt) : lnP (lnP Y p) q = lnP Y q := by
  funext i
  by_cases h7 : i = (4, 0, 7)
  · subst h7
    rw [lnP_7, lnP_7]
  · by_cases h8 : i = (4, 0, 8)
    · subst h8
      funext f
      by_cases hf : f = 11
      · subst hf
        rw [lnP_11, lnP_11]
      · rw [lnP_f hf, lnP_f hf, lnP_f hf]
    · rw [lnP_n h8 h7, lnP_n h8 h7, lnP_n h8 h7]
theorem lnP_self {Y : YT} {ll : Nat} (h : Y (4, 0, 8) 11 = nI ll) : lnP Y (ll, Y (4, 0, 7)) = Y := by
  funext i
  by_cases h7 : i = (4, 0, 7)
  · subst h7
    rw [lnP_7]
  · by_cases h8 : i = (4, 0, 8)
    · subst h8
      funext f
      by_cases hf : f = 11
      · subst hf
        rw [lnP_11, h]
      · rw [lnP_f hf]
    · rw [lnP_n h8 h7]
theorem lnP_wr {Y Z Z' : YT} {ll : Nat} {c x : Int32} (h : Y (4, 0, 8) 11 = nI ll) (hZ : Z = up Y (4, 0, 7) ll c) (hZ' : Z' = up Z (4, 0, 8) 11 x) (hx : x = nI (ll + 1)) : Z' = lnP Y (wC c (ll, Y (4, 0, 7))) := by
  subst hx hZ' hZ
  funext i
  by_cases h7 : i = (4, 0, 7)
  · subst h7
    rw [lnP_7, up_n (by decide), up_s]
    rfl
  · by_cases h8 : i = (4, 0, 8)
    · subst h8
      funext f
      rw [up_s, up_n (by decide)]
      by_cases hf : f = 11
      · subst hf
        rw [lnP_11, upd_s]
        rfl
      · rw [lnP_f hf, upd_n hf]
    · rw [lnP_n h8 h7, up_n h8, up_n h7]
theorem p10 : ∀ i, i ≤ 9 → 10 ^ i < 2 ^ 31 := by decide
theorem dgl {v i : Nat} (hv : v < 1000000000) (hi : i ≤ 8) : v / 10 ^ i ≤ 9 ↔ sb_dg v ≤ i + 1 := by
  have h1 : i = 0 ∨ i = 1 ∨ i = 2 ∨ i = 3 ∨ i = 4 ∨ i = 5 ∨ i = 6 ∨ i = 7 ∨ i = 8 := by omega
  unfold sb_dg
  rcases h1 with rfl | rfl | rfl | rfl | rfl | rfl | rfl | rfl | rfl <;> (repeat' split) <;> omega
theorem dg9 {v : Nat} (hv : v < 1000000000) : sb_dg v ≤ 9 := by
  unfold sb_dg
  (repeat' split) <;> omega
theorem kk_eq {m i : Nat} (h : i ≤ m) : 10 ^ m / 10 ^ i = 10 ^ (m - i) := Nat.pow_div h (by decide)
theorem kk_z {m i : Nat} (h : m < i) : 10 ^ m / 10 ^ i = 0 := Nat.div_eq_of_lt (Nat.pow_lt_pow_right (by decide) h)
theorem kk_s (m i : Nat) : 10 ^ m / 10 ^ i / 10 = 10 ^ m / 10 ^ (i + 1) := by rw [Nat.div_div_eq_div_mul, Nat.pow_succ]
theorem kk_lt {m i : Nat} (h : m ≤ 9) : 10 ^ m / 10 ^ i < 2 ^ 31 := Nat.lt_of_le_of_lt (Nat.div_le_self _ _) (p10 m h)
theorem dig_eq {v i : Nat} (hv : v < 1000000000) (hi : i < sb_dg v) : (48 : Int32) + (nI v / nI (10 ^ (sb_dg v - 1) / 10 ^ i) - nI v / nI (10 ^ (sb_dg v - 1) / 10 ^ i) / 10 * 10) = nI (sb_dec v i) := by
  have h9 := dg9 hv
  have hk : 10 ^ (sb_dg v - 1) / 10 ^ i = 10 ^ (sb_dg v - 1 - i) := kk_eq (by omega)
  have hp : 10 ^ (sb_dg v - 1 - i) < 2 ^ 31 := p10 _ (by omega)
  rw [hk, pk_div (by omega) (Nat.pow_pos (by decide)) hp, show (10 : Int32) = nI 10 from rfl, pk_rem (Nat.lt_of_le_of_lt (Nat.div_le_self _ _) (by omega)) (by decide) (by decide)]
  exact nI_add 48 _
/-- the line that tells the kiln, of its lag the first i -/
def tellL (s : Nat → Int32) : Nat → LSt → LSt
  | 0, q => wN (nn (s 10)) (wC 102 (wN (nn (s 9)) (wC 100 (wN (nn (s 1)) (wC 62 (wN (nn (s 0)) (0, q.2)))))))
  | i + 1, q => wN (nn (s (17 + i))) (wC 126 (tellL s i q))
def howC (h : Int32) : Int32 := if h = 0 then 119 else if h = 1 then 107 else if h = 2 then 102 else 120
def tellPL (s : Nat → Int32) (p : Nat) (q : LSt) : LSt := wC (howC (s (195 + p))) (wN (nn (s (187 + p))) (wC 47 (wN (nn (s (203 + p))) (wC 42 (wN (nn (s (179 + p))) (wC 94 (wN (nn (s (171 + p))) (wC 33 (wN p (0, q.2))))))))))
theorem dg4 {v : Nat} (hv : v < 10000) : sb_dg v ≤ 4 := by
  unfold sb_dg
  (repeat' split) <;> omega
theorem dg3 {v : Nat} (hv : v < 1000) : sb_dg v ≤ 3 := by
  unfold sb_dg
  (repeat' split) <;> omega
theorem ln_zero (Y : YT) : up Y (4, 0, 8) 11 0 = lnP Y (0, Y (4, 0, 7)) := by
  funext i
  by_cases h7 : i = (4, 0, 7)
  · subst h7
    rw [lnP_7, up_n (by decide)]
  · by_cases h8 : i = (4, 0, 8)
    · subst h8
      funext f
      rw [up_s]
      by_cases hf : f = 11
      · subst hf
        rw [lnP_11, upd_s]
        rfl
      · rw [lnP_f hf, upd_n hf]
    · rw [lnP_n h8 h7, up_n h8]
theorem tellL_le {s : Nat → Int32} {q : LSt} {lg : Nat} (h0 : nn (s 0) < 10000) (h1 : nn (s 1) < 10000) (h9 : nn (s 9) < 1000) (h10 : nn (s 10) < 1000000000) (hr : ∀ j, j < lg → nn (s (17 + j)) < 1000) : ∀ i, i ≤ lg → (tellL s i q).1 ≤ 23 + 4 * i
  | 0, _ => by
    have := dg4 h0
    have := dg4 h1
    have := dg3 h9
    have := dg9 h10
    show 0 + sb_dg (nn (s 0)) + 1 + sb_dg (nn (s 1)) + 1 + sb_dg (nn (s 9)) + 1 + sb_dg (nn (s 10)) ≤ 23 + 4 * 0
    omega
  | i + 1, hi => by
    have ih := tellL_le (q := q) h0 h1 h9 h10 hr i (by omega)
    have := dg3 (hr i (by omega))
    show (tellL s i q).1 + 1 + sb_dg (nn (s (17 + i))) ≤ 23 + 4 * (i + 1)
    omega
