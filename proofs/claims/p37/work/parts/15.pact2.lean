/-! LAG, AND THE REST OF THE MODEL'S ANSWERS, as functions of its row. -/
def lD (s : Nat → Int32) (l : Nat) : Nat → Int32 := upd (upd (lagS s 0 l) 8 (lagS s 0 l 8 - 1)) (17 + (l - 1)) 0
def lDn (s : Nat → Int32) (l : Nat) : Nat → (Nat → Int32)
  | 0 => s
  | n + 1 => lD (lDn s l n) (l - n)
def shU (s : Nat → Int32) (l i : Nat) : Nat → Int32 := fun f => if 17 + l - i < f ∧ f ≤ 17 + l then s (f - 1) else s f
theorem shU_0 (s : Nat → Int32) (l : Nat) : shU s l 0 = s := by
  funext f
  simp only [shU]
  rw [if_neg (by omega)]
theorem shU_s (s : Nat → Int32) (l i : Nat) (h : i < l) : upd (shU s l i) (17 + (l - i)) (shU s l i (17 + (l - i) - 1)) = shU s l (i + 1) := by
  funext f
  simp only [upd, shU]
  by_cases h1 : f = 17 + (l - i)
  · rw [if_pos h1, if_neg (by omega), if_pos (by omega), h1]
  · rw [if_neg h1]
    by_cases h2 : 17 + l - i < f ∧ f ≤ 17 + l
    · rw [if_pos h2, if_pos (by omega)]
    · rw [if_neg h2, if_neg (by omega)]
theorem shU_lo {s : Nat → Int32} {l i f : Nat} (hi : i ≤ l) (h : f ≤ 17 ∨ 17 + l < f) : shU s l i f = s f := by
  simp only [shU]
  rw [if_neg (by omega)]
def lU (s : Nat → Int32) (l : Nat) : Nat → Int32 := upd (upd (shU s l l) 17 (shU s l l 9)) 8 (upd (shU s l l) 17 (shU s l l 9) 8 + 1)
def lUn (s : Nat → Int32) (l : Nat) : Nat → (Nat → Int32)
  | 0 => s
  | n + 1 => lU (lUn s l n) (l + n)
theorem lD_8 {s : Nat → Int32} {l : Nat} (h1 : 0 < l) (h : s 8 = nI l) : lD s l 8 = nI (l - 1) := by
  rw [lD, upd_n (by omega), upd_s, lagS_lo (by omega), h]
  exact pk_sub (b := 1) h1
theorem lDn_8 {s : Nat → Int32} {l : Nat} (h : s 8 = nI l) : ∀ n, n ≤ l → lDn s l n 8 = nI (l - n)
  | 0, _ => h
  | n + 1, hn => by
    rw [lDn, lD_8 (by omega) (lDn_8 h n (by omega))]
    congr 1
theorem lU_8 {s : Nat → Int32} {l : Nat} (h : s 8 = nI l) : lU s l 8 = nI (l + 1) := by
  rw [lU, upd_s, upd_n (by omega), shU_lo (by omega) (by omega), h]
  exact nI_add l 1
theorem lUn_8 {s : Nat → Int32} {l : Nat} (h : s 8 = nI l) : ∀ n, lUn s l n 8 = nI (l + n)
  | 0 => h
  | n + 1 => by rw [lUn, lU_8 (lUn_8 h n)]; rfl
def lagSet (s : Nat → Int32) (l m : Nat) : Nat → Int32 := lUn (lDn s l (l - m)) (l - (l - m)) (m - (l - (l - m)))
def lagA (s : Nat → Int32) (m : Int32) : ActT := if 0 ≤ m ∧ m ≤ 5 then (if s 8 = m then (5, s, m) else (0, lagSet s (nn (s 8)) (nn m), s 8)) else badA s
def potF (s : Nat → Int32) (p w : Int32) : Int32 := if 0 ≤ p ∧ p ≤ s 15 - 1 then (if w = 0 then s (171 + nn p) else if w = 1 then s (179 + nn p) else if w = 2 then s (187 + nn p) else if w = 3 then s (195 + nn p) else if w = 4 then s (203 + nn p) else if w = 5 then s (211 + nn p) else if w = 6 then s (219 + nn p) else -10002) else -10001
def firedA (s : Nat → Int32) (p : Int32) : Int32 := if 0 ≤ p ∧ p ≤ s 15 - 1 then firedF s (nn p) else -10001
def loggedF (s : Nat → Int32) (p w : Int32) : Int32 := if 0 ≤ p ∧ p ≤ s 14 - 1 then (if 0 ≤ w ∧ w ≤ 3 then s (123 + 4 * nn p + nn w) else -10002) else -10001
def mwF (s : Nat → Int32) (f : Int32) : Int32 := if 0 ≤ f ∧ f ≤ 100 then s (22 + nn f) else -10002
def appR (Y : YT) (c : Int32) : Int32 := if 32 ≤ c ∧ c ≤ 126 then (if Y (4, 0, 8) 10 = 60 then -10003 else Y (4, 0, 8) 10 + 1) else -10002
def appY (Y : YT) (c : Int32) : YT := if 32 ≤ c ∧ c ≤ 126 then (if Y (4, 0, 8) 10 = 60 then Y else up (up Y (4, 0, 5) (nn (Y (4, 0, 8) 10)) c) (4, 0, 8) 10 (Y (4, 0, 8) 10 + 1)) else Y
def charF (Y : YT) (i : Int32) : Int32 := if 0 ≤ i ∧ i ≤ Y (4, 0, 8) 11 - 1 then Y (4, 0, 7) (nn i) else -10001
def reasF (Y : YT) (b : Int32) : Int32 := if Y (4, 0, 8) 12 = 0 then -10005 else if b = 0 then Y (4, 0, 8) 12 else Y (4, 0, 8) 13
def accF (Y : YT) (np : Nat) (w : Int32) : Int32 :=
  if 11 ≤ w ∧ w ≤ 14 then manyN (Y (4, 0, 0)) (w - 11) np else if w = 0 then Y (4, 0, 0) 12 else if w = 1 then Y (4, 0, 0) 0 else if w = 2 then Y (4, 0, 0) 1 else if w = 3 then mErr (Y (4, 0, 0)) else if w = 4 then Y (4, 0, 0) 5 else if w = 5 then Y (4, 0, 0) 7 else if w = 6 then Y (4, 0, 0) 9 else if w = 7 then Y (4, 0, 0) 10 else if w = 8 then Y (4, 0, 0) 11 else if w = 9 then Y (4, 0, 0) 13 else if w = 10 then Y (4, 0, 0) 15 else if w = 15 then wiN (Y (4, 0, 0)) np else if w = 16 then Y (4, 0, 8) 10 else if w = 17 then Y (4, 0, 8) 5 else -10002
def balW (s : Nat → Int32) : Int32 := if s 11 = s 10 + s 16 then (if s 16 = baN s 101 then (if bsN s 101 = s 12 then 1 else 0) else 0) else 0
def balN (s : Nat → Int32) : Nat → Int32
  | 0 => balW s
  | n + 1 => if balN s n = 0 then 0 else if lf s n < 0 then 0 else 1
def balF (s : Nat → Int32) (np : Nat) : Int32 := if balN s np = 0 then 0 else 1
def hisF (h : Nat → Int32) (k : Nat) : Nat → Int32 := fun f => h (227 * k + f)
def undoR (Y : YT) : Int32 := if Y (4, 0, 8) 5 = 0 then -10005 else Y (4, 0, 8) 5 - 1
def undoY (Y : YT) : YT := if Y (4, 0, 8) 5 = 0 then Y else setA (up Y (4, 0, 8) 5 (Y (4, 0, 8) 5 - 1)) (4, 0, 0) (hisF (Y (4, 0, 4)) (nn (Y (4, 0, 8) 5) - 1))
def saveY (Y : YT) : YT := up (setA Y (4, 0, 2) (Y (4, 0, 0))) (4, 0, 8) 6 1
def restR (Y : YT) : Int32 := if Y (4, 0, 8) 6 = 0 then -10005 else Y (4, 0, 2) 12
def restY (Y : YT) : YT := if Y (4, 0, 8) 6 = 0 then Y else up (setA Y (4, 0, 0) (Y (4, 0, 2))) (4, 0, 8) 5 0
theorem cnt_nI {p c : Int32} {n : Nat} (hc : c = nI n) (hn : n < 2 ^ 31) (h : 0 ≤ p ∧ p ≤ c - 1) : ∃ q, q < n ∧ p = nI q := by
  subst hc
  rcases Nat.eq_zero_or_pos n with h0 | h0
  · subst h0
    have h2 : (0 : Int32) ≤ nI 0 - 1 := Int32.le_trans h.1 h.2
    exact absurd h2 (by decide)
  · have e : nI n - 1 = nI (n - 1) := pk_sub (b := 1) h0
    rw [e] at h
    obtain ⟨j, h1, h2⟩ := rng_nI (m := n - 1) (nI_toInt (by omega)) (Int32.le_refl 0) h
    exact ⟨j, by omega, h2⟩
/-- a switch's cases -/
theorem tne {x y : Int32} {n : Int} (h : ¬ x = y) (hy : y.toInt = n) : x.toInt ≠ n := fun e => h (Int32.toInt_inj.mp (e.trans hy.symm))
section
variable {X : XT} {G : GT} {A : Nat → Prop} {a : Id3 → Nat} {own : String} {cc : ByteArray} {nL : Nat} {ret : Option FieldType} {rm : Room} {Y : YT} {k n : Nat} {Q : State → Prop} {pc : Nat} {L : List (Option Value)} {st : List Value}
theorem y_tabC (C : CX X G A own cc nL ret rm) {dflt lo hi : Int} {offs : Array Int} {len : Nat} {x v : Int32} {off : Int} {tgt : Nat} (hx : x = v) (hdg : decode cc pc = .ok (.tableswitch dflt lo hi offs, len)) (h1 : ¬ v.toInt < lo) (h2 : ¬ hi < v.toInt) (ho : offs[(v.toInt - lo).toNat]? = some off) (ht : (pc : Int) + off = (tgt : Int)) (kk : WY X G A a Y k n Q tgt L st) : WY X G A a Y k n Q pc L (.int x :: st) := by subst hx; exact y_tabIn C hdg h1 h2 ho ht kk
/-- none of the places vs: the default -/
theorem y_tabD (C : CX X G A own cc nL ret rm) {dflt lo hi : Int} {offs : Array Int} {len : Nat} {x : Int32} {tgt : Nat} (vs : List Int) (hdg : decode cc pc = .ok (.tableswitch dflt lo hi offs, len)) (hv : ∀ v ∈ vs, x.toInt ≠ v) (hall : (List.range (hi - lo + 1).toNat).all (fun i => vs.contains (lo + (i : Int)) || offs[i]? == some dflt) = true) (ht : (pc : Int) + dflt = (tgt : Int)) (kk : WY X G A a Y k n Q tgt L st) : WY X G A a Y k n Q pc L (.int x :: st) := by
  by_cases h : x.toInt < lo ∨ hi < x.toInt
  · exact y_tabOut C hdg h ht kk
  · have h' : lo ≤ x.toInt ∧ x.toInt ≤ hi := by omega
    have := List.all_eq_true.mp hall (x.toInt - lo).toNat (List.mem_range.mpr (by omega))
    rw [Bool.or_eq_true] at this
    have e : lo + ((x.toInt - lo).toNat : Int) = x.toInt := by omega
    rcases this with q | q
    · rw [e] at q
      exact absurd rfl (hv _ (List.contains_iff_mem.mp q))
    · exact y_tabIn C hdg (by omega) (by omega) (eq_of_beq q) ht kk
end
