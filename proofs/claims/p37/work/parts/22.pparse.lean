/-! THE MODEL'S READER as functions of its text t (length e): spot, wrong, told. -/
abbrev PSt : Type := Nat × Int32 × (Nat → Int32)
def hereT (t : Nat → Int32) (e i : Nat) : Int32 := if i < e then t i else -10001
def wdS (t : Nat → Int32) (e k sp0 : Nat) (w0 : Int32) : Nat → Nat × Int32
  | 0 => (sp0, w0)
  | i + 1 => if (wdS t e k sp0 w0 i).2 = 0 then (if hereT t e (wdS t e k sp0 w0 i).1 = sch k i then ((wdS t e k sp0 w0 i).1 + 1, 0) else ((wdS t e k sp0 w0 i).1, 1)) else wdS t e k sp0 w0 i
theorem wdS_stop {t : Nat → Int32} {e k sp0 : Nat} {w0 : Int32} {i : Nat} (h : ¬ (wdS t e k sp0 w0 i).2 = 0) : ∀ n, wdS t e k sp0 w0 (i + n) = wdS t e k sp0 w0 i
  | 0 => rfl
  | n + 1 => by
    have ih := wdS_stop h n
    rw [show i + (n + 1) = (i + n) + 1 by omega, wdS, ih, if_neg h]
theorem sch_pos : ∀ k, k < 19 → ∀ i, i < slen.getD k 0 → sch k i ≠ -10001 := by decide +kernel
theorem wdS_le {t : Nat → Int32} {e k sp0 : Nat} {w0 : Int32} (hk : k < 19) (hs : sp0 ≤ e) : ∀ i, i ≤ slen.getD k 0 → (wdS t e k sp0 w0 i).1 ≤ e
  | 0, _ => hs
  | i + 1, hi => by
    have ih := wdS_le (t := t) (w0 := w0) hk hs i (by omega)
    rw [wdS]
    split
    · split
      · rename_i h1 h2
        unfold hereT at h2
        split at h2
        · show _ + 1 ≤ e
          omega
        · exact absurd h2.symm (sch_pos k hk i (by omega))
      · exact ih
    · exact ih
theorem wdS_b {t : Nat → Int32} {e k sp0 : Nat} {w0 : Int32} (h0 : isb w0) : ∀ i, isb (wdS t e k sp0 w0 i).2
  | 0 => h0
  | i + 1 => by
    have ih := wdS_b (t := t) (e := e) (k := k) (sp0 := sp0) h0 i
    rw [wdS]
    split
    · split
      · exact Or.inl rfl
      · exact Or.inr rfl
    · exact ih
def wordP (t : Nat → Int32) (e k : Nat) (p : PSt) : PSt := ((wdS t e k p.1 p.2.1 (slen.getD k 0)).1, (wdS t e k p.1 p.2.1 (slen.getD k 0)).2, p.2.2)
def ndF (t : Nat → Int32) (e : Nat) : Nat → Nat → Nat
  | _, 0 => 0
  | sp, m + 1 => if 48 ≤ hereT t e sp ∧ hereT t e sp ≤ 57 then ndF t e (sp + 1) m + 1 else 0
def nvF (t : Nat → Int32) (e sp : Nat) : Nat → Int32
  | 0 => 0
  | i + 1 => 10 * nvF t e sp i + hereT t e (sp + i) - 48
theorem ndF_le (t : Nat → Int32) (e : Nat) : ∀ m sp, ndF t e sp m ≤ m
  | 0, _ => Nat.le_refl 0
  | m + 1, sp => by
    rw [ndF]
    split
    · have := ndF_le t e m (sp + 1)
      omega
    · omega
theorem ndF_end (t : Nat → Int32) (e : Nat) : ∀ m sp, sp ≤ e → sp + ndF t e sp m ≤ e
  | 0, _, h => h
  | m + 1, sp, h => by
    rw [ndF]
    split
    · rename_i hd
      have hlt : sp < e := by
        rcases Nat.lt_or_ge sp e with q | q
        · exact q
        · have : hereT t e sp = -10001 := if_neg (by omega)
          rw [this] at hd
          exact absurd hd.1 (by decide)
      have := ndF_end t e m (sp + 1) (by omega)
      omega
    · omega
theorem ndF_on {t : Nat → Int32} {e sp d i most : Nat} (hi : i < most) (hx : d = i + ndF t e (sp + i) (most - i)) (h : 48 ≤ hereT t e (sp + i) ∧ hereT t e (sp + i) ≤ 57) : d = i + 1 + ndF t e (sp + (i + 1)) (most - (i + 1)) := by
  rw [hx, show most - i = (most - (i + 1)) + 1 by omega, ndF, if_pos h, show sp + i + 1 = sp + (i + 1) by omega]
  omega
theorem ndF_off {t : Nat → Int32} {e sp d i most : Nat} (hx : d = i + ndF t e (sp + i) (most - i)) (h : ¬ (48 ≤ hereT t e (sp + i) ∧ hereT t e (sp + i) ≤ 57)) : d = i := by
  rw [hx]
  cases hm : most - i with
  | zero => rfl
  | succ m => rw [ndF, if_neg h]; rfl
def numD (t : Nat → Int32) (e most : Nat) (q : PSt) : Nat := if q.2.1 = 0 then ndF t e q.1 most else 0
def numQ (t : Nat → Int32) (e o j most : Nat) (q : PSt) : PSt := (q.1 + numD t e most q, if q.2.1 = 0 then (if numD t e most q = 0 then 1 else 0) else 1, upd q.2.2 (4 * o + j) (nvF t e q.1 (numD t e most q)))
def numP (t : Nat → Int32) (e o j most : Nat) (p : PSt) : PSt := numQ t e o j most (wordP t e 1 p)
def readsP (t : Nat → Int32) (e o k m : Nat) (p : PSt) : PSt := numP t e o 1 m (wordP t e k p)
def sortF (t : Nat → Int32) (e sp : Nat) : Int32 := if hereT t e sp = 103 then (if hereT t e (sp + 1) = 97 then 110 else 103) else if hereT t e sp = 112 then (if hereT t e (sp + 1) = 117 then 117 else 112) else hereT t e sp
def toldP (o : Nat) (x : Int32) (p : PSt) : PSt := (p.1, p.2.1, upd p.2.2 (4 * o) x)
def caseP (t : Nat → Int32) (e o : Nat) (x : Int32) (p : PSt) : PSt :=
  if x = 97 then readsP t e o 0 4 p else if x = 99 then readsP t e o 3 4 p else if x = 102 then readsP t e o 8 4 p else if x = 103 then readsP t e o 9 3 p else if x = 108 then readsP t e o 4 1 p
  else if x = 110 then numP t e o 3 2 (numP t e o 2 2 (readsP t e o 2 2 p)) else if x = 112 then numP t e o 3 2 (numP t e o 2 4 (readsP t e o 5 2 p)) else if x = 116 then readsP t e o 7 1 p else if x = 117 then readsP t e o 6 1 p else (p.1, 1, p.2.2)
def oneP (t : Nat → Int32) (e o : Nat) (p : PSt) : PSt := caseP t e o (sortF t e p.1) (toldP o (sortF t e p.1) p)
/-- the reader's state put into the world -/
def pst (y : Nat → Int32) (sp : Nat) (w : Int32) : Nat → Int32 := upd (upd y 16 (nI sp)) 19 w
def setP (Y : YT) (p : PSt) : YT := setA (setA Y (4, 0, 8) (pst (Y (4, 0, 8)) p.1 p.2.1)) (4, 0, 6) p.2.2
theorem pst_16 {y : Nat → Int32} {sp : Nat} {w : Int32} : pst y sp w 16 = nI sp := by rw [pst, upd_n (by decide), upd_s]
theorem pst_19 {y : Nat → Int32} {sp : Nat} {w : Int32} : pst y sp w 19 = w := by rw [pst, upd_s]
theorem pst_n {y : Nat → Int32} {sp f : Nat} {w : Int32} (h : f ≠ 16) (h2 : f ≠ 19) : pst y sp w f = y f := by rw [pst, upd_n h2, upd_n h]
theorem upd_self' (y : Nat → Int32) (f : Nat) {x : Int32} (h : y f = x) : upd y f x = y := by
  funext j
  by_cases e : j = f
  · subst e
    rw [upd_s, h]
  · rw [upd_n e]
theorem pst_self {y : Nat → Int32} {sp : Nat} {w : Int32} (h1 : y 16 = nI sp) (h2 : y 19 = w) : pst y sp w = y := by
  unfold pst
  rw [upd_self' y 16 h1, upd_self' y 19 h2]
theorem upd_upd' (y : Nat → Int32) (f : Nat) (x z : Int32) : upd (upd y f x) f z = upd y f z := by
  funext j
  by_cases e : j = f
  · subst e
    rw [upd_s, upd_s]
  · rw [upd_n e, upd_n e, upd_n e]
theorem upd_comm' (y : Nat → Int32) {f g : Nat} (h : f ≠ g) (x z : Int32) : upd (upd y f x) g z = upd (upd y g z) f x := by
  funext j
  by_cases e : j = g
  · subst e
    rw [upd_s, upd_n (Ne.symm h), upd_s]
  · rw [upd_n e]
    by_cases e2 : j = f
    · subst e2
      rw [upd_s, upd_s]
    · rw [upd_n e2, upd_n e2, upd_n e]
theorem pst_pst (y : Nat → Int32) (a b : Nat) (w x : Int32) : pst (pst y a w) b x = pst y b x := by
  unfold pst
  rw [upd_comm' _ (show (19 : Nat) ≠ 16 by decide), upd_upd', upd_upd']
theorem setP_8 {Y : YT} {p : PSt} : setP Y p (4, 0, 8) = pst (Y (4, 0, 8)) p.1 p.2.1 := by rw [setP, setA_n (by decide), setA_s]
theorem setP_6 {Y : YT} {p : PSt} : setP Y p (4, 0, 6) = p.2.2 := by rw [setP, setA_s]
theorem setP_n {Y : YT} {p : PSt} {i : Id3} (h : i ≠ (4, 0, 8)) (h2 : i ≠ (4, 0, 6)) : setP Y p i = Y i := by rw [setP, setA_n h2, setA_n h]
theorem setP_setP (Y : YT) (p q : PSt) : setP (setP Y p) q = setP Y q := by
  funext i
  by_cases h6 : i = (4, 0, 6)
  · subst h6
    rw [setP_6, setP_6]
  · by_cases h8 : i = (4, 0, 8)
    · subst h8
      rw [setP_8, setP_8, setP_8, pst_pst]
    · rw [setP_n h8 h6, setP_n h8 h6, setP_n h8 h6]
theorem setP_self {Y : YT} {p : PSt} (h1 : Y (4, 0, 8) 16 = nI p.1) (h2 : Y (4, 0, 8) 19 = p.2.1) (h3 : Y (4, 0, 6) = p.2.2) : setP Y p = Y := by
  funext i
  by_cases h6 : i = (4, 0, 6)
  · subst h6
    rw [setP_6, h3]
  · by_cases h8 : i = (4, 0, 8)
    · subst h8
      rw [setP_8, pst_self h1 h2]
    · rw [setP_n h8 h6]
/-- where a reader's state stands in the world -/
def atP (Y : YT) (p : PSt) : Prop := Y (4, 0, 8) 16 = nI p.1 ∧ Y (4, 0, 8) 19 = p.2.1 ∧ Y (4, 0, 6) = p.2.2
theorem atP_set (Y : YT) (p : PSt) : atP (setP Y p) p := ⟨by rw [setP_8, pst_16], by rw [setP_8, pst_19], setP_6⟩
theorem numQ_le {t : Nat → Int32} {e o j most : Nat} {q : PSt} (h : q.1 ≤ e) : (numQ t e o j most q).1 ≤ e := by
  unfold numQ numD
  split
  · exact ndF_end t e most q.1 h
  · exact h
theorem wordP_le {t : Nat → Int32} {e k : Nat} {p : PSt} (hk : k < 19) (h : p.1 ≤ e) : (wordP t e k p).1 ≤ e := wdS_le hk h _ (Nat.le_refl _)
theorem numP_le {t : Nat → Int32} {e o j most : Nat} {p : PSt} (h : p.1 ≤ e) : (numP t e o j most p).1 ≤ e := numQ_le (wordP_le (by decide) h)
theorem readsP_le {t : Nat → Int32} {e o k m : Nat} {p : PSt} (hk : k < 19) (h : p.1 ≤ e) : (readsP t e o k m p).1 ≤ e := numP_le (wordP_le hk h)
theorem iteP {c : Prop} {dc : Decidable c} {u v : PSt} {e : Nat} (hu : u.1 ≤ e) (hv : v.1 ≤ e) : (if c then u else v).1 ≤ e := by
  by_cases h : c
  · rw [if_pos h]
    exact hu
  · rw [if_neg h]
    exact hv
theorem caseP_le {t : Nat → Int32} {e o : Nat} {x : Int32} {p : PSt} (h : p.1 ≤ e) : (caseP t e o x p).1 ≤ e := by
  have r : ∀ k m, k < 19 → (readsP t e o k m p).1 ≤ e := fun k m hk => readsP_le hk h
  have n3 : ∀ (a b j i : Nat) (q : PSt), q.1 ≤ e → (numP t e o a b (numP t e o j i q)).1 ≤ e := fun a b j i q hq => numP_le (numP_le hq)
  unfold caseP
  exact iteP (r 0 4 (by decide)) (iteP (r 3 4 (by decide)) (iteP (r 8 4 (by decide)) (iteP (r 9 3 (by decide)) (iteP (r 4 1 (by decide)) (iteP (n3 3 2 2 2 _ (r 2 2 (by decide))) (iteP (n3 3 2 2 4 _ (r 5 2 (by decide))) (iteP (r 7 1 (by decide)) (iteP (r 6 1 (by decide)) h))))))))
theorem oneP_le {t : Nat → Int32} {e o : Nat} {p : PSt} (h : p.1 ≤ e) : (oneP t e o p).1 ≤ e := caseP_le h
theorem up_setP8 {Y : YT} {s : Nat} {w0 w : Int32} {τ : Nat → Int32} : up (setP Y (s, w0, τ)) (4, 0, 8) 19 w = setP Y (s, w, τ) := by
  funext i
  by_cases h8 : i = (4, 0, 8)
  · subst h8
    rw [up_s, setP_8, setP_8]
    simp only [pst]
    rw [upd_upd']
  · rw [up_n h8]
    by_cases h6 : i = (4, 0, 6)
    · subst h6
      rw [setP_6, setP_6]
    · rw [setP_n h8 h6, setP_n h8 h6]
theorem up_setPs {Y : YT} {s s' : Nat} {w : Int32} {τ : Nat → Int32} {x : Int32} (h : x = nI s') : up (setP Y (s, w, τ)) (4, 0, 8) 16 x = setP Y (s', w, τ) := by
  subst h
  funext i
  by_cases h8 : i = (4, 0, 8)
  · subst h8
    rw [up_s, setP_8, setP_8]
    simp only [pst]
    rw [upd_comm' _ (show (19 : Nat) ≠ 16 by decide), upd_upd']
  · rw [up_n h8]
    by_cases h6 : i = (4, 0, 6)
    · subst h6
      rw [setP_6, setP_6]
    · rw [setP_n h8 h6, setP_n h8 h6]
theorem up_setP6 {Y : YT} {s : Nat} {w : Int32} {τ : Nat → Int32} {f : Nat} {x : Int32} : up (setP Y (s, w, τ)) (4, 0, 6) f x = setP Y (s, w, upd τ f x) := by
  funext i
  by_cases h6 : i = (4, 0, 6)
  · subst h6
    rw [up_s, setP_6, setP_6]
  · rw [up_n h6]
    by_cases h8 : i = (4, 0, 8)
    · subst h8
      rw [setP_8, setP_8]
    · rw [setP_n h8 h6, setP_n h8 h6]
theorem nI0 (i : Nat) (h : i < 2 ^ 31) : nI i = 0 ↔ i = 0 := nI_eq (b := 0) h (by decide)
theorem numP_b (t : Nat → Int32) (e o j most : Nat) (p : PSt) : isb (numP t e o j most p).2.1 := by
  unfold numP numQ
  show isb (if _ then _ else _)
  split
  · split
    · exact Or.inr rfl
    · exact Or.inl rfl
  · exact Or.inr rfl
theorem e74_of {q : Int32} {i : Nat} (hi : i < 2 ^ 31) : (if q = 0 then (if nI i = 0 then (1 : Int32) else 0) else 1) = if q = 0 then (if i = 0 then 1 else 0) else 1 := by
  by_cases h : q = 0
  · rw [if_pos h, if_pos h]
    by_cases h2 : i = 0
    · rw [if_pos ((nI0 i hi).mpr h2), if_pos h2]
    · rw [if_neg (fun z => h2 ((nI0 i hi).mp z)), if_neg h2]
  · rw [if_neg h, if_neg h]
theorem w74_b {p q : Prop} {dp : Decidable p} {dq : Decidable q} : isb (if p then (if q then (1 : Int32) else 0) else 1) := by
  by_cases h : p
  · rw [if_pos h]
    by_cases h2 : q
    · rw [if_pos h2]; exact Or.inr rfl
    · rw [if_neg h2]; exact Or.inl rfl
  · rw [if_neg h]; exact Or.inr rfl
theorem told_up {Y : YT} {p : PSt} (h : atP Y p) (f : Nat) (x : Int32) : up Y (4, 0, 6) f x = setP Y (p.1, p.2.1, upd p.2.2 f x) := by
  have q := up_setP6 (Y := Y) (s := p.1) (w := p.2.1) (τ := p.2.2) (f := f) (x := x)
  rw [setP_self (p := (p.1, p.2.1, p.2.2)) h.1 h.2.1 h.2.2] at q
  exact q
