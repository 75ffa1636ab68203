/-! RUN: what the text's orders do. -/
def doA (s : Nat → Int32) (τ : Nat → Int32) (k : Nat) : ActT :=
  if τ (4 * k) = 97 then aimA s (τ (4 * k + 1)) else if τ (4 * k) = 99 then capA s (τ (4 * k + 1)) else if τ (4 * k) = 102 then fuelA s (τ (4 * k + 1)) else if τ (4 * k) = 108 then lagA s (τ (4 * k + 1))
  else if τ (4 * k) = 110 then gainA s (τ (4 * k + 1)) (τ (4 * k + 2)) (τ (4 * k + 3)) else if τ (4 * k) = 112 then potA s (τ (4 * k + 1)) (τ (4 * k + 2)) (τ (4 * k + 3)) else if τ (4 * k) = 116 then takeA s (τ (4 * k + 1)) else if τ (4 * k) = 117 then putA s (τ (4 * k + 1)) else goA s (τ (4 * k + 1))
/-- the orders one behind another: how many there are, and the reader's state behind them -/
def parL (t : Nat → Int32) (e : Nat) : Nat → Nat → PSt → Nat × PSt
  | 0, o, p => (o, p)
  | f + 1, o, p => if p.2.1 = 0 ∧ hereT t e p.1 = 59 then parL t e f (o + 1) (oneP t e o (p.1 + 1, p.2.1, p.2.2)) else (o, p)
theorem parL_on {t : Nat → Int32} {e i o : Nat} {p : PSt} (hi : i < 60) (h1 : p.2.1 = 0) (h2 : hereT t e p.1 = 59) : parL t e (60 - i) o p = parL t e (60 - (i + 1)) (o + 1) (oneP t e o (p.1 + 1, p.2.1, p.2.2)) := by
  rw [show 60 - i = (60 - (i + 1)) + 1 by omega, parL, if_pos ⟨h1, h2⟩]
theorem parL_off {t : Nat → Int32} {e f o : Nat} {p : PSt} (h : ¬ (p.2.1 = 0 ∧ hereT t e p.1 = 59)) : parL t e f o p = (o, p) := by
  cases f with
  | zero => rfl
  | succ f => rw [parL, if_neg h]
theorem wdS_ge (t : Nat → Int32) (e k sp0 : Nat) (w0 : Int32) : ∀ i, sp0 ≤ (wdS t e k sp0 w0 i).1
  | 0 => Nat.le_refl _
  | i + 1 => by
    have ih := wdS_ge t e k sp0 w0 i
    rw [wdS]
    split
    · split
      · exact Nat.le_succ_of_le ih
      · exact ih
    · exact ih
theorem numP_ge (t : Nat → Int32) (e o j m : Nat) (p : PSt) : p.1 ≤ (numP t e o j m p).1 := Nat.le_trans (wdS_ge t e 1 p.1 p.2.1 _) (Nat.le_add_right _ _)
theorem numP_gt {t : Nat → Int32} {e o j m : Nat} {p : PSt} (h : (numP t e o j m p).2.1 = 0) : p.1 + 1 ≤ (numP t e o j m p).1 := by
  have h1 := wdS_ge t e 1 p.1 p.2.1 (slen.getD 1 0)
  unfold numP numQ at h ⊢
  simp only at h ⊢
  have hd : numD t e m (wordP t e 1 p) ≠ 0 := by
    intro h0
    rw [h0] at h
    by_cases hw : (wordP t e 1 p).2.1 = 0
    · rw [if_pos hw, if_pos rfl] at h
      exact absurd h (by decide)
    · rw [if_neg hw] at h
      exact absurd h (by decide)
  have : p.1 ≤ (wordP t e 1 p).1 := h1
  omega
theorem readsP_gt {t : Nat → Int32} {e o k m : Nat} {p : PSt} (h : (readsP t e o k m p).2.1 = 0) : p.1 + 1 ≤ (readsP t e o k m p).1 := Nat.le_trans (Nat.succ_le_succ (wdS_ge t e k p.1 p.2.1 _)) (numP_gt h)
theorem readsP_ge (t : Nat → Int32) (e o k m : Nat) (p : PSt) : p.1 ≤ (readsP t e o k m p).1 := Nat.le_trans (wdS_ge t e k p.1 p.2.1 _) (numP_ge t e o 1 m (wordP t e k p))
theorem iteG {c : Prop} {dc : Decidable c} {u v : PSt} {n : Nat} (hu : u.2.1 = 0 → n ≤ u.1) (hv : v.2.1 = 0 → n ≤ v.1) : (if c then u else v).2.1 = 0 → n ≤ (if c then u else v).1 := by
  by_cases h : c
  · rw [if_pos h]
    exact hu
  · rw [if_neg h]
    exact hv
theorem caseP_gt {t : Nat → Int32} {e o : Nat} {x : Int32} {p : PSt} : (caseP t e o x p).2.1 = 0 → p.1 + 1 ≤ (caseP t e o x p).1 := by
  have n3 : ∀ (k a b m j : Nat), (numP t e o a b (numP t e o j m (readsP t e o k 2 p))).2.1 = 0 → p.1 + 1 ≤ (numP t e o a b (numP t e o j m (readsP t e o k 2 p))).1 := fun k a b m j h => Nat.le_trans (Nat.succ_le_succ (Nat.le_trans (readsP_ge t e o k 2 p) (numP_ge t e o j m _))) (numP_gt h)
  unfold caseP
  exact iteG readsP_gt (iteG readsP_gt (iteG readsP_gt (iteG readsP_gt (iteG readsP_gt (iteG (n3 2 3 2 2 2) (iteG (n3 5 3 2 4 2) (iteG readsP_gt (iteG readsP_gt (fun h => absurd h (show ¬ (1 : Int32) = 0 by decide))))))))))
theorem oneP_gt {t : Nat → Int32} {e o : Nat} {p : PSt} (h : (oneP t e o p).2.1 = 0) : p.1 + 1 ≤ (oneP t e o p).1 := by
  unfold oneP at h ⊢
  exact caseP_gt (p := toldP o (sortF t e p.1) p) h
theorem iteB {c : Prop} {dc : Decidable c} {u v : PSt} (hu : isb u.2.1) (hv : isb v.2.1) : isb (if c then u else v).2.1 := by
  by_cases h : c
  · rw [if_pos h]
    exact hu
  · rw [if_neg h]
    exact hv
theorem oneP_b (t : Nat → Int32) (e o : Nat) (p : PSt) : isb (oneP t e o p).2.1 := by
  have r : ∀ k m q, isb (readsP t e o k m q).2.1 := fun k m q => numP_b _ _ _ _ _ _
  unfold oneP caseP
  exact iteB (r _ _ _) (iteB (r _ _ _) (iteB (r _ _ _) (iteB (r _ _ _) (iteB (r _ _ _) (iteB (numP_b _ _ _ _ _ _) (iteB (numP_b _ _ _ _ _ _) (iteB (r _ _ _) (iteB (r _ _ _) (Or.inr rfl)))))))))
/-- the row behind k orders that were done -/
def exS (s τ : Nat → Int32) : Nat → (Nat → Int32)
  | 0 => s
  | k + 1 => (doA (exS s τ k) τ k).2.1
/-- the first order that isn't done, of those from k on -/
def exF (s τ : Nat → Int32) (o : Nat) : Nat → Nat → Nat
  | 0, k => k
  | f + 1, k => if (doA (exS s τ k) τ k).1 = 0 then exF s τ o f (k + 1) else k
theorem exF_on {s τ : Nat → Int32} {o k : Nat} (hk : k < o) (h : (doA (exS s τ k) τ k).1 = 0) : exF s τ o (o - k) k = exF s τ o (o - (k + 1)) (k + 1) := by
  rw [show o - k = (o - (k + 1)) + 1 by omega, exF, if_pos h]
theorem exF_off {s τ : Nat → Int32} {o k : Nat} (hk : k < o) (h : ¬ (doA (exS s τ k) τ k).1 = 0) : exF s τ o (o - k) k = k := by
  rw [show o - k = (o - (k + 1)) + 1 by omega, exF, if_neg h]
/-- the worlds agree on all that a later call shows -/
def Ob (Y Y' : YT) : Prop := (∀ i : Id3, i ≠ (4, 0, 1) → i ≠ (4, 0, 3) → i ≠ (4, 0, 6) → i ≠ (4, 0, 8) → Y i = Y' i) ∧ ∀ f, f < 14 → Y (4, 0, 8) f = Y' (4, 0, 8) f
theorem Ob.rf (Y : YT) : Ob Y Y := ⟨fun _ _ _ _ _ => rfl, fun _ _ => rfl⟩
theorem Ob.tr {X Y Z : YT} (h : Ob X Y) (k : Ob Y Z) : Ob X Z := ⟨fun i a b c d => (h.1 i a b c d).trans (k.1 i a b c d), fun f hf => (h.2 f hf).trans (k.2 f hf)⟩
theorem Ob.sy {X Y : YT} (h : Ob X Y) : Ob Y X := ⟨fun i a b c d => (h.1 i a b c d).symm, fun f hf => (h.2 f hf).symm⟩
theorem Ob.A {Y : YT} {i : Id3} {y : Nat → Int32} (hi : i = (4, 0, 1) ∨ i = (4, 0, 3) ∨ i = (4, 0, 6)) : Ob (setA Y i y) Y := by
  refine ⟨fun j a b c d => setA_n (fun e => ?_), fun f _ => congrFun (setA_n (fun e => ?_)) f⟩
  · rcases hi with h | h | h <;> exact absurd (e.trans h) (by assumption)
  · rcases hi with h | h | h <;> exact absurd (e.trans h) (by decide)
theorem Ob.U {Y : YT} {f : Nat} {x : Int32} (hf : 14 ≤ f) : Ob (up Y (4, 0, 8) f x) Y := ⟨fun j a b c d => up_n d, fun g hg => by rw [up_s, upd_n (by omega)]⟩
theorem Ob.P {Y : YT} {p : PSt} : Ob (setP Y p) Y := ⟨fun j a b c d => setP_n d c, fun g hg => by rw [setP_8, pst_n (by omega) (by omega)]⟩
/-- what run makes of the world, what it answers -/
def runP (Y : YT) (e : Nat) : Nat × PSt := parL (Y (4, 0, 5)) e 60 1 (oneP (Y (4, 0, 5)) e 0 (0, 0, Y (4, 0, 6)))
def runBad (Y : YT) (e : Nat) : Prop := (runP Y e).2.2.1 = 0 → (runP Y e).2.1 < e
def runK (Y : YT) (e : Nat) : Nat := exF (Y (4, 0, 0)) (runP Y e).2.2.2 (runP Y e).1 (runP Y e).1 0
def clrY (Y : YT) : YT := up Y (4, 0, 8) 10 0
def runR (Y : YT) (e : Nat) : Int32 := if (runP Y e).2.2.1 = 0 ∧ e ≤ (runP Y e).2.1 then (if runK Y e = (runP Y e).1 then nI (runP Y e).1 else -10004) else -20000 - nI (runP Y e).2.1
def runO (Y : YT) (e : Nat) : YT := if (runP Y e).2.2.1 = 0 ∧ e ≤ (runP Y e).2.1 then (if runK Y e = (runP Y e).1 then hpush (setA (rem1 (clrY Y)) (4, 0, 0) (exS (Y (4, 0, 0)) (runP Y e).2.2.2 (runP Y e).1)) else up (up (clrY Y) (4, 0, 8) 12 6) (4, 0, 8) 13 (nI (runK Y e))) else clrY Y
