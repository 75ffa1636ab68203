/-! THE KEEPER AS THE LAW SEES IT: its row, the rows kept, the snapshot; its questions by contract. -/
abbrev GH : Type := (Nat → Int32) × (Nat → Int32) × (Nat → Int32) × Int32
def SS (Y : YT) (n c st tl ll : Nat) (g : GH) : Prop := Sim Y n c st tl ll ∧ Y (4, 0, 0) = g.1 ∧ Y (4, 0, 4) = g.2.1 ∧ Y (4, 0, 2) = g.2.2.1 ∧ Y (4, 0, 8) 6 = g.2.2.2
theorem SS.f {Y Y' : YT} {n c st tl ll : Nat} {g : GH} (h : SS Y n c st tl ll g) (hf : FrK Y Y' 1) : SS Y' n c st tl ll g := by
  obtain ⟨h1, h2, h3, h4, h5⟩ := h
  exact ⟨h1.f1 hf, by rw [hf.m 0]; exact h2, by rw [hf.m 4]; exact h3, by rw [hf.m 2]; exact h4, by rw [hf.m 8]; exact h5⟩
theorem SS.R {Y : YT} {n c st tl ll : Nat} {g : GH} (h : SS Y n c st tl ll g) : RKi Y 0 g.1 := by rw [← h.2.1]; exact h.1.R
theorem SS.I {Y : YT} {n c st tl ll : Nat} {g : GH} (h : SS Y n c st tl ll g) : Inv g.1 n 0 := by rw [← h.2.1]; exact h.1.I
theorem SS.up {Y : YT} {n m c st tl ll : Nat} {g : GH} (h : SS Y n c st tl ll g) (hm : n ≤ m) : SS Y m c st tl ll g := ⟨h.1.up hm, h.2⟩
theorem CtY.mono {l : Launch} {G : GT} {a : Id3 → Nat} {y : MethodName} {cc : ByteArray} {nL : Nat} {ret : Option FieldType} {rm : Room} {ag : List Value} {Y : YT} {Post Post' : Option Value → YT → Prop} (h : CtY l G a y cc nL ret rm ag Y Post) (hp : ∀ v Y', Post v Y' → Post' v Y') : CtY l G a y cc nL ret rm ag Y Post' :=
  fun M hM => (h M hM).mono (fun v M' hq => by obtain ⟨Y', h1, h2⟩ := hq; exact ⟨Y', h1, hp v Y' h2⟩)
/-- an account -/
def accS (s : Nat → Int32) (tl c : Nat) (w : Int32) : Int32 := if w = 16 then nI tl else if w = 17 then nI c else accF (fun _ => s) (nn (s 15)) w
theorem acc_S {Y : YT} {n c st tl ll : Nat} (h : Sim Y n c st tl ll) (w : Int32) : accF Y (nn (Y (4, 0, 0) 15)) w = accS (Y (4, 0, 0)) tl c w := by
  unfold accS
  by_cases h16 : w = 16
  · subst h16
    rw [if_pos rfl]
    exact (acc_eq h 16).symm.trans (if_pos rfl)
  · rw [if_neg h16]
    by_cases h17 : w = 17
    · subst h17
      rw [if_pos rfl]
      exact (acc_eq h 17).symm.trans ((if_neg h16).trans ((if_pos rfl).trans h.k0))
    · rw [if_neg h17]
      unfold accF
      simp only [if_neg h16, if_neg h17]
theorem acc_0 {s : Nat → Int32} {tl c : Nat} : accS s tl c 0 = s 12 := by
  unfold accS
  rw [if_neg (show ¬ (0 : Int32) = 16 by decide), if_neg (show ¬ (0 : Int32) = 17 by decide)]
  unfold accF
  rw [if_neg (show ¬ ((11 : Int32) ≤ 0 ∧ (0 : Int32) ≤ 14) by decide), if_pos rfl]
theorem acc_1 {s : Nat → Int32} {tl c : Nat} : accS s tl c 1 = s 0 := by
  unfold accS
  rw [if_neg (show ¬ (1 : Int32) = 16 by decide), if_neg (show ¬ (1 : Int32) = 17 by decide)]
  unfold accF
  rw [if_neg (show ¬ ((11 : Int32) ≤ 1 ∧ (1 : Int32) ≤ 14) by decide), if_neg (show ¬ (1 : Int32) = 0 by decide), if_pos rfl]
theorem acc_2 {s : Nat → Int32} {tl c : Nat} : accS s tl c 2 = s 1 := by
  unfold accS
  rw [if_neg (show ¬ (2 : Int32) = 16 by decide), if_neg (show ¬ (2 : Int32) = 17 by decide)]
  unfold accF
  rw [if_neg (show ¬ ((11 : Int32) ≤ 2 ∧ (2 : Int32) ≤ 14) by decide), if_neg (show ¬ (2 : Int32) = 0 by decide), if_neg (show ¬ (2 : Int32) = 1 by decide), if_pos rfl]
theorem acc_3 {s : Nat → Int32} {tl c : Nat} : accS s tl c 3 = mErr s := by
  unfold accS
  rw [if_neg (show ¬ (3 : Int32) = 16 by decide), if_neg (show ¬ (3 : Int32) = 17 by decide)]
  unfold accF
  rw [if_neg (show ¬ ((11 : Int32) ≤ 3 ∧ (3 : Int32) ≤ 14) by decide), if_neg (show ¬ (3 : Int32) = 0 by decide), if_neg (show ¬ (3 : Int32) = 1 by decide), if_neg (show ¬ (3 : Int32) = 2 by decide), if_pos rfl]
theorem acc_4 {s : Nat → Int32} {tl c : Nat} : accS s tl c 4 = s 5 := by
  unfold accS
  rw [if_neg (show ¬ (4 : Int32) = 16 by decide), if_neg (show ¬ (4 : Int32) = 17 by decide)]
  unfold accF
  rw [if_neg (show ¬ ((11 : Int32) ≤ 4 ∧ (4 : Int32) ≤ 14) by decide), if_neg (show ¬ (4 : Int32) = 0 by decide), if_neg (show ¬ (4 : Int32) = 1 by decide), if_neg (show ¬ (4 : Int32) = 2 by decide), if_neg (show ¬ (4 : Int32) = 3 by decide), if_pos rfl]
theorem acc_5 {s : Nat → Int32} {tl c : Nat} : accS s tl c 5 = s 7 := by
  unfold accS
  rw [if_neg (show ¬ (5 : Int32) = 16 by decide), if_neg (show ¬ (5 : Int32) = 17 by decide)]
  unfold accF
  rw [if_neg (show ¬ ((11 : Int32) ≤ 5 ∧ (5 : Int32) ≤ 14) by decide), if_neg (show ¬ (5 : Int32) = 0 by decide), if_neg (show ¬ (5 : Int32) = 1 by decide), if_neg (show ¬ (5 : Int32) = 2 by decide), if_neg (show ¬ (5 : Int32) = 3 by decide), if_neg (show ¬ (5 : Int32) = 4 by decide), if_pos rfl]
theorem acc_6 {s : Nat → Int32} {tl c : Nat} : accS s tl c 6 = s 9 := by
  unfold accS
  rw [if_neg (show ¬ (6 : Int32) = 16 by decide), if_neg (show ¬ (6 : Int32) = 17 by decide)]
  unfold accF
  rw [if_neg (show ¬ ((11 : Int32) ≤ 6 ∧ (6 : Int32) ≤ 14) by decide), if_neg (show ¬ (6 : Int32) = 0 by decide), if_neg (show ¬ (6 : Int32) = 1 by decide), if_neg (show ¬ (6 : Int32) = 2 by decide), if_neg (show ¬ (6 : Int32) = 3 by decide), if_neg (show ¬ (6 : Int32) = 4 by decide), if_neg (show ¬ (6 : Int32) = 5 by decide), if_pos rfl]
theorem acc_7 {s : Nat → Int32} {tl c : Nat} : accS s tl c 7 = s 10 := by
  unfold accS
  rw [if_neg (show ¬ (7 : Int32) = 16 by decide), if_neg (show ¬ (7 : Int32) = 17 by decide)]
  unfold accF
  rw [if_neg (show ¬ ((11 : Int32) ≤ 7 ∧ (7 : Int32) ≤ 14) by decide), if_neg (show ¬ (7 : Int32) = 0 by decide), if_neg (show ¬ (7 : Int32) = 1 by decide), if_neg (show ¬ (7 : Int32) = 2 by decide), if_neg (show ¬ (7 : Int32) = 3 by decide), if_neg (show ¬ (7 : Int32) = 4 by decide), if_neg (show ¬ (7 : Int32) = 5 by decide), if_neg (show ¬ (7 : Int32) = 6 by decide), if_pos rfl]
theorem acc_8 {s : Nat → Int32} {tl c : Nat} : accS s tl c 8 = s 11 := by
  unfold accS
  rw [if_neg (show ¬ (8 : Int32) = 16 by decide), if_neg (show ¬ (8 : Int32) = 17 by decide)]
  unfold accF
  rw [if_neg (show ¬ ((11 : Int32) ≤ 8 ∧ (8 : Int32) ≤ 14) by decide), if_neg (show ¬ (8 : Int32) = 0 by decide), if_neg (show ¬ (8 : Int32) = 1 by decide), if_neg (show ¬ (8 : Int32) = 2 by decide), if_neg (show ¬ (8 : Int32) = 3 by decide), if_neg (show ¬ (8 : Int32) = 4 by decide), if_neg (show ¬ (8 : Int32) = 5 by decide), if_neg (show ¬ (8 : Int32) = 6 by decide), if_neg (show ¬ (8 : Int32) = 7 by decide), if_pos rfl]
theorem acc_9 {s : Nat → Int32} {tl c : Nat} : accS s tl c 9 = s 13 := by
  unfold accS
  rw [if_neg (show ¬ (9 : Int32) = 16 by decide), if_neg (show ¬ (9 : Int32) = 17 by decide)]
  unfold accF
  rw [if_neg (show ¬ ((11 : Int32) ≤ 9 ∧ (9 : Int32) ≤ 14) by decide), if_neg (show ¬ (9 : Int32) = 0 by decide), if_neg (show ¬ (9 : Int32) = 1 by decide), if_neg (show ¬ (9 : Int32) = 2 by decide), if_neg (show ¬ (9 : Int32) = 3 by decide), if_neg (show ¬ (9 : Int32) = 4 by decide), if_neg (show ¬ (9 : Int32) = 5 by decide), if_neg (show ¬ (9 : Int32) = 6 by decide), if_neg (show ¬ (9 : Int32) = 7 by decide), if_neg (show ¬ (9 : Int32) = 8 by decide), if_pos rfl]
theorem acc_10 {s : Nat → Int32} {tl c : Nat} : accS s tl c 10 = s 15 := by
  unfold accS
  rw [if_neg (show ¬ (10 : Int32) = 16 by decide), if_neg (show ¬ (10 : Int32) = 17 by decide)]
  unfold accF
  rw [if_neg (show ¬ ((11 : Int32) ≤ 10 ∧ (10 : Int32) ≤ 14) by decide), if_neg (show ¬ (10 : Int32) = 0 by decide), if_neg (show ¬ (10 : Int32) = 1 by decide), if_neg (show ¬ (10 : Int32) = 2 by decide), if_neg (show ¬ (10 : Int32) = 3 by decide), if_neg (show ¬ (10 : Int32) = 4 by decide), if_neg (show ¬ (10 : Int32) = 5 by decide), if_neg (show ¬ (10 : Int32) = 6 by decide), if_neg (show ¬ (10 : Int32) = 7 by decide), if_neg (show ¬ (10 : Int32) = 8 by decide), if_neg (show ¬ (10 : Int32) = 9 by decide), if_pos rfl]
theorem acc_11 {s : Nat → Int32} {tl c : Nat} : accS s tl c 11 = manyN s 0 (nn (s 15)) := by
  unfold accS
  rw [if_neg (show ¬ (11 : Int32) = 16 by decide), if_neg (show ¬ (11 : Int32) = 17 by decide)]
  unfold accF
  rw [if_pos (show (11 : Int32) ≤ 11 ∧ (11 : Int32) ≤ 14 by decide)]
  rfl
theorem acc_12 {s : Nat → Int32} {tl c : Nat} : accS s tl c 12 = manyN s 1 (nn (s 15)) := by
  unfold accS
  rw [if_neg (show ¬ (12 : Int32) = 16 by decide), if_neg (show ¬ (12 : Int32) = 17 by decide)]
  unfold accF
  rw [if_pos (show (11 : Int32) ≤ 12 ∧ (12 : Int32) ≤ 14 by decide)]
  rfl
theorem acc_13 {s : Nat → Int32} {tl c : Nat} : accS s tl c 13 = manyN s 2 (nn (s 15)) := by
  unfold accS
  rw [if_neg (show ¬ (13 : Int32) = 16 by decide), if_neg (show ¬ (13 : Int32) = 17 by decide)]
  unfold accF
  rw [if_pos (show (11 : Int32) ≤ 13 ∧ (13 : Int32) ≤ 14 by decide)]
  rfl
theorem acc_14 {s : Nat → Int32} {tl c : Nat} : accS s tl c 14 = manyN s 3 (nn (s 15)) := by
  unfold accS
  rw [if_neg (show ¬ (14 : Int32) = 16 by decide), if_neg (show ¬ (14 : Int32) = 17 by decide)]
  unfold accF
  rw [if_pos (show (11 : Int32) ≤ 14 ∧ (14 : Int32) ≤ 14 by decide)]
  rfl
theorem acc_15 {s : Nat → Int32} {tl c : Nat} : accS s tl c 15 = wiN s (nn (s 15)) := by
  unfold accS
  rw [if_neg (show ¬ (15 : Int32) = 16 by decide), if_neg (show ¬ (15 : Int32) = 17 by decide)]
  unfold accF
  rw [if_neg (show ¬ ((11 : Int32) ≤ 15 ∧ (15 : Int32) ≤ 14) by decide), if_neg (show ¬ (15 : Int32) = 0 by decide), if_neg (show ¬ (15 : Int32) = 1 by decide), if_neg (show ¬ (15 : Int32) = 2 by decide), if_neg (show ¬ (15 : Int32) = 3 by decide), if_neg (show ¬ (15 : Int32) = 4 by decide), if_neg (show ¬ (15 : Int32) = 5 by decide), if_neg (show ¬ (15 : Int32) = 6 by decide), if_neg (show ¬ (15 : Int32) = 7 by decide), if_neg (show ¬ (15 : Int32) = 8 by decide), if_neg (show ¬ (15 : Int32) = 9 by decide), if_neg (show ¬ (15 : Int32) = 10 by decide), if_pos rfl]
theorem acc_16 {s : Nat → Int32} {tl c : Nat} : accS s tl c 16 = nI tl := if_pos rfl
theorem acc_17 {s : Nat → Int32} {tl c : Nat} : accS s tl c 17 = nI c := (if_neg (by decide)).trans (if_pos rfl)
theorem acc_lt {s : Nat → Int32} {tl c : Nat} {i : Nat} (hi : i < 16) : accS s tl c (nI i) = accS s 0 0 (nI i) := by
  have h16 : ¬ nI i = 16 := fun z => by have := (nI_eq (b := 16) (by omega) (by decide)).mp z; omega
  have h17 : ¬ nI i = 17 := fun z => by have := (nI_eq (b := 17) (by omega) (by decide)).mp z; omega
  unfold accS
  rw [if_neg h16, if_neg h17, if_neg h16, if_neg h17]
section QU
variable {Y : YT} {n c st tl ll : Nat} {g : GH}
theorem q_account (l : Launch) (G : GT) (a : Id3 → Nat) (h : SS Y n c st tl ll g) (w : Int32) {R : Int32} (hR : accS g.1 tl c w = R) : CtY l G a yX12_account cX12_account 2 (some .int) ({ frames := 3, cells := 0, slots := 0, locals := 66 } : Room) [.ref (a (2, 0, 0)), .int w] Y (PI (fun r Y' => r = R ∧ Y' = Y)) := by
  obtain ⟨h1, h2, -⟩ := h
  refine (c_X12_account l G a Y tl (nn (Y (4, 0, 0) 15)) w h1.tx.1 (h1.R.2.2.2.2.2.2.1.trans h1.h15) h1.np).mono (fun v Y' hq => ?_)
  obtain ⟨r, hr, h5, h6⟩ := hq
  exact ⟨r, hr, by rw [h5, acc_eq h1 w, acc_S h1 w, h2, hR], h6⟩
theorem q_potOf (l : Launch) (G : GT) (a : Id3 → Nat) (h : SS Y n c st tl ll g) (hn : n ≤ 90000) (p w : Int32) {R : Int32} (hR : potF g.1 p w = R) : CtY l G a yX12_potOf cX12_potOf 4 (some .int) ({ frames := 1, cells := 0, slots := 0, locals := 21 } : Room) [.ref (a (2, 0, 0)), .int p, .int w] Y (PI (fun r Y' => r = R ∧ Y' = Y)) := by
  subst hR
  exact c_X12_potOf l G a Y n g.1 p w h.R h.I (by omega)
theorem q_ranked (l : Launch) (G : GT) (a : Id3 → Nat) (h : SS Y n c st tl ll g) (hn : n ≤ 90000) (p : Int32) {R : Int32} (hR : rankL g.1 (nn (g.1 15)) p (nn (g.1 15)) = R) : CtY l G a yX12_ranked cX12_ranked 2 (some .int) ({ frames := 3, cells := 0, slots := 0, locals := 70 } : Room) [.ref (a (2, 0, 0)), .int p] Y (PI (fun r Y' => r = R ∧ Y' = Y)) := by
  subst hR
  exact c_X12_ranked l G a Y n g.1 p h.R h.I (by omega)
theorem q_wanted (l : Launch) (G : GT) (a : Id3 → Nat) (h : SS Y n c st tl ll g) (hn : n ≤ 90000)  {R : Int32} (hR : mWant g.1 = R) : CtY l G a yX12_wanted cX12_wanted 1 (some .int) ({ frames := 3, cells := 0, slots := 0, locals := 65 } : Room) [.ref (a (2, 0, 0))] Y (PI (fun r Y' => r = R ∧ Y' = Y)) := by
  subst hR
  exact c_X12_wanted l G a Y n g.1  h.R h.I (by omega)
theorem q_logged (l : Launch) (G : GT) (a : Id3 → Nat) (h : SS Y n c st tl ll g) (hn : n ≤ 90000) (p w : Int32) {R : Int32} (hR : loggedF g.1 p w = R) : CtY l G a yX12_logged cX12_logged 3 (some .int) ({ frames := 2, cells := 0, slots := 0, locals := 44 } : Room) [.ref (a (2, 0, 0)), .int p, .int w] Y (PI (fun r Y' => r = R ∧ Y' = Y)) := by
  subst hR
  exact c_X12_logged l G a Y n g.1 p w h.R h.I (by omega)
theorem q_burnt (l : Launch) (G : GT) (a : Id3 → Nat) (h : SS Y n c st tl ll g) (hn : n ≤ 90000)  {R : Int32} (hR : g.1 16 = R) : CtY l G a yX12_burnt cX12_burnt 1 (some .int) ({ frames := 0, cells := 0, slots := 0, locals := 0 } : Room) [.ref (a (2, 0, 0))] Y (PI (fun r Y' => r = R ∧ Y' = Y)) := by
  subst hR
  exact c_X12_burnt l G a Y n g.1  h.R h.I (by omega)
theorem q_burntAgain (l : Launch) (G : GT) (a : Id3 → Nat) (h : SS Y n c st tl ll g) (hn : n ≤ 90000)  {R : Int32} (hR : baN g.1 101 = R) : CtY l G a yX12_burntAgain cX12_burntAgain 1 (some .int) ({ frames := 1, cells := 0, slots := 0, locals := 22 } : Room) [.ref (a (2, 0, 0))] Y (PI (fun r Y' => r = R ∧ Y' = Y)) := by
  subst hR
  exact c_X12_burntAgain l G a Y n g.1  h.R h.I (by omega)
theorem q_minutesWith (l : Launch) (G : GT) (a : Id3 → Nat) (h : SS Y n c st tl ll g) (hn : n ≤ 90000) (p : Int32) {R : Int32} (hR : mwF g.1 p = R) : CtY l G a yX12_minutesWith cX12_minutesWith 2 (some .int) ({ frames := 1, cells := 0, slots := 0, locals := 22 } : Room) [.ref (a (2, 0, 0)), .int p] Y (PI (fun r Y' => r = R ∧ Y' = Y)) := by
  subst hR
  exact c_X12_minutesWith l G a Y n g.1 p h.R h.I (by omega)
theorem q_isBalanced (l : Launch) (G : GT) (a : Id3 → Nat) (h : SS Y n c st tl ll g) (hn : n ≤ 90000)  {R : Int32} (hR : balF g.1 (nn (g.1 15)) = R) : CtY l G a yX12_isBalanced cX12_isBalanced 1 (some .int) ({ frames := 2, cells := 0, slots := 0, locals := 44 } : Room) [.ref (a (2, 0, 0))] Y (PI (fun r Y' => r = R ∧ Y' = Y)) := by
  subst hR
  exact c_X12_isBalanced l G a Y n g.1  h.R h.I (by omega)
theorem q_degreesIn (l : Launch) (G : GT) (a : Id3 → Nat) (h : SS Y n c st tl ll g) (hn : n ≤ 90000) (p : Int32) {R : Int32} (hR : (if 0 ≤ p ∧ p ≤ 300 then mins (nn p) g.1 0 else -10002) = R) : CtY l G a yX12_degreesIn cX12_degreesIn 2 (some .int) ({ frames := 5, cells := 0, slots := 0, locals := 113 } : Room) [.ref (a (2, 0, 0)), .int p] Y (PI (fun r Y' => r = R ∧ FrK Y Y' 1)) := by
  subst hR
  exact c_X12_degreesIn l G a Y n g.1 p h.R h.I (by omega)
theorem q_wouldOvershoot (l : Launch) (G : GT) (a : Id3 → Nat) (h : SS Y n c st tl ll g) (hn : n ≤ 90000) (p : Int32) {R : Int32} (hR : (if 0 ≤ p ∧ p ≤ 300 then mins (nn p) g.1 13 else -10002) = R) : CtY l G a yX12_wouldOvershoot cX12_wouldOvershoot 2 (some .int) ({ frames := 5, cells := 0, slots := 0, locals := 113 } : Room) [.ref (a (2, 0, 0)), .int p] Y (PI (fun r Y' => r = R ∧ FrK Y Y' 1)) := by
  subst hR
  exact c_X12_wouldOvershoot l G a Y n g.1 p h.R h.I (by omega)
theorem q_wouldCrack (l : Launch) (G : GT) (a : Id3 → Nat) (h : SS Y n c st tl ll g) (hn : n ≤ 90000) (p : Int32) {R : Int32} (hR : (if 0 ≤ p ∧ p ≤ 300 then crackN g.1 (mins (nn p) g.1) (nn (g.1 15)) else -10002) = R) : CtY l G a yX12_wouldCrack cX12_wouldCrack 2 (some .int) ({ frames := 5, cells := 0, slots := 0, locals := 113 } : Room) [.ref (a (2, 0, 0)), .int p] Y (PI (fun r Y' => r = R ∧ FrK Y Y' 1)) := by
  subst hR
  exact c_X12_wouldCrack l G a Y n g.1 p h.R h.I (by omega)
theorem q_firedIn (l : Launch) (G : GT) (a : Id3 → Nat) (h : SS Y n c st tl ll g) (hn : n ≤ 90000) (p : Int32) {R : Int32} (hR : firedA g.1 p = R) : CtY l G a yX12_firedIn cX12_firedIn 4 (some .int) ({ frames := 5, cells := 0, slots := 0, locals := 113 } : Room) [.ref (a (2, 0, 0)), .int p] Y (PI (fun r Y' => r = R ∧ FrK Y Y' 1)) := by
  subst hR
  exact c_X12_firedIn l G a Y n g.1 p h.R h.I (by omega)
theorem q_settlesIn (l : Launch) (G : GT) (a : Id3 → Nat) (h : SS Y n c st tl ll g) (hn : n ≤ 90000)  {R : Int32} (hR : settleF g.1 = R) : CtY l G a yX12_settlesIn cX12_settlesIn 3 (some .int) ({ frames := 5, cells := 0, slots := 0, locals := 113 } : Room) [.ref (a (2, 0, 0))] Y (PI (fun r Y' => r = R ∧ FrK Y Y' 1)) := by
  subst hR
  exact c_X12_settlesIn l G a Y n g.1  h.R h.I (by omega)
theorem q_meanBurnt (l : Launch) (G : GT) (a : Id3 → Nat) (h : SS Y n c st tl ll g) (hn : n ≤ 90000) : CtY l G a yX12_meanBurnt cX12_meanBurnt 2 (some .double) ({ frames := 0, cells := 0, slots := 0, locals := 0 } : Room) [.ref (a (2, 0, 0))] Y (PD (fun r Y' => r = mbF (g.1 16) (g.1 12) ∧ Y' = Y)) := c_X12_meanBurnt l G a Y n g.1 h.R h.I (by omega)
theorem q_firedShare (l : Launch) (G : GT) (a : Id3 → Nat) (h : SS Y n c st tl ll g) (hn : n ≤ 90000) : CtY l G a yX12_firedShare cX12_firedShare 2 (some .float) ({ frames := 2, cells := 0, slots := 0, locals := 45 } : Room) [.ref (a (2, 0, 0))] Y (PF (fun r Y' => r = fsF (manyN g.1 2 (nn (g.1 15))) (g.1 15) ∧ Y' = Y)) := c_X12_firedShare l G a Y n g.1 h.R h.I (by omega)
/-- the line -/
def lineS (s : Nat → Int32) : LSt := tellL s (nn (s 8)) (0, fun _ => 0)
def lenS (s : Nat → Int32) : Nat := (lineS s).1
def chS (s : Nat → Int32) (k : Nat) : Int32 := (lineS s).2 k
def Told (Y : YT) (s : Nat → Int32) : Prop := ∀ k, k < lenS s → Y (5, 0, 1) (1 + k) = chS s k
theorem Told.f {Y Y' : YT} {s : Nat → Int32} (h : Told Y s) (hf : FrK Y Y' 1) : Told Y' s := fun k hk => by rw [hf _ (fun z => absurd z.1 (show ¬ (5 : Nat) ≤ 1 by decide))]; exact h k hk
theorem SS.tell {Y1 : YT} (h : SS Y n c st tl ll g) (hn : n ≤ 90000) (hY : Y1 = lnS Y (tellL g.1 (nn (g.1 8)) (0, fun f => Y (5, 0, 1) (1 + f)))) : ∃ Y2 : YT, (∀ i : Id3, i.1 ≠ 4 → Y2 i = Y1 i) ∧ SS Y2 n c st tl (lenS g.1) g ∧ Told Y2 g.1 ∧ (tellL g.1 (nn (g.1 8)) (0, fun f => Y (5, 0, 1) (1 + f))).1 = lenS g.1 := by
  obtain ⟨q, hq⟩ : ∃ q, q = tellL g.1 (nn (g.1 8)) (0, fun f => Y (5, 0, 1) (1 + f)) := ⟨_, rfl⟩
  have ha : AgL q (lineS g.1) := by rw [hq]; exact ag_tell _
  rw [← hq] at hY ⊢
  obtain ⟨t0, t1, t9, t10, tr⟩ := h.I.tb hn
  have hlg := h.I.mb.lg.2
  have hle : q.1 ≤ 23 + 4 * nn (g.1 8) := by rw [hq]; exact tellL_le t0.2 t1.2 t9.2 t10.2 (fun j hj => (tr j hj).2) _ (Nat.le_refl _)
  obtain ⟨h1, h2, h3, h4, h5⟩ := h
  have hS := (h1.ln (q := q) (q' := lineS g.1) ha (by omega)).2
  have hn4 : ∀ i : Id3, i ≠ (4, 0, 8) → i ≠ (4, 0, 7) → lnP (lnS Y q) (lineS g.1) i = lnS Y q i := fun i g1 g2 => lnP_n g1 g2
  refine ⟨lnP (lnS Y q) (lineS g.1), fun i hi => ?_, ⟨?_, ?_, ?_, ?_, ?_⟩, fun k hk => ?_, ha.1⟩
  · rw [hn4 i (fun z => hi (by rw [z])) (fun z => hi (by rw [z])), hY]
  · have e1 : q.1 = lenS g.1 := ha.1
    rw [← e1]
    exact hS
  · rw [hn4 _ (by decide) (by decide), lnS_n (by decide)]; exact h2
  · rw [hn4 _ (by decide) (by decide), lnS_n (by decide)]; exact h3
  · rw [hn4 _ (by decide) (by decide), lnS_n (by decide)]; exact h4
  · rw [lnP_f (by decide), lnS_n (by decide)]; exact h5
  · rw [hn4 _ (by decide) (by decide), lnS_f]
    exact ha.2 k (by rw [ha.1]; exact hk)
theorem q_character (l : Launch) (G : GT) (a : Id3 → Nat) (h : SS Y n c st tl (lenS g.1) g) (ht : Told Y g.1) {k : Nat} (hk : k < lenS g.1) : CtY l G a yX12_character cX12_character 2 (some .int) ({ frames := 4, cells := 0, slots := 0, locals := 88 } : Room) [.ref (a (2, 0, 0)), .int (nI k)] Y (PI (fun r Y' => r = chS g.1 k ∧ Y' = Y)) := by
  obtain ⟨l1, l2, l3, l4⟩ := h.1.li
  refine (c_X12_character l G a Y (lenS g.1) (nI k) l1 l3).mono (fun v Y' hq => ?_)
  obtain ⟨r, hr, h5, h6⟩ := hq
  refine ⟨r, hr, ?_, h6⟩
  rw [h5, if_pos ⟨nI_pos' (by omega), nI_lt hk (by omega)⟩, nn_nI (by omega)]
  exact ht k hk
end QU
section TELL
variable {X : XT} {G : GT} {A : Nat → Prop} {a : Id3 → Nat} {own : String} {cc : ByteArray} {nL : Nat} {ret : Option FieldType} {rm : Room} {Y : YT} {E : Mem} {k n : Nat} {Q : State → Prop} {pc pc' : Nat} {D : List (Nat × Value)} {st : List Value}
theorem e_tell {k' n' idx m c sr tl ll : Nat} {g : GH} (hpc : pc + 3 = pc') (C : CX X G A own cc nL ret rm) (h : SS Y m c sr tl ll g) (hm : m ≤ 90000) (hy : MV yX12_tell cX12_tell 1 (some .int) 0) (hl : Cond.methodLink own idx yX12_tell ∈ AW) (hw : (st.map fun v => v.category).sum ≤ 8) (hrm : roomOk rm ({ frames := 10, cells := 18, slots := 3600, locals := 222 } : Room) 1 k n = true) (hdg : decode cc pc = .ok (.invokevirtual idx, 3)) (hk : k + 18 = k') (hn : n + 3600 = n') (kk : ∀ Y' : YT, SS Y' m c sr tl (lenS g.1) g → Told Y' g.1 → WE X G A a Y' E k' n' Q pc' D (.int (nI (lenS g.1)) :: st)) : WE X G A a Y E k n Q pc D (.ref (a (2, 0, 0)) :: st) := by
  refine e_i hpc C (As := []) (c_X12_tell _ G a Y m g.1 h.R h.I hm) hy hl rfl rfl rfl hw hrm hdg hk hn (fun r Y1 hp => ?_)
  obtain ⟨hr, hY⟩ := hp
  obtain ⟨Y2, g1, g2, g3, g4⟩ := h.tell hm hY
  rw [g4] at hr
  subst hr
  exact e_gh g1 (kk Y2 g2 g3)
end TELL
theorem my_X12_account : MV yX12_account cX12_account 2 (some .int) 1 := ⟨aw_338, aw_15, ⟨by decide, by decide, by decide +kernel⟩, aw_336, aw_337⟩
theorem my_X12_aim : MV yX12_aim cX12_aim 2 (some .int) 1 := ⟨aw_383, aw_15, ⟨by decide, by decide, by decide +kernel⟩, aw_381, aw_382⟩
theorem my_X12_gains : MV yX12_gains cX12_gains 4 (some .int) 3 := ⟨aw_443, aw_15, ⟨by decide, by decide, by decide +kernel⟩, aw_441, aw_442⟩
theorem my_X12_cap : MV yX12_cap cX12_cap 2 (some .int) 1 := ⟨aw_452, aw_15, ⟨by decide, by decide, by decide +kernel⟩, aw_450, aw_451⟩
theorem my_X12_lag : MV yX12_lag cX12_lag 2 (some .int) 1 := ⟨aw_464, aw_15, ⟨by decide, by decide, by decide +kernel⟩, aw_462, aw_463⟩
theorem my_X12_fuel : MV yX12_fuel cX12_fuel 2 (some .int) 1 := ⟨aw_486, aw_15, ⟨by decide, by decide, by decide +kernel⟩, aw_484, aw_485⟩
theorem my_X12_go : MV yX12_go cX12_go 2 (some .int) 1 := ⟨aw_993, aw_15, ⟨by decide, by decide, by decide +kernel⟩, aw_991, aw_992⟩
theorem my_X12_pot : MV yX12_pot cX12_pot 4 (some .int) 3 := ⟨aw_495, aw_15, ⟨by decide, by decide, by decide +kernel⟩, aw_493, aw_494⟩
theorem my_X12_put : MV yX12_put cX12_put 2 (some .int) 1 := ⟨aw_509, aw_15, ⟨by decide, by decide, by decide +kernel⟩, aw_507, aw_508⟩
theorem my_X12_take : MV yX12_take cX12_take 2 (some .int) 1 := ⟨aw_518, aw_15, ⟨by decide, by decide, by decide +kernel⟩, aw_516, aw_517⟩
theorem my_X12_potOf : MV yX12_potOf cX12_potOf 4 (some .int) 2 := ⟨aw_1005, aw_15, ⟨by decide, by decide, by decide +kernel⟩, aw_1003, aw_1004⟩
theorem my_X12_firedIn : MV yX12_firedIn cX12_firedIn 4 (some .int) 1 := ⟨aw_988, aw_15, ⟨by decide, by decide, by decide +kernel⟩, aw_986, aw_987⟩
theorem my_X12_wouldCrack : MV yX12_wouldCrack cX12_wouldCrack 2 (some .int) 1 := ⟨aw_951, aw_15, ⟨by decide, by decide, by decide +kernel⟩, aw_949, aw_950⟩
theorem my_X12_ranked : MV yX12_ranked cX12_ranked 2 (some .int) 1 := ⟨aw_1038, aw_15, ⟨by decide, by decide, by decide +kernel⟩, aw_1036, aw_1037⟩
theorem my_X12_degreesIn : MV yX12_degreesIn cX12_degreesIn 2 (some .int) 1 := ⟨aw_937, aw_15, ⟨by decide, by decide, by decide +kernel⟩, aw_935, aw_936⟩
theorem my_X12_wanted : MV yX12_wanted cX12_wanted 1 (some .int) 0 := ⟨aw_959, aw_15, ⟨by decide, by decide, by decide +kernel⟩, aw_957, aw_958⟩
theorem my_X12_settlesIn : MV yX12_settlesIn cX12_settlesIn 3 (some .int) 0 := ⟨aw_1062, aw_15, ⟨by decide, by decide, by decide +kernel⟩, aw_1060, aw_1061⟩
theorem my_X12_wouldOvershoot : MV yX12_wouldOvershoot cX12_wouldOvershoot 2 (some .int) 1 := ⟨aw_947, aw_15, ⟨by decide, by decide, by decide +kernel⟩, aw_945, aw_946⟩
theorem my_X12_logged : MV yX12_logged cX12_logged 3 (some .int) 2 := ⟨aw_1018, aw_15, ⟨by decide, by decide, by decide +kernel⟩, aw_1016, aw_1017⟩
theorem my_X12_burnt : MV yX12_burnt cX12_burnt 1 (some .int) 0 := ⟨aw_1027, aw_15, ⟨by decide, by decide, by decide +kernel⟩, aw_1025, aw_1026⟩
theorem my_X12_burntAgain : MV yX12_burntAgain cX12_burntAgain 1 (some .int) 0 := ⟨aw_1054, aw_15, ⟨by decide, by decide, by decide +kernel⟩, aw_1052, aw_1053⟩
theorem my_X12_minutesWith : MV yX12_minutesWith cX12_minutesWith 2 (some .int) 1 := ⟨aw_1034, aw_15, ⟨by decide, by decide, by decide +kernel⟩, aw_1032, aw_1033⟩
theorem my_X12_append : MV yX12_append cX12_append 2 (some .int) 1 := ⟨aw_760, aw_15, ⟨by decide, by decide, by decide +kernel⟩, aw_758, aw_759⟩
theorem my_X12_run : MV yX12_run cX12_run 3 (some .int) 0 := ⟨aw_782, aw_15, ⟨by decide, by decide, by decide +kernel⟩, aw_780, aw_781⟩
theorem my_X12_tell : MV yX12_tell cX12_tell 1 (some .int) 0 := ⟨aw_965, aw_15, ⟨by decide, by decide, by decide +kernel⟩, aw_963, aw_964⟩
theorem my_X12_character : MV yX12_character cX12_character 2 (some .int) 1 := ⟨aw_983, aw_15, ⟨by decide, by decide, by decide +kernel⟩, aw_981, aw_982⟩
theorem my_X12_isBalanced : MV yX12_isBalanced cX12_isBalanced 1 (some .int) 0 := ⟨aw_1075, aw_15, ⟨by decide, by decide, by decide +kernel⟩, aw_1073, aw_1074⟩
theorem my_X12_meanBurnt : MV yX12_meanBurnt cX12_meanBurnt 2 (some .double) 0 := ⟨aw_1066, aw_15, ⟨by decide, by decide, by decide +kernel⟩, aw_1064, aw_1065⟩
theorem my_X12_firedShare : MV yX12_firedShare cX12_firedShare 2 (some .float) 0 := ⟨aw_1070, aw_15, ⟨by decide, by decide, by decide +kernel⟩, aw_1068, aw_1069⟩
theorem my_X12_undo : MV yX12_undo cX12_undo 1 (some .int) 0 := ⟨aw_1095, aw_15, ⟨by decide, by decide, by decide +kernel⟩, aw_1093, aw_1094⟩
theorem my_X12_save : MV yX12_save cX12_save 1 (some .int) 0 := ⟨aw_1091, aw_15, ⟨by decide, by decide, by decide +kernel⟩, aw_1089, aw_1090⟩
theorem my_X12_restore : MV yX12_restore cX12_restore 1 (some .int) 0 := ⟨aw_1103, aw_15, ⟨by decide, by decide, by decide +kernel⟩, aw_1101, aw_1102⟩
theorem my_L_cell : MS yL_cell cL_cell 2 (some .int) 2 := ⟨aw_375, aw_14, ⟨by decide, by decide, by decide +kernel⟩, aw_374⟩
theorem my_L_pick : MS yL_pick cL_pick 3 (some .int) 3 := ⟨aw_372, aw_14, ⟨by decide, by decide, by decide +kernel⟩, aw_371⟩
theorem my_L_runs : MS yL_runs cL_runs 4 (some .int) 2 := ⟨aw_731, aw_14, ⟨by decide, by decide, by decide +kernel⟩, aw_730⟩
theorem my_L_does : MS yL_does cL_does 6 (some .int) 4 := ⟨aw_379, aw_14, ⟨by decide, by decide, by decide +kernel⟩, aw_378⟩
theorem my_L_goes : MS yL_goes cL_goes 14 (some .int) 2 := ⟨aw_933, aw_14, ⟨by decide, by decide, by decide +kernel⟩, aw_932⟩
theorem my_L_sum : MS yL_sum cL_sum 5 (some .long) 1 := ⟨aw_1013, aw_14, ⟨by decide, by decide, by decide +kernel⟩, aw_1012⟩
theorem my_L_isWhole : MS yL_isWhole cL_isWhole 13 (some .boolean) 1 := ⟨aw_1030, aw_14, ⟨by decide, by decide, by decide +kernel⟩, aw_1029⟩
theorem my_L_isKept : MS yL_isKept cL_isKept 6 (some .boolean) 3 := ⟨aw_1087, aw_14, ⟨by decide, by decide, by decide +kernel⟩, aw_1086⟩
theorem cl_161 : (Cond.constantLong "KilnKeeperLaw" (161 : Nat) (31 : Int64)) ∈ AW := List.mem_filter.mpr ⟨at_1014, rfl⟩
theorem cl_166 : (Cond.constantLong "KilnKeeperLaw" (166 : Nat) (7 : Int64)) ∈ AW := List.mem_filter.mpr ⟨at_1023, rfl⟩
