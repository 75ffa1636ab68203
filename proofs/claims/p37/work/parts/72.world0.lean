/-! WHAT THE STATEMENT GIVES OF THE START: the surroundings of the walks. -/
def flatA : Jvm.Cond → List Jvm.Cond → List Jvm.Cond
  | .and a b, acc => flatA a (flatA b acc)
  | c, acc => c :: acc
theorem flatA_eq (c : Jvm.Cond) : ∀ acc, flatA c acc = flatC c ++ acc := by
  induction c with
  | and a b iha ihb => intro acc; rw [flatA, iha, ihb, flatC, List.append_assoc]
  | _ => intro acc; rfl
def GVL : List Jvm.Cond := flatA (Jvm.Cond.and given_1 narrow_1) []
theorem gv_of {b : Nat} {s : State} (h : (Jvm.Cond.and given_1 narrow_1).before #[Value.ref b] s = true) : ∀ c ∈ GVL, c.before #[Value.ref b] s = true := fun c hc => flat_of_before _ h c (by rw [GVL, flatA_eq, List.append_nil] at hc; exact hc)
theorem run_in {L M : List Cond} {p n : Nat} (h : (L.drop p).take n = M) {c : Cond} (hc : c ∈ M) : c ∈ L := List.mem_of_mem_drop (List.mem_of_mem_take (h ▸ hc))
theorem run_at {L : List Cond} {f : Nat → Cond} {p n m : Nat} (h : (L.drop p).take n = (List.range m).map f) {j : Nat} (hj : j < m) : f j ∈ L := run_in h (List.mem_map.mpr ⟨j, List.mem_range.mpr hj, rfl⟩)
theorem run_bl {L : List Cond} {f : Nat → List Cond} {p n m : Nat} (h : (L.drop p).take n = (List.range m).flatMap f) {k : Nat} (hk : k < m) {c : Cond} (hc : c ∈ f k) : c ∈ L := run_in h (List.mem_flatMap.mpr ⟨k, List.mem_range.mpr hk, hc⟩)
def tmW (i : Nat) : Term := Term.static "KilnKeeper$Word" (wnames.getD i "") "LKilnKeeper$Word;"
def tmS (i : Nat) : Term := Term.string (sofs.getD (i + 10) ("", 0, "")).1 (sofs.getD (i + 10) ("", 0, "")).2.1
def tmV (i : Nat) : Term := Term.field (tmS i) "java/lang/String" "value" "[B"
def tmO : Term := Term.static "java/lang/Integer" "DigitOnes" "[B"
def tmT : Term := Term.static "java/lang/Integer" "DigitTens" "[B"
def tmM : Term := Term.static "KilnKeeper$1" "$SwitchMap$KilnKeeper$Word" "[I"
def tmL : Term := Term.static "KilnKeeper" "WORDS" "[LKilnKeeper$Word;"
def sOrd : List Nat := [9, 10, 11, 12, 13, 14, 8, 0, 1, 2, 3, 4, 5, 6, 7]
def sInv (i : Nat) : Nat := if 9 ≤ i then i - 9 else if i = 8 then 6 else i + 7
def sBlk (k : Nat) : List Cond := [Cond.exactly (tmS (sOrd.getD k 0)) "java/lang/String", Cond.eq (.field (tmS (sOrd.getD k 0)) "java/lang/String" "coder" "B") (.int 0), Cond.arrayOf (tmV (sOrd.getD k 0)) .byte, Cond.eq (.length (tmV (sOrd.getD k 0))) (.int (Int32.ofNat ((slen.drop 10).getD (sOrd.getD k 0) 0)))] ++ ((List.range ((slen.drop 10).getD (sOrd.getD k 0) 0)).map (fun j => Cond.eq (.elem (tmV (sOrd.getD k 0)) (.int (Int32.ofNat j))) (.int (((sbyt.drop 10).getD (sOrd.getD k 0) []).getD j 0))) ++ (List.range k).map (fun q => Cond.not (Cond.eq (tmS (sOrd.getD q 0)) (tmS (sOrd.getD k 0)))))
def wOrd : List Nat := [8, 0, 1, 2, 3, 4, 5, 6, 7]
def wInv (i : Nat) : Nat := if i = 8 then 0 else i + 1
def wBlk (k : Nat) : List Cond := [Cond.exactly (tmW (wOrd.getD k 0)) "KilnKeeper$Word", Cond.eq (.field (tmW (wOrd.getD k 0)) "java/lang/Enum" "ordinal" "I") (.int (([0, 1, 2, 3, 4, 5, 6, 7, 8] : List Int32).getD (wOrd.getD k 0) 0)), Cond.eq (.field (tmW (wOrd.getD k 0)) "KilnKeeper$Word" "form" "Ljava/lang/String;") (tmS (wOrd.getD k 0))] ++ (List.range k).map (fun q => Cond.not (Cond.eq (tmW (wOrd.getD q 0)) (tmW (wOrd.getD k 0))))
theorem g_S : (GVL.drop 343).take 242 = (List.range 15).flatMap sBlk := by decide +kernel
theorem g_W0 : (GVL.drop 5).take 3 = (List.range 1).flatMap wBlk := by decide +kernel
theorem g_W1 : (GVL.drop 244).take 60 = (List.range 8).flatMap (fun q => wBlk (q + 1)) := by decide +kernel
theorem g_L : (GVL.drop 223).take 9 = (List.range 9).map (fun i => Cond.eq (.elem tmL (.int (Int32.ofNat i))) (tmW i)) := by decide +kernel
theorem g_M : (GVL.drop 235).take 9 = (List.range 9).map (fun j => Cond.eq (.elem tmM (.int (Int32.ofNat j))) (.int (swm.getD j 0))) := by decide +kernel
theorem g_O : (GVL.drop 15).take 100 = (List.range 100).map (fun j => Cond.eq (.elem tmO (.int (Int32.ofNat j))) (.int (nI (48 + j % 10)))) := by decide +kernel
theorem g_T : (GVL.drop 118).take 100 = (List.range 100).map (fun j => Cond.eq (.elem tmT (.int (Int32.ofNat j))) (.int (nI (48 + j / 10)))) := by decide +kernel
theorem g_1 : (GVL.drop 4).take 1 = [Cond.eq (.static "java/lang/String" "COMPACT_STRINGS" "Z") (.int 1)] := by decide +kernel
theorem g_2 : (GVL.drop 8).take 1 = [Cond.isRef (.static "jdk/internal/util/Preconditions" "SIOOBE_FORMATTER" "Ljava/util/function/BiFunction;")] := by decide +kernel
theorem g_3 : (GVL.drop 220).take 2 = [Cond.arrayOf tmL (.object "KilnKeeper$Word"), Cond.eq (.length tmL) (.int (Int32.ofNat 9))] := by decide +kernel
theorem g_4 : (GVL.drop 233).take 2 = [Cond.arrayOf tmM .int, Cond.eq (.length tmM) (.int (Int32.ofNat 9))] := by decide +kernel
theorem g_5 : (GVL.drop 13).take 2 = [Cond.arrayOf tmO .byte, Cond.eq (.length tmO) (.int (Int32.ofNat 100))] := by decide +kernel
theorem g_6 : (GVL.drop 116).take 2 = [Cond.arrayOf tmT .byte, Cond.eq (.length tmT) (.int (Int32.ofNat 100))] := by decide +kernel
theorem sInv_ok : ∀ i, i < 15 → sOrd.getD (sInv i) 0 = i ∧ sInv i < 15 := by decide
theorem wInv_ok : ∀ i, i < 9 → wOrd.getD (wInv i) 0 = i ∧ wInv i < 9 := by decide
theorem g_blk {i : Nat} (hi : i < 15) {c : Cond} (hc : c ∈ sBlk (sInv i)) : c ∈ GVL := run_bl g_S (sInv_ok i hi).2 hc
theorem g_wbl {i : Nat} (hi : i < 9) {c : Cond} (hc : c ∈ wBlk (wInv i)) : c ∈ GVL := by
  obtain ⟨-, h⟩ := wInv_ok i hi
  by_cases hz : wInv i = 0
  · exact run_bl g_W0 (by rw [hz]; decide : wInv i < 1) hc
  · exact run_bl (k := wInv i - 1) g_W1 (by omega) (by rw [show wInv i - 1 + 1 = wInv i by omega]; exact hc)
theorem g_ls : ∀ i, i < 9 → Cond.laysStatic "KilnKeeper$Word" (wnames.getD i "") "LKilnKeeper$Word;" ∈ lw_tbl := fun i hi => match i, hi with
  | 0, _ => at_1121
  | 1, _ => at_1122
  | 2, _ => at_1123
  | 3, _ => at_1124
  | 4, _ => at_1125
  | 5, _ => at_1126
  | 6, _ => at_1127
  | 7, _ => at_1128
  | 8, _ => at_286
  | n + 9, h => absurd h (by omega)
theorem g_rf0 : ∀ i, i < 6 → Cond.stringRef (sofs.getD (i + 19) ("", 0, "")).1 (sofs.getD (i + 19) ("", 0, "")).2.1 (sofs.getD (i + 19) ("", 0, "")).2.2 ∈ lw_tbl := fun i hi => match i, hi with
  | 0, _ => at_525
  | 1, _ => at_671
  | 2, _ => at_672
  | 3, _ => at_673
  | 4, _ => at_727
  | 5, _ => at_728
  | n + 6, h => absurd h (by omega)
theorem g_rf {i : Nat} (hi : 19 ≤ i ∧ i < 25) : Cond.stringRef (sofs.getD i ("", 0, "")).1 (sofs.getD i ("", 0, "")).2.1 (sofs.getD i ("", 0, "")).2.2 ∈ lw_tbl := by
  obtain ⟨j, rfl⟩ : ∃ j, i = j + 19 := ⟨i - 19, by omega⟩
  exact g_rf0 j (by omega)
theorem va_Z_ev {args : Array Value} {s : State} {C n d : String} {v : Value} {A : Nat → Prop} (h : va_Z C n d v A s s.heap) : (Term.static C n d).eval args s none [] s = some v := by
  obtain ⟨cf, kf, fi, f, a, cell, h1, h2, h3, h4, h5, h6, h7, h8⟩ := h
  exact Term.static_eval h1 h2 h4 h5 h6 h7
