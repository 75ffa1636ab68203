/-! THE LAW'S CASES. -/
abbrev LWs (b : Nat) (a : Id3 → Nat) (it : Nat) : List (Option Value) := [some (.ref b), some (.ref (a (2, 0, 0))), some (.ref (a (4, 0, 8))), some (.int (nI (4 * it)))]
theorem lwr {f c s lo nL k n : Nat} (h1 : f ≤ 12) (h2 : nL + lo ≤ 465) (h3 : k + c ≤ 600000) (h4 : n + s ≤ 7302249) : roomOk room_1 ({ frames := f, cells := c, slots := s, locals := lo } : Room) nL k n = true := by
  simp only [roomOk, room_1, Bool.and_eq_true, Nat.ble_eq]
  omega
theorem y_arg {X : XT} {G : GT} {A : Nat → Prop} {a : Id3 → Nat} {own : String} {cc : ByteArray} {nL : Nat} {ret : Option FieldType} {rm : Room} {Y : YT} {k n : Nat} {Q : State → Prop} {pc : Nat} {L : List (Option Value)} {st : List Value} {pc' : Nat} (hpc : pc + 5 = pc') (C : CX X G A own cc nL ret rm) {b Ln j d : Nat} {xs : Nat → Int32} (hX : va_X b Ln xs (xS X) (xS X).heap) (hbl : b < (xS X).heap.size) (hbA : ¬ A b) {i : Int} (h0 : decode cc pc = .ok (.aload_n 0, 1)) (h1 : decode cc (pc + 1) = .ok (.iload_n 3, 1)) (h2 : decode cc (pc + 2) = .ok (.iconst i, 1)) (h3 : decode cc (pc + 3) = .ok (.iadd, 1)) (h4 : decode cc (pc + 4) = .ok (.iaload, 1))
    (hl0 : L[0]? = some (some (.ref b))) (hl3 : L[3]? = some (some (.int (nI j)))) (hd : Int32.ofInt i = nI d) (hj : j + d < Ln) (hj2 : Ln < 2 ^ 31) (kk : WY X G A a Y k n Q pc' L (.int (xs (j + d)) :: st)) : WY X G A a Y k n Q pc L st := by
  subst hpc
  refine y_aload_n (pc' := pc + 1) rfl C h0 hl0 ?_
  refine y_iload_n (pc' := pc + 2) rfl C h1 hl3 ?_
  refine y_iconst (pc' := pc + 3) rfl C h2 hd ?_
  refine y_iadd (pc' := pc + 4) rfl C h3 ?_
  rw [nI_add j d]
  intro M hM H locs ls hS hM2 hA hL
  refine va_sld C.ex C.cd hX hbl hbA hS (vp_in_nI hj hj2) h4 ?_
  rw [show (nI (j + d)).toNatClampNeg = j + d from nn_nI (by omega)]
  exact kk M hM H locs ls hS hM2 hA hL
theorem SimE.up {Y : YT} {n m : Nat} (h : SimE Y n) (hm : n ≤ m) : SimE Y m := by
  obtain ⟨c, st, tl, ll, h⟩ := h
  exact ⟨c, st, tl, ll, h.up hm⟩
theorem n45 {d j : Nat} : ((4, 0, d) : Id3) ≠ (5, 0, j) := fun q => by injection q with q1; exact absurd q1 (by decide)
theorem n42 {d b j : Nat} : ((4, 0, d) : Id3) ≠ (2, b, j) := fun q => by injection q with q1; exact absurd q1 (by decide)
theorem app_m {Y Y1 : YT} {p q : Prop} [Decidable p] [Decidable q] {tl : Nat} {x : Int32} (h : Y1 = if p then (if q then Y else sbC Y 0 tl x) else Y) (d : Nat) : Y1 (4, 0, d) = Y (4, 0, d) := by
  rw [h]
  split
  · split
    · rfl
    · rw [sbC, setA_n n45]
  · rfl
theorem ln_m {Y Y1 : YT} {q : LSt} (h : Y1 = lnS Y q) (d : Nat) : Y1 (4, 0, d) = Y (4, 0, d) := by rw [h, lnS_n n45]
theorem tp_m {Y Y1 : YT} {p : Prop} {q : LSt} {r v w : Int32} (h : (p → r = v ∧ Y1 = lnS Y q) ∧ (¬ p → r = w ∧ Y1 = Y)) (d : Nat) : Y1 (4, 0, d) = Y (4, 0, d) := by
  by_cases hp : p
  · exact ln_m (h.1 hp).2 d
  · rw [(h.2 hp).2]
theorem sim_tell {Y Y1 Y2 : YT} {n c st tl ll : Nat} {r r' : Int32} (h : Sim Y n c st tl ll) (hn : n ≤ 90000) (hr : r = nI (tellL (Y (4, 0, 0)) (nn (Y (4, 0, 0) 8)) (0, fun f => Y (5, 0, 1) (1 + f))).1) (hY : Y1 = lnS Y (tellL (Y (4, 0, 0)) (nn (Y (4, 0, 0) 8)) (0, fun f => Y (5, 0, 1) (1 + f)))) (hr' : r' = nI (tellL (Y (4, 0, 0)) (nn (Y (4, 0, 0) 8)) (0, Y1 (4, 0, 7))).1) (hY2 : Y2 = lnP Y1 (tellL (Y (4, 0, 0)) (nn (Y (4, 0, 0) 8)) (0, Y1 (4, 0, 7)))) : r = r' ∧ SimE Y2 n := by
  obtain ⟨t0, t1, t9, t10, tr⟩ := h.I.tb hn
  have hlg := h.lg
  have hle := tellL_le (s := Y (4, 0, 0)) (q := (0, fun f => Y (5, 0, 1) (1 + f))) (lg := nn (Y (4, 0, 0) 8)) t0.2 t1.2 t9.2 t10.2 (fun j hj => (tr j hj).2) _ (Nat.le_refl _)
  obtain ⟨e, hS⟩ := h.ln (q' := tellL (Y (4, 0, 0)) (nn (Y (4, 0, 0) 8)) (0, Y1 (4, 0, 7))) (ag_tell _) (show (tellL (Y (4, 0, 0)) (nn (Y (4, 0, 0) 8)) (0, fun f => Y (5, 0, 1) (1 + f))).1 ≤ 80 by omega)
  rw [← hY, ← hY2] at hS
  exact ⟨hr.trans (e.trans hr'.symm), _, _, _, _, hS⟩
theorem sim_tp {Y Y1 Y2 : YT} {n c st tl ll : Nat} {p r r' : Int32} (h : Sim Y n c st tl ll) (h1 : ((0 ≤ p ∧ p ≤ Y (4, 0, 0) 15 - 1) → r = nI (tellPL (Y (4, 0, 0)) (nn p) (0, fun f => Y (5, 0, 1) (1 + f))).1 ∧ Y1 = lnS Y (tellPL (Y (4, 0, 0)) (nn p) (0, fun f => Y (5, 0, 1) (1 + f)))) ∧ (¬ (0 ≤ p ∧ p ≤ Y (4, 0, 0) 15 - 1) → r = -10001 ∧ Y1 = Y))
    (hr : r' = (if 0 ≤ p ∧ p ≤ Y (4, 0, 0) 15 - 1 then nI (tellPL (Y (4, 0, 0)) (nn p) (0, Y1 (4, 0, 7))).1 else -10001)) (hY2 : Y2 = if 0 ≤ p ∧ p ≤ Y (4, 0, 0) 15 - 1 then lnP Y1 (tellPL (Y (4, 0, 0)) (nn p) (0, Y1 (4, 0, 7))) else Y1) : r = r' ∧ SimE Y2 n := by
  by_cases hp : 0 ≤ p ∧ p ≤ Y (4, 0, 0) 15 - 1
  · rw [if_pos hp] at hr hY2
    obtain ⟨g1, hY⟩ := h1.1 hp
    have hq : nn p < nn (Y (4, 0, 0) 15) := nn_lt (by have := h.np; omega) ((rng_iff h.h15 h.np).mpr hp)
    have hnp := h.np
    obtain ⟨b1, b2, b3, b4⟩ := (h.I.2.2.2.1 _ hq).tb
    have hle := tp_le (s := Y (4, 0, 0)) (p := nn p) (q := (0, fun f => Y (5, 0, 1) (1 + f))) (by omega) (by have := b1.2; omega) b2.2 (by have := b3.2; omega) (by have := b4.2; omega)
    obtain ⟨e, hS⟩ := h.ln (q' := tellPL (Y (4, 0, 0)) (nn p) (0, Y1 (4, 0, 7))) ag_tp (show (tellPL (Y (4, 0, 0)) (nn p) (0, fun f => Y (5, 0, 1) (1 + f))).1 ≤ 80 by omega)
    rw [← hY, ← hY2] at hS
    exact ⟨g1.trans (e.trans hr.symm), _, _, _, _, hS⟩
  · rw [if_neg hp] at hr hY2
    obtain ⟨g1, hY⟩ := h1.2 hp
    rw [hY2, hY]
    exact ⟨g1.trans hr.symm, _, _, _, _, h⟩
def unS (Y : YT) (c : Nat) : Nat → Int32 := if c = 0 then Y (4, 0, 0) else hisF (Y (4, 0, 4)) (c - 1)
theorem sim_un {Y : YT} {n c st tl ll : Nat} (h : Sim Y n c st tl ll) : (c ≠ 0 → RKi Y (3 + (st + (c - 1)) % 8) (unS Y c)) ∧ MB (unS Y c) n := by
  unfold unS
  by_cases hc : c = 0
  · rw [if_pos hc]
    exact ⟨fun z => absurd hc z, h.I.mb⟩
  · rw [if_neg hc]
    exact ⟨fun _ => (h.hs (c - 1) (by omega)).1, (h.hs (c - 1) (by omega)).2.mb⟩
theorem un_to {Y Y1 : YT} {c st : Nat} {r : Int32} (hp : (c = 0 → r = -10005 ∧ Y1 = Y) ∧ (c ≠ 0 → r = nI (c - 1) ∧ Y1 (2, 0, 1) 0 = nI (c - 1) ∧ Y1 (2, 0, 1) 1 = nI st ∧ RKi Y1 0 (unS Y c) ∧ ∀ i : Id3, ¬ (i.1 ≤ 1 ∧ i.2.1 = 0) → i ≠ (2, 0, 1) → Y1 i = Y i)) : (c = 0 → r = -10005 ∧ Y1 = Y) ∧ (c ≠ 0 → r = nI (c - 1) ∧ Y1 (2, 0, 1) 0 = nI (c - 1) ∧ Y1 (2, 0, 1) 1 = nI st ∧ RKi Y1 0 (hisF (Y (4, 0, 4)) (c - 1)) ∧ ∀ i : Id3, ¬ (i.1 ≤ 1 ∧ i.2.1 = 0) → i ≠ (2, 0, 1) → Y1 i = Y i) := by
  refine ⟨hp.1, fun hc => ?_⟩
  have h2 := hp.2 hc
  rw [unS, if_neg hc] at h2
  exact h2
theorem un_m {Y Y1 : YT} {c st : Nat} {r : Int32} (hp : (c = 0 → r = -10005 ∧ Y1 = Y) ∧ (c ≠ 0 → r = nI (c - 1) ∧ Y1 (2, 0, 1) 0 = nI (c - 1) ∧ Y1 (2, 0, 1) 1 = nI st ∧ RKi Y1 0 (unS Y c) ∧ ∀ i : Id3, ¬ (i.1 ≤ 1 ∧ i.2.1 = 0) → i ≠ (2, 0, 1) → Y1 i = Y i)) (d : Nat) : Y1 (4, 0, d) = Y (4, 0, d) := by
  by_cases hc : c = 0
  · rw [(hp.1 hc).2]
  · exact (hp.2 hc).2.2.2.2 _ (fun z => absurd z.1 (show ¬ (4 : Nat) ≤ 1 by decide)) n42
theorem my_X12_aim : MV yX12_aim cX12_aim 2 (some .int) 1 := ⟨aw_379, aw_54, ⟨by decide, by decide, by decide +kernel⟩, aw_377, aw_378⟩
theorem my_X13_aim : MV yX13_aim cX13_aim 2 (some .int) 1 := ⟨aw_1107, aw_71, ⟨by decide, by decide, by decide +kernel⟩, aw_1105, aw_1106⟩
theorem my_X12_gains : MV yX12_gains cX12_gains 4 (some .int) 3 := ⟨aw_443, aw_54, ⟨by decide, by decide, by decide +kernel⟩, aw_441, aw_442⟩
theorem my_X13_gains : MV yX13_gains cX13_gains 4 (some .int) 3 := ⟨aw_1138, aw_71, ⟨by decide, by decide, by decide +kernel⟩, aw_1136, aw_1137⟩
theorem my_X12_cap : MV yX12_cap cX12_cap 2 (some .int) 1 := ⟨aw_452, aw_54, ⟨by decide, by decide, by decide +kernel⟩, aw_450, aw_451⟩
theorem my_X13_cap : MV yX13_cap cX13_cap 2 (some .int) 1 := ⟨aw_1146, aw_71, ⟨by decide, by decide, by decide +kernel⟩, aw_1144, aw_1145⟩
theorem my_X12_lag : MV yX12_lag cX12_lag 2 (some .int) 1 := ⟨aw_464, aw_54, ⟨by decide, by decide, by decide +kernel⟩, aw_462, aw_463⟩
theorem my_X13_lag : MV yX13_lag cX13_lag 2 (some .int) 1 := ⟨aw_1157, aw_71, ⟨by decide, by decide, by decide +kernel⟩, aw_1155, aw_1156⟩
theorem my_X12_fuel : MV yX12_fuel cX12_fuel 2 (some .int) 1 := ⟨aw_486, aw_54, ⟨by decide, by decide, by decide +kernel⟩, aw_484, aw_485⟩
theorem my_X13_fuel : MV yX13_fuel cX13_fuel 2 (some .int) 1 := ⟨aw_1169, aw_71, ⟨by decide, by decide, by decide +kernel⟩, aw_1167, aw_1168⟩
theorem my_X12_go : MV yX12_go cX12_go 2 (some .int) 1 := ⟨aw_495, aw_54, ⟨by decide, by decide, by decide +kernel⟩, aw_493, aw_494⟩
theorem my_X13_go : MV yX13_go cX13_go 2 (some .int) 1 := ⟨aw_1177, aw_71, ⟨by decide, by decide, by decide +kernel⟩, aw_1175, aw_1176⟩
theorem my_X12_pot : MV yX12_pot cX12_pot 4 (some .int) 3 := ⟨aw_562, aw_54, ⟨by decide, by decide, by decide +kernel⟩, aw_560, aw_561⟩
theorem my_X13_pot : MV yX13_pot cX13_pot 4 (some .int) 3 := ⟨aw_1209, aw_71, ⟨by decide, by decide, by decide +kernel⟩, aw_1207, aw_1208⟩
theorem my_X12_put : MV yX12_put cX12_put 2 (some .int) 1 := ⟨aw_576, aw_54, ⟨by decide, by decide, by decide +kernel⟩, aw_574, aw_575⟩
theorem my_X13_put : MV yX13_put cX13_put 2 (some .int) 1 := ⟨aw_1217, aw_71, ⟨by decide, by decide, by decide +kernel⟩, aw_1215, aw_1216⟩
theorem my_X12_take : MV yX12_take cX12_take 2 (some .int) 1 := ⟨aw_588, aw_54, ⟨by decide, by decide, by decide +kernel⟩, aw_586, aw_587⟩
theorem my_X13_take : MV yX13_take cX13_take 2 (some .int) 1 := ⟨aw_1233, aw_71, ⟨by decide, by decide, by decide +kernel⟩, aw_1231, aw_1232⟩
theorem my_X12_potOf : MV yX12_potOf cX12_potOf 4 (some .int) 2 := ⟨aw_596, aw_54, ⟨by decide, by decide, by decide +kernel⟩, aw_594, aw_595⟩
theorem my_X13_potOf : MV yX13_potOf cX13_potOf 3 (some .int) 2 := ⟨aw_1241, aw_71, ⟨by decide, by decide, by decide +kernel⟩, aw_1239, aw_1240⟩
theorem my_X12_firedIn : MV yX12_firedIn cX12_firedIn 4 (some .int) 1 := ⟨aw_605, aw_54, ⟨by decide, by decide, by decide +kernel⟩, aw_603, aw_604⟩
theorem my_X13_firedIn : MV yX13_firedIn cX13_firedIn 4 (some .int) 1 := ⟨aw_1245, aw_71, ⟨by decide, by decide, by decide +kernel⟩, aw_1243, aw_1244⟩
theorem my_X12_wouldCrack : MV yX12_wouldCrack cX12_wouldCrack 2 (some .int) 1 := ⟨aw_614, aw_54, ⟨by decide, by decide, by decide +kernel⟩, aw_612, aw_613⟩
theorem my_X13_wouldCrack : MV yX13_wouldCrack cX13_wouldCrack 4 (some .int) 1 := ⟨aw_1257, aw_71, ⟨by decide, by decide, by decide +kernel⟩, aw_1255, aw_1256⟩
theorem my_X12_ranked : MV yX12_ranked cX12_ranked 2 (some .int) 1 := ⟨aw_623, aw_54, ⟨by decide, by decide, by decide +kernel⟩, aw_621, aw_622⟩
theorem my_X13_ranked : MV yX13_ranked cX13_ranked 5 (some .int) 1 := ⟨aw_1261, aw_71, ⟨by decide, by decide, by decide +kernel⟩, aw_1259, aw_1260⟩
theorem my_X12_degreesIn : MV yX12_degreesIn cX12_degreesIn 2 (some .int) 1 := ⟨aw_639, aw_54, ⟨by decide, by decide, by decide +kernel⟩, aw_637, aw_638⟩
theorem my_X13_degreesIn : MV yX13_degreesIn cX13_degreesIn 3 (some .int) 1 := ⟨aw_1273, aw_71, ⟨by decide, by decide, by decide +kernel⟩, aw_1271, aw_1272⟩
theorem my_X12_wanted : MV yX12_wanted cX12_wanted 1 (some .int) 0 := ⟨aw_643, aw_54, ⟨by decide, by decide, by decide +kernel⟩, aw_641, aw_642⟩
theorem my_X13_wanted : MV yX13_wanted cX13_wanted 1 (some .int) 0 := ⟨aw_1277, aw_71, ⟨by decide, by decide, by decide +kernel⟩, aw_1275, aw_1276⟩
theorem my_X12_settlesIn : MV yX12_settlesIn cX12_settlesIn 3 (some .int) 0 := ⟨aw_649, aw_54, ⟨by decide, by decide, by decide +kernel⟩, aw_647, aw_648⟩
theorem my_X13_settlesIn : MV yX13_settlesIn cX13_settlesIn 3 (some .int) 0 := ⟨aw_1281, aw_71, ⟨by decide, by decide, by decide +kernel⟩, aw_1279, aw_1280⟩
theorem my_X12_wouldOvershoot : MV yX12_wouldOvershoot cX12_wouldOvershoot 2 (some .int) 1 := ⟨aw_653, aw_54, ⟨by decide, by decide, by decide +kernel⟩, aw_651, aw_652⟩
theorem my_X13_wouldOvershoot : MV yX13_wouldOvershoot cX13_wouldOvershoot 3 (some .int) 1 := ⟨aw_1285, aw_71, ⟨by decide, by decide, by decide +kernel⟩, aw_1283, aw_1284⟩
theorem my_X12_logged : MV yX12_logged cX12_logged 3 (some .int) 2 := ⟨aw_657, aw_54, ⟨by decide, by decide, by decide +kernel⟩, aw_655, aw_656⟩
theorem my_X13_logged : MV yX13_logged cX13_logged 3 (some .int) 2 := ⟨aw_1289, aw_71, ⟨by decide, by decide, by decide +kernel⟩, aw_1287, aw_1288⟩
theorem my_X12_burnt : MV yX12_burnt cX12_burnt 1 (some .int) 0 := ⟨aw_665, aw_54, ⟨by decide, by decide, by decide +kernel⟩, aw_663, aw_664⟩
theorem my_X13_burnt : MV yX13_burnt cX13_burnt 1 (some .int) 0 := ⟨aw_1293, aw_71, ⟨by decide, by decide, by decide +kernel⟩, aw_1291, aw_1292⟩
theorem my_X12_burntAgain : MV yX12_burntAgain cX12_burntAgain 1 (some .int) 0 := ⟨aw_669, aw_54, ⟨by decide, by decide, by decide +kernel⟩, aw_667, aw_668⟩
theorem my_X12_minutesWith : MV yX12_minutesWith cX12_minutesWith 2 (some .int) 1 := ⟨aw_677, aw_54, ⟨by decide, by decide, by decide +kernel⟩, aw_675, aw_676⟩
theorem my_X13_minutesWith : MV yX13_minutesWith cX13_minutesWith 2 (some .int) 1 := ⟨aw_1301, aw_71, ⟨by decide, by decide, by decide +kernel⟩, aw_1299, aw_1300⟩
theorem my_X12_append : MV yX12_append cX12_append 2 (some .int) 1 := ⟨aw_682, aw_54, ⟨by decide, by decide, by decide +kernel⟩, aw_680, aw_681⟩
theorem my_X13_append : MV yX13_append cX13_append 2 (some .int) 1 := ⟨aw_1305, aw_71, ⟨by decide, by decide, by decide +kernel⟩, aw_1303, aw_1304⟩
theorem my_X12_run : MV yX12_run cX12_run 3 (some .int) 0 := ⟨aw_789, aw_54, ⟨by decide, by decide, by decide +kernel⟩, aw_787, aw_788⟩
theorem my_X13_run : MV yX13_run cX13_run 3 (some .int) 0 := ⟨aw_1309, aw_71, ⟨by decide, by decide, by decide +kernel⟩, aw_1307, aw_1308⟩
theorem my_X12_tell : MV yX12_tell cX12_tell 1 (some .int) 0 := ⟨aw_910, aw_54, ⟨by decide, by decide, by decide +kernel⟩, aw_908, aw_909⟩
theorem my_X13_tell : MV yX13_tell cX13_tell 2 (some .int) 0 := ⟨aw_1353, aw_71, ⟨by decide, by decide, by decide +kernel⟩, aw_1351, aw_1352⟩
theorem my_X12_tellPot : MV yX12_tellPot cX12_tellPot 3 (some .int) 1 := ⟨aw_961, aw_54, ⟨by decide, by decide, by decide +kernel⟩, aw_959, aw_960⟩
theorem my_X13_tellPot : MV yX13_tellPot cX13_tellPot 3 (some .int) 1 := ⟨aw_1369, aw_71, ⟨by decide, by decide, by decide +kernel⟩, aw_1367, aw_1368⟩
theorem my_X12_character : MV yX12_character cX12_character 2 (some .int) 1 := ⟨aw_976, aw_54, ⟨by decide, by decide, by decide +kernel⟩, aw_974, aw_975⟩
theorem my_X13_character : MV yX13_character cX13_character 2 (some .int) 1 := ⟨aw_1373, aw_71, ⟨by decide, by decide, by decide +kernel⟩, aw_1371, aw_1372⟩
theorem my_X12_account : MV yX12_account cX12_account 2 (some .int) 1 := ⟨aw_985, aw_54, ⟨by decide, by decide, by decide +kernel⟩, aw_983, aw_984⟩
theorem my_X13_account : MV yX13_account cX13_account 2 (some .int) 1 := ⟨aw_1381, aw_71, ⟨by decide, by decide, by decide +kernel⟩, aw_1379, aw_1380⟩
theorem my_X12_isBalanced : MV yX12_isBalanced cX12_isBalanced 1 (some .int) 0 := ⟨aw_1002, aw_54, ⟨by decide, by decide, by decide +kernel⟩, aw_1000, aw_1001⟩
theorem my_X13_isBalanced : MV yX13_isBalanced cX13_isBalanced 4 (some .int) 0 := ⟨aw_1389, aw_71, ⟨by decide, by decide, by decide +kernel⟩, aw_1387, aw_1388⟩
theorem my_X12_undo : MV yX12_undo cX12_undo 1 (some .int) 0 := ⟨aw_1024, aw_54, ⟨by decide, by decide, by decide +kernel⟩, aw_1022, aw_1023⟩
theorem my_X13_undo : MV yX13_undo cX13_undo 2 (some .int) 0 := ⟨aw_1402, aw_71, ⟨by decide, by decide, by decide +kernel⟩, aw_1400, aw_1401⟩
theorem my_X12_save : MV yX12_save cX12_save 1 (some .int) 0 := ⟨aw_1032, aw_54, ⟨by decide, by decide, by decide +kernel⟩, aw_1030, aw_1031⟩
theorem my_X13_save : MV yX13_save cX13_save 2 (some .int) 0 := ⟨aw_1406, aw_71, ⟨by decide, by decide, by decide +kernel⟩, aw_1404, aw_1405⟩
theorem my_X12_restore : MV yX12_restore cX12_restore 1 (some .int) 0 := ⟨aw_1036, aw_54, ⟨by decide, by decide, by decide +kernel⟩, aw_1034, aw_1035⟩
theorem my_X13_restore : MV yX13_restore cX13_restore 2 (some .int) 0 := ⟨aw_1410, aw_71, ⟨by decide, by decide, by decide +kernel⟩, aw_1408, aw_1409⟩
theorem my_X12_reason : MV yX12_reason cX12_reason 2 (some .int) 1 := ⟨aw_981, aw_54, ⟨by decide, by decide, by decide +kernel⟩, aw_979, aw_980⟩
theorem my_X13_reason : MV yX13_reason cX13_reason 2 (some .int) 1 := ⟨aw_1377, aw_71, ⟨by decide, by decide, by decide +kernel⟩, aw_1375, aw_1376⟩
theorem lw_c0 {X : XT} {G : GT} {A : Nat → Prop} {a : Id3 → Nat} {rt : Option FieldType} (C : CX X G A RL cL_law 8 rt room_1) {b Ln : Nat} {xs : Nat → Int32} (hX : va_X b Ln xs (xS X) (xS X).heap) (hbl : b < (xS X).heap.size) (hbA : ¬ A b) {it : Nat} (hit : 4 * it + 4 ≤ Ln) (hLn : Ln ≤ 2048) {Y : YT} (hS : SimE Y (12 * it)) {k n : Nat} (hk : k ≤ 590000) (hn : n ≤ 7000000) {Q : State → Prop} (next : ∀ Y' : YT, SimE Y' (12 * it + 12) → WY X G A a Y' (k + 18) (n + 3600) Q 980 (LWs b a it) []) : WY X G A a Y k n Q 184 (LWs b a it) [] := by
  obtain ⟨c, st, tl, ll, h⟩ := hS
  refine y_aload_n (pc' := 185) rfl C dL_law_184 rfl ?_
  refine y_arg (pc' := 190) rfl C hX hbl hbA dL_law_185 dL_law_186 dL_law_187 dL_law_188 dL_law_189 rfl rfl rfl (show 4 * it + 1 < Ln by omega) (show Ln < 2 ^ 31 by omega) ?_
  refine y_cVi (pc' := 193) (k' := k) (n' := n) rfl C (c_X12_aim _ G a Y c st (12 * it) (Y (4, 0, 0)) (xs (4 * it + 1)) h.k0 h.c8 h.k1 h.s8 h.R h.I (by omega)) my_X12_aim aw_376 (v2 rfl) rfl rfl rfl rfl rfl (Nat.le_of_ble_eq_true rfl) (lwr (by decide) (by decide) (by omega) (by omega)) dL_law_190 rfl rfl (fun r Y1 hp => ?_)
  have hm := hp.m
  refine y_aload_n (pc' := 194) rfl C dL_law_193 rfl ?_
  refine y_arg (pc' := 199) rfl C hX hbl hbA dL_law_194 dL_law_195 dL_law_196 dL_law_197 dL_law_198 rfl rfl rfl (show 4 * it + 1 < Ln by omega) (show Ln < 2 ^ 31 by omega) ?_
  refine y_cVi (pc' := 202) (k' := k) (n' := n) rfl C (c_X13_aim _ G a Y1 c (xs (4 * it + 1)) (by rw [hm]; exact h.m5) h.c8) my_X13_aim aw_1104 (v4 rfl) rfl rfl rfl rfl rfl (Nat.le_of_ble_eq_true rfl) (lwr (by decide) (by decide) (by omega) (by omega)) dL_law_199 rfl rfl (fun r' Y2 hp2 => ?_)
  rw [hm 0] at hp2
  obtain ⟨he, hS2⟩ := sim_act h hp hp2.1 hp2.2
  refine y_ic_eq (pc' := 205) (tgt := 980) rfl C dL_law_202 (by decide) (fun _ => y_widen (by omega) (by omega) (next Y2 hS2)) (fun hne => absurd he hne)
theorem lw_c1 {X : XT} {G : GT} {A : Nat → Prop} {a : Id3 → Nat} {rt : Option FieldType} (C : CX X G A RL cL_law 8 rt room_1) {b Ln : Nat} {xs : Nat → Int32} (hX : va_X b Ln xs (xS X) (xS X).heap) (hbl : b < (xS X).heap.size) (hbA : ¬ A b) {it : Nat} (hit : 4 * it + 4 ≤ Ln) (hLn : Ln ≤ 2048) {Y : YT} (hS : SimE Y (12 * it)) {k n : Nat} (hk : k ≤ 590000) (hn : n ≤ 7000000) {Q : State → Prop} (next : ∀ Y' : YT, SimE Y' (12 * it + 12) → WY X G A a Y' (k + 18) (n + 3600) Q 980 (LWs b a it) []) : WY X G A a Y k n Q 207 (LWs b a it) [] := by
  obtain ⟨c, st, tl, ll, h⟩ := hS
  refine y_aload_n (pc' := 208) rfl C dL_law_207 rfl ?_
  refine y_arg (pc' := 213) rfl C hX hbl hbA dL_law_208 dL_law_209 dL_law_210 dL_law_211 dL_law_212 rfl rfl rfl (show 4 * it + 1 < Ln by omega) (show Ln < 2 ^ 31 by omega) ?_
  refine y_arg (pc' := 218) rfl C hX hbl hbA dL_law_213 dL_law_214 dL_law_215 dL_law_216 dL_law_217 rfl rfl rfl (show 4 * it + 2 < Ln by omega) (show Ln < 2 ^ 31 by omega) ?_
  refine y_arg (pc' := 223) rfl C hX hbl hbA dL_law_218 dL_law_219 dL_law_220 dL_law_221 dL_law_222 rfl rfl rfl (show 4 * it + 3 < Ln by omega) (show Ln < 2 ^ 31 by omega) ?_
  refine y_cVi (pc' := 226) (k' := k) (n' := n) rfl C (c_X12_gains _ G a Y c st (12 * it) (Y (4, 0, 0)) (xs (4 * it + 1)) (xs (4 * it + 2)) (xs (4 * it + 3)) h.k0 h.c8 h.k1 h.s8 h.R h.I (by omega)) my_X12_gains aw_440 (v2 rfl) rfl rfl rfl rfl rfl (Nat.le_of_ble_eq_true rfl) (lwr (by decide) (by decide) (by omega) (by omega)) dL_law_223 rfl rfl (fun r Y1 hp => ?_)
  have hm := hp.m
  refine y_aload_n (pc' := 227) rfl C dL_law_226 rfl ?_
  refine y_arg (pc' := 232) rfl C hX hbl hbA dL_law_227 dL_law_228 dL_law_229 dL_law_230 dL_law_231 rfl rfl rfl (show 4 * it + 1 < Ln by omega) (show Ln < 2 ^ 31 by omega) ?_
  refine y_arg (pc' := 237) rfl C hX hbl hbA dL_law_232 dL_law_233 dL_law_234 dL_law_235 dL_law_236 rfl rfl rfl (show 4 * it + 2 < Ln by omega) (show Ln < 2 ^ 31 by omega) ?_
  refine y_arg (pc' := 242) rfl C hX hbl hbA dL_law_237 dL_law_238 dL_law_239 dL_law_240 dL_law_241 rfl rfl rfl (show 4 * it + 3 < Ln by omega) (show Ln < 2 ^ 31 by omega) ?_
  refine y_cVi (pc' := 245) (k' := k) (n' := n) rfl C (c_X13_gains _ G a Y1 c (xs (4 * it + 1)) (xs (4 * it + 2)) (xs (4 * it + 3)) (by rw [hm]; exact h.m5) h.c8) my_X13_gains aw_1135 (v4 rfl) rfl rfl rfl rfl rfl (Nat.le_of_ble_eq_true rfl) (lwr (by decide) (by decide) (by omega) (by omega)) dL_law_242 rfl rfl (fun r' Y2 hp2 => ?_)
  rw [hm 0] at hp2
  obtain ⟨he, hS2⟩ := sim_act h hp hp2.1 hp2.2
  refine y_ic_eq (pc' := 248) (tgt := 980) rfl C dL_law_245 (by decide) (fun _ => y_widen (by omega) (by omega) (next Y2 hS2)) (fun hne => absurd he hne)
theorem lw_c2 {X : XT} {G : GT} {A : Nat → Prop} {a : Id3 → Nat} {rt : Option FieldType} (C : CX X G A RL cL_law 8 rt room_1) {b Ln : Nat} {xs : Nat → Int32} (hX : va_X b Ln xs (xS X) (xS X).heap) (hbl : b < (xS X).heap.size) (hbA : ¬ A b) {it : Nat} (hit : 4 * it + 4 ≤ Ln) (hLn : Ln ≤ 2048) {Y : YT} (hS : SimE Y (12 * it)) {k n : Nat} (hk : k ≤ 590000) (hn : n ≤ 7000000) {Q : State → Prop} (next : ∀ Y' : YT, SimE Y' (12 * it + 12) → WY X G A a Y' (k + 18) (n + 3600) Q 980 (LWs b a it) []) : WY X G A a Y k n Q 250 (LWs b a it) [] := by
  obtain ⟨c, st, tl, ll, h⟩ := hS
  refine y_aload_n (pc' := 251) rfl C dL_law_250 rfl ?_
  refine y_arg (pc' := 256) rfl C hX hbl hbA dL_law_251 dL_law_252 dL_law_253 dL_law_254 dL_law_255 rfl rfl rfl (show 4 * it + 1 < Ln by omega) (show Ln < 2 ^ 31 by omega) ?_
  refine y_cVi (pc' := 259) (k' := k) (n' := n) rfl C (c_X12_cap _ G a Y c st (12 * it) (Y (4, 0, 0)) (xs (4 * it + 1)) h.k0 h.c8 h.k1 h.s8 h.R h.I (by omega)) my_X12_cap aw_449 (v2 rfl) rfl rfl rfl rfl rfl (Nat.le_of_ble_eq_true rfl) (lwr (by decide) (by decide) (by omega) (by omega)) dL_law_256 rfl rfl (fun r Y1 hp => ?_)
  have hm := hp.m
  refine y_aload_n (pc' := 260) rfl C dL_law_259 rfl ?_
  refine y_arg (pc' := 265) rfl C hX hbl hbA dL_law_260 dL_law_261 dL_law_262 dL_law_263 dL_law_264 rfl rfl rfl (show 4 * it + 1 < Ln by omega) (show Ln < 2 ^ 31 by omega) ?_
  refine y_cVi (pc' := 268) (k' := k) (n' := n) rfl C (c_X13_cap _ G a Y1 c (xs (4 * it + 1)) (by rw [hm]; exact h.m5) h.c8) my_X13_cap aw_1143 (v4 rfl) rfl rfl rfl rfl rfl (Nat.le_of_ble_eq_true rfl) (lwr (by decide) (by decide) (by omega) (by omega)) dL_law_265 rfl rfl (fun r' Y2 hp2 => ?_)
  rw [hm 0] at hp2
  obtain ⟨he, hS2⟩ := sim_act h hp hp2.1 hp2.2
  refine y_ic_eq (pc' := 271) (tgt := 980) rfl C dL_law_268 (by decide) (fun _ => y_widen (by omega) (by omega) (next Y2 hS2)) (fun hne => absurd he hne)
theorem lw_c3 {X : XT} {G : GT} {A : Nat → Prop} {a : Id3 → Nat} {rt : Option FieldType} (C : CX X G A RL cL_law 8 rt room_1) {b Ln : Nat} {xs : Nat → Int32} (hX : va_X b Ln xs (xS X) (xS X).heap) (hbl : b < (xS X).heap.size) (hbA : ¬ A b) {it : Nat} (hit : 4 * it + 4 ≤ Ln) (hLn : Ln ≤ 2048) {Y : YT} (hS : SimE Y (12 * it)) {k n : Nat} (hk : k ≤ 590000) (hn : n ≤ 7000000) {Q : State → Prop} (next : ∀ Y' : YT, SimE Y' (12 * it + 12) → WY X G A a Y' (k + 18) (n + 3600) Q 980 (LWs b a it) []) : WY X G A a Y k n Q 273 (LWs b a it) [] := by
  obtain ⟨c, st, tl, ll, h⟩ := hS
  refine y_aload_n (pc' := 274) rfl C dL_law_273 rfl ?_
  refine y_arg (pc' := 279) rfl C hX hbl hbA dL_law_274 dL_law_275 dL_law_276 dL_law_277 dL_law_278 rfl rfl rfl (show 4 * it + 1 < Ln by omega) (show Ln < 2 ^ 31 by omega) ?_
  refine y_cVi (pc' := 282) (k' := k) (n' := n) rfl C (c_X12_lag _ G a Y c st (12 * it) (Y (4, 0, 0)) (xs (4 * it + 1)) h.k0 h.c8 h.k1 h.s8 h.R h.I (by omega)) my_X12_lag aw_461 (v2 rfl) rfl rfl rfl rfl rfl (Nat.le_of_ble_eq_true rfl) (lwr (by decide) (by decide) (by omega) (by omega)) dL_law_279 rfl rfl (fun r Y1 hp => ?_)
  have hm := hp.m
  refine y_aload_n (pc' := 283) rfl C dL_law_282 rfl ?_
  refine y_arg (pc' := 288) rfl C hX hbl hbA dL_law_283 dL_law_284 dL_law_285 dL_law_286 dL_law_287 rfl rfl rfl (show 4 * it + 1 < Ln by omega) (show Ln < 2 ^ 31 by omega) ?_
  refine y_cVi (pc' := 291) (k' := k) (n' := n) rfl C (c_X13_lag _ G a Y1 c (nn (Y (4, 0, 0) 8)) (xs (4 * it + 1)) (by rw [hm]; exact h.m5) h.c8 (by rw [hm]; exact h.h8) h.lg) my_X13_lag aw_1154 (v4 rfl) rfl rfl rfl rfl rfl (Nat.le_of_ble_eq_true rfl) (lwr (by decide) (by decide) (by omega) (by omega)) dL_law_288 rfl rfl (fun r' Y2 hp2 => ?_)
  rw [hm 0] at hp2
  obtain ⟨he, hS2⟩ := sim_act h hp hp2.1 hp2.2
  refine y_ic_eq (pc' := 294) (tgt := 980) rfl C dL_law_291 (by decide) (fun _ => y_widen (by omega) (by omega) (next Y2 hS2)) (fun hne => absurd he hne)
theorem lw_c4 {X : XT} {G : GT} {A : Nat → Prop} {a : Id3 → Nat} {rt : Option FieldType} (C : CX X G A RL cL_law 8 rt room_1) {b Ln : Nat} {xs : Nat → Int32} (hX : va_X b Ln xs (xS X) (xS X).heap) (hbl : b < (xS X).heap.size) (hbA : ¬ A b) {it : Nat} (hit : 4 * it + 4 ≤ Ln) (hLn : Ln ≤ 2048) {Y : YT} (hS : SimE Y (12 * it)) {k n : Nat} (hk : k ≤ 590000) (hn : n ≤ 7000000) {Q : State → Prop} (next : ∀ Y' : YT, SimE Y' (12 * it + 12) → WY X G A a Y' (k + 18) (n + 3600) Q 980 (LWs b a it) []) : WY X G A a Y k n Q 296 (LWs b a it) [] := by
  obtain ⟨c, st, tl, ll, h⟩ := hS
  refine y_aload_n (pc' := 297) rfl C dL_law_296 rfl ?_
  refine y_arg (pc' := 302) rfl C hX hbl hbA dL_law_297 dL_law_298 dL_law_299 dL_law_300 dL_law_301 rfl rfl rfl (show 4 * it + 1 < Ln by omega) (show Ln < 2 ^ 31 by omega) ?_
  refine y_cVi (pc' := 305) (k' := k) (n' := n) rfl C (c_X12_fuel _ G a Y c st (12 * it) (Y (4, 0, 0)) (xs (4 * it + 1)) h.k0 h.c8 h.k1 h.s8 h.R h.I (by omega)) my_X12_fuel aw_483 (v2 rfl) rfl rfl rfl rfl rfl (Nat.le_of_ble_eq_true rfl) (lwr (by decide) (by decide) (by omega) (by omega)) dL_law_302 rfl rfl (fun r Y1 hp => ?_)
  have hm := hp.m
  refine y_aload_n (pc' := 306) rfl C dL_law_305 rfl ?_
  refine y_arg (pc' := 311) rfl C hX hbl hbA dL_law_306 dL_law_307 dL_law_308 dL_law_309 dL_law_310 rfl rfl rfl (show 4 * it + 1 < Ln by omega) (show Ln < 2 ^ 31 by omega) ?_
  refine y_cVi (pc' := 314) (k' := k) (n' := n) rfl C (c_X13_fuel _ G a Y1 c (xs (4 * it + 1)) (by rw [hm]; exact h.m5) h.c8) my_X13_fuel aw_1166 (v4 rfl) rfl rfl rfl rfl rfl (Nat.le_of_ble_eq_true rfl) (lwr (by decide) (by decide) (by omega) (by omega)) dL_law_311 rfl rfl (fun r' Y2 hp2 => ?_)
  rw [hm 0] at hp2
  obtain ⟨he, hS2⟩ := sim_act h hp hp2.1 hp2.2
  refine y_ic_eq (pc' := 317) (tgt := 980) rfl C dL_law_314 (by decide) (fun _ => y_widen (by omega) (by omega) (next Y2 hS2)) (fun hne => absurd he hne)
theorem lw_c5 {X : XT} {G : GT} {A : Nat → Prop} {a : Id3 → Nat} {rt : Option FieldType} (C : CX X G A RL cL_law 8 rt room_1) {b Ln : Nat} {xs : Nat → Int32} (hX : va_X b Ln xs (xS X) (xS X).heap) (hbl : b < (xS X).heap.size) (hbA : ¬ A b) {it : Nat} (hit : 4 * it + 4 ≤ Ln) (hLn : Ln ≤ 2048) {Y : YT} (hS : SimE Y (12 * it)) {k n : Nat} (hk : k ≤ 590000) (hn : n ≤ 7000000) {Q : State → Prop} (next : ∀ Y' : YT, SimE Y' (12 * it + 12) → WY X G A a Y' (k + 18) (n + 3600) Q 980 (LWs b a it) []) : WY X G A a Y k n Q 319 (LWs b a it) [] := by
  obtain ⟨c, st, tl, ll, h⟩ := hS
  refine y_aload_n (pc' := 320) rfl C dL_law_319 rfl ?_
  refine y_arg (pc' := 325) rfl C hX hbl hbA dL_law_320 dL_law_321 dL_law_322 dL_law_323 dL_law_324 rfl rfl rfl (show 4 * it + 1 < Ln by omega) (show Ln < 2 ^ 31 by omega) ?_
  refine y_cVi (pc' := 328) (k' := k) (n' := n) rfl C (c_X12_go _ G a Y c st (12 * it) (Y (4, 0, 0)) (xs (4 * it + 1)) h.k0 h.c8 h.k1 h.s8 h.R h.I (by omega)) my_X12_go aw_492 (v2 rfl) rfl rfl rfl rfl rfl (Nat.le_of_ble_eq_true rfl) (lwr (by decide) (by decide) (by omega) (by omega)) dL_law_325 rfl rfl (fun r Y1 hp => ?_)
  have hm := hp.m
  refine y_aload_n (pc' := 329) rfl C dL_law_328 rfl ?_
  refine y_arg (pc' := 334) rfl C hX hbl hbA dL_law_329 dL_law_330 dL_law_331 dL_law_332 dL_law_333 rfl rfl rfl (show 4 * it + 1 < Ln by omega) (show Ln < 2 ^ 31 by omega) ?_
  refine y_cVi (pc' := 337) (k' := k) (n' := n) rfl C (c_X13_go _ G a Y1 c (xs (4 * it + 1)) (by rw [hm]; exact h.m5) h.c8 (by rw [hm]; exact h.ok (by omega))) my_X13_go aw_1174 (v4 rfl) rfl rfl rfl rfl rfl (Nat.le_of_ble_eq_true rfl) (lwr (by decide) (by decide) (by omega) (by omega)) dL_law_334 rfl rfl (fun r' Y2 hp2 => ?_)
  rw [hm 0] at hp2
  obtain ⟨he, hS2⟩ := sim_act h hp hp2.1 hp2.2
  refine y_ic_eq (pc' := 340) (tgt := 980) rfl C dL_law_337 (by decide) (fun _ => y_widen (by omega) (by omega) (next Y2 hS2)) (fun hne => absurd he hne)
theorem lw_c6 {X : XT} {G : GT} {A : Nat → Prop} {a : Id3 → Nat} {rt : Option FieldType} (C : CX X G A RL cL_law 8 rt room_1) {b Ln : Nat} {xs : Nat → Int32} (hX : va_X b Ln xs (xS X) (xS X).heap) (hbl : b < (xS X).heap.size) (hbA : ¬ A b) {it : Nat} (hit : 4 * it + 4 ≤ Ln) (hLn : Ln ≤ 2048) {Y : YT} (hS : SimE Y (12 * it)) {k n : Nat} (hk : k ≤ 590000) (hn : n ≤ 7000000) {Q : State → Prop} (next : ∀ Y' : YT, SimE Y' (12 * it + 12) → WY X G A a Y' (k + 18) (n + 3600) Q 980 (LWs b a it) []) : WY X G A a Y k n Q 342 (LWs b a it) [] := by
  obtain ⟨c, st, tl, ll, h⟩ := hS
  refine y_aload_n (pc' := 343) rfl C dL_law_342 rfl ?_
  refine y_arg (pc' := 348) rfl C hX hbl hbA dL_law_343 dL_law_344 dL_law_345 dL_law_346 dL_law_347 rfl rfl rfl (show 4 * it + 1 < Ln by omega) (show Ln < 2 ^ 31 by omega) ?_
  refine y_arg (pc' := 353) rfl C hX hbl hbA dL_law_348 dL_law_349 dL_law_350 dL_law_351 dL_law_352 rfl rfl rfl (show 4 * it + 2 < Ln by omega) (show Ln < 2 ^ 31 by omega) ?_
  refine y_arg (pc' := 358) rfl C hX hbl hbA dL_law_353 dL_law_354 dL_law_355 dL_law_356 dL_law_357 rfl rfl rfl (show 4 * it + 3 < Ln by omega) (show Ln < 2 ^ 31 by omega) ?_
  refine y_cVi (pc' := 361) (k' := k) (n' := n) rfl C (c_X12_pot _ G a Y c st (12 * it) (Y (4, 0, 0)) (xs (4 * it + 1)) (xs (4 * it + 2)) (xs (4 * it + 3)) h.k0 h.c8 h.k1 h.s8 h.R h.I (by omega)) my_X12_pot aw_559 (v2 rfl) rfl rfl rfl rfl rfl (Nat.le_of_ble_eq_true rfl) (lwr (by decide) (by decide) (by omega) (by omega)) dL_law_358 rfl rfl (fun r Y1 hp => ?_)
  have hm := hp.m
  refine y_aload_n (pc' := 362) rfl C dL_law_361 rfl ?_
  refine y_arg (pc' := 367) rfl C hX hbl hbA dL_law_362 dL_law_363 dL_law_364 dL_law_365 dL_law_366 rfl rfl rfl (show 4 * it + 1 < Ln by omega) (show Ln < 2 ^ 31 by omega) ?_
  refine y_arg (pc' := 372) rfl C hX hbl hbA dL_law_367 dL_law_368 dL_law_369 dL_law_370 dL_law_371 rfl rfl rfl (show 4 * it + 2 < Ln by omega) (show Ln < 2 ^ 31 by omega) ?_
  refine y_arg (pc' := 377) rfl C hX hbl hbA dL_law_372 dL_law_373 dL_law_374 dL_law_375 dL_law_376 rfl rfl rfl (show 4 * it + 3 < Ln by omega) (show Ln < 2 ^ 31 by omega) ?_
  refine y_cVi (pc' := 380) (k' := k) (n' := n) rfl C (c_X13_pot _ G a Y1 c (nn (Y (4, 0, 0) 15)) (xs (4 * it + 1)) (xs (4 * it + 2)) (xs (4 * it + 3)) (by rw [hm]; exact h.m5) h.c8 h.np (by rw [hm]; exact h.h15)) my_X13_pot aw_1206 (v4 rfl) rfl rfl rfl rfl rfl (Nat.le_of_ble_eq_true rfl) (lwr (by decide) (by decide) (by omega) (by omega)) dL_law_377 rfl rfl (fun r' Y2 hp2 => ?_)
  rw [hm 0] at hp2
  obtain ⟨he, hS2⟩ := sim_act h hp hp2.1 hp2.2
  refine y_ic_eq (pc' := 383) (tgt := 980) rfl C dL_law_380 (by decide) (fun _ => y_widen (by omega) (by omega) (next Y2 hS2)) (fun hne => absurd he hne)
theorem lw_c7 {X : XT} {G : GT} {A : Nat → Prop} {a : Id3 → Nat} {rt : Option FieldType} (C : CX X G A RL cL_law 8 rt room_1) {b Ln : Nat} {xs : Nat → Int32} (hX : va_X b Ln xs (xS X) (xS X).heap) (hbl : b < (xS X).heap.size) (hbA : ¬ A b) {it : Nat} (hit : 4 * it + 4 ≤ Ln) (hLn : Ln ≤ 2048) {Y : YT} (hS : SimE Y (12 * it)) {k n : Nat} (hk : k ≤ 590000) (hn : n ≤ 7000000) {Q : State → Prop} (next : ∀ Y' : YT, SimE Y' (12 * it + 12) → WY X G A a Y' (k + 18) (n + 3600) Q 980 (LWs b a it) []) : WY X G A a Y k n Q 385 (LWs b a it) [] := by
  obtain ⟨c, st, tl, ll, h⟩ := hS
  refine y_aload_n (pc' := 386) rfl C dL_law_385 rfl ?_
  refine y_arg (pc' := 391) rfl C hX hbl hbA dL_law_386 dL_law_387 dL_law_388 dL_law_389 dL_law_390 rfl rfl rfl (show 4 * it + 1 < Ln by omega) (show Ln < 2 ^ 31 by omega) ?_
  refine y_cVi (pc' := 394) (k' := k) (n' := n) rfl C (c_X12_put _ G a Y c st (12 * it) (Y (4, 0, 0)) (xs (4 * it + 1)) h.k0 h.c8 h.k1 h.s8 h.R h.I (by omega)) my_X12_put aw_573 (v2 rfl) rfl rfl rfl rfl rfl (Nat.le_of_ble_eq_true rfl) (lwr (by decide) (by decide) (by omega) (by omega)) dL_law_391 rfl rfl (fun r Y1 hp => ?_)
  have hm := hp.m
  refine y_aload_n (pc' := 395) rfl C dL_law_394 rfl ?_
  refine y_arg (pc' := 400) rfl C hX hbl hbA dL_law_395 dL_law_396 dL_law_397 dL_law_398 dL_law_399 rfl rfl rfl (show 4 * it + 1 < Ln by omega) (show Ln < 2 ^ 31 by omega) ?_
  refine y_cVi (pc' := 403) (k' := k) (n' := n) rfl C (c_X13_put _ G a Y1 c (nn (Y (4, 0, 0) 15)) (xs (4 * it + 1)) (by rw [hm]; exact h.m5) h.c8 h.np (by rw [hm]; exact h.h15)) my_X13_put aw_1214 (v4 rfl) rfl rfl rfl rfl rfl (Nat.le_of_ble_eq_true rfl) (lwr (by decide) (by decide) (by omega) (by omega)) dL_law_400 rfl rfl (fun r' Y2 hp2 => ?_)
  rw [hm 0] at hp2
  obtain ⟨he, hS2⟩ := sim_act h hp hp2.1 hp2.2
  refine y_ic_eq (pc' := 406) (tgt := 980) rfl C dL_law_403 (by decide) (fun _ => y_widen (by omega) (by omega) (next Y2 hS2)) (fun hne => absurd he hne)
theorem lw_c8 {X : XT} {G : GT} {A : Nat → Prop} {a : Id3 → Nat} {rt : Option FieldType} (C : CX X G A RL cL_law 8 rt room_1) {b Ln : Nat} {xs : Nat → Int32} (hX : va_X b Ln xs (xS X) (xS X).heap) (hbl : b < (xS X).heap.size) (hbA : ¬ A b) {it : Nat} (hit : 4 * it + 4 ≤ Ln) (hLn : Ln ≤ 2048) {Y : YT} (hS : SimE Y (12 * it)) {k n : Nat} (hk : k ≤ 590000) (hn : n ≤ 7000000) {Q : State → Prop} (next : ∀ Y' : YT, SimE Y' (12 * it + 12) → WY X G A a Y' (k + 18) (n + 3600) Q 980 (LWs b a it) []) : WY X G A a Y k n Q 408 (LWs b a it) [] := by
  obtain ⟨c, st, tl, ll, h⟩ := hS
  refine y_aload_n (pc' := 409) rfl C dL_law_408 rfl ?_
  refine y_arg (pc' := 414) rfl C hX hbl hbA dL_law_409 dL_law_410 dL_law_411 dL_law_412 dL_law_413 rfl rfl rfl (show 4 * it + 1 < Ln by omega) (show Ln < 2 ^ 31 by omega) ?_
  refine y_cVi (pc' := 417) (k' := k) (n' := n) rfl C (c_X12_take _ G a Y c st (12 * it) (Y (4, 0, 0)) (xs (4 * it + 1)) h.k0 h.c8 h.k1 h.s8 h.R h.I (by omega)) my_X12_take aw_585 (v2 rfl) rfl rfl rfl rfl rfl (Nat.le_of_ble_eq_true rfl) (lwr (by decide) (by decide) (by omega) (by omega)) dL_law_414 rfl rfl (fun r Y1 hp => ?_)
  have hm := hp.m
  refine y_aload_n (pc' := 418) rfl C dL_law_417 rfl ?_
  refine y_arg (pc' := 423) rfl C hX hbl hbA dL_law_418 dL_law_419 dL_law_420 dL_law_421 dL_law_422 rfl rfl rfl (show 4 * it + 1 < Ln by omega) (show Ln < 2 ^ 31 by omega) ?_
  refine y_cVi (pc' := 426) (k' := k) (n' := n) rfl C (c_X13_take _ G a Y1 c (nn (Y (4, 0, 0) 15)) (xs (4 * it + 1)) (by rw [hm]; exact h.m5) h.c8 h.np (by rw [hm]; exact h.h15)) my_X13_take aw_1230 (v4 rfl) rfl rfl rfl rfl rfl (Nat.le_of_ble_eq_true rfl) (lwr (by decide) (by decide) (by omega) (by omega)) dL_law_423 rfl rfl (fun r' Y2 hp2 => ?_)
  rw [hm 0] at hp2
  obtain ⟨he, hS2⟩ := sim_act h hp hp2.1 hp2.2
  refine y_ic_eq (pc' := 429) (tgt := 980) rfl C dL_law_426 (by decide) (fun _ => y_widen (by omega) (by omega) (next Y2 hS2)) (fun hne => absurd he hne)
theorem lw_c9 {X : XT} {G : GT} {A : Nat → Prop} {a : Id3 → Nat} {rt : Option FieldType} (C : CX X G A RL cL_law 8 rt room_1) {b Ln : Nat} {xs : Nat → Int32} (hX : va_X b Ln xs (xS X) (xS X).heap) (hbl : b < (xS X).heap.size) (hbA : ¬ A b) {it : Nat} (hit : 4 * it + 4 ≤ Ln) (hLn : Ln ≤ 2048) {Y : YT} (hS : SimE Y (12 * it)) {k n : Nat} (hk : k ≤ 590000) (hn : n ≤ 7000000) {Q : State → Prop} (next : ∀ Y' : YT, SimE Y' (12 * it + 12) → WY X G A a Y' (k + 18) (n + 3600) Q 980 (LWs b a it) []) : WY X G A a Y k n Q 431 (LWs b a it) [] := by
  obtain ⟨c, st, tl, ll, h⟩ := hS
  refine y_aload_n (pc' := 432) rfl C dL_law_431 rfl ?_
  refine y_arg (pc' := 437) rfl C hX hbl hbA dL_law_432 dL_law_433 dL_law_434 dL_law_435 dL_law_436 rfl rfl rfl (show 4 * it + 1 < Ln by omega) (show Ln < 2 ^ 31 by omega) ?_
  refine y_arg (pc' := 442) rfl C hX hbl hbA dL_law_437 dL_law_438 dL_law_439 dL_law_440 dL_law_441 rfl rfl rfl (show 4 * it + 2 < Ln by omega) (show Ln < 2 ^ 31 by omega) ?_
  refine y_cVi (pc' := 445) (k' := k) (n' := n) rfl C (c_X12_potOf _ G a Y (12 * it) (Y (4, 0, 0)) (xs (4 * it + 1)) (xs (4 * it + 2)) h.R h.I (by omega)) my_X12_potOf aw_593 (v2 rfl) rfl rfl rfl rfl rfl (Nat.le_of_ble_eq_true rfl) (lwr (by decide) (by decide) (by omega) (by omega)) dL_law_442 rfl rfl (fun r Y1 hp => ?_)
  obtain ⟨e1, e2⟩ := hp
  rw [e2]
  refine y_aload_n (pc' := 446) rfl C dL_law_445 rfl ?_
  refine y_arg (pc' := 451) rfl C hX hbl hbA dL_law_446 dL_law_447 dL_law_448 dL_law_449 dL_law_450 rfl rfl rfl (show 4 * it + 1 < Ln by omega) (show Ln < 2 ^ 31 by omega) ?_
  refine y_arg (pc' := 456) rfl C hX hbl hbA dL_law_451 dL_law_452 dL_law_453 dL_law_454 dL_law_455 rfl rfl rfl (show 4 * it + 2 < Ln by omega) (show Ln < 2 ^ 31 by omega) ?_
  refine y_cVi (pc' := 459) (k' := k) (n' := n) rfl C (c_X13_potOf _ G a Y (nn (Y (4, 0, 0) 15)) (xs (4 * it + 1)) (xs (4 * it + 2)) h.np h.h15) my_X13_potOf aw_1238 (v4 rfl) rfl rfl rfl rfl rfl (Nat.le_of_ble_eq_true rfl) (lwr (by decide) (by decide) (by omega) (by omega)) dL_law_456 rfl rfl (fun r' Y2 hp2 => ?_)
  obtain ⟨g1, g2⟩ := hp2
  have hS2 : SimE Y2 (12 * it + 12) := by rw [g2]; exact ⟨c, st, tl, ll, h.up (by omega)⟩
  have he : r = r' := e1.trans g1.symm
  refine y_ic_eq (pc' := 462) (tgt := 980) rfl C dL_law_459 (by decide) (fun _ => y_widen (by omega) (by omega) (next Y2 hS2)) (fun hne => absurd he hne)
theorem lw_c10 {X : XT} {G : GT} {A : Nat → Prop} {a : Id3 → Nat} {rt : Option FieldType} (C : CX X G A RL cL_law 8 rt room_1) {b Ln : Nat} {xs : Nat → Int32} (hX : va_X b Ln xs (xS X) (xS X).heap) (hbl : b < (xS X).heap.size) (hbA : ¬ A b) {it : Nat} (hit : 4 * it + 4 ≤ Ln) (hLn : Ln ≤ 2048) {Y : YT} (hS : SimE Y (12 * it)) {k n : Nat} (hk : k ≤ 590000) (hn : n ≤ 7000000) {Q : State → Prop} (next : ∀ Y' : YT, SimE Y' (12 * it + 12) → WY X G A a Y' (k + 18) (n + 3600) Q 980 (LWs b a it) []) : WY X G A a Y k n Q 464 (LWs b a it) [] := by
  obtain ⟨c, st, tl, ll, h⟩ := hS
  refine y_aload_n (pc' := 465) rfl C dL_law_464 rfl ?_
  refine y_arg (pc' := 470) rfl C hX hbl hbA dL_law_465 dL_law_466 dL_law_467 dL_law_468 dL_law_469 rfl rfl rfl (show 4 * it + 1 < Ln by omega) (show Ln < 2 ^ 31 by omega) ?_
  refine y_cVi (pc' := 473) (k' := k) (n' := n) rfl C (c_X12_firedIn _ G a Y (12 * it) (Y (4, 0, 0)) (xs (4 * it + 1)) h.R h.I (by omega)) my_X12_firedIn aw_602 (v2 rfl) rfl rfl rfl rfl rfl (Nat.le_of_ble_eq_true rfl) (lwr (by decide) (by decide) (by omega) (by omega)) dL_law_470 rfl rfl (fun r Y1 hp => ?_)
  have hm := hp.2.m
  have h1 := h.f1 hp.2
  refine y_aload_n (pc' := 474) rfl C dL_law_473 rfl ?_
  refine y_arg (pc' := 479) rfl C hX hbl hbA dL_law_474 dL_law_475 dL_law_476 dL_law_477 dL_law_478 rfl rfl rfl (show 4 * it + 1 < Ln by omega) (show Ln < 2 ^ 31 by omega) ?_
  refine y_cVi (pc' := 482) (k' := k) (n' := n) rfl C (c_X13_firedIn _ G a Y1 (nn (Y (4, 0, 0) 15)) (xs (4 * it + 1)) h.np (by rw [hm]; exact h.h15) (by rw [hm]; exact h.ok (by omega))) my_X13_firedIn aw_1242 (v4 rfl) rfl rfl rfl rfl rfl (Nat.le_of_ble_eq_true rfl) (lwr (by decide) (by decide) (by omega) (by omega)) dL_law_479 rfl rfl (fun r' Y2 hp2 => ?_)
  rw [hm 0] at hp2
  have he : r = r' := hp.1.trans hp2.1.symm
  have hS2 : SimE Y2 (12 * it + 12) := ⟨c, st, tl, ll, by rw [hp2.2]; exact (h1.m3i).up (by omega)⟩
  refine y_ic_eq (pc' := 485) (tgt := 980) rfl C dL_law_482 (by decide) (fun _ => y_widen (by omega) (by omega) (next Y2 hS2)) (fun hne => absurd he hne)
theorem lw_c11 {X : XT} {G : GT} {A : Nat → Prop} {a : Id3 → Nat} {rt : Option FieldType} (C : CX X G A RL cL_law 8 rt room_1) {b Ln : Nat} {xs : Nat → Int32} (hX : va_X b Ln xs (xS X) (xS X).heap) (hbl : b < (xS X).heap.size) (hbA : ¬ A b) {it : Nat} (hit : 4 * it + 4 ≤ Ln) (hLn : Ln ≤ 2048) {Y : YT} (hS : SimE Y (12 * it)) {k n : Nat} (hk : k ≤ 590000) (hn : n ≤ 7000000) {Q : State → Prop} (next : ∀ Y' : YT, SimE Y' (12 * it + 12) → WY X G A a Y' (k + 18) (n + 3600) Q 980 (LWs b a it) []) : WY X G A a Y k n Q 487 (LWs b a it) [] := by
  obtain ⟨c, st, tl, ll, h⟩ := hS
  refine y_aload_n (pc' := 488) rfl C dL_law_487 rfl ?_
  refine y_arg (pc' := 493) rfl C hX hbl hbA dL_law_488 dL_law_489 dL_law_490 dL_law_491 dL_law_492 rfl rfl rfl (show 4 * it + 1 < Ln by omega) (show Ln < 2 ^ 31 by omega) ?_
  refine y_cVi (pc' := 496) (k' := k) (n' := n) rfl C (c_X12_wouldCrack _ G a Y (12 * it) (Y (4, 0, 0)) (xs (4 * it + 1)) h.R h.I (by omega)) my_X12_wouldCrack aw_611 (v2 rfl) rfl rfl rfl rfl rfl (Nat.le_of_ble_eq_true rfl) (lwr (by decide) (by decide) (by omega) (by omega)) dL_law_493 rfl rfl (fun r Y1 hp => ?_)
  have hm := hp.2.m
  have h1 := h.f1 hp.2
  refine y_aload_n (pc' := 497) rfl C dL_law_496 rfl ?_
  refine y_arg (pc' := 502) rfl C hX hbl hbA dL_law_497 dL_law_498 dL_law_499 dL_law_500 dL_law_501 rfl rfl rfl (show 4 * it + 1 < Ln by omega) (show Ln < 2 ^ 31 by omega) ?_
  refine y_cVi (pc' := 505) (k' := k) (n' := n) rfl C (c_X13_wouldCrack _ G a Y1 (nn (Y (4, 0, 0) 15)) (xs (4 * it + 1)) h.np (by rw [hm]; exact h.h15) (by rw [hm]; exact h.ok (by omega))) my_X13_wouldCrack aw_1254 (v4 rfl) rfl rfl rfl rfl rfl (Nat.le_of_ble_eq_true rfl) (lwr (by decide) (by decide) (by omega) (by omega)) dL_law_502 rfl rfl (fun r' Y2 hp2 => ?_)
  rw [hm 0] at hp2
  have he : r = r' := hp.1.trans hp2.1.symm
  have hS2 : SimE Y2 (12 * it + 12) := ⟨c, st, tl, ll, by rw [hp2.2]; exact (h1.m3i).up (by omega)⟩
  refine y_ic_eq (pc' := 508) (tgt := 980) rfl C dL_law_505 (by decide) (fun _ => y_widen (by omega) (by omega) (next Y2 hS2)) (fun hne => absurd he hne)
theorem lw_c12 {X : XT} {G : GT} {A : Nat → Prop} {a : Id3 → Nat} {rt : Option FieldType} (C : CX X G A RL cL_law 8 rt room_1) {b Ln : Nat} {xs : Nat → Int32} (hX : va_X b Ln xs (xS X) (xS X).heap) (hbl : b < (xS X).heap.size) (hbA : ¬ A b) {it : Nat} (hit : 4 * it + 4 ≤ Ln) (hLn : Ln ≤ 2048) {Y : YT} (hS : SimE Y (12 * it)) {k n : Nat} (hk : k ≤ 590000) (hn : n ≤ 7000000) {Q : State → Prop} (next : ∀ Y' : YT, SimE Y' (12 * it + 12) → WY X G A a Y' (k + 18) (n + 3600) Q 980 (LWs b a it) []) : WY X G A a Y k n Q 510 (LWs b a it) [] := by
  obtain ⟨c, st, tl, ll, h⟩ := hS
  refine y_aload_n (pc' := 511) rfl C dL_law_510 rfl ?_
  refine y_arg (pc' := 516) rfl C hX hbl hbA dL_law_511 dL_law_512 dL_law_513 dL_law_514 dL_law_515 rfl rfl rfl (show 4 * it + 1 < Ln by omega) (show Ln < 2 ^ 31 by omega) ?_
  refine y_cVi (pc' := 519) (k' := k) (n' := n) rfl C (c_X12_ranked _ G a Y (12 * it) (Y (4, 0, 0)) (xs (4 * it + 1)) h.R h.I (by omega)) my_X12_ranked aw_620 (v2 rfl) rfl rfl rfl rfl rfl (Nat.le_of_ble_eq_true rfl) (lwr (by decide) (by decide) (by omega) (by omega)) dL_law_516 rfl rfl (fun r Y1 hp => ?_)
  obtain ⟨e1, e2⟩ := hp
  rw [e2]
  refine y_aload_n (pc' := 520) rfl C dL_law_519 rfl ?_
  refine y_arg (pc' := 525) rfl C hX hbl hbA dL_law_520 dL_law_521 dL_law_522 dL_law_523 dL_law_524 rfl rfl rfl (show 4 * it + 1 < Ln by omega) (show Ln < 2 ^ 31 by omega) ?_
  refine y_cVi (pc' := 528) (k' := k) (n' := n) rfl C (c_X13_ranked _ G a Y (nn (Y (4, 0, 0) 15)) (xs (4 * it + 1)) h.np h.h15) my_X13_ranked aw_1258 (v4 rfl) rfl rfl rfl rfl rfl (Nat.le_of_ble_eq_true rfl) (lwr (by decide) (by decide) (by omega) (by omega)) dL_law_525 rfl rfl (fun r' Y2 hp2 => ?_)
  obtain ⟨g1, g2⟩ := hp2
  have hS2 : SimE Y2 (12 * it + 12) := by rw [g2]; exact ⟨c, st, tl, ll, h.up (by omega)⟩
  have he : r = r' := e1.trans g1.symm
  refine y_ic_eq (pc' := 531) (tgt := 980) rfl C dL_law_528 (by decide) (fun _ => y_widen (by omega) (by omega) (next Y2 hS2)) (fun hne => absurd he hne)
theorem lw_c13 {X : XT} {G : GT} {A : Nat → Prop} {a : Id3 → Nat} {rt : Option FieldType} (C : CX X G A RL cL_law 8 rt room_1) {b Ln : Nat} {xs : Nat → Int32} (hX : va_X b Ln xs (xS X) (xS X).heap) (hbl : b < (xS X).heap.size) (hbA : ¬ A b) {it : Nat} (hit : 4 * it + 4 ≤ Ln) (hLn : Ln ≤ 2048) {Y : YT} (hS : SimE Y (12 * it)) {k n : Nat} (hk : k ≤ 590000) (hn : n ≤ 7000000) {Q : State → Prop} (next : ∀ Y' : YT, SimE Y' (12 * it + 12) → WY X G A a Y' (k + 18) (n + 3600) Q 980 (LWs b a it) []) : WY X G A a Y k n Q 533 (LWs b a it) [] := by
  obtain ⟨c, st, tl, ll, h⟩ := hS
  refine y_aload_n (pc' := 534) rfl C dL_law_533 rfl ?_
  refine y_arg (pc' := 539) rfl C hX hbl hbA dL_law_534 dL_law_535 dL_law_536 dL_law_537 dL_law_538 rfl rfl rfl (show 4 * it + 1 < Ln by omega) (show Ln < 2 ^ 31 by omega) ?_
  refine y_cVi (pc' := 542) (k' := k) (n' := n) rfl C (c_X12_degreesIn _ G a Y (12 * it) (Y (4, 0, 0)) (xs (4 * it + 1)) h.R h.I (by omega)) my_X12_degreesIn aw_636 (v2 rfl) rfl rfl rfl rfl rfl (Nat.le_of_ble_eq_true rfl) (lwr (by decide) (by decide) (by omega) (by omega)) dL_law_539 rfl rfl (fun r Y1 hp => ?_)
  have hm := hp.2.m
  have h1 := h.f1 hp.2
  refine y_aload_n (pc' := 543) rfl C dL_law_542 rfl ?_
  refine y_arg (pc' := 548) rfl C hX hbl hbA dL_law_543 dL_law_544 dL_law_545 dL_law_546 dL_law_547 rfl rfl rfl (show 4 * it + 1 < Ln by omega) (show Ln < 2 ^ 31 by omega) ?_
  refine y_cVi (pc' := 551) (k' := k) (n' := n) rfl C (c_X13_degreesIn _ G a Y1 (xs (4 * it + 1)) (by rw [hm]; exact h.ok (by omega))) my_X13_degreesIn aw_1270 (v4 rfl) rfl rfl rfl rfl rfl (Nat.le_of_ble_eq_true rfl) (lwr (by decide) (by decide) (by omega) (by omega)) dL_law_548 rfl rfl (fun r' Y2 hp2 => ?_)
  rw [hm 0] at hp2
  have he : r = r' := hp.1.trans hp2.1.symm
  have hS2 : SimE Y2 (12 * it + 12) := ⟨c, st, tl, ll, by rw [hp2.2]; exact (h1.m3i).up (by omega)⟩
  refine y_ic_eq (pc' := 554) (tgt := 980) rfl C dL_law_551 (by decide) (fun _ => y_widen (by omega) (by omega) (next Y2 hS2)) (fun hne => absurd he hne)
theorem lw_c14 {X : XT} {G : GT} {A : Nat → Prop} {a : Id3 → Nat} {rt : Option FieldType} (C : CX X G A RL cL_law 8 rt room_1) {b Ln : Nat} {xs : Nat → Int32} (hX : va_X b Ln xs (xS X) (xS X).heap) (hbl : b < (xS X).heap.size) (hbA : ¬ A b) {it : Nat} (hit : 4 * it + 4 ≤ Ln) (hLn : Ln ≤ 2048) {Y : YT} (hS : SimE Y (12 * it)) {k n : Nat} (hk : k ≤ 590000) (hn : n ≤ 7000000) {Q : State → Prop} (next : ∀ Y' : YT, SimE Y' (12 * it + 12) → WY X G A a Y' (k + 18) (n + 3600) Q 980 (LWs b a it) []) : WY X G A a Y k n Q 556 (LWs b a it) [] := by
  obtain ⟨c, st, tl, ll, h⟩ := hS
  refine y_aload_n (pc' := 557) rfl C dL_law_556 rfl ?_
  refine y_cVi (pc' := 560) (k' := k) (n' := n) rfl C (c_X12_wanted _ G a Y (12 * it) (Y (4, 0, 0))  h.R h.I (by omega)) my_X12_wanted aw_640 (v2 rfl) rfl rfl rfl rfl rfl (Nat.le_of_ble_eq_true rfl) (lwr (by decide) (by decide) (by omega) (by omega)) dL_law_557 rfl rfl (fun r Y1 hp => ?_)
  obtain ⟨e1, e2⟩ := hp
  rw [e2]
  refine y_aload_n (pc' := 561) rfl C dL_law_560 rfl ?_
  refine y_cVi (pc' := 564) (k' := k) (n' := n) rfl C (c_X13_wanted _ G a Y ) my_X13_wanted aw_1274 (v4 rfl) rfl rfl rfl rfl rfl (Nat.le_of_ble_eq_true rfl) (lwr (by decide) (by decide) (by omega) (by omega)) dL_law_561 rfl rfl (fun r' Y2 hp2 => ?_)
  obtain ⟨g1, g2⟩ := hp2
  have hS2 : SimE Y2 (12 * it + 12) := by rw [g2]; exact ⟨c, st, tl, ll, h.up (by omega)⟩
  have he : r = r' := e1.trans g1.symm
  refine y_ic_eq (pc' := 567) (tgt := 980) rfl C dL_law_564 (by decide) (fun _ => y_widen (by omega) (by omega) (next Y2 hS2)) (fun hne => absurd he hne)
theorem lw_c15 {X : XT} {G : GT} {A : Nat → Prop} {a : Id3 → Nat} {rt : Option FieldType} (C : CX X G A RL cL_law 8 rt room_1) {b Ln : Nat} {xs : Nat → Int32} (hX : va_X b Ln xs (xS X) (xS X).heap) (hbl : b < (xS X).heap.size) (hbA : ¬ A b) {it : Nat} (hit : 4 * it + 4 ≤ Ln) (hLn : Ln ≤ 2048) {Y : YT} (hS : SimE Y (12 * it)) {k n : Nat} (hk : k ≤ 590000) (hn : n ≤ 7000000) {Q : State → Prop} (next : ∀ Y' : YT, SimE Y' (12 * it + 12) → WY X G A a Y' (k + 18) (n + 3600) Q 980 (LWs b a it) []) : WY X G A a Y k n Q 569 (LWs b a it) [] := by
  obtain ⟨c, st, tl, ll, h⟩ := hS
  refine y_aload_n (pc' := 570) rfl C dL_law_569 rfl ?_
  refine y_cVi (pc' := 573) (k' := k) (n' := n) rfl C (c_X12_settlesIn _ G a Y (12 * it) (Y (4, 0, 0))  h.R h.I (by omega)) my_X12_settlesIn aw_646 (v2 rfl) rfl rfl rfl rfl rfl (Nat.le_of_ble_eq_true rfl) (lwr (by decide) (by decide) (by omega) (by omega)) dL_law_570 rfl rfl (fun r Y1 hp => ?_)
  have hm := hp.2.m
  have h1 := h.f1 hp.2
  refine y_aload_n (pc' := 574) rfl C dL_law_573 rfl ?_
  refine y_cVi (pc' := 577) (k' := k) (n' := n) rfl C (c_X13_settlesIn _ G a Y1 (by rw [hm]; exact h.ok (by omega))) my_X13_settlesIn aw_1278 (v4 rfl) rfl rfl rfl rfl rfl (Nat.le_of_ble_eq_true rfl) (lwr (by decide) (by decide) (by omega) (by omega)) dL_law_574 rfl rfl (fun r' Y2 hp2 => ?_)
  rw [hm 0] at hp2
  have he : r = r' := hp.1.trans hp2.1.symm
  have hS2 : SimE Y2 (12 * it + 12) := ⟨c, st, tl, ll, by rw [hp2.2]; exact (h1.m3).up (by omega)⟩
  refine y_ic_eq (pc' := 580) (tgt := 980) rfl C dL_law_577 (by decide) (fun _ => y_widen (by omega) (by omega) (next Y2 hS2)) (fun hne => absurd he hne)
theorem lw_c16 {X : XT} {G : GT} {A : Nat → Prop} {a : Id3 → Nat} {rt : Option FieldType} (C : CX X G A RL cL_law 8 rt room_1) {b Ln : Nat} {xs : Nat → Int32} (hX : va_X b Ln xs (xS X) (xS X).heap) (hbl : b < (xS X).heap.size) (hbA : ¬ A b) {it : Nat} (hit : 4 * it + 4 ≤ Ln) (hLn : Ln ≤ 2048) {Y : YT} (hS : SimE Y (12 * it)) {k n : Nat} (hk : k ≤ 590000) (hn : n ≤ 7000000) {Q : State → Prop} (next : ∀ Y' : YT, SimE Y' (12 * it + 12) → WY X G A a Y' (k + 18) (n + 3600) Q 980 (LWs b a it) []) : WY X G A a Y k n Q 582 (LWs b a it) [] := by
  obtain ⟨c, st, tl, ll, h⟩ := hS
  refine y_aload_n (pc' := 583) rfl C dL_law_582 rfl ?_
  refine y_arg (pc' := 588) rfl C hX hbl hbA dL_law_583 dL_law_584 dL_law_585 dL_law_586 dL_law_587 rfl rfl rfl (show 4 * it + 1 < Ln by omega) (show Ln < 2 ^ 31 by omega) ?_
  refine y_cVi (pc' := 591) (k' := k) (n' := n) rfl C (c_X12_wouldOvershoot _ G a Y (12 * it) (Y (4, 0, 0)) (xs (4 * it + 1)) h.R h.I (by omega)) my_X12_wouldOvershoot aw_650 (v2 rfl) rfl rfl rfl rfl rfl (Nat.le_of_ble_eq_true rfl) (lwr (by decide) (by decide) (by omega) (by omega)) dL_law_588 rfl rfl (fun r Y1 hp => ?_)
  have hm := hp.2.m
  have h1 := h.f1 hp.2
  refine y_aload_n (pc' := 592) rfl C dL_law_591 rfl ?_
  refine y_arg (pc' := 597) rfl C hX hbl hbA dL_law_592 dL_law_593 dL_law_594 dL_law_595 dL_law_596 rfl rfl rfl (show 4 * it + 1 < Ln by omega) (show Ln < 2 ^ 31 by omega) ?_
  refine y_cVi (pc' := 600) (k' := k) (n' := n) rfl C (c_X13_wouldOvershoot _ G a Y1 (xs (4 * it + 1)) (by rw [hm]; exact h.ok (by omega))) my_X13_wouldOvershoot aw_1282 (v4 rfl) rfl rfl rfl rfl rfl (Nat.le_of_ble_eq_true rfl) (lwr (by decide) (by decide) (by omega) (by omega)) dL_law_597 rfl rfl (fun r' Y2 hp2 => ?_)
  rw [hm 0] at hp2
  have he : r = r' := hp.1.trans hp2.1.symm
  have hS2 : SimE Y2 (12 * it + 12) := ⟨c, st, tl, ll, by rw [hp2.2]; exact (h1.m3i).up (by omega)⟩
  refine y_ic_eq (pc' := 603) (tgt := 980) rfl C dL_law_600 (by decide) (fun _ => y_widen (by omega) (by omega) (next Y2 hS2)) (fun hne => absurd he hne)
theorem lw_c17 {X : XT} {G : GT} {A : Nat → Prop} {a : Id3 → Nat} {rt : Option FieldType} (C : CX X G A RL cL_law 8 rt room_1) {b Ln : Nat} {xs : Nat → Int32} (hX : va_X b Ln xs (xS X) (xS X).heap) (hbl : b < (xS X).heap.size) (hbA : ¬ A b) {it : Nat} (hit : 4 * it + 4 ≤ Ln) (hLn : Ln ≤ 2048) {Y : YT} (hS : SimE Y (12 * it)) {k n : Nat} (hk : k ≤ 590000) (hn : n ≤ 7000000) {Q : State → Prop} (next : ∀ Y' : YT, SimE Y' (12 * it + 12) → WY X G A a Y' (k + 18) (n + 3600) Q 980 (LWs b a it) []) : WY X G A a Y k n Q 605 (LWs b a it) [] := by
  obtain ⟨c, st, tl, ll, h⟩ := hS
  obtain ⟨ln, hln, h14⟩ := h.h14
  refine y_aload_n (pc' := 606) rfl C dL_law_605 rfl ?_
  refine y_arg (pc' := 611) rfl C hX hbl hbA dL_law_606 dL_law_607 dL_law_608 dL_law_609 dL_law_610 rfl rfl rfl (show 4 * it + 1 < Ln by omega) (show Ln < 2 ^ 31 by omega) ?_
  refine y_arg (pc' := 616) rfl C hX hbl hbA dL_law_611 dL_law_612 dL_law_613 dL_law_614 dL_law_615 rfl rfl rfl (show 4 * it + 2 < Ln by omega) (show Ln < 2 ^ 31 by omega) ?_
  refine y_cVi (pc' := 619) (k' := k) (n' := n) rfl C (c_X12_logged _ G a Y (12 * it) (Y (4, 0, 0)) (xs (4 * it + 1)) (xs (4 * it + 2)) h.R h.I (by omega)) my_X12_logged aw_654 (v2 rfl) rfl rfl rfl rfl rfl (Nat.le_of_ble_eq_true rfl) (lwr (by decide) (by decide) (by omega) (by omega)) dL_law_616 rfl rfl (fun r Y1 hp => ?_)
  obtain ⟨e1, e2⟩ := hp
  rw [e2]
  refine y_aload_n (pc' := 620) rfl C dL_law_619 rfl ?_
  refine y_arg (pc' := 625) rfl C hX hbl hbA dL_law_620 dL_law_621 dL_law_622 dL_law_623 dL_law_624 rfl rfl rfl (show 4 * it + 1 < Ln by omega) (show Ln < 2 ^ 31 by omega) ?_
  refine y_arg (pc' := 630) rfl C hX hbl hbA dL_law_625 dL_law_626 dL_law_627 dL_law_628 dL_law_629 rfl rfl rfl (show 4 * it + 2 < Ln by omega) (show Ln < 2 ^ 31 by omega) ?_
  refine y_cVi (pc' := 633) (k' := k) (n' := n) rfl C (c_X13_logged _ G a Y ln (xs (4 * it + 1)) (xs (4 * it + 2)) hln h14) my_X13_logged aw_1286 (v4 rfl) rfl rfl rfl rfl rfl (Nat.le_of_ble_eq_true rfl) (lwr (by decide) (by decide) (by omega) (by omega)) dL_law_630 rfl rfl (fun r' Y2 hp2 => ?_)
  obtain ⟨g1, g2⟩ := hp2
  have hS2 : SimE Y2 (12 * it + 12) := by rw [g2]; exact ⟨c, st, tl, ll, h.up (by omega)⟩
  have he : r = r' := e1.trans g1.symm
  refine y_ic_eq (pc' := 636) (tgt := 980) rfl C dL_law_633 (by decide) (fun _ => y_widen (by omega) (by omega) (next Y2 hS2)) (fun hne => absurd he hne)
theorem lw_c18 {X : XT} {G : GT} {A : Nat → Prop} {a : Id3 → Nat} {rt : Option FieldType} (C : CX X G A RL cL_law 8 rt room_1) {b Ln : Nat} {xs : Nat → Int32} (hX : va_X b Ln xs (xS X) (xS X).heap) (hbl : b < (xS X).heap.size) (hbA : ¬ A b) {it : Nat} (hit : 4 * it + 4 ≤ Ln) (hLn : Ln ≤ 2048) {Y : YT} (hS : SimE Y (12 * it)) {k n : Nat} (hk : k ≤ 590000) (hn : n ≤ 7000000) {Q : State → Prop} (next : ∀ Y' : YT, SimE Y' (12 * it + 12) → WY X G A a Y' (k + 18) (n + 3600) Q 980 (LWs b a it) []) : WY X G A a Y k n Q 638 (LWs b a it) [] := by
  obtain ⟨c, st, tl, ll, h⟩ := hS
  refine y_aload_n (pc' := 639) rfl C dL_law_638 rfl ?_
  refine y_cVi (pc' := 642) (k' := k) (n' := n) rfl C (c_X12_burnt _ G a Y (12 * it) (Y (4, 0, 0))  h.R h.I (by omega)) my_X12_burnt aw_662 (v2 rfl) rfl rfl rfl rfl rfl (Nat.le_of_ble_eq_true rfl) (lwr (by decide) (by decide) (by omega) (by omega)) dL_law_639 rfl rfl (fun r Y1 hp => ?_)
  obtain ⟨e1, e2⟩ := hp
  rw [e2]
  refine y_aload_n (pc' := 643) rfl C dL_law_642 rfl ?_
  refine y_cVi (pc' := 646) (k' := k) (n' := n) rfl C (c_X13_burnt _ G a Y ) my_X13_burnt aw_1290 (v4 rfl) rfl rfl rfl rfl rfl (Nat.le_of_ble_eq_true rfl) (lwr (by decide) (by decide) (by omega) (by omega)) dL_law_643 rfl rfl (fun r' Y2 hp2 => ?_)
  obtain ⟨g1, g2⟩ := hp2
  have hS2 : SimE Y2 (12 * it + 12) := by rw [g2]; exact ⟨c, st, tl, ll, h.up (by omega)⟩
  have he : r = r' := e1.trans g1.symm
  refine y_ic_eq (pc' := 649) (tgt := 980) rfl C dL_law_646 (by decide) (fun _ => y_widen (by omega) (by omega) (next Y2 hS2)) (fun hne => absurd he hne)
theorem lw_c19 {X : XT} {G : GT} {A : Nat → Prop} {a : Id3 → Nat} {rt : Option FieldType} (C : CX X G A RL cL_law 8 rt room_1) {b Ln : Nat} {xs : Nat → Int32} (hX : va_X b Ln xs (xS X) (xS X).heap) (hbl : b < (xS X).heap.size) (hbA : ¬ A b) {it : Nat} (hit : 4 * it + 4 ≤ Ln) (hLn : Ln ≤ 2048) {Y : YT} (hS : SimE Y (12 * it)) {k n : Nat} (hk : k ≤ 590000) (hn : n ≤ 7000000) {Q : State → Prop} (next : ∀ Y' : YT, SimE Y' (12 * it + 12) → WY X G A a Y' (k + 18) (n + 3600) Q 980 (LWs b a it) []) : WY X G A a Y k n Q 651 (LWs b a it) [] := by
  obtain ⟨c, st, tl, ll, h⟩ := hS
  refine y_aload_n (pc' := 652) rfl C dL_law_651 rfl ?_
  refine y_cVi (pc' := 655) (k' := k) (n' := n) rfl C (c_X12_burntAgain _ G a Y (12 * it) (Y (4, 0, 0))  h.R h.I (by omega)) my_X12_burntAgain aw_666 (v2 rfl) rfl rfl rfl rfl rfl (Nat.le_of_ble_eq_true rfl) (lwr (by decide) (by decide) (by omega) (by omega)) dL_law_652 rfl rfl (fun r Y1 hp => ?_)
  obtain ⟨e1, e2⟩ := hp
  rw [e2]
  refine y_aload_n (pc' := 656) rfl C dL_law_655 rfl ?_
  refine y_cVi (pc' := 659) (k' := k) (n' := n) rfl C (c_X13_burntAgain _ G a Y ) my_X13_burntAgain aw_1294 (v4 rfl) rfl rfl rfl rfl rfl (Nat.le_of_ble_eq_true rfl) (lwr (by decide) (by decide) (by omega) (by omega)) dL_law_656 rfl rfl (fun r' Y2 hp2 => ?_)
  obtain ⟨g1, g2⟩ := hp2
  have hS2 : SimE Y2 (12 * it + 12) := by rw [g2]; exact ⟨c, st, tl, ll, h.up (by omega)⟩
  have he : r = r' := e1.trans g1.symm
  refine y_ic_eq (pc' := 662) (tgt := 980) rfl C dL_law_659 (by decide) (fun _ => y_widen (by omega) (by omega) (next Y2 hS2)) (fun hne => absurd he hne)
theorem lw_c20 {X : XT} {G : GT} {A : Nat → Prop} {a : Id3 → Nat} {rt : Option FieldType} (C : CX X G A RL cL_law 8 rt room_1) {b Ln : Nat} {xs : Nat → Int32} (hX : va_X b Ln xs (xS X) (xS X).heap) (hbl : b < (xS X).heap.size) (hbA : ¬ A b) {it : Nat} (hit : 4 * it + 4 ≤ Ln) (hLn : Ln ≤ 2048) {Y : YT} (hS : SimE Y (12 * it)) {k n : Nat} (hk : k ≤ 590000) (hn : n ≤ 7000000) {Q : State → Prop} (next : ∀ Y' : YT, SimE Y' (12 * it + 12) → WY X G A a Y' (k + 18) (n + 3600) Q 980 (LWs b a it) []) : WY X G A a Y k n Q 664 (LWs b a it) [] := by
  obtain ⟨c, st, tl, ll, h⟩ := hS
  refine y_aload_n (pc' := 665) rfl C dL_law_664 rfl ?_
  refine y_arg (pc' := 670) rfl C hX hbl hbA dL_law_665 dL_law_666 dL_law_667 dL_law_668 dL_law_669 rfl rfl rfl (show 4 * it + 1 < Ln by omega) (show Ln < 2 ^ 31 by omega) ?_
  refine y_cVi (pc' := 673) (k' := k) (n' := n) rfl C (c_X12_minutesWith _ G a Y (12 * it) (Y (4, 0, 0)) (xs (4 * it + 1)) h.R h.I (by omega)) my_X12_minutesWith aw_674 (v2 rfl) rfl rfl rfl rfl rfl (Nat.le_of_ble_eq_true rfl) (lwr (by decide) (by decide) (by omega) (by omega)) dL_law_670 rfl rfl (fun r Y1 hp => ?_)
  obtain ⟨e1, e2⟩ := hp
  rw [e2]
  refine y_aload_n (pc' := 674) rfl C dL_law_673 rfl ?_
  refine y_arg (pc' := 679) rfl C hX hbl hbA dL_law_674 dL_law_675 dL_law_676 dL_law_677 dL_law_678 rfl rfl rfl (show 4 * it + 1 < Ln by omega) (show Ln < 2 ^ 31 by omega) ?_
  refine y_cVi (pc' := 682) (k' := k) (n' := n) rfl C (c_X13_minutesWith _ G a Y (xs (4 * it + 1))) my_X13_minutesWith aw_1298 (v4 rfl) rfl rfl rfl rfl rfl (Nat.le_of_ble_eq_true rfl) (lwr (by decide) (by decide) (by omega) (by omega)) dL_law_679 rfl rfl (fun r' Y2 hp2 => ?_)
  obtain ⟨g1, g2⟩ := hp2
  have hS2 : SimE Y2 (12 * it + 12) := by rw [g2]; exact ⟨c, st, tl, ll, h.up (by omega)⟩
  have he : r = r' := e1.trans g1.symm
  refine y_ic_eq (pc' := 685) (tgt := 980) rfl C dL_law_682 (by decide) (fun _ => y_widen (by omega) (by omega) (next Y2 hS2)) (fun hne => absurd he hne)
theorem lw_c21 {X : XT} {G : GT} {A : Nat → Prop} {a : Id3 → Nat} {rt : Option FieldType} (C : CX X G A RL cL_law 8 rt room_1) {b Ln : Nat} {xs : Nat → Int32} (hX : va_X b Ln xs (xS X) (xS X).heap) (hbl : b < (xS X).heap.size) (hbA : ¬ A b) {it : Nat} (hit : 4 * it + 4 ≤ Ln) (hLn : Ln ≤ 2048) {Y : YT} (hS : SimE Y (12 * it)) {k n : Nat} (hk : k ≤ 590000) (hn : n ≤ 7000000) {Q : State → Prop} (next : ∀ Y' : YT, SimE Y' (12 * it + 12) → WY X G A a Y' (k + 18) (n + 3600) Q 980 (LWs b a it) []) : WY X G A a Y k n Q 687 (LWs b a it) [] := by
  obtain ⟨c, st, tl, ll, h⟩ := hS
  refine y_aload_n (pc' := 688) rfl C dL_law_687 rfl ?_
  refine y_arg (pc' := 693) rfl C hX hbl hbA dL_law_688 dL_law_689 dL_law_690 dL_law_691 dL_law_692 rfl rfl rfl (show 4 * it + 1 < Ln by omega) (show Ln < 2 ^ 31 by omega) ?_
  refine y_cVi (pc' := 696) (k' := (k + 1)) (n' := (n + 200)) rfl C (c_X12_append _ G a Y tl (xs (4 * it + 1)) h.tx.1 h.tx.2.2.1) my_X12_append aw_679 (v2 rfl) rfl rfl rfl rfl rfl (Nat.le_of_ble_eq_true rfl) (lwr (by decide) (by decide) (by omega) (by omega)) dL_law_693 rfl rfl (fun r Y1 hp => ?_)
  have hm := app_m hp.2
  refine y_aload_n (pc' := 697) rfl C dL_law_696 rfl ?_
  refine y_arg (pc' := 702) rfl C hX hbl hbA dL_law_697 dL_law_698 dL_law_699 dL_law_700 dL_law_701 rfl rfl rfl (show 4 * it + 1 < Ln by omega) (show Ln < 2 ^ 31 by omega) ?_
  refine y_cVi (pc' := 705) (k' := (k + 1)) (n' := (n + 200)) rfl C (c_X13_append _ G a Y1 tl (xs (4 * it + 1)) (by rw [hm]; exact h.tx.2.1) h.tx.2.2.1) my_X13_append aw_1302 (v4 rfl) rfl rfl rfl rfl rfl (Nat.le_of_ble_eq_true rfl) (lwr (by decide) (by decide) (by omega) (by omega)) dL_law_702 rfl rfl (fun r' Y2 hp2 => ?_)
  obtain ⟨he, hS3⟩ := sim_app h hp hp2.1 hp2.2
  have hS2 := hS3.up (m := 12 * it + 12) (by omega)
  refine y_ic_eq (pc' := 708) (tgt := 980) rfl C dL_law_705 (by decide) (fun _ => y_widen (by omega) (by omega) (next Y2 hS2)) (fun hne => absurd he hne)
theorem lw_c22 {X : XT} {G : GT} {A : Nat → Prop} {a : Id3 → Nat} {rt : Option FieldType} (C : CX X G A RL cL_law 8 rt room_1) {b Ln : Nat} {xs : Nat → Int32} (hX : va_X b Ln xs (xS X) (xS X).heap) (hbl : b < (xS X).heap.size) (hbA : ¬ A b) {it : Nat} (hit : 4 * it + 4 ≤ Ln) (hLn : Ln ≤ 2048) {Y : YT} (hS : SimE Y (12 * it)) {k n : Nat} (hk : k ≤ 590000) (hn : n ≤ 7000000) {Q : State → Prop} (next : ∀ Y' : YT, SimE Y' (12 * it + 12) → WY X G A a Y' (k + 18) (n + 3600) Q 980 (LWs b a it) []) : WY X G A a Y k n Q 710 (LWs b a it) [] := by
  obtain ⟨c, st, tl, ll, h⟩ := hS
  refine y_aload_n (pc' := 711) rfl C dL_law_710 rfl ?_
  refine y_cVi (pc' := 714) (k' := (k + 1)) (n' := (n + 200)) rfl C (c_X12_run _ G a Y (Y (4, 0, 5)) (Y (4, 0, 6)) tl c st (12 * it) (Y (4, 0, 0)) h.tx.1 h.tx.2.2.1 h.tx.2.2.2 h.k0 h.c8 h.k1 h.s8 h.R h.I (by omega)) my_X12_run aw_786 (v2 rfl) rfl rfl rfl rfl rfl (Nat.le_of_ble_eq_true rfl) (lwr (by decide) (by decide) (by omega) (by omega)) dL_law_711 rfl rfl (fun r Y1 hp => ?_)
  have hm := hp.m
  refine y_aload_n (pc' := 715) rfl C dL_law_714 rfl ?_
  refine y_cVi (pc' := 718) (k' := (k + 1)) (n' := (n + 200)) rfl C (c_X13_run _ G a Y1 c tl (12 * it) (by rw [hm]; exact h.m5) h.c8 (by rw [hm]; exact h.tx.2.1) h.tx.2.2.1 (by rw [hm]; exact h.I.mb) (by omega)) my_X13_run aw_1306 (v4 rfl) rfl rfl rfl rfl rfl (Nat.le_of_ble_eq_true rfl) (lwr (by decide) (by decide) (by omega) (by omega)) dL_law_715 rfl rfl (fun r' Y2 hp2 => ?_)
  obtain ⟨he, hS2⟩ := sim_run h (by omega) hp hp2.1 hp2.2
  refine y_ic_eq (pc' := 721) (tgt := 980) rfl C dL_law_718 (by decide) (fun _ => y_widen (by omega) (by omega) (next Y2 hS2)) (fun hne => absurd he hne)
theorem lw_c23 {X : XT} {G : GT} {A : Nat → Prop} {a : Id3 → Nat} {rt : Option FieldType} (C : CX X G A RL cL_law 8 rt room_1) {b Ln : Nat} {xs : Nat → Int32} (hX : va_X b Ln xs (xS X) (xS X).heap) (hbl : b < (xS X).heap.size) (hbA : ¬ A b) {it : Nat} (hit : 4 * it + 4 ≤ Ln) (hLn : Ln ≤ 2048) {Y : YT} (hS : SimE Y (12 * it)) {k n : Nat} (hk : k ≤ 590000) (hn : n ≤ 7000000) {Q : State → Prop} (next : ∀ Y' : YT, SimE Y' (12 * it + 12) → WY X G A a Y' (k + 18) (n + 3600) Q 980 (LWs b a it) []) : WY X G A a Y k n Q 723 (LWs b a it) [] := by
  obtain ⟨c, st, tl, ll, h⟩ := hS
  refine y_aload_n (pc' := 724) rfl C dL_law_723 rfl ?_
  refine y_cVi (pc' := 727) (k' := (k + 18)) (n' := (n + 3600)) rfl C (c_X12_tell _ G a Y (12 * it) (Y (4, 0, 0)) h.R h.I (by omega)) my_X12_tell aw_907 (v2 rfl) rfl rfl rfl rfl rfl (Nat.le_of_ble_eq_true rfl) (lwr (by decide) (by decide) (by omega) (by omega)) dL_law_724 rfl rfl (fun r Y1 hp => ?_)
  obtain ⟨t0, t1, t9, t10, tr⟩ := h.I.tb (by omega)
  have hm := ln_m hp.2
  refine y_aload_n (pc' := 728) rfl C dL_law_727 rfl ?_
  refine y_cVi (pc' := 731) (k' := (k + 18)) (n' := (n + 3600)) rfl C (c_X13_tell _ G a Y1 (nn (Y (4, 0, 0) 8)) (by rw [hm]; exact t0) (by rw [hm]; exact t1) (by rw [hm]; exact t9) (by rw [hm]; exact t10) (by rw [hm]; exact h.h8) h.lg (by rw [hm]; exact tr)) my_X13_tell aw_1350 (v4 rfl) rfl rfl rfl rfl rfl (Nat.le_of_ble_eq_true rfl) (lwr (by decide) (by decide) (by omega) (by omega)) dL_law_728 rfl rfl (fun r' Y2 hp2 => ?_)
  rw [hm 0] at hp2
  obtain ⟨he, hS3⟩ := sim_tell h (by omega) hp.1 hp.2 hp2.1 hp2.2
  have hS2 := hS3.up (m := 12 * it + 12) (by omega)
  refine y_ic_eq (pc' := 734) (tgt := 980) rfl C dL_law_731 (by decide) (fun _ => y_widen (by omega) (by omega) (next Y2 hS2)) (fun hne => absurd he hne)
theorem lw_c24 {X : XT} {G : GT} {A : Nat → Prop} {a : Id3 → Nat} {rt : Option FieldType} (C : CX X G A RL cL_law 8 rt room_1) {b Ln : Nat} {xs : Nat → Int32} (hX : va_X b Ln xs (xS X) (xS X).heap) (hbl : b < (xS X).heap.size) (hbA : ¬ A b) {it : Nat} (hit : 4 * it + 4 ≤ Ln) (hLn : Ln ≤ 2048) {Y : YT} (hS : SimE Y (12 * it)) {k n : Nat} (hk : k ≤ 590000) (hn : n ≤ 7000000) {Q : State → Prop} (next : ∀ Y' : YT, SimE Y' (12 * it + 12) → WY X G A a Y' (k + 18) (n + 3600) Q 980 (LWs b a it) []) : WY X G A a Y k n Q 736 (LWs b a it) [] := by
  obtain ⟨c, st, tl, ll, h⟩ := hS
  refine y_aload_n (pc' := 737) rfl C dL_law_736 rfl ?_
  refine y_arg (pc' := 742) rfl C hX hbl hbA dL_law_737 dL_law_738 dL_law_739 dL_law_740 dL_law_741 rfl rfl rfl (show 4 * it + 1 < Ln by omega) (show Ln < 2 ^ 31 by omega) ?_
  refine y_cVi (pc' := 745) (k' := (k + 11)) (n' := (n + 2200)) rfl C (c_X12_tellPot _ G a Y (12 * it) (Y (4, 0, 0)) (xs (4 * it + 1)) h.R h.I) my_X12_tellPot aw_958 (v2 rfl) rfl rfl rfl rfl rfl (Nat.le_of_ble_eq_true rfl) (lwr (by decide) (by decide) (by omega) (by omega)) dL_law_742 rfl rfl (fun r Y1 hp => ?_)
  have hm := tp_m hp
  have tp : ∀ q, q < nn (Y (4, 0, 0) 15) → _ := fun q hq => (h.I.2.2.2.1 q hq).tb
  refine y_aload_n (pc' := 746) rfl C dL_law_745 rfl ?_
  refine y_arg (pc' := 751) rfl C hX hbl hbA dL_law_746 dL_law_747 dL_law_748 dL_law_749 dL_law_750 rfl rfl rfl (show 4 * it + 1 < Ln by omega) (show Ln < 2 ^ 31 by omega) ?_
  refine y_cVi (pc' := 754) (k' := (k + 11)) (n' := (n + 2200)) rfl C (c_X13_tellPot _ G a Y1 (nn (Y (4, 0, 0) 15)) (xs (4 * it + 1)) h.np (by rw [hm]; exact h.h15) (fun q hq => by rw [hm]; exact (tp q hq).1) (fun q hq => by rw [hm]; exact (tp q hq).2.1) (fun q hq => by rw [hm]; exact (tp q hq).2.2.1) (fun q hq => by rw [hm]; exact (tp q hq).2.2.2)) my_X13_tellPot aw_1366 (v4 rfl) rfl rfl rfl rfl rfl (Nat.le_of_ble_eq_true rfl) (lwr (by decide) (by decide) (by omega) (by omega)) dL_law_751 rfl rfl (fun r' Y2 hp2 => ?_)
  rw [hm 0] at hp2
  obtain ⟨he, hS3⟩ := sim_tp h hp hp2.1 hp2.2
  have hS2 := hS3.up (m := 12 * it + 12) (by omega)
  refine y_ic_eq (pc' := 757) (tgt := 980) rfl C dL_law_754 (by decide) (fun _ => y_widen (by omega) (by omega) (next Y2 hS2)) (fun hne => absurd he hne)
theorem lw_c25 {X : XT} {G : GT} {A : Nat → Prop} {a : Id3 → Nat} {rt : Option FieldType} (C : CX X G A RL cL_law 8 rt room_1) {b Ln : Nat} {xs : Nat → Int32} (hX : va_X b Ln xs (xS X) (xS X).heap) (hbl : b < (xS X).heap.size) (hbA : ¬ A b) {it : Nat} (hit : 4 * it + 4 ≤ Ln) (hLn : Ln ≤ 2048) {Y : YT} (hS : SimE Y (12 * it)) {k n : Nat} (hk : k ≤ 590000) (hn : n ≤ 7000000) {Q : State → Prop} (next : ∀ Y' : YT, SimE Y' (12 * it + 12) → WY X G A a Y' (k + 18) (n + 3600) Q 980 (LWs b a it) []) : WY X G A a Y k n Q 759 (LWs b a it) [] := by
  obtain ⟨c, st, tl, ll, h⟩ := hS
  refine y_aload_n (pc' := 760) rfl C dL_law_759 rfl ?_
  refine y_arg (pc' := 765) rfl C hX hbl hbA dL_law_760 dL_law_761 dL_law_762 dL_law_763 dL_law_764 rfl rfl rfl (show 4 * it + 1 < Ln by omega) (show Ln < 2 ^ 31 by omega) ?_
  refine y_cVi (pc' := 768) (k' := k) (n' := n) rfl C (c_X12_character _ G a Y ll (xs (4 * it + 1)) h.li.1 h.li.2.2.1) my_X12_character aw_973 (v2 rfl) rfl rfl rfl rfl rfl (Nat.le_of_ble_eq_true rfl) (lwr (by decide) (by decide) (by omega) (by omega)) dL_law_765 rfl rfl (fun r Y1 hp => ?_)
  obtain ⟨e1, e2⟩ := hp
  rw [e2]
  refine y_aload_n (pc' := 769) rfl C dL_law_768 rfl ?_
  refine y_arg (pc' := 774) rfl C hX hbl hbA dL_law_769 dL_law_770 dL_law_771 dL_law_772 dL_law_773 rfl rfl rfl (show 4 * it + 1 < Ln by omega) (show Ln < 2 ^ 31 by omega) ?_
  refine y_cVi (pc' := 777) (k' := k) (n' := n) rfl C (c_X13_character _ G a Y ll (xs (4 * it + 1)) h.li.2.1 h.li.2.2.1) my_X13_character aw_1370 (v4 rfl) rfl rfl rfl rfl rfl (Nat.le_of_ble_eq_true rfl) (lwr (by decide) (by decide) (by omega) (by omega)) dL_law_774 rfl rfl (fun r' Y2 hp2 => ?_)
  obtain ⟨g1, g2⟩ := hp2
  have hS2 : SimE Y2 (12 * it + 12) := by rw [g2]; exact ⟨c, st, tl, ll, h.up (by omega)⟩
  have he : r = r' := sim_chr h e1 g1
  refine y_ic_eq (pc' := 780) (tgt := 980) rfl C dL_law_777 (by decide) (fun _ => y_widen (by omega) (by omega) (next Y2 hS2)) (fun hne => absurd he hne)
theorem lw_c27 {X : XT} {G : GT} {A : Nat → Prop} {a : Id3 → Nat} {rt : Option FieldType} (C : CX X G A RL cL_law 8 rt room_1) {b Ln : Nat} {xs : Nat → Int32} (hX : va_X b Ln xs (xS X) (xS X).heap) (hbl : b < (xS X).heap.size) (hbA : ¬ A b) {it : Nat} (hit : 4 * it + 4 ≤ Ln) (hLn : Ln ≤ 2048) {Y : YT} (hS : SimE Y (12 * it)) {k n : Nat} (hk : k ≤ 590000) (hn : n ≤ 7000000) {Q : State → Prop} (next : ∀ Y' : YT, SimE Y' (12 * it + 12) → WY X G A a Y' (k + 18) (n + 3600) Q 980 (LWs b a it) []) : WY X G A a Y k n Q 821 (LWs b a it) [] := by
  obtain ⟨c, st, tl, ll, h⟩ := hS
  refine y_aload_n (pc' := 822) rfl C dL_law_821 rfl ?_
  refine y_arg (pc' := 827) rfl C hX hbl hbA dL_law_822 dL_law_823 dL_law_824 dL_law_825 dL_law_826 rfl rfl rfl (show 4 * it + 1 < Ln by omega) (show Ln < 2 ^ 31 by omega) ?_
  refine y_cVi (pc' := 830) (k' := k) (n' := n) rfl C (c_X12_account _ G a Y tl (nn (Y (4, 0, 0) 15)) (xs (4 * it + 1)) h.tx.1 (h.R.hc h.I.mb) h.np) my_X12_account aw_982 (v2 rfl) rfl rfl rfl rfl rfl (Nat.le_of_ble_eq_true rfl) (lwr (by decide) (by decide) (by omega) (by omega)) dL_law_827 rfl rfl (fun r Y1 hp => ?_)
  obtain ⟨e1, e2⟩ := hp
  rw [e2]
  refine y_aload_n (pc' := 831) rfl C dL_law_830 rfl ?_
  refine y_arg (pc' := 836) rfl C hX hbl hbA dL_law_831 dL_law_832 dL_law_833 dL_law_834 dL_law_835 rfl rfl rfl (show 4 * it + 1 < Ln by omega) (show Ln < 2 ^ 31 by omega) ?_
  refine y_cVi (pc' := 839) (k' := k) (n' := n) rfl C (c_X13_account _ G a Y (nn (Y (4, 0, 0) 15)) (xs (4 * it + 1)) h.np h.h15) my_X13_account aw_1378 (v4 rfl) rfl rfl rfl rfl rfl (Nat.le_of_ble_eq_true rfl) (lwr (by decide) (by decide) (by omega) (by omega)) dL_law_836 rfl rfl (fun r' Y2 hp2 => ?_)
  obtain ⟨g1, g2⟩ := hp2
  have hS2 : SimE Y2 (12 * it + 12) := by rw [g2]; exact ⟨c, st, tl, ll, h.up (by omega)⟩
  have he : r = r' := e1.trans ((acc_eq h _).trans g1.symm)
  refine y_ic_eq (pc' := 842) (tgt := 980) rfl C dL_law_839 (by decide) (fun _ => y_widen (by omega) (by omega) (next Y2 hS2)) (fun hne => absurd he hne)
theorem lw_c28 {X : XT} {G : GT} {A : Nat → Prop} {a : Id3 → Nat} {rt : Option FieldType} (C : CX X G A RL cL_law 8 rt room_1) {b Ln : Nat} {xs : Nat → Int32} (hX : va_X b Ln xs (xS X) (xS X).heap) (hbl : b < (xS X).heap.size) (hbA : ¬ A b) {it : Nat} (hit : 4 * it + 4 ≤ Ln) (hLn : Ln ≤ 2048) {Y : YT} (hS : SimE Y (12 * it)) {k n : Nat} (hk : k ≤ 590000) (hn : n ≤ 7000000) {Q : State → Prop} (next : ∀ Y' : YT, SimE Y' (12 * it + 12) → WY X G A a Y' (k + 18) (n + 3600) Q 980 (LWs b a it) []) : WY X G A a Y k n Q 844 (LWs b a it) [] := by
  obtain ⟨c, st, tl, ll, h⟩ := hS
  refine y_aload_n (pc' := 845) rfl C dL_law_844 rfl ?_
  refine y_cVi (pc' := 848) (k' := k) (n' := n) rfl C (c_X12_isBalanced _ G a Y (12 * it) (Y (4, 0, 0))  h.R h.I (by omega)) my_X12_isBalanced aw_999 (v2 rfl) rfl rfl rfl rfl rfl (Nat.le_of_ble_eq_true rfl) (lwr (by decide) (by decide) (by omega) (by omega)) dL_law_845 rfl rfl (fun r Y1 hp => ?_)
  obtain ⟨e1, e2⟩ := hp
  rw [e2]
  refine y_aload_n (pc' := 849) rfl C dL_law_848 rfl ?_
  refine y_cVi (pc' := 852) (k' := k) (n' := n) rfl C (c_X13_isBalanced _ G a Y (nn (Y (4, 0, 0) 15)) h.np h.h15) my_X13_isBalanced aw_1386 (v4 rfl) rfl rfl rfl rfl rfl (Nat.le_of_ble_eq_true rfl) (lwr (by decide) (by decide) (by omega) (by omega)) dL_law_849 rfl rfl (fun r' Y2 hp2 => ?_)
  obtain ⟨g1, g2⟩ := hp2
  have hS2 : SimE Y2 (12 * it + 12) := by rw [g2]; exact ⟨c, st, tl, ll, h.up (by omega)⟩
  have he : r = r' := e1.trans g1.symm
  refine y_ic_eq (pc' := 855) (tgt := 980) rfl C dL_law_852 (by decide) (fun _ => y_widen (by omega) (by omega) (next Y2 hS2)) (fun hne => absurd he hne)
theorem lw_c31 {X : XT} {G : GT} {A : Nat → Prop} {a : Id3 → Nat} {rt : Option FieldType} (C : CX X G A RL cL_law 8 rt room_1) {b Ln : Nat} {xs : Nat → Int32} (hX : va_X b Ln xs (xS X) (xS X).heap) (hbl : b < (xS X).heap.size) (hbA : ¬ A b) {it : Nat} (hit : 4 * it + 4 ≤ Ln) (hLn : Ln ≤ 2048) {Y : YT} (hS : SimE Y (12 * it)) {k n : Nat} (hk : k ≤ 590000) (hn : n ≤ 7000000) {Q : State → Prop} (next : ∀ Y' : YT, SimE Y' (12 * it + 12) → WY X G A a Y' (k + 18) (n + 3600) Q 980 (LWs b a it) []) : WY X G A a Y k n Q 941 (LWs b a it) [] := by
  obtain ⟨c, st, tl, ll, h⟩ := hS
  refine y_aload_n (pc' := 942) rfl C dL_law_941 rfl ?_
  refine y_cVi (pc' := 945) (k' := k) (n' := n) rfl C (c_X12_undo _ G a Y c st (12 * it) (unS Y c) h.k0 h.c8 h.k1 h.s8 (sim_un h).1 (sim_un h).2) my_X12_undo aw_1021 (v2 rfl) rfl rfl rfl rfl rfl (Nat.le_of_ble_eq_true rfl) (lwr (by decide) (by decide) (by omega) (by omega)) dL_law_942 rfl rfl (fun r Y1 hp => ?_)
  have hm := un_m hp
  refine y_aload_n (pc' := 946) rfl C dL_law_945 rfl ?_
  refine y_cVi (pc' := 949) (k' := k) (n' := n) rfl C (c_X13_undo _ G a Y1 c (by rw [hm]; exact h.m5) h.c8) my_X13_undo aw_1399 (v4 rfl) rfl rfl rfl rfl rfl (Nat.le_of_ble_eq_true rfl) (lwr (by decide) (by decide) (by omega) (by omega)) dL_law_946 rfl rfl (fun r' Y2 hp2 => ?_)
  obtain ⟨he, hS3⟩ := sim_undo h (un_to hp) hp2.1 hp2.2
  have hS2 := hS3.up (m := 12 * it + 12) (by omega)
  refine y_ic_eq (pc' := 952) (tgt := 980) rfl C dL_law_949 (by decide) (fun _ => y_widen (by omega) (by omega) (next Y2 hS2)) (fun hne => absurd he hne)
theorem lw_c32 {X : XT} {G : GT} {A : Nat → Prop} {a : Id3 → Nat} {rt : Option FieldType} (C : CX X G A RL cL_law 8 rt room_1) {b Ln : Nat} {xs : Nat → Int32} (hX : va_X b Ln xs (xS X) (xS X).heap) (hbl : b < (xS X).heap.size) (hbA : ¬ A b) {it : Nat} (hit : 4 * it + 4 ≤ Ln) (hLn : Ln ≤ 2048) {Y : YT} (hS : SimE Y (12 * it)) {k n : Nat} (hk : k ≤ 590000) (hn : n ≤ 7000000) {Q : State → Prop} (next : ∀ Y' : YT, SimE Y' (12 * it + 12) → WY X G A a Y' (k + 18) (n + 3600) Q 980 (LWs b a it) []) : WY X G A a Y k n Q 954 (LWs b a it) [] := by
  obtain ⟨c, st, tl, ll, h⟩ := hS
  refine y_aload_n (pc' := 955) rfl C dL_law_954 rfl ?_
  refine y_cVi (pc' := 958) (k' := k) (n' := n) rfl C (c_X12_save _ G a Y (12 * it) (Y (4, 0, 0)) h.R h.I.mb) my_X12_save aw_1029 (v2 rfl) rfl rfl rfl rfl rfl (Nat.le_of_ble_eq_true rfl) (lwr (by decide) (by decide) (by omega) (by omega)) dL_law_955 rfl rfl (fun r Y1 hp => ?_)
  refine y_aload_n (pc' := 959) rfl C dL_law_958 rfl ?_
  refine y_cVi (pc' := 962) (k' := k) (n' := n) rfl C (c_X13_save _ G a Y1) my_X13_save aw_1403 (v4 rfl) rfl rfl rfl rfl rfl (Nat.le_of_ble_eq_true rfl) (lwr (by decide) (by decide) (by omega) (by omega)) dL_law_959 rfl rfl (fun r' Y2 hp2 => ?_)
  obtain ⟨he, hS3⟩ := sim_save h hp hp2.1 hp2.2
  have hS2 := hS3.up (m := 12 * it + 12) (by omega)
  refine y_ic_eq (pc' := 965) (tgt := 980) rfl C dL_law_962 (by decide) (fun _ => y_widen (by omega) (by omega) (next Y2 hS2)) (fun hne => absurd he hne)
theorem lw_c33 {X : XT} {G : GT} {A : Nat → Prop} {a : Id3 → Nat} {rt : Option FieldType} (C : CX X G A RL cL_law 8 rt room_1) {b Ln : Nat} {xs : Nat → Int32} (hX : va_X b Ln xs (xS X) (xS X).heap) (hbl : b < (xS X).heap.size) (hbA : ¬ A b) {it : Nat} (hit : 4 * it + 4 ≤ Ln) (hLn : Ln ≤ 2048) {Y : YT} (hS : SimE Y (12 * it)) {k n : Nat} (hk : k ≤ 590000) (hn : n ≤ 7000000) {Q : State → Prop} (next : ∀ Y' : YT, SimE Y' (12 * it + 12) → WY X G A a Y' (k + 18) (n + 3600) Q 980 (LWs b a it) []) : WY X G A a Y k n Q 967 (LWs b a it) [] := by
  obtain ⟨c, st, tl, ll, h⟩ := hS
  refine y_aload_n (pc' := 968) rfl C dL_law_967 rfl ?_
  refine y_cVi (pc' := 971) (k' := k) (n' := n) rfl C (c_X12_restore _ G a Y (12 * it) (bkS Y) (sim_bk h).1 (sim_bk h).2) my_X12_restore aw_1033 (v2 rfl) rfl rfl rfl rfl rfl (Nat.le_of_ble_eq_true rfl) (lwr (by decide) (by decide) (by omega) (by omega)) dL_law_968 rfl rfl (fun r Y1 hp => ?_)
  refine y_aload_n (pc' := 972) rfl C dL_law_971 rfl ?_
  refine y_cVi (pc' := 975) (k' := k) (n' := n) rfl C (c_X13_restore _ G a Y1) my_X13_restore aw_1407 (v4 rfl) rfl rfl rfl rfl rfl (Nat.le_of_ble_eq_true rfl) (lwr (by decide) (by decide) (by omega) (by omega)) dL_law_972 rfl rfl (fun r' Y2 hp2 => ?_)
  obtain ⟨he, hS3⟩ := sim_rest h hp hp2.1 hp2.2
  have hS2 := hS3.up (m := 12 * it + 12) (by omega)
  refine y_ic_eq (pc' := 978) (tgt := 980) rfl C dL_law_975 (by decide) (fun _ => y_widen (by omega) (by omega) (next Y2 hS2)) (fun hne => absurd he hne)
theorem lw_c26 {X : XT} {G : GT} {A : Nat → Prop} {a : Id3 → Nat} {rt : Option FieldType} (C : CX X G A RL cL_law 8 rt room_1) {b Ln : Nat} {xs : Nat → Int32} (hX : va_X b Ln xs (xS X) (xS X).heap) (hbl : b < (xS X).heap.size) (hbA : ¬ A b) {it : Nat} (hit : 4 * it + 4 ≤ Ln) (hLn : Ln ≤ 2048) {Y : YT} (hS : SimE Y (12 * it)) {k n : Nat} (hk : k ≤ 590000) (hn : n ≤ 7000000) {Q : State → Prop} (next : ∀ Y' : YT, SimE Y' (12 * it + 12) → WY X G A a Y' (k + 18) (n + 3600) Q 980 (LWs b a it) []) : WY X G A a Y k n Q 782 (LWs b a it) [] := by
  obtain ⟨c, st, tl, ll, h⟩ := hS
  by_cases hz : (xs (4 * it + 1)) = 0
  · refine y_aload_n (pc' := 783) rfl C dL_law_782 rfl ?_
    refine y_arg (pc' := 788) rfl C hX hbl hbA dL_law_783 dL_law_784 dL_law_785 dL_law_786 dL_law_787 rfl rfl rfl (show 4 * it + 1 < Ln by omega) (show Ln < 2 ^ 31 by omega) ?_
    refine y_if_eq (pc' := 791) (tgt := 795) rfl C dL_law_788 (by decide) (fun _ => ?_) (fun hne => absurd hz hne)
    refine y_iconst (pc' := 796) (v := 0) rfl C dL_law_795 (by decide) ?_
    refine y_cVi (pc' := 799) (k' := k) (n' := n) rfl C (c_X12_reason _ G a Y 0) my_X12_reason aw_978 (v2 rfl) rfl rfl rfl rfl rfl (Nat.le_of_ble_eq_true rfl) (lwr (by decide) (by decide) (by omega) (by omega)) dL_law_796 rfl rfl (fun r Y1 hp => ?_)
    obtain ⟨e1, e2⟩ := hp
    rw [e2]
    refine y_aload_n (pc' := 800) rfl C dL_law_799 rfl ?_
    refine y_arg (pc' := 805) rfl C hX hbl hbA dL_law_800 dL_law_801 dL_law_802 dL_law_803 dL_law_804 rfl rfl rfl (show 4 * it + 1 < Ln by omega) (show Ln < 2 ^ 31 by omega) ?_
    refine y_if_eq (pc' := 808) (tgt := 812) rfl C dL_law_805 (by decide) (fun _ => ?_) (fun hne => absurd hz hne)
    refine y_iconst (pc' := 813) (v := 0) rfl C dL_law_812 (by decide) ?_
    refine y_cVi (pc' := 816) (k' := k) (n' := n) rfl C (c_X13_reason _ G a Y 0) my_X13_reason aw_1374 (v4 rfl) rfl rfl rfl rfl rfl (Nat.le_of_ble_eq_true rfl) (lwr (by decide) (by decide) (by omega) (by omega)) dL_law_813 rfl rfl (fun r' Y2 hp2 => ?_)
    obtain ⟨g1, g2⟩ := hp2
    have hS2 : SimE Y2 (12 * it + 12) := by rw [g2]; exact ⟨c, st, tl, ll, h.up (by omega)⟩
    have he : r = r' := e1.trans ((sim_why h).trans g1.symm)
    exact y_ic_eq (pc' := 819) (tgt := 980) rfl C dL_law_816 (by decide) (fun _ => y_widen (by omega) (by omega) (next Y2 hS2)) (fun hne => absurd he hne)
  · refine y_aload_n (pc' := 783) rfl C dL_law_782 rfl ?_
    refine y_arg (pc' := 788) rfl C hX hbl hbA dL_law_783 dL_law_784 dL_law_785 dL_law_786 dL_law_787 rfl rfl rfl (show 4 * it + 1 < Ln by omega) (show Ln < 2 ^ 31 by omega) ?_
    refine y_if_eq (pc' := 791) (tgt := 795) rfl C dL_law_788 (by decide) (fun hz2 => absurd hz2 hz) (fun _ => ?_)
    refine y_iconst (pc' := 792) (v := 1) rfl C dL_law_791 (by decide) ?_
    refine y_goto (tgt := 796) C dL_law_792 (by decide) ?_
    refine y_cVi (pc' := 799) (k' := k) (n' := n) rfl C (c_X12_reason _ G a Y 1) my_X12_reason aw_978 (v2 rfl) rfl rfl rfl rfl rfl (Nat.le_of_ble_eq_true rfl) (lwr (by decide) (by decide) (by omega) (by omega)) dL_law_796 rfl rfl (fun r Y1 hp => ?_)
    obtain ⟨e1, e2⟩ := hp
    rw [e2]
    refine y_aload_n (pc' := 800) rfl C dL_law_799 rfl ?_
    refine y_arg (pc' := 805) rfl C hX hbl hbA dL_law_800 dL_law_801 dL_law_802 dL_law_803 dL_law_804 rfl rfl rfl (show 4 * it + 1 < Ln by omega) (show Ln < 2 ^ 31 by omega) ?_
    refine y_if_eq (pc' := 808) (tgt := 812) rfl C dL_law_805 (by decide) (fun hz2 => absurd hz2 hz) (fun _ => ?_)
    refine y_iconst (pc' := 809) (v := 1) rfl C dL_law_808 (by decide) ?_
    refine y_goto (tgt := 813) C dL_law_809 (by decide) ?_
    refine y_cVi (pc' := 816) (k' := k) (n' := n) rfl C (c_X13_reason _ G a Y 1) my_X13_reason aw_1374 (v4 rfl) rfl rfl rfl rfl rfl (Nat.le_of_ble_eq_true rfl) (lwr (by decide) (by decide) (by omega) (by omega)) dL_law_813 rfl rfl (fun r' Y2 hp2 => ?_)
    obtain ⟨g1, g2⟩ := hp2
    have hS2 : SimE Y2 (12 * it + 12) := by rw [g2]; exact ⟨c, st, tl, ll, h.up (by omega)⟩
    have he : r = r' := e1.trans ((sim_why h).trans g1.symm)
    exact y_ic_eq (pc' := 819) (tgt := 980) rfl C dL_law_816 (by decide) (fun _ => y_widen (by omega) (by omega) (next Y2 hS2)) (fun hne => absurd he hne)
