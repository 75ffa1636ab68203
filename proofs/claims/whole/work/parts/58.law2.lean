/-! THE LAW'S TWO CASES OF DOUBLES, THE SWITCH, THE LOOP. -/
theorem lv_of {ls : Array Slot} {nL m b it : Nat} {a : Id3 → Nat} (hm : ls.size = m) (h : hasL ls nL (LWs b a it)) : lv_has ls m [(0, .ref b), (1, .ref (a (2, 0, 0))), (2, .ref (a (4, 0, 8))), (3, .int (nI (4 * it)))] := by
  refine ⟨hm, h.2.1, fun q hq => ?_⟩
  rcases List.mem_cons.mp hq with rfl | hq
  · exact hasL_at (i := 0) h rfl
  rcases List.mem_cons.mp hq with rfl | hq
  · exact hasL_at (i := 1) h rfl
  rcases List.mem_cons.mp hq with rfl | hq
  · exact hasL_at (i := 2) h rfl
  rcases List.mem_cons.mp hq with rfl | hq
  · exact hasL_at (i := 3) h rfl
  cases hq
theorem has_of {ls : Array Slot} {nL m b it : Nat} {a : Id3 → Nat} {u v : Value} (hm : m = nL) (h : lv_has ls m [(6, u), (4, v), (0, .ref b), (1, .ref (a (2, 0, 0))), (2, .ref (a (4, 0, 8))), (3, .int (nI (4 * it)))]) : hasL ls nL (LWs b a it) := by
  subst hm
  refine ⟨h.1, h.2.1, fun i w hi => ?_⟩
  match i, hi with
  | 0, hi => injection hi with hi; injection hi with hi; subst hi; exact ⟨rfl, lv_at h 2 rfl⟩
  | 1, hi => injection hi with hi; injection hi with hi; subst hi; exact ⟨rfl, lv_at h 3 rfl⟩
  | 2, hi => injection hi with hi; injection hi with hi; subst hi; exact ⟨rfl, lv_at h 4 rfl⟩
  | 3, hi => injection hi with hi; injection hi with hi; subst hi; exact ⟨rfl, lv_at h 5 rfl⟩
  | j + 4, hi => cases hi
section LROWS
variable {X : XT} {G : GT} {A : Nat → Prop} {a : Id3 → Nat} {own : String} {cc : ByteArray} {nL : Nat} {ret : Option FieldType} {rm : Room} {M : Mem} {Y : YT} {k n : Nat} {Q : State → Prop} {pc : Nat} {L : List (Option Value)} {st : List Value}
theorem y_f2d {pc' : Nat} (hpc : pc + 1 = pc') (C : CX X G A own cc nL ret rm) {x : UInt32} (hne : vf_n64 (FP.f2d x)) (hdg : decode cc pc = .ok (.f2d, 1)) (kk : WY X G A a Y k n Q pc' L (.double (FP.f2d x) :: st)) : WY X G A a Y k n Q pc L (.float x :: st) := by subst hpc; exact fun M hM H locs ls hS hM2 hA hL => lv_f2d C.ex C.cd hdg hne (kk M hM H locs ls hS hM2 hA hL)
theorem y_sld {pc' : Nat} (hpc : pc + 1 = pc') (C : CX X G A own cc nL ret rm) {b Ln j : Nat} {xs : Nat → Int32} (hX : va_X b Ln xs (xS X) (xS X).heap) (hbl : b < (xS X).heap.size) (hbA : ¬ A b) (hj : j < Ln) (hj2 : Ln < 2 ^ 31) (hdg : decode cc pc = .ok (.iaload, 1)) (kk : WY X G A a Y k n Q pc' L (.int (xs j) :: st)) : WY X G A a Y k n Q pc L (.int (nI j) :: .ref b :: st) := by
  subst hpc
  intro M hM H locs ls hS hM2 hA hL
  refine va_sld C.ex C.cd hX hbl hbA hS (vp_in_nI hj hj2) hdg ?_
  rw [show (nI j).toNatClampNeg = j from nn_nI (by omega)]
  exact kk M hM H locs ls hS hM2 hA hL
theorem y_slen {pc' : Nat} (hpc : pc + 1 = pc') (C : CX X G A own cc nL ret rm) {b Ln : Nat} {xs : Nat → Int32} (hX : va_X b Ln xs (xS X) (xS X).heap) (hbl : b < (xS X).heap.size) (hbA : ¬ A b) (hdg : decode cc pc = .ok (.arraylength, 1)) (kk : WY X G A a Y k n Q pc' L (.int (nI Ln) :: st)) : WY X G A a Y k n Q pc L (.ref b :: st) := by
  subst hpc
  exact fun M hM H locs ls hS hM2 hA hL => va_slen C.ex C.cd hX hbl hbA hS hdg (kk M hM H locs ls hS hM2 hA hL)
theorem c_goX (C : CX X G A own cc nL ret rm) {H : Heap} {locs : List Loc} {ls : Array Slot} {mc ms : Nat} {st0 : List Value} {ag : Array Value} {Post : Option Value → Mem → Prop} (hS : va_S A (xS X).heap H locs) (hA : ∀ q, M q ≠ none → A q)
    (hr : va_Run (xP X) (xL X) (xE X) (xR X) (xS X) (xM X) (xA X) (xB X) (xT X) (xC X) H locs k n mc ms (F0 (xM X) pc ls st0) st (QC G (fr M H.size) Post ag) (fr M H.size))
    (kk : ∀ (v : Option Value) (M' : Mem) (H' : Heap) (locs' : List Loc), Post v M' → va_S A (xS X).heap H' locs' → HM G M' H' → (∀ q, M' q ≠ none → A q) → WX X H' locs' (k + mc) (n + ms) Q (F0 (xM X) (pc + 3) ls (v.toList ++ st))) : WX X H locs k n Q (F0 (xM X) pc ls st0) := by
  have hf : ∀ q, fr M H.size q → A q := fun q h => h.elim (hA q) (fun h => C.hA q (Nat.le_trans hS.1 h))
  intro T hT Y
  obtain ⟨v, st₀, t, T', L1, h0, Y', hL1, e1, e2, ⟨⟨v', M', hv, hp, hm, hA'⟩, hz, hk⟩, go⟩ := hr T hT Y
  cases hv
  rw [h0] at hz hk
  obtain ⟨t2, a1, b1⟩ := kk v M' T'.heap (locs ++ L1) hp ⟨Nat.le_trans hS.1 (by rw [e1]; exact hz), fun q h1 h2 => by rw [e1, hk q (Nat.lt_of_lt_of_le h1 hS.1) (fun z => h2 (hf q z))]; exact hS.2.1 q h1 h2, fun q hq => by
      rcases List.mem_append.mp hq with h | h
      · exact hS.2.2 q h
      · exact hf _ (hL1 q h)⟩ (by rw [e1]; exact hm) (fun q h => hf q (hA' q h)) T' rfl Y'
  exact ⟨t2, go t2 a1, b1⟩
theorem r_cVX (C : CX X G A own cc nL ret rm) {idx ci b na : Nat} {fs As st0 : List Value} {y : MethodName} {cc' : ByteArray} {nL' : Nat} {ret' : Option FieldType} {rm' : Room} {Post : Option Value → Mem → Prop} (hct : Ct (xL X) G y cc' nL' ret' rm' (.ref b :: As) M Post) (hy : MV y cc' nL' ret' na) (hl : Cond.methodLink own idx y ∈ AW) (hb : M b = some (.inr (ci, fs))) (hc : (vwCl[ci]?).map (fun q => q.1) = some y.cls) (hst0 : st0 = As.reverse ++ .ref b :: st) (hlen : As.length = na) (hw : (st.map fun v => v.category).sum ≤ 8) (hrm : roomOk rm rm' nL' k n = true) (hdg : decode cc pc = .ok (.invokevirtual idx, 3)) {H : Heap} {locs : List Loc} {ls : Array Slot} (hS : va_S A (xS X).heap H locs) (hM : HM G M H) (hA : ∀ q, M q ≠ none → A q) (hsz : ls.size = nL)
    (kk : ∀ (v : Option Value) (M' : Mem) (H' : Heap) (locs' : List Loc), Post v M' → va_S A (xS X).heap H' locs' → HM G M' H' → (∀ q, M' q ≠ none → A q) → WX X H' locs' (k + rm'.cells) (n + rm'.slots) Q (F0 (xM X) (pc + 3) ls (v.toList ++ st))) : WX X H locs k n Q (F0 (xM X) pc ls st0) := by
  obtain ⟨g1, g2, g3, g4⟩ := roomOk_at hrm
  obtain ⟨hcode, hini, hd, hinst, hsel⟩ := hy
  obtain ⟨q, hq1, hq2⟩ := Option.map_eq_some_iff.mp hc
  have hrc := va_recv C.K (hP1 (hM _ _ hb)) hq1 (q0 := 0) rfl
  rw [hq2] at hrc
  refine c_goX C hS hA (va_runV (As := As) (rest := st) ⟨C.ex, C.cd, C.ml, C.ow, C.ts⟩ (hct H.size) (C := y.cls) (n := na) ⟨callB_of na C.ts (c_in hcode) rfl rfl rfl (C.ts _ hini) (C.ts _ hl) hd (by rw [C.ro]; exact ⟨g1, g2⟩), C.ts _ hinst, C.ts _ hsel⟩ ⟨c_blind, hrc, fun U hU hW => c_pre C hS hM hA U hU hW⟩ rfl hlen hsz hst0 (lv_room hw) hdg (by rw [C.ro]; exact ⟨g3, g4⟩)) kk
end LROWS
theorem f2_n (b m : Int32) : FP.Core.dIsNaN (FP.f2d (fsF b m)) = false := by
  rw [show FP.Core.dIsNaN (FP.f2d (fsF b m)) = FP.Core.fIsNaN (fsF b m) from FP.f2d_nan _]
  unfold fsF
  split
  · decide +kernel
  · exact fv_n (by assumption)
theorem f2_self (b m : Int32) : FP.dcmp (FP.f2d (fsF b m)) (FP.f2d (fsF b m)) = some .eq := FP.Core.dcmp_self ((FP.Core.notNaN_iff _).mp (f2_n b m))
theorem my_X12_meanBurnt : MV yX12_meanBurnt cX12_meanBurnt 2 (some .double) 0 := ⟨aw_1015, aw_54, ⟨by decide, by decide, by decide +kernel⟩, aw_1013, aw_1014⟩
theorem my_X13_meanBurnt : MV yX13_meanBurnt cX13_meanBurnt 1 (some .double) 0 := ⟨aw_1394, aw_71, ⟨by decide, by decide, by decide +kernel⟩, aw_1392, aw_1393⟩
theorem my_X12_firedShare : MV yX12_firedShare cX12_firedShare 2 (some .float) 0 := ⟨aw_1019, aw_54, ⟨by decide, by decide, by decide +kernel⟩, aw_1017, aw_1018⟩
theorem my_X13_firedShare : MV yX13_firedShare cX13_firedShare 1 (some .float) 0 := ⟨aw_1398, aw_71, ⟨by decide, by decide, by decide +kernel⟩, aw_1396, aw_1397⟩
theorem lw_c29 {X : XT} {G : GT} {A : Nat → Prop} {a : Id3 → Nat} {rt : Option FieldType} (C : CX X G A RL cL_law 8 rt room_1) {b Ln : Nat} {xs : Nat → Int32} (hX : va_X b Ln xs (xS X) (xS X).heap) (hbl : b < (xS X).heap.size) (hbA : ¬ A b) {it : Nat} (hit : 4 * it + 4 ≤ Ln) (hLn : Ln ≤ 2048) {Y : YT} (hS : SimE Y (12 * it)) {k n : Nat} (hk : k ≤ 590000) (hn : n ≤ 7000000) {Q : State → Prop} (next : ∀ Y' : YT, SimE Y' (12 * it + 12) → WY X G A a Y' (k + 18) (n + 3600) Q 980 (LWs b a it) []) : WY X G A a Y k n Q 857 (LWs b a it) [] := by
  obtain ⟨c, st, tl, ll, h⟩ := hS
  refine y_aload_n (pc' := 858) rfl C dL_law_857 rfl ?_
  refine y_cV (pc' := 861) (k' := k) (n' := n) rfl C (c_X12_meanBurnt _ G a Y (12 * it) (Y (4, 0, 0)) h.R h.I (by omega)) my_X12_meanBurnt aw_1012 (v2 rfl) rfl rfl rfl rfl rfl (Nat.le_of_ble_eq_true rfl) (lwr (by decide) (by decide) (by omega) (by omega)) dL_law_858 rfl rfl (fun v Y1 hp => ?_)
  obtain ⟨r, rfl, e1, e2⟩ := hp
  rw [e2]
  intro M hM H locs ls hS2 hM2 hA hL
  have hv := lv_of (hL.1.trans C.ml) hL
  refine lv_dstore (nL := 8) (lv' := [(4, .double r), (0, .ref b), (1, .ref (a (2, 0, 0))), (2, .ref (a (4, 0, 8))), (3, .int (nI (4 * it)))]) C.ex C.cd dL_law_861 hv (by decide) rfl (fun ls1 hv1 => ?_)
  refine lv_aload_n (i := 2) C.ex C.cd dL_law_863 rfl (lv_at hv1 3 rfl) ?_
  have hb8 := hM.1 (4, 0, 8) (v4 rfl) (show (4 : Nat) ≠ 5 by decide)
  refine r_cVX C (c_X13_meanBurnt _ G a Y  M hM) my_X13_meanBurnt aw_1391 hb8 rfl rfl rfl (Nat.le_of_ble_eq_true rfl) (lwr (by decide) (by decide) (by omega) (by omega)) dL_law_864 hS2 hM2 hA hv1.1 (fun v M1 H1 locs1 hp1 hS3 hM3 hA3 => ?_)
  obtain ⟨Y2, hM4, r', rfl, g1, g2⟩ := hp1
  refine lv_dstore (nL := 8) (lv' := [(6, .double r'), (4, .double r), (0, .ref b), (1, .ref (a (2, 0, 0))), (2, .ref (a (4, 0, 8))), (3, .int (nI (4 * it)))]) C.ex C.cd dL_law_867 hv1 (by decide) rfl (fun ls2 hv2 => ?_)
  refine lv_dload (i := 4) C.ex C.cd dL_law_869 (lv_at hv2 1 rfl) ?_
  refine lv_dload (i := 6) C.ex C.cd dL_law_871 (lv_at hv2 0 rfl) ?_
  refine lv_dcmp C.ex C.cd dL_law_873 ?_
  have ec : Op.cmpValue (FP.dcmp r r') .l = 0 := by rw [g1, e1, mb_self]; rfl
  rw [ec]
  have hS4 : SimE Y2 (12 * it + 12) := by rw [g2]; exact ⟨c, st, tl, ll, h.up (by omega)⟩
  exact y_if_eq (pc' := 877) (tgt := 895) rfl C dL_law_874 (by decide) (fun _ => y_goto (tgt := 980) C dL_law_895 (by decide) (y_widen (show k + 0 + 0 ≤ k + 18 by omega) (show n + 0 + 0 ≤ n + 3600 by omega) (next Y2 hS4))) (fun hne => absurd rfl hne) M1 hM4 H1 locs1 ls2 hS3 hM3 hA3 (has_of C.ml.symm hv2)
theorem lw_c30 {X : XT} {G : GT} {A : Nat → Prop} {a : Id3 → Nat} {rt : Option FieldType} (C : CX X G A RL cL_law 8 rt room_1) {b Ln : Nat} {xs : Nat → Int32} (hX : va_X b Ln xs (xS X) (xS X).heap) (hbl : b < (xS X).heap.size) (hbA : ¬ A b) {it : Nat} (hit : 4 * it + 4 ≤ Ln) (hLn : Ln ≤ 2048) {Y : YT} (hS : SimE Y (12 * it)) {k n : Nat} (hk : k ≤ 590000) (hn : n ≤ 7000000) {Q : State → Prop} (next : ∀ Y' : YT, SimE Y' (12 * it + 12) → WY X G A a Y' (k + 18) (n + 3600) Q 980 (LWs b a it) []) : WY X G A a Y k n Q 898 (LWs b a it) [] := by
  obtain ⟨c, st, tl, ll, h⟩ := hS
  refine y_aload_n (pc' := 899) rfl C dL_law_898 rfl ?_
  refine y_cV (pc' := 902) (k' := k) (n' := n) rfl C (c_X12_firedShare _ G a Y (12 * it) (Y (4, 0, 0)) h.R h.I (by omega)) my_X12_firedShare aw_1016 (v2 rfl) rfl rfl rfl rfl rfl (Nat.le_of_ble_eq_true rfl) (lwr (by decide) (by decide) (by omega) (by omega)) dL_law_899 rfl rfl (fun v Y1 hp => ?_)
  obtain ⟨r, rfl, e1, e2⟩ := hp
  rw [e2]
  refine y_f2d (pc' := 903) rfl C (vf64_of (by rw [e1]; exact f2_n _ _)) dL_law_902 ?_
  intro M hM H locs ls hS2 hM2 hA hL
  have hv := lv_of (hL.1.trans C.ml) hL
  refine lv_dstore (nL := 8) (lv' := [(4, .double (FP.f2d r)), (0, .ref b), (1, .ref (a (2, 0, 0))), (2, .ref (a (4, 0, 8))), (3, .int (nI (4 * it)))]) C.ex C.cd dL_law_903 hv (by decide) rfl (fun ls1 hv1 => ?_)
  refine lv_aload_n (i := 2) C.ex C.cd dL_law_905 rfl (lv_at hv1 3 rfl) ?_
  have hb8 := hM.1 (4, 0, 8) (v4 rfl) (show (4 : Nat) ≠ 5 by decide)
  refine r_cVX C (c_X13_firedShare _ G a Y (nn (Y (4, 0, 0) 15)) h.np h.h15 M hM) my_X13_firedShare aw_1395 hb8 rfl rfl rfl (Nat.le_of_ble_eq_true rfl) (lwr (by decide) (by decide) (by omega) (by omega)) dL_law_906 hS2 hM2 hA hv1.1 (fun v M1 H1 locs1 hp1 hS3 hM3 hA3 => ?_)
  obtain ⟨Y2, hM4, r', rfl, g1, g2⟩ := hp1
  refine lv_f2d C.ex C.cd dL_law_909 (vf64_of (by rw [g1]; exact f2_n _ _)) ?_
  refine lv_dstore (nL := 8) (lv' := [(6, .double (FP.f2d r')), (4, .double (FP.f2d r)), (0, .ref b), (1, .ref (a (2, 0, 0))), (2, .ref (a (4, 0, 8))), (3, .int (nI (4 * it)))]) C.ex C.cd dL_law_910 hv1 (by decide) rfl (fun ls2 hv2 => ?_)
  refine lv_dload (i := 4) C.ex C.cd dL_law_912 (lv_at hv2 1 rfl) ?_
  refine lv_dload (i := 6) C.ex C.cd dL_law_914 (lv_at hv2 0 rfl) ?_
  refine lv_dcmp C.ex C.cd dL_law_916 ?_
  have ec : Op.cmpValue (FP.dcmp (FP.f2d r) (FP.f2d r')) .l = 0 := by rw [g1, e1, f2_self]; rfl
  rw [ec]
  have hS4 : SimE Y2 (12 * it + 12) := by rw [g2]; exact ⟨c, st, tl, ll, h.up (by omega)⟩
  exact y_if_eq (pc' := 920) (tgt := 938) rfl C dL_law_917 (by decide) (fun _ => y_goto (tgt := 980) C dL_law_938 (by decide) (y_widen (show k + 0 + 0 ≤ k + 18 by omega) (show n + 0 + 0 ≤ n + 3600 by omega) (next Y2 hS4))) (fun hne => absurd rfl hne) M1 hM4 H1 locs1 ls2 hS3 hM3 hA3 (has_of C.ml.symm hv2)
theorem lw_body {X : XT} {G : GT} {A : Nat → Prop} {a : Id3 → Nat} {rt : Option FieldType} (C : CX X G A RL cL_law 8 rt room_1) {b Ln : Nat} {xs : Nat → Int32} (hX : va_X b Ln xs (xS X) (xS X).heap) (hbl : b < (xS X).heap.size) (hbA : ¬ A b) {it : Nat} (hit : 4 * it + 4 ≤ Ln) (hLn : Ln ≤ 2048) {Y : YT} (hS : SimE Y (12 * it)) {k n : Nat} (hk : k ≤ 590000) (hn : n ≤ 7000000) {Q : State → Prop} (next : ∀ Y' : YT, SimE Y' (12 * it + 12) → WY X G A a Y' (k + 18) (n + 3600) Q 980 (LWs b a it) []) : WY X G A a Y k n Q 26 (LWs b a it) [] := by
  refine y_aload_n (pc' := 27) rfl C dL_law_26 rfl ?_
  refine y_iload_n (pc' := 28) rfl C dL_law_27 rfl ?_
  refine y_sld (pc' := 29) rfl C hX hbl hbA (show 4 * it < Ln by omega) (show Ln < 2 ^ 31 by omega) dL_law_28 ?_
  refine y_bipush (pc' := 31) (v := 63) rfl C dL_law_29 (by decide) ?_
  refine y_iand (pc' := 32) rfl C dL_law_31 ?_
  by_cases s_0 : (xs (4 * it) &&& 63) = 0
  · exact y_tabC (v := 0) (tgt := 184) C s_0 dL_law_32 (by decide) (by decide) rfl (by decide) (lw_c0 C hX hbl hbA hit hLn hS hk hn next)
  by_cases s_1 : (xs (4 * it) &&& 63) = 1
  · exact y_tabC (v := 1) (tgt := 207) C s_1 dL_law_32 (by decide) (by decide) rfl (by decide) (lw_c1 C hX hbl hbA hit hLn hS hk hn next)
  by_cases s_2 : (xs (4 * it) &&& 63) = 2
  · exact y_tabC (v := 2) (tgt := 250) C s_2 dL_law_32 (by decide) (by decide) rfl (by decide) (lw_c2 C hX hbl hbA hit hLn hS hk hn next)
  by_cases s_3 : (xs (4 * it) &&& 63) = 3
  · exact y_tabC (v := 3) (tgt := 273) C s_3 dL_law_32 (by decide) (by decide) rfl (by decide) (lw_c3 C hX hbl hbA hit hLn hS hk hn next)
  by_cases s_4 : (xs (4 * it) &&& 63) = 4
  · exact y_tabC (v := 4) (tgt := 296) C s_4 dL_law_32 (by decide) (by decide) rfl (by decide) (lw_c4 C hX hbl hbA hit hLn hS hk hn next)
  by_cases s_5 : (xs (4 * it) &&& 63) = 5
  · exact y_tabC (v := 5) (tgt := 319) C s_5 dL_law_32 (by decide) (by decide) rfl (by decide) (lw_c5 C hX hbl hbA hit hLn hS hk hn next)
  by_cases s_6 : (xs (4 * it) &&& 63) = 6
  · exact y_tabC (v := 6) (tgt := 342) C s_6 dL_law_32 (by decide) (by decide) rfl (by decide) (lw_c6 C hX hbl hbA hit hLn hS hk hn next)
  by_cases s_7 : (xs (4 * it) &&& 63) = 7
  · exact y_tabC (v := 7) (tgt := 385) C s_7 dL_law_32 (by decide) (by decide) rfl (by decide) (lw_c7 C hX hbl hbA hit hLn hS hk hn next)
  by_cases s_8 : (xs (4 * it) &&& 63) = 8
  · exact y_tabC (v := 8) (tgt := 408) C s_8 dL_law_32 (by decide) (by decide) rfl (by decide) (lw_c8 C hX hbl hbA hit hLn hS hk hn next)
  by_cases s_9 : (xs (4 * it) &&& 63) = 9
  · exact y_tabC (v := 9) (tgt := 431) C s_9 dL_law_32 (by decide) (by decide) rfl (by decide) (lw_c9 C hX hbl hbA hit hLn hS hk hn next)
  by_cases s_10 : (xs (4 * it) &&& 63) = 10
  · exact y_tabC (v := 10) (tgt := 464) C s_10 dL_law_32 (by decide) (by decide) rfl (by decide) (lw_c10 C hX hbl hbA hit hLn hS hk hn next)
  by_cases s_11 : (xs (4 * it) &&& 63) = 11
  · exact y_tabC (v := 11) (tgt := 487) C s_11 dL_law_32 (by decide) (by decide) rfl (by decide) (lw_c11 C hX hbl hbA hit hLn hS hk hn next)
  by_cases s_12 : (xs (4 * it) &&& 63) = 12
  · exact y_tabC (v := 12) (tgt := 510) C s_12 dL_law_32 (by decide) (by decide) rfl (by decide) (lw_c12 C hX hbl hbA hit hLn hS hk hn next)
  by_cases s_13 : (xs (4 * it) &&& 63) = 13
  · exact y_tabC (v := 13) (tgt := 533) C s_13 dL_law_32 (by decide) (by decide) rfl (by decide) (lw_c13 C hX hbl hbA hit hLn hS hk hn next)
  by_cases s_14 : (xs (4 * it) &&& 63) = 14
  · exact y_tabC (v := 14) (tgt := 556) C s_14 dL_law_32 (by decide) (by decide) rfl (by decide) (lw_c14 C hX hbl hbA hit hLn hS hk hn next)
  by_cases s_15 : (xs (4 * it) &&& 63) = 15
  · exact y_tabC (v := 15) (tgt := 569) C s_15 dL_law_32 (by decide) (by decide) rfl (by decide) (lw_c15 C hX hbl hbA hit hLn hS hk hn next)
  by_cases s_16 : (xs (4 * it) &&& 63) = 16
  · exact y_tabC (v := 16) (tgt := 582) C s_16 dL_law_32 (by decide) (by decide) rfl (by decide) (lw_c16 C hX hbl hbA hit hLn hS hk hn next)
  by_cases s_17 : (xs (4 * it) &&& 63) = 17
  · exact y_tabC (v := 17) (tgt := 605) C s_17 dL_law_32 (by decide) (by decide) rfl (by decide) (lw_c17 C hX hbl hbA hit hLn hS hk hn next)
  by_cases s_18 : (xs (4 * it) &&& 63) = 18
  · exact y_tabC (v := 18) (tgt := 638) C s_18 dL_law_32 (by decide) (by decide) rfl (by decide) (lw_c18 C hX hbl hbA hit hLn hS hk hn next)
  by_cases s_19 : (xs (4 * it) &&& 63) = 19
  · exact y_tabC (v := 19) (tgt := 651) C s_19 dL_law_32 (by decide) (by decide) rfl (by decide) (lw_c19 C hX hbl hbA hit hLn hS hk hn next)
  by_cases s_20 : (xs (4 * it) &&& 63) = 20
  · exact y_tabC (v := 20) (tgt := 664) C s_20 dL_law_32 (by decide) (by decide) rfl (by decide) (lw_c20 C hX hbl hbA hit hLn hS hk hn next)
  by_cases s_21 : (xs (4 * it) &&& 63) = 21
  · exact y_tabC (v := 21) (tgt := 687) C s_21 dL_law_32 (by decide) (by decide) rfl (by decide) (lw_c21 C hX hbl hbA hit hLn hS hk hn next)
  by_cases s_22 : (xs (4 * it) &&& 63) = 22
  · exact y_tabC (v := 22) (tgt := 710) C s_22 dL_law_32 (by decide) (by decide) rfl (by decide) (lw_c22 C hX hbl hbA hit hLn hS hk hn next)
  by_cases s_23 : (xs (4 * it) &&& 63) = 23
  · exact y_tabC (v := 23) (tgt := 723) C s_23 dL_law_32 (by decide) (by decide) rfl (by decide) (lw_c23 C hX hbl hbA hit hLn hS hk hn next)
  by_cases s_24 : (xs (4 * it) &&& 63) = 24
  · exact y_tabC (v := 24) (tgt := 736) C s_24 dL_law_32 (by decide) (by decide) rfl (by decide) (lw_c24 C hX hbl hbA hit hLn hS hk hn next)
  by_cases s_25 : (xs (4 * it) &&& 63) = 25
  · exact y_tabC (v := 25) (tgt := 759) C s_25 dL_law_32 (by decide) (by decide) rfl (by decide) (lw_c25 C hX hbl hbA hit hLn hS hk hn next)
  by_cases s_26 : (xs (4 * it) &&& 63) = 26
  · exact y_tabC (v := 26) (tgt := 782) C s_26 dL_law_32 (by decide) (by decide) rfl (by decide) (lw_c26 C hX hbl hbA hit hLn hS hk hn next)
  by_cases s_27 : (xs (4 * it) &&& 63) = 27
  · exact y_tabC (v := 27) (tgt := 821) C s_27 dL_law_32 (by decide) (by decide) rfl (by decide) (lw_c27 C hX hbl hbA hit hLn hS hk hn next)
  by_cases s_28 : (xs (4 * it) &&& 63) = 28
  · exact y_tabC (v := 28) (tgt := 844) C s_28 dL_law_32 (by decide) (by decide) rfl (by decide) (lw_c28 C hX hbl hbA hit hLn hS hk hn next)
  by_cases s_29 : (xs (4 * it) &&& 63) = 29
  · exact y_tabC (v := 29) (tgt := 857) C s_29 dL_law_32 (by decide) (by decide) rfl (by decide) (lw_c29 C hX hbl hbA hit hLn hS hk hn next)
  by_cases s_30 : (xs (4 * it) &&& 63) = 30
  · exact y_tabC (v := 30) (tgt := 898) C s_30 dL_law_32 (by decide) (by decide) rfl (by decide) (lw_c30 C hX hbl hbA hit hLn hS hk hn next)
  by_cases s_31 : (xs (4 * it) &&& 63) = 31
  · exact y_tabC (v := 31) (tgt := 941) C s_31 dL_law_32 (by decide) (by decide) rfl (by decide) (lw_c31 C hX hbl hbA hit hLn hS hk hn next)
  by_cases s_32 : (xs (4 * it) &&& 63) = 32
  · exact y_tabC (v := 32) (tgt := 954) C s_32 dL_law_32 (by decide) (by decide) rfl (by decide) (lw_c32 C hX hbl hbA hit hLn hS hk hn next)
  by_cases s_33 : (xs (4 * it) &&& 63) = 33
  · exact y_tabC (v := 33) (tgt := 967) C s_33 dL_law_32 (by decide) (by decide) rfl (by decide) (lw_c33 C hX hbl hbA hit hLn hS hk hn next)
  exact y_tabD (tgt := 980) C [0, 1, 2, 3, 4, 5, 6, 7, 8, 9, 10, 11, 12, 13, 14, 15, 16, 17, 18, 19, 20, 21, 22, 23, 24, 25, 26, 27, 28, 29, 30, 31, 32, 33] dL_law_32 (List.forall_mem_cons.mpr ⟨tne s_0 rfl, (List.forall_mem_cons.mpr ⟨tne s_1 rfl, (List.forall_mem_cons.mpr ⟨tne s_2 rfl, (List.forall_mem_cons.mpr ⟨tne s_3 rfl, (List.forall_mem_cons.mpr ⟨tne s_4 rfl, (List.forall_mem_cons.mpr ⟨tne s_5 rfl, (List.forall_mem_cons.mpr ⟨tne s_6 rfl, (List.forall_mem_cons.mpr ⟨tne s_7 rfl, (List.forall_mem_cons.mpr ⟨tne s_8 rfl, (List.forall_mem_cons.mpr ⟨tne s_9 rfl, (List.forall_mem_cons.mpr ⟨tne s_10 rfl, (List.forall_mem_cons.mpr ⟨tne s_11 rfl, (List.forall_mem_cons.mpr ⟨tne s_12 rfl, (List.forall_mem_cons.mpr ⟨tne s_13 rfl, (List.forall_mem_cons.mpr ⟨tne s_14 rfl, (List.forall_mem_cons.mpr ⟨tne s_15 rfl, (List.forall_mem_cons.mpr ⟨tne s_16 rfl, (List.forall_mem_cons.mpr ⟨tne s_17 rfl, (List.forall_mem_cons.mpr ⟨tne s_18 rfl, (List.forall_mem_cons.mpr ⟨tne s_19 rfl, (List.forall_mem_cons.mpr ⟨tne s_20 rfl, (List.forall_mem_cons.mpr ⟨tne s_21 rfl, (List.forall_mem_cons.mpr ⟨tne s_22 rfl, (List.forall_mem_cons.mpr ⟨tne s_23 rfl, (List.forall_mem_cons.mpr ⟨tne s_24 rfl, (List.forall_mem_cons.mpr ⟨tne s_25 rfl, (List.forall_mem_cons.mpr ⟨tne s_26 rfl, (List.forall_mem_cons.mpr ⟨tne s_27 rfl, (List.forall_mem_cons.mpr ⟨tne s_28 rfl, (List.forall_mem_cons.mpr ⟨tne s_29 rfl, (List.forall_mem_cons.mpr ⟨tne s_30 rfl, (List.forall_mem_cons.mpr ⟨tne s_31 rfl, (List.forall_mem_cons.mpr ⟨tne s_32 rfl, (List.forall_mem_cons.mpr ⟨tne s_33 rfl, (fun _ h => absurd h List.not_mem_nil)⟩)⟩)⟩)⟩)⟩)⟩)⟩)⟩)⟩)⟩)⟩)⟩)⟩)⟩)⟩)⟩)⟩)⟩)⟩)⟩)⟩)⟩)⟩)⟩)⟩)⟩)⟩)⟩)⟩)⟩)⟩)⟩)⟩)⟩) rfl (by decide) (y_widen (by omega) (by omega) (next Y (hS.up (by omega))))
theorem nI_sub4 {m : Nat} (h : m ≤ 2048) : (nI m - 4).toInt = (m : Int) - 4 := pk_sub_toInt (b := 4) (by omega) (by decide)
set_option maxRecDepth 20000 in
theorem lw_loop {X : XT} {G : GT} {A : Nat → Prop} {a : Id3 → Nat} {rt : Option FieldType} (C : CX X G A RL cL_law 8 rt room_1) {b Ln : Nat} {xs : Nat → Int32} (hX : va_X b Ln xs (xS X) (xS X).heap) (hbl : b < (xS X).heap.size) (hbA : ¬ A b) (hLn : Ln ≤ 2048) {Q : State → Prop} (ex : ∀ (it : Nat) (Y : YT) (k n : Nat), k ≤ 600000 → n ≤ 7302249 → WY X G A a Y k n Q 986 (LWs b a it) []) :
    ∀ (fu it : Nat) (Y : YT) (k n : Nat), 512 ≤ it + fu → it ≤ 512 → k + 18 * fu ≤ 590000 → n + 3600 * fu ≤ 7000000 → SimE Y (12 * it) → WY X G A a Y k n Q 18 (LWs b a it) [] := by
  intro fu
  induction fu with
  | zero =>
    intro it Y k n h1 h2 hk hn hS
    refine y_iload_n (pc' := 19) rfl C dL_law_18 rfl ?_
    refine y_aload_n (pc' := 20) rfl C dL_law_19 rfl ?_
    refine y_slen (pc' := 21) rfl C hX hbl hbA dL_law_20 ?_
    refine y_iconst (pc' := 22) (v := 4) rfl C dL_law_21 (by decide) ?_
    refine y_isub (pc' := 23) rfl C dL_law_22 ?_
    refine y_ic_gt (pc' := 26) (tgt := 986) rfl C dL_law_23 (by decide) (fun _ => ex it Y k n (by omega) (by omega)) (fun hc => ?_)
    rw [Int32.lt_iff_toInt_lt, nI_sub4 hLn, nI_toInt (by omega)] at hc
    omega
  | succ fu ih =>
    intro it Y k n h1 h2 hk hn hS
    refine y_iload_n (pc' := 19) rfl C dL_law_18 rfl ?_
    refine y_aload_n (pc' := 20) rfl C dL_law_19 rfl ?_
    refine y_slen (pc' := 21) rfl C hX hbl hbA dL_law_20 ?_
    refine y_iconst (pc' := 22) (v := 4) rfl C dL_law_21 (by decide) ?_
    refine y_isub (pc' := 23) rfl C dL_law_22 ?_
    refine y_ic_gt (pc' := 26) (tgt := 986) rfl C dL_law_23 (by decide) (fun _ => ex it Y k n (by omega) (by omega)) (fun hc => ?_)
    rw [Int32.lt_iff_toInt_lt, nI_sub4 hLn, nI_toInt (by omega)] at hc
    have hit : 4 * it + 4 ≤ Ln := by omega
    have q1 : 512 ≤ it + 1 + fu := by omega
    have q2 : it + 1 ≤ 512 := by omega
    have q3 : k + 18 + 18 * fu ≤ 590000 := by omega
    have q4 : n + 3600 + 3600 * fu ≤ 7000000 := by omega
    refine lw_body C hX hbl hbA hit hLn hS (by omega) (by omega) (fun Y' hS' => ?_)
    refine y_iinc (pc' := 983) (v := nI (4 * (it + 1))) rfl C dL_law_980 rfl (nI_add (4 * it) 4) (by decide) ?_
    refine y_goto (tgt := 18) C dL_law_983 (by decide) ?_
    exact ih (it + 1) Y' (k + 18) (n + 3600) q1 q2 q3 q4 (by rw [show 12 * (it + 1) = 12 * it + 12 by omega]; exact hS')
