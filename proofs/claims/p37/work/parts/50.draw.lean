
/-! DOUBLES AND FLOATS: rows, and the four methods that answer one. -/
def PD (Post : UInt64 → YT → Prop) : Option Value → YT → Prop := fun v Y' => ∃ r : UInt64, v = some (.double r) ∧ Post r Y'
def PF (Post : UInt32 → YT → Prop) : Option Value → YT → Prop := fun v Y' => ∃ r : UInt32, v = some (.float r) ∧ Post r Y'
section DROWS
variable {X : XT} {G : GT} {A : Nat → Prop} {a : Id3 → Nat} {own : String} {cc : ByteArray} {nL : Nat} {ret : Option FieldType} {rm : Room} {Y : YT} {k n : Nat} {Q : State → Prop} {pc : Nat} {L : List (Option Value)} {st : List Value}
theorem y_dconst (C : CX X G A own cc nL ret rm) (hdg : decode cc pc = .ok (.dconst 0, 1)) (kk : WY X G A a Y k n Q (pc + 1) L (.double FP.dconst0 :: st)) : WY X G A a Y k n Q pc L st := fun M hM H locs ls hS hM2 hA hL => lv_dconst0 C.ex C.cd hdg (kk M hM H locs ls hS hM2 hA hL)
theorem y_fconst (C : CX X G A own cc nL ret rm) (hdg : decode cc pc = .ok (.fconst 0, 1)) (kk : WY X G A a Y k n Q (pc + 1) L (.float FP.fconst0 :: st)) : WY X G A a Y k n Q pc L st := fun M hM H locs ls hS hM2 hA hL => lv_fconst0 C.ex C.cd hdg (kk M hM H locs ls hS hM2 hA hL)
theorem y_i2d (C : CX X G A own cc nL ret rm) {x : Int32} (hdg : decode cc pc = .ok (.i2d, 1)) (kk : WY X G A a Y k n Q (pc + 1) L (.double (FP.i2d x) :: st)) : WY X G A a Y k n Q pc L (.int x :: st) := fun M hM H locs ls hS hM2 hA hL => lv_i2d C.ex C.cd hdg (kk M hM H locs ls hS hM2 hA hL)
theorem y_i2f (C : CX X G A own cc nL ret rm) {x : Int32} (hdg : decode cc pc = .ok (.i2f, 1)) (kk : WY X G A a Y k n Q (pc + 1) L (.float (FP.i2f x) :: st)) : WY X G A a Y k n Q pc L (.int x :: st) := fun M hM H locs ls hS hM2 hA hL => lv_i2f C.ex C.cd hdg (kk M hM H locs ls hS hM2 hA hL)
theorem y_ddiv (C : CX X G A own cc nL ret rm) {x y : UInt64} (hne : vf_n64 (FP.ddiv x y)) (hdg : decode cc pc = .ok (.ddiv, 1)) (kk : WY X G A a Y k n Q (pc + 1) L (.double (FP.ddiv x y) :: st)) : WY X G A a Y k n Q pc L (.double y :: .double x :: st) := fun M hM H locs ls hS hM2 hA hL => lv_ddiv C.ex C.cd hdg hne (kk M hM H locs ls hS hM2 hA hL)
theorem y_fdiv (C : CX X G A own cc nL ret rm) {x y : UInt32} (hne : vf_n32 (FP.fdiv x y)) (hdg : decode cc pc = .ok (.fdiv, 1)) (kk : WY X G A a Y k n Q (pc + 1) L (.float (FP.fdiv x y) :: st)) : WY X G A a Y k n Q pc L (.float y :: .float x :: st) := fun M hM H locs ls hS hM2 hA hL => lv_fdiv C.ex C.cd hdg hne (kk M hM H locs ls hS hM2 hA hL)
theorem y_dreturn (C : CX X G A own cc nL ret rm) {x : UInt64} {Post : UInt64 → YT → Prop} (hret : ret = some .double) (hdg : decode cc pc = .ok (.dreturn, 1)) (h1 : Nat.ble k rm.cells = true) (h2 : Nat.ble n rm.slots = true) (hp : Post x Y) : WY X G A a Y k n (MEnd X G A rm (PY G a (PD Post))) pc L [.double x] := by
  intro M hM H locs ls hS hM2 hA hL
  refine W.widen (Nat.le_of_ble_eq_true h1) (Nat.le_of_ble_eq_true h2) ?_
  have hlocks := C.lk
  exact W.dret C.ex C.cd (C.rt.trans hret) (fun t ht _ => e_QC hS hM2 hA ⟨Y, hM, x, rfl, hp⟩ t ht) hS.2.2 hdg hlocks
theorem y_freturn (C : CX X G A own cc nL ret rm) {x : UInt32} {Post : UInt32 → YT → Prop} (hret : ret = some .float) (hdg : decode cc pc = .ok (.freturn, 1)) (h1 : Nat.ble k rm.cells = true) (h2 : Nat.ble n rm.slots = true) (hp : Post x Y) : WY X G A a Y k n (MEnd X G A rm (PY G a (PF Post))) pc L [.float x] := by
  intro M hM H locs ls hS hM2 hA hL
  refine W.widen (Nat.le_of_ble_eq_true h1) (Nat.le_of_ble_eq_true h2) ?_
  have hlocks := C.lk
  exact W.fret C.ex C.cd (C.rt.trans hret) (fun t ht _ => e_QC hS hM2 hA ⟨Y, hM, x, rfl, hp⟩ t ht) hS.2.2 hdg hlocks
end DROWS
theorem vf64_of {r : UInt64} (h : FP.Core.dIsNaN r = false) : vf_n64 r := by
  have h2 : r.toNat % 2 ^ 63 ≤ 9218868437227405312 := (FP.Core.ne_nan r).mp ((FP.Core.notNaN_iff r).mp h)
  show r &&& 0x7fffffffffffffff ≤ 0x7ff0000000000000
  rw [UInt64.le_iff_toNat_le, UInt64.toNat_and, show (0x7fffffffffffffff : UInt64).toNat = 2 ^ 63 - 1 by decide, Nat.and_two_pow_sub_one_eq_mod]
  exact h2
theorem vf32_of {r : UInt32} (h : FP.Core.fIsNaN r = false) : vf_n32 r := by
  have h2 : r.toNat % 2 ^ 31 ≤ 2139095040 := by
    rcases Nat.lt_or_ge 2139095040 (r.toNat % 2 ^ 31) with z | z
    · rw [(FP.Core.isNaN_bits32 r).mpr z] at h
      exact absurd h (by decide)
    · exact z
  show r &&& 0x7fffffff ≤ 0x7f800000
  rw [UInt32.le_iff_toNat_le, UInt32.toNat_and, show (0x7fffffff : UInt32).toNat = 2 ^ 31 - 1 by decide, Nat.and_two_pow_sub_one_eq_mod]
  exact h2
theorem dv_n {x y : Int32} (h : ¬ y = 0) : FP.Core.dIsNaN (FP.ddiv (FP.i2d x) (FP.i2d y)) = false :=
  FP.Core.ddiv_out (FP.Core.i2d_fin x).notNaN (FP.Core.i2d_fin y) (fun z => FP.Core.i2d_ne_zero h ((FP.Core.zero_bits2 _).mp z))
theorem fv_n {x y : Int32} (h : ¬ y = 0) : FP.Core.fIsNaN (FP.fdiv (FP.i2f x) (FP.i2f y)) = false :=
  FP.Core.fdiv_out (FP.Core.i2f_fin x).notNaN (FP.Core.i2f_fin y) (fun z => FP.Core.i2f_ne_zero h ((FP.Core.zero_bits232 _).mp z))
def mbF (b m : Int32) : UInt64 := if m = 0 then FP.dconst0 else FP.ddiv (FP.i2d b) (FP.i2d m)
def fsF (c n : Int32) : UInt32 := if n = 0 then FP.fconst0 else FP.fdiv (FP.i2f c) (FP.i2f n)
theorem mb_self (b m : Int32) : FP.dcmp (mbF b m) (mbF b m) = some .eq := by
  refine FP.Core.dcmp_self ((FP.Core.notNaN_iff _).mp ?_)
  unfold mbF
  split
  · decide +kernel
  · exact dv_n (by assumption)
theorem fs_self (b m : Int32) : FP.fcmp (fsF b m) (fsF b m) = some .eq := by
  refine FP.Core.fcmp_self ((FP.Core.notNaN_iff32 _).mp ?_)
  unfold fsF
  split
  · decide +kernel
  · exact fv_n (by assumption)
theorem fl_X12_239 : FLK "KilnKeeper" 239 7 0 := ⟨RX7, TX7, 2, rfl, by decide, aw_169, in_TX7⟩
-- KilnKeeper.meanBurnt 
set_option maxHeartbeats 1000000 in
set_option maxRecDepth 20000 in
theorem c_X12_meanBurnt (l : Launch) (G : GT) (a : Id3 → Nat) (Y : YT) (n : Nat) (s : Nat → Int32)  (hR : RKi Y 0 s) (hI : Inv s n 0) (hn : n ≤ 100000) : CtY l G a yX12_meanBurnt cX12_meanBurnt 2 (some .double) ({ frames := 0, cells := 0, slots := 0, locals := 0 } : Room) [.ref (a (2, 0, 0))] Y (PD (fun r Y' => r = mbF (s 16) (s 12) ∧ Y' = Y)) := by
  refine CtY.of (by decide) rfl (Nat.le_of_ble_eq_true rfl) ?_
  intro X A C hl
  subst hl
  have h12 : Y (0, 0, 4) 0 = s 12 := hR.2.2.2.1.1
  have h16 : Y (0, 0, 4) 3 = s 16 := hR.2.2.2.1.2.2.2
  refine y_aload_n (pc' := 1) rfl C dX12_meanBurnt_0 rfl ?_
  refine y_get (pc' := 4) rfl (v := .ref (a (0, 0, 0))) C fl_X12_10 (v2 rfl) rfl rfl dX12_meanBurnt_1 rfl ?_
  refine y_get (pc' := 7) rfl (v := .ref (a (0, 0, 4))) C fl_X12_84 (v0 k0 rfl) rfl rfl dX12_meanBurnt_4 rfl ?_
  refine y_get (pc' := 10) rfl C fl_X12_236 (v0 k0 rfl) rfl rfl dX12_meanBurnt_7 rfl ?_
  refine y_istore_n (pc' := 11) rfl C dX12_meanBurnt_10 (by decide) ?_
  refine y_iload_n (pc' := 12) rfl C dX12_meanBurnt_11 rfl ?_
  refine y_if_ne (pc' := 15) rfl (tgt := 19) C dX12_meanBurnt_12 (by decide) (fun c_12 => ?_) (fun c_12 => ?_)
  · refine y_aload_n (pc' := 20) rfl C dX12_meanBurnt_19 rfl ?_
    refine y_get (pc' := 23) rfl (v := .ref (a (0, 0, 0))) C fl_X12_10 (v2 rfl) rfl rfl dX12_meanBurnt_20 rfl ?_
    refine y_get (pc' := 26) rfl (v := .ref (a (0, 0, 4))) C fl_X12_84 (v0 k0 rfl) rfl rfl dX12_meanBurnt_23 rfl ?_
    refine y_get (pc' := 29) rfl C fl_X12_160 (v0 k0 rfl) rfl rfl dX12_meanBurnt_26 rfl ?_
    refine y_i2d C dX12_meanBurnt_29 ?_
    refine y_iload_n (pc' := 31) rfl C dX12_meanBurnt_30 rfl ?_
    refine y_i2d C dX12_meanBurnt_31 ?_
    refine y_ddiv C (vf64_of (dv_n c_12)) dX12_meanBurnt_32 ?_
    refine y_dreturn C rfl dX12_meanBurnt_33 rfl rfl ?_
    exact ⟨by rw [mbF, if_neg (by rw [← h12]; exact c_12), ← h12, ← h16], rfl⟩
  · refine y_dconst C dX12_meanBurnt_15 ?_
    refine y_goto (tgt := 33) C dX12_meanBurnt_16 (by decide) ?_
    refine y_dreturn C rfl dX12_meanBurnt_33 rfl rfl ?_
    exact ⟨by rw [mbF, if_pos (by rw [← h12]; exact c_12)], rfl⟩
-- KilnKeeper.firedShare 
set_option maxHeartbeats 1000000 in
set_option maxRecDepth 20000 in
theorem c_X12_firedShare (l : Launch) (G : GT) (a : Id3 → Nat) (Y : YT) (n : Nat) (s : Nat → Int32)  (hR : RKi Y 0 s) (hI : Inv s n 0) (hn : n ≤ 100000) : CtY l G a yX12_firedShare cX12_firedShare 2 (some .float) ({ frames := 2, cells := 0, slots := 0, locals := 45 } : Room) [.ref (a (2, 0, 0))] Y (PF (fun r Y' => r = fsF (manyN s 2 (nn (s 15))) (s 15) ∧ Y' = Y)) := by
  refine CtY.of (by decide) rfl (Nat.le_of_ble_eq_true rfl) ?_
  intro X A C hl
  subst hl
  obtain ⟨np, hnpe⟩ : ∃ np, np = nn (s 15) := ⟨_, rfl⟩
  have hok := hI.mb.ok hn
  have hc : Y (0, 0, 7) 0 = nI np := by rw [hnpe]; exact hR.hc hI.mb
  have hnp : np ≤ 8 := by rw [hnpe]; exact hI.mb.np.2
  have h15 : s 15 = nI np := by rw [hnpe]; exact hI.mb.np.1
  have hpr : ∀ p, p < np → PotR (Y (1, 0, p)) s p := fun p hp => hR.2.2.2.2.2.2.2 p (by rw [← hnpe]; exact hp)
  have hpi : ∀ p, p < np → PotI s p := fun p hp => hI.2.2.2.1 p (by rw [← hnpe]; exact hp)
  have h15k : Y (0, 0, 7) 0 = s 15 := by rw [hc, h15]
  refine y_aload_n (pc' := 1) rfl C dX12_firedShare_0 rfl ?_
  refine y_get (pc' := 4) rfl (v := .ref (a (0, 0, 0))) C fl_X12_10 (v2 rfl) rfl rfl dX12_firedShare_1 rfl ?_
  refine y_get (pc' := 7) rfl (v := .ref (a (0, 0, 7))) C fl_X12_96 (v0 k0 rfl) rfl rfl dX12_firedShare_4 rfl ?_
  refine y_get (pc' := 10) rfl C fl_X12_239 (v0 k0 rfl) rfl rfl dX12_firedShare_7 rfl ?_
  refine y_istore_n (pc' := 11) rfl C dX12_firedShare_10 (by decide) ?_
  refine y_iload_n (pc' := 12) rfl C dX12_firedShare_11 rfl ?_
  refine y_if_ne (pc' := 15) rfl (tgt := 19) C dX12_firedShare_12 (by decide) (fun c_12 => ?_) (fun c_12 => ?_)
  · refine y_aload_n (pc' := 20) rfl C dX12_firedShare_19 rfl ?_
    refine y_get (pc' := 23) rfl (v := .ref (a (0, 0, 0))) C fl_X12_10 (v2 rfl) rfl rfl dX12_firedShare_20 rfl ?_
    refine y_get (pc' := 26) rfl (v := .ref (a (0, 0, 7))) C fl_X12_96 (v0 k0 rfl) rfl rfl dX12_firedShare_23 rfl ?_
    refine y_iconst (pc' := 27) rfl (v := 2) C dX12_firedShare_26 (by decide) ?_
    refine y_cVi (pc' := 30) (k' := 0) (n' := 0) rfl C (c_X7_countOf _ G a Y 0 np 2 k0 hc hnp) my_X7_countOf aw_1071 (v0 k0 rfl) rfl rfl rfl rfl rfl (Nat.le_of_ble_eq_true rfl) rfl dX12_firedShare_27 rfl rfl (fun r_27 Y_27 hp_27 => ?_)
    obtain ⟨rfl, hY_27⟩ := hp_27
    have hY_27 := hY_27.symm; subst hY_27
    refine y_i2f C dX12_firedShare_30 ?_
    refine y_iload_n (pc' := 32) rfl C dX12_firedShare_31 rfl ?_
    refine y_i2f C dX12_firedShare_32 ?_
    refine y_fdiv C (vf32_of (fv_n c_12)) dX12_firedShare_33 ?_
    refine y_freturn C rfl dX12_firedShare_34 rfl rfl ?_
    exact ⟨by rw [fsF, if_neg (by rw [← h15k]; exact c_12), ← hnpe, ← mn_eq np hpr, ← h15k], rfl⟩
  · refine y_fconst C dX12_firedShare_15 ?_
    refine y_goto (tgt := 34) C dX12_firedShare_16 (by decide) ?_
    refine y_freturn C rfl dX12_firedShare_34 rfl rfl ?_
    exact ⟨by rw [fsF, if_pos (by rw [← h15k]; exact c_12)], rfl⟩
