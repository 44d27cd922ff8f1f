/-! the watched fields of the counties: object by object -/
def WK : List (Nat × Nat) := [(4, 0), (1, 8), (0, 6), (3, 1), (3, 3)]
def WT (kp : Nat → Nat) (L : List Nat) (S : List Nat) (f0 f : Nat → va_E) : Prop := ∀ b K j : Nat, RK kp L b K → (K, j) ∈ WK → b ∉ S → oI (f b) j = oI (f0 b) j
section WT
variable {kp : Nat → Nat} {L S S1 : List Nat} {f0 f f1 : Nat → va_E} {ms : List (Nat × Nat)} {a : Nat}
theorem wt_rf : WT kp L S f f := fun _ _ _ _ _ _ => rfl
theorem wt_fm (h : WT kp L S f0 f) (g : FM kp L ms f f1) (hc : WK.all (fun q => !(ms.contains q)) = true) : WT kp L S f0 f1 := fun b K j hb hk hs => by
  have z := List.all_eq_true.mp hc _ hk
  have z2 : ms.contains (K, j) = false := by simpa using z
  rw [fm_I g hb z2]
  exact h b K j hb hk hs
theorem wt_put (h : WT kp L S f0 f) (n : ∀ b, b ≠ a → f1 b = f b) (ha : a ∈ S) : WT kp L S f0 f1 := fun b K j hb hk hs => by
  rw [n b (fun e => hs (by rw [e]; exact ha))]
  exact h b K j hb hk hs
theorem wt_call (h : WT kp L S f0 f) (g : WT kp L S1 f f1) (hs : ∀ q : Nat, q ∈ S1 → q ∈ S) : WT kp L S f0 f1 := fun b K j hb hk hn => (g b K j hb hk (fun q => hn (hs b q))).trans (h b K j hb hk hn)
end WT
theorem th_ivT {cI cJ cZ cD cR cT : ClassId} {kp : Nat → Nat} {L : List Nat} {f : Nat → va_E} {a ci k : Nat} {lo hi : Int} (h : TH cI cJ cZ cD cR cT kp L f) (hr : RK kp L a ci) (hci : ci < 100) (hk : k < nF ci) (hft : fTab ci k = (0, 0, lo, hi)) : lo ≤ (oI (f a) k).toInt ∧ (oI (f a) k).toInt ≤ hi := by
  obtain ⟨fs, e1, e2, e3⟩ := th_obj h hr hci
  have h3 := e3 k hk
  rw [hft] at h3
  obtain ⟨x, e4, e5⟩ := h3
  have e : oI (f a) k = x := by unfold oI; rw [oVal_obj e1, e4]
  rw [e]
  exact e5

def ms_X4_add_w : List (Nat × Nat) := [(4, 0), (341, 0), (342, 0), (343, 0), (344, 0), (345, 0), (346, 0), (347, 0), (348, 0)]
def po_X4_add_w (kp : Nat → Nat) (L : List Nat) (f0 : Nat → va_E) (h0 : Nat) (u1 : Int32) (u2 : Int32) (u3 : Int32) : Option Value → (Nat → va_E) → Prop := fun v f => (∃ r : Int32, v = some (.int r) ∧ (((oI (f0 h0) 0).toInt < 40 ∧ r.toInt = (oI (f0 h0) 0).toInt) ∨ (40 ≤ (oI (f0 h0) 0).toInt ∧ r.toInt = -1))) ∧ FM kp L ms_X4_add_w f0 f ∧ (((oI (f0 h0) 0).toInt < 40 ∧ (oI (f h0) 0).toInt = (oI (f0 h0) 0).toInt + 1) ∨ (40 ≤ (oI (f0 h0) 0).toInt ∧ (oI (f h0) 0).toInt = (oI (f0 h0) 0).toInt)) ∧ (WT kp L [h0] f0 f)
set_option maxHeartbeats 4000000 in
set_option maxRecDepth 100000 in
theorem c_X4_add_w (l : Launch) (G : va_G) (cI cJ cZ cD cR cT : ClassId) (kp : Nat → Nat) (L : List Nat) (f0 : Nat → va_E) (hTH : TH cI cJ cZ cD cR cT kp L f0) (sz : Nat) (h0 : Nat) (u1 : Int32) (u2 : Int32) (u3 : Int32) (rh0 : RK kp L h0 4) : Met l yX4_add (Cond.code yX4_add cX4_add 5 (some .int) :: wTab) ({ frames := 1, cells := 0, slots := 0, locals := 40 }) (va_Pc [.ref h0, .int u1, .int u2, .int u3] (PreW G (tys6 cI cJ cZ cD cR cT) (va_pl L f0) sz)) (QT (po_X4_add_w kp L f0 h0 u1 u2 u3) G cI cJ cZ cD cR cT (va_A (va_pl L f0) sz) kp L) 0 0 (va_A (va_pl L f0) sz) := by
  refine metT (by decide) (Nat.le_of_ble_eq_true rfl) hTH ?_
  intro p e s m below meth c A ls E hW hl
  obtain ⟨hx, hb, -, hml, hown, hts, -, -, -⟩ := id E
  have hF : FM kp L ms_X4_add_w f0 f0 := FM.rf
  have hl : lv_has ls 5 [(0, .ref h0), (1, .int u1), (2, .int u2), (3, .int u3)] := hl
  obtain ⟨vc, mvc⟩ : ∃ x : Int32, oI (f0 h0) 0 = x := ⟨_, rfl⟩
  have bvc : (0 : Int) ≤ vc.toInt ∧ vc.toInt ≤ 40 := by rw [← mvc]; exact th_ivT hTH rh0 (by decide) (by decide) rfl
  refine lv_aload_n hx hb dX4_add_0 rfl (lv_at hl 0 rfl) ?_
  refine fg_RX4_39 E hW rh0 dX4_add_1 (fun y1 m2 b3 => ?_)
  obtain rfl : vc = y1 := (mvc).symm.trans m2
  refine lv_bipush (v := 40) hx hb dX4_add_4 (by decide) ?_
  refine q_icmp_lt (Y := 40) (tgt := 11) hx hb dX4_add_6 (by decide) rfl rfl (fun c4 => ?_) (fun c4 => ?_)
  · refine lv_aload_n hx hb dX4_add_11 rfl (lv_at hl 0 rfl) ?_
    refine fg_RX4_39 E hW rh0 dX4_add_12 (fun y5 m6 b7 => ?_)
    obtain rfl : vc = y5 := (m2).symm.trans m6
    refine lv_istore (lv' := [(4, .int vc), (0, .ref h0), (1, .int u1), (2, .int u2), (3, .int u3)]) hx hb dX4_add_15 hl (by decide) rfl (fun ls hl => ?_)
    refine lv_aload_n hx hb dX4_add_17 rfl (lv_at hl 1 rfl) ?_
    refine fg_RX4_9 E hW rh0 dX4_add_18 (fun a8 m9 r10 => ?_)
    refine lv_iload hx hb dX4_add_21 (lv_at hl 0 rfl) ?_
    refine lv_iload_n hx hb dX4_add_23 rfl (lv_at hl 2 rfl) ?_
    have hW0 := hW.2.2.2
    refine gs_341 E hW r10 ⟨by omega, by omega⟩ dX4_add_24 (fun f11 H locs e12 n13 g14 hW => ?_)
    have z15 : WT kp L [h0] f0 f11 := wt_fm (wt_rf : WT kp L [h0] f0 f0) g14 rfl
    have hF := FM.tr hF g14 rfl
    refine lv_aload_n hx hb dX4_add_25 rfl (lv_at hl 1 rfl) ?_
    refine fg_RX4_15 E hW rh0 dX4_add_26 (fun a16 m17 r18 => ?_)
    refine lv_iload hx hb dX4_add_29 (lv_at hl 0 rfl) ?_
    refine lv_iload_n hx hb dX4_add_31 rfl (lv_at hl 3 rfl) ?_
    have hW0 := hW.2.2.2
    refine gs_342 E hW r18 ⟨by omega, by omega⟩ dX4_add_32 (fun f19 H locs e20 n21 g22 hW => ?_)
    have z23 : WT kp L [h0] f0 f19 := wt_fm z15 g22 rfl
    have hF := FM.tr hF g22 rfl
    refine lv_aload_n hx hb dX4_add_33 rfl (lv_at hl 1 rfl) ?_
    refine fg_RX4_18 E hW rh0 dX4_add_34 (fun a24 m25 r26 => ?_)
    refine lv_iload hx hb dX4_add_37 (lv_at hl 0 rfl) ?_
    refine lv_iload_n hx hb dX4_add_39 rfl (lv_at hl 4 rfl) ?_
    have hW0 := hW.2.2.2
    refine gs_343 E hW r26 ⟨by omega, by omega⟩ dX4_add_40 (fun f27 H locs e28 n29 g30 hW => ?_)
    have m31 : aI (f27 a8) (vc : Int32).toNatClampNeg = u1 := ((congrArg (fun z => aI z (vc : Int32).toNatClampNeg) (fm_A g30 r10 (by decide) rfl)).trans ((congrArg (fun z => aI z (vc : Int32).toNatClampNeg) (fm_A g22 r10 (by decide) rfl)).trans (show aI (f11 a8) (vc : Int32).toNatClampNeg = u1 from by rw [e12]; exact up_s)))
    have z32 : WT kp L [h0] f0 f27 := wt_fm z23 g30 rfl
    have hF := FM.tr hF g30 rfl
    refine lv_aload_n hx hb dX4_add_41 rfl (lv_at hl 1 rfl) ?_
    refine fg_RX4_21 E hW rh0 dX4_add_42 (fun a33 m34 r35 => ?_)
    refine lv_iload hx hb dX4_add_45 (lv_at hl 0 rfl) ?_
    refine lv_iconst (v := (-1)) hx hb dX4_add_47 (by decide) ?_
    have hW0 := hW.2.2.2
    refine gs_344 E hW r35 ⟨by omega, by omega⟩ (by decide) dX4_add_48 (fun f36 H locs e37 n38 g39 hW => ?_)
    have m40 : aI (f36 a16) (vc : Int32).toNatClampNeg = u2 := ((congrArg (fun z => aI z (vc : Int32).toNatClampNeg) (fm_A g39 r18 (by decide) rfl)).trans ((congrArg (fun z => aI z (vc : Int32).toNatClampNeg) (fm_A g30 r18 (by decide) rfl)).trans (show aI (f19 a16) (vc : Int32).toNatClampNeg = u2 from by rw [e20]; exact up_s)))
    have z41 : WT kp L [h0] f0 f36 := wt_fm z32 g39 rfl
    have hF := FM.tr hF g39 rfl
    refine lv_aload_n hx hb dX4_add_49 rfl (lv_at hl 1 rfl) ?_
    refine fg_RX4_24 E hW rh0 dX4_add_50 (fun a42 m43 r44 => ?_)
    refine lv_iload hx hb dX4_add_53 (lv_at hl 0 rfl) ?_
    refine lv_iconst (v := 0) hx hb dX4_add_55 (by decide) ?_
    have hW0 := hW.2.2.2
    refine gs_345 E hW r44 ⟨by omega, by omega⟩ dX4_add_56 (fun f45 H locs e46 n47 g48 hW => ?_)
    have m49 : aI (f45 a8) (vc : Int32).toNatClampNeg = u1 := ((congrArg (fun z => aI z (vc : Int32).toNatClampNeg) (fm_A g48 r10 (by decide) rfl)).trans ((congrArg (fun z => aI z (vc : Int32).toNatClampNeg) (fm_A g39 r10 (by decide) rfl)).trans m31))
    have m50 : aI (f45 a24) (vc : Int32).toNatClampNeg = u3 := ((congrArg (fun z => aI z (vc : Int32).toNatClampNeg) (fm_A g48 r26 (by decide) rfl)).trans ((congrArg (fun z => aI z (vc : Int32).toNatClampNeg) (fm_A g39 r26 (by decide) rfl)).trans (show aI (f27 a24) (vc : Int32).toNatClampNeg = u3 from by rw [e28]; exact up_s)))
    have z51 : WT kp L [h0] f0 f45 := wt_fm z41 g48 rfl
    have hF := FM.tr hF g48 rfl
    refine lv_aload_n hx hb dX4_add_57 rfl (lv_at hl 1 rfl) ?_
    refine fg_RX4_27 E hW rh0 dX4_add_58 (fun a52 m53 r54 => ?_)
    refine lv_iload hx hb dX4_add_61 (lv_at hl 0 rfl) ?_
    refine lv_iconst (v := 0) hx hb dX4_add_63 (by decide) ?_
    have hW0 := hW.2.2.2
    refine gs_346 E hW r54 ⟨by omega, by omega⟩ dX4_add_64 (fun f55 H locs e56 n57 g58 hW => ?_)
    have m59 : aI (f55 a16) (vc : Int32).toNatClampNeg = u2 := ((congrArg (fun z => aI z (vc : Int32).toNatClampNeg) (fm_A g58 r18 (by decide) rfl)).trans ((congrArg (fun z => aI z (vc : Int32).toNatClampNeg) (fm_A g48 r18 (by decide) rfl)).trans m40))
    have m60 : aI (f55 a33) (vc : Int32).toNatClampNeg = (-1) := ((congrArg (fun z => aI z (vc : Int32).toNatClampNeg) (fm_A g58 r35 (by decide) rfl)).trans ((congrArg (fun z => aI z (vc : Int32).toNatClampNeg) (fm_A g48 r35 (by decide) rfl)).trans (show aI (f36 a33) (vc : Int32).toNatClampNeg = (-1) from by rw [e37]; exact up_s)))
    have z61 : WT kp L [h0] f0 f55 := wt_fm z51 g58 rfl
    have hF := FM.tr hF g58 rfl
    refine lv_aload_n hx hb dX4_add_65 rfl (lv_at hl 1 rfl) ?_
    refine fg_RX4_30 E hW rh0 dX4_add_66 (fun a62 m63 r64 => ?_)
    refine lv_iload hx hb dX4_add_69 (lv_at hl 0 rfl) ?_
    refine lv_iconst (v := (-1)) hx hb dX4_add_71 (by decide) ?_
    have hW0 := hW.2.2.2
    refine gs_347 E hW r64 ⟨by omega, by omega⟩ dX4_add_72 (fun f65 H locs e66 n67 g68 hW => ?_)
    have m69 : oI (f65 h0) 0 = vc := ((fm_I g68 rh0 rfl).trans ((fm_I g58 rh0 rfl).trans ((fm_I g48 rh0 rfl).trans ((fm_I g39 rh0 rfl).trans ((fm_I g30 rh0 rfl).trans ((fm_I g22 rh0 rfl).trans ((fm_I g14 rh0 rfl).trans m6)))))))
    have m70 : oR (f65 h0) 1 = a8 := ((fm_R g68 rh0 rfl).trans ((fm_R g58 rh0 rfl).trans ((fm_R g48 rh0 rfl).trans ((fm_R g39 rh0 rfl).trans ((fm_R g30 rh0 rfl).trans ((fm_R g22 rh0 rfl).trans ((fm_R g14 rh0 rfl).trans m9)))))))
    have m71 : aI (f65 a8) (vc : Int32).toNatClampNeg = u1 := ((congrArg (fun z => aI z (vc : Int32).toNatClampNeg) (fm_A g68 r10 (by decide) rfl)).trans ((congrArg (fun z => aI z (vc : Int32).toNatClampNeg) (fm_A g58 r10 (by decide) rfl)).trans m49))
    have m72 : aI (f65 a24) (vc : Int32).toNatClampNeg = u3 := ((congrArg (fun z => aI z (vc : Int32).toNatClampNeg) (fm_A g68 r26 (by decide) rfl)).trans ((congrArg (fun z => aI z (vc : Int32).toNatClampNeg) (fm_A g58 r26 (by decide) rfl)).trans m50))
    have m73 : aI (f65 a42) (vc : Int32).toNatClampNeg = 0 := ((congrArg (fun z => aI z (vc : Int32).toNatClampNeg) (fm_A g68 r44 (by decide) rfl)).trans ((congrArg (fun z => aI z (vc : Int32).toNatClampNeg) (fm_A g58 r44 (by decide) rfl)).trans (show aI (f45 a42) (vc : Int32).toNatClampNeg = 0 from by rw [e46]; exact up_s)))
    have z74 : WT kp L [h0] f0 f65 := wt_fm z61 g68 rfl
    have hF := FM.tr hF g68 rfl
    refine lv_aload_n hx hb dX4_add_73 rfl (lv_at hl 1 rfl) ?_
    refine fg_RX4_33 E hW rh0 dX4_add_74 (fun a75 m76 r77 => ?_)
    refine lv_iload hx hb dX4_add_77 (lv_at hl 0 rfl) ?_
    refine lv_iconst (v := 0) hx hb dX4_add_79 (by decide) ?_
    have hW0 := hW.2.2.2
    refine gs_348 E hW r77 ⟨by omega, by omega⟩ dX4_add_80 (fun f78 H locs e79 n80 g81 hW => ?_)
    have m82 : oR (f78 h0) 2 = a16 := ((fm_R g81 rh0 rfl).trans ((fm_R g68 rh0 rfl).trans ((fm_R g58 rh0 rfl).trans ((fm_R g48 rh0 rfl).trans ((fm_R g39 rh0 rfl).trans ((fm_R g30 rh0 rfl).trans ((fm_R g22 rh0 rfl).trans m17)))))))
    have m83 : aI (f78 a16) (vc : Int32).toNatClampNeg = u2 := ((congrArg (fun z => aI z (vc : Int32).toNatClampNeg) (fm_A g81 r18 (by decide) rfl)).trans ((congrArg (fun z => aI z (vc : Int32).toNatClampNeg) (fm_A g68 r18 (by decide) rfl)).trans m59))
    have m84 : aI (f78 a33) (vc : Int32).toNatClampNeg = (-1) := ((congrArg (fun z => aI z (vc : Int32).toNatClampNeg) (fm_A g81 r35 (by decide) rfl)).trans ((congrArg (fun z => aI z (vc : Int32).toNatClampNeg) (fm_A g68 r35 (by decide) rfl)).trans m60))
    have m85 : aI (f78 a52) (vc : Int32).toNatClampNeg = 0 := ((congrArg (fun z => aI z (vc : Int32).toNatClampNeg) (fm_A g81 r54 (by decide) rfl)).trans ((congrArg (fun z => aI z (vc : Int32).toNatClampNeg) (fm_A g68 r54 (by decide) rfl)).trans (show aI (f55 a52) (vc : Int32).toNatClampNeg = 0 from by rw [e56]; exact up_s)))
    have z86 : WT kp L [h0] f0 f78 := wt_fm z74 g81 rfl
    have hF := FM.tr hF g81 rfl
    refine lv_aload_n hx hb dX4_add_81 rfl (lv_at hl 1 rfl) ?_
    refine lv_dup hx hb dX4_add_82 rfl ?_
    refine fg_RX4_39 E hW rh0 dX4_add_83 (fun y87 m88 b89 => ?_)
    obtain rfl : vc = y87 := (((fm_I g81 rh0 rfl).trans m69)).symm.trans m88
    refine lv_iconst (v := 1) hx hb dX4_add_86 (by decide) ?_
    refine q_iadd (Y := 1) hx hb dX4_add_87 rfl rfl (by omega) (fun x90 h91 => ?_)
    have hW0 := hW.2.2.2
    refine fp_RX4_39 E hW rh0 (by omega) dX4_add_88 (fun f92 H locs e93 n94 g95 hW => ?_)
    have m96 : oR (f92 h0) 3 = a24 := ((fm_R g95 rh0 rfl).trans ((fm_R g81 rh0 rfl).trans ((fm_R g68 rh0 rfl).trans ((fm_R g58 rh0 rfl).trans ((fm_R g48 rh0 rfl).trans ((fm_R g39 rh0 rfl).trans ((fm_R g30 rh0 rfl).trans m25)))))))
    have m97 : aI (f92 a8) (vc : Int32).toNatClampNeg = u1 := ((congrArg (fun z => aI z (vc : Int32).toNatClampNeg) (fm_A g95 r10 (by decide) rfl)).trans ((congrArg (fun z => aI z (vc : Int32).toNatClampNeg) (fm_A g81 r10 (by decide) rfl)).trans m71))
    have m98 : aI (f92 a24) (vc : Int32).toNatClampNeg = u3 := ((congrArg (fun z => aI z (vc : Int32).toNatClampNeg) (fm_A g95 r26 (by decide) rfl)).trans ((congrArg (fun z => aI z (vc : Int32).toNatClampNeg) (fm_A g81 r26 (by decide) rfl)).trans m72))
    have m99 : aI (f92 a42) (vc : Int32).toNatClampNeg = 0 := ((congrArg (fun z => aI z (vc : Int32).toNatClampNeg) (fm_A g95 r44 (by decide) rfl)).trans ((congrArg (fun z => aI z (vc : Int32).toNatClampNeg) (fm_A g81 r44 (by decide) rfl)).trans m73))
    have m100 : aI (f92 a62) (vc : Int32).toNatClampNeg = (-1) := ((congrArg (fun z => aI z (vc : Int32).toNatClampNeg) (fm_A g95 r64 (by decide) rfl)).trans ((congrArg (fun z => aI z (vc : Int32).toNatClampNeg) (fm_A g81 r64 (by decide) rfl)).trans (show aI (f65 a62) (vc : Int32).toNatClampNeg = (-1) from by rw [e66]; exact up_s)))
    have z101 : WT kp L [h0] f0 f92 := wt_put z86 n94 (by simp)
    have hF := FM.tr hF g95 rfl
    refine lv_iload hx hb dX4_add_91 (lv_at hl 0 rfl) ?_
    exact e_I E hW rfl ⟨⟨_, rfl, (by rw [mvc]; omega)⟩, hF, (by rw [e93, mvc]; omega), z101⟩ dX4_add_93
  · refine lv_iconst (v := (-1)) hx hb dX4_add_9 (by decide) ?_
    exact e_I E hW rfl ⟨⟨_, rfl, (by rw [mvc]; have hk : ((-1) : Int32).toInt = -1 := rfl; omega)⟩, hF, (by rw [mvc]; omega), (wt_rf : WT kp L [h0] f0 f0)⟩ dX4_add_10
def ms_X1_addEstate_w : List (Nat × Nat) := [(1, 8), (169, 0), (170, 0), (171, 0)]
def po_X1_addEstate_w (kp : Nat → Nat) (L : List Nat) (f0 : Nat → va_E) (h0 : Nat) (u1 : Int32) (u2 : Int32) : Option Value → (Nat → va_E) → Prop := fun v f => (∃ r : Int32, v = some (.int r) ∧ (((oI (f0 h0) 8).toInt < 8 ∧ r.toInt = (oI (f0 h0) 8).toInt) ∨ (8 ≤ (oI (f0 h0) 8).toInt ∧ r.toInt = -1))) ∧ FM kp L ms_X1_addEstate_w f0 f ∧ (((oI (f0 h0) 8).toInt < 8 ∧ (oI (f h0) 8).toInt = (oI (f0 h0) 8).toInt + 1) ∨ (8 ≤ (oI (f0 h0) 8).toInt ∧ (oI (f h0) 8).toInt = (oI (f0 h0) 8).toInt)) ∧ (WT kp L [h0] f0 f)
set_option maxHeartbeats 4000000 in
set_option maxRecDepth 100000 in
theorem c_X1_addEstate_w (l : Launch) (G : va_G) (cI cJ cZ cD cR cT : ClassId) (kp : Nat → Nat) (L : List Nat) (f0 : Nat → va_E) (hTH : TH cI cJ cZ cD cR cT kp L f0) (sz : Nat) (h0 : Nat) (u1 : Int32) (u2 : Int32) (rh0 : RK kp L h0 1) : Met l yX1_addEstate (Cond.code yX1_addEstate cX1_addEstate 4 (some .int) :: wTab) ({ frames := 1, cells := 0, slots := 0, locals := 40 }) (va_Pc [.ref h0, .int u1, .int u2] (PreW G (tys6 cI cJ cZ cD cR cT) (va_pl L f0) sz)) (QT (po_X1_addEstate_w kp L f0 h0 u1 u2) G cI cJ cZ cD cR cT (va_A (va_pl L f0) sz) kp L) 0 0 (va_A (va_pl L f0) sz) := by
  refine metT (by decide) (Nat.le_of_ble_eq_true rfl) hTH ?_
  intro p e s m below meth c A ls E hW hl
  obtain ⟨hx, hb, -, hml, hown, hts, -, -, -⟩ := id E
  have hF : FM kp L ms_X1_addEstate_w f0 f0 := FM.rf
  have hl : lv_has ls 4 [(0, .ref h0), (1, .int u1), (2, .int u2)] := hl
  obtain ⟨vc, mvc⟩ : ∃ x : Int32, oI (f0 h0) 8 = x := ⟨_, rfl⟩
  have bvc : (0 : Int) ≤ vc.toInt ∧ vc.toInt ≤ 8 := by rw [← mvc]; exact th_ivT hTH rh0 (by decide) (by decide) rfl
  refine lv_aload_n hx hb dX1_addEstate_0 rfl (lv_at hl 0 rfl) ?_
  refine fg_RX1_49 E hW rh0 dX1_addEstate_1 (fun y1 m2 b3 => ?_)
  obtain rfl : vc = y1 := (mvc).symm.trans m2
  refine lv_bipush (v := 8) hx hb dX1_addEstate_4 (by decide) ?_
  refine q_icmp_lt (Y := 8) (tgt := 11) hx hb dX1_addEstate_6 (by decide) rfl rfl (fun c4 => ?_) (fun c4 => ?_)
  · refine lv_aload_n hx hb dX1_addEstate_11 rfl (lv_at hl 0 rfl) ?_
    refine fg_RX1_49 E hW rh0 dX1_addEstate_12 (fun y5 m6 b7 => ?_)
    obtain rfl : vc = y5 := (m2).symm.trans m6
    refine lv_istore_n (lv' := [(3, .int vc), (0, .ref h0), (1, .int u1), (2, .int u2)]) hx hb dX1_addEstate_15 rfl hl (by decide) rfl (fun ls hl => ?_)
    refine lv_aload_n hx hb dX1_addEstate_16 rfl (lv_at hl 1 rfl) ?_
    refine fg_RX1_33 E hW rh0 dX1_addEstate_17 (fun a8 m9 r10 => ?_)
    refine lv_iload_n hx hb dX1_addEstate_20 rfl (lv_at hl 0 rfl) ?_
    refine lv_iload_n hx hb dX1_addEstate_21 rfl (lv_at hl 2 rfl) ?_
    have hW0 := hW.2.2.2
    refine gs_169 E hW r10 ⟨by omega, by omega⟩ dX1_addEstate_22 (fun f11 H locs e12 n13 g14 hW => ?_)
    have z15 : WT kp L [h0] f0 f11 := wt_fm (wt_rf : WT kp L [h0] f0 f0) g14 rfl
    have hF := FM.tr hF g14 rfl
    refine lv_aload_n hx hb dX1_addEstate_23 rfl (lv_at hl 1 rfl) ?_
    refine fg_RX1_36 E hW rh0 dX1_addEstate_24 (fun a16 m17 r18 => ?_)
    refine lv_iload_n hx hb dX1_addEstate_27 rfl (lv_at hl 0 rfl) ?_
    refine lv_iload_n hx hb dX1_addEstate_28 rfl (lv_at hl 3 rfl) ?_
    have hW0 := hW.2.2.2
    refine gs_170 E hW r18 ⟨by omega, by omega⟩ dX1_addEstate_29 (fun f19 H locs e20 n21 g22 hW => ?_)
    have z23 : WT kp L [h0] f0 f19 := wt_fm z15 g22 rfl
    have hF := FM.tr hF g22 rfl
    refine lv_aload_n hx hb dX1_addEstate_30 rfl (lv_at hl 1 rfl) ?_
    refine fg_RX1_39 E hW rh0 dX1_addEstate_31 (fun a24 m25 r26 => ?_)
    refine lv_iload_n hx hb dX1_addEstate_34 rfl (lv_at hl 0 rfl) ?_
    refine lv_iconst (v := (-1)) hx hb dX1_addEstate_35 (by decide) ?_
    have hW0 := hW.2.2.2
    refine gs_171 E hW r26 ⟨by omega, by omega⟩ dX1_addEstate_36 (fun f27 H locs e28 n29 g30 hW => ?_)
    have m31 : aI (f27 a8) (vc : Int32).toNatClampNeg = u1 := ((congrArg (fun z => aI z (vc : Int32).toNatClampNeg) (fm_A g30 r10 (by decide) rfl)).trans ((congrArg (fun z => aI z (vc : Int32).toNatClampNeg) (fm_A g22 r10 (by decide) rfl)).trans (show aI (f11 a8) (vc : Int32).toNatClampNeg = u1 from by rw [e12]; exact up_s)))
    have z32 : WT kp L [h0] f0 f27 := wt_fm z23 g30 rfl
    have hF := FM.tr hF g30 rfl
    refine lv_aload_n hx hb dX1_addEstate_37 rfl (lv_at hl 1 rfl) ?_
    refine lv_dup hx hb dX1_addEstate_38 rfl ?_
    refine fg_RX1_49 E hW rh0 dX1_addEstate_39 (fun y33 m34 b35 => ?_)
    obtain rfl : vc = y33 := (((fm_I g30 rh0 rfl).trans ((fm_I g22 rh0 rfl).trans ((fm_I g14 rh0 rfl).trans m6)))).symm.trans m34
    refine lv_iconst (v := 1) hx hb dX1_addEstate_42 (by decide) ?_
    refine q_iadd (Y := 1) hx hb dX1_addEstate_43 rfl rfl (by omega) (fun x36 h37 => ?_)
    have hW0 := hW.2.2.2
    refine fp_RX1_49 E hW rh0 (by omega) dX1_addEstate_44 (fun f38 H locs e39 n40 g41 hW => ?_)
    have m42 : aI (f38 a16) (vc : Int32).toNatClampNeg = u2 := ((congrArg (fun z => aI z (vc : Int32).toNatClampNeg) (fm_A g41 r18 (by decide) rfl)).trans ((congrArg (fun z => aI z (vc : Int32).toNatClampNeg) (fm_A g30 r18 (by decide) rfl)).trans (show aI (f19 a16) (vc : Int32).toNatClampNeg = u2 from by rw [e20]; exact up_s)))
    have z43 : WT kp L [h0] f0 f38 := wt_put z32 n40 (by simp)
    have hF := FM.tr hF g41 rfl
    refine lv_iload_n hx hb dX1_addEstate_47 rfl (lv_at hl 0 rfl) ?_
    exact e_I E hW rfl ⟨⟨_, rfl, (by rw [mvc]; omega)⟩, hF, (by rw [e39, mvc]; omega), z43⟩ dX1_addEstate_48
  · refine lv_iconst (v := (-1)) hx hb dX1_addEstate_9 (by decide) ?_
    exact e_I E hW rfl ⟨⟨_, rfl, (by rw [mvc]; have hk : ((-1) : Int32).toInt = -1 := rfl; omega)⟩, hF, (by rw [mvc]; omega), (wt_rf : WT kp L [h0] f0 f0)⟩ dX1_addEstate_10
def ms_X3_addOffer_w : List (Nat × Nat) := [(3, 3), (284, 0), (285, 0)]
def po_X3_addOffer_w (kp : Nat → Nat) (L : List Nat) (f0 : Nat → va_E) (h0 : Nat) (u1 : Int32) (u2 : Int32) : Option Value → (Nat → va_E) → Prop := fun v f => (∃ r : Int32, v = some (.int r) ∧ (((oI (f0 h0) 3).toInt < 9 ∧ r.toInt = (oI (f0 h0) 3).toInt + 1) ∨ (9 ≤ (oI (f0 h0) 3).toInt ∧ r.toInt = -1))) ∧ FM kp L ms_X3_addOffer_w f0 f ∧ (((oI (f0 h0) 3).toInt < 9 ∧ (oI (f h0) 3).toInt = (oI (f0 h0) 3).toInt + 1) ∨ (9 ≤ (oI (f0 h0) 3).toInt ∧ (oI (f h0) 3).toInt = (oI (f0 h0) 3).toInt)) ∧ (WT kp L [h0] f0 f)
set_option maxHeartbeats 4000000 in
set_option maxRecDepth 100000 in
theorem c_X3_addOffer_w (l : Launch) (G : va_G) (cI cJ cZ cD cR cT : ClassId) (kp : Nat → Nat) (L : List Nat) (f0 : Nat → va_E) (hTH : TH cI cJ cZ cD cR cT kp L f0) (sz : Nat) (h0 : Nat) (u1 : Int32) (u2 : Int32) (rh0 : RK kp L h0 3) : Met l yX3_addOffer (Cond.code yX3_addOffer cX3_addOffer 3 (some .int) :: wTab) ({ frames := 1, cells := 0, slots := 0, locals := 40 }) (va_Pc [.ref h0, .int u1, .int u2] (PreW G (tys6 cI cJ cZ cD cR cT) (va_pl L f0) sz)) (QT (po_X3_addOffer_w kp L f0 h0 u1 u2) G cI cJ cZ cD cR cT (va_A (va_pl L f0) sz) kp L) 0 0 (va_A (va_pl L f0) sz) := by
  refine metT (by decide) (Nat.le_of_ble_eq_true rfl) hTH ?_
  intro p e s m below meth c A ls E hW hl
  obtain ⟨hx, hb, -, hml, hown, hts, -, -, -⟩ := id E
  have hF : FM kp L ms_X3_addOffer_w f0 f0 := FM.rf
  have hl : lv_has ls 3 [(0, .ref h0), (1, .int u1), (2, .int u2)] := hl
  obtain ⟨vc, mvc⟩ : ∃ x : Int32, oI (f0 h0) 3 = x := ⟨_, rfl⟩
  have bvc : (0 : Int) ≤ vc.toInt ∧ vc.toInt ≤ 9 := by rw [← mvc]; exact th_ivT hTH rh0 (by decide) (by decide) rfl
  refine lv_aload_n hx hb dX3_addOffer_0 rfl (lv_at hl 0 rfl) ?_
  refine fg_RX3_22 E hW rh0 dX3_addOffer_1 (fun y1 m2 b3 => ?_)
  obtain rfl : vc = y1 := (mvc).symm.trans m2
  refine lv_bipush (v := 9) hx hb dX3_addOffer_4 (by decide) ?_
  refine q_icmp_lt (Y := 9) (tgt := 11) hx hb dX3_addOffer_6 (by decide) rfl rfl (fun c4 => ?_) (fun c4 => ?_)
  · refine lv_aload_n hx hb dX3_addOffer_11 rfl (lv_at hl 0 rfl) ?_
    refine fg_RX3_15 E hW rh0 dX3_addOffer_12 (fun a5 m6 r7 => ?_)
    refine lv_aload_n hx hb dX3_addOffer_15 rfl (lv_at hl 0 rfl) ?_
    refine fg_RX3_22 E hW rh0 dX3_addOffer_16 (fun y8 m9 b10 => ?_)
    obtain rfl : vc = y8 := (m2).symm.trans m9
    refine lv_iload_n hx hb dX3_addOffer_19 rfl (lv_at hl 1 rfl) ?_
    have hW0 := hW.2.2.2
    refine gs_284 E hW r7 ⟨by omega, by omega⟩ dX3_addOffer_20 (fun f11 H locs e12 n13 g14 hW => ?_)
    have z15 : WT kp L [h0] f0 f11 := wt_fm (wt_rf : WT kp L [h0] f0 f0) g14 rfl
    have hF := FM.tr hF g14 rfl
    refine lv_aload_n hx hb dX3_addOffer_21 rfl (lv_at hl 0 rfl) ?_
    refine fg_RX3_19 E hW rh0 dX3_addOffer_22 (fun a16 m17 r18 => ?_)
    refine lv_aload_n hx hb dX3_addOffer_25 rfl (lv_at hl 0 rfl) ?_
    refine fg_RX3_22 E hW rh0 dX3_addOffer_26 (fun y19 m20 b21 => ?_)
    obtain rfl : vc = y19 := (((fm_I g14 rh0 rfl).trans m9)).symm.trans m20
    refine lv_iload_n hx hb dX3_addOffer_29 rfl (lv_at hl 2 rfl) ?_
    have hW0 := hW.2.2.2
    refine gs_285 E hW r18 ⟨by omega, by omega⟩ dX3_addOffer_30 (fun f22 H locs e23 n24 g25 hW => ?_)
    have z26 : WT kp L [h0] f0 f22 := wt_fm z15 g25 rfl
    have hF := FM.tr hF g25 rfl
    refine lv_aload_n hx hb dX3_addOffer_31 rfl (lv_at hl 0 rfl) ?_
    refine lv_dup hx hb dX3_addOffer_32 rfl ?_
    refine fg_RX3_22 E hW rh0 dX3_addOffer_33 (fun y27 m28 b29 => ?_)
    obtain rfl : vc = y27 := (((fm_I g25 rh0 rfl).trans m20)).symm.trans m28
    refine lv_iconst (v := 1) hx hb dX3_addOffer_36 (by decide) ?_
    refine q_iadd (Y := 1) hx hb dX3_addOffer_37 rfl rfl (by omega) (fun x30 h31 => ?_)
    have hW0 := hW.2.2.2
    refine fp_RX3_22 E hW rh0 (by omega) dX3_addOffer_38 (fun f32 H locs e33 n34 g35 hW => ?_)
    have m36 : aI (f32 a5) (vc : Int32).toNatClampNeg = u1 := ((congrArg (fun z => aI z (vc : Int32).toNatClampNeg) (fm_A g35 r7 (by decide) rfl)).trans ((congrArg (fun z => aI z (vc : Int32).toNatClampNeg) (fm_A g25 r7 (by decide) rfl)).trans (show aI (f11 a5) (vc : Int32).toNatClampNeg = u1 from by rw [e12]; exact up_s)))
    have z37 : WT kp L [h0] f0 f32 := wt_put z26 n34 (by simp)
    have hF := FM.tr hF g35 rfl
    refine lv_aload_n hx hb dX3_addOffer_41 rfl (lv_at hl 0 rfl) ?_
    refine fg_RX3_22 E hW rh0 dX3_addOffer_42 (fun y38 m39 b40 => ?_)
    obtain rfl : x30 = y38 := (e33).symm.trans m39
    exact e_I E hW rfl ⟨⟨_, rfl, (by rw [mvc]; omega)⟩, hF, (by rw [m39, mvc]; omega), z37⟩ dX3_addOffer_45
  · refine lv_iconst (v := (-1)) hx hb dX3_addOffer_9 (by decide) ?_
    exact e_I E hW rfl ⟨⟨_, rfl, (by rw [mvc]; have hk : ((-1) : Int32).toInt = -1 := rfl; omega)⟩, hF, (by rw [mvc]; omega), (wt_rf : WT kp L [h0] f0 f0)⟩ dX3_addOffer_10
def ms_X4_copyFrom_w : List (Nat × Nat) := [(4, 0), (341, 0), (342, 0), (343, 0), (344, 0), (345, 0), (346, 0), (347, 0), (348, 0)]
def po_X4_copyFrom_w (kp : Nat → Nat) (L : List Nat) (f0 : Nat → va_E) (h0 : Nat) (u1 : Nat) : Option Value → (Nat → va_E) → Prop := fun v f => v = none ∧ FM kp L ms_X4_copyFrom_w f0 f ∧ (oI (f h0) 0 = oI (f0 u1) 0) ∧ (WT kp L [h0] f0 f)
set_option maxHeartbeats 4000000 in
set_option maxRecDepth 100000 in
theorem c_X4_copyFrom_w (l : Launch) (G : va_G) (cI cJ cZ cD cR cT : ClassId) (kp : Nat → Nat) (L : List Nat) (f0 : Nat → va_E) (hTH : TH cI cJ cZ cD cR cT kp L f0) (sz : Nat) (h0 : Nat) (u1 : Nat) (rh0 : RK kp L h0 4) (ru1 : RK kp L u1 4) : Met l yX4_copyFrom (Cond.code yX4_copyFrom cX4_copyFrom 2 none :: wTab) ({ frames := 1, cells := 0, slots := 0, locals := 60 }) (va_Pc [.ref h0, .ref u1] (PreW G (tys6 cI cJ cZ cD cR cT) (va_pl L f0) sz)) (QT (po_X4_copyFrom_w kp L f0 h0 u1) G cI cJ cZ cD cR cT (va_A (va_pl L f0) sz) kp L) 0 0 (va_A (va_pl L f0) sz) := by
  refine metT (by decide) (Nat.le_of_ble_eq_true rfl) hTH ?_
  intro p e s m below meth c A ls E hW hl
  obtain ⟨hx, hb, -, hml, hown, hts, -, -, -⟩ := id E
  have hF : FM kp L ms_X4_copyFrom_w f0 f0 := FM.rf
  have hl : lv_has ls 2 [(0, .ref h0), (1, .ref u1)] := hl
  obtain ⟨v0, mv0⟩ : ∃ x : Int32, oI (f0 u1) 0 = x := ⟨_, rfl⟩
  have bv0 : (0 : Int) ≤ v0.toInt ∧ v0.toInt ≤ 40 := by rw [← mv0]; exact th_ivT hTH ru1 (by decide) (by decide) rfl
  refine lv_aload_n hx hb dX4_copyFrom_0 rfl (lv_at hl 0 rfl) ?_
  refine lv_aload_n hx hb dX4_copyFrom_1 rfl (lv_at hl 1 rfl) ?_
  refine fg_RX4_39 E hW ru1 dX4_copyFrom_2 (fun y1 m2 b3 => ?_)
  obtain rfl : v0 = y1 := (mv0).symm.trans m2
  have hW0 := hW.2.2.2
  refine fp_RX4_39 E hW rh0 (by omega) dX4_copyFrom_5 (fun f4 H locs e5 n6 g7 hW => ?_)
  have z8 : WT kp L [h0] f0 f4 := wt_put (wt_rf : WT kp L [h0] f0 f0) n6 (by simp)
  have hF := FM.tr hF g7 rfl
  refine lv_aload_n hx hb dX4_copyFrom_8 rfl (lv_at hl 1 rfl) ?_
  refine fg_RX4_9 E hW ru1 dX4_copyFrom_9 (fun a9 m10 r11 => ?_)
  refine lv_iconst (v := 0) hx hb dX4_copyFrom_12 (by decide) ?_
  refine lv_aload_n hx hb dX4_copyFrom_13 rfl (lv_at hl 0 rfl) ?_
  refine fg_RX4_9 E hW rh0 dX4_copyFrom_14 (fun a12 m13 r14 => ?_)
  refine lv_iconst (v := 0) hx hb dX4_copyFrom_17 (by decide) ?_
  refine lv_bipush (v := 40) hx hb dX4_copyFrom_18 (by decide) ?_
  refine t_copy (N := 40) (n0 := 40) (n1 := 40) E hW tw_1293 ⟨tw_1004, tw_1003, tw_122⟩ hl.1 rfl r11 (by decide) rfl r14 (by decide) rfl rfl (by decide) rfl (by decide) (by decide) (by decide) (fun _ _ => trivial) ⟨Nat.le_of_ble_eq_true rfl, Nat.le_of_ble_eq_true rfl⟩ dX4_copyFrom_20 (fun f15 H locs n17 g18 hW => ?_)
  have z19 : WT kp L [h0] f0 f15 := wt_fm z8 g18 rfl
  have hF := FM.tr hF g18 rfl
  refine lv_aload_n hx hb dX4_copyFrom_23 rfl (lv_at hl 1 rfl) ?_
  refine fg_RX4_15 E hW ru1 dX4_copyFrom_24 (fun a20 m21 r22 => ?_)
  refine lv_iconst (v := 0) hx hb dX4_copyFrom_27 (by decide) ?_
  refine lv_aload_n hx hb dX4_copyFrom_28 rfl (lv_at hl 0 rfl) ?_
  refine fg_RX4_15 E hW rh0 dX4_copyFrom_29 (fun a23 m24 r25 => ?_)
  refine lv_iconst (v := 0) hx hb dX4_copyFrom_32 (by decide) ?_
  refine lv_bipush (v := 40) hx hb dX4_copyFrom_33 (by decide) ?_
  refine t_copy (N := 40) (n0 := 40) (n1 := 40) E hW tw_1293 ⟨tw_1004, tw_1003, tw_122⟩ hl.1 rfl r22 (by decide) rfl r25 (by decide) rfl rfl (by decide) rfl (by decide) (by decide) (by decide) (fun _ _ => trivial) ⟨Nat.le_of_ble_eq_true rfl, Nat.le_of_ble_eq_true rfl⟩ dX4_copyFrom_35 (fun f26 H locs n28 g29 hW => ?_)
  have z30 : WT kp L [h0] f0 f26 := wt_fm z19 g29 rfl
  have hF := FM.tr hF g29 rfl
  refine lv_aload_n hx hb dX4_copyFrom_38 rfl (lv_at hl 1 rfl) ?_
  refine fg_RX4_18 E hW ru1 dX4_copyFrom_39 (fun a31 m32 r33 => ?_)
  refine lv_iconst (v := 0) hx hb dX4_copyFrom_42 (by decide) ?_
  refine lv_aload_n hx hb dX4_copyFrom_43 rfl (lv_at hl 0 rfl) ?_
  refine fg_RX4_18 E hW rh0 dX4_copyFrom_44 (fun a34 m35 r36 => ?_)
  refine lv_iconst (v := 0) hx hb dX4_copyFrom_47 (by decide) ?_
  refine lv_bipush (v := 40) hx hb dX4_copyFrom_48 (by decide) ?_
  refine t_copy (N := 40) (n0 := 40) (n1 := 40) E hW tw_1293 ⟨tw_1004, tw_1003, tw_122⟩ hl.1 rfl r33 (by decide) rfl r36 (by decide) rfl rfl (by decide) rfl (by decide) (by decide) (by decide) (fun _ _ => trivial) ⟨Nat.le_of_ble_eq_true rfl, Nat.le_of_ble_eq_true rfl⟩ dX4_copyFrom_50 (fun f37 H locs n39 g40 hW => ?_)
  have z41 : WT kp L [h0] f0 f37 := wt_fm z30 g40 rfl
  have hF := FM.tr hF g40 rfl
  refine lv_aload_n hx hb dX4_copyFrom_53 rfl (lv_at hl 1 rfl) ?_
  refine fg_RX4_21 E hW ru1 dX4_copyFrom_54 (fun a42 m43 r44 => ?_)
  refine lv_iconst (v := 0) hx hb dX4_copyFrom_57 (by decide) ?_
  refine lv_aload_n hx hb dX4_copyFrom_58 rfl (lv_at hl 0 rfl) ?_
  refine fg_RX4_21 E hW rh0 dX4_copyFrom_59 (fun a45 m46 r47 => ?_)
  refine lv_iconst (v := 0) hx hb dX4_copyFrom_62 (by decide) ?_
  refine lv_bipush (v := 40) hx hb dX4_copyFrom_63 (by decide) ?_
  refine t_copy (N := 40) (n0 := 40) (n1 := 40) E hW tw_1293 ⟨tw_1004, tw_1003, tw_122⟩ hl.1 rfl r44 (by decide) rfl r47 (by decide) rfl rfl (by decide) rfl (by decide) (by decide) (by decide) (fun h0 h1 => AB_cpy h0 h1) ⟨Nat.le_of_ble_eq_true rfl, Nat.le_of_ble_eq_true rfl⟩ dX4_copyFrom_65 (fun f48 H locs n50 g51 hW => ?_)
  have z52 : WT kp L [h0] f0 f48 := wt_fm z41 g51 rfl
  have hF := FM.tr hF g51 rfl
  refine lv_aload_n hx hb dX4_copyFrom_68 rfl (lv_at hl 1 rfl) ?_
  refine fg_RX4_24 E hW ru1 dX4_copyFrom_69 (fun a53 m54 r55 => ?_)
  refine lv_iconst (v := 0) hx hb dX4_copyFrom_72 (by decide) ?_
  refine lv_aload_n hx hb dX4_copyFrom_73 rfl (lv_at hl 0 rfl) ?_
  refine fg_RX4_24 E hW rh0 dX4_copyFrom_74 (fun a56 m57 r58 => ?_)
  refine lv_iconst (v := 0) hx hb dX4_copyFrom_77 (by decide) ?_
  refine lv_bipush (v := 40) hx hb dX4_copyFrom_78 (by decide) ?_
  refine t_copy (N := 40) (n0 := 40) (n1 := 40) E hW tw_1293 ⟨tw_1004, tw_1003, tw_122⟩ hl.1 rfl r55 (by decide) rfl r58 (by decide) rfl rfl (by decide) rfl (by decide) (by decide) (by decide) (fun _ _ => trivial) ⟨Nat.le_of_ble_eq_true rfl, Nat.le_of_ble_eq_true rfl⟩ dX4_copyFrom_80 (fun f59 H locs n61 g62 hW => ?_)
  have z63 : WT kp L [h0] f0 f59 := wt_fm z52 g62 rfl
  have hF := FM.tr hF g62 rfl
  refine lv_aload_n hx hb dX4_copyFrom_83 rfl (lv_at hl 1 rfl) ?_
  refine fg_RX4_27 E hW ru1 dX4_copyFrom_84 (fun a64 m65 r66 => ?_)
  refine lv_iconst (v := 0) hx hb dX4_copyFrom_87 (by decide) ?_
  refine lv_aload_n hx hb dX4_copyFrom_88 rfl (lv_at hl 0 rfl) ?_
  refine fg_RX4_27 E hW rh0 dX4_copyFrom_89 (fun a67 m68 r69 => ?_)
  refine lv_iconst (v := 0) hx hb dX4_copyFrom_92 (by decide) ?_
  refine lv_bipush (v := 40) hx hb dX4_copyFrom_93 (by decide) ?_
  refine t_copy (N := 40) (n0 := 40) (n1 := 40) E hW tw_1293 ⟨tw_1004, tw_1003, tw_122⟩ hl.1 rfl r66 (by decide) rfl r69 (by decide) rfl rfl (by decide) rfl (by decide) (by decide) (by decide) (fun _ _ => trivial) ⟨Nat.le_of_ble_eq_true rfl, Nat.le_of_ble_eq_true rfl⟩ dX4_copyFrom_95 (fun f70 H locs n72 g73 hW => ?_)
  have z74 : WT kp L [h0] f0 f70 := wt_fm z63 g73 rfl
  have hF := FM.tr hF g73 rfl
  refine lv_aload_n hx hb dX4_copyFrom_98 rfl (lv_at hl 1 rfl) ?_
  refine fg_RX4_30 E hW ru1 dX4_copyFrom_99 (fun a75 m76 r77 => ?_)
  refine lv_iconst (v := 0) hx hb dX4_copyFrom_102 (by decide) ?_
  refine lv_aload_n hx hb dX4_copyFrom_103 rfl (lv_at hl 0 rfl) ?_
  refine fg_RX4_30 E hW rh0 dX4_copyFrom_104 (fun a78 m79 r80 => ?_)
  refine lv_iconst (v := 0) hx hb dX4_copyFrom_107 (by decide) ?_
  refine lv_bipush (v := 40) hx hb dX4_copyFrom_108 (by decide) ?_
  refine t_copy (N := 40) (n0 := 40) (n1 := 40) E hW tw_1293 ⟨tw_1004, tw_1003, tw_122⟩ hl.1 rfl r77 (by decide) rfl r80 (by decide) rfl rfl (by decide) rfl (by decide) (by decide) (by decide) (fun _ _ => trivial) ⟨Nat.le_of_ble_eq_true rfl, Nat.le_of_ble_eq_true rfl⟩ dX4_copyFrom_110 (fun f81 H locs n83 g84 hW => ?_)
  have m85 : oI (f81 h0) 0 = v0 := ((fm_I g84 rh0 rfl).trans ((fm_I g73 rh0 rfl).trans ((fm_I g62 rh0 rfl).trans ((fm_I g51 rh0 rfl).trans ((fm_I g40 rh0 rfl).trans ((fm_I g29 rh0 rfl).trans ((fm_I g18 rh0 rfl).trans e5)))))))
  have m86 : oR (f81 u1) 1 = a9 := ((fm_R g84 ru1 rfl).trans ((fm_R g73 ru1 rfl).trans ((fm_R g62 ru1 rfl).trans ((fm_R g51 ru1 rfl).trans ((fm_R g40 ru1 rfl).trans ((fm_R g29 ru1 rfl).trans ((fm_R g18 ru1 rfl).trans m10)))))))
  have m87 : oR (f81 h0) 1 = a12 := ((fm_R g84 rh0 rfl).trans ((fm_R g73 rh0 rfl).trans ((fm_R g62 rh0 rfl).trans ((fm_R g51 rh0 rfl).trans ((fm_R g40 rh0 rfl).trans ((fm_R g29 rh0 rfl).trans ((fm_R g18 rh0 rfl).trans m13)))))))
  have z88 : WT kp L [h0] f0 f81 := wt_fm z74 g84 rfl
  have hF := FM.tr hF g84 rfl
  refine lv_aload_n hx hb dX4_copyFrom_113 rfl (lv_at hl 1 rfl) ?_
  refine fg_RX4_33 E hW ru1 dX4_copyFrom_114 (fun a89 m90 r91 => ?_)
  refine lv_iconst (v := 0) hx hb dX4_copyFrom_117 (by decide) ?_
  refine lv_aload_n hx hb dX4_copyFrom_118 rfl (lv_at hl 0 rfl) ?_
  refine fg_RX4_33 E hW rh0 dX4_copyFrom_119 (fun a92 m93 r94 => ?_)
  refine lv_iconst (v := 0) hx hb dX4_copyFrom_122 (by decide) ?_
  refine lv_bipush (v := 40) hx hb dX4_copyFrom_123 (by decide) ?_
  refine t_copy (N := 40) (n0 := 40) (n1 := 40) E hW tw_1293 ⟨tw_1004, tw_1003, tw_122⟩ hl.1 rfl r91 (by decide) rfl r94 (by decide) rfl rfl (by decide) rfl (by decide) (by decide) (by decide) (fun _ _ => trivial) ⟨Nat.le_of_ble_eq_true rfl, Nat.le_of_ble_eq_true rfl⟩ dX4_copyFrom_125 (fun f95 H locs n97 g98 hW => ?_)
  have m99 : oR (f95 u1) 2 = a20 := ((fm_R g98 ru1 rfl).trans ((fm_R g84 ru1 rfl).trans ((fm_R g73 ru1 rfl).trans ((fm_R g62 ru1 rfl).trans ((fm_R g51 ru1 rfl).trans ((fm_R g40 ru1 rfl).trans ((fm_R g29 ru1 rfl).trans m21)))))))
  have m100 : oR (f95 h0) 2 = a23 := ((fm_R g98 rh0 rfl).trans ((fm_R g84 rh0 rfl).trans ((fm_R g73 rh0 rfl).trans ((fm_R g62 rh0 rfl).trans ((fm_R g51 rh0 rfl).trans ((fm_R g40 rh0 rfl).trans ((fm_R g29 rh0 rfl).trans m24)))))))
  have z101 : WT kp L [h0] f0 f95 := wt_fm z88 g98 rfl
  have hF := FM.tr hF g98 rfl
  exact e_V E hW rfl ⟨rfl, hF, (by rw [((fm_I g98 rh0 rfl).trans m85), mv0]), z101⟩ dX4_copyFrom_128
def ms_X1_copyFrom_w : List (Nat × Nat) := [(1, 0), (1, 8), (1, 12), (1, 13), (1, 14), (161, 0), (162, 0), (163, 0), (164, 0), (165, 0), (166, 0), (167, 0), (169, 0), (170, 0), (171, 0)]
def po_X1_copyFrom_w (kp : Nat → Nat) (L : List Nat) (f0 : Nat → va_E) (h0 : Nat) (u1 : Nat) : Option Value → (Nat → va_E) → Prop := fun v f => v = none ∧ FM kp L ms_X1_copyFrom_w f0 f ∧ (oI (f h0) 8 = oI (f0 u1) 8) ∧ (WT kp L [h0] f0 f)
set_option maxHeartbeats 4000000 in
set_option maxRecDepth 100000 in
theorem c_X1_copyFrom_w (l : Launch) (G : va_G) (cI cJ cZ cD cR cT : ClassId) (kp : Nat → Nat) (L : List Nat) (f0 : Nat → va_E) (hTH : TH cI cJ cZ cD cR cT kp L f0) (sz : Nat) (h0 : Nat) (u1 : Nat) (rh0 : RK kp L h0 1) (ru1 : RK kp L u1 1) : Met l yX1_copyFrom (Cond.code yX1_copyFrom cX1_copyFrom 2 none :: wTab) ({ frames := 1, cells := 0, slots := 0, locals := 60 }) (va_Pc [.ref h0, .ref u1] (PreW G (tys6 cI cJ cZ cD cR cT) (va_pl L f0) sz)) (QT (po_X1_copyFrom_w kp L f0 h0 u1) G cI cJ cZ cD cR cT (va_A (va_pl L f0) sz) kp L) 0 0 (va_A (va_pl L f0) sz) := by
  refine metT (by decide) (Nat.le_of_ble_eq_true rfl) hTH ?_
  intro p e s m below meth c A ls E hW hl
  obtain ⟨hx, hb, -, hml, hown, hts, -, -, -⟩ := id E
  have hF : FM kp L ms_X1_copyFrom_w f0 f0 := FM.rf
  have hl : lv_has ls 2 [(0, .ref h0), (1, .ref u1)] := hl
  obtain ⟨v8, mv8⟩ : ∃ x : Int32, oI (f0 u1) 8 = x := ⟨_, rfl⟩
  have bv8 : (0 : Int) ≤ v8.toInt ∧ v8.toInt ≤ 8 := by rw [← mv8]; exact th_ivT hTH ru1 (by decide) (by decide) rfl
  refine lv_aload_n hx hb dX1_copyFrom_0 rfl (lv_at hl 0 rfl) ?_
  refine lv_aload_n hx hb dX1_copyFrom_1 rfl (lv_at hl 1 rfl) ?_
  refine fg_RX1_46 E hW ru1 dX1_copyFrom_2 (fun y1 m2 b3 => ?_)
  have hW0 := hW.2.2.2
  refine fp_RX1_46 E hW rh0 (by omega) dX1_copyFrom_5 (fun f4 H locs e5 n6 g7 hW => ?_)
  have z8 : WT kp L [h0] f0 f4 := wt_fm (wt_rf : WT kp L [h0] f0 f0) g7 rfl
  have hF := FM.tr hF g7 rfl
  refine lv_aload_n hx hb dX1_copyFrom_8 rfl (lv_at hl 1 rfl) ?_
  refine fg_RX1_9 E hW ru1 dX1_copyFrom_9 (fun a9 m10 r11 => ?_)
  refine lv_iconst (v := 0) hx hb dX1_copyFrom_12 (by decide) ?_
  refine lv_aload_n hx hb dX1_copyFrom_13 rfl (lv_at hl 0 rfl) ?_
  refine fg_RX1_9 E hW rh0 dX1_copyFrom_14 (fun a12 m13 r14 => ?_)
  refine lv_iconst (v := 0) hx hb dX1_copyFrom_17 (by decide) ?_
  refine lv_bipush (v := 40) hx hb dX1_copyFrom_18 (by decide) ?_
  refine t_copy (N := 40) (n0 := 40) (n1 := 40) E hW tw_1298 ⟨tw_1004, tw_1003, tw_122⟩ hl.1 rfl r11 (by decide) rfl r14 (by decide) rfl rfl (by decide) rfl (by decide) (by decide) (by decide) (fun h0 h1 => AB_cpy h0 h1) ⟨Nat.le_of_ble_eq_true rfl, Nat.le_of_ble_eq_true rfl⟩ dX1_copyFrom_20 (fun f15 H locs n17 g18 hW => ?_)
  have z19 : WT kp L [h0] f0 f15 := wt_fm z8 g18 rfl
  have hF := FM.tr hF g18 rfl
  refine lv_aload_n hx hb dX1_copyFrom_23 rfl (lv_at hl 1 rfl) ?_
  refine fg_RX1_15 E hW ru1 dX1_copyFrom_24 (fun a20 m21 r22 => ?_)
  refine lv_iconst (v := 0) hx hb dX1_copyFrom_27 (by decide) ?_
  refine lv_aload_n hx hb dX1_copyFrom_28 rfl (lv_at hl 0 rfl) ?_
  refine fg_RX1_15 E hW rh0 dX1_copyFrom_29 (fun a23 m24 r25 => ?_)
  refine lv_iconst (v := 0) hx hb dX1_copyFrom_32 (by decide) ?_
  refine lv_bipush (v := 40) hx hb dX1_copyFrom_33 (by decide) ?_
  refine t_copy (N := 40) (n0 := 40) (n1 := 40) E hW tw_1298 ⟨tw_1004, tw_1003, tw_122⟩ hl.1 rfl r22 (by decide) rfl r25 (by decide) rfl rfl (by decide) rfl (by decide) (by decide) (by decide) (fun _ _ => trivial) ⟨Nat.le_of_ble_eq_true rfl, Nat.le_of_ble_eq_true rfl⟩ dX1_copyFrom_35 (fun f26 H locs n28 g29 hW => ?_)
  have z30 : WT kp L [h0] f0 f26 := wt_fm z19 g29 rfl
  have hF := FM.tr hF g29 rfl
  refine lv_aload_n hx hb dX1_copyFrom_38 rfl (lv_at hl 1 rfl) ?_
  refine fg_RX1_18 E hW ru1 dX1_copyFrom_39 (fun a31 m32 r33 => ?_)
  refine lv_iconst (v := 0) hx hb dX1_copyFrom_42 (by decide) ?_
  refine lv_aload_n hx hb dX1_copyFrom_43 rfl (lv_at hl 0 rfl) ?_
  refine fg_RX1_18 E hW rh0 dX1_copyFrom_44 (fun a34 m35 r36 => ?_)
  refine lv_iconst (v := 0) hx hb dX1_copyFrom_47 (by decide) ?_
  refine lv_bipush (v := 40) hx hb dX1_copyFrom_48 (by decide) ?_
  refine t_copy (N := 40) (n0 := 40) (n1 := 40) E hW tw_1298 ⟨tw_1004, tw_1003, tw_122⟩ hl.1 rfl r33 (by decide) rfl r36 (by decide) rfl rfl (by decide) rfl (by decide) (by decide) (by decide) (fun _ _ => trivial) ⟨Nat.le_of_ble_eq_true rfl, Nat.le_of_ble_eq_true rfl⟩ dX1_copyFrom_50 (fun f37 H locs n39 g40 hW => ?_)
  have z41 : WT kp L [h0] f0 f37 := wt_fm z30 g40 rfl
  have hF := FM.tr hF g40 rfl
  refine lv_aload_n hx hb dX1_copyFrom_53 rfl (lv_at hl 1 rfl) ?_
  refine fg_RX1_21 E hW ru1 dX1_copyFrom_54 (fun a42 m43 r44 => ?_)
  refine lv_iconst (v := 0) hx hb dX1_copyFrom_57 (by decide) ?_
  refine lv_aload_n hx hb dX1_copyFrom_58 rfl (lv_at hl 0 rfl) ?_
  refine fg_RX1_21 E hW rh0 dX1_copyFrom_59 (fun a45 m46 r47 => ?_)
  refine lv_iconst (v := 0) hx hb dX1_copyFrom_62 (by decide) ?_
  refine lv_bipush (v := 40) hx hb dX1_copyFrom_63 (by decide) ?_
  refine t_copy (N := 40) (n0 := 40) (n1 := 40) E hW tw_1298 ⟨tw_1004, tw_1003, tw_122⟩ hl.1 rfl r44 (by decide) rfl r47 (by decide) rfl rfl (by decide) rfl (by decide) (by decide) (by decide) (fun h0 h1 => AB_cpy h0 h1) ⟨Nat.le_of_ble_eq_true rfl, Nat.le_of_ble_eq_true rfl⟩ dX1_copyFrom_65 (fun f48 H locs n50 g51 hW => ?_)
  have z52 : WT kp L [h0] f0 f48 := wt_fm z41 g51 rfl
  have hF := FM.tr hF g51 rfl
  refine lv_aload_n hx hb dX1_copyFrom_68 rfl (lv_at hl 1 rfl) ?_
  refine fg_RX1_24 E hW ru1 dX1_copyFrom_69 (fun a53 m54 r55 => ?_)
  refine lv_iconst (v := 0) hx hb dX1_copyFrom_72 (by decide) ?_
  refine lv_aload_n hx hb dX1_copyFrom_73 rfl (lv_at hl 0 rfl) ?_
  refine fg_RX1_24 E hW rh0 dX1_copyFrom_74 (fun a56 m57 r58 => ?_)
  refine lv_iconst (v := 0) hx hb dX1_copyFrom_77 (by decide) ?_
  refine lv_bipush (v := 40) hx hb dX1_copyFrom_78 (by decide) ?_
  refine t_copy (N := 40) (n0 := 40) (n1 := 40) E hW tw_1298 ⟨tw_1004, tw_1003, tw_122⟩ hl.1 rfl r55 (by decide) rfl r58 (by decide) rfl rfl (by decide) rfl (by decide) (by decide) (by decide) (fun _ _ => trivial) ⟨Nat.le_of_ble_eq_true rfl, Nat.le_of_ble_eq_true rfl⟩ dX1_copyFrom_80 (fun f59 H locs n61 g62 hW => ?_)
  have z63 : WT kp L [h0] f0 f59 := wt_fm z52 g62 rfl
  have hF := FM.tr hF g62 rfl
  refine lv_aload_n hx hb dX1_copyFrom_83 rfl (lv_at hl 1 rfl) ?_
  refine fg_RX1_27 E hW ru1 dX1_copyFrom_84 (fun a64 m65 r66 => ?_)
  refine lv_iconst (v := 0) hx hb dX1_copyFrom_87 (by decide) ?_
  refine lv_aload_n hx hb dX1_copyFrom_88 rfl (lv_at hl 0 rfl) ?_
  refine fg_RX1_27 E hW rh0 dX1_copyFrom_89 (fun a67 m68 r69 => ?_)
  refine lv_iconst (v := 0) hx hb dX1_copyFrom_92 (by decide) ?_
  refine lv_bipush (v := 40) hx hb dX1_copyFrom_93 (by decide) ?_
  refine t_copy (N := 40) (n0 := 40) (n1 := 40) E hW tw_1298 ⟨tw_1004, tw_1003, tw_122⟩ hl.1 rfl r66 (by decide) rfl r69 (by decide) rfl rfl (by decide) rfl (by decide) (by decide) (by decide) (fun _ _ => trivial) ⟨Nat.le_of_ble_eq_true rfl, Nat.le_of_ble_eq_true rfl⟩ dX1_copyFrom_95 (fun f70 H locs n72 g73 hW => ?_)
  have m74 : oI (f70 u1) 8 = v8 := ((fm_I g73 ru1 rfl).trans ((fm_I g62 ru1 rfl).trans ((fm_I g51 ru1 rfl).trans ((fm_I g40 ru1 rfl).trans ((fm_I g29 ru1 rfl).trans ((fm_I g18 ru1 rfl).trans ((fm_I g7 ru1 rfl).trans mv8)))))))
  have z75 : WT kp L [h0] f0 f70 := wt_fm z63 g73 rfl
  have hF := FM.tr hF g73 rfl
  refine lv_aload_n hx hb dX1_copyFrom_98 rfl (lv_at hl 1 rfl) ?_
  refine fg_RX1_30 E hW ru1 dX1_copyFrom_99 (fun a76 m77 r78 => ?_)
  refine lv_iconst (v := 0) hx hb dX1_copyFrom_102 (by decide) ?_
  refine lv_aload_n hx hb dX1_copyFrom_103 rfl (lv_at hl 0 rfl) ?_
  refine fg_RX1_30 E hW rh0 dX1_copyFrom_104 (fun a79 m80 r81 => ?_)
  refine lv_iconst (v := 0) hx hb dX1_copyFrom_107 (by decide) ?_
  refine lv_bipush (v := 40) hx hb dX1_copyFrom_108 (by decide) ?_
  refine t_copy (N := 40) (n0 := 40) (n1 := 40) E hW tw_1298 ⟨tw_1004, tw_1003, tw_122⟩ hl.1 rfl r78 (by decide) rfl r81 (by decide) rfl rfl (by decide) rfl (by decide) (by decide) (by decide) (fun _ _ => trivial) ⟨Nat.le_of_ble_eq_true rfl, Nat.le_of_ble_eq_true rfl⟩ dX1_copyFrom_110 (fun f82 H locs n84 g85 hW => ?_)
  have m86 : oI (f82 h0) 0 = y1 := ((fm_I g85 rh0 rfl).trans ((fm_I g73 rh0 rfl).trans ((fm_I g62 rh0 rfl).trans ((fm_I g51 rh0 rfl).trans ((fm_I g40 rh0 rfl).trans ((fm_I g29 rh0 rfl).trans ((fm_I g18 rh0 rfl).trans e5)))))))
  have m87 : oR (f82 u1) 1 = a9 := ((fm_R g85 ru1 rfl).trans ((fm_R g73 ru1 rfl).trans ((fm_R g62 ru1 rfl).trans ((fm_R g51 ru1 rfl).trans ((fm_R g40 ru1 rfl).trans ((fm_R g29 ru1 rfl).trans ((fm_R g18 ru1 rfl).trans m10)))))))
  have m88 : oR (f82 h0) 1 = a12 := ((fm_R g85 rh0 rfl).trans ((fm_R g73 rh0 rfl).trans ((fm_R g62 rh0 rfl).trans ((fm_R g51 rh0 rfl).trans ((fm_R g40 rh0 rfl).trans ((fm_R g29 rh0 rfl).trans ((fm_R g18 rh0 rfl).trans m13)))))))
  have z89 : WT kp L [h0] f0 f82 := wt_fm z75 g85 rfl
  have hF := FM.tr hF g85 rfl
  refine lv_aload_n hx hb dX1_copyFrom_113 rfl (lv_at hl 0 rfl) ?_
  refine lv_aload_n hx hb dX1_copyFrom_114 rfl (lv_at hl 1 rfl) ?_
  refine fg_RX1_49 E hW ru1 dX1_copyFrom_115 (fun y90 m91 b92 => ?_)
  obtain rfl : v8 = y90 := (((fm_I g85 ru1 rfl).trans m74)).symm.trans m91
  have hW0 := hW.2.2.2
  refine fp_RX1_49 E hW rh0 (by omega) dX1_copyFrom_118 (fun f93 H locs e94 n95 g96 hW => ?_)
  have m97 : oR (f93 u1) 2 = a20 := ((fm_R g96 ru1 rfl).trans ((fm_R g85 ru1 rfl).trans ((fm_R g73 ru1 rfl).trans ((fm_R g62 ru1 rfl).trans ((fm_R g51 ru1 rfl).trans ((fm_R g40 ru1 rfl).trans ((fm_R g29 ru1 rfl).trans m21)))))))
  have m98 : oR (f93 h0) 2 = a23 := ((fm_R g96 rh0 rfl).trans ((fm_R g85 rh0 rfl).trans ((fm_R g73 rh0 rfl).trans ((fm_R g62 rh0 rfl).trans ((fm_R g51 rh0 rfl).trans ((fm_R g40 rh0 rfl).trans ((fm_R g29 rh0 rfl).trans m24)))))))
  have z99 : WT kp L [h0] f0 f93 := wt_put z89 n95 (by simp)
  have hF := FM.tr hF g96 rfl
  refine lv_aload_n hx hb dX1_copyFrom_121 rfl (lv_at hl 1 rfl) ?_
  refine fg_RX1_33 E hW ru1 dX1_copyFrom_122 (fun a100 m101 r102 => ?_)
  refine lv_iconst (v := 0) hx hb dX1_copyFrom_125 (by decide) ?_
  refine lv_aload_n hx hb dX1_copyFrom_126 rfl (lv_at hl 0 rfl) ?_
  refine fg_RX1_33 E hW rh0 dX1_copyFrom_127 (fun a103 m104 r105 => ?_)
  refine lv_iconst (v := 0) hx hb dX1_copyFrom_130 (by decide) ?_
  refine lv_bipush (v := 8) hx hb dX1_copyFrom_131 (by decide) ?_
  refine t_copy (N := 8) (n0 := 8) (n1 := 8) E hW tw_1298 ⟨tw_1004, tw_1003, tw_122⟩ hl.1 rfl r102 (by decide) rfl r105 (by decide) rfl rfl (by decide) rfl (by decide) (by decide) (by decide) (fun _ _ => trivial) ⟨Nat.le_of_ble_eq_true rfl, Nat.le_of_ble_eq_true rfl⟩ dX1_copyFrom_133 (fun f106 H locs n108 g109 hW => ?_)
  have m110 : oR (f106 u1) 3 = a31 := ((fm_R g109 ru1 rfl).trans ((fm_R g96 ru1 rfl).trans ((fm_R g85 ru1 rfl).trans ((fm_R g73 ru1 rfl).trans ((fm_R g62 ru1 rfl).trans ((fm_R g51 ru1 rfl).trans ((fm_R g40 ru1 rfl).trans m32)))))))
  have m111 : oR (f106 h0) 3 = a34 := ((fm_R g109 rh0 rfl).trans ((fm_R g96 rh0 rfl).trans ((fm_R g85 rh0 rfl).trans ((fm_R g73 rh0 rfl).trans ((fm_R g62 rh0 rfl).trans ((fm_R g51 rh0 rfl).trans ((fm_R g40 rh0 rfl).trans m35)))))))
  have z112 : WT kp L [h0] f0 f106 := wt_fm z99 g109 rfl
  have hF := FM.tr hF g109 rfl
  refine lv_aload_n hx hb dX1_copyFrom_136 rfl (lv_at hl 1 rfl) ?_
  refine fg_RX1_36 E hW ru1 dX1_copyFrom_137 (fun a113 m114 r115 => ?_)
  refine lv_iconst (v := 0) hx hb dX1_copyFrom_140 (by decide) ?_
  refine lv_aload_n hx hb dX1_copyFrom_141 rfl (lv_at hl 0 rfl) ?_
  refine fg_RX1_36 E hW rh0 dX1_copyFrom_142 (fun a116 m117 r118 => ?_)
  refine lv_iconst (v := 0) hx hb dX1_copyFrom_145 (by decide) ?_
  refine lv_bipush (v := 8) hx hb dX1_copyFrom_146 (by decide) ?_
  refine t_copy (N := 8) (n0 := 8) (n1 := 8) E hW tw_1298 ⟨tw_1004, tw_1003, tw_122⟩ hl.1 rfl r115 (by decide) rfl r118 (by decide) rfl rfl (by decide) rfl (by decide) (by decide) (by decide) (fun _ _ => trivial) ⟨Nat.le_of_ble_eq_true rfl, Nat.le_of_ble_eq_true rfl⟩ dX1_copyFrom_148 (fun f119 H locs n121 g122 hW => ?_)
  have m123 : oR (f119 u1) 4 = a42 := ((fm_R g122 ru1 rfl).trans ((fm_R g109 ru1 rfl).trans ((fm_R g96 ru1 rfl).trans ((fm_R g85 ru1 rfl).trans ((fm_R g73 ru1 rfl).trans ((fm_R g62 ru1 rfl).trans ((fm_R g51 ru1 rfl).trans m43)))))))
  have m124 : oR (f119 h0) 4 = a45 := ((fm_R g122 rh0 rfl).trans ((fm_R g109 rh0 rfl).trans ((fm_R g96 rh0 rfl).trans ((fm_R g85 rh0 rfl).trans ((fm_R g73 rh0 rfl).trans ((fm_R g62 rh0 rfl).trans ((fm_R g51 rh0 rfl).trans m46)))))))
  have z125 : WT kp L [h0] f0 f119 := wt_fm z112 g122 rfl
  have hF := FM.tr hF g122 rfl
  refine lv_aload_n hx hb dX1_copyFrom_151 rfl (lv_at hl 1 rfl) ?_
  refine fg_RX1_39 E hW ru1 dX1_copyFrom_152 (fun a126 m127 r128 => ?_)
  refine lv_iconst (v := 0) hx hb dX1_copyFrom_155 (by decide) ?_
  refine lv_aload_n hx hb dX1_copyFrom_156 rfl (lv_at hl 0 rfl) ?_
  refine fg_RX1_39 E hW rh0 dX1_copyFrom_157 (fun a129 m130 r131 => ?_)
  refine lv_iconst (v := 0) hx hb dX1_copyFrom_160 (by decide) ?_
  refine lv_bipush (v := 8) hx hb dX1_copyFrom_161 (by decide) ?_
  refine t_copy (N := 8) (n0 := 8) (n1 := 8) E hW tw_1298 ⟨tw_1004, tw_1003, tw_122⟩ hl.1 rfl r128 (by decide) rfl r131 (by decide) rfl rfl (by decide) rfl (by decide) (by decide) (by decide) (fun _ _ => trivial) ⟨Nat.le_of_ble_eq_true rfl, Nat.le_of_ble_eq_true rfl⟩ dX1_copyFrom_163 (fun f132 H locs n134 g135 hW => ?_)
  have m136 : oR (f132 u1) 5 = a53 := ((fm_R g135 ru1 rfl).trans ((fm_R g122 ru1 rfl).trans ((fm_R g109 ru1 rfl).trans ((fm_R g96 ru1 rfl).trans ((fm_R g85 ru1 rfl).trans ((fm_R g73 ru1 rfl).trans ((fm_R g62 ru1 rfl).trans m54)))))))
  have m137 : oR (f132 h0) 5 = a56 := ((fm_R g135 rh0 rfl).trans ((fm_R g122 rh0 rfl).trans ((fm_R g109 rh0 rfl).trans ((fm_R g96 rh0 rfl).trans ((fm_R g85 rh0 rfl).trans ((fm_R g73 rh0 rfl).trans ((fm_R g62 rh0 rfl).trans m57)))))))
  have z138 : WT kp L [h0] f0 f132 := wt_fm z125 g135 rfl
  have hF := FM.tr hF g135 rfl
  refine lv_aload_n hx hb dX1_copyFrom_166 rfl (lv_at hl 0 rfl) ?_
  refine lv_aload_n hx hb dX1_copyFrom_167 rfl (lv_at hl 1 rfl) ?_
  refine fg_RX1_42 E hW ru1 dX1_copyFrom_168 (fun y139 m140 => ?_)
  have hW0 := hW.2.2.2
  refine fp_RX1_42 E hW rh0 dX1_copyFrom_171 (fun f142 H locs e143 n144 g145 hW => ?_)
  have m146 : oR (f142 u1) 6 = a64 := ((fm_R g145 ru1 rfl).trans ((fm_R g135 ru1 rfl).trans ((fm_R g122 ru1 rfl).trans ((fm_R g109 ru1 rfl).trans ((fm_R g96 ru1 rfl).trans ((fm_R g85 ru1 rfl).trans ((fm_R g73 ru1 rfl).trans m65)))))))
  have m147 : oR (f142 h0) 6 = a67 := ((fm_R g145 rh0 rfl).trans ((fm_R g135 rh0 rfl).trans ((fm_R g122 rh0 rfl).trans ((fm_R g109 rh0 rfl).trans ((fm_R g96 rh0 rfl).trans ((fm_R g85 rh0 rfl).trans ((fm_R g73 rh0 rfl).trans m68)))))))
  have z148 : WT kp L [h0] f0 f142 := wt_fm z138 g145 rfl
  have hF := FM.tr hF g145 rfl
  refine lv_aload_n hx hb dX1_copyFrom_174 rfl (lv_at hl 0 rfl) ?_
  refine lv_aload_n hx hb dX1_copyFrom_175 rfl (lv_at hl 1 rfl) ?_
  refine fg_RX1_62 E hW ru1 dX1_copyFrom_176 (fun y149 m150 => ?_)
  have hW0 := hW.2.2.2
  refine fp_RX1_62 E hW rh0 dX1_copyFrom_179 (fun f151 H locs e152 n153 g154 hW => ?_)
  have m155 : oR (f151 u1) 7 = a76 := ((fm_R g154 ru1 rfl).trans ((fm_R g145 ru1 rfl).trans ((fm_R g135 ru1 rfl).trans ((fm_R g122 ru1 rfl).trans ((fm_R g109 ru1 rfl).trans ((fm_R g96 ru1 rfl).trans ((fm_R g85 ru1 rfl).trans m77)))))))
  have m156 : oR (f151 h0) 7 = a79 := ((fm_R g154 rh0 rfl).trans ((fm_R g145 rh0 rfl).trans ((fm_R g135 rh0 rfl).trans ((fm_R g122 rh0 rfl).trans ((fm_R g109 rh0 rfl).trans ((fm_R g96 rh0 rfl).trans ((fm_R g85 rh0 rfl).trans m80)))))))
  have z157 : WT kp L [h0] f0 f151 := wt_fm z148 g154 rfl
  have hF := FM.tr hF g154 rfl
  refine lv_aload_n hx hb dX1_copyFrom_182 rfl (lv_at hl 0 rfl) ?_
  refine lv_aload_n hx hb dX1_copyFrom_183 rfl (lv_at hl 1 rfl) ?_
  refine fg_RX1_69 E hW ru1 dX1_copyFrom_184 (fun y158 m159 => ?_)
  have hW0 := hW.2.2.2
  refine fp_RX1_69 E hW rh0 dX1_copyFrom_187 (fun f160 H locs e161 n162 g163 hW => ?_)
  have m164 : oI (f160 h0) 0 = y1 := ((fm_I g163 rh0 rfl).trans ((fm_I g154 rh0 rfl).trans ((fm_I g145 rh0 rfl).trans ((fm_I g135 rh0 rfl).trans ((fm_I g122 rh0 rfl).trans ((fm_I g109 rh0 rfl).trans ((fm_I g96 rh0 rfl).trans m86)))))))
  have m165 : oR (f160 u1) 1 = a9 := ((fm_R g163 ru1 rfl).trans ((fm_R g154 ru1 rfl).trans ((fm_R g145 ru1 rfl).trans ((fm_R g135 ru1 rfl).trans ((fm_R g122 ru1 rfl).trans ((fm_R g109 ru1 rfl).trans ((fm_R g96 ru1 rfl).trans m87)))))))
  have m166 : oR (f160 h0) 1 = a12 := ((fm_R g163 rh0 rfl).trans ((fm_R g154 rh0 rfl).trans ((fm_R g145 rh0 rfl).trans ((fm_R g135 rh0 rfl).trans ((fm_R g122 rh0 rfl).trans ((fm_R g109 rh0 rfl).trans ((fm_R g96 rh0 rfl).trans m88)))))))
  have z167 : WT kp L [h0] f0 f160 := wt_fm z157 g163 rfl
  have hF := FM.tr hF g163 rfl
  exact e_V E hW rfl ⟨rfl, hF, (by rw [((fm_I g163 rh0 rfl).trans ((fm_I g154 rh0 rfl).trans ((fm_I g145 rh0 rfl).trans ((fm_I g135 rh0 rfl).trans ((fm_I g122 rh0 rfl).trans ((fm_I g109 rh0 rfl).trans e94)))))), mv8]), z167⟩ dX1_copyFrom_190
def ms_X3_copyFrom_w : List (Nat × Nat) := [(3, 0), (3, 1), (3, 2), (3, 3), (284, 0), (285, 0)]
def po_X3_copyFrom_w (kp : Nat → Nat) (L : List Nat) (f0 : Nat → va_E) (h0 : Nat) (u1 : Nat) : Option Value → (Nat → va_E) → Prop := fun v f => v = none ∧ FM kp L ms_X3_copyFrom_w f0 f ∧ (oI (f h0) 1 = oI (f0 u1) 1) ∧ (oI (f h0) 3 = oI (f0 u1) 3) ∧ (WT kp L [h0] f0 f)
set_option maxHeartbeats 4000000 in
set_option maxRecDepth 100000 in
theorem c_X3_copyFrom_w (l : Launch) (G : va_G) (cI cJ cZ cD cR cT : ClassId) (kp : Nat → Nat) (L : List Nat) (f0 : Nat → va_E) (hTH : TH cI cJ cZ cD cR cT kp L f0) (sz : Nat) (h0 : Nat) (u1 : Nat) (rh0 : RK kp L h0 3) (ru1 : RK kp L u1 3) : Met l yX3_copyFrom (Cond.code yX3_copyFrom cX3_copyFrom 2 none :: wTab) ({ frames := 1, cells := 0, slots := 0, locals := 60 }) (va_Pc [.ref h0, .ref u1] (PreW G (tys6 cI cJ cZ cD cR cT) (va_pl L f0) sz)) (QT (po_X3_copyFrom_w kp L f0 h0 u1) G cI cJ cZ cD cR cT (va_A (va_pl L f0) sz) kp L) 0 0 (va_A (va_pl L f0) sz) := by
  refine metT (by decide) (Nat.le_of_ble_eq_true rfl) hTH ?_
  intro p e s m below meth c A ls E hW hl
  obtain ⟨hx, hb, -, hml, hown, hts, -, -, -⟩ := id E
  have hF : FM kp L ms_X3_copyFrom_w f0 f0 := FM.rf
  have hl : lv_has ls 2 [(0, .ref h0), (1, .ref u1)] := hl
  obtain ⟨v1, mv1⟩ : ∃ x : Int32, oI (f0 u1) 1 = x := ⟨_, rfl⟩
  obtain ⟨v3, mv3⟩ : ∃ x : Int32, oI (f0 u1) 3 = x := ⟨_, rfl⟩
  have bv3 : (0 : Int) ≤ v3.toInt ∧ v3.toInt ≤ 9 := by rw [← mv3]; exact th_ivT hTH ru1 (by decide) (by decide) rfl
  refine lv_aload_n hx hb dX3_copyFrom_0 rfl (lv_at hl 0 rfl) ?_
  refine lv_aload_n hx hb dX3_copyFrom_1 rfl (lv_at hl 1 rfl) ?_
  refine fg_RX3_35 E hW ru1 dX3_copyFrom_2 (fun y1 m2 => ?_)
  have hW0 := hW.2.2.2
  refine fp_RX3_35 E hW rh0 dX3_copyFrom_5 (fun f4 H locs e5 n6 g7 hW => ?_)
  have z8 : WT kp L [h0] f0 f4 := wt_fm (wt_rf : WT kp L [h0] f0 f0) g7 rfl
  have hF := FM.tr hF g7 rfl
  refine lv_aload_n hx hb dX3_copyFrom_8 rfl (lv_at hl 0 rfl) ?_
  refine lv_aload_n hx hb dX3_copyFrom_9 rfl (lv_at hl 1 rfl) ?_
  refine fg_RX3_9 E hW ru1 dX3_copyFrom_10 (fun y9 m10 => ?_)
  obtain rfl : v1 = y9 := (((fm_I g7 ru1 rfl).trans mv1)).symm.trans m10
  have hW0 := hW.2.2.2
  refine fp_RX3_9 E hW rh0 dX3_copyFrom_13 (fun f12 H locs e13 n14 g15 hW => ?_)
  have z16 : WT kp L [h0] f0 f12 := wt_put z8 n14 (by simp)
  have hF := FM.tr hF g15 rfl
  refine lv_aload_n hx hb dX3_copyFrom_16 rfl (lv_at hl 0 rfl) ?_
  refine lv_aload_n hx hb dX3_copyFrom_17 rfl (lv_at hl 1 rfl) ?_
  refine fg_RX3_38 E hW ru1 dX3_copyFrom_18 (fun y17 m18 => ?_)
  have hW0 := hW.2.2.2
  refine fp_RX3_38 E hW rh0 dX3_copyFrom_21 (fun f20 H locs e21 n22 g23 hW => ?_)
  have z24 : WT kp L [h0] f0 f20 := wt_fm z16 g23 rfl
  have hF := FM.tr hF g23 rfl
  refine lv_aload_n hx hb dX3_copyFrom_24 rfl (lv_at hl 0 rfl) ?_
  refine lv_aload_n hx hb dX3_copyFrom_25 rfl (lv_at hl 1 rfl) ?_
  refine fg_RX3_22 E hW ru1 dX3_copyFrom_26 (fun y25 m26 b27 => ?_)
  obtain rfl : v3 = y25 := (((fm_I g23 ru1 rfl).trans ((fm_I g15 ru1 rfl).trans ((fm_I g7 ru1 rfl).trans mv3)))).symm.trans m26
  have hW0 := hW.2.2.2
  refine fp_RX3_22 E hW rh0 (by omega) dX3_copyFrom_29 (fun f28 H locs e29 n30 g31 hW => ?_)
  have z32 : WT kp L [h0] f0 f28 := wt_put z24 n30 (by simp)
  have hF := FM.tr hF g31 rfl
  refine lv_aload_n hx hb dX3_copyFrom_32 rfl (lv_at hl 1 rfl) ?_
  refine fg_RX3_15 E hW ru1 dX3_copyFrom_33 (fun a33 m34 r35 => ?_)
  refine lv_iconst (v := 0) hx hb dX3_copyFrom_36 (by decide) ?_
  refine lv_aload_n hx hb dX3_copyFrom_37 rfl (lv_at hl 0 rfl) ?_
  refine fg_RX3_15 E hW rh0 dX3_copyFrom_38 (fun a36 m37 r38 => ?_)
  refine lv_iconst (v := 0) hx hb dX3_copyFrom_41 (by decide) ?_
  refine lv_bipush (v := 9) hx hb dX3_copyFrom_42 (by decide) ?_
  refine t_copy (N := 9) (n0 := 9) (n1 := 9) E hW tw_1317 ⟨tw_1004, tw_1003, tw_122⟩ hl.1 rfl r35 (by decide) rfl r38 (by decide) rfl rfl (by decide) rfl (by decide) (by decide) (by decide) (fun _ _ => trivial) ⟨Nat.le_of_ble_eq_true rfl, Nat.le_of_ble_eq_true rfl⟩ dX3_copyFrom_44 (fun f39 H locs n41 g42 hW => ?_)
  have z43 : WT kp L [h0] f0 f39 := wt_fm z32 g42 rfl
  have hF := FM.tr hF g42 rfl
  refine lv_aload_n hx hb dX3_copyFrom_47 rfl (lv_at hl 1 rfl) ?_
  refine fg_RX3_19 E hW ru1 dX3_copyFrom_48 (fun a44 m45 r46 => ?_)
  refine lv_iconst (v := 0) hx hb dX3_copyFrom_51 (by decide) ?_
  refine lv_aload_n hx hb dX3_copyFrom_52 rfl (lv_at hl 0 rfl) ?_
  refine fg_RX3_19 E hW rh0 dX3_copyFrom_53 (fun a47 m48 r49 => ?_)
  refine lv_iconst (v := 0) hx hb dX3_copyFrom_56 (by decide) ?_
  refine lv_bipush (v := 9) hx hb dX3_copyFrom_57 (by decide) ?_
  refine t_copy (N := 9) (n0 := 9) (n1 := 9) E hW tw_1317 ⟨tw_1004, tw_1003, tw_122⟩ hl.1 rfl r46 (by decide) rfl r49 (by decide) rfl rfl (by decide) rfl (by decide) (by decide) (by decide) (fun _ _ => trivial) ⟨Nat.le_of_ble_eq_true rfl, Nat.le_of_ble_eq_true rfl⟩ dX3_copyFrom_59 (fun f50 H locs n52 g53 hW => ?_)
  have z54 : WT kp L [h0] f0 f50 := wt_fm z43 g53 rfl
  have hF := FM.tr hF g53 rfl
  exact e_V E hW rfl ⟨rfl, hF, (by rw [((fm_I g53 rh0 rfl).trans ((fm_I g42 rh0 rfl).trans ((fm_I g31 rh0 rfl).trans ((fm_I g23 rh0 rfl).trans e13)))), mv1]), (by rw [((fm_I g53 rh0 rfl).trans ((fm_I g42 rh0 rfl).trans e29)), mv3]), z54⟩ dX3_copyFrom_62
def ms_X0_copyFrom_w : List (Nat × Nat) := [(0, 6), (0, 9), (0, 12), (0, 13), (1, 0), (1, 8), (1, 12), (1, 13), (1, 14), (2, 0), (3, 0), (3, 1), (3, 2), (3, 3), (4, 0), (10, 0), (10, 7), (108, 0), (161, 0), (162, 0), (163, 0), (164, 0), (165, 0), (166, 0), (167, 0), (169, 0), (170, 0), (171, 0), (221, 0), (284, 0), (285, 0), (341, 0), (342, 0), (343, 0), (344, 0), (345, 0), (346, 0), (347, 0), (348, 0), (520, 0), (521, 0), (701, 0), (702, 0), (703, 0), (704, 0), (705, 0), (706, 0), (708, 0), (709, 0), (710, 0)]
def po_X0_copyFrom_w (kp : Nat → Nat) (L : List Nat) (f0 : Nat → va_E) (h0 : Nat) (u1 : Nat) : Option Value → (Nat → va_E) → Prop := fun v f => v = none ∧ FM kp L ms_X0_copyFrom_w f0 f ∧ (oI (f (oR (f0 h0) 0)) 0 = oI (f0 (oR (f0 u1) 0)) 0) ∧ (oI (f (oR (f0 h0) 1)) 8 = oI (f0 (oR (f0 u1) 1)) 8) ∧ (oI (f (oR (f0 h0) 5)) 1 = oI (f0 (oR (f0 u1) 5)) 1) ∧ (oI (f (oR (f0 h0) 5)) 3 = oI (f0 (oR (f0 u1) 5)) 3) ∧ (oI (f h0) 6 = oI (f0 u1) 6) ∧ (WT kp L [h0, oR (f0 h0) 0, oR (f0 h0) 1, oR (f0 h0) 5] f0 f)
set_option maxHeartbeats 4000000 in
set_option maxRecDepth 100000 in
theorem c_X0_copyFrom_w (l : Launch) (G : va_G) (cI cJ cZ cD cR cT : ClassId) (kp : Nat → Nat) (L : List Nat) (f0 : Nat → va_E) (hTH : TH cI cJ cZ cD cR cT kp L f0) (sz : Nat) (h0 : Nat) (u1 : Nat) (rh0 : RK kp L h0 0) (ru1 : RK kp L u1 0) : Met l yX0_copyFrom (Cond.code yX0_copyFrom cX0_copyFrom 2 none :: wTab) ({ frames := 2, cells := 0, slots := 0, locals := 82 }) (va_Pc [.ref h0, .ref u1] (PreW G (tys6 cI cJ cZ cD cR cT) (va_pl L f0) sz)) (QT (po_X0_copyFrom_w kp L f0 h0 u1) G cI cJ cZ cD cR cT (va_A (va_pl L f0) sz) kp L) 0 0 (va_A (va_pl L f0) sz) := by
  refine metT (by decide) (Nat.le_of_ble_eq_true rfl) hTH ?_
  intro p e s m below meth c A ls E hW hl
  obtain ⟨hx, hb, -, hml, hown, hts, -, -, -⟩ := id E
  have hF : FM kp L ms_X0_copyFrom_w f0 f0 := FM.rf
  have hl : lv_has ls 2 [(0, .ref h0), (1, .ref u1)] := hl
  obtain ⟨H0, mH0⟩ : ∃ x : Nat, oR (f0 h0) 0 = x := ⟨_, rfl⟩
  have rH0 : RK kp L H0 4 := by rw [← mH0]; exact th_ref hTH rh0 (by decide) (by decide) rfl
  obtain ⟨Hv0_0, mHv0_0⟩ : ∃ x : Int32, oI (f0 H0) 0 = x := ⟨_, rfl⟩
  have bHv0_0 : (0 : Int) ≤ Hv0_0.toInt ∧ Hv0_0.toInt ≤ 40 := by rw [← mHv0_0]; exact th_ivT hTH rH0 (by decide) (by decide) rfl
  obtain ⟨H1, mH1⟩ : ∃ x : Nat, oR (f0 h0) 1 = x := ⟨_, rfl⟩
  have rH1 : RK kp L H1 1 := by rw [← mH1]; exact th_ref hTH rh0 (by decide) (by decide) rfl
  obtain ⟨Hv1_8, mHv1_8⟩ : ∃ x : Int32, oI (f0 H1) 8 = x := ⟨_, rfl⟩
  have bHv1_8 : (0 : Int) ≤ Hv1_8.toInt ∧ Hv1_8.toInt ≤ 8 := by rw [← mHv1_8]; exact th_ivT hTH rH1 (by decide) (by decide) rfl
  obtain ⟨H5, mH5⟩ : ∃ x : Nat, oR (f0 h0) 5 = x := ⟨_, rfl⟩
  have rH5 : RK kp L H5 3 := by rw [← mH5]; exact th_ref hTH rh0 (by decide) (by decide) rfl
  obtain ⟨Hv5_1, mHv5_1⟩ : ∃ x : Int32, oI (f0 H5) 1 = x := ⟨_, rfl⟩
  obtain ⟨Hv5_3, mHv5_3⟩ : ∃ x : Int32, oI (f0 H5) 3 = x := ⟨_, rfl⟩
  have bHv5_3 : (0 : Int) ≤ Hv5_3.toInt ∧ Hv5_3.toInt ≤ 9 := by rw [← mHv5_3]; exact th_ivT hTH rH5 (by decide) (by decide) rfl
  obtain ⟨Hv6, mHv6⟩ : ∃ x : Int32, oI (f0 h0) 6 = x := ⟨_, rfl⟩
  have bHv6 : (0 : Int) ≤ Hv6.toInt ∧ Hv6.toInt ≤ 399 := by rw [← mHv6]; exact th_ivT hTH rh0 (by decide) (by decide) rfl
  obtain ⟨U0, mU0⟩ : ∃ x : Nat, oR (f0 u1) 0 = x := ⟨_, rfl⟩
  have rU0 : RK kp L U0 4 := by rw [← mU0]; exact th_ref hTH ru1 (by decide) (by decide) rfl
  obtain ⟨Uv0_0, mUv0_0⟩ : ∃ x : Int32, oI (f0 U0) 0 = x := ⟨_, rfl⟩
  have bUv0_0 : (0 : Int) ≤ Uv0_0.toInt ∧ Uv0_0.toInt ≤ 40 := by rw [← mUv0_0]; exact th_ivT hTH rU0 (by decide) (by decide) rfl
  obtain ⟨U1, mU1⟩ : ∃ x : Nat, oR (f0 u1) 1 = x := ⟨_, rfl⟩
  have rU1 : RK kp L U1 1 := by rw [← mU1]; exact th_ref hTH ru1 (by decide) (by decide) rfl
  obtain ⟨Uv1_8, mUv1_8⟩ : ∃ x : Int32, oI (f0 U1) 8 = x := ⟨_, rfl⟩
  have bUv1_8 : (0 : Int) ≤ Uv1_8.toInt ∧ Uv1_8.toInt ≤ 8 := by rw [← mUv1_8]; exact th_ivT hTH rU1 (by decide) (by decide) rfl
  obtain ⟨U5, mU5⟩ : ∃ x : Nat, oR (f0 u1) 5 = x := ⟨_, rfl⟩
  have rU5 : RK kp L U5 3 := by rw [← mU5]; exact th_ref hTH ru1 (by decide) (by decide) rfl
  obtain ⟨Uv5_1, mUv5_1⟩ : ∃ x : Int32, oI (f0 U5) 1 = x := ⟨_, rfl⟩
  obtain ⟨Uv5_3, mUv5_3⟩ : ∃ x : Int32, oI (f0 U5) 3 = x := ⟨_, rfl⟩
  have bUv5_3 : (0 : Int) ≤ Uv5_3.toInt ∧ Uv5_3.toInt ≤ 9 := by rw [← mUv5_3]; exact th_ivT hTH rU5 (by decide) (by decide) rfl
  obtain ⟨Uv6, mUv6⟩ : ∃ x : Int32, oI (f0 u1) 6 = x := ⟨_, rfl⟩
  have bUv6 : (0 : Int) ≤ Uv6.toInt ∧ Uv6.toInt ≤ 399 := by rw [← mUv6]; exact th_ivT hTH ru1 (by decide) (by decide) rfl
  refine lv_aload_n hx hb dX0_copyFrom_0 rfl (lv_at hl 0 rfl) ?_
  refine fg_RX0_12 E hW rh0 dX0_copyFrom_1 (fun a1 m2 r3 => ?_)
  obtain rfl : H0 = a1 := (mH0).symm.trans m2
  refine lv_aload_n hx hb dX0_copyFrom_4 rfl (lv_at hl 1 rfl) ?_
  refine fg_RX0_12 E hW ru1 dX0_copyFrom_5 (fun a4 m5 r6 => ?_)
  obtain rfl : U0 = a4 := (mU0).symm.trans m5
  have hW0 := hW.2.2.2
  refine t_callV (As := [.ref U0]) (rest := []) E hW (c_X4_copyFrom_w l G cI cJ cZ cD cR cT kp L f0 hW.2.2.2 _ H0 U0 rH0 rU0) rH0 (by decide) rfl wk_X4_copyFrom tw_1289 rfl ⟨Nat.le_of_ble_eq_true rfl, Nat.le_of_ble_eq_true rfl⟩ ⟨rfl, rfl⟩ hl.1 rfl (Nat.le_of_ble_eq_true rfl) dX0_copyFrom_8 ⟨Nat.le_of_ble_eq_true rfl, Nat.le_of_ble_eq_true rfl⟩ (fun v7 f8 H locs q9 hW => ?_)
  obtain ⟨rfl, g10, h11, h12⟩ := q9
  have hF := FM.tr hF g10 rfl
  have z14 : WT kp L [h0, H0, H1, H5] f0 f8 := wt_call (wt_rf : WT kp L [h0, H0, H1, H5] f0 f0) h12 (by intro q h; simp only [List.mem_cons, List.not_mem_nil, or_false] at h ⊢; omega)
  refine lv_aload_n hx hb dX0_copyFrom_11 rfl (lv_at hl 0 rfl) ?_
  refine fg_RX0_21 E hW rh0 dX0_copyFrom_12 (fun a15 m16 r17 => ?_)
  obtain rfl : H1 = a15 := (((fm_R g10 rh0 rfl).trans mH1)).symm.trans m16
  refine lv_aload_n hx hb dX0_copyFrom_15 rfl (lv_at hl 1 rfl) ?_
  refine fg_RX0_21 E hW ru1 dX0_copyFrom_16 (fun a18 m19 r20 => ?_)
  obtain rfl : U1 = a18 := (((fm_R g10 ru1 rfl).trans mU1)).symm.trans m19
  have hW0 := hW.2.2.2
  refine t_callV (As := [.ref U1]) (rest := []) E hW (c_X1_copyFrom_w l G cI cJ cZ cD cR cT kp L f8 hW.2.2.2 _ H1 U1 rH1 rU1) rH1 (by decide) rfl wk_X1_copyFrom tw_1294 rfl ⟨Nat.le_of_ble_eq_true rfl, Nat.le_of_ble_eq_true rfl⟩ ⟨rfl, rfl⟩ hl.1 rfl (Nat.le_of_ble_eq_true rfl) dX0_copyFrom_19 ⟨Nat.le_of_ble_eq_true rfl, Nat.le_of_ble_eq_true rfl⟩ (fun v21 f22 H locs q23 hW => ?_)
  obtain ⟨rfl, g24, h25, h26⟩ := q23
  have hF := FM.tr hF g24 rfl
  have z28 : WT kp L [h0, H0, H1, H5] f0 f22 := wt_call z14 h26 (by intro q h; simp only [List.mem_cons, List.not_mem_nil, or_false] at h ⊢; omega)
  refine lv_aload_n hx hb dX0_copyFrom_22 rfl (lv_at hl 0 rfl) ?_
  refine fg_RX0_28 E hW rh0 dX0_copyFrom_23 (fun a29 m30 r31 => ?_)
  refine lv_aload_n hx hb dX0_copyFrom_26 rfl (lv_at hl 1 rfl) ?_
  refine fg_RX0_28 E hW ru1 dX0_copyFrom_27 (fun a32 m33 r34 => ?_)
  have hW0 := hW.2.2.2
  refine t_callV (As := [.ref a32]) (rest := []) E hW (c_X10_copyFrom l G cI cJ cZ cD cR cT kp L f22 hW.2.2.2 _ a29 a32 r31 r34) r31 (by decide) rfl wk_X10_copyFrom tw_1299 rfl ⟨Nat.le_of_ble_eq_true rfl, Nat.le_of_ble_eq_true rfl⟩ ⟨rfl, rfl⟩ hl.1 rfl (Nat.le_of_ble_eq_true rfl) dX0_copyFrom_30 ⟨Nat.le_of_ble_eq_true rfl, Nat.le_of_ble_eq_true rfl⟩ (fun v35 f36 H locs q37 hW => ?_)
  obtain ⟨rfl, g38⟩ := q37
  have z39 : WT kp L [h0, H0, H1, H5] f0 f36 := wt_fm z28 g38 rfl
  have hF := FM.tr hF g38 rfl
  refine lv_aload_n hx hb dX0_copyFrom_33 rfl (lv_at hl 0 rfl) ?_
  refine fg_RX0_35 E hW rh0 dX0_copyFrom_34 (fun a40 m41 r42 => ?_)
  refine lv_aload_n hx hb dX0_copyFrom_37 rfl (lv_at hl 1 rfl) ?_
  refine fg_RX0_35 E hW ru1 dX0_copyFrom_38 (fun a43 m44 r45 => ?_)
  have hW0 := hW.2.2.2
  refine t_callV (As := [.ref a43]) (rest := []) E hW (c_X7_copyFrom l G cI cJ cZ cD cR cT kp L f36 hW.2.2.2 _ a40 a43 r42 r45) r42 (by decide) rfl wk_X7_copyFrom tw_1304 rfl ⟨Nat.le_of_ble_eq_true rfl, Nat.le_of_ble_eq_true rfl⟩ ⟨rfl, rfl⟩ hl.1 rfl (Nat.le_of_ble_eq_true rfl) dX0_copyFrom_41 ⟨Nat.le_of_ble_eq_true rfl, Nat.le_of_ble_eq_true rfl⟩ (fun v46 f47 H locs q48 hW => ?_)
  obtain ⟨rfl, g49⟩ := q48
  have z50 : WT kp L [h0, H0, H1, H5] f0 f47 := wt_fm z39 g49 rfl
  have hF := FM.tr hF g49 rfl
  refine lv_aload_n hx hb dX0_copyFrom_44 rfl (lv_at hl 0 rfl) ?_
  refine fg_RX0_42 E hW rh0 dX0_copyFrom_45 (fun a51 m52 r53 => ?_)
  refine lv_aload_n hx hb dX0_copyFrom_48 rfl (lv_at hl 1 rfl) ?_
  refine fg_RX0_42 E hW ru1 dX0_copyFrom_49 (fun a54 m55 r56 => ?_)
  have hW0 := hW.2.2.2
  refine t_callV (As := [.ref a54]) (rest := []) E hW (c_X2_copyFrom l G cI cJ cZ cD cR cT kp L f47 hW.2.2.2 _ a51 a54 r53 r56) r53 (by decide) rfl wk_X2_copyFrom tw_1309 rfl ⟨Nat.le_of_ble_eq_true rfl, Nat.le_of_ble_eq_true rfl⟩ ⟨rfl, rfl⟩ hl.1 rfl (Nat.le_of_ble_eq_true rfl) dX0_copyFrom_52 ⟨Nat.le_of_ble_eq_true rfl, Nat.le_of_ble_eq_true rfl⟩ (fun v57 f58 H locs q59 hW => ?_)
  obtain ⟨rfl, g60⟩ := q59
  have z61 : WT kp L [h0, H0, H1, H5] f0 f58 := wt_fm z50 g60 rfl
  have hF := FM.tr hF g60 rfl
  refine lv_aload_n hx hb dX0_copyFrom_55 rfl (lv_at hl 0 rfl) ?_
  refine fg_RX0_49 E hW rh0 dX0_copyFrom_56 (fun a62 m63 r64 => ?_)
  obtain rfl : H5 = a62 := (((fm_R g60 rh0 rfl).trans ((fm_R g49 rh0 rfl).trans ((fm_R g38 rh0 rfl).trans ((fm_R g24 rh0 rfl).trans ((fm_R g10 rh0 rfl).trans mH5)))))).symm.trans m63
  refine lv_aload_n hx hb dX0_copyFrom_59 rfl (lv_at hl 1 rfl) ?_
  refine fg_RX0_49 E hW ru1 dX0_copyFrom_60 (fun a65 m66 r67 => ?_)
  obtain rfl : U5 = a65 := (((fm_R g60 ru1 rfl).trans ((fm_R g49 ru1 rfl).trans ((fm_R g38 ru1 rfl).trans ((fm_R g24 ru1 rfl).trans ((fm_R g10 ru1 rfl).trans mU5)))))).symm.trans m66
  have hW0 := hW.2.2.2
  refine t_callV (As := [.ref U5]) (rest := []) E hW (c_X3_copyFrom_w l G cI cJ cZ cD cR cT kp L f58 hW.2.2.2 _ H5 U5 rH5 rU5) rH5 (by decide) rfl wk_X3_copyFrom tw_1313 rfl ⟨Nat.le_of_ble_eq_true rfl, Nat.le_of_ble_eq_true rfl⟩ ⟨rfl, rfl⟩ hl.1 rfl (Nat.le_of_ble_eq_true rfl) dX0_copyFrom_63 ⟨Nat.le_of_ble_eq_true rfl, Nat.le_of_ble_eq_true rfl⟩ (fun v68 f69 H locs q70 hW => ?_)
  obtain ⟨rfl, g71, h72, h73, h74⟩ := q70
  have hF := FM.tr hF g71 rfl
  have z76 : WT kp L [h0, H0, H1, H5] f0 f69 := wt_call z61 h74 (by intro q h; simp only [List.mem_cons, List.not_mem_nil, or_false] at h ⊢; omega)
  refine lv_aload_n hx hb dX0_copyFrom_66 rfl (lv_at hl 0 rfl) ?_
  refine lv_aload_n hx hb dX0_copyFrom_67 rfl (lv_at hl 1 rfl) ?_
  refine fg_RX0_93 E hW ru1 dX0_copyFrom_68 (fun y77 m78 b79 => ?_)
  obtain rfl : Uv6 = y77 := (((fm_I g71 ru1 rfl).trans ((fm_I g60 ru1 rfl).trans ((fm_I g49 ru1 rfl).trans ((fm_I g38 ru1 rfl).trans ((fm_I g24 ru1 rfl).trans ((fm_I g10 ru1 rfl).trans mUv6))))))).symm.trans m78
  have hW0 := hW.2.2.2
  refine fp_RX0_93 E hW rh0 (by omega) dX0_copyFrom_71 (fun f80 H locs e81 n82 g83 hW => ?_)
  have m84 : oR (f80 h0) 0 = H0 := ((fm_R g83 rh0 rfl).trans ((fm_R g71 rh0 rfl).trans ((fm_R g60 rh0 rfl).trans ((fm_R g49 rh0 rfl).trans ((fm_R g38 rh0 rfl).trans ((fm_R g24 rh0 rfl).trans ((fm_R g10 rh0 rfl).trans m2)))))))
  have m85 : oR (f80 u1) 0 = U0 := ((fm_R g83 ru1 rfl).trans ((fm_R g71 ru1 rfl).trans ((fm_R g60 ru1 rfl).trans ((fm_R g49 ru1 rfl).trans ((fm_R g38 ru1 rfl).trans ((fm_R g24 ru1 rfl).trans ((fm_R g10 ru1 rfl).trans m5)))))))
  have m86 : oI (f80 H0) 0 = Uv0_0 := ((fm_I g83 rH0 rfl).trans ((fm_I g71 rH0 rfl).trans ((fm_I g60 rH0 rfl).trans ((fm_I g49 rH0 rfl).trans ((fm_I g38 rH0 rfl).trans ((fm_I g24 rH0 rfl).trans (h11.trans mUv0_0)))))))
  have m87 : oI (f80 H1) 8 = Uv1_8 := ((fm_I g83 rH1 rfl).trans ((fm_I g71 rH1 rfl).trans ((fm_I g60 rH1 rfl).trans ((fm_I g49 rH1 rfl).trans ((fm_I g38 rH1 rfl).trans (h25.trans ((fm_I g10 rU1 rfl).trans mUv1_8)))))))
  have m88 : oI (f80 H5) 1 = Uv5_1 := ((fm_I g83 rH5 rfl).trans (h72.trans ((fm_I g60 rU5 rfl).trans ((fm_I g49 rU5 rfl).trans ((fm_I g38 rU5 rfl).trans ((fm_I g24 rU5 rfl).trans ((fm_I g10 rU5 rfl).trans mUv5_1)))))))
  have m89 : oI (f80 H5) 3 = Uv5_3 := ((fm_I g83 rH5 rfl).trans (h73.trans ((fm_I g60 rU5 rfl).trans ((fm_I g49 rU5 rfl).trans ((fm_I g38 rU5 rfl).trans ((fm_I g24 rU5 rfl).trans ((fm_I g10 rU5 rfl).trans mUv5_3)))))))
  have z90 : WT kp L [h0, H0, H1, H5] f0 f80 := wt_put z76 n82 (by simp)
  have hF := FM.tr hF g83 rfl
  refine lv_aload_n hx hb dX0_copyFrom_74 rfl (lv_at hl 0 rfl) ?_
  refine fg_RX0_53 E hW rh0 dX0_copyFrom_75 (fun a91 m92 r93 => ?_)
  refine lv_iconst (v := (-1)) hx hb dX0_copyFrom_78 (by decide) ?_
  refine t_callS (As := [.ref a91, .int (-1)]) (rest := []) E hW (c_fill l G cI cJ cZ cD cR cT kp L f80 hW.2.2.2 _ a91 (-1) 108 r93 (by decide) rfl (by decide) (fun _ _ _ => trivial) (by decide)) wk_J7_fill_53178 tw_390 rfl ⟨Nat.le_of_ble_eq_true rfl, Nat.le_of_ble_eq_true rfl⟩ ⟨rfl, rfl⟩ hl.1 rfl (Nat.le_of_ble_eq_true rfl) dX0_copyFrom_79 ⟨Nat.le_of_ble_eq_true rfl, Nat.le_of_ble_eq_true rfl⟩ (fun v97 f94 H locs q96 hW => ?_)
  obtain ⟨rfl, g95⟩ := q96
  have m98 : oR (f94 h0) 1 = H1 := ((fm_R g95 rh0 rfl).trans ((fm_R g83 rh0 rfl).trans ((fm_R g71 rh0 rfl).trans ((fm_R g60 rh0 rfl).trans ((fm_R g49 rh0 rfl).trans ((fm_R g38 rh0 rfl).trans ((fm_R g24 rh0 rfl).trans m16)))))))
  have m99 : oR (f94 u1) 1 = U1 := ((fm_R g95 ru1 rfl).trans ((fm_R g83 ru1 rfl).trans ((fm_R g71 ru1 rfl).trans ((fm_R g60 ru1 rfl).trans ((fm_R g49 ru1 rfl).trans ((fm_R g38 ru1 rfl).trans ((fm_R g24 ru1 rfl).trans m19)))))))
  have z100 : WT kp L [h0, H0, H1, H5] f0 f94 := wt_fm z90 g95 rfl
  have hF := FM.tr hF g95 rfl
  refine lv_aload_n hx hb dX0_copyFrom_82 rfl (lv_at hl 0 rfl) ?_
  refine lv_iconst (v := 0) hx hb dX0_copyFrom_83 (by decide) ?_
  have hW0 := hW.2.2.2
  refine fp_RX0_97 E hW rh0 (by decide) dX0_copyFrom_84 (fun f101 H locs e102 n103 g104 hW => ?_)
  have m105 : oR (f101 h0) 2 = a29 := ((fm_R g104 rh0 rfl).trans ((fm_R g95 rh0 rfl).trans ((fm_R g83 rh0 rfl).trans ((fm_R g71 rh0 rfl).trans ((fm_R g60 rh0 rfl).trans ((fm_R g49 rh0 rfl).trans ((fm_R g38 rh0 rfl).trans m30)))))))
  have m106 : oR (f101 u1) 2 = a32 := ((fm_R g104 ru1 rfl).trans ((fm_R g95 ru1 rfl).trans ((fm_R g83 ru1 rfl).trans ((fm_R g71 ru1 rfl).trans ((fm_R g60 ru1 rfl).trans ((fm_R g49 ru1 rfl).trans ((fm_R g38 ru1 rfl).trans m33)))))))
  have z107 : WT kp L [h0, H0, H1, H5] f0 f101 := wt_fm z100 g104 rfl
  have hF := FM.tr hF g104 rfl
  refine lv_aload_n hx hb dX0_copyFrom_87 rfl (lv_at hl 0 rfl) ?_
  refine lv_iconst (v := 0) hx hb dX0_copyFrom_88 (by decide) ?_
  have hW0 := hW.2.2.2
  refine fp_RX0_100 E hW rh0 dX0_copyFrom_89 (fun f108 H locs e109 n110 g111 hW => ?_)
  have m112 : oR (f108 h0) 3 = a40 := ((fm_R g111 rh0 rfl).trans ((fm_R g104 rh0 rfl).trans ((fm_R g95 rh0 rfl).trans ((fm_R g83 rh0 rfl).trans ((fm_R g71 rh0 rfl).trans ((fm_R g60 rh0 rfl).trans ((fm_R g49 rh0 rfl).trans m41)))))))
  have m113 : oR (f108 u1) 3 = a43 := ((fm_R g111 ru1 rfl).trans ((fm_R g104 ru1 rfl).trans ((fm_R g95 ru1 rfl).trans ((fm_R g83 ru1 rfl).trans ((fm_R g71 ru1 rfl).trans ((fm_R g60 ru1 rfl).trans ((fm_R g49 ru1 rfl).trans m44)))))))
  have z114 : WT kp L [h0, H0, H1, H5] f0 f108 := wt_fm z107 g111 rfl
  have hF := FM.tr hF g111 rfl
  refine lv_aload_n hx hb dX0_copyFrom_92 rfl (lv_at hl 0 rfl) ?_
  refine lv_lconst (v := 0) hx hb dX0_copyFrom_93 (by decide) ?_
  have hW0 := hW.2.2.2
  refine fp_RX0_103 E hW rh0 dX0_copyFrom_94 (fun f115 H locs e116 n117 g118 hW => ?_)
  have m119 : oR (f115 h0) 4 = a51 := ((fm_R g118 rh0 rfl).trans ((fm_R g111 rh0 rfl).trans ((fm_R g104 rh0 rfl).trans ((fm_R g95 rh0 rfl).trans ((fm_R g83 rh0 rfl).trans ((fm_R g71 rh0 rfl).trans ((fm_R g60 rh0 rfl).trans m52)))))))
  have m120 : oR (f115 u1) 4 = a54 := ((fm_R g118 ru1 rfl).trans ((fm_R g111 ru1 rfl).trans ((fm_R g104 ru1 rfl).trans ((fm_R g95 ru1 rfl).trans ((fm_R g83 ru1 rfl).trans ((fm_R g71 ru1 rfl).trans ((fm_R g60 ru1 rfl).trans m55)))))))
  have z121 : WT kp L [h0, H0, H1, H5] f0 f115 := wt_fm z114 g118 rfl
  have hF := FM.tr hF g118 rfl
  exact e_V E hW rfl ⟨rfl, hF, (by rw [mH0, mU0]; exact (((fm_I g118 rH0 rfl).trans ((fm_I g111 rH0 rfl).trans ((fm_I g104 rH0 rfl).trans ((fm_I g95 rH0 rfl).trans m86))))).trans (mUv0_0).symm), (by rw [mH1, mU1]; exact (((fm_I g118 rH1 rfl).trans ((fm_I g111 rH1 rfl).trans ((fm_I g104 rH1 rfl).trans ((fm_I g95 rH1 rfl).trans m87))))).trans (mUv1_8).symm), (by rw [mH5, mU5]; exact (((fm_I g118 rH5 rfl).trans ((fm_I g111 rH5 rfl).trans ((fm_I g104 rH5 rfl).trans ((fm_I g95 rH5 rfl).trans m88))))).trans (mUv5_1).symm), (by rw [mH5, mU5]; exact (((fm_I g118 rH5 rfl).trans ((fm_I g111 rH5 rfl).trans ((fm_I g104 rH5 rfl).trans ((fm_I g95 rH5 rfl).trans m89))))).trans (mUv5_3).symm), ((((fm_I g118 rh0 rfl).trans ((fm_I g111 rh0 rfl).trans ((fm_I g104 rh0 rfl).trans ((fm_I g95 rh0 rfl).trans e81))))).trans (mUv6).symm), (by rw [mH0, mH1, mH5]; exact z121)⟩ dX0_copyFrom_97
def ms_X0_passWeek_w : List (Nat × Nat) := [(0, 6), (0, 12), (0, 13), (0, 14), (3, 0), (10, 0), (115, 0), (164, 0), (165, 0), (166, 0), (167, 0), (169, 0), (171, 0), (222, 0), (223, 0), (342, 0), (345, 0), (346, 0), (347, 0), (348, 0), (349, 0), (701, 0), (702, 0), (703, 0), (704, 0), (705, 0), (706, 0)]
def po_X0_passWeek_w (kp : Nat → Nat) (L : List Nat) (f0 : Nat → va_E) (h0 : Nat) : Option Value → (Nat → va_E) → Prop := fun v f => v = none ∧ FM kp L ms_X0_passWeek_w f0 f ∧ (((oI (f0 h0) 6).toInt < 399 ∧ (oI (f h0) 6).toInt = (oI (f0 h0) 6).toInt + 1) ∨ (399 ≤ (oI (f0 h0) 6).toInt ∧ (oI (f h0) 6).toInt = (oI (f0 h0) 6).toInt)) ∧ (WT kp L [h0] f0 f)
set_option maxHeartbeats 4000000 in
set_option maxRecDepth 100000 in
theorem c_X0_passWeek_w (l : Launch) (G : va_G) (cI cJ cZ cD cR cT : ClassId) (kp : Nat → Nat) (L : List Nat) (f0 : Nat → va_E) (hTH : TH cI cJ cZ cD cR cT kp L f0) (sz : Nat) (h0 : Nat) (rh0 : RK kp L h0 0) : Met l yX0_passWeek (Cond.code yX0_passWeek cX0_passWeek 2 none :: wTab) ({ frames := 6, cells := 0, slots := 0, locals := 170 }) (va_Pc [.ref h0] (PreW G (tys6 cI cJ cZ cD cR cT) (va_pl L f0) sz)) (QT (po_X0_passWeek_w kp L f0 h0) G cI cJ cZ cD cR cT (va_A (va_pl L f0) sz) kp L) 0 0 (va_A (va_pl L f0) sz) := by
  refine metT (by decide) (Nat.le_of_ble_eq_true rfl) hTH ?_
  intro p e s m below meth c A ls E hW hl
  obtain ⟨hx, hb, -, hml, hown, hts, -, -, -⟩ := id E
  have hF : FM kp L ms_X0_passWeek_w f0 f0 := FM.rf
  have hl : lv_has ls 2 [(0, .ref h0)] := hl
  obtain ⟨vn, mvn⟩ : ∃ x : Int32, oI (f0 h0) 6 = x := ⟨_, rfl⟩
  have bvn : (0 : Int) ≤ vn.toInt ∧ vn.toInt ≤ 399 := by rw [← mvn]; exact th_ivT hTH rh0 (by decide) (by decide) rfl
  refine lv_aload_n hx hb dX0_passWeek_0 rfl (lv_at hl 0 rfl) ?_
  refine fg_RX0_93 E hW rh0 dX0_passWeek_1 (fun y1 m2 b3 => ?_)
  obtain rfl : vn = y1 := (mvn).symm.trans m2
  refine lv_sipush (v := 399) hx hb dX0_passWeek_4 (by decide) ?_
  refine q_icmp_lt (Y := 399) (tgt := 11) hx hb dX0_passWeek_7 (by decide) rfl rfl (fun c4 => ?_) (fun c4 => ?_)
  · refine lv_aload_n hx hb dX0_passWeek_11 rfl (lv_at hl 0 rfl) ?_
    have hW0 := hW.2.2.2
    refine t_callV (As := []) (rest := []) E hW (c_X0_lookAtNow l G cI cJ cZ cD cR cT kp L f0 hW.2.2.2 _ h0 rh0) rh0 (by decide) rfl wk_X0_lookAtNow tw_1118 rfl ⟨Nat.le_of_ble_eq_true rfl, Nat.le_of_ble_eq_true rfl⟩ ⟨rfl, rfl⟩ hl.1 rfl (Nat.le_of_ble_eq_true rfl) dX0_passWeek_12 ⟨Nat.le_of_ble_eq_true rfl, Nat.le_of_ble_eq_true rfl⟩ (fun v5 f6 H locs q7 hW => ?_)
    obtain ⟨rfl, g8⟩ := q7
    have z9 : WT kp L [h0] f0 f6 := wt_fm (wt_rf : WT kp L [h0] f0 f0) g8 rfl
    have hF := FM.tr hF g8 rfl
    refine lv_aload_n hx hb dX0_passWeek_15 rfl (lv_at hl 0 rfl) ?_
    have hW0 := hW.2.2.2
    refine t_callV (As := []) (rest := []) E hW (c_X0_reap l G cI cJ cZ cD cR cT kp L f6 hW.2.2.2 _ h0 rh0) rh0 (by decide) rfl wk_X0_reap tw_1119 rfl ⟨Nat.le_of_ble_eq_true rfl, Nat.le_of_ble_eq_true rfl⟩ ⟨rfl, rfl⟩ hl.1 rfl (Nat.le_of_ble_eq_true rfl) dX0_passWeek_16 ⟨Nat.le_of_ble_eq_true rfl, Nat.le_of_ble_eq_true rfl⟩ (fun v10 f11 H locs q12 hW => ?_)
    obtain ⟨rfl, g13⟩ := q12
    have z14 : WT kp L [h0] f0 f11 := wt_fm z9 g13 rfl
    have hF := FM.tr hF g13 rfl
    refine lv_aload_n hx hb dX0_passWeek_19 rfl (lv_at hl 0 rfl) ?_
    refine fg_RX0_93 E hW rh0 dX0_passWeek_20 (fun y15 m16 b17 => ?_)
    obtain rfl : vn = y15 := (((fm_I g13 rh0 rfl).trans ((fm_I g8 rh0 rfl).trans m2))).symm.trans m16
    refine q_if_eq (tgt := 55) hx hb dX0_passWeek_23 (by decide) rfl (fun c18 => ?_) (fun c18 => ?_)
    · refine lv_iconst (v := 0) hx hb dX0_passWeek_55 (by decide) ?_
      refine lv_istore_n (lv' := [(1, .int 0), (0, .ref h0)]) hx hb dX0_passWeek_56 rfl hl (by decide) rfl (fun ls hl => ?_)
      have L799 : ∀ (n : Nat), ∀ (f794 : Nat → va_E) (y796 : Int32) (m795 : oI (f794 h0) 6 = vn) (b797 : (0 : Int) ≤ y796.toInt ∧ y796.toInt ≤ 60) (z798 : WT kp L [h0] f0 f794) (hm : (61 : Int) - y796.toInt ≤ n) (H : Heap) (locs : List Loc) (ls : Array Slot), WS G cI cJ cZ cD cR cT A kp L f794 s H locs → FM kp L ms_X0_passWeek_w f0 f794 → lv_has ls 2 [(1, .int y796), (0, .ref h0)] → W p l e ({ frames := 6, cells := 0, slots := 0, locals := 170 }) s m ([.ref h0] : List Value).toArray below meth c H locs 0 0 (MQ below (QT (po_X0_passWeek_w kp L f0 h0) G cI cJ cZ cD cR cT A kp L) ([.ref h0] : List Value).toArray s 0 0 A) (F0 m 57 ls []) := by
        intro n
        induction n with
        | zero =>
          intro f794 y796 m795 b797 z798 hm H locs ls hW hF hl
          have hz := i32_b y796
          exfalso; omega
        | succ n ih =>
          intro f794 y796 m795 b797 z798 hm H locs ls hW hF hl
          have ih57 := ih
          refine lv_iload_n hx hb dX0_passWeek_57 rfl (lv_at hl 0 rfl) ?_
          refine lv_aload_n hx hb dX0_passWeek_58 rfl (lv_at hl 1 rfl) ?_
          refine fg_RX0_28 E hW rh0 dX0_passWeek_59 (fun a800 m801 r802 => ?_)
          refine fg_RX0_148 E hW r802 dX0_passWeek_62 (fun y803 m804 b805 => ?_)
          refine q_icmp_ge (tgt := 92) hx hb dX0_passWeek_65 (by decide) rfl rfl (fun c806 => ?_) (fun c806 => ?_)
          · refine lv_aload_n hx hb dX0_passWeek_92 rfl (lv_at hl 1 rfl) ?_
            have hW0 := hW.2.2.2
            refine t_callV (As := []) (rest := []) E hW (c_X0_payDraws l G cI cJ cZ cD cR cT kp L f794 hW.2.2.2 _ h0 rh0) rh0 (by decide) rfl wk_X0_payDraws tw_1158 rfl ⟨Nat.le_of_ble_eq_true rfl, Nat.le_of_ble_eq_true rfl⟩ ⟨rfl, rfl⟩ hl.1 rfl (Nat.le_of_ble_eq_true rfl) dX0_passWeek_93 ⟨Nat.le_of_ble_eq_true rfl, Nat.le_of_ble_eq_true rfl⟩ (fun v807 f808 H locs q809 hW => ?_)
            obtain ⟨rfl, g810⟩ := q809
            have z811 : WT kp L [h0] f0 f808 := wt_fm z798 g810 rfl
            have hF := FM.tr hF g810 rfl
            refine lv_aload_n hx hb dX0_passWeek_96 rfl (lv_at hl 1 rfl) ?_
            refine fg_RX0_64 E hW rh0 dX0_passWeek_97 (fun y812 m813 b814 => ?_)
            refine q_if_eq (tgt := 113) hx hb dX0_passWeek_100 (by decide) rfl (fun c815 => ?_) (fun c815 => ?_)
            · refine lv_aload_n hx hb dX0_passWeek_113 rfl (lv_at hl 1 rfl) ?_
              have hW0 := hW.2.2.2
              refine t_callV (As := []) (rest := []) E hW (c_X0_renewBans l G cI cJ cZ cD cR cT kp L f808 hW.2.2.2 _ h0 rh0) rh0 (by decide) rfl wk_X0_renewBans tw_1171 rfl ⟨Nat.le_of_ble_eq_true rfl, Nat.le_of_ble_eq_true rfl⟩ ⟨rfl, rfl⟩ hl.1 rfl (Nat.le_of_ble_eq_true rfl) dX0_passWeek_114 ⟨Nat.le_of_ble_eq_true rfl, Nat.le_of_ble_eq_true rfl⟩ (fun v816 f817 H locs q818 hW => ?_)
              obtain ⟨rfl, g819⟩ := q818
              have z820 : WT kp L [h0] f0 f817 := wt_fm z811 g819 rfl
              have hF := FM.tr hF g819 rfl
              refine lv_aload_n hx hb dX0_passWeek_117 rfl (lv_at hl 1 rfl) ?_
              refine lv_dup hx hb dX0_passWeek_118 rfl ?_
              refine fg_RX0_93 E hW rh0 dX0_passWeek_119 (fun y821 m822 b823 => ?_)
              obtain rfl : vn = y821 := (((fm_I g819 rh0 rfl).trans ((fm_I g810 rh0 rfl).trans m795))).symm.trans m822
              refine lv_iconst (v := 1) hx hb dX0_passWeek_122 (by decide) ?_
              refine q_iadd (Y := 1) hx hb dX0_passWeek_123 rfl rfl (by omega) (fun x824 h825 => ?_)
              have hW0 := hW.2.2.2
              refine fp_RX0_93 E hW rh0 (by omega) dX0_passWeek_124 (fun f826 H locs e827 n828 g829 hW => ?_)
              have z830 : WT kp L [h0] f0 f826 := wt_put z820 n828 (by simp)
              have hF := FM.tr hF g829 rfl
              exact e_V E hW rfl ⟨rfl, hF, (by rw [e827, mvn]; omega), z830⟩ dX0_passWeek_127
            · refine lv_aload_n hx hb dX0_passWeek_103 rfl (lv_at hl 1 rfl) ?_
              refine fg_RX0_42 E hW rh0 dX0_passWeek_104 (fun a831 m832 r833 => ?_)
              have hW0 := hW.2.2.2
              refine t_callV (As := []) (rest := []) E hW (c_X2_asksBanned l G cI cJ cZ cD cR cT kp L f808 hW.2.2.2 _ a831 r833) r833 (by decide) rfl wk_X2_asksBanned tw_1167 rfl ⟨Nat.le_of_ble_eq_true rfl, Nat.le_of_ble_eq_true rfl⟩ ⟨rfl, rfl⟩ hl.1 rfl (Nat.le_of_ble_eq_true rfl) dX0_passWeek_107 ⟨Nat.le_of_ble_eq_true rfl, Nat.le_of_ble_eq_true rfl⟩ (fun v834 f835 H locs q836 hW => ?_)
              obtain ⟨⟨x838, rfl, p839⟩, g837⟩ := q836
              have z840 : WT kp L [h0] f0 f835 := wt_fm z811 g837 rfl
              have hF := FM.tr hF g837 rfl
              refine q_if_eq (tgt := 117) hx hb dX0_passWeek_110 (by decide) rfl (fun c841 => ?_) (fun c841 => ?_)
              · refine lv_aload_n hx hb dX0_passWeek_117 rfl (lv_at hl 1 rfl) ?_
                refine lv_dup hx hb dX0_passWeek_118 rfl ?_
                refine fg_RX0_93 E hW rh0 dX0_passWeek_119 (fun y842 m843 b844 => ?_)
                obtain rfl : vn = y842 := (((fm_I g837 rh0 rfl).trans ((fm_I g810 rh0 rfl).trans m795))).symm.trans m843
                refine lv_iconst (v := 1) hx hb dX0_passWeek_122 (by decide) ?_
                refine q_iadd (Y := 1) hx hb dX0_passWeek_123 rfl rfl (by omega) (fun x845 h846 => ?_)
                have hW0 := hW.2.2.2
                refine fp_RX0_93 E hW rh0 (by omega) dX0_passWeek_124 (fun f847 H locs e848 n849 g850 hW => ?_)
                have z851 : WT kp L [h0] f0 f847 := wt_put z840 n849 (by simp)
                have hF := FM.tr hF g850 rfl
                exact e_V E hW rfl ⟨rfl, hF, (by rw [e848, mvn]; omega), z851⟩ dX0_passWeek_127
              · refine lv_aload_n hx hb dX0_passWeek_113 rfl (lv_at hl 1 rfl) ?_
                have hW0 := hW.2.2.2
                refine t_callV (As := []) (rest := []) E hW (c_X0_renewBans l G cI cJ cZ cD cR cT kp L f835 hW.2.2.2 _ h0 rh0) rh0 (by decide) rfl wk_X0_renewBans tw_1171 rfl ⟨Nat.le_of_ble_eq_true rfl, Nat.le_of_ble_eq_true rfl⟩ ⟨rfl, rfl⟩ hl.1 rfl (Nat.le_of_ble_eq_true rfl) dX0_passWeek_114 ⟨Nat.le_of_ble_eq_true rfl, Nat.le_of_ble_eq_true rfl⟩ (fun v852 f853 H locs q854 hW => ?_)
                obtain ⟨rfl, g855⟩ := q854
                have z856 : WT kp L [h0] f0 f853 := wt_fm z840 g855 rfl
                have hF := FM.tr hF g855 rfl
                refine lv_aload_n hx hb dX0_passWeek_117 rfl (lv_at hl 1 rfl) ?_
                refine lv_dup hx hb dX0_passWeek_118 rfl ?_
                refine fg_RX0_93 E hW rh0 dX0_passWeek_119 (fun y857 m858 b859 => ?_)
                obtain rfl : vn = y857 := (((fm_I g855 rh0 rfl).trans ((fm_I g837 rh0 rfl).trans ((fm_I g810 rh0 rfl).trans m795)))).symm.trans m858
                refine lv_iconst (v := 1) hx hb dX0_passWeek_122 (by decide) ?_
                refine q_iadd (Y := 1) hx hb dX0_passWeek_123 rfl rfl (by omega) (fun x860 h861 => ?_)
                have hW0 := hW.2.2.2
                refine fp_RX0_93 E hW rh0 (by omega) dX0_passWeek_124 (fun f862 H locs e863 n864 g865 hW => ?_)
                have z866 : WT kp L [h0] f0 f862 := wt_put z856 n864 (by simp)
                have hF := FM.tr hF g865 rfl
                exact e_V E hW rfl ⟨rfl, hF, (by rw [e863, mvn]; omega), z866⟩ dX0_passWeek_127
          · refine lv_aload_n hx hb dX0_passWeek_68 rfl (lv_at hl 1 rfl) ?_
            refine fg_RX0_28 E hW rh0 dX0_passWeek_69 (fun a867 m868 r869 => ?_)
            obtain rfl : a800 = a867 := (m801).symm.trans m868
            refine fg_RX0_151 E hW r802 dX0_passWeek_72 (fun a870 m871 r872 => ?_)
            refine lv_iload_n hx hb dX0_passWeek_75 rfl (lv_at hl 0 rfl) ?_
            refine gl_706 E hW r872 ⟨by omega, by omega⟩ dX0_passWeek_76 (fun y873 m874 => ?_)
            refine lv_iconst (v := 1) hx hb dX0_passWeek_77 (by decide) ?_
            refine q_icmp_ne (Y := 1) (tgt := 86) hx hb dX0_passWeek_78 (by decide) rfl rfl (fun c876 => ?_) (fun c876 => ?_)
            · refine q_iinc hx hb dX0_passWeek_86 hl (k := 0) rfl rfl rfl (by omega) (by decide) (fun i877 ls h878 hl => ?_)
              have hl : lv_has ls 2 [(1, .int i877), (0, .ref h0)] := hl
              refine lv_goto (tgt := 57) hx hb dX0_passWeek_89 (by decide) ?_
              exact ih57 f794 i877 m795 (by omega) z798 (by omega) _ _ _ hW hF (lv_sub hl [0, 1] rfl)
            · refine lv_aload_n hx hb dX0_passWeek_81 rfl (lv_at hl 1 rfl) ?_
              refine lv_iload_n hx hb dX0_passWeek_82 rfl (lv_at hl 0 rfl) ?_
              have hW0 := hW.2.2.2
              refine t_callV (As := [.int y796]) (rest := []) E hW (c_X0_advanceWrit l G cI cJ cZ cD cR cT kp L f794 hW.2.2.2 _ h0 y796 rh0 (by omega)) rh0 (by decide) rfl wk_X0_advanceWrit tw_1146 rfl ⟨Nat.le_of_ble_eq_true rfl, Nat.le_of_ble_eq_true rfl⟩ ⟨rfl, rfl⟩ hl.1 rfl (Nat.le_of_ble_eq_true rfl) dX0_passWeek_83 ⟨Nat.le_of_ble_eq_true rfl, Nat.le_of_ble_eq_true rfl⟩ (fun v879 f880 H locs q881 hW => ?_)
              obtain ⟨rfl, g882⟩ := q881
              have z883 : WT kp L [h0] f0 f880 := wt_fm z798 g882 rfl
              have hF := FM.tr hF g882 rfl
              refine q_iinc hx hb dX0_passWeek_86 hl (k := 0) rfl rfl rfl (by omega) (by decide) (fun i884 ls h885 hl => ?_)
              have hl : lv_has ls 2 [(1, .int i884), (0, .ref h0)] := hl
              refine lv_goto (tgt := 57) hx hb dX0_passWeek_89 (by decide) ?_
              exact ih57 f880 i884 ((fm_I g882 rh0 rfl).trans m795) (by omega) z883 (by omega) _ _ _ hW hF (lv_sub hl [0, 1] rfl)
      have hk886 : (0 : Int32).toInt = 0 := rfl
      exact L799 61 f11 0 m16 (by decide) z14 (by omega) _ _ _ hW hF (lv_sub hl [0, 1] rfl)
    · refine lv_aload_n hx hb dX0_passWeek_26 rfl (lv_at hl 0 rfl) ?_
      refine fg_RX0_93 E hW rh0 dX0_passWeek_27 (fun y887 m888 b889 => ?_)
      obtain rfl : vn = y887 := (m16).symm.trans m888
      refine lv_bipush (v := 13) hx hb dX0_passWeek_30 (by decide) ?_
      refine q_irem (Y := 13) hx hb dX0_passWeek_32 rfl rfl (by omega) (by omega) (fun x890 h891 => ?_)
      refine q_if_ne (tgt := 55) hx hb dX0_passWeek_33 (by decide) rfl (fun c892 => ?_) (fun c892 => ?_)
      · refine lv_iconst (v := 0) hx hb dX0_passWeek_55 (by decide) ?_
        refine lv_istore_n (lv' := [(1, .int 0), (0, .ref h0)]) hx hb dX0_passWeek_56 rfl hl (by decide) rfl (fun ls hl => ?_)
        have L1673 : ∀ (n : Nat), ∀ (f1668 : Nat → va_E) (y1670 : Int32) (m1669 : oI (f1668 h0) 6 = vn) (b1671 : (0 : Int) ≤ y1670.toInt ∧ y1670.toInt ≤ 60) (z1672 : WT kp L [h0] f0 f1668) (hm : (61 : Int) - y1670.toInt ≤ n) (H : Heap) (locs : List Loc) (ls : Array Slot), WS G cI cJ cZ cD cR cT A kp L f1668 s H locs → FM kp L ms_X0_passWeek_w f0 f1668 → lv_has ls 2 [(1, .int y1670), (0, .ref h0)] → W p l e ({ frames := 6, cells := 0, slots := 0, locals := 170 }) s m ([.ref h0] : List Value).toArray below meth c H locs 0 0 (MQ below (QT (po_X0_passWeek_w kp L f0 h0) G cI cJ cZ cD cR cT A kp L) ([.ref h0] : List Value).toArray s 0 0 A) (F0 m 57 ls []) := by
          intro n
          induction n with
          | zero =>
            intro f1668 y1670 m1669 b1671 z1672 hm H locs ls hW hF hl
            have hz := i32_b y1670
            exfalso; omega
          | succ n ih =>
            intro f1668 y1670 m1669 b1671 z1672 hm H locs ls hW hF hl
            have ih57 := ih
            refine lv_iload_n hx hb dX0_passWeek_57 rfl (lv_at hl 0 rfl) ?_
            refine lv_aload_n hx hb dX0_passWeek_58 rfl (lv_at hl 1 rfl) ?_
            refine fg_RX0_28 E hW rh0 dX0_passWeek_59 (fun a1674 m1675 r1676 => ?_)
            refine fg_RX0_148 E hW r1676 dX0_passWeek_62 (fun y1677 m1678 b1679 => ?_)
            refine q_icmp_ge (tgt := 92) hx hb dX0_passWeek_65 (by decide) rfl rfl (fun c1680 => ?_) (fun c1680 => ?_)
            · refine lv_aload_n hx hb dX0_passWeek_92 rfl (lv_at hl 1 rfl) ?_
              have hW0 := hW.2.2.2
              refine t_callV (As := []) (rest := []) E hW (c_X0_payDraws l G cI cJ cZ cD cR cT kp L f1668 hW.2.2.2 _ h0 rh0) rh0 (by decide) rfl wk_X0_payDraws tw_1158 rfl ⟨Nat.le_of_ble_eq_true rfl, Nat.le_of_ble_eq_true rfl⟩ ⟨rfl, rfl⟩ hl.1 rfl (Nat.le_of_ble_eq_true rfl) dX0_passWeek_93 ⟨Nat.le_of_ble_eq_true rfl, Nat.le_of_ble_eq_true rfl⟩ (fun v1681 f1682 H locs q1683 hW => ?_)
              obtain ⟨rfl, g1684⟩ := q1683
              have z1685 : WT kp L [h0] f0 f1682 := wt_fm z1672 g1684 rfl
              have hF := FM.tr hF g1684 rfl
              refine lv_aload_n hx hb dX0_passWeek_96 rfl (lv_at hl 1 rfl) ?_
              refine fg_RX0_64 E hW rh0 dX0_passWeek_97 (fun y1686 m1687 b1688 => ?_)
              refine q_if_eq (tgt := 113) hx hb dX0_passWeek_100 (by decide) rfl (fun c1689 => ?_) (fun c1689 => ?_)
              · refine lv_aload_n hx hb dX0_passWeek_113 rfl (lv_at hl 1 rfl) ?_
                have hW0 := hW.2.2.2
                refine t_callV (As := []) (rest := []) E hW (c_X0_renewBans l G cI cJ cZ cD cR cT kp L f1682 hW.2.2.2 _ h0 rh0) rh0 (by decide) rfl wk_X0_renewBans tw_1171 rfl ⟨Nat.le_of_ble_eq_true rfl, Nat.le_of_ble_eq_true rfl⟩ ⟨rfl, rfl⟩ hl.1 rfl (Nat.le_of_ble_eq_true rfl) dX0_passWeek_114 ⟨Nat.le_of_ble_eq_true rfl, Nat.le_of_ble_eq_true rfl⟩ (fun v1690 f1691 H locs q1692 hW => ?_)
                obtain ⟨rfl, g1693⟩ := q1692
                have z1694 : WT kp L [h0] f0 f1691 := wt_fm z1685 g1693 rfl
                have hF := FM.tr hF g1693 rfl
                refine lv_aload_n hx hb dX0_passWeek_117 rfl (lv_at hl 1 rfl) ?_
                refine lv_dup hx hb dX0_passWeek_118 rfl ?_
                refine fg_RX0_93 E hW rh0 dX0_passWeek_119 (fun y1695 m1696 b1697 => ?_)
                obtain rfl : vn = y1695 := (((fm_I g1693 rh0 rfl).trans ((fm_I g1684 rh0 rfl).trans m1669))).symm.trans m1696
                refine lv_iconst (v := 1) hx hb dX0_passWeek_122 (by decide) ?_
                refine q_iadd (Y := 1) hx hb dX0_passWeek_123 rfl rfl (by omega) (fun x1698 h1699 => ?_)
                have hW0 := hW.2.2.2
                refine fp_RX0_93 E hW rh0 (by omega) dX0_passWeek_124 (fun f1700 H locs e1701 n1702 g1703 hW => ?_)
                have z1704 : WT kp L [h0] f0 f1700 := wt_put z1694 n1702 (by simp)
                have hF := FM.tr hF g1703 rfl
                exact e_V E hW rfl ⟨rfl, hF, (by rw [e1701, mvn]; omega), z1704⟩ dX0_passWeek_127
              · refine lv_aload_n hx hb dX0_passWeek_103 rfl (lv_at hl 1 rfl) ?_
                refine fg_RX0_42 E hW rh0 dX0_passWeek_104 (fun a1705 m1706 r1707 => ?_)
                have hW0 := hW.2.2.2
                refine t_callV (As := []) (rest := []) E hW (c_X2_asksBanned l G cI cJ cZ cD cR cT kp L f1682 hW.2.2.2 _ a1705 r1707) r1707 (by decide) rfl wk_X2_asksBanned tw_1167 rfl ⟨Nat.le_of_ble_eq_true rfl, Nat.le_of_ble_eq_true rfl⟩ ⟨rfl, rfl⟩ hl.1 rfl (Nat.le_of_ble_eq_true rfl) dX0_passWeek_107 ⟨Nat.le_of_ble_eq_true rfl, Nat.le_of_ble_eq_true rfl⟩ (fun v1708 f1709 H locs q1710 hW => ?_)
                obtain ⟨⟨x1712, rfl, p1713⟩, g1711⟩ := q1710
                have z1714 : WT kp L [h0] f0 f1709 := wt_fm z1685 g1711 rfl
                have hF := FM.tr hF g1711 rfl
                refine q_if_eq (tgt := 117) hx hb dX0_passWeek_110 (by decide) rfl (fun c1715 => ?_) (fun c1715 => ?_)
                · refine lv_aload_n hx hb dX0_passWeek_117 rfl (lv_at hl 1 rfl) ?_
                  refine lv_dup hx hb dX0_passWeek_118 rfl ?_
                  refine fg_RX0_93 E hW rh0 dX0_passWeek_119 (fun y1716 m1717 b1718 => ?_)
                  obtain rfl : vn = y1716 := (((fm_I g1711 rh0 rfl).trans ((fm_I g1684 rh0 rfl).trans m1669))).symm.trans m1717
                  refine lv_iconst (v := 1) hx hb dX0_passWeek_122 (by decide) ?_
                  refine q_iadd (Y := 1) hx hb dX0_passWeek_123 rfl rfl (by omega) (fun x1719 h1720 => ?_)
                  have hW0 := hW.2.2.2
                  refine fp_RX0_93 E hW rh0 (by omega) dX0_passWeek_124 (fun f1721 H locs e1722 n1723 g1724 hW => ?_)
                  have z1725 : WT kp L [h0] f0 f1721 := wt_put z1714 n1723 (by simp)
                  have hF := FM.tr hF g1724 rfl
                  exact e_V E hW rfl ⟨rfl, hF, (by rw [e1722, mvn]; omega), z1725⟩ dX0_passWeek_127
                · refine lv_aload_n hx hb dX0_passWeek_113 rfl (lv_at hl 1 rfl) ?_
                  have hW0 := hW.2.2.2
                  refine t_callV (As := []) (rest := []) E hW (c_X0_renewBans l G cI cJ cZ cD cR cT kp L f1709 hW.2.2.2 _ h0 rh0) rh0 (by decide) rfl wk_X0_renewBans tw_1171 rfl ⟨Nat.le_of_ble_eq_true rfl, Nat.le_of_ble_eq_true rfl⟩ ⟨rfl, rfl⟩ hl.1 rfl (Nat.le_of_ble_eq_true rfl) dX0_passWeek_114 ⟨Nat.le_of_ble_eq_true rfl, Nat.le_of_ble_eq_true rfl⟩ (fun v1726 f1727 H locs q1728 hW => ?_)
                  obtain ⟨rfl, g1729⟩ := q1728
                  have z1730 : WT kp L [h0] f0 f1727 := wt_fm z1714 g1729 rfl
                  have hF := FM.tr hF g1729 rfl
                  refine lv_aload_n hx hb dX0_passWeek_117 rfl (lv_at hl 1 rfl) ?_
                  refine lv_dup hx hb dX0_passWeek_118 rfl ?_
                  refine fg_RX0_93 E hW rh0 dX0_passWeek_119 (fun y1731 m1732 b1733 => ?_)
                  obtain rfl : vn = y1731 := (((fm_I g1729 rh0 rfl).trans ((fm_I g1711 rh0 rfl).trans ((fm_I g1684 rh0 rfl).trans m1669)))).symm.trans m1732
                  refine lv_iconst (v := 1) hx hb dX0_passWeek_122 (by decide) ?_
                  refine q_iadd (Y := 1) hx hb dX0_passWeek_123 rfl rfl (by omega) (fun x1734 h1735 => ?_)
                  have hW0 := hW.2.2.2
                  refine fp_RX0_93 E hW rh0 (by omega) dX0_passWeek_124 (fun f1736 H locs e1737 n1738 g1739 hW => ?_)
                  have z1740 : WT kp L [h0] f0 f1736 := wt_put z1730 n1738 (by simp)
                  have hF := FM.tr hF g1739 rfl
                  exact e_V E hW rfl ⟨rfl, hF, (by rw [e1737, mvn]; omega), z1740⟩ dX0_passWeek_127
            · refine lv_aload_n hx hb dX0_passWeek_68 rfl (lv_at hl 1 rfl) ?_
              refine fg_RX0_28 E hW rh0 dX0_passWeek_69 (fun a1741 m1742 r1743 => ?_)
              obtain rfl : a1674 = a1741 := (m1675).symm.trans m1742
              refine fg_RX0_151 E hW r1676 dX0_passWeek_72 (fun a1744 m1745 r1746 => ?_)
              refine lv_iload_n hx hb dX0_passWeek_75 rfl (lv_at hl 0 rfl) ?_
              refine gl_706 E hW r1746 ⟨by omega, by omega⟩ dX0_passWeek_76 (fun y1747 m1748 => ?_)
              refine lv_iconst (v := 1) hx hb dX0_passWeek_77 (by decide) ?_
              refine q_icmp_ne (Y := 1) (tgt := 86) hx hb dX0_passWeek_78 (by decide) rfl rfl (fun c1750 => ?_) (fun c1750 => ?_)
              · refine q_iinc hx hb dX0_passWeek_86 hl (k := 0) rfl rfl rfl (by omega) (by decide) (fun i1751 ls h1752 hl => ?_)
                have hl : lv_has ls 2 [(1, .int i1751), (0, .ref h0)] := hl
                refine lv_goto (tgt := 57) hx hb dX0_passWeek_89 (by decide) ?_
                exact ih57 f1668 i1751 m1669 (by omega) z1672 (by omega) _ _ _ hW hF (lv_sub hl [0, 1] rfl)
              · refine lv_aload_n hx hb dX0_passWeek_81 rfl (lv_at hl 1 rfl) ?_
                refine lv_iload_n hx hb dX0_passWeek_82 rfl (lv_at hl 0 rfl) ?_
                have hW0 := hW.2.2.2
                refine t_callV (As := [.int y1670]) (rest := []) E hW (c_X0_advanceWrit l G cI cJ cZ cD cR cT kp L f1668 hW.2.2.2 _ h0 y1670 rh0 (by omega)) rh0 (by decide) rfl wk_X0_advanceWrit tw_1146 rfl ⟨Nat.le_of_ble_eq_true rfl, Nat.le_of_ble_eq_true rfl⟩ ⟨rfl, rfl⟩ hl.1 rfl (Nat.le_of_ble_eq_true rfl) dX0_passWeek_83 ⟨Nat.le_of_ble_eq_true rfl, Nat.le_of_ble_eq_true rfl⟩ (fun v1753 f1754 H locs q1755 hW => ?_)
                obtain ⟨rfl, g1756⟩ := q1755
                have z1757 : WT kp L [h0] f0 f1754 := wt_fm z1672 g1756 rfl
                have hF := FM.tr hF g1756 rfl
                refine q_iinc hx hb dX0_passWeek_86 hl (k := 0) rfl rfl rfl (by omega) (by decide) (fun i1758 ls h1759 hl => ?_)
                have hl : lv_has ls 2 [(1, .int i1758), (0, .ref h0)] := hl
                refine lv_goto (tgt := 57) hx hb dX0_passWeek_89 (by decide) ?_
                exact ih57 f1754 i1758 ((fm_I g1756 rh0 rfl).trans m1669) (by omega) z1757 (by omega) _ _ _ hW hF (lv_sub hl [0, 1] rfl)
        have hk1760 : (0 : Int32).toInt = 0 := rfl
        exact L1673 61 f11 0 m888 (by decide) z14 (by omega) _ _ _ hW hF (lv_sub hl [0, 1] rfl)
      · refine lv_aload_n hx hb dX0_passWeek_36 rfl (lv_at hl 0 rfl) ?_
        have hW0 := hW.2.2.2
        refine t_callV (As := []) (rest := []) E hW (c_X0_collectRents l G cI cJ cZ cD cR cT kp L f11 hW.2.2.2 _ h0 rh0) rh0 (by decide) rfl wk_X0_collectRents tw_1124 rfl ⟨Nat.le_of_ble_eq_true rfl, Nat.le_of_ble_eq_true rfl⟩ ⟨rfl, rfl⟩ hl.1 rfl (Nat.le_of_ble_eq_true rfl) dX0_passWeek_37 ⟨Nat.le_of_ble_eq_true rfl, Nat.le_of_ble_eq_true rfl⟩ (fun v1761 f1762 H locs q1763 hW => ?_)
        obtain ⟨rfl, g1764⟩ := q1763
        have z1765 : WT kp L [h0] f0 f1762 := wt_fm z14 g1764 rfl
        have hF := FM.tr hF g1764 rfl
        refine lv_aload_n hx hb dX0_passWeek_40 rfl (lv_at hl 0 rfl) ?_
        have hW0 := hW.2.2.2
        refine t_callV (As := []) (rest := []) E hW (c_X0_payMortgages l G cI cJ cZ cD cR cT kp L f1762 hW.2.2.2 _ h0 rh0) rh0 (by decide) rfl wk_X0_payMortgages tw_1135 rfl ⟨Nat.le_of_ble_eq_true rfl, Nat.le_of_ble_eq_true rfl⟩ ⟨rfl, rfl⟩ hl.1 rfl (Nat.le_of_ble_eq_true rfl) dX0_passWeek_41 ⟨Nat.le_of_ble_eq_true rfl, Nat.le_of_ble_eq_true rfl⟩ (fun v1766 f1767 H locs q1768 hW => ?_)
        obtain ⟨rfl, g1769⟩ := q1768
        have z1770 : WT kp L [h0] f0 f1767 := wt_fm z1765 g1769 rfl
        have hF := FM.tr hF g1769 rfl
        refine lv_aload_n hx hb dX0_passWeek_44 rfl (lv_at hl 0 rfl) ?_
        refine fg_RX0_97 E hW rh0 dX0_passWeek_45 (fun y1771 m1772 b1773 => ?_)
        refine q_if_eq (tgt := 55) hx hb dX0_passWeek_48 (by decide) rfl (fun c1774 => ?_) (fun c1774 => ?_)
        · refine lv_iconst (v := 0) hx hb dX0_passWeek_55 (by decide) ?_
          refine lv_istore_n (lv' := [(1, .int 0), (0, .ref h0)]) hx hb dX0_passWeek_56 rfl hl (by decide) rfl (fun ls hl => ?_)
          have L2581 : ∀ (n : Nat), ∀ (f2575 : Nat → va_E) (y2578 : Int32) (m2576 : oI (f2575 h0) 6 = vn) (m2577 : oI (f2575 h0) 9 = y1771) (b2579 : (0 : Int) ≤ y2578.toInt ∧ y2578.toInt ≤ 60) (z2580 : WT kp L [h0] f0 f2575) (hm : (61 : Int) - y2578.toInt ≤ n) (H : Heap) (locs : List Loc) (ls : Array Slot), WS G cI cJ cZ cD cR cT A kp L f2575 s H locs → FM kp L ms_X0_passWeek_w f0 f2575 → lv_has ls 2 [(1, .int y2578), (0, .ref h0)] → W p l e ({ frames := 6, cells := 0, slots := 0, locals := 170 }) s m ([.ref h0] : List Value).toArray below meth c H locs 0 0 (MQ below (QT (po_X0_passWeek_w kp L f0 h0) G cI cJ cZ cD cR cT A kp L) ([.ref h0] : List Value).toArray s 0 0 A) (F0 m 57 ls []) := by
            intro n
            induction n with
            | zero =>
              intro f2575 y2578 m2576 m2577 b2579 z2580 hm H locs ls hW hF hl
              have hz := i32_b y2578
              exfalso; omega
            | succ n ih =>
              intro f2575 y2578 m2576 m2577 b2579 z2580 hm H locs ls hW hF hl
              have ih57 := ih
              refine lv_iload_n hx hb dX0_passWeek_57 rfl (lv_at hl 0 rfl) ?_
              refine lv_aload_n hx hb dX0_passWeek_58 rfl (lv_at hl 1 rfl) ?_
              refine fg_RX0_28 E hW rh0 dX0_passWeek_59 (fun a2582 m2583 r2584 => ?_)
              refine fg_RX0_148 E hW r2584 dX0_passWeek_62 (fun y2585 m2586 b2587 => ?_)
              refine q_icmp_ge (tgt := 92) hx hb dX0_passWeek_65 (by decide) rfl rfl (fun c2588 => ?_) (fun c2588 => ?_)
              · refine lv_aload_n hx hb dX0_passWeek_92 rfl (lv_at hl 1 rfl) ?_
                have hW0 := hW.2.2.2
                refine t_callV (As := []) (rest := []) E hW (c_X0_payDraws l G cI cJ cZ cD cR cT kp L f2575 hW.2.2.2 _ h0 rh0) rh0 (by decide) rfl wk_X0_payDraws tw_1158 rfl ⟨Nat.le_of_ble_eq_true rfl, Nat.le_of_ble_eq_true rfl⟩ ⟨rfl, rfl⟩ hl.1 rfl (Nat.le_of_ble_eq_true rfl) dX0_passWeek_93 ⟨Nat.le_of_ble_eq_true rfl, Nat.le_of_ble_eq_true rfl⟩ (fun v2589 f2590 H locs q2591 hW => ?_)
                obtain ⟨rfl, g2592⟩ := q2591
                have z2593 : WT kp L [h0] f0 f2590 := wt_fm z2580 g2592 rfl
                have hF := FM.tr hF g2592 rfl
                refine lv_aload_n hx hb dX0_passWeek_96 rfl (lv_at hl 1 rfl) ?_
                refine fg_RX0_64 E hW rh0 dX0_passWeek_97 (fun y2594 m2595 b2596 => ?_)
                refine q_if_eq (tgt := 113) hx hb dX0_passWeek_100 (by decide) rfl (fun c2597 => ?_) (fun c2597 => ?_)
                · refine lv_aload_n hx hb dX0_passWeek_113 rfl (lv_at hl 1 rfl) ?_
                  have hW0 := hW.2.2.2
                  refine t_callV (As := []) (rest := []) E hW (c_X0_renewBans l G cI cJ cZ cD cR cT kp L f2590 hW.2.2.2 _ h0 rh0) rh0 (by decide) rfl wk_X0_renewBans tw_1171 rfl ⟨Nat.le_of_ble_eq_true rfl, Nat.le_of_ble_eq_true rfl⟩ ⟨rfl, rfl⟩ hl.1 rfl (Nat.le_of_ble_eq_true rfl) dX0_passWeek_114 ⟨Nat.le_of_ble_eq_true rfl, Nat.le_of_ble_eq_true rfl⟩ (fun v2598 f2599 H locs q2600 hW => ?_)
                  obtain ⟨rfl, g2601⟩ := q2600
                  have z2602 : WT kp L [h0] f0 f2599 := wt_fm z2593 g2601 rfl
                  have hF := FM.tr hF g2601 rfl
                  refine lv_aload_n hx hb dX0_passWeek_117 rfl (lv_at hl 1 rfl) ?_
                  refine lv_dup hx hb dX0_passWeek_118 rfl ?_
                  refine fg_RX0_93 E hW rh0 dX0_passWeek_119 (fun y2603 m2604 b2605 => ?_)
                  obtain rfl : vn = y2603 := (((fm_I g2601 rh0 rfl).trans ((fm_I g2592 rh0 rfl).trans m2576))).symm.trans m2604
                  refine lv_iconst (v := 1) hx hb dX0_passWeek_122 (by decide) ?_
                  refine q_iadd (Y := 1) hx hb dX0_passWeek_123 rfl rfl (by omega) (fun x2606 h2607 => ?_)
                  have hW0 := hW.2.2.2
                  refine fp_RX0_93 E hW rh0 (by omega) dX0_passWeek_124 (fun f2608 H locs e2609 n2610 g2611 hW => ?_)
                  have z2612 : WT kp L [h0] f0 f2608 := wt_put z2602 n2610 (by simp)
                  have hF := FM.tr hF g2611 rfl
                  exact e_V E hW rfl ⟨rfl, hF, (by rw [e2609, mvn]; omega), z2612⟩ dX0_passWeek_127
                · refine lv_aload_n hx hb dX0_passWeek_103 rfl (lv_at hl 1 rfl) ?_
                  refine fg_RX0_42 E hW rh0 dX0_passWeek_104 (fun a2613 m2614 r2615 => ?_)
                  have hW0 := hW.2.2.2
                  refine t_callV (As := []) (rest := []) E hW (c_X2_asksBanned l G cI cJ cZ cD cR cT kp L f2590 hW.2.2.2 _ a2613 r2615) r2615 (by decide) rfl wk_X2_asksBanned tw_1167 rfl ⟨Nat.le_of_ble_eq_true rfl, Nat.le_of_ble_eq_true rfl⟩ ⟨rfl, rfl⟩ hl.1 rfl (Nat.le_of_ble_eq_true rfl) dX0_passWeek_107 ⟨Nat.le_of_ble_eq_true rfl, Nat.le_of_ble_eq_true rfl⟩ (fun v2616 f2617 H locs q2618 hW => ?_)
                  obtain ⟨⟨x2620, rfl, p2621⟩, g2619⟩ := q2618
                  have z2622 : WT kp L [h0] f0 f2617 := wt_fm z2593 g2619 rfl
                  have hF := FM.tr hF g2619 rfl
                  refine q_if_eq (tgt := 117) hx hb dX0_passWeek_110 (by decide) rfl (fun c2623 => ?_) (fun c2623 => ?_)
                  · refine lv_aload_n hx hb dX0_passWeek_117 rfl (lv_at hl 1 rfl) ?_
                    refine lv_dup hx hb dX0_passWeek_118 rfl ?_
                    refine fg_RX0_93 E hW rh0 dX0_passWeek_119 (fun y2624 m2625 b2626 => ?_)
                    obtain rfl : vn = y2624 := (((fm_I g2619 rh0 rfl).trans ((fm_I g2592 rh0 rfl).trans m2576))).symm.trans m2625
                    refine lv_iconst (v := 1) hx hb dX0_passWeek_122 (by decide) ?_
                    refine q_iadd (Y := 1) hx hb dX0_passWeek_123 rfl rfl (by omega) (fun x2627 h2628 => ?_)
                    have hW0 := hW.2.2.2
                    refine fp_RX0_93 E hW rh0 (by omega) dX0_passWeek_124 (fun f2629 H locs e2630 n2631 g2632 hW => ?_)
                    have z2633 : WT kp L [h0] f0 f2629 := wt_put z2622 n2631 (by simp)
                    have hF := FM.tr hF g2632 rfl
                    exact e_V E hW rfl ⟨rfl, hF, (by rw [e2630, mvn]; omega), z2633⟩ dX0_passWeek_127
                  · refine lv_aload_n hx hb dX0_passWeek_113 rfl (lv_at hl 1 rfl) ?_
                    have hW0 := hW.2.2.2
                    refine t_callV (As := []) (rest := []) E hW (c_X0_renewBans l G cI cJ cZ cD cR cT kp L f2617 hW.2.2.2 _ h0 rh0) rh0 (by decide) rfl wk_X0_renewBans tw_1171 rfl ⟨Nat.le_of_ble_eq_true rfl, Nat.le_of_ble_eq_true rfl⟩ ⟨rfl, rfl⟩ hl.1 rfl (Nat.le_of_ble_eq_true rfl) dX0_passWeek_114 ⟨Nat.le_of_ble_eq_true rfl, Nat.le_of_ble_eq_true rfl⟩ (fun v2634 f2635 H locs q2636 hW => ?_)
                    obtain ⟨rfl, g2637⟩ := q2636
                    have z2638 : WT kp L [h0] f0 f2635 := wt_fm z2622 g2637 rfl
                    have hF := FM.tr hF g2637 rfl
                    refine lv_aload_n hx hb dX0_passWeek_117 rfl (lv_at hl 1 rfl) ?_
                    refine lv_dup hx hb dX0_passWeek_118 rfl ?_
                    refine fg_RX0_93 E hW rh0 dX0_passWeek_119 (fun y2639 m2640 b2641 => ?_)
                    obtain rfl : vn = y2639 := (((fm_I g2637 rh0 rfl).trans ((fm_I g2619 rh0 rfl).trans ((fm_I g2592 rh0 rfl).trans m2576)))).symm.trans m2640
                    refine lv_iconst (v := 1) hx hb dX0_passWeek_122 (by decide) ?_
                    refine q_iadd (Y := 1) hx hb dX0_passWeek_123 rfl rfl (by omega) (fun x2642 h2643 => ?_)
                    have hW0 := hW.2.2.2
                    refine fp_RX0_93 E hW rh0 (by omega) dX0_passWeek_124 (fun f2644 H locs e2645 n2646 g2647 hW => ?_)
                    have z2648 : WT kp L [h0] f0 f2644 := wt_put z2638 n2646 (by simp)
                    have hF := FM.tr hF g2647 rfl
                    exact e_V E hW rfl ⟨rfl, hF, (by rw [e2645, mvn]; omega), z2648⟩ dX0_passWeek_127
              · refine lv_aload_n hx hb dX0_passWeek_68 rfl (lv_at hl 1 rfl) ?_
                refine fg_RX0_28 E hW rh0 dX0_passWeek_69 (fun a2649 m2650 r2651 => ?_)
                obtain rfl : a2582 = a2649 := (m2583).symm.trans m2650
                refine fg_RX0_151 E hW r2584 dX0_passWeek_72 (fun a2652 m2653 r2654 => ?_)
                refine lv_iload_n hx hb dX0_passWeek_75 rfl (lv_at hl 0 rfl) ?_
                refine gl_706 E hW r2654 ⟨by omega, by omega⟩ dX0_passWeek_76 (fun y2655 m2656 => ?_)
                refine lv_iconst (v := 1) hx hb dX0_passWeek_77 (by decide) ?_
                refine q_icmp_ne (Y := 1) (tgt := 86) hx hb dX0_passWeek_78 (by decide) rfl rfl (fun c2658 => ?_) (fun c2658 => ?_)
                · refine q_iinc hx hb dX0_passWeek_86 hl (k := 0) rfl rfl rfl (by omega) (by decide) (fun i2659 ls h2660 hl => ?_)
                  have hl : lv_has ls 2 [(1, .int i2659), (0, .ref h0)] := hl
                  refine lv_goto (tgt := 57) hx hb dX0_passWeek_89 (by decide) ?_
                  exact ih57 f2575 i2659 m2576 m2577 (by omega) z2580 (by omega) _ _ _ hW hF (lv_sub hl [0, 1] rfl)
                · refine lv_aload_n hx hb dX0_passWeek_81 rfl (lv_at hl 1 rfl) ?_
                  refine lv_iload_n hx hb dX0_passWeek_82 rfl (lv_at hl 0 rfl) ?_
                  have hW0 := hW.2.2.2
                  refine t_callV (As := [.int y2578]) (rest := []) E hW (c_X0_advanceWrit l G cI cJ cZ cD cR cT kp L f2575 hW.2.2.2 _ h0 y2578 rh0 (by omega)) rh0 (by decide) rfl wk_X0_advanceWrit tw_1146 rfl ⟨Nat.le_of_ble_eq_true rfl, Nat.le_of_ble_eq_true rfl⟩ ⟨rfl, rfl⟩ hl.1 rfl (Nat.le_of_ble_eq_true rfl) dX0_passWeek_83 ⟨Nat.le_of_ble_eq_true rfl, Nat.le_of_ble_eq_true rfl⟩ (fun v2661 f2662 H locs q2663 hW => ?_)
                  obtain ⟨rfl, g2664⟩ := q2663
                  have z2665 : WT kp L [h0] f0 f2662 := wt_fm z2580 g2664 rfl
                  have hF := FM.tr hF g2664 rfl
                  refine q_iinc hx hb dX0_passWeek_86 hl (k := 0) rfl rfl rfl (by omega) (by decide) (fun i2666 ls h2667 hl => ?_)
                  have hl : lv_has ls 2 [(1, .int i2666), (0, .ref h0)] := hl
                  refine lv_goto (tgt := 57) hx hb dX0_passWeek_89 (by decide) ?_
                  exact ih57 f2662 i2666 ((fm_I g2664 rh0 rfl).trans m2576) ((fm_I g2664 rh0 rfl).trans m2577) (by omega) z2665 (by omega) _ _ _ hW hF (lv_sub hl [0, 1] rfl)
          have hk2668 : (0 : Int32).toInt = 0 := rfl
          exact L2581 61 f1767 0 ((fm_I g1769 rh0 rfl).trans ((fm_I g1764 rh0 rfl).trans m888)) m1772 (by decide) z1770 (by omega) _ _ _ hW hF (lv_sub hl [0, 1] rfl)
        · refine lv_aload_n hx hb dX0_passWeek_51 rfl (lv_at hl 0 rfl) ?_
          have hW0 := hW.2.2.2
          refine t_callV (As := []) (rest := []) E hW (c_X0_tellWrits l G cI cJ cZ cD cR cT kp L f1767 hW.2.2.2 _ h0 rh0) rh0 (by decide) rfl wk_X0_tellWrits tw_1139 rfl ⟨Nat.le_of_ble_eq_true rfl, Nat.le_of_ble_eq_true rfl⟩ ⟨rfl, rfl⟩ hl.1 rfl (Nat.le_of_ble_eq_true rfl) dX0_passWeek_52 ⟨Nat.le_of_ble_eq_true rfl, Nat.le_of_ble_eq_true rfl⟩ (fun v2669 f2670 H locs q2671 hW => ?_)
          obtain ⟨rfl, g2672⟩ := q2671
          have z2673 : WT kp L [h0] f0 f2670 := wt_fm z1770 g2672 rfl
          have hF := FM.tr hF g2672 rfl
          refine lv_iconst (v := 0) hx hb dX0_passWeek_55 (by decide) ?_
          refine lv_istore_n (lv' := [(1, .int 0), (0, .ref h0)]) hx hb dX0_passWeek_56 rfl hl (by decide) rfl (fun ls hl => ?_)
          have L3480 : ∀ (n : Nat), ∀ (f3474 : Nat → va_E) (y3477 : Int32) (m3475 : oI (f3474 h0) 6 = vn) (m3476 : oI (f3474 h0) 9 = y1771) (b3478 : (0 : Int) ≤ y3477.toInt ∧ y3477.toInt ≤ 60) (z3479 : WT kp L [h0] f0 f3474) (hm : (61 : Int) - y3477.toInt ≤ n) (H : Heap) (locs : List Loc) (ls : Array Slot), WS G cI cJ cZ cD cR cT A kp L f3474 s H locs → FM kp L ms_X0_passWeek_w f0 f3474 → lv_has ls 2 [(1, .int y3477), (0, .ref h0)] → W p l e ({ frames := 6, cells := 0, slots := 0, locals := 170 }) s m ([.ref h0] : List Value).toArray below meth c H locs 0 0 (MQ below (QT (po_X0_passWeek_w kp L f0 h0) G cI cJ cZ cD cR cT A kp L) ([.ref h0] : List Value).toArray s 0 0 A) (F0 m 57 ls []) := by
            intro n
            induction n with
            | zero =>
              intro f3474 y3477 m3475 m3476 b3478 z3479 hm H locs ls hW hF hl
              have hz := i32_b y3477
              exfalso; omega
            | succ n ih =>
              intro f3474 y3477 m3475 m3476 b3478 z3479 hm H locs ls hW hF hl
              have ih57 := ih
              refine lv_iload_n hx hb dX0_passWeek_57 rfl (lv_at hl 0 rfl) ?_
              refine lv_aload_n hx hb dX0_passWeek_58 rfl (lv_at hl 1 rfl) ?_
              refine fg_RX0_28 E hW rh0 dX0_passWeek_59 (fun a3481 m3482 r3483 => ?_)
              refine fg_RX0_148 E hW r3483 dX0_passWeek_62 (fun y3484 m3485 b3486 => ?_)
              refine q_icmp_ge (tgt := 92) hx hb dX0_passWeek_65 (by decide) rfl rfl (fun c3487 => ?_) (fun c3487 => ?_)
              · refine lv_aload_n hx hb dX0_passWeek_92 rfl (lv_at hl 1 rfl) ?_
                have hW0 := hW.2.2.2
                refine t_callV (As := []) (rest := []) E hW (c_X0_payDraws l G cI cJ cZ cD cR cT kp L f3474 hW.2.2.2 _ h0 rh0) rh0 (by decide) rfl wk_X0_payDraws tw_1158 rfl ⟨Nat.le_of_ble_eq_true rfl, Nat.le_of_ble_eq_true rfl⟩ ⟨rfl, rfl⟩ hl.1 rfl (Nat.le_of_ble_eq_true rfl) dX0_passWeek_93 ⟨Nat.le_of_ble_eq_true rfl, Nat.le_of_ble_eq_true rfl⟩ (fun v3488 f3489 H locs q3490 hW => ?_)
                obtain ⟨rfl, g3491⟩ := q3490
                have z3492 : WT kp L [h0] f0 f3489 := wt_fm z3479 g3491 rfl
                have hF := FM.tr hF g3491 rfl
                refine lv_aload_n hx hb dX0_passWeek_96 rfl (lv_at hl 1 rfl) ?_
                refine fg_RX0_64 E hW rh0 dX0_passWeek_97 (fun y3493 m3494 b3495 => ?_)
                refine q_if_eq (tgt := 113) hx hb dX0_passWeek_100 (by decide) rfl (fun c3496 => ?_) (fun c3496 => ?_)
                · refine lv_aload_n hx hb dX0_passWeek_113 rfl (lv_at hl 1 rfl) ?_
                  have hW0 := hW.2.2.2
                  refine t_callV (As := []) (rest := []) E hW (c_X0_renewBans l G cI cJ cZ cD cR cT kp L f3489 hW.2.2.2 _ h0 rh0) rh0 (by decide) rfl wk_X0_renewBans tw_1171 rfl ⟨Nat.le_of_ble_eq_true rfl, Nat.le_of_ble_eq_true rfl⟩ ⟨rfl, rfl⟩ hl.1 rfl (Nat.le_of_ble_eq_true rfl) dX0_passWeek_114 ⟨Nat.le_of_ble_eq_true rfl, Nat.le_of_ble_eq_true rfl⟩ (fun v3497 f3498 H locs q3499 hW => ?_)
                  obtain ⟨rfl, g3500⟩ := q3499
                  have z3501 : WT kp L [h0] f0 f3498 := wt_fm z3492 g3500 rfl
                  have hF := FM.tr hF g3500 rfl
                  refine lv_aload_n hx hb dX0_passWeek_117 rfl (lv_at hl 1 rfl) ?_
                  refine lv_dup hx hb dX0_passWeek_118 rfl ?_
                  refine fg_RX0_93 E hW rh0 dX0_passWeek_119 (fun y3502 m3503 b3504 => ?_)
                  obtain rfl : vn = y3502 := (((fm_I g3500 rh0 rfl).trans ((fm_I g3491 rh0 rfl).trans m3475))).symm.trans m3503
                  refine lv_iconst (v := 1) hx hb dX0_passWeek_122 (by decide) ?_
                  refine q_iadd (Y := 1) hx hb dX0_passWeek_123 rfl rfl (by omega) (fun x3505 h3506 => ?_)
                  have hW0 := hW.2.2.2
                  refine fp_RX0_93 E hW rh0 (by omega) dX0_passWeek_124 (fun f3507 H locs e3508 n3509 g3510 hW => ?_)
                  have z3511 : WT kp L [h0] f0 f3507 := wt_put z3501 n3509 (by simp)
                  have hF := FM.tr hF g3510 rfl
                  exact e_V E hW rfl ⟨rfl, hF, (by rw [e3508, mvn]; omega), z3511⟩ dX0_passWeek_127
                · refine lv_aload_n hx hb dX0_passWeek_103 rfl (lv_at hl 1 rfl) ?_
                  refine fg_RX0_42 E hW rh0 dX0_passWeek_104 (fun a3512 m3513 r3514 => ?_)
                  have hW0 := hW.2.2.2
                  refine t_callV (As := []) (rest := []) E hW (c_X2_asksBanned l G cI cJ cZ cD cR cT kp L f3489 hW.2.2.2 _ a3512 r3514) r3514 (by decide) rfl wk_X2_asksBanned tw_1167 rfl ⟨Nat.le_of_ble_eq_true rfl, Nat.le_of_ble_eq_true rfl⟩ ⟨rfl, rfl⟩ hl.1 rfl (Nat.le_of_ble_eq_true rfl) dX0_passWeek_107 ⟨Nat.le_of_ble_eq_true rfl, Nat.le_of_ble_eq_true rfl⟩ (fun v3515 f3516 H locs q3517 hW => ?_)
                  obtain ⟨⟨x3519, rfl, p3520⟩, g3518⟩ := q3517
                  have z3521 : WT kp L [h0] f0 f3516 := wt_fm z3492 g3518 rfl
                  have hF := FM.tr hF g3518 rfl
                  refine q_if_eq (tgt := 117) hx hb dX0_passWeek_110 (by decide) rfl (fun c3522 => ?_) (fun c3522 => ?_)
                  · refine lv_aload_n hx hb dX0_passWeek_117 rfl (lv_at hl 1 rfl) ?_
                    refine lv_dup hx hb dX0_passWeek_118 rfl ?_
                    refine fg_RX0_93 E hW rh0 dX0_passWeek_119 (fun y3523 m3524 b3525 => ?_)
                    obtain rfl : vn = y3523 := (((fm_I g3518 rh0 rfl).trans ((fm_I g3491 rh0 rfl).trans m3475))).symm.trans m3524
                    refine lv_iconst (v := 1) hx hb dX0_passWeek_122 (by decide) ?_
                    refine q_iadd (Y := 1) hx hb dX0_passWeek_123 rfl rfl (by omega) (fun x3526 h3527 => ?_)
                    have hW0 := hW.2.2.2
                    refine fp_RX0_93 E hW rh0 (by omega) dX0_passWeek_124 (fun f3528 H locs e3529 n3530 g3531 hW => ?_)
                    have z3532 : WT kp L [h0] f0 f3528 := wt_put z3521 n3530 (by simp)
                    have hF := FM.tr hF g3531 rfl
                    exact e_V E hW rfl ⟨rfl, hF, (by rw [e3529, mvn]; omega), z3532⟩ dX0_passWeek_127
                  · refine lv_aload_n hx hb dX0_passWeek_113 rfl (lv_at hl 1 rfl) ?_
                    have hW0 := hW.2.2.2
                    refine t_callV (As := []) (rest := []) E hW (c_X0_renewBans l G cI cJ cZ cD cR cT kp L f3516 hW.2.2.2 _ h0 rh0) rh0 (by decide) rfl wk_X0_renewBans tw_1171 rfl ⟨Nat.le_of_ble_eq_true rfl, Nat.le_of_ble_eq_true rfl⟩ ⟨rfl, rfl⟩ hl.1 rfl (Nat.le_of_ble_eq_true rfl) dX0_passWeek_114 ⟨Nat.le_of_ble_eq_true rfl, Nat.le_of_ble_eq_true rfl⟩ (fun v3533 f3534 H locs q3535 hW => ?_)
                    obtain ⟨rfl, g3536⟩ := q3535
                    have z3537 : WT kp L [h0] f0 f3534 := wt_fm z3521 g3536 rfl
                    have hF := FM.tr hF g3536 rfl
                    refine lv_aload_n hx hb dX0_passWeek_117 rfl (lv_at hl 1 rfl) ?_
                    refine lv_dup hx hb dX0_passWeek_118 rfl ?_
                    refine fg_RX0_93 E hW rh0 dX0_passWeek_119 (fun y3538 m3539 b3540 => ?_)
                    obtain rfl : vn = y3538 := (((fm_I g3536 rh0 rfl).trans ((fm_I g3518 rh0 rfl).trans ((fm_I g3491 rh0 rfl).trans m3475)))).symm.trans m3539
                    refine lv_iconst (v := 1) hx hb dX0_passWeek_122 (by decide) ?_
                    refine q_iadd (Y := 1) hx hb dX0_passWeek_123 rfl rfl (by omega) (fun x3541 h3542 => ?_)
                    have hW0 := hW.2.2.2
                    refine fp_RX0_93 E hW rh0 (by omega) dX0_passWeek_124 (fun f3543 H locs e3544 n3545 g3546 hW => ?_)
                    have z3547 : WT kp L [h0] f0 f3543 := wt_put z3537 n3545 (by simp)
                    have hF := FM.tr hF g3546 rfl
                    exact e_V E hW rfl ⟨rfl, hF, (by rw [e3544, mvn]; omega), z3547⟩ dX0_passWeek_127
              · refine lv_aload_n hx hb dX0_passWeek_68 rfl (lv_at hl 1 rfl) ?_
                refine fg_RX0_28 E hW rh0 dX0_passWeek_69 (fun a3548 m3549 r3550 => ?_)
                obtain rfl : a3481 = a3548 := (m3482).symm.trans m3549
                refine fg_RX0_151 E hW r3483 dX0_passWeek_72 (fun a3551 m3552 r3553 => ?_)
                refine lv_iload_n hx hb dX0_passWeek_75 rfl (lv_at hl 0 rfl) ?_
                refine gl_706 E hW r3553 ⟨by omega, by omega⟩ dX0_passWeek_76 (fun y3554 m3555 => ?_)
                refine lv_iconst (v := 1) hx hb dX0_passWeek_77 (by decide) ?_
                refine q_icmp_ne (Y := 1) (tgt := 86) hx hb dX0_passWeek_78 (by decide) rfl rfl (fun c3557 => ?_) (fun c3557 => ?_)
                · refine q_iinc hx hb dX0_passWeek_86 hl (k := 0) rfl rfl rfl (by omega) (by decide) (fun i3558 ls h3559 hl => ?_)
                  have hl : lv_has ls 2 [(1, .int i3558), (0, .ref h0)] := hl
                  refine lv_goto (tgt := 57) hx hb dX0_passWeek_89 (by decide) ?_
                  exact ih57 f3474 i3558 m3475 m3476 (by omega) z3479 (by omega) _ _ _ hW hF (lv_sub hl [0, 1] rfl)
                · refine lv_aload_n hx hb dX0_passWeek_81 rfl (lv_at hl 1 rfl) ?_
                  refine lv_iload_n hx hb dX0_passWeek_82 rfl (lv_at hl 0 rfl) ?_
                  have hW0 := hW.2.2.2
                  refine t_callV (As := [.int y3477]) (rest := []) E hW (c_X0_advanceWrit l G cI cJ cZ cD cR cT kp L f3474 hW.2.2.2 _ h0 y3477 rh0 (by omega)) rh0 (by decide) rfl wk_X0_advanceWrit tw_1146 rfl ⟨Nat.le_of_ble_eq_true rfl, Nat.le_of_ble_eq_true rfl⟩ ⟨rfl, rfl⟩ hl.1 rfl (Nat.le_of_ble_eq_true rfl) dX0_passWeek_83 ⟨Nat.le_of_ble_eq_true rfl, Nat.le_of_ble_eq_true rfl⟩ (fun v3560 f3561 H locs q3562 hW => ?_)
                  obtain ⟨rfl, g3563⟩ := q3562
                  have z3564 : WT kp L [h0] f0 f3561 := wt_fm z3479 g3563 rfl
                  have hF := FM.tr hF g3563 rfl
                  refine q_iinc hx hb dX0_passWeek_86 hl (k := 0) rfl rfl rfl (by omega) (by decide) (fun i3565 ls h3566 hl => ?_)
                  have hl : lv_has ls 2 [(1, .int i3565), (0, .ref h0)] := hl
                  refine lv_goto (tgt := 57) hx hb dX0_passWeek_89 (by decide) ?_
                  exact ih57 f3561 i3565 ((fm_I g3563 rh0 rfl).trans m3475) ((fm_I g3563 rh0 rfl).trans m3476) (by omega) z3564 (by omega) _ _ _ hW hF (lv_sub hl [0, 1] rfl)
          have hk3567 : (0 : Int32).toInt = 0 := rfl
          exact L3480 61 f2670 0 ((fm_I g2672 rh0 rfl).trans ((fm_I g1769 rh0 rfl).trans ((fm_I g1764 rh0 rfl).trans m888))) ((fm_I g2672 rh0 rfl).trans m1772) (by decide) z2673 (by omega) _ _ _ hW hF (lv_sub hl [0, 1] rfl)
  · exact e_V E hW rfl ⟨rfl, hF, (by rw [mvn]; omega), (wt_rf : WT kp L [h0] f0 f0)⟩ dX0_passWeek_10
def ms_X11_person_w : List (Nat × Nat) := [(4, 0), (11, 15), (341, 0), (342, 0), (343, 0), (344, 0), (345, 0), (346, 0), (347, 0), (348, 0)]
def po_X11_person_w (kp : Nat → Nat) (L : List Nat) (f0 : Nat → va_E) (h0 : Nat) (u1 : Int32) (u2 : Int32) (u3 : Int32) : Option Value → (Nat → va_E) → Prop := fun v f => (∃ r : Int32, v = some (.int r) ∧ ((¬ ((0 ≤ u1.toInt ∧ u1.toInt ≤ 19) ∧ (0 ≤ u2.toInt ∧ u2.toInt ≤ 1000000) ∧ 0 ≤ u3.toInt ∧ u3.toInt ≤ 100) ∧ r.toInt = -1 ∧ (oI (f (oR (f0 (oR (f0 h0) 0)) 0)) 0).toInt = (oI (f0 (oR (f0 (oR (f0 h0) 0)) 0)) 0).toInt) ∨ (((0 ≤ u1.toInt ∧ u1.toInt ≤ 19) ∧ (0 ≤ u2.toInt ∧ u2.toInt ≤ 1000000) ∧ 0 ≤ u3.toInt ∧ u3.toInt ≤ 100) ∧ 40 ≤ (oI (f0 (oR (f0 (oR (f0 h0) 0)) 0)) 0).toInt ∧ r.toInt = -5 ∧ (oI (f (oR (f0 (oR (f0 h0) 0)) 0)) 0).toInt = (oI (f0 (oR (f0 (oR (f0 h0) 0)) 0)) 0).toInt) ∨ (((0 ≤ u1.toInt ∧ u1.toInt ≤ 19) ∧ (0 ≤ u2.toInt ∧ u2.toInt ≤ 1000000) ∧ 0 ≤ u3.toInt ∧ u3.toInt ≤ 100) ∧ (oI (f0 (oR (f0 (oR (f0 h0) 0)) 0)) 0).toInt < 40 ∧ r.toInt = (oI (f0 (oR (f0 (oR (f0 h0) 0)) 0)) 0).toInt ∧ (oI (f (oR (f0 (oR (f0 h0) 0)) 0)) 0).toInt = (oI (f0 (oR (f0 (oR (f0 h0) 0)) 0)) 0).toInt + 1))) ∧ FM kp L ms_X11_person_w f0 f ∧ (WT kp L [(oR (f0 (oR (f0 h0) 0)) 0)] f0 f)
set_option maxHeartbeats 4000000 in
set_option maxRecDepth 100000 in
theorem c_X11_person_w (l : Launch) (G : va_G) (cI cJ cZ cD cR cT : ClassId) (kp : Nat → Nat) (L : List Nat) (f0 : Nat → va_E) (hTH : TH cI cJ cZ cD cR cT kp L f0) (sz : Nat) (h0 : Nat) (u1 : Int32) (u2 : Int32) (u3 : Int32) (rh0 : RK kp L h0 11) : Met l yX11_person (Cond.code yX11_person cX11_person 4 (some .int) :: wTab) ({ frames := 2, cells := 0, slots := 0, locals := 64 }) (va_Pc [.ref h0, .int u1, .int u2, .int u3] (PreW G (tys6 cI cJ cZ cD cR cT) (va_pl L f0) sz)) (QT (po_X11_person_w kp L f0 h0 u1 u2 u3) G cI cJ cZ cD cR cT (va_A (va_pl L f0) sz) kp L) 0 0 (va_A (va_pl L f0) sz) := by
  refine metT (by decide) (Nat.le_of_ble_eq_true rfl) hTH ?_
  intro p e s m below meth c A ls E hW hl
  obtain ⟨hx, hb, -, hml, hown, hts, -, -, -⟩ := id E
  have hF : FM kp L ms_X11_person_w f0 f0 := FM.rf
  have hl : lv_has ls 4 [(0, .ref h0), (1, .int u1), (2, .int u2), (3, .int u3)] := hl
  obtain ⟨C, mC⟩ : ∃ x : Nat, oR (f0 h0) 0 = x := ⟨_, rfl⟩
  have rC : RK kp L C 0 := by rw [← mC]; exact th_ref hTH rh0 (by decide) (by decide) rfl
  obtain ⟨C0, mC0⟩ : ∃ x : Nat, oR (f0 C) 0 = x := ⟨_, rfl⟩
  have rC0 : RK kp L C0 4 := by rw [← mC0]; exact th_ref hTH rC (by decide) (by decide) rfl
  obtain ⟨vc, mvc⟩ : ∃ x : Int32, oI (f0 C0) 0 = x := ⟨_, rfl⟩
  have bvc : (0 : Int) ≤ vc.toInt ∧ vc.toInt ≤ 40 := by rw [← mvc]; exact th_ivT hTH rC0 (by decide) (by decide) rfl
  refine lv_iload_n hx hb dX11_person_0 rfl (lv_at hl 1 rfl) ?_
  refine lv_iconst (v := 0) hx hb dX11_person_1 (by decide) ?_
  refine lv_bipush (v := 19) hx hb dX11_person_2 (by decide) ?_
  have hW0 := hW.2.2.2
  refine t_callS (As := [.int u1, .int 0, .int 19]) (rest := []) E hW (c_X11_within l G cI cJ cZ cD cR cT kp L f0 hW.2.2.2 _ u1 0 19 (by decide)) wk_X11_within tw_599 rfl ⟨Nat.le_of_ble_eq_true rfl, Nat.le_of_ble_eq_true rfl⟩ ⟨rfl, rfl⟩ hl.1 rfl (Nat.le_of_ble_eq_true rfl) dX11_person_4 ⟨Nat.le_of_ble_eq_true rfl, Nat.le_of_ble_eq_true rfl⟩ (fun v1 f2 H locs q3 hW => ?_)
  obtain ⟨⟨x5, rfl, p6⟩, g4⟩ := q3
  have p6 : (x5.toInt = 1 ∧ (0 : Int) ≤ u1.toInt ∧ u1.toInt ≤ (19 : Int)) ∨ (x5.toInt = 0 ∧ (u1.toInt < (0 : Int) ∨ (19 : Int) < u1.toInt)) := p6
  have z7 : WT kp L [C0] f0 f2 := wt_fm (wt_rf : WT kp L [C0] f0 f0) g4 rfl
  have hF := FM.tr hF g4 rfl
  refine q_if_eq (tgt := 30) hx hb dX11_person_7 (by decide) rfl (fun c8 => ?_) (fun c8 => ?_)
  · have q9 : (u1.toInt < (0 : Int) ∨ (19 : Int) < u1.toInt) := by omega
    clear p6
    refine lv_aload_n hx hb dX11_person_30 rfl (lv_at hl 0 rfl) ?_
    refine lv_iconst (v := (-1)) hx hb dX11_person_31 (by decide) ?_
    have hW0 := hW.2.2.2
    refine t_callV (As := [.int (-1)]) (rest := []) E hW (c_X11_refuse_x l G cI cJ cZ cD cR cT kp L f2 hW.2.2.2 _ h0 (-1) rh0 (by decide)) rh0 (by decide) rfl wk_X11_refuse tw_603 rfl ⟨Nat.le_of_ble_eq_true rfl, Nat.le_of_ble_eq_true rfl⟩ ⟨rfl, rfl⟩ hl.1 rfl (Nat.le_of_ble_eq_true rfl) dX11_person_32 ⟨Nat.le_of_ble_eq_true rfl, Nat.le_of_ble_eq_true rfl⟩ (fun v10 f11 H locs q12 hW => ?_)
    obtain ⟨⟨x14, rfl, p15⟩, g13⟩ := q12
    have p15 : x14.toInt = (-1 : Int) := p15
    have z16 : WT kp L [C0] f0 f11 := wt_fm z7 g13 rfl
    have hF := FM.tr hF g13 rfl
    exact e_I E hW rfl ⟨⟨_, rfl, (by rw [mC, mC0, ((fm_I g13 rC0 rfl).trans ((fm_I g4 rC0 rfl).trans mvc)), mvc]; omega)⟩, hF, (by rw [mC, mC0]; exact z16)⟩ dX11_person_35
  · have q17 : (0 : Int) ≤ u1.toInt ∧ u1.toInt ≤ (19 : Int) := by omega
    clear p6
    refine lv_iload_n hx hb dX11_person_10 rfl (lv_at hl 2 rfl) ?_
    refine lv_iconst (v := 0) hx hb dX11_person_11 (by decide) ?_
    refine lv_ldc (v := 1000000) hx hb hown (hts _ tw_602) dX11_person_12 ?_
    have hW0 := hW.2.2.2
    refine t_callS (As := [.int u2, .int 0, .int 1000000]) (rest := []) E hW (c_X11_within l G cI cJ cZ cD cR cT kp L f2 hW.2.2.2 _ u2 0 1000000 (by decide)) wk_X11_within tw_599 rfl ⟨Nat.le_of_ble_eq_true rfl, Nat.le_of_ble_eq_true rfl⟩ ⟨rfl, rfl⟩ hl.1 rfl (Nat.le_of_ble_eq_true rfl) dX11_person_14 ⟨Nat.le_of_ble_eq_true rfl, Nat.le_of_ble_eq_true rfl⟩ (fun v18 f19 H locs q20 hW => ?_)
    obtain ⟨⟨x22, rfl, p23⟩, g21⟩ := q20
    have p23 : (x22.toInt = 1 ∧ (0 : Int) ≤ u2.toInt ∧ u2.toInt ≤ (1000000 : Int)) ∨ (x22.toInt = 0 ∧ (u2.toInt < (0 : Int) ∨ (1000000 : Int) < u2.toInt)) := p23
    have z24 : WT kp L [C0] f0 f19 := wt_fm z7 g21 rfl
    have hF := FM.tr hF g21 rfl
    refine q_if_eq (tgt := 30) hx hb dX11_person_17 (by decide) rfl (fun c25 => ?_) (fun c25 => ?_)
    · have q26 : (u2.toInt < (0 : Int) ∨ (1000000 : Int) < u2.toInt) := by omega
      clear p23
      refine lv_aload_n hx hb dX11_person_30 rfl (lv_at hl 0 rfl) ?_
      refine lv_iconst (v := (-1)) hx hb dX11_person_31 (by decide) ?_
      have hW0 := hW.2.2.2
      refine t_callV (As := [.int (-1)]) (rest := []) E hW (c_X11_refuse_x l G cI cJ cZ cD cR cT kp L f19 hW.2.2.2 _ h0 (-1) rh0 (by decide)) rh0 (by decide) rfl wk_X11_refuse tw_603 rfl ⟨Nat.le_of_ble_eq_true rfl, Nat.le_of_ble_eq_true rfl⟩ ⟨rfl, rfl⟩ hl.1 rfl (Nat.le_of_ble_eq_true rfl) dX11_person_32 ⟨Nat.le_of_ble_eq_true rfl, Nat.le_of_ble_eq_true rfl⟩ (fun v27 f28 H locs q29 hW => ?_)
      obtain ⟨⟨x31, rfl, p32⟩, g30⟩ := q29
      have p32 : x31.toInt = (-1 : Int) := p32
      have z33 : WT kp L [C0] f0 f28 := wt_fm z24 g30 rfl
      have hF := FM.tr hF g30 rfl
      exact e_I E hW rfl ⟨⟨_, rfl, (by rw [mC, mC0, ((fm_I g30 rC0 rfl).trans ((fm_I g21 rC0 rfl).trans ((fm_I g4 rC0 rfl).trans mvc))), mvc]; omega)⟩, hF, (by rw [mC, mC0]; exact z33)⟩ dX11_person_35
    · have q34 : (0 : Int) ≤ u2.toInt ∧ u2.toInt ≤ (1000000 : Int) := by omega
      clear p23
      refine lv_iload_n hx hb dX11_person_20 rfl (lv_at hl 3 rfl) ?_
      refine lv_iconst (v := 0) hx hb dX11_person_21 (by decide) ?_
      refine lv_bipush (v := 100) hx hb dX11_person_22 (by decide) ?_
      have hW0 := hW.2.2.2
      refine t_callS (As := [.int u3, .int 0, .int 100]) (rest := []) E hW (c_X11_within l G cI cJ cZ cD cR cT kp L f19 hW.2.2.2 _ u3 0 100 (by decide)) wk_X11_within tw_599 rfl ⟨Nat.le_of_ble_eq_true rfl, Nat.le_of_ble_eq_true rfl⟩ ⟨rfl, rfl⟩ hl.1 rfl (Nat.le_of_ble_eq_true rfl) dX11_person_24 ⟨Nat.le_of_ble_eq_true rfl, Nat.le_of_ble_eq_true rfl⟩ (fun v35 f36 H locs q37 hW => ?_)
      obtain ⟨⟨x39, rfl, p40⟩, g38⟩ := q37
      have p40 : (x39.toInt = 1 ∧ (0 : Int) ≤ u3.toInt ∧ u3.toInt ≤ (100 : Int)) ∨ (x39.toInt = 0 ∧ (u3.toInt < (0 : Int) ∨ (100 : Int) < u3.toInt)) := p40
      have z41 : WT kp L [C0] f0 f36 := wt_fm z24 g38 rfl
      have hF := FM.tr hF g38 rfl
      refine q_if_ne (tgt := 36) hx hb dX11_person_27 (by decide) rfl (fun c42 => ?_) (fun c42 => ?_)
      · have q43 : (0 : Int) ≤ u3.toInt ∧ u3.toInt ≤ (100 : Int) := by omega
        clear p40
        refine lv_aload_n hx hb dX11_person_36 rfl (lv_at hl 0 rfl) ?_
        refine fg_RX11_12 E hW rh0 dX11_person_37 (fun a44 m45 r46 => ?_)
        obtain rfl : C = a44 := (((fm_R g38 rh0 rfl).trans ((fm_R g21 rh0 rfl).trans ((fm_R g4 rh0 rfl).trans mC)))).symm.trans m45
        refine fg_RX11_63 E hW rC dX11_person_40 (fun a47 m48 r49 => ?_)
        obtain rfl : C0 = a47 := (((fm_R g38 rC rfl).trans ((fm_R g21 rC rfl).trans ((fm_R g4 rC rfl).trans mC0)))).symm.trans m48
        refine fg_RX11_67 E hW rC0 dX11_person_43 (fun y50 m51 b52 => ?_)
        obtain rfl : vc = y50 := (((fm_I g38 rC0 rfl).trans ((fm_I g21 rC0 rfl).trans ((fm_I g4 rC0 rfl).trans mvc)))).symm.trans m51
        refine lv_bipush (v := 40) hx hb dX11_person_46 (by decide) ?_
        refine q_icmp_lt (Y := 40) (tgt := 58) hx hb dX11_person_48 (by decide) rfl rfl (fun c53 => ?_) (fun c53 => ?_)
        · refine lv_aload_n hx hb dX11_person_58 rfl (lv_at hl 0 rfl) ?_
          refine lv_aload_n hx hb dX11_person_59 rfl (lv_at hl 0 rfl) ?_
          refine fg_RX11_12 E hW rh0 dX11_person_60 (fun a54 m55 r56 => ?_)
          obtain rfl : C = a54 := (m45).symm.trans m55
          refine fg_RX11_63 E hW rC dX11_person_63 (fun a57 m58 r59 => ?_)
          obtain rfl : C0 = a57 := (m48).symm.trans m58
          refine lv_iload_n hx hb dX11_person_66 rfl (lv_at hl 1 rfl) ?_
          refine lv_iload_n hx hb dX11_person_67 rfl (lv_at hl 2 rfl) ?_
          refine lv_iload_n hx hb dX11_person_68 rfl (lv_at hl 3 rfl) ?_
          have hW0 := hW.2.2.2
          refine t_callV (As := [.int u1, .int u2, .int u3]) (rest := [.ref h0]) E hW (c_X4_add_w l G cI cJ cZ cD cR cT kp L f36 hW.2.2.2 _ C0 u1 u2 u3 rC0) rC0 (by decide) rfl wk_X4_add tw_607 rfl ⟨Nat.le_of_ble_eq_true rfl, Nat.le_of_ble_eq_true rfl⟩ ⟨rfl, rfl⟩ hl.1 rfl (Nat.le_of_ble_eq_true rfl) dX11_person_69 ⟨Nat.le_of_ble_eq_true rfl, Nat.le_of_ble_eq_true rfl⟩ (fun v60 f61 H locs q62 hW => ?_)
          obtain ⟨⟨x66, rfl, p67⟩, g63, h64, h65⟩ := q62
          rw [m51] at p67
          have hF := FM.tr hF g63 rfl
          have z69 : WT kp L [C0] f0 f61 := wt_call z41 h65 (by intro q h; simp only [List.mem_cons, List.not_mem_nil, or_false] at h ⊢; omega)
          obtain ⟨y70, m71⟩ : ∃ x : Int32, oI (f61 C0) 0 = x := ⟨_, rfl⟩
          rw [m71, m51] at h64
          have hW0 := hW.2.2.2
          refine t_callV (As := [.int x66]) (rest := []) E hW (c_X11_accept_x l G cI cJ cZ cD cR cT kp L f61 hW.2.2.2 _ h0 x66 rh0) rh0 (by decide) rfl wk_X11_accept tw_611 rfl ⟨Nat.le_of_ble_eq_true rfl, Nat.le_of_ble_eq_true rfl⟩ ⟨rfl, rfl⟩ hl.1 rfl (Nat.le_of_ble_eq_true rfl) dX11_person_72 ⟨Nat.le_of_ble_eq_true rfl, Nat.le_of_ble_eq_true rfl⟩ (fun v72 f73 H locs q74 hW => ?_)
          obtain ⟨⟨x76, rfl, p77⟩, g75⟩ := q74
          have z78 : WT kp L [C0] f0 f73 := wt_fm z69 g75 rfl
          have hF := FM.tr hF g75 rfl
          exact e_I E hW rfl ⟨⟨_, rfl, (by rw [mC, mC0, ((fm_I g75 rC0 rfl).trans m71), mvc]; omega)⟩, hF, (by rw [mC, mC0]; exact z78)⟩ dX11_person_75
        · refine lv_aload_n hx hb dX11_person_51 rfl (lv_at hl 0 rfl) ?_
          refine lv_bipush (v := (-5)) hx hb dX11_person_52 (by decide) ?_
          have hW0 := hW.2.2.2
          refine t_callV (As := [.int (-5)]) (rest := []) E hW (c_X11_refuse_x l G cI cJ cZ cD cR cT kp L f36 hW.2.2.2 _ h0 (-5) rh0 (by decide)) rh0 (by decide) rfl wk_X11_refuse tw_603 rfl ⟨Nat.le_of_ble_eq_true rfl, Nat.le_of_ble_eq_true rfl⟩ ⟨rfl, rfl⟩ hl.1 rfl (Nat.le_of_ble_eq_true rfl) dX11_person_54 ⟨Nat.le_of_ble_eq_true rfl, Nat.le_of_ble_eq_true rfl⟩ (fun v79 f80 H locs q81 hW => ?_)
          obtain ⟨⟨x83, rfl, p84⟩, g82⟩ := q81
          have p84 : x83.toInt = (-5 : Int) := p84
          have z85 : WT kp L [C0] f0 f80 := wt_fm z41 g82 rfl
          have hF := FM.tr hF g82 rfl
          exact e_I E hW rfl ⟨⟨_, rfl, (by rw [mC, mC0, ((fm_I g82 rC0 rfl).trans m51), mvc]; omega)⟩, hF, (by rw [mC, mC0]; exact z85)⟩ dX11_person_57
      · have q86 : (u3.toInt < (0 : Int) ∨ (100 : Int) < u3.toInt) := by omega
        clear p40
        refine lv_aload_n hx hb dX11_person_30 rfl (lv_at hl 0 rfl) ?_
        refine lv_iconst (v := (-1)) hx hb dX11_person_31 (by decide) ?_
        have hW0 := hW.2.2.2
        refine t_callV (As := [.int (-1)]) (rest := []) E hW (c_X11_refuse_x l G cI cJ cZ cD cR cT kp L f36 hW.2.2.2 _ h0 (-1) rh0 (by decide)) rh0 (by decide) rfl wk_X11_refuse tw_603 rfl ⟨Nat.le_of_ble_eq_true rfl, Nat.le_of_ble_eq_true rfl⟩ ⟨rfl, rfl⟩ hl.1 rfl (Nat.le_of_ble_eq_true rfl) dX11_person_32 ⟨Nat.le_of_ble_eq_true rfl, Nat.le_of_ble_eq_true rfl⟩ (fun v87 f88 H locs q89 hW => ?_)
        obtain ⟨⟨x91, rfl, p92⟩, g90⟩ := q89
        have p92 : x91.toInt = (-1 : Int) := p92
        have z93 : WT kp L [C0] f0 f88 := wt_fm z41 g90 rfl
        have hF := FM.tr hF g90 rfl
        exact e_I E hW rfl ⟨⟨_, rfl, (by rw [mC, mC0, ((fm_I g90 rC0 rfl).trans ((fm_I g38 rC0 rfl).trans ((fm_I g21 rC0 rfl).trans ((fm_I g4 rC0 rfl).trans mvc)))), mvc]; omega)⟩, hF, (by rw [mC, mC0]; exact z93)⟩ dX11_person_35
def ms_X11_estate_w : List (Nat × Nat) := [(1, 8), (11, 15), (169, 0), (170, 0), (171, 0)]
def po_X11_estate_w (kp : Nat → Nat) (L : List Nat) (f0 : Nat → va_E) (h0 : Nat) (u1 : Int32) (u2 : Int32) : Option Value → (Nat → va_E) → Prop := fun v f => (∃ r : Int32, v = some (.int r) ∧ ((¬ ((0 ≤ u1.toInt ∧ u1.toInt ≤ 10000000) ∧ 0 ≤ u2.toInt ∧ u2.toInt ≤ 1000000) ∧ r.toInt = -1 ∧ (oI (f (oR (f0 (oR (f0 h0) 0)) 1)) 8).toInt = (oI (f0 (oR (f0 (oR (f0 h0) 0)) 1)) 8).toInt) ∨ (((0 ≤ u1.toInt ∧ u1.toInt ≤ 10000000) ∧ 0 ≤ u2.toInt ∧ u2.toInt ≤ 1000000) ∧ 8 ≤ (oI (f0 (oR (f0 (oR (f0 h0) 0)) 1)) 8).toInt ∧ r.toInt = -5 ∧ (oI (f (oR (f0 (oR (f0 h0) 0)) 1)) 8).toInt = (oI (f0 (oR (f0 (oR (f0 h0) 0)) 1)) 8).toInt) ∨ (((0 ≤ u1.toInt ∧ u1.toInt ≤ 10000000) ∧ 0 ≤ u2.toInt ∧ u2.toInt ≤ 1000000) ∧ (oI (f0 (oR (f0 (oR (f0 h0) 0)) 1)) 8).toInt < 8 ∧ r.toInt = (oI (f0 (oR (f0 (oR (f0 h0) 0)) 1)) 8).toInt ∧ (oI (f (oR (f0 (oR (f0 h0) 0)) 1)) 8).toInt = (oI (f0 (oR (f0 (oR (f0 h0) 0)) 1)) 8).toInt + 1))) ∧ FM kp L ms_X11_estate_w f0 f ∧ (WT kp L [(oR (f0 (oR (f0 h0) 0)) 1)] f0 f)
set_option maxHeartbeats 4000000 in
set_option maxRecDepth 100000 in
theorem c_X11_estate_w (l : Launch) (G : va_G) (cI cJ cZ cD cR cT : ClassId) (kp : Nat → Nat) (L : List Nat) (f0 : Nat → va_E) (hTH : TH cI cJ cZ cD cR cT kp L f0) (sz : Nat) (h0 : Nat) (u1 : Int32) (u2 : Int32) (rh0 : RK kp L h0 11) : Met l yX11_estate (Cond.code yX11_estate cX11_estate 3 (some .int) :: wTab) ({ frames := 2, cells := 0, slots := 0, locals := 63 }) (va_Pc [.ref h0, .int u1, .int u2] (PreW G (tys6 cI cJ cZ cD cR cT) (va_pl L f0) sz)) (QT (po_X11_estate_w kp L f0 h0 u1 u2) G cI cJ cZ cD cR cT (va_A (va_pl L f0) sz) kp L) 0 0 (va_A (va_pl L f0) sz) := by
  refine metT (by decide) (Nat.le_of_ble_eq_true rfl) hTH ?_
  intro p e s m below meth c A ls E hW hl
  obtain ⟨hx, hb, -, hml, hown, hts, -, -, -⟩ := id E
  have hF : FM kp L ms_X11_estate_w f0 f0 := FM.rf
  have hl : lv_has ls 3 [(0, .ref h0), (1, .int u1), (2, .int u2)] := hl
  obtain ⟨C, mC⟩ : ∃ x : Nat, oR (f0 h0) 0 = x := ⟨_, rfl⟩
  have rC : RK kp L C 0 := by rw [← mC]; exact th_ref hTH rh0 (by decide) (by decide) rfl
  obtain ⟨C1, mC1⟩ : ∃ x : Nat, oR (f0 C) 1 = x := ⟨_, rfl⟩
  have rC1 : RK kp L C1 1 := by rw [← mC1]; exact th_ref hTH rC (by decide) (by decide) rfl
  obtain ⟨vc, mvc⟩ : ∃ x : Int32, oI (f0 C1) 8 = x := ⟨_, rfl⟩
  have bvc : (0 : Int) ≤ vc.toInt ∧ vc.toInt ≤ 8 := by rw [← mvc]; exact th_ivT hTH rC1 (by decide) (by decide) rfl
  refine lv_iload_n hx hb dX11_estate_0 rfl (lv_at hl 1 rfl) ?_
  refine lv_iconst (v := 0) hx hb dX11_estate_1 (by decide) ?_
  refine lv_ldc (v := 10000000) hx hb hown (hts _ tw_643) dX11_estate_2 ?_
  have hW0 := hW.2.2.2
  refine t_callS (As := [.int u1, .int 0, .int 10000000]) (rest := []) E hW (c_X11_within l G cI cJ cZ cD cR cT kp L f0 hW.2.2.2 _ u1 0 10000000 (by decide)) wk_X11_within tw_599 rfl ⟨Nat.le_of_ble_eq_true rfl, Nat.le_of_ble_eq_true rfl⟩ ⟨rfl, rfl⟩ hl.1 rfl (Nat.le_of_ble_eq_true rfl) dX11_estate_4 ⟨Nat.le_of_ble_eq_true rfl, Nat.le_of_ble_eq_true rfl⟩ (fun v1 f2 H locs q3 hW => ?_)
  obtain ⟨⟨x5, rfl, p6⟩, g4⟩ := q3
  have p6 : (x5.toInt = 1 ∧ (0 : Int) ≤ u1.toInt ∧ u1.toInt ≤ (10000000 : Int)) ∨ (x5.toInt = 0 ∧ (u1.toInt < (0 : Int) ∨ (10000000 : Int) < u1.toInt)) := p6
  have z7 : WT kp L [C1] f0 f2 := wt_fm (wt_rf : WT kp L [C1] f0 f0) g4 rfl
  have hF := FM.tr hF g4 rfl
  refine q_if_eq (tgt := 20) hx hb dX11_estate_7 (by decide) rfl (fun c8 => ?_) (fun c8 => ?_)
  · have q9 : (u1.toInt < (0 : Int) ∨ (10000000 : Int) < u1.toInt) := by omega
    clear p6
    refine lv_aload_n hx hb dX11_estate_20 rfl (lv_at hl 0 rfl) ?_
    refine lv_iconst (v := (-1)) hx hb dX11_estate_21 (by decide) ?_
    have hW0 := hW.2.2.2
    refine t_callV (As := [.int (-1)]) (rest := []) E hW (c_X11_refuse_x l G cI cJ cZ cD cR cT kp L f2 hW.2.2.2 _ h0 (-1) rh0 (by decide)) rh0 (by decide) rfl wk_X11_refuse tw_603 rfl ⟨Nat.le_of_ble_eq_true rfl, Nat.le_of_ble_eq_true rfl⟩ ⟨rfl, rfl⟩ hl.1 rfl (Nat.le_of_ble_eq_true rfl) dX11_estate_22 ⟨Nat.le_of_ble_eq_true rfl, Nat.le_of_ble_eq_true rfl⟩ (fun v10 f11 H locs q12 hW => ?_)
    obtain ⟨⟨x14, rfl, p15⟩, g13⟩ := q12
    have p15 : x14.toInt = (-1 : Int) := p15
    have z16 : WT kp L [C1] f0 f11 := wt_fm z7 g13 rfl
    have hF := FM.tr hF g13 rfl
    exact e_I E hW rfl ⟨⟨_, rfl, (by rw [mC, mC1, ((fm_I g13 rC1 rfl).trans ((fm_I g4 rC1 rfl).trans mvc)), mvc]; omega)⟩, hF, (by rw [mC, mC1]; exact z16)⟩ dX11_estate_25
  · have q17 : (0 : Int) ≤ u1.toInt ∧ u1.toInt ≤ (10000000 : Int) := by omega
    clear p6
    refine lv_iload_n hx hb dX11_estate_10 rfl (lv_at hl 2 rfl) ?_
    refine lv_iconst (v := 0) hx hb dX11_estate_11 (by decide) ?_
    refine lv_ldc (v := 1000000) hx hb hown (hts _ tw_602) dX11_estate_12 ?_
    have hW0 := hW.2.2.2
    refine t_callS (As := [.int u2, .int 0, .int 1000000]) (rest := []) E hW (c_X11_within l G cI cJ cZ cD cR cT kp L f2 hW.2.2.2 _ u2 0 1000000 (by decide)) wk_X11_within tw_599 rfl ⟨Nat.le_of_ble_eq_true rfl, Nat.le_of_ble_eq_true rfl⟩ ⟨rfl, rfl⟩ hl.1 rfl (Nat.le_of_ble_eq_true rfl) dX11_estate_14 ⟨Nat.le_of_ble_eq_true rfl, Nat.le_of_ble_eq_true rfl⟩ (fun v18 f19 H locs q20 hW => ?_)
    obtain ⟨⟨x22, rfl, p23⟩, g21⟩ := q20
    have p23 : (x22.toInt = 1 ∧ (0 : Int) ≤ u2.toInt ∧ u2.toInt ≤ (1000000 : Int)) ∨ (x22.toInt = 0 ∧ (u2.toInt < (0 : Int) ∨ (1000000 : Int) < u2.toInt)) := p23
    have z24 : WT kp L [C1] f0 f19 := wt_fm z7 g21 rfl
    have hF := FM.tr hF g21 rfl
    refine q_if_ne (tgt := 26) hx hb dX11_estate_17 (by decide) rfl (fun c25 => ?_) (fun c25 => ?_)
    · have q26 : (0 : Int) ≤ u2.toInt ∧ u2.toInt ≤ (1000000 : Int) := by omega
      clear p23
      refine lv_aload_n hx hb dX11_estate_26 rfl (lv_at hl 0 rfl) ?_
      refine fg_RX11_12 E hW rh0 dX11_estate_27 (fun a27 m28 r29 => ?_)
      obtain rfl : C = a27 := (((fm_R g21 rh0 rfl).trans ((fm_R g4 rh0 rfl).trans mC))).symm.trans m28
      refine fg_RX11_114 E hW rC dX11_estate_30 (fun a30 m31 r32 => ?_)
      obtain rfl : C1 = a30 := (((fm_R g21 rC rfl).trans ((fm_R g4 rC rfl).trans mC1))).symm.trans m31
      refine fg_RX11_118 E hW rC1 dX11_estate_33 (fun y33 m34 b35 => ?_)
      obtain rfl : vc = y33 := (((fm_I g21 rC1 rfl).trans ((fm_I g4 rC1 rfl).trans mvc))).symm.trans m34
      refine lv_bipush (v := 8) hx hb dX11_estate_36 (by decide) ?_
      refine q_icmp_lt (Y := 8) (tgt := 48) hx hb dX11_estate_38 (by decide) rfl rfl (fun c36 => ?_) (fun c36 => ?_)
      · refine lv_aload_n hx hb dX11_estate_48 rfl (lv_at hl 0 rfl) ?_
        refine lv_aload_n hx hb dX11_estate_49 rfl (lv_at hl 0 rfl) ?_
        refine fg_RX11_12 E hW rh0 dX11_estate_50 (fun a37 m38 r39 => ?_)
        obtain rfl : C = a37 := (m28).symm.trans m38
        refine fg_RX11_114 E hW rC dX11_estate_53 (fun a40 m41 r42 => ?_)
        obtain rfl : C1 = a40 := (m31).symm.trans m41
        refine lv_iload_n hx hb dX11_estate_56 rfl (lv_at hl 1 rfl) ?_
        refine lv_iload_n hx hb dX11_estate_57 rfl (lv_at hl 2 rfl) ?_
        have hW0 := hW.2.2.2
        refine t_callV (As := [.int u1, .int u2]) (rest := [.ref h0]) E hW (c_X1_addEstate_w l G cI cJ cZ cD cR cT kp L f19 hW.2.2.2 _ C1 u1 u2 rC1) rC1 (by decide) rfl wk_X1_addEstate tw_650 rfl ⟨Nat.le_of_ble_eq_true rfl, Nat.le_of_ble_eq_true rfl⟩ ⟨rfl, rfl⟩ hl.1 rfl (Nat.le_of_ble_eq_true rfl) dX11_estate_58 ⟨Nat.le_of_ble_eq_true rfl, Nat.le_of_ble_eq_true rfl⟩ (fun v43 f44 H locs q45 hW => ?_)
        obtain ⟨⟨x49, rfl, p50⟩, g46, h47, h48⟩ := q45
        rw [m34] at p50
        have hF := FM.tr hF g46 rfl
        have z52 : WT kp L [C1] f0 f44 := wt_call z24 h48 (by intro q h; simp only [List.mem_cons, List.not_mem_nil, or_false] at h ⊢; omega)
        obtain ⟨y53, m54⟩ : ∃ x : Int32, oI (f44 C1) 8 = x := ⟨_, rfl⟩
        rw [m54, m34] at h47
        have hW0 := hW.2.2.2
        refine t_callV (As := [.int x49]) (rest := []) E hW (c_X11_accept_x l G cI cJ cZ cD cR cT kp L f44 hW.2.2.2 _ h0 x49 rh0) rh0 (by decide) rfl wk_X11_accept tw_611 rfl ⟨Nat.le_of_ble_eq_true rfl, Nat.le_of_ble_eq_true rfl⟩ ⟨rfl, rfl⟩ hl.1 rfl (Nat.le_of_ble_eq_true rfl) dX11_estate_61 ⟨Nat.le_of_ble_eq_true rfl, Nat.le_of_ble_eq_true rfl⟩ (fun v55 f56 H locs q57 hW => ?_)
        obtain ⟨⟨x59, rfl, p60⟩, g58⟩ := q57
        have z61 : WT kp L [C1] f0 f56 := wt_fm z52 g58 rfl
        have hF := FM.tr hF g58 rfl
        exact e_I E hW rfl ⟨⟨_, rfl, (by rw [mC, mC1, ((fm_I g58 rC1 rfl).trans m54), mvc]; omega)⟩, hF, (by rw [mC, mC1]; exact z61)⟩ dX11_estate_64
      · refine lv_aload_n hx hb dX11_estate_41 rfl (lv_at hl 0 rfl) ?_
        refine lv_bipush (v := (-5)) hx hb dX11_estate_42 (by decide) ?_
        have hW0 := hW.2.2.2
        refine t_callV (As := [.int (-5)]) (rest := []) E hW (c_X11_refuse_x l G cI cJ cZ cD cR cT kp L f19 hW.2.2.2 _ h0 (-5) rh0 (by decide)) rh0 (by decide) rfl wk_X11_refuse tw_603 rfl ⟨Nat.le_of_ble_eq_true rfl, Nat.le_of_ble_eq_true rfl⟩ ⟨rfl, rfl⟩ hl.1 rfl (Nat.le_of_ble_eq_true rfl) dX11_estate_44 ⟨Nat.le_of_ble_eq_true rfl, Nat.le_of_ble_eq_true rfl⟩ (fun v62 f63 H locs q64 hW => ?_)
        obtain ⟨⟨x66, rfl, p67⟩, g65⟩ := q64
        have p67 : x66.toInt = (-5 : Int) := p67
        have z68 : WT kp L [C1] f0 f63 := wt_fm z24 g65 rfl
        have hF := FM.tr hF g65 rfl
        exact e_I E hW rfl ⟨⟨_, rfl, (by rw [mC, mC1, ((fm_I g65 rC1 rfl).trans m34), mvc]; omega)⟩, hF, (by rw [mC, mC1]; exact z68)⟩ dX11_estate_47
    · have q69 : (u2.toInt < (0 : Int) ∨ (1000000 : Int) < u2.toInt) := by omega
      clear p23
      refine lv_aload_n hx hb dX11_estate_20 rfl (lv_at hl 0 rfl) ?_
      refine lv_iconst (v := (-1)) hx hb dX11_estate_21 (by decide) ?_
      have hW0 := hW.2.2.2
      refine t_callV (As := [.int (-1)]) (rest := []) E hW (c_X11_refuse_x l G cI cJ cZ cD cR cT kp L f19 hW.2.2.2 _ h0 (-1) rh0 (by decide)) rh0 (by decide) rfl wk_X11_refuse tw_603 rfl ⟨Nat.le_of_ble_eq_true rfl, Nat.le_of_ble_eq_true rfl⟩ ⟨rfl, rfl⟩ hl.1 rfl (Nat.le_of_ble_eq_true rfl) dX11_estate_22 ⟨Nat.le_of_ble_eq_true rfl, Nat.le_of_ble_eq_true rfl⟩ (fun v70 f71 H locs q72 hW => ?_)
      obtain ⟨⟨x74, rfl, p75⟩, g73⟩ := q72
      have p75 : x74.toInt = (-1 : Int) := p75
      have z76 : WT kp L [C1] f0 f71 := wt_fm z24 g73 rfl
      have hF := FM.tr hF g73 rfl
      exact e_I E hW rfl ⟨⟨_, rfl, (by rw [mC, mC1, ((fm_I g73 rC1 rfl).trans ((fm_I g21 rC1 rfl).trans ((fm_I g4 rC1 rfl).trans mvc))), mvc]; omega)⟩, hF, (by rw [mC, mC1]; exact z76)⟩ dX11_estate_25
def ms_X11_offer_w : List (Nat × Nat) := [(3, 3), (11, 15), (284, 0), (285, 0)]
def po_X11_offer_w (kp : Nat → Nat) (L : List Nat) (f0 : Nat → va_E) (h0 : Nat) (u1 : Int32) (u2 : Int32) : Option Value → (Nat → va_E) → Prop := fun v f => (∃ r : Int32, v = some (.int r) ∧ ((¬ ((-1000 ≤ u1.toInt ∧ u1.toInt ≤ 1000) ∧ -1000 ≤ u2.toInt ∧ u2.toInt ≤ 1000) ∧ r.toInt = -1 ∧ (oI (f (oR (f0 (oR (f0 h0) 0)) 5)) 3).toInt = (oI (f0 (oR (f0 (oR (f0 h0) 0)) 5)) 3).toInt) ∨ (((-1000 ≤ u1.toInt ∧ u1.toInt ≤ 1000) ∧ -1000 ≤ u2.toInt ∧ u2.toInt ≤ 1000) ∧ 9 ≤ (oI (f0 (oR (f0 (oR (f0 h0) 0)) 5)) 3).toInt ∧ r.toInt = -5 ∧ (oI (f (oR (f0 (oR (f0 h0) 0)) 5)) 3).toInt = (oI (f0 (oR (f0 (oR (f0 h0) 0)) 5)) 3).toInt) ∨ (((-1000 ≤ u1.toInt ∧ u1.toInt ≤ 1000) ∧ -1000 ≤ u2.toInt ∧ u2.toInt ≤ 1000) ∧ (oI (f0 (oR (f0 (oR (f0 h0) 0)) 5)) 3).toInt < 9 ∧ r.toInt = (oI (f0 (oR (f0 (oR (f0 h0) 0)) 5)) 3).toInt + 1 ∧ (oI (f (oR (f0 (oR (f0 h0) 0)) 5)) 3).toInt = (oI (f0 (oR (f0 (oR (f0 h0) 0)) 5)) 3).toInt + 1))) ∧ FM kp L ms_X11_offer_w f0 f ∧ (WT kp L [(oR (f0 (oR (f0 h0) 0)) 5)] f0 f)
set_option maxHeartbeats 4000000 in
set_option maxRecDepth 100000 in
theorem c_X11_offer_w (l : Launch) (G : va_G) (cI cJ cZ cD cR cT : ClassId) (kp : Nat → Nat) (L : List Nat) (f0 : Nat → va_E) (hTH : TH cI cJ cZ cD cR cT kp L f0) (sz : Nat) (h0 : Nat) (u1 : Int32) (u2 : Int32) (rh0 : RK kp L h0 11) : Met l yX11_offer (Cond.code yX11_offer cX11_offer 3 (some .int) :: wTab) ({ frames := 2, cells := 0, slots := 0, locals := 62 }) (va_Pc [.ref h0, .int u1, .int u2] (PreW G (tys6 cI cJ cZ cD cR cT) (va_pl L f0) sz)) (QT (po_X11_offer_w kp L f0 h0 u1 u2) G cI cJ cZ cD cR cT (va_A (va_pl L f0) sz) kp L) 0 0 (va_A (va_pl L f0) sz) := by
  refine metT (by decide) (Nat.le_of_ble_eq_true rfl) hTH ?_
  intro p e s m below meth c A ls E hW hl
  obtain ⟨hx, hb, -, hml, hown, hts, -, -, -⟩ := id E
  have hF : FM kp L ms_X11_offer_w f0 f0 := FM.rf
  have hl : lv_has ls 3 [(0, .ref h0), (1, .int u1), (2, .int u2)] := hl
  obtain ⟨C, mC⟩ : ∃ x : Nat, oR (f0 h0) 0 = x := ⟨_, rfl⟩
  have rC : RK kp L C 0 := by rw [← mC]; exact th_ref hTH rh0 (by decide) (by decide) rfl
  obtain ⟨C5, mC5⟩ : ∃ x : Nat, oR (f0 C) 5 = x := ⟨_, rfl⟩
  have rC5 : RK kp L C5 3 := by rw [← mC5]; exact th_ref hTH rC (by decide) (by decide) rfl
  obtain ⟨vc, mvc⟩ : ∃ x : Int32, oI (f0 C5) 3 = x := ⟨_, rfl⟩
  have bvc : (0 : Int) ≤ vc.toInt ∧ vc.toInt ≤ 9 := by rw [← mvc]; exact th_ivT hTH rC5 (by decide) (by decide) rfl
  refine lv_iload_n hx hb dX11_offer_0 rfl (lv_at hl 1 rfl) ?_
  refine lv_sipush (v := (-1000)) hx hb dX11_offer_1 (by decide) ?_
  refine lv_sipush (v := 1000) hx hb dX11_offer_4 (by decide) ?_
  have hW0 := hW.2.2.2
  refine t_callS (As := [.int u1, .int (-1000), .int 1000]) (rest := []) E hW (c_X11_within l G cI cJ cZ cD cR cT kp L f0 hW.2.2.2 _ u1 (-1000) 1000 (by decide)) wk_X11_within tw_599 rfl ⟨Nat.le_of_ble_eq_true rfl, Nat.le_of_ble_eq_true rfl⟩ ⟨rfl, rfl⟩ hl.1 rfl (Nat.le_of_ble_eq_true rfl) dX11_offer_7 ⟨Nat.le_of_ble_eq_true rfl, Nat.le_of_ble_eq_true rfl⟩ (fun v1 f2 H locs q3 hW => ?_)
  obtain ⟨⟨x5, rfl, p6⟩, g4⟩ := q3
  have p6 : (x5.toInt = 1 ∧ (-1000 : Int) ≤ u1.toInt ∧ u1.toInt ≤ (1000 : Int)) ∨ (x5.toInt = 0 ∧ (u1.toInt < (-1000 : Int) ∨ (1000 : Int) < u1.toInt)) := p6
  have z7 : WT kp L [C5] f0 f2 := wt_fm (wt_rf : WT kp L [C5] f0 f0) g4 rfl
  have hF := FM.tr hF g4 rfl
  refine q_if_eq (tgt := 26) hx hb dX11_offer_10 (by decide) rfl (fun c8 => ?_) (fun c8 => ?_)
  · have q9 : (u1.toInt < (-1000 : Int) ∨ (1000 : Int) < u1.toInt) := by omega
    clear p6
    refine lv_aload_n hx hb dX11_offer_26 rfl (lv_at hl 0 rfl) ?_
    refine lv_iconst (v := (-1)) hx hb dX11_offer_27 (by decide) ?_
    have hW0 := hW.2.2.2
    refine t_callV (As := [.int (-1)]) (rest := []) E hW (c_X11_refuse_x l G cI cJ cZ cD cR cT kp L f2 hW.2.2.2 _ h0 (-1) rh0 (by decide)) rh0 (by decide) rfl wk_X11_refuse tw_603 rfl ⟨Nat.le_of_ble_eq_true rfl, Nat.le_of_ble_eq_true rfl⟩ ⟨rfl, rfl⟩ hl.1 rfl (Nat.le_of_ble_eq_true rfl) dX11_offer_28 ⟨Nat.le_of_ble_eq_true rfl, Nat.le_of_ble_eq_true rfl⟩ (fun v10 f11 H locs q12 hW => ?_)
    obtain ⟨⟨x14, rfl, p15⟩, g13⟩ := q12
    have p15 : x14.toInt = (-1 : Int) := p15
    have z16 : WT kp L [C5] f0 f11 := wt_fm z7 g13 rfl
    have hF := FM.tr hF g13 rfl
    exact e_I E hW rfl ⟨⟨_, rfl, (by rw [mC, mC5, ((fm_I g13 rC5 rfl).trans ((fm_I g4 rC5 rfl).trans mvc)), mvc]; omega)⟩, hF, (by rw [mC, mC5]; exact z16)⟩ dX11_offer_31
  · have q17 : (-1000 : Int) ≤ u1.toInt ∧ u1.toInt ≤ (1000 : Int) := by omega
    clear p6
    refine lv_iload_n hx hb dX11_offer_13 rfl (lv_at hl 2 rfl) ?_
    refine lv_sipush (v := (-1000)) hx hb dX11_offer_14 (by decide) ?_
    refine lv_sipush (v := 1000) hx hb dX11_offer_17 (by decide) ?_
    have hW0 := hW.2.2.2
    refine t_callS (As := [.int u2, .int (-1000), .int 1000]) (rest := []) E hW (c_X11_within l G cI cJ cZ cD cR cT kp L f2 hW.2.2.2 _ u2 (-1000) 1000 (by decide)) wk_X11_within tw_599 rfl ⟨Nat.le_of_ble_eq_true rfl, Nat.le_of_ble_eq_true rfl⟩ ⟨rfl, rfl⟩ hl.1 rfl (Nat.le_of_ble_eq_true rfl) dX11_offer_20 ⟨Nat.le_of_ble_eq_true rfl, Nat.le_of_ble_eq_true rfl⟩ (fun v18 f19 H locs q20 hW => ?_)
    obtain ⟨⟨x22, rfl, p23⟩, g21⟩ := q20
    have p23 : (x22.toInt = 1 ∧ (-1000 : Int) ≤ u2.toInt ∧ u2.toInt ≤ (1000 : Int)) ∨ (x22.toInt = 0 ∧ (u2.toInt < (-1000 : Int) ∨ (1000 : Int) < u2.toInt)) := p23
    have z24 : WT kp L [C5] f0 f19 := wt_fm z7 g21 rfl
    have hF := FM.tr hF g21 rfl
    refine q_if_ne (tgt := 32) hx hb dX11_offer_23 (by decide) rfl (fun c25 => ?_) (fun c25 => ?_)
    · have q26 : (-1000 : Int) ≤ u2.toInt ∧ u2.toInt ≤ (1000 : Int) := by omega
      clear p23
      refine lv_aload_n hx hb dX11_offer_32 rfl (lv_at hl 0 rfl) ?_
      refine fg_RX11_12 E hW rh0 dX11_offer_33 (fun a27 m28 r29 => ?_)
      obtain rfl : C = a27 := (((fm_R g21 rh0 rfl).trans ((fm_R g4 rh0 rfl).trans mC))).symm.trans m28
      refine fg_RX11_98 E hW rC dX11_offer_36 (fun a30 m31 r32 => ?_)
      obtain rfl : C5 = a30 := (((fm_R g21 rC rfl).trans ((fm_R g4 rC rfl).trans mC5))).symm.trans m31
      refine fg_RX11_297 E hW rC5 dX11_offer_39 (fun y33 m34 b35 => ?_)
      obtain rfl : vc = y33 := (((fm_I g21 rC5 rfl).trans ((fm_I g4 rC5 rfl).trans mvc))).symm.trans m34
      refine lv_bipush (v := 9) hx hb dX11_offer_42 (by decide) ?_
      refine q_icmp_lt (Y := 9) (tgt := 54) hx hb dX11_offer_44 (by decide) rfl rfl (fun c36 => ?_) (fun c36 => ?_)
      · refine lv_aload_n hx hb dX11_offer_54 rfl (lv_at hl 0 rfl) ?_
        refine lv_aload_n hx hb dX11_offer_55 rfl (lv_at hl 0 rfl) ?_
        refine fg_RX11_12 E hW rh0 dX11_offer_56 (fun a37 m38 r39 => ?_)
        obtain rfl : C = a37 := (m28).symm.trans m38
        refine fg_RX11_98 E hW rC dX11_offer_59 (fun a40 m41 r42 => ?_)
        obtain rfl : C5 = a40 := (m31).symm.trans m41
        refine lv_iload_n hx hb dX11_offer_62 rfl (lv_at hl 1 rfl) ?_
        refine lv_iload_n hx hb dX11_offer_63 rfl (lv_at hl 2 rfl) ?_
        have hW0 := hW.2.2.2
        refine t_callV (As := [.int u1, .int u2]) (rest := [.ref h0]) E hW (c_X3_addOffer_w l G cI cJ cZ cD cR cT kp L f19 hW.2.2.2 _ C5 u1 u2 rC5) rC5 (by decide) rfl wk_X3_addOffer tw_1230 rfl ⟨Nat.le_of_ble_eq_true rfl, Nat.le_of_ble_eq_true rfl⟩ ⟨rfl, rfl⟩ hl.1 rfl (Nat.le_of_ble_eq_true rfl) dX11_offer_64 ⟨Nat.le_of_ble_eq_true rfl, Nat.le_of_ble_eq_true rfl⟩ (fun v43 f44 H locs q45 hW => ?_)
        obtain ⟨⟨x49, rfl, p50⟩, g46, h47, h48⟩ := q45
        rw [m34] at p50
        have hF := FM.tr hF g46 rfl
        have z52 : WT kp L [C5] f0 f44 := wt_call z24 h48 (by intro q h; simp only [List.mem_cons, List.not_mem_nil, or_false] at h ⊢; omega)
        obtain ⟨y53, m54⟩ : ∃ x : Int32, oI (f44 C5) 3 = x := ⟨_, rfl⟩
        rw [m54, m34] at h47
        have hW0 := hW.2.2.2
        refine t_callV (As := [.int x49]) (rest := []) E hW (c_X11_accept_x l G cI cJ cZ cD cR cT kp L f44 hW.2.2.2 _ h0 x49 rh0) rh0 (by decide) rfl wk_X11_accept tw_611 rfl ⟨Nat.le_of_ble_eq_true rfl, Nat.le_of_ble_eq_true rfl⟩ ⟨rfl, rfl⟩ hl.1 rfl (Nat.le_of_ble_eq_true rfl) dX11_offer_67 ⟨Nat.le_of_ble_eq_true rfl, Nat.le_of_ble_eq_true rfl⟩ (fun v55 f56 H locs q57 hW => ?_)
        obtain ⟨⟨x59, rfl, p60⟩, g58⟩ := q57
        have z61 : WT kp L [C5] f0 f56 := wt_fm z52 g58 rfl
        have hF := FM.tr hF g58 rfl
        exact e_I E hW rfl ⟨⟨_, rfl, (by rw [mC, mC5, ((fm_I g58 rC5 rfl).trans m54), mvc]; omega)⟩, hF, (by rw [mC, mC5]; exact z61)⟩ dX11_offer_70
      · refine lv_aload_n hx hb dX11_offer_47 rfl (lv_at hl 0 rfl) ?_
        refine lv_bipush (v := (-5)) hx hb dX11_offer_48 (by decide) ?_
        have hW0 := hW.2.2.2
        refine t_callV (As := [.int (-5)]) (rest := []) E hW (c_X11_refuse_x l G cI cJ cZ cD cR cT kp L f19 hW.2.2.2 _ h0 (-5) rh0 (by decide)) rh0 (by decide) rfl wk_X11_refuse tw_603 rfl ⟨Nat.le_of_ble_eq_true rfl, Nat.le_of_ble_eq_true rfl⟩ ⟨rfl, rfl⟩ hl.1 rfl (Nat.le_of_ble_eq_true rfl) dX11_offer_50 ⟨Nat.le_of_ble_eq_true rfl, Nat.le_of_ble_eq_true rfl⟩ (fun v62 f63 H locs q64 hW => ?_)
        obtain ⟨⟨x66, rfl, p67⟩, g65⟩ := q64
        have p67 : x66.toInt = (-5 : Int) := p67
        have z68 : WT kp L [C5] f0 f63 := wt_fm z24 g65 rfl
        have hF := FM.tr hF g65 rfl
        exact e_I E hW rfl ⟨⟨_, rfl, (by rw [mC, mC5, ((fm_I g65 rC5 rfl).trans m34), mvc]; omega)⟩, hF, (by rw [mC, mC5]; exact z68)⟩ dX11_offer_53
    · have q69 : (u2.toInt < (-1000 : Int) ∨ (1000 : Int) < u2.toInt) := by omega
      clear p23
      refine lv_aload_n hx hb dX11_offer_26 rfl (lv_at hl 0 rfl) ?_
      refine lv_iconst (v := (-1)) hx hb dX11_offer_27 (by decide) ?_
      have hW0 := hW.2.2.2
      refine t_callV (As := [.int (-1)]) (rest := []) E hW (c_X11_refuse_x l G cI cJ cZ cD cR cT kp L f19 hW.2.2.2 _ h0 (-1) rh0 (by decide)) rh0 (by decide) rfl wk_X11_refuse tw_603 rfl ⟨Nat.le_of_ble_eq_true rfl, Nat.le_of_ble_eq_true rfl⟩ ⟨rfl, rfl⟩ hl.1 rfl (Nat.le_of_ble_eq_true rfl) dX11_offer_28 ⟨Nat.le_of_ble_eq_true rfl, Nat.le_of_ble_eq_true rfl⟩ (fun v70 f71 H locs q72 hW => ?_)
      obtain ⟨⟨x74, rfl, p75⟩, g73⟩ := q72
      have p75 : x74.toInt = (-1 : Int) := p75
      have z76 : WT kp L [C5] f0 f71 := wt_fm z24 g73 rfl
      have hF := FM.tr hF g73 rfl
      exact e_I E hW rfl ⟨⟨_, rfl, (by rw [mC, mC5, ((fm_I g73 rC5 rfl).trans ((fm_I g21 rC5 rfl).trans ((fm_I g4 rC5 rfl).trans mvc))), mvc]; omega)⟩, hF, (by rw [mC, mC5]; exact z76)⟩ dX11_offer_31
def ms_X11_brave_w : List (Nat × Nat) := [(3, 1), (11, 15)]
def po_X11_brave_w (kp : Nat → Nat) (L : List Nat) (f0 : Nat → va_E) (h0 : Nat) (u1 : Int32) : Option Value → (Nat → va_E) → Prop := fun v f => (∃ r : Int32, v = some (.int r) ∧ ((¬ (0 ≤ u1.toInt ∧ u1.toInt ≤ 101) ∧ r.toInt = -1 ∧ (oI (f (oR (f0 (oR (f0 h0) 0)) 5)) 1).toInt = (oI (f0 (oR (f0 (oR (f0 h0) 0)) 5)) 1).toInt) ∨ ((0 ≤ u1.toInt ∧ u1.toInt ≤ 101) ∧ r.toInt = (oI (f0 (oR (f0 (oR (f0 h0) 0)) 5)) 1).toInt ∧ (oI (f (oR (f0 (oR (f0 h0) 0)) 5)) 1).toInt = u1.toInt))) ∧ FM kp L ms_X11_brave_w f0 f ∧ (WT kp L [(oR (f0 (oR (f0 h0) 0)) 5)] f0 f)
set_option maxHeartbeats 4000000 in
set_option maxRecDepth 100000 in
theorem c_X11_brave_w (l : Launch) (G : va_G) (cI cJ cZ cD cR cT : ClassId) (kp : Nat → Nat) (L : List Nat) (f0 : Nat → va_E) (hTH : TH cI cJ cZ cD cR cT kp L f0) (sz : Nat) (h0 : Nat) (u1 : Int32) (rh0 : RK kp L h0 11) : Met l yX11_brave (Cond.code yX11_brave cX11_brave 3 (some .int) :: wTab) ({ frames := 2, cells := 0, slots := 0, locals := 62 }) (va_Pc [.ref h0, .int u1] (PreW G (tys6 cI cJ cZ cD cR cT) (va_pl L f0) sz)) (QT (po_X11_brave_w kp L f0 h0 u1) G cI cJ cZ cD cR cT (va_A (va_pl L f0) sz) kp L) 0 0 (va_A (va_pl L f0) sz) := by
  refine metT (by decide) (Nat.le_of_ble_eq_true rfl) hTH ?_
  intro p e s m below meth c A ls E hW hl
  obtain ⟨hx, hb, -, hml, hown, hts, -, -, -⟩ := id E
  have hF : FM kp L ms_X11_brave_w f0 f0 := FM.rf
  have hl : lv_has ls 3 [(0, .ref h0), (1, .int u1)] := hl
  obtain ⟨C, mC⟩ : ∃ x : Nat, oR (f0 h0) 0 = x := ⟨_, rfl⟩
  have rC : RK kp L C 0 := by rw [← mC]; exact th_ref hTH rh0 (by decide) (by decide) rfl
  obtain ⟨C5, mC5⟩ : ∃ x : Nat, oR (f0 C) 5 = x := ⟨_, rfl⟩
  have rC5 : RK kp L C5 3 := by rw [← mC5]; exact th_ref hTH rC (by decide) (by decide) rfl
  obtain ⟨vc, mvc⟩ : ∃ x : Int32, oI (f0 C5) 1 = x := ⟨_, rfl⟩
  refine lv_iload_n hx hb dX11_brave_0 rfl (lv_at hl 1 rfl) ?_
  refine lv_iconst (v := 0) hx hb dX11_brave_1 (by decide) ?_
  refine lv_bipush (v := 101) hx hb dX11_brave_2 (by decide) ?_
  have hW0 := hW.2.2.2
  refine t_callS (As := [.int u1, .int 0, .int 101]) (rest := []) E hW (c_X11_within l G cI cJ cZ cD cR cT kp L f0 hW.2.2.2 _ u1 0 101 (by decide)) wk_X11_within tw_599 rfl ⟨Nat.le_of_ble_eq_true rfl, Nat.le_of_ble_eq_true rfl⟩ ⟨rfl, rfl⟩ hl.1 rfl (Nat.le_of_ble_eq_true rfl) dX11_brave_4 ⟨Nat.le_of_ble_eq_true rfl, Nat.le_of_ble_eq_true rfl⟩ (fun v1 f2 H locs q3 hW => ?_)
  obtain ⟨⟨x5, rfl, p6⟩, g4⟩ := q3
  have p6 : (x5.toInt = 1 ∧ (0 : Int) ≤ u1.toInt ∧ u1.toInt ≤ (101 : Int)) ∨ (x5.toInt = 0 ∧ (u1.toInt < (0 : Int) ∨ (101 : Int) < u1.toInt)) := p6
  have z7 : WT kp L [C5] f0 f2 := wt_fm (wt_rf : WT kp L [C5] f0 f0) g4 rfl
  have hF := FM.tr hF g4 rfl
  refine q_if_ne (tgt := 16) hx hb dX11_brave_7 (by decide) rfl (fun c8 => ?_) (fun c8 => ?_)
  · have q9 : (0 : Int) ≤ u1.toInt ∧ u1.toInt ≤ (101 : Int) := by omega
    clear p6
    refine lv_aload_n hx hb dX11_brave_16 rfl (lv_at hl 0 rfl) ?_
    refine fg_RX11_12 E hW rh0 dX11_brave_17 (fun a10 m11 r12 => ?_)
    obtain rfl : C = a10 := (((fm_R g4 rh0 rfl).trans mC)).symm.trans m11
    refine fg_RX11_98 E hW rC dX11_brave_20 (fun a13 m14 r15 => ?_)
    obtain rfl : C5 = a13 := (((fm_R g4 rC rfl).trans mC5)).symm.trans m14
    refine fg_RX11_282 E hW rC5 dX11_brave_23 (fun y16 m17 => ?_)
    obtain rfl : vc = y16 := (((fm_I g4 rC5 rfl).trans mvc)).symm.trans m17
    refine lv_istore_n (lv' := [(2, .int vc), (0, .ref h0), (1, .int u1)]) hx hb dX11_brave_26 rfl hl (by decide) rfl (fun ls hl => ?_)
    refine lv_aload_n hx hb dX11_brave_27 rfl (lv_at hl 1 rfl) ?_
    refine fg_RX11_12 E hW rh0 dX11_brave_28 (fun a19 m20 r21 => ?_)
    obtain rfl : C = a19 := (m11).symm.trans m20
    refine fg_RX11_98 E hW rC dX11_brave_31 (fun a22 m23 r24 => ?_)
    obtain rfl : C5 = a22 := (m14).symm.trans m23
    refine lv_iload_n hx hb dX11_brave_34 rfl (lv_at hl 2 rfl) ?_
    have hW0 := hW.2.2.2
    refine fp_RX11_282 E hW rC5 dX11_brave_35 (fun f25 H locs e26 n27 g28 hW => ?_)
    have z29 : WT kp L [C5] f0 f25 := wt_put z7 n27 (by simp)
    have hF := FM.tr hF g28 rfl
    refine lv_aload_n hx hb dX11_brave_38 rfl (lv_at hl 1 rfl) ?_
    refine lv_iload_n hx hb dX11_brave_39 rfl (lv_at hl 0 rfl) ?_
    have hW0 := hW.2.2.2
    refine t_callV (As := [.int vc]) (rest := []) E hW (c_X11_accept_x l G cI cJ cZ cD cR cT kp L f25 hW.2.2.2 _ h0 vc rh0) rh0 (by decide) rfl wk_X11_accept tw_611 rfl ⟨Nat.le_of_ble_eq_true rfl, Nat.le_of_ble_eq_true rfl⟩ ⟨rfl, rfl⟩ hl.1 rfl (Nat.le_of_ble_eq_true rfl) dX11_brave_40 ⟨Nat.le_of_ble_eq_true rfl, Nat.le_of_ble_eq_true rfl⟩ (fun v30 f31 H locs q32 hW => ?_)
    obtain ⟨⟨x34, rfl, p35⟩, g33⟩ := q32
    have z36 : WT kp L [C5] f0 f31 := wt_fm z29 g33 rfl
    have hF := FM.tr hF g33 rfl
    exact e_I E hW rfl ⟨⟨_, rfl, (by rw [mC, mC5, ((fm_I g33 rC5 rfl).trans e26), mvc]; omega)⟩, hF, (by rw [mC, mC5]; exact z36)⟩ dX11_brave_43
  · have q37 : (u1.toInt < (0 : Int) ∨ (101 : Int) < u1.toInt) := by omega
    clear p6
    refine lv_aload_n hx hb dX11_brave_10 rfl (lv_at hl 0 rfl) ?_
    refine lv_iconst (v := (-1)) hx hb dX11_brave_11 (by decide) ?_
    have hW0 := hW.2.2.2
    refine t_callV (As := [.int (-1)]) (rest := []) E hW (c_X11_refuse_x l G cI cJ cZ cD cR cT kp L f2 hW.2.2.2 _ h0 (-1) rh0 (by decide)) rh0 (by decide) rfl wk_X11_refuse tw_603 rfl ⟨Nat.le_of_ble_eq_true rfl, Nat.le_of_ble_eq_true rfl⟩ ⟨rfl, rfl⟩ hl.1 rfl (Nat.le_of_ble_eq_true rfl) dX11_brave_12 ⟨Nat.le_of_ble_eq_true rfl, Nat.le_of_ble_eq_true rfl⟩ (fun v38 f39 H locs q40 hW => ?_)
    obtain ⟨⟨x42, rfl, p43⟩, g41⟩ := q40
    have p43 : x42.toInt = (-1 : Int) := p43
    have z44 : WT kp L [C5] f0 f39 := wt_fm z7 g41 rfl
    have hF := FM.tr hF g41 rfl
    exact e_I E hW rfl ⟨⟨_, rfl, (by rw [mC, mC5, ((fm_I g41 rC5 rfl).trans ((fm_I g4 rC5 rfl).trans mvc)), mvc]; omega)⟩, hF, (by rw [mC, mC5]; exact z44)⟩ dX11_brave_15
def ms_X11_image_w0 : List (Nat × Nat) := [(0, 6), (0, 9), (0, 12), (0, 13), (1, 0), (1, 8), (1, 12), (1, 13), (1, 14), (2, 0), (3, 0), (3, 1), (3, 2), (3, 3), (4, 0), (10, 0), (10, 7), (11, 4), (11, 5), (11, 15), (108, 0), (161, 0), (162, 0), (163, 0), (164, 0), (165, 0), (166, 0), (167, 0), (169, 0), (170, 0), (171, 0), (221, 0), (284, 0), (285, 0), (341, 0), (342, 0), (343, 0), (344, 0), (345, 0), (346, 0), (347, 0), (348, 0), (520, 0), (521, 0), (701, 0), (702, 0), (703, 0), (704, 0), (705, 0), (706, 0), (708, 0), (709, 0), (710, 0)]
def po_X11_image_w0 (kp : Nat → Nat) (L : List Nat) (f0 : Nat → va_E) (h0 : Nat) : Option Value → (Nat → va_E) → Prop := fun v f => (∃ r : Int32, v = some (.int r) ∧ (r.toInt = 0)) ∧ FM kp L ms_X11_image_w0 f0 f ∧ ((oI (f h0) 4).toInt = 1 ∧ (oI (f h0) 5).toInt = (oI (f0 h0) 5).toInt) ∧ (oI (f (oR (f0 (oR (f0 h0) 2)) 0)) 0 = oI (f0 (oR (f0 (oR (f0 h0) 0)) 0)) 0) ∧ (oI (f (oR (f0 (oR (f0 h0) 2)) 1)) 8 = oI (f0 (oR (f0 (oR (f0 h0) 0)) 1)) 8) ∧ (oI (f (oR (f0 (oR (f0 h0) 2)) 5)) 1 = oI (f0 (oR (f0 (oR (f0 h0) 0)) 5)) 1) ∧ (oI (f (oR (f0 (oR (f0 h0) 2)) 5)) 3 = oI (f0 (oR (f0 (oR (f0 h0) 0)) 5)) 3) ∧ (oI (f (oR (f0 h0) 2)) 6 = oI (f0 (oR (f0 h0) 0)) 6) ∧ (WT kp L [(oR (f0 h0) 2), oR (f0 (oR (f0 h0) 2)) 0, oR (f0 (oR (f0 h0) 2)) 1, oR (f0 (oR (f0 h0) 2)) 5] f0 f)
set_option maxHeartbeats 4000000 in
set_option maxRecDepth 100000 in
theorem c_X11_image_w0 (l : Launch) (G : va_G) (cI cJ cZ cD cR cT : ClassId) (kp : Nat → Nat) (L : List Nat) (f0 : Nat → va_E) (hTH : TH cI cJ cZ cD cR cT kp L f0) (sz : Nat) (h0 : Nat) (rh0 : RK kp L h0 11) : Met l yX11_image (Cond.code yX11_image cX11_image 2 (some .int) :: wTab) ({ frames := 3, cells := 0, slots := 0, locals := 103 }) (va_Pc [.ref h0, .int 0] (PreW G (tys6 cI cJ cZ cD cR cT) (va_pl L f0) sz)) (QT (po_X11_image_w0 kp L f0 h0) G cI cJ cZ cD cR cT (va_A (va_pl L f0) sz) kp L) 0 0 (va_A (va_pl L f0) sz) := by
  refine metT (by decide) (Nat.le_of_ble_eq_true rfl) hTH ?_
  intro p e s m below meth c A ls E hW hl
  obtain ⟨hx, hb, -, hml, hown, hts, -, -, -⟩ := id E
  have hF : FM kp L ms_X11_image_w0 f0 f0 := FM.rf
  have hl : lv_has ls 2 [(0, .ref h0), (1, .int 0)] := hl
  obtain ⟨C, mC⟩ : ∃ x : Nat, oR (f0 h0) 0 = x := ⟨_, rfl⟩
  have rC : RK kp L C 0 := by rw [← mC]; exact th_ref hTH rh0 (by decide) (by decide) rfl
  obtain ⟨C0, mC0⟩ : ∃ x : Nat, oR (f0 C) 0 = x := ⟨_, rfl⟩
  have rC0 : RK kp L C0 4 := by rw [← mC0]; exact th_ref hTH rC (by decide) (by decide) rfl
  obtain ⟨Cv0_0, mCv0_0⟩ : ∃ x : Int32, oI (f0 C0) 0 = x := ⟨_, rfl⟩
  have bCv0_0 : (0 : Int) ≤ Cv0_0.toInt ∧ Cv0_0.toInt ≤ 40 := by rw [← mCv0_0]; exact th_ivT hTH rC0 (by decide) (by decide) rfl
  obtain ⟨C1, mC1⟩ : ∃ x : Nat, oR (f0 C) 1 = x := ⟨_, rfl⟩
  have rC1 : RK kp L C1 1 := by rw [← mC1]; exact th_ref hTH rC (by decide) (by decide) rfl
  obtain ⟨Cv1_8, mCv1_8⟩ : ∃ x : Int32, oI (f0 C1) 8 = x := ⟨_, rfl⟩
  have bCv1_8 : (0 : Int) ≤ Cv1_8.toInt ∧ Cv1_8.toInt ≤ 8 := by rw [← mCv1_8]; exact th_ivT hTH rC1 (by decide) (by decide) rfl
  obtain ⟨C5, mC5⟩ : ∃ x : Nat, oR (f0 C) 5 = x := ⟨_, rfl⟩
  have rC5 : RK kp L C5 3 := by rw [← mC5]; exact th_ref hTH rC (by decide) (by decide) rfl
  obtain ⟨Cv5_1, mCv5_1⟩ : ∃ x : Int32, oI (f0 C5) 1 = x := ⟨_, rfl⟩
  obtain ⟨Cv5_3, mCv5_3⟩ : ∃ x : Int32, oI (f0 C5) 3 = x := ⟨_, rfl⟩
  have bCv5_3 : (0 : Int) ≤ Cv5_3.toInt ∧ Cv5_3.toInt ≤ 9 := by rw [← mCv5_3]; exact th_ivT hTH rC5 (by decide) (by decide) rfl
  obtain ⟨Cv6, mCv6⟩ : ∃ x : Int32, oI (f0 C) 6 = x := ⟨_, rfl⟩
  have bCv6 : (0 : Int) ≤ Cv6.toInt ∧ Cv6.toInt ≤ 399 := by rw [← mCv6]; exact th_ivT hTH rC (by decide) (by decide) rfl
  obtain ⟨I, mI⟩ : ∃ x : Nat, oR (f0 h0) 2 = x := ⟨_, rfl⟩
  have rI : RK kp L I 0 := by rw [← mI]; exact th_ref hTH rh0 (by decide) (by decide) rfl
  obtain ⟨I0, mI0⟩ : ∃ x : Nat, oR (f0 I) 0 = x := ⟨_, rfl⟩
  have rI0 : RK kp L I0 4 := by rw [← mI0]; exact th_ref hTH rI (by decide) (by decide) rfl
  obtain ⟨Iv0_0, mIv0_0⟩ : ∃ x : Int32, oI (f0 I0) 0 = x := ⟨_, rfl⟩
  have bIv0_0 : (0 : Int) ≤ Iv0_0.toInt ∧ Iv0_0.toInt ≤ 40 := by rw [← mIv0_0]; exact th_ivT hTH rI0 (by decide) (by decide) rfl
  obtain ⟨I1, mI1⟩ : ∃ x : Nat, oR (f0 I) 1 = x := ⟨_, rfl⟩
  have rI1 : RK kp L I1 1 := by rw [← mI1]; exact th_ref hTH rI (by decide) (by decide) rfl
  obtain ⟨Iv1_8, mIv1_8⟩ : ∃ x : Int32, oI (f0 I1) 8 = x := ⟨_, rfl⟩
  have bIv1_8 : (0 : Int) ≤ Iv1_8.toInt ∧ Iv1_8.toInt ≤ 8 := by rw [← mIv1_8]; exact th_ivT hTH rI1 (by decide) (by decide) rfl
  obtain ⟨I5, mI5⟩ : ∃ x : Nat, oR (f0 I) 5 = x := ⟨_, rfl⟩
  have rI5 : RK kp L I5 3 := by rw [← mI5]; exact th_ref hTH rI (by decide) (by decide) rfl
  obtain ⟨Iv5_1, mIv5_1⟩ : ∃ x : Int32, oI (f0 I5) 1 = x := ⟨_, rfl⟩
  obtain ⟨Iv5_3, mIv5_3⟩ : ∃ x : Int32, oI (f0 I5) 3 = x := ⟨_, rfl⟩
  have bIv5_3 : (0 : Int) ≤ Iv5_3.toInt ∧ Iv5_3.toInt ≤ 9 := by rw [← mIv5_3]; exact th_ivT hTH rI5 (by decide) (by decide) rfl
  obtain ⟨Iv6, mIv6⟩ : ∃ x : Int32, oI (f0 I) 6 = x := ⟨_, rfl⟩
  have bIv6 : (0 : Int) ≤ Iv6.toInt ∧ Iv6.toInt ≤ 399 := by rw [← mIv6]; exact th_ivT hTH rI (by decide) (by decide) rfl
  obtain ⟨ko, mko⟩ : ∃ x : Int32, oI (f0 h0) 4 = x := ⟨_, rfl⟩
  have bko : (0 : Int) ≤ ko.toInt ∧ ko.toInt ≤ 1 := by rw [← mko]; exact th_ivT hTH rh0 (by decide) (by decide) rfl
  obtain ⟨kx, mkx⟩ : ∃ x : Int32, oI (f0 h0) 5 = x := ⟨_, rfl⟩
  have bkx : (0 : Int) ≤ kx.toInt ∧ kx.toInt ≤ 1 := by rw [← mkx]; exact th_ivT hTH rh0 (by decide) (by decide) rfl
  refine lv_iload_n hx hb dX11_image_0 rfl (lv_at hl 1 rfl) ?_
  refine lv_iconst (v := 0) hx hb dX11_image_1 (by decide) ?_
  refine lv_iconst (v := 1) hx hb dX11_image_2 (by decide) ?_
  have hW0 := hW.2.2.2
  refine t_callS (As := [.int 0, .int 0, .int 1]) (rest := []) E hW (c_X11_within l G cI cJ cZ cD cR cT kp L f0 hW.2.2.2 _ 0 0 1 (by decide)) wk_X11_within tw_599 rfl ⟨Nat.le_of_ble_eq_true rfl, Nat.le_of_ble_eq_true rfl⟩ ⟨rfl, rfl⟩ hl.1 rfl (Nat.le_of_ble_eq_true rfl) dX11_image_3 ⟨Nat.le_of_ble_eq_true rfl, Nat.le_of_ble_eq_true rfl⟩ (fun v1 f2 H locs q3 hW => ?_)
  obtain ⟨⟨x5, rfl, p6⟩, g4⟩ := q3
  have p6 : (x5.toInt = 1 ∧ (0 : Int) ≤ (0 : Int) ∧ (0 : Int) ≤ (1 : Int)) ∨ (x5.toInt = 0 ∧ ((0 : Int) < (0 : Int) ∨ (1 : Int) < (0 : Int))) := p6
  have z7 : WT kp L [I, I0, I1, I5] f0 f2 := wt_fm (wt_rf : WT kp L [I, I0, I1, I5] f0 f0) g4 rfl
  have hF := FM.tr hF g4 rfl
  refine q_if_ne (tgt := 15) hx hb dX11_image_6 (by decide) rfl (fun c8 => ?_) (fun c8 => ?_)
  · have q9 : (0 : Int) ≤ (0 : Int) ∧ (0 : Int) ≤ (1 : Int) := by omega
    clear p6
    refine lv_iload_n hx hb dX11_image_15 rfl (lv_at hl 1 rfl) ?_
    refine q_if_ne (X := 0) (tgt := 38) hx hb dX11_image_16 (by decide) rfl (fun c => absurd c (by decide)) (fun _ => ?_)
    refine lv_aload_n hx hb dX11_image_19 rfl (lv_at hl 0 rfl) ?_
    refine fg_RX11_21 E hW rh0 dX11_image_20 (fun a10 m11 r12 => ?_)
    obtain rfl : I = a10 := (((fm_R g4 rh0 rfl).trans mI)).symm.trans m11
    refine lv_aload_n hx hb dX11_image_23 rfl (lv_at hl 0 rfl) ?_
    refine fg_RX11_12 E hW rh0 dX11_image_24 (fun a13 m14 r15 => ?_)
    obtain rfl : C = a13 := (((fm_R g4 rh0 rfl).trans mC)).symm.trans m14
    have hW0 := hW.2.2.2
    refine t_callV (As := [.ref C]) (rest := []) E hW (c_X0_copyFrom_w l G cI cJ cZ cD cR cT kp L f2 hW.2.2.2 _ I C rI rC) rI (by decide) rfl wk_X0_copyFrom tw_1285 rfl ⟨Nat.le_of_ble_eq_true rfl, Nat.le_of_ble_eq_true rfl⟩ ⟨rfl, rfl⟩ hl.1 rfl (Nat.le_of_ble_eq_true rfl) dX11_image_27 ⟨Nat.le_of_ble_eq_true rfl, Nat.le_of_ble_eq_true rfl⟩ (fun v16 f17 H locs q18 hW => ?_)
    obtain ⟨rfl, g19, h20, h21, h22, h23, h24, h25⟩ := q18
    have hF := FM.tr hF g19 rfl
    have z27 : WT kp L [I, I0, I1, I5] f0 f17 := wt_call z7 h25 (by rw [((fm_R g4 rI rfl).trans mI0), ((fm_R g4 rI rfl).trans mI1), ((fm_R g4 rI rfl).trans mI5)]; intro q h; simp only [List.mem_cons, List.not_mem_nil, or_false] at h ⊢; omega)
    have e28 : oI (f17 I0) 0 = Cv0_0 := by have q := h20; rw [((fm_R g4 rI rfl).trans mI0), ((fm_R g4 rC rfl).trans mC0)] at q; exact q.trans ((fm_I g4 rC0 rfl).trans mCv0_0)
    have e29 : oI (f17 I1) 8 = Cv1_8 := by have q := h21; rw [((fm_R g4 rI rfl).trans mI1), ((fm_R g4 rC rfl).trans mC1)] at q; exact q.trans ((fm_I g4 rC1 rfl).trans mCv1_8)
    have e30 : oI (f17 I5) 1 = Cv5_1 := by have q := h22; rw [((fm_R g4 rI rfl).trans mI5), ((fm_R g4 rC rfl).trans mC5)] at q; exact q.trans ((fm_I g4 rC5 rfl).trans mCv5_1)
    have e31 : oI (f17 I5) 3 = Cv5_3 := by have q := h23; rw [((fm_R g4 rI rfl).trans mI5), ((fm_R g4 rC rfl).trans mC5)] at q; exact q.trans ((fm_I g4 rC5 rfl).trans mCv5_3)
    refine lv_aload_n hx hb dX11_image_30 rfl (lv_at hl 0 rfl) ?_
    refine lv_iconst (v := 1) hx hb dX11_image_31 (by decide) ?_
    have hW0 := hW.2.2.2
    refine fp_RX11_349 E hW rh0 (by decide) dX11_image_32 (fun f32 H locs e33 n34 g35 hW => ?_)
    have z36 : WT kp L [I, I0, I1, I5] f0 f32 := wt_fm z27 g35 rfl
    have hF := FM.tr hF g35 rfl
    refine lv_goto (tgt := 54) hx hb dX11_image_35 (by decide) ?_
    refine lv_aload_n hx hb dX11_image_54 rfl (lv_at hl 0 rfl) ?_
    refine lv_iconst (v := 0) hx hb dX11_image_55 (by decide) ?_
    have hW0 := hW.2.2.2
    refine t_callV (As := [.int 0]) (rest := []) E hW (c_X11_accept_x l G cI cJ cZ cD cR cT kp L f32 hW.2.2.2 _ h0 0 rh0) rh0 (by decide) rfl wk_X11_accept tw_611 rfl ⟨Nat.le_of_ble_eq_true rfl, Nat.le_of_ble_eq_true rfl⟩ ⟨rfl, rfl⟩ hl.1 rfl (Nat.le_of_ble_eq_true rfl) dX11_image_56 ⟨Nat.le_of_ble_eq_true rfl, Nat.le_of_ble_eq_true rfl⟩ (fun v37 f38 H locs q39 hW => ?_)
    obtain ⟨⟨x41, rfl, p42⟩, g40⟩ := q39
    have p42 : x41.toInt = (0 : Int) := p42
    have z43 : WT kp L [I, I0, I1, I5] f0 f38 := wt_fm z36 g40 rfl
    have hF := FM.tr hF g40 rfl
    exact e_I E hW rfl ⟨⟨_, rfl, (by first | omega | trivial)⟩, hF, (by have h1 : (1 : Int32).toInt = 1 := rfl; rw [((fm_I g40 rh0 rfl).trans e33), ((fm_I g40 rh0 rfl).trans ((fm_I g35 rh0 rfl).trans ((fm_I g19 rh0 rfl).trans ((fm_I g4 rh0 rfl).trans mkx)))), mkx]; omega), (by rw [mI, mC, mI0, mC0]; exact (((fm_I g40 rI0 rfl).trans ((fm_I g35 rI0 rfl).trans e28))).trans (mCv0_0).symm), (by rw [mI, mC, mI1, mC1]; exact (((fm_I g40 rI1 rfl).trans ((fm_I g35 rI1 rfl).trans e29))).trans (mCv1_8).symm), (by rw [mI, mC, mI5, mC5]; exact (((fm_I g40 rI5 rfl).trans ((fm_I g35 rI5 rfl).trans e30))).trans (mCv5_1).symm), (by rw [mI, mC, mI5, mC5]; exact (((fm_I g40 rI5 rfl).trans ((fm_I g35 rI5 rfl).trans e31))).trans (mCv5_3).symm), (by rw [mI, mC]; exact (((fm_I g40 rI rfl).trans ((fm_I g35 rI rfl).trans (h24.trans ((fm_I g4 rC rfl).trans mCv6))))).trans (mCv6).symm), (by rw [mI, mI0, mI1, mI5]; exact z43)⟩ dX11_image_59
  · exfalso; omega
def ms_X11_back_w0 : List (Nat × Nat) := [(0, 6), (0, 9), (0, 12), (0, 13), (1, 0), (1, 8), (1, 12), (1, 13), (1, 14), (2, 0), (3, 0), (3, 1), (3, 2), (3, 3), (4, 0), (10, 0), (10, 7), (11, 15), (108, 0), (161, 0), (162, 0), (163, 0), (164, 0), (165, 0), (166, 0), (167, 0), (169, 0), (170, 0), (171, 0), (221, 0), (284, 0), (285, 0), (341, 0), (342, 0), (343, 0), (344, 0), (345, 0), (346, 0), (347, 0), (348, 0), (520, 0), (521, 0), (701, 0), (702, 0), (703, 0), (704, 0), (705, 0), (706, 0), (708, 0), (709, 0), (710, 0)]
def po_X11_back_w0 (kp : Nat → Nat) (L : List Nat) (f0 : Nat → va_E) (h0 : Nat) : Option Value → (Nat → va_E) → Prop := fun v f => (∃ r : Int32, v = some (.int r) ∧ ((r.toInt = -2 ∧ (oI (f0 h0) 4).toInt = 0) ∨ (r.toInt = 0 ∧ ¬ (oI (f0 h0) 4).toInt = 0))) ∧ FM kp L ms_X11_back_w0 f0 f ∧ (((oI (f0 h0) 4).toInt = 0 ∧ oI (f (oR (f0 (oR (f0 h0) 0)) 0)) 0 = oI (f0 (oR (f0 (oR (f0 h0) 0)) 0)) 0) ∨ (¬ (oI (f0 h0) 4).toInt = 0 ∧ oI (f (oR (f0 (oR (f0 h0) 0)) 0)) 0 = oI (f0 (oR (f0 (oR (f0 h0) 2)) 0)) 0)) ∧ (((oI (f0 h0) 4).toInt = 0 ∧ oI (f (oR (f0 (oR (f0 h0) 0)) 1)) 8 = oI (f0 (oR (f0 (oR (f0 h0) 0)) 1)) 8) ∨ (¬ (oI (f0 h0) 4).toInt = 0 ∧ oI (f (oR (f0 (oR (f0 h0) 0)) 1)) 8 = oI (f0 (oR (f0 (oR (f0 h0) 2)) 1)) 8)) ∧ (((oI (f0 h0) 4).toInt = 0 ∧ oI (f (oR (f0 (oR (f0 h0) 0)) 5)) 1 = oI (f0 (oR (f0 (oR (f0 h0) 0)) 5)) 1) ∨ (¬ (oI (f0 h0) 4).toInt = 0 ∧ oI (f (oR (f0 (oR (f0 h0) 0)) 5)) 1 = oI (f0 (oR (f0 (oR (f0 h0) 2)) 5)) 1)) ∧ (((oI (f0 h0) 4).toInt = 0 ∧ oI (f (oR (f0 (oR (f0 h0) 0)) 5)) 3 = oI (f0 (oR (f0 (oR (f0 h0) 0)) 5)) 3) ∨ (¬ (oI (f0 h0) 4).toInt = 0 ∧ oI (f (oR (f0 (oR (f0 h0) 0)) 5)) 3 = oI (f0 (oR (f0 (oR (f0 h0) 2)) 5)) 3)) ∧ (((oI (f0 h0) 4).toInt = 0 ∧ oI (f (oR (f0 h0) 0)) 6 = oI (f0 (oR (f0 h0) 0)) 6) ∨ (¬ (oI (f0 h0) 4).toInt = 0 ∧ oI (f (oR (f0 h0) 0)) 6 = oI (f0 (oR (f0 h0) 2)) 6)) ∧ (WT kp L [(oR (f0 h0) 0), oR (f0 (oR (f0 h0) 0)) 0, oR (f0 (oR (f0 h0) 0)) 1, oR (f0 (oR (f0 h0) 0)) 5] f0 f)
set_option maxHeartbeats 4000000 in
set_option maxRecDepth 100000 in
theorem c_X11_back_w0 (l : Launch) (G : va_G) (cI cJ cZ cD cR cT : ClassId) (kp : Nat → Nat) (L : List Nat) (f0 : Nat → va_E) (hTH : TH cI cJ cZ cD cR cT kp L f0) (sz : Nat) (h0 : Nat) (rh0 : RK kp L h0 11) : Met l yX11_back (Cond.code yX11_back cX11_back 2 (some .int) :: wTab) ({ frames := 3, cells := 0, slots := 0, locals := 103 }) (va_Pc [.ref h0, .int 0] (PreW G (tys6 cI cJ cZ cD cR cT) (va_pl L f0) sz)) (QT (po_X11_back_w0 kp L f0 h0) G cI cJ cZ cD cR cT (va_A (va_pl L f0) sz) kp L) 0 0 (va_A (va_pl L f0) sz) := by
  refine metT (by decide) (Nat.le_of_ble_eq_true rfl) hTH ?_
  intro p e s m below meth c A ls E hW hl
  obtain ⟨hx, hb, -, hml, hown, hts, -, -, -⟩ := id E
  have hF : FM kp L ms_X11_back_w0 f0 f0 := FM.rf
  have hl : lv_has ls 2 [(0, .ref h0), (1, .int 0)] := hl
  obtain ⟨C, mC⟩ : ∃ x : Nat, oR (f0 h0) 0 = x := ⟨_, rfl⟩
  have rC : RK kp L C 0 := by rw [← mC]; exact th_ref hTH rh0 (by decide) (by decide) rfl
  obtain ⟨C0, mC0⟩ : ∃ x : Nat, oR (f0 C) 0 = x := ⟨_, rfl⟩
  have rC0 : RK kp L C0 4 := by rw [← mC0]; exact th_ref hTH rC (by decide) (by decide) rfl
  obtain ⟨Cv0_0, mCv0_0⟩ : ∃ x : Int32, oI (f0 C0) 0 = x := ⟨_, rfl⟩
  have bCv0_0 : (0 : Int) ≤ Cv0_0.toInt ∧ Cv0_0.toInt ≤ 40 := by rw [← mCv0_0]; exact th_ivT hTH rC0 (by decide) (by decide) rfl
  obtain ⟨C1, mC1⟩ : ∃ x : Nat, oR (f0 C) 1 = x := ⟨_, rfl⟩
  have rC1 : RK kp L C1 1 := by rw [← mC1]; exact th_ref hTH rC (by decide) (by decide) rfl
  obtain ⟨Cv1_8, mCv1_8⟩ : ∃ x : Int32, oI (f0 C1) 8 = x := ⟨_, rfl⟩
  have bCv1_8 : (0 : Int) ≤ Cv1_8.toInt ∧ Cv1_8.toInt ≤ 8 := by rw [← mCv1_8]; exact th_ivT hTH rC1 (by decide) (by decide) rfl
  obtain ⟨C5, mC5⟩ : ∃ x : Nat, oR (f0 C) 5 = x := ⟨_, rfl⟩
  have rC5 : RK kp L C5 3 := by rw [← mC5]; exact th_ref hTH rC (by decide) (by decide) rfl
  obtain ⟨Cv5_1, mCv5_1⟩ : ∃ x : Int32, oI (f0 C5) 1 = x := ⟨_, rfl⟩
  obtain ⟨Cv5_3, mCv5_3⟩ : ∃ x : Int32, oI (f0 C5) 3 = x := ⟨_, rfl⟩
  have bCv5_3 : (0 : Int) ≤ Cv5_3.toInt ∧ Cv5_3.toInt ≤ 9 := by rw [← mCv5_3]; exact th_ivT hTH rC5 (by decide) (by decide) rfl
  obtain ⟨Cv6, mCv6⟩ : ∃ x : Int32, oI (f0 C) 6 = x := ⟨_, rfl⟩
  have bCv6 : (0 : Int) ≤ Cv6.toInt ∧ Cv6.toInt ≤ 399 := by rw [← mCv6]; exact th_ivT hTH rC (by decide) (by decide) rfl
  obtain ⟨I, mI⟩ : ∃ x : Nat, oR (f0 h0) 2 = x := ⟨_, rfl⟩
  have rI : RK kp L I 0 := by rw [← mI]; exact th_ref hTH rh0 (by decide) (by decide) rfl
  obtain ⟨I0, mI0⟩ : ∃ x : Nat, oR (f0 I) 0 = x := ⟨_, rfl⟩
  have rI0 : RK kp L I0 4 := by rw [← mI0]; exact th_ref hTH rI (by decide) (by decide) rfl
  obtain ⟨Iv0_0, mIv0_0⟩ : ∃ x : Int32, oI (f0 I0) 0 = x := ⟨_, rfl⟩
  have bIv0_0 : (0 : Int) ≤ Iv0_0.toInt ∧ Iv0_0.toInt ≤ 40 := by rw [← mIv0_0]; exact th_ivT hTH rI0 (by decide) (by decide) rfl
  obtain ⟨I1, mI1⟩ : ∃ x : Nat, oR (f0 I) 1 = x := ⟨_, rfl⟩
  have rI1 : RK kp L I1 1 := by rw [← mI1]; exact th_ref hTH rI (by decide) (by decide) rfl
  obtain ⟨Iv1_8, mIv1_8⟩ : ∃ x : Int32, oI (f0 I1) 8 = x := ⟨_, rfl⟩
  have bIv1_8 : (0 : Int) ≤ Iv1_8.toInt ∧ Iv1_8.toInt ≤ 8 := by rw [← mIv1_8]; exact th_ivT hTH rI1 (by decide) (by decide) rfl
  obtain ⟨I5, mI5⟩ : ∃ x : Nat, oR (f0 I) 5 = x := ⟨_, rfl⟩
  have rI5 : RK kp L I5 3 := by rw [← mI5]; exact th_ref hTH rI (by decide) (by decide) rfl
  obtain ⟨Iv5_1, mIv5_1⟩ : ∃ x : Int32, oI (f0 I5) 1 = x := ⟨_, rfl⟩
  obtain ⟨Iv5_3, mIv5_3⟩ : ∃ x : Int32, oI (f0 I5) 3 = x := ⟨_, rfl⟩
  have bIv5_3 : (0 : Int) ≤ Iv5_3.toInt ∧ Iv5_3.toInt ≤ 9 := by rw [← mIv5_3]; exact th_ivT hTH rI5 (by decide) (by decide) rfl
  obtain ⟨Iv6, mIv6⟩ : ∃ x : Int32, oI (f0 I) 6 = x := ⟨_, rfl⟩
  have bIv6 : (0 : Int) ≤ Iv6.toInt ∧ Iv6.toInt ≤ 399 := by rw [← mIv6]; exact th_ivT hTH rI (by decide) (by decide) rfl
  obtain ⟨ko, mko⟩ : ∃ x : Int32, oI (f0 h0) 4 = x := ⟨_, rfl⟩
  have bko : (0 : Int) ≤ ko.toInt ∧ ko.toInt ≤ 1 := by rw [← mko]; exact th_ivT hTH rh0 (by decide) (by decide) rfl
  refine lv_iload_n hx hb dX11_back_0 rfl (lv_at hl 1 rfl) ?_
  refine lv_iconst (v := 0) hx hb dX11_back_1 (by decide) ?_
  refine lv_iconst (v := 1) hx hb dX11_back_2 (by decide) ?_
  have hW0 := hW.2.2.2
  refine t_callS (As := [.int 0, .int 0, .int 1]) (rest := []) E hW (c_X11_within l G cI cJ cZ cD cR cT kp L f0 hW.2.2.2 _ 0 0 1 (by decide)) wk_X11_within tw_599 rfl ⟨Nat.le_of_ble_eq_true rfl, Nat.le_of_ble_eq_true rfl⟩ ⟨rfl, rfl⟩ hl.1 rfl (Nat.le_of_ble_eq_true rfl) dX11_back_3 ⟨Nat.le_of_ble_eq_true rfl, Nat.le_of_ble_eq_true rfl⟩ (fun v1 f2 H locs q3 hW => ?_)
  obtain ⟨⟨x5, rfl, p6⟩, g4⟩ := q3
  have p6 : (x5.toInt = 1 ∧ (0 : Int) ≤ (0 : Int) ∧ (0 : Int) ≤ (1 : Int)) ∨ (x5.toInt = 0 ∧ ((0 : Int) < (0 : Int) ∨ (1 : Int) < (0 : Int))) := p6
  have z7 : WT kp L [C, C0, C1, C5] f0 f2 := wt_fm (wt_rf : WT kp L [C, C0, C1, C5] f0 f0) g4 rfl
  have hF := FM.tr hF g4 rfl
  refine q_if_ne (tgt := 15) hx hb dX11_back_6 (by decide) rfl (fun c8 => ?_) (fun c8 => ?_)
  · have q9 : (0 : Int) ≤ (0 : Int) ∧ (0 : Int) ≤ (1 : Int) := by omega
    clear p6
    refine lv_iload_n hx hb dX11_back_15 rfl (lv_at hl 1 rfl) ?_
    refine q_if_ne (X := 0) (tgt := 29) hx hb dX11_back_16 (by decide) rfl (fun c => absurd c (by decide)) (fun _ => ?_)
    refine lv_aload_n hx hb dX11_back_19 rfl (lv_at hl 0 rfl) ?_
    refine fg_RX11_349 E hW rh0 dX11_back_20 (fun y10 m11 b12 => ?_)
    obtain rfl : ko = y10 := (((fm_I g4 rh0 rfl).trans mko)).symm.trans m11
    refine q_if_ne (tgt := 43) hx hb dX11_back_23 (by decide) rfl (fun c13 => ?_) (fun c13 => ?_)
    · refine lv_aload_n hx hb dX11_back_43 rfl (lv_at hl 0 rfl) ?_
      refine fg_RX11_12 E hW rh0 dX11_back_44 (fun a14 m15 r16 => ?_)
      obtain rfl : C = a14 := (((fm_R g4 rh0 rfl).trans mC)).symm.trans m15
      refine lv_iload_n hx hb dX11_back_47 rfl (lv_at hl 1 rfl) ?_
      refine q_if_ne (X := 0) (tgt := 58) hx hb dX11_back_48 (by decide) rfl (fun c => absurd c (by decide)) (fun _ => ?_)
      refine lv_aload_n hx hb dX11_back_51 rfl (lv_at hl 0 rfl) ?_
      refine fg_RX11_21 E hW rh0 dX11_back_52 (fun a17 m18 r19 => ?_)
      obtain rfl : I = a17 := (((fm_R g4 rh0 rfl).trans mI)).symm.trans m18
      refine lv_goto (tgt := 62) hx hb dX11_back_55 (by decide) ?_
      have hW0 := hW.2.2.2
      refine t_callV (As := [.ref I]) (rest := []) E hW (c_X0_copyFrom_w l G cI cJ cZ cD cR cT kp L f2 hW.2.2.2 _ C I rC rI) rC (by decide) rfl wk_X0_copyFrom tw_1285 rfl ⟨Nat.le_of_ble_eq_true rfl, Nat.le_of_ble_eq_true rfl⟩ ⟨rfl, rfl⟩ hl.1 rfl (Nat.le_of_ble_eq_true rfl) dX11_back_62 ⟨Nat.le_of_ble_eq_true rfl, Nat.le_of_ble_eq_true rfl⟩ (fun v20 f21 H locs q22 hW => ?_)
      obtain ⟨rfl, g23, h24, h25, h26, h27, h28, h29⟩ := q22
      have hF := FM.tr hF g23 rfl
      have z31 : WT kp L [C, C0, C1, C5] f0 f21 := wt_call z7 h29 (by rw [((fm_R g4 rC rfl).trans mC0), ((fm_R g4 rC rfl).trans mC1), ((fm_R g4 rC rfl).trans mC5)]; intro q h; simp only [List.mem_cons, List.not_mem_nil, or_false] at h ⊢; omega)
      have e32 : oI (f21 C0) 0 = Iv0_0 := by have q := h24; rw [((fm_R g4 rC rfl).trans mC0), ((fm_R g4 rI rfl).trans mI0)] at q; exact q.trans ((fm_I g4 rI0 rfl).trans mIv0_0)
      have e33 : oI (f21 C1) 8 = Iv1_8 := by have q := h25; rw [((fm_R g4 rC rfl).trans mC1), ((fm_R g4 rI rfl).trans mI1)] at q; exact q.trans ((fm_I g4 rI1 rfl).trans mIv1_8)
      have e34 : oI (f21 C5) 1 = Iv5_1 := by have q := h26; rw [((fm_R g4 rC rfl).trans mC5), ((fm_R g4 rI rfl).trans mI5)] at q; exact q.trans ((fm_I g4 rI5 rfl).trans mIv5_1)
      have e35 : oI (f21 C5) 3 = Iv5_3 := by have q := h27; rw [((fm_R g4 rC rfl).trans mC5), ((fm_R g4 rI rfl).trans mI5)] at q; exact q.trans ((fm_I g4 rI5 rfl).trans mIv5_3)
      refine lv_aload_n hx hb dX11_back_65 rfl (lv_at hl 0 rfl) ?_
      refine lv_iconst (v := 0) hx hb dX11_back_66 (by decide) ?_
      have hW0 := hW.2.2.2
      refine t_callV (As := [.int 0]) (rest := []) E hW (c_X11_accept_x l G cI cJ cZ cD cR cT kp L f21 hW.2.2.2 _ h0 0 rh0) rh0 (by decide) rfl wk_X11_accept tw_611 rfl ⟨Nat.le_of_ble_eq_true rfl, Nat.le_of_ble_eq_true rfl⟩ ⟨rfl, rfl⟩ hl.1 rfl (Nat.le_of_ble_eq_true rfl) dX11_back_67 ⟨Nat.le_of_ble_eq_true rfl, Nat.le_of_ble_eq_true rfl⟩ (fun v36 f37 H locs q38 hW => ?_)
      obtain ⟨⟨x40, rfl, p41⟩, g39⟩ := q38
      have p41 : x40.toInt = (0 : Int) := p41
      have z42 : WT kp L [C, C0, C1, C5] f0 f37 := wt_fm z31 g39 rfl
      have hF := FM.tr hF g39 rfl
      exact e_I E hW rfl ⟨⟨_, rfl, (by rw [mko]; omega)⟩, hF, (Or.inr ⟨by rw [mko]; omega, (by rw [mC, mI, mC0, mI0]; exact (((fm_I g39 rC0 rfl).trans e32)).trans (mIv0_0).symm)⟩), (Or.inr ⟨by rw [mko]; omega, (by rw [mC, mI, mC1, mI1]; exact (((fm_I g39 rC1 rfl).trans e33)).trans (mIv1_8).symm)⟩), (Or.inr ⟨by rw [mko]; omega, (by rw [mC, mI, mC5, mI5]; exact (((fm_I g39 rC5 rfl).trans e34)).trans (mIv5_1).symm)⟩), (Or.inr ⟨by rw [mko]; omega, (by rw [mC, mI, mC5, mI5]; exact (((fm_I g39 rC5 rfl).trans e35)).trans (mIv5_3).symm)⟩), (Or.inr ⟨by rw [mko]; omega, (by rw [mC, mI]; exact (((fm_I g39 rC rfl).trans (h28.trans ((fm_I g4 rI rfl).trans mIv6)))).trans (mIv6).symm)⟩), (by rw [mC, mC0, mC1, mC5]; exact z42)⟩ dX11_back_70
    · refine lv_goto (tgt := 36) hx hb dX11_back_26 (by decide) ?_
      refine lv_aload_n hx hb dX11_back_36 rfl (lv_at hl 0 rfl) ?_
      refine lv_bipush (v := (-2)) hx hb dX11_back_37 (by decide) ?_
      have hW0 := hW.2.2.2
      refine t_callV (As := [.int (-2)]) (rest := []) E hW (c_X11_refuse_x l G cI cJ cZ cD cR cT kp L f2 hW.2.2.2 _ h0 (-2) rh0 (by decide)) rh0 (by decide) rfl wk_X11_refuse tw_603 rfl ⟨Nat.le_of_ble_eq_true rfl, Nat.le_of_ble_eq_true rfl⟩ ⟨rfl, rfl⟩ hl.1 rfl (Nat.le_of_ble_eq_true rfl) dX11_back_39 ⟨Nat.le_of_ble_eq_true rfl, Nat.le_of_ble_eq_true rfl⟩ (fun v43 f44 H locs q45 hW => ?_)
      obtain ⟨⟨x47, rfl, p48⟩, g46⟩ := q45
      have p48 : x47.toInt = (-2 : Int) := p48
      have z49 : WT kp L [C, C0, C1, C5] f0 f44 := wt_fm z7 g46 rfl
      have hF := FM.tr hF g46 rfl
      exact e_I E hW rfl ⟨⟨_, rfl, (by rw [mko]; omega)⟩, hF, (Or.inl ⟨by rw [mko]; omega, by rw [mC, mC0]; exact (((fm_I g46 rC0 rfl).trans ((fm_I g4 rC0 rfl).trans mCv0_0))).trans (mCv0_0).symm⟩), (Or.inl ⟨by rw [mko]; omega, by rw [mC, mC1]; exact (((fm_I g46 rC1 rfl).trans ((fm_I g4 rC1 rfl).trans mCv1_8))).trans (mCv1_8).symm⟩), (Or.inl ⟨by rw [mko]; omega, by rw [mC, mC5]; exact (((fm_I g46 rC5 rfl).trans ((fm_I g4 rC5 rfl).trans mCv5_1))).trans (mCv5_1).symm⟩), (Or.inl ⟨by rw [mko]; omega, by rw [mC, mC5]; exact (((fm_I g46 rC5 rfl).trans ((fm_I g4 rC5 rfl).trans mCv5_3))).trans (mCv5_3).symm⟩), (Or.inl ⟨by rw [mko]; omega, by rw [mC]; exact (((fm_I g46 rC rfl).trans ((fm_I g4 rC rfl).trans mCv6))).trans (mCv6).symm⟩), (by rw [mC, mC0, mC1, mC5]; exact z49)⟩ dX11_back_42
  · exfalso; omega
def ms_X11_image_w1 : List (Nat × Nat) := [(0, 6), (0, 9), (0, 12), (0, 13), (1, 0), (1, 8), (1, 12), (1, 13), (1, 14), (2, 0), (3, 0), (3, 1), (3, 2), (3, 3), (4, 0), (10, 0), (10, 7), (11, 4), (11, 5), (11, 15), (108, 0), (161, 0), (162, 0), (163, 0), (164, 0), (165, 0), (166, 0), (167, 0), (169, 0), (170, 0), (171, 0), (221, 0), (284, 0), (285, 0), (341, 0), (342, 0), (343, 0), (344, 0), (345, 0), (346, 0), (347, 0), (348, 0), (520, 0), (521, 0), (701, 0), (702, 0), (703, 0), (704, 0), (705, 0), (706, 0), (708, 0), (709, 0), (710, 0)]
def po_X11_image_w1 (kp : Nat → Nat) (L : List Nat) (f0 : Nat → va_E) (h0 : Nat) : Option Value → (Nat → va_E) → Prop := fun v f => (∃ r : Int32, v = some (.int r) ∧ (r.toInt = 0)) ∧ FM kp L ms_X11_image_w1 f0 f ∧ ((oI (f h0) 5).toInt = 1 ∧ (oI (f h0) 4).toInt = (oI (f0 h0) 4).toInt) ∧ (oI (f (oR (f0 (oR (f0 h0) 3)) 0)) 0 = oI (f0 (oR (f0 (oR (f0 h0) 0)) 0)) 0) ∧ (oI (f (oR (f0 (oR (f0 h0) 3)) 1)) 8 = oI (f0 (oR (f0 (oR (f0 h0) 0)) 1)) 8) ∧ (oI (f (oR (f0 (oR (f0 h0) 3)) 5)) 1 = oI (f0 (oR (f0 (oR (f0 h0) 0)) 5)) 1) ∧ (oI (f (oR (f0 (oR (f0 h0) 3)) 5)) 3 = oI (f0 (oR (f0 (oR (f0 h0) 0)) 5)) 3) ∧ (oI (f (oR (f0 h0) 3)) 6 = oI (f0 (oR (f0 h0) 0)) 6) ∧ (WT kp L [(oR (f0 h0) 3), oR (f0 (oR (f0 h0) 3)) 0, oR (f0 (oR (f0 h0) 3)) 1, oR (f0 (oR (f0 h0) 3)) 5] f0 f)
set_option maxHeartbeats 4000000 in
set_option maxRecDepth 100000 in
theorem c_X11_image_w1 (l : Launch) (G : va_G) (cI cJ cZ cD cR cT : ClassId) (kp : Nat → Nat) (L : List Nat) (f0 : Nat → va_E) (hTH : TH cI cJ cZ cD cR cT kp L f0) (sz : Nat) (h0 : Nat) (rh0 : RK kp L h0 11) : Met l yX11_image (Cond.code yX11_image cX11_image 2 (some .int) :: wTab) ({ frames := 3, cells := 0, slots := 0, locals := 103 }) (va_Pc [.ref h0, .int 1] (PreW G (tys6 cI cJ cZ cD cR cT) (va_pl L f0) sz)) (QT (po_X11_image_w1 kp L f0 h0) G cI cJ cZ cD cR cT (va_A (va_pl L f0) sz) kp L) 0 0 (va_A (va_pl L f0) sz) := by
  refine metT (by decide) (Nat.le_of_ble_eq_true rfl) hTH ?_
  intro p e s m below meth c A ls E hW hl
  obtain ⟨hx, hb, -, hml, hown, hts, -, -, -⟩ := id E
  have hF : FM kp L ms_X11_image_w1 f0 f0 := FM.rf
  have hl : lv_has ls 2 [(0, .ref h0), (1, .int 1)] := hl
  obtain ⟨C, mC⟩ : ∃ x : Nat, oR (f0 h0) 0 = x := ⟨_, rfl⟩
  have rC : RK kp L C 0 := by rw [← mC]; exact th_ref hTH rh0 (by decide) (by decide) rfl
  obtain ⟨C0, mC0⟩ : ∃ x : Nat, oR (f0 C) 0 = x := ⟨_, rfl⟩
  have rC0 : RK kp L C0 4 := by rw [← mC0]; exact th_ref hTH rC (by decide) (by decide) rfl
  obtain ⟨Cv0_0, mCv0_0⟩ : ∃ x : Int32, oI (f0 C0) 0 = x := ⟨_, rfl⟩
  have bCv0_0 : (0 : Int) ≤ Cv0_0.toInt ∧ Cv0_0.toInt ≤ 40 := by rw [← mCv0_0]; exact th_ivT hTH rC0 (by decide) (by decide) rfl
  obtain ⟨C1, mC1⟩ : ∃ x : Nat, oR (f0 C) 1 = x := ⟨_, rfl⟩
  have rC1 : RK kp L C1 1 := by rw [← mC1]; exact th_ref hTH rC (by decide) (by decide) rfl
  obtain ⟨Cv1_8, mCv1_8⟩ : ∃ x : Int32, oI (f0 C1) 8 = x := ⟨_, rfl⟩
  have bCv1_8 : (0 : Int) ≤ Cv1_8.toInt ∧ Cv1_8.toInt ≤ 8 := by rw [← mCv1_8]; exact th_ivT hTH rC1 (by decide) (by decide) rfl
  obtain ⟨C5, mC5⟩ : ∃ x : Nat, oR (f0 C) 5 = x := ⟨_, rfl⟩
  have rC5 : RK kp L C5 3 := by rw [← mC5]; exact th_ref hTH rC (by decide) (by decide) rfl
  obtain ⟨Cv5_1, mCv5_1⟩ : ∃ x : Int32, oI (f0 C5) 1 = x := ⟨_, rfl⟩
  obtain ⟨Cv5_3, mCv5_3⟩ : ∃ x : Int32, oI (f0 C5) 3 = x := ⟨_, rfl⟩
  have bCv5_3 : (0 : Int) ≤ Cv5_3.toInt ∧ Cv5_3.toInt ≤ 9 := by rw [← mCv5_3]; exact th_ivT hTH rC5 (by decide) (by decide) rfl
  obtain ⟨Cv6, mCv6⟩ : ∃ x : Int32, oI (f0 C) 6 = x := ⟨_, rfl⟩
  have bCv6 : (0 : Int) ≤ Cv6.toInt ∧ Cv6.toInt ≤ 399 := by rw [← mCv6]; exact th_ivT hTH rC (by decide) (by decide) rfl
  obtain ⟨I, mI⟩ : ∃ x : Nat, oR (f0 h0) 3 = x := ⟨_, rfl⟩
  have rI : RK kp L I 0 := by rw [← mI]; exact th_ref hTH rh0 (by decide) (by decide) rfl
  obtain ⟨I0, mI0⟩ : ∃ x : Nat, oR (f0 I) 0 = x := ⟨_, rfl⟩
  have rI0 : RK kp L I0 4 := by rw [← mI0]; exact th_ref hTH rI (by decide) (by decide) rfl
  obtain ⟨Iv0_0, mIv0_0⟩ : ∃ x : Int32, oI (f0 I0) 0 = x := ⟨_, rfl⟩
  have bIv0_0 : (0 : Int) ≤ Iv0_0.toInt ∧ Iv0_0.toInt ≤ 40 := by rw [← mIv0_0]; exact th_ivT hTH rI0 (by decide) (by decide) rfl
  obtain ⟨I1, mI1⟩ : ∃ x : Nat, oR (f0 I) 1 = x := ⟨_, rfl⟩
  have rI1 : RK kp L I1 1 := by rw [← mI1]; exact th_ref hTH rI (by decide) (by decide) rfl
  obtain ⟨Iv1_8, mIv1_8⟩ : ∃ x : Int32, oI (f0 I1) 8 = x := ⟨_, rfl⟩
  have bIv1_8 : (0 : Int) ≤ Iv1_8.toInt ∧ Iv1_8.toInt ≤ 8 := by rw [← mIv1_8]; exact th_ivT hTH rI1 (by decide) (by decide) rfl
  obtain ⟨I5, mI5⟩ : ∃ x : Nat, oR (f0 I) 5 = x := ⟨_, rfl⟩
  have rI5 : RK kp L I5 3 := by rw [← mI5]; exact th_ref hTH rI (by decide) (by decide) rfl
  obtain ⟨Iv5_1, mIv5_1⟩ : ∃ x : Int32, oI (f0 I5) 1 = x := ⟨_, rfl⟩
  obtain ⟨Iv5_3, mIv5_3⟩ : ∃ x : Int32, oI (f0 I5) 3 = x := ⟨_, rfl⟩
  have bIv5_3 : (0 : Int) ≤ Iv5_3.toInt ∧ Iv5_3.toInt ≤ 9 := by rw [← mIv5_3]; exact th_ivT hTH rI5 (by decide) (by decide) rfl
  obtain ⟨Iv6, mIv6⟩ : ∃ x : Int32, oI (f0 I) 6 = x := ⟨_, rfl⟩
  have bIv6 : (0 : Int) ≤ Iv6.toInt ∧ Iv6.toInt ≤ 399 := by rw [← mIv6]; exact th_ivT hTH rI (by decide) (by decide) rfl
  obtain ⟨ko, mko⟩ : ∃ x : Int32, oI (f0 h0) 5 = x := ⟨_, rfl⟩
  have bko : (0 : Int) ≤ ko.toInt ∧ ko.toInt ≤ 1 := by rw [← mko]; exact th_ivT hTH rh0 (by decide) (by decide) rfl
  obtain ⟨kx, mkx⟩ : ∃ x : Int32, oI (f0 h0) 4 = x := ⟨_, rfl⟩
  have bkx : (0 : Int) ≤ kx.toInt ∧ kx.toInt ≤ 1 := by rw [← mkx]; exact th_ivT hTH rh0 (by decide) (by decide) rfl
  refine lv_iload_n hx hb dX11_image_0 rfl (lv_at hl 1 rfl) ?_
  refine lv_iconst (v := 0) hx hb dX11_image_1 (by decide) ?_
  refine lv_iconst (v := 1) hx hb dX11_image_2 (by decide) ?_
  have hW0 := hW.2.2.2
  refine t_callS (As := [.int 1, .int 0, .int 1]) (rest := []) E hW (c_X11_within l G cI cJ cZ cD cR cT kp L f0 hW.2.2.2 _ 1 0 1 (by decide)) wk_X11_within tw_599 rfl ⟨Nat.le_of_ble_eq_true rfl, Nat.le_of_ble_eq_true rfl⟩ ⟨rfl, rfl⟩ hl.1 rfl (Nat.le_of_ble_eq_true rfl) dX11_image_3 ⟨Nat.le_of_ble_eq_true rfl, Nat.le_of_ble_eq_true rfl⟩ (fun v1 f2 H locs q3 hW => ?_)
  obtain ⟨⟨x5, rfl, p6⟩, g4⟩ := q3
  have p6 : (x5.toInt = 1 ∧ (0 : Int) ≤ (1 : Int) ∧ (1 : Int) ≤ (1 : Int)) ∨ (x5.toInt = 0 ∧ ((1 : Int) < (0 : Int) ∨ (1 : Int) < (1 : Int))) := p6
  have z7 : WT kp L [I, I0, I1, I5] f0 f2 := wt_fm (wt_rf : WT kp L [I, I0, I1, I5] f0 f0) g4 rfl
  have hF := FM.tr hF g4 rfl
  refine q_if_ne (tgt := 15) hx hb dX11_image_6 (by decide) rfl (fun c8 => ?_) (fun c8 => ?_)
  · have q9 : (0 : Int) ≤ (1 : Int) ∧ (1 : Int) ≤ (1 : Int) := by omega
    clear p6
    refine lv_iload_n hx hb dX11_image_15 rfl (lv_at hl 1 rfl) ?_
    refine q_if_ne (X := 1) (tgt := 38) hx hb dX11_image_16 (by decide) rfl (fun _ => ?_) (fun c => absurd c (by decide))
    refine lv_aload_n hx hb dX11_image_38 rfl (lv_at hl 0 rfl) ?_
    refine fg_RX11_24 E hW rh0 dX11_image_39 (fun a10 m11 r12 => ?_)
    obtain rfl : I = a10 := (((fm_R g4 rh0 rfl).trans mI)).symm.trans m11
    refine lv_aload_n hx hb dX11_image_42 rfl (lv_at hl 0 rfl) ?_
    refine fg_RX11_12 E hW rh0 dX11_image_43 (fun a13 m14 r15 => ?_)
    obtain rfl : C = a13 := (((fm_R g4 rh0 rfl).trans mC)).symm.trans m14
    have hW0 := hW.2.2.2
    refine t_callV (As := [.ref C]) (rest := []) E hW (c_X0_copyFrom_w l G cI cJ cZ cD cR cT kp L f2 hW.2.2.2 _ I C rI rC) rI (by decide) rfl wk_X0_copyFrom tw_1285 rfl ⟨Nat.le_of_ble_eq_true rfl, Nat.le_of_ble_eq_true rfl⟩ ⟨rfl, rfl⟩ hl.1 rfl (Nat.le_of_ble_eq_true rfl) dX11_image_46 ⟨Nat.le_of_ble_eq_true rfl, Nat.le_of_ble_eq_true rfl⟩ (fun v16 f17 H locs q18 hW => ?_)
    obtain ⟨rfl, g19, h20, h21, h22, h23, h24, h25⟩ := q18
    have hF := FM.tr hF g19 rfl
    have z27 : WT kp L [I, I0, I1, I5] f0 f17 := wt_call z7 h25 (by rw [((fm_R g4 rI rfl).trans mI0), ((fm_R g4 rI rfl).trans mI1), ((fm_R g4 rI rfl).trans mI5)]; intro q h; simp only [List.mem_cons, List.not_mem_nil, or_false] at h ⊢; omega)
    have e28 : oI (f17 I0) 0 = Cv0_0 := by have q := h20; rw [((fm_R g4 rI rfl).trans mI0), ((fm_R g4 rC rfl).trans mC0)] at q; exact q.trans ((fm_I g4 rC0 rfl).trans mCv0_0)
    have e29 : oI (f17 I1) 8 = Cv1_8 := by have q := h21; rw [((fm_R g4 rI rfl).trans mI1), ((fm_R g4 rC rfl).trans mC1)] at q; exact q.trans ((fm_I g4 rC1 rfl).trans mCv1_8)
    have e30 : oI (f17 I5) 1 = Cv5_1 := by have q := h22; rw [((fm_R g4 rI rfl).trans mI5), ((fm_R g4 rC rfl).trans mC5)] at q; exact q.trans ((fm_I g4 rC5 rfl).trans mCv5_1)
    have e31 : oI (f17 I5) 3 = Cv5_3 := by have q := h23; rw [((fm_R g4 rI rfl).trans mI5), ((fm_R g4 rC rfl).trans mC5)] at q; exact q.trans ((fm_I g4 rC5 rfl).trans mCv5_3)
    refine lv_aload_n hx hb dX11_image_49 rfl (lv_at hl 0 rfl) ?_
    refine lv_iconst (v := 1) hx hb dX11_image_50 (by decide) ?_
    have hW0 := hW.2.2.2
    refine fp_RX11_353 E hW rh0 (by decide) dX11_image_51 (fun f32 H locs e33 n34 g35 hW => ?_)
    have z36 : WT kp L [I, I0, I1, I5] f0 f32 := wt_fm z27 g35 rfl
    have hF := FM.tr hF g35 rfl
    refine lv_aload_n hx hb dX11_image_54 rfl (lv_at hl 0 rfl) ?_
    refine lv_iconst (v := 0) hx hb dX11_image_55 (by decide) ?_
    have hW0 := hW.2.2.2
    refine t_callV (As := [.int 0]) (rest := []) E hW (c_X11_accept_x l G cI cJ cZ cD cR cT kp L f32 hW.2.2.2 _ h0 0 rh0) rh0 (by decide) rfl wk_X11_accept tw_611 rfl ⟨Nat.le_of_ble_eq_true rfl, Nat.le_of_ble_eq_true rfl⟩ ⟨rfl, rfl⟩ hl.1 rfl (Nat.le_of_ble_eq_true rfl) dX11_image_56 ⟨Nat.le_of_ble_eq_true rfl, Nat.le_of_ble_eq_true rfl⟩ (fun v37 f38 H locs q39 hW => ?_)
    obtain ⟨⟨x41, rfl, p42⟩, g40⟩ := q39
    have p42 : x41.toInt = (0 : Int) := p42
    have z43 : WT kp L [I, I0, I1, I5] f0 f38 := wt_fm z36 g40 rfl
    have hF := FM.tr hF g40 rfl
    exact e_I E hW rfl ⟨⟨_, rfl, (by first | omega | trivial)⟩, hF, (by have h1 : (1 : Int32).toInt = 1 := rfl; rw [((fm_I g40 rh0 rfl).trans e33), ((fm_I g40 rh0 rfl).trans ((fm_I g35 rh0 rfl).trans ((fm_I g19 rh0 rfl).trans ((fm_I g4 rh0 rfl).trans mkx)))), mkx]; omega), (by rw [mI, mC, mI0, mC0]; exact (((fm_I g40 rI0 rfl).trans ((fm_I g35 rI0 rfl).trans e28))).trans (mCv0_0).symm), (by rw [mI, mC, mI1, mC1]; exact (((fm_I g40 rI1 rfl).trans ((fm_I g35 rI1 rfl).trans e29))).trans (mCv1_8).symm), (by rw [mI, mC, mI5, mC5]; exact (((fm_I g40 rI5 rfl).trans ((fm_I g35 rI5 rfl).trans e30))).trans (mCv5_1).symm), (by rw [mI, mC, mI5, mC5]; exact (((fm_I g40 rI5 rfl).trans ((fm_I g35 rI5 rfl).trans e31))).trans (mCv5_3).symm), (by rw [mI, mC]; exact (((fm_I g40 rI rfl).trans ((fm_I g35 rI rfl).trans (h24.trans ((fm_I g4 rC rfl).trans mCv6))))).trans (mCv6).symm), (by rw [mI, mI0, mI1, mI5]; exact z43)⟩ dX11_image_59
  · exfalso; omega
def ms_X11_back_w1 : List (Nat × Nat) := [(0, 6), (0, 9), (0, 12), (0, 13), (1, 0), (1, 8), (1, 12), (1, 13), (1, 14), (2, 0), (3, 0), (3, 1), (3, 2), (3, 3), (4, 0), (10, 0), (10, 7), (11, 15), (108, 0), (161, 0), (162, 0), (163, 0), (164, 0), (165, 0), (166, 0), (167, 0), (169, 0), (170, 0), (171, 0), (221, 0), (284, 0), (285, 0), (341, 0), (342, 0), (343, 0), (344, 0), (345, 0), (346, 0), (347, 0), (348, 0), (520, 0), (521, 0), (701, 0), (702, 0), (703, 0), (704, 0), (705, 0), (706, 0), (708, 0), (709, 0), (710, 0)]
def po_X11_back_w1 (kp : Nat → Nat) (L : List Nat) (f0 : Nat → va_E) (h0 : Nat) : Option Value → (Nat → va_E) → Prop := fun v f => (∃ r : Int32, v = some (.int r) ∧ ((r.toInt = -2 ∧ (oI (f0 h0) 5).toInt = 0) ∨ (r.toInt = 0 ∧ ¬ (oI (f0 h0) 5).toInt = 0))) ∧ FM kp L ms_X11_back_w1 f0 f ∧ (((oI (f0 h0) 5).toInt = 0 ∧ oI (f (oR (f0 (oR (f0 h0) 0)) 0)) 0 = oI (f0 (oR (f0 (oR (f0 h0) 0)) 0)) 0) ∨ (¬ (oI (f0 h0) 5).toInt = 0 ∧ oI (f (oR (f0 (oR (f0 h0) 0)) 0)) 0 = oI (f0 (oR (f0 (oR (f0 h0) 3)) 0)) 0)) ∧ (((oI (f0 h0) 5).toInt = 0 ∧ oI (f (oR (f0 (oR (f0 h0) 0)) 1)) 8 = oI (f0 (oR (f0 (oR (f0 h0) 0)) 1)) 8) ∨ (¬ (oI (f0 h0) 5).toInt = 0 ∧ oI (f (oR (f0 (oR (f0 h0) 0)) 1)) 8 = oI (f0 (oR (f0 (oR (f0 h0) 3)) 1)) 8)) ∧ (((oI (f0 h0) 5).toInt = 0 ∧ oI (f (oR (f0 (oR (f0 h0) 0)) 5)) 1 = oI (f0 (oR (f0 (oR (f0 h0) 0)) 5)) 1) ∨ (¬ (oI (f0 h0) 5).toInt = 0 ∧ oI (f (oR (f0 (oR (f0 h0) 0)) 5)) 1 = oI (f0 (oR (f0 (oR (f0 h0) 3)) 5)) 1)) ∧ (((oI (f0 h0) 5).toInt = 0 ∧ oI (f (oR (f0 (oR (f0 h0) 0)) 5)) 3 = oI (f0 (oR (f0 (oR (f0 h0) 0)) 5)) 3) ∨ (¬ (oI (f0 h0) 5).toInt = 0 ∧ oI (f (oR (f0 (oR (f0 h0) 0)) 5)) 3 = oI (f0 (oR (f0 (oR (f0 h0) 3)) 5)) 3)) ∧ (((oI (f0 h0) 5).toInt = 0 ∧ oI (f (oR (f0 h0) 0)) 6 = oI (f0 (oR (f0 h0) 0)) 6) ∨ (¬ (oI (f0 h0) 5).toInt = 0 ∧ oI (f (oR (f0 h0) 0)) 6 = oI (f0 (oR (f0 h0) 3)) 6)) ∧ (WT kp L [(oR (f0 h0) 0), oR (f0 (oR (f0 h0) 0)) 0, oR (f0 (oR (f0 h0) 0)) 1, oR (f0 (oR (f0 h0) 0)) 5] f0 f)
set_option maxHeartbeats 4000000 in
set_option maxRecDepth 100000 in
theorem c_X11_back_w1 (l : Launch) (G : va_G) (cI cJ cZ cD cR cT : ClassId) (kp : Nat → Nat) (L : List Nat) (f0 : Nat → va_E) (hTH : TH cI cJ cZ cD cR cT kp L f0) (sz : Nat) (h0 : Nat) (rh0 : RK kp L h0 11) : Met l yX11_back (Cond.code yX11_back cX11_back 2 (some .int) :: wTab) ({ frames := 3, cells := 0, slots := 0, locals := 103 }) (va_Pc [.ref h0, .int 1] (PreW G (tys6 cI cJ cZ cD cR cT) (va_pl L f0) sz)) (QT (po_X11_back_w1 kp L f0 h0) G cI cJ cZ cD cR cT (va_A (va_pl L f0) sz) kp L) 0 0 (va_A (va_pl L f0) sz) := by
  refine metT (by decide) (Nat.le_of_ble_eq_true rfl) hTH ?_
  intro p e s m below meth c A ls E hW hl
  obtain ⟨hx, hb, -, hml, hown, hts, -, -, -⟩ := id E
  have hF : FM kp L ms_X11_back_w1 f0 f0 := FM.rf
  have hl : lv_has ls 2 [(0, .ref h0), (1, .int 1)] := hl
  obtain ⟨C, mC⟩ : ∃ x : Nat, oR (f0 h0) 0 = x := ⟨_, rfl⟩
  have rC : RK kp L C 0 := by rw [← mC]; exact th_ref hTH rh0 (by decide) (by decide) rfl
  obtain ⟨C0, mC0⟩ : ∃ x : Nat, oR (f0 C) 0 = x := ⟨_, rfl⟩
  have rC0 : RK kp L C0 4 := by rw [← mC0]; exact th_ref hTH rC (by decide) (by decide) rfl
  obtain ⟨Cv0_0, mCv0_0⟩ : ∃ x : Int32, oI (f0 C0) 0 = x := ⟨_, rfl⟩
  have bCv0_0 : (0 : Int) ≤ Cv0_0.toInt ∧ Cv0_0.toInt ≤ 40 := by rw [← mCv0_0]; exact th_ivT hTH rC0 (by decide) (by decide) rfl
  obtain ⟨C1, mC1⟩ : ∃ x : Nat, oR (f0 C) 1 = x := ⟨_, rfl⟩
  have rC1 : RK kp L C1 1 := by rw [← mC1]; exact th_ref hTH rC (by decide) (by decide) rfl
  obtain ⟨Cv1_8, mCv1_8⟩ : ∃ x : Int32, oI (f0 C1) 8 = x := ⟨_, rfl⟩
  have bCv1_8 : (0 : Int) ≤ Cv1_8.toInt ∧ Cv1_8.toInt ≤ 8 := by rw [← mCv1_8]; exact th_ivT hTH rC1 (by decide) (by decide) rfl
  obtain ⟨C5, mC5⟩ : ∃ x : Nat, oR (f0 C) 5 = x := ⟨_, rfl⟩
  have rC5 : RK kp L C5 3 := by rw [← mC5]; exact th_ref hTH rC (by decide) (by decide) rfl
  obtain ⟨Cv5_1, mCv5_1⟩ : ∃ x : Int32, oI (f0 C5) 1 = x := ⟨_, rfl⟩
  obtain ⟨Cv5_3, mCv5_3⟩ : ∃ x : Int32, oI (f0 C5) 3 = x := ⟨_, rfl⟩
  have bCv5_3 : (0 : Int) ≤ Cv5_3.toInt ∧ Cv5_3.toInt ≤ 9 := by rw [← mCv5_3]; exact th_ivT hTH rC5 (by decide) (by decide) rfl
  obtain ⟨Cv6, mCv6⟩ : ∃ x : Int32, oI (f0 C) 6 = x := ⟨_, rfl⟩
  have bCv6 : (0 : Int) ≤ Cv6.toInt ∧ Cv6.toInt ≤ 399 := by rw [← mCv6]; exact th_ivT hTH rC (by decide) (by decide) rfl
  obtain ⟨I, mI⟩ : ∃ x : Nat, oR (f0 h0) 3 = x := ⟨_, rfl⟩
  have rI : RK kp L I 0 := by rw [← mI]; exact th_ref hTH rh0 (by decide) (by decide) rfl
  obtain ⟨I0, mI0⟩ : ∃ x : Nat, oR (f0 I) 0 = x := ⟨_, rfl⟩
  have rI0 : RK kp L I0 4 := by rw [← mI0]; exact th_ref hTH rI (by decide) (by decide) rfl
  obtain ⟨Iv0_0, mIv0_0⟩ : ∃ x : Int32, oI (f0 I0) 0 = x := ⟨_, rfl⟩
  have bIv0_0 : (0 : Int) ≤ Iv0_0.toInt ∧ Iv0_0.toInt ≤ 40 := by rw [← mIv0_0]; exact th_ivT hTH rI0 (by decide) (by decide) rfl
  obtain ⟨I1, mI1⟩ : ∃ x : Nat, oR (f0 I) 1 = x := ⟨_, rfl⟩
  have rI1 : RK kp L I1 1 := by rw [← mI1]; exact th_ref hTH rI (by decide) (by decide) rfl
  obtain ⟨Iv1_8, mIv1_8⟩ : ∃ x : Int32, oI (f0 I1) 8 = x := ⟨_, rfl⟩
  have bIv1_8 : (0 : Int) ≤ Iv1_8.toInt ∧ Iv1_8.toInt ≤ 8 := by rw [← mIv1_8]; exact th_ivT hTH rI1 (by decide) (by decide) rfl
  obtain ⟨I5, mI5⟩ : ∃ x : Nat, oR (f0 I) 5 = x := ⟨_, rfl⟩
  have rI5 : RK kp L I5 3 := by rw [← mI5]; exact th_ref hTH rI (by decide) (by decide) rfl
  obtain ⟨Iv5_1, mIv5_1⟩ : ∃ x : Int32, oI (f0 I5) 1 = x := ⟨_, rfl⟩
  obtain ⟨Iv5_3, mIv5_3⟩ : ∃ x : Int32, oI (f0 I5) 3 = x := ⟨_, rfl⟩
  have bIv5_3 : (0 : Int) ≤ Iv5_3.toInt ∧ Iv5_3.toInt ≤ 9 := by rw [← mIv5_3]; exact th_ivT hTH rI5 (by decide) (by decide) rfl
  obtain ⟨Iv6, mIv6⟩ : ∃ x : Int32, oI (f0 I) 6 = x := ⟨_, rfl⟩
  have bIv6 : (0 : Int) ≤ Iv6.toInt ∧ Iv6.toInt ≤ 399 := by rw [← mIv6]; exact th_ivT hTH rI (by decide) (by decide) rfl
  obtain ⟨ko, mko⟩ : ∃ x : Int32, oI (f0 h0) 5 = x := ⟨_, rfl⟩
  have bko : (0 : Int) ≤ ko.toInt ∧ ko.toInt ≤ 1 := by rw [← mko]; exact th_ivT hTH rh0 (by decide) (by decide) rfl
  refine lv_iload_n hx hb dX11_back_0 rfl (lv_at hl 1 rfl) ?_
  refine lv_iconst (v := 0) hx hb dX11_back_1 (by decide) ?_
  refine lv_iconst (v := 1) hx hb dX11_back_2 (by decide) ?_
  have hW0 := hW.2.2.2
  refine t_callS (As := [.int 1, .int 0, .int 1]) (rest := []) E hW (c_X11_within l G cI cJ cZ cD cR cT kp L f0 hW.2.2.2 _ 1 0 1 (by decide)) wk_X11_within tw_599 rfl ⟨Nat.le_of_ble_eq_true rfl, Nat.le_of_ble_eq_true rfl⟩ ⟨rfl, rfl⟩ hl.1 rfl (Nat.le_of_ble_eq_true rfl) dX11_back_3 ⟨Nat.le_of_ble_eq_true rfl, Nat.le_of_ble_eq_true rfl⟩ (fun v1 f2 H locs q3 hW => ?_)
  obtain ⟨⟨x5, rfl, p6⟩, g4⟩ := q3
  have p6 : (x5.toInt = 1 ∧ (0 : Int) ≤ (1 : Int) ∧ (1 : Int) ≤ (1 : Int)) ∨ (x5.toInt = 0 ∧ ((1 : Int) < (0 : Int) ∨ (1 : Int) < (1 : Int))) := p6
  have z7 : WT kp L [C, C0, C1, C5] f0 f2 := wt_fm (wt_rf : WT kp L [C, C0, C1, C5] f0 f0) g4 rfl
  have hF := FM.tr hF g4 rfl
  refine q_if_ne (tgt := 15) hx hb dX11_back_6 (by decide) rfl (fun c8 => ?_) (fun c8 => ?_)
  · have q9 : (0 : Int) ≤ (1 : Int) ∧ (1 : Int) ≤ (1 : Int) := by omega
    clear p6
    refine lv_iload_n hx hb dX11_back_15 rfl (lv_at hl 1 rfl) ?_
    refine q_if_ne (X := 1) (tgt := 29) hx hb dX11_back_16 (by decide) rfl (fun _ => ?_) (fun c => absurd c (by decide))
    refine lv_aload_n hx hb dX11_back_29 rfl (lv_at hl 0 rfl) ?_
    refine fg_RX11_353 E hW rh0 dX11_back_30 (fun y10 m11 b12 => ?_)
    obtain rfl : ko = y10 := (((fm_I g4 rh0 rfl).trans mko)).symm.trans m11
    refine q_if_ne (tgt := 43) hx hb dX11_back_33 (by decide) rfl (fun c13 => ?_) (fun c13 => ?_)
    · refine lv_aload_n hx hb dX11_back_43 rfl (lv_at hl 0 rfl) ?_
      refine fg_RX11_12 E hW rh0 dX11_back_44 (fun a14 m15 r16 => ?_)
      obtain rfl : C = a14 := (((fm_R g4 rh0 rfl).trans mC)).symm.trans m15
      refine lv_iload_n hx hb dX11_back_47 rfl (lv_at hl 1 rfl) ?_
      refine q_if_ne (X := 1) (tgt := 58) hx hb dX11_back_48 (by decide) rfl (fun _ => ?_) (fun c => absurd c (by decide))
      refine lv_aload_n hx hb dX11_back_58 rfl (lv_at hl 0 rfl) ?_
      refine fg_RX11_24 E hW rh0 dX11_back_59 (fun a17 m18 r19 => ?_)
      obtain rfl : I = a17 := (((fm_R g4 rh0 rfl).trans mI)).symm.trans m18
      have hW0 := hW.2.2.2
      refine t_callV (As := [.ref I]) (rest := []) E hW (c_X0_copyFrom_w l G cI cJ cZ cD cR cT kp L f2 hW.2.2.2 _ C I rC rI) rC (by decide) rfl wk_X0_copyFrom tw_1285 rfl ⟨Nat.le_of_ble_eq_true rfl, Nat.le_of_ble_eq_true rfl⟩ ⟨rfl, rfl⟩ hl.1 rfl (Nat.le_of_ble_eq_true rfl) dX11_back_62 ⟨Nat.le_of_ble_eq_true rfl, Nat.le_of_ble_eq_true rfl⟩ (fun v20 f21 H locs q22 hW => ?_)
      obtain ⟨rfl, g23, h24, h25, h26, h27, h28, h29⟩ := q22
      have hF := FM.tr hF g23 rfl
      have z31 : WT kp L [C, C0, C1, C5] f0 f21 := wt_call z7 h29 (by rw [((fm_R g4 rC rfl).trans mC0), ((fm_R g4 rC rfl).trans mC1), ((fm_R g4 rC rfl).trans mC5)]; intro q h; simp only [List.mem_cons, List.not_mem_nil, or_false] at h ⊢; omega)
      have e32 : oI (f21 C0) 0 = Iv0_0 := by have q := h24; rw [((fm_R g4 rC rfl).trans mC0), ((fm_R g4 rI rfl).trans mI0)] at q; exact q.trans ((fm_I g4 rI0 rfl).trans mIv0_0)
      have e33 : oI (f21 C1) 8 = Iv1_8 := by have q := h25; rw [((fm_R g4 rC rfl).trans mC1), ((fm_R g4 rI rfl).trans mI1)] at q; exact q.trans ((fm_I g4 rI1 rfl).trans mIv1_8)
      have e34 : oI (f21 C5) 1 = Iv5_1 := by have q := h26; rw [((fm_R g4 rC rfl).trans mC5), ((fm_R g4 rI rfl).trans mI5)] at q; exact q.trans ((fm_I g4 rI5 rfl).trans mIv5_1)
      have e35 : oI (f21 C5) 3 = Iv5_3 := by have q := h27; rw [((fm_R g4 rC rfl).trans mC5), ((fm_R g4 rI rfl).trans mI5)] at q; exact q.trans ((fm_I g4 rI5 rfl).trans mIv5_3)
      refine lv_aload_n hx hb dX11_back_65 rfl (lv_at hl 0 rfl) ?_
      refine lv_iconst (v := 0) hx hb dX11_back_66 (by decide) ?_
      have hW0 := hW.2.2.2
      refine t_callV (As := [.int 0]) (rest := []) E hW (c_X11_accept_x l G cI cJ cZ cD cR cT kp L f21 hW.2.2.2 _ h0 0 rh0) rh0 (by decide) rfl wk_X11_accept tw_611 rfl ⟨Nat.le_of_ble_eq_true rfl, Nat.le_of_ble_eq_true rfl⟩ ⟨rfl, rfl⟩ hl.1 rfl (Nat.le_of_ble_eq_true rfl) dX11_back_67 ⟨Nat.le_of_ble_eq_true rfl, Nat.le_of_ble_eq_true rfl⟩ (fun v36 f37 H locs q38 hW => ?_)
      obtain ⟨⟨x40, rfl, p41⟩, g39⟩ := q38
      have p41 : x40.toInt = (0 : Int) := p41
      have z42 : WT kp L [C, C0, C1, C5] f0 f37 := wt_fm z31 g39 rfl
      have hF := FM.tr hF g39 rfl
      exact e_I E hW rfl ⟨⟨_, rfl, (by rw [mko]; omega)⟩, hF, (Or.inr ⟨by rw [mko]; omega, (by rw [mC, mI, mC0, mI0]; exact (((fm_I g39 rC0 rfl).trans e32)).trans (mIv0_0).symm)⟩), (Or.inr ⟨by rw [mko]; omega, (by rw [mC, mI, mC1, mI1]; exact (((fm_I g39 rC1 rfl).trans e33)).trans (mIv1_8).symm)⟩), (Or.inr ⟨by rw [mko]; omega, (by rw [mC, mI, mC5, mI5]; exact (((fm_I g39 rC5 rfl).trans e34)).trans (mIv5_1).symm)⟩), (Or.inr ⟨by rw [mko]; omega, (by rw [mC, mI, mC5, mI5]; exact (((fm_I g39 rC5 rfl).trans e35)).trans (mIv5_3).symm)⟩), (Or.inr ⟨by rw [mko]; omega, (by rw [mC, mI]; exact (((fm_I g39 rC rfl).trans (h28.trans ((fm_I g4 rI rfl).trans mIv6)))).trans (mIv6).symm)⟩), (by rw [mC, mC0, mC1, mC5]; exact z42)⟩ dX11_back_70
    · refine lv_aload_n hx hb dX11_back_36 rfl (lv_at hl 0 rfl) ?_
      refine lv_bipush (v := (-2)) hx hb dX11_back_37 (by decide) ?_
      have hW0 := hW.2.2.2
      refine t_callV (As := [.int (-2)]) (rest := []) E hW (c_X11_refuse_x l G cI cJ cZ cD cR cT kp L f2 hW.2.2.2 _ h0 (-2) rh0 (by decide)) rh0 (by decide) rfl wk_X11_refuse tw_603 rfl ⟨Nat.le_of_ble_eq_true rfl, Nat.le_of_ble_eq_true rfl⟩ ⟨rfl, rfl⟩ hl.1 rfl (Nat.le_of_ble_eq_true rfl) dX11_back_39 ⟨Nat.le_of_ble_eq_true rfl, Nat.le_of_ble_eq_true rfl⟩ (fun v43 f44 H locs q45 hW => ?_)
      obtain ⟨⟨x47, rfl, p48⟩, g46⟩ := q45
      have p48 : x47.toInt = (-2 : Int) := p48
      have z49 : WT kp L [C, C0, C1, C5] f0 f44 := wt_fm z7 g46 rfl
      have hF := FM.tr hF g46 rfl
      exact e_I E hW rfl ⟨⟨_, rfl, (by rw [mko]; omega)⟩, hF, (Or.inl ⟨by rw [mko]; omega, by rw [mC, mC0]; exact (((fm_I g46 rC0 rfl).trans ((fm_I g4 rC0 rfl).trans mCv0_0))).trans (mCv0_0).symm⟩), (Or.inl ⟨by rw [mko]; omega, by rw [mC, mC1]; exact (((fm_I g46 rC1 rfl).trans ((fm_I g4 rC1 rfl).trans mCv1_8))).trans (mCv1_8).symm⟩), (Or.inl ⟨by rw [mko]; omega, by rw [mC, mC5]; exact (((fm_I g46 rC5 rfl).trans ((fm_I g4 rC5 rfl).trans mCv5_1))).trans (mCv5_1).symm⟩), (Or.inl ⟨by rw [mko]; omega, by rw [mC, mC5]; exact (((fm_I g46 rC5 rfl).trans ((fm_I g4 rC5 rfl).trans mCv5_3))).trans (mCv5_3).symm⟩), (Or.inl ⟨by rw [mko]; omega, by rw [mC]; exact (((fm_I g46 rC rfl).trans ((fm_I g4 rC rfl).trans mCv6))).trans (mCv6).symm⟩), (by rw [mC, mC0, mC1, mC5]; exact z49)⟩ dX11_back_42
  · exfalso; omega
def ms_X11_image_wn : List (Nat × Nat) := [(0, 6), (0, 9), (0, 12), (0, 13), (1, 0), (1, 8), (1, 12), (1, 13), (1, 14), (2, 0), (3, 0), (3, 1), (3, 2), (3, 3), (4, 0), (10, 0), (10, 7), (11, 4), (11, 5), (11, 15), (108, 0), (161, 0), (162, 0), (163, 0), (164, 0), (165, 0), (166, 0), (167, 0), (169, 0), (170, 0), (171, 0), (221, 0), (284, 0), (285, 0), (341, 0), (342, 0), (343, 0), (344, 0), (345, 0), (346, 0), (347, 0), (348, 0), (520, 0), (521, 0), (701, 0), (702, 0), (703, 0), (704, 0), (705, 0), (706, 0), (708, 0), (709, 0), (710, 0)]
def po_X11_image_wn (kp : Nat → Nat) (L : List Nat) (f0 : Nat → va_E) (h0 : Nat) (u1 : Int32) : Option Value → (Nat → va_E) → Prop := fun v f => (∃ r : Int32, v = some (.int r) ∧ (r.toInt = -1)) ∧ FM kp L ms_X11_image_wn f0 f ∧ ((oI (f h0) 4).toInt = (oI (f0 h0) 4).toInt ∧ (oI (f h0) 5).toInt = (oI (f0 h0) 5).toInt) ∧ (WT kp L [] f0 f)
set_option maxHeartbeats 4000000 in
set_option maxRecDepth 100000 in
theorem c_X11_image_wn (l : Launch) (G : va_G) (cI cJ cZ cD cR cT : ClassId) (kp : Nat → Nat) (L : List Nat) (f0 : Nat → va_E) (hTH : TH cI cJ cZ cD cR cT kp L f0) (sz : Nat) (h0 : Nat) (u1 : Int32) (rh0 : RK kp L h0 11) (hno : ¬ (0 ≤ u1.toInt ∧ u1.toInt ≤ 1)) : Met l yX11_image (Cond.code yX11_image cX11_image 2 (some .int) :: wTab) ({ frames := 3, cells := 0, slots := 0, locals := 103 }) (va_Pc [.ref h0, .int u1] (PreW G (tys6 cI cJ cZ cD cR cT) (va_pl L f0) sz)) (QT (po_X11_image_wn kp L f0 h0 u1) G cI cJ cZ cD cR cT (va_A (va_pl L f0) sz) kp L) 0 0 (va_A (va_pl L f0) sz) := by
  refine metT (by decide) (Nat.le_of_ble_eq_true rfl) hTH ?_
  intro p e s m below meth c A ls E hW hl
  obtain ⟨hx, hb, -, hml, hown, hts, -, -, -⟩ := id E
  have hF : FM kp L ms_X11_image_wn f0 f0 := FM.rf
  have hl : lv_has ls 2 [(0, .ref h0), (1, .int u1)] := hl
  obtain ⟨C, mC⟩ : ∃ x : Nat, oR (f0 h0) 0 = x := ⟨_, rfl⟩
  have rC : RK kp L C 0 := by rw [← mC]; exact th_ref hTH rh0 (by decide) (by decide) rfl
  obtain ⟨C0, mC0⟩ : ∃ x : Nat, oR (f0 C) 0 = x := ⟨_, rfl⟩
  have rC0 : RK kp L C0 4 := by rw [← mC0]; exact th_ref hTH rC (by decide) (by decide) rfl
  obtain ⟨C1, mC1⟩ : ∃ x : Nat, oR (f0 C) 1 = x := ⟨_, rfl⟩
  have rC1 : RK kp L C1 1 := by rw [← mC1]; exact th_ref hTH rC (by decide) (by decide) rfl
  obtain ⟨C5, mC5⟩ : ∃ x : Nat, oR (f0 C) 5 = x := ⟨_, rfl⟩
  have rC5 : RK kp L C5 3 := by rw [← mC5]; exact th_ref hTH rC (by decide) (by decide) rfl
  obtain ⟨I, mI⟩ : ∃ x : Nat, oR (f0 h0) 2 = x := ⟨_, rfl⟩
  have rI : RK kp L I 0 := by rw [← mI]; exact th_ref hTH rh0 (by decide) (by decide) rfl
  obtain ⟨I0, mI0⟩ : ∃ x : Nat, oR (f0 I) 0 = x := ⟨_, rfl⟩
  have rI0 : RK kp L I0 4 := by rw [← mI0]; exact th_ref hTH rI (by decide) (by decide) rfl
  obtain ⟨I1, mI1⟩ : ∃ x : Nat, oR (f0 I) 1 = x := ⟨_, rfl⟩
  have rI1 : RK kp L I1 1 := by rw [← mI1]; exact th_ref hTH rI (by decide) (by decide) rfl
  obtain ⟨I5, mI5⟩ : ∃ x : Nat, oR (f0 I) 5 = x := ⟨_, rfl⟩
  have rI5 : RK kp L I5 3 := by rw [← mI5]; exact th_ref hTH rI (by decide) (by decide) rfl
  obtain ⟨J, mJ⟩ : ∃ x : Nat, oR (f0 h0) 3 = x := ⟨_, rfl⟩
  have rJ : RK kp L J 0 := by rw [← mJ]; exact th_ref hTH rh0 (by decide) (by decide) rfl
  obtain ⟨J0, mJ0⟩ : ∃ x : Nat, oR (f0 J) 0 = x := ⟨_, rfl⟩
  have rJ0 : RK kp L J0 4 := by rw [← mJ0]; exact th_ref hTH rJ (by decide) (by decide) rfl
  obtain ⟨J1, mJ1⟩ : ∃ x : Nat, oR (f0 J) 1 = x := ⟨_, rfl⟩
  have rJ1 : RK kp L J1 1 := by rw [← mJ1]; exact th_ref hTH rJ (by decide) (by decide) rfl
  obtain ⟨J5, mJ5⟩ : ∃ x : Nat, oR (f0 J) 5 = x := ⟨_, rfl⟩
  have rJ5 : RK kp L J5 3 := by rw [← mJ5]; exact th_ref hTH rJ (by decide) (by decide) rfl
  obtain ⟨k4, mk4⟩ : ∃ x : Int32, oI (f0 h0) 4 = x := ⟨_, rfl⟩
  have bk4 : (0 : Int) ≤ k4.toInt ∧ k4.toInt ≤ 1 := by rw [← mk4]; exact th_ivT hTH rh0 (by decide) (by decide) rfl
  obtain ⟨k5, mk5⟩ : ∃ x : Int32, oI (f0 h0) 5 = x := ⟨_, rfl⟩
  have bk5 : (0 : Int) ≤ k5.toInt ∧ k5.toInt ≤ 1 := by rw [← mk5]; exact th_ivT hTH rh0 (by decide) (by decide) rfl
  refine lv_iload_n hx hb dX11_image_0 rfl (lv_at hl 1 rfl) ?_
  refine lv_iconst (v := 0) hx hb dX11_image_1 (by decide) ?_
  refine lv_iconst (v := 1) hx hb dX11_image_2 (by decide) ?_
  have hW0 := hW.2.2.2
  refine t_callS (As := [.int u1, .int 0, .int 1]) (rest := []) E hW (c_X11_within l G cI cJ cZ cD cR cT kp L f0 hW.2.2.2 _ u1 0 1 (by decide)) wk_X11_within tw_599 rfl ⟨Nat.le_of_ble_eq_true rfl, Nat.le_of_ble_eq_true rfl⟩ ⟨rfl, rfl⟩ hl.1 rfl (Nat.le_of_ble_eq_true rfl) dX11_image_3 ⟨Nat.le_of_ble_eq_true rfl, Nat.le_of_ble_eq_true rfl⟩ (fun v1 f2 H locs q3 hW => ?_)
  obtain ⟨⟨x5, rfl, p6⟩, g4⟩ := q3
  have p6 : (x5.toInt = 1 ∧ (0 : Int) ≤ u1.toInt ∧ u1.toInt ≤ (1 : Int)) ∨ (x5.toInt = 0 ∧ (u1.toInt < (0 : Int) ∨ (1 : Int) < u1.toInt)) := p6
  have z7 : WT kp L [] f0 f2 := wt_fm (wt_rf : WT kp L [] f0 f0) g4 rfl
  have hF := FM.tr hF g4 rfl
  refine q_if_ne (tgt := 15) hx hb dX11_image_6 (by decide) rfl (fun c8 => ?_) (fun c8 => ?_)
  · have q9 : (0 : Int) ≤ u1.toInt ∧ u1.toInt ≤ (1 : Int) := by omega
    clear p6
    refine lv_iload_n hx hb dX11_image_15 rfl (lv_at hl 1 rfl) ?_
    refine q_if_ne (tgt := 38) hx hb dX11_image_16 (by decide) rfl (fun c10 => ?_) (fun c10 => ?_)
    · refine lv_aload_n hx hb dX11_image_38 rfl (lv_at hl 0 rfl) ?_
      refine fg_RX11_24 E hW rh0 dX11_image_39 (fun a11 m12 r13 => ?_)
      obtain rfl : J = a11 := (((fm_R g4 rh0 rfl).trans mJ)).symm.trans m12
      refine lv_aload_n hx hb dX11_image_42 rfl (lv_at hl 0 rfl) ?_
      refine fg_RX11_12 E hW rh0 dX11_image_43 (fun a14 m15 r16 => ?_)
      obtain rfl : C = a14 := (((fm_R g4 rh0 rfl).trans mC)).symm.trans m15
      have hW0 := hW.2.2.2
      refine t_callV (As := [.ref C]) (rest := []) E hW (c_X0_copyFrom_w l G cI cJ cZ cD cR cT kp L f2 hW.2.2.2 _ J C rJ rC) rJ (by decide) rfl wk_X0_copyFrom tw_1285 rfl ⟨Nat.le_of_ble_eq_true rfl, Nat.le_of_ble_eq_true rfl⟩ ⟨rfl, rfl⟩ hl.1 rfl (Nat.le_of_ble_eq_true rfl) dX11_image_46 ⟨Nat.le_of_ble_eq_true rfl, Nat.le_of_ble_eq_true rfl⟩ (fun v17 f18 H locs q19 hW => ?_)
      obtain ⟨rfl, g20, h21, h22, h23, h24, h25, h26⟩ := q19
      have hF := FM.tr hF g20 rfl
      have z28 : WT kp L [] f0 f18 := wt_call z7 h26 (by rw [((fm_R g4 rJ rfl).trans mJ0), ((fm_R g4 rJ rfl).trans mJ1), ((fm_R g4 rJ rfl).trans mJ5)]; intro q h; simp only [List.mem_cons, List.not_mem_nil, or_false] at h ⊢; omega)
      refine lv_aload_n hx hb dX11_image_49 rfl (lv_at hl 0 rfl) ?_
      refine lv_iconst (v := 1) hx hb dX11_image_50 (by decide) ?_
      have hW0 := hW.2.2.2
      refine fp_RX11_353 E hW rh0 (by decide) dX11_image_51 (fun f29 H locs e30 n31 g32 hW => ?_)
      have z33 : WT kp L [] f0 f29 := wt_fm z28 g32 rfl
      have hF := FM.tr hF g32 rfl
      refine lv_aload_n hx hb dX11_image_54 rfl (lv_at hl 0 rfl) ?_
      refine lv_iconst (v := 0) hx hb dX11_image_55 (by decide) ?_
      have hW0 := hW.2.2.2
      refine t_callV (As := [.int 0]) (rest := []) E hW (c_X11_accept_x l G cI cJ cZ cD cR cT kp L f29 hW.2.2.2 _ h0 0 rh0) rh0 (by decide) rfl wk_X11_accept tw_611 rfl ⟨Nat.le_of_ble_eq_true rfl, Nat.le_of_ble_eq_true rfl⟩ ⟨rfl, rfl⟩ hl.1 rfl (Nat.le_of_ble_eq_true rfl) dX11_image_56 ⟨Nat.le_of_ble_eq_true rfl, Nat.le_of_ble_eq_true rfl⟩ (fun v34 f35 H locs q36 hW => ?_)
      obtain ⟨⟨x38, rfl, p39⟩, g37⟩ := q36
      have p39 : x38.toInt = (0 : Int) := p39
      have z40 : WT kp L [] f0 f35 := wt_fm z33 g37 rfl
      have hF := FM.tr hF g37 rfl
      exact e_I E hW rfl ⟨⟨_, rfl, (by first | omega | trivial)⟩, hF, (by have h1 : (1 : Int32).toInt = 1 := rfl; rw [((fm_I g37 rh0 rfl).trans ((fm_I g32 rh0 rfl).trans ((fm_I g20 rh0 rfl).trans ((fm_I g4 rh0 rfl).trans mk4)))), ((fm_I g37 rh0 rfl).trans e30), mk4, mk5]; omega), z40⟩ dX11_image_59
    · refine lv_aload_n hx hb dX11_image_19 rfl (lv_at hl 0 rfl) ?_
      refine fg_RX11_21 E hW rh0 dX11_image_20 (fun a41 m42 r43 => ?_)
      obtain rfl : I = a41 := (((fm_R g4 rh0 rfl).trans mI)).symm.trans m42
      refine lv_aload_n hx hb dX11_image_23 rfl (lv_at hl 0 rfl) ?_
      refine fg_RX11_12 E hW rh0 dX11_image_24 (fun a44 m45 r46 => ?_)
      obtain rfl : C = a44 := (((fm_R g4 rh0 rfl).trans mC)).symm.trans m45
      have hW0 := hW.2.2.2
      refine t_callV (As := [.ref C]) (rest := []) E hW (c_X0_copyFrom_w l G cI cJ cZ cD cR cT kp L f2 hW.2.2.2 _ I C rI rC) rI (by decide) rfl wk_X0_copyFrom tw_1285 rfl ⟨Nat.le_of_ble_eq_true rfl, Nat.le_of_ble_eq_true rfl⟩ ⟨rfl, rfl⟩ hl.1 rfl (Nat.le_of_ble_eq_true rfl) dX11_image_27 ⟨Nat.le_of_ble_eq_true rfl, Nat.le_of_ble_eq_true rfl⟩ (fun v47 f48 H locs q49 hW => ?_)
      obtain ⟨rfl, g50, h51, h52, h53, h54, h55, h56⟩ := q49
      have hF := FM.tr hF g50 rfl
      have z58 : WT kp L [] f0 f48 := wt_call z7 h56 (by rw [((fm_R g4 rI rfl).trans mI0), ((fm_R g4 rI rfl).trans mI1), ((fm_R g4 rI rfl).trans mI5)]; intro q h; simp only [List.mem_cons, List.not_mem_nil, or_false] at h ⊢; omega)
      refine lv_aload_n hx hb dX11_image_30 rfl (lv_at hl 0 rfl) ?_
      refine lv_iconst (v := 1) hx hb dX11_image_31 (by decide) ?_
      have hW0 := hW.2.2.2
      refine fp_RX11_349 E hW rh0 (by decide) dX11_image_32 (fun f59 H locs e60 n61 g62 hW => ?_)
      have z63 : WT kp L [] f0 f59 := wt_fm z58 g62 rfl
      have hF := FM.tr hF g62 rfl
      refine lv_goto (tgt := 54) hx hb dX11_image_35 (by decide) ?_
      refine lv_aload_n hx hb dX11_image_54 rfl (lv_at hl 0 rfl) ?_
      refine lv_iconst (v := 0) hx hb dX11_image_55 (by decide) ?_
      have hW0 := hW.2.2.2
      refine t_callV (As := [.int 0]) (rest := []) E hW (c_X11_accept_x l G cI cJ cZ cD cR cT kp L f59 hW.2.2.2 _ h0 0 rh0) rh0 (by decide) rfl wk_X11_accept tw_611 rfl ⟨Nat.le_of_ble_eq_true rfl, Nat.le_of_ble_eq_true rfl⟩ ⟨rfl, rfl⟩ hl.1 rfl (Nat.le_of_ble_eq_true rfl) dX11_image_56 ⟨Nat.le_of_ble_eq_true rfl, Nat.le_of_ble_eq_true rfl⟩ (fun v64 f65 H locs q66 hW => ?_)
      obtain ⟨⟨x68, rfl, p69⟩, g67⟩ := q66
      have p69 : x68.toInt = (0 : Int) := p69
      have z70 : WT kp L [] f0 f65 := wt_fm z63 g67 rfl
      have hF := FM.tr hF g67 rfl
      exact e_I E hW rfl ⟨⟨_, rfl, (by first | omega | trivial)⟩, hF, (by have h1 : (1 : Int32).toInt = 1 := rfl; rw [((fm_I g67 rh0 rfl).trans e60), ((fm_I g67 rh0 rfl).trans ((fm_I g62 rh0 rfl).trans ((fm_I g50 rh0 rfl).trans ((fm_I g4 rh0 rfl).trans mk5)))), mk4, mk5]; omega), z70⟩ dX11_image_59
  · have q71 : (u1.toInt < (0 : Int) ∨ (1 : Int) < u1.toInt) := by omega
    clear p6
    refine lv_aload_n hx hb dX11_image_9 rfl (lv_at hl 0 rfl) ?_
    refine lv_iconst (v := (-1)) hx hb dX11_image_10 (by decide) ?_
    have hW0 := hW.2.2.2
    refine t_callV (As := [.int (-1)]) (rest := []) E hW (c_X11_refuse_x l G cI cJ cZ cD cR cT kp L f2 hW.2.2.2 _ h0 (-1) rh0 (by decide)) rh0 (by decide) rfl wk_X11_refuse tw_603 rfl ⟨Nat.le_of_ble_eq_true rfl, Nat.le_of_ble_eq_true rfl⟩ ⟨rfl, rfl⟩ hl.1 rfl (Nat.le_of_ble_eq_true rfl) dX11_image_11 ⟨Nat.le_of_ble_eq_true rfl, Nat.le_of_ble_eq_true rfl⟩ (fun v72 f73 H locs q74 hW => ?_)
    obtain ⟨⟨x76, rfl, p77⟩, g75⟩ := q74
    have p77 : x76.toInt = (-1 : Int) := p77
    have z78 : WT kp L [] f0 f73 := wt_fm z7 g75 rfl
    have hF := FM.tr hF g75 rfl
    exact e_I E hW rfl ⟨⟨_, rfl, (by first | omega | trivial)⟩, hF, (by have h1 : (1 : Int32).toInt = 1 := rfl; rw [((fm_I g75 rh0 rfl).trans ((fm_I g4 rh0 rfl).trans mk4)), ((fm_I g75 rh0 rfl).trans ((fm_I g4 rh0 rfl).trans mk5)), mk4, mk5]; omega), z78⟩ dX11_image_14
def ms_X11_back_wn : List (Nat × Nat) := [(0, 6), (0, 9), (0, 12), (0, 13), (1, 0), (1, 8), (1, 12), (1, 13), (1, 14), (2, 0), (3, 0), (3, 1), (3, 2), (3, 3), (4, 0), (10, 0), (10, 7), (11, 15), (108, 0), (161, 0), (162, 0), (163, 0), (164, 0), (165, 0), (166, 0), (167, 0), (169, 0), (170, 0), (171, 0), (221, 0), (284, 0), (285, 0), (341, 0), (342, 0), (343, 0), (344, 0), (345, 0), (346, 0), (347, 0), (348, 0), (520, 0), (521, 0), (701, 0), (702, 0), (703, 0), (704, 0), (705, 0), (706, 0), (708, 0), (709, 0), (710, 0)]
def po_X11_back_wn (kp : Nat → Nat) (L : List Nat) (f0 : Nat → va_E) (h0 : Nat) (u1 : Int32) : Option Value → (Nat → va_E) → Prop := fun v f => (∃ r : Int32, v = some (.int r) ∧ (r.toInt = -1)) ∧ FM kp L ms_X11_back_wn f0 f ∧ ((oI (f h0) 4).toInt = (oI (f0 h0) 4).toInt ∧ (oI (f h0) 5).toInt = (oI (f0 h0) 5).toInt) ∧ (WT kp L [] f0 f)
set_option maxHeartbeats 4000000 in
set_option maxRecDepth 100000 in
theorem c_X11_back_wn (l : Launch) (G : va_G) (cI cJ cZ cD cR cT : ClassId) (kp : Nat → Nat) (L : List Nat) (f0 : Nat → va_E) (hTH : TH cI cJ cZ cD cR cT kp L f0) (sz : Nat) (h0 : Nat) (u1 : Int32) (rh0 : RK kp L h0 11) (hno : ¬ (0 ≤ u1.toInt ∧ u1.toInt ≤ 1)) : Met l yX11_back (Cond.code yX11_back cX11_back 2 (some .int) :: wTab) ({ frames := 3, cells := 0, slots := 0, locals := 103 }) (va_Pc [.ref h0, .int u1] (PreW G (tys6 cI cJ cZ cD cR cT) (va_pl L f0) sz)) (QT (po_X11_back_wn kp L f0 h0 u1) G cI cJ cZ cD cR cT (va_A (va_pl L f0) sz) kp L) 0 0 (va_A (va_pl L f0) sz) := by
  refine metT (by decide) (Nat.le_of_ble_eq_true rfl) hTH ?_
  intro p e s m below meth c A ls E hW hl
  obtain ⟨hx, hb, -, hml, hown, hts, -, -, -⟩ := id E
  have hF : FM kp L ms_X11_back_wn f0 f0 := FM.rf
  have hl : lv_has ls 2 [(0, .ref h0), (1, .int u1)] := hl
  obtain ⟨C, mC⟩ : ∃ x : Nat, oR (f0 h0) 0 = x := ⟨_, rfl⟩
  have rC : RK kp L C 0 := by rw [← mC]; exact th_ref hTH rh0 (by decide) (by decide) rfl
  obtain ⟨C0, mC0⟩ : ∃ x : Nat, oR (f0 C) 0 = x := ⟨_, rfl⟩
  have rC0 : RK kp L C0 4 := by rw [← mC0]; exact th_ref hTH rC (by decide) (by decide) rfl
  obtain ⟨C1, mC1⟩ : ∃ x : Nat, oR (f0 C) 1 = x := ⟨_, rfl⟩
  have rC1 : RK kp L C1 1 := by rw [← mC1]; exact th_ref hTH rC (by decide) (by decide) rfl
  obtain ⟨C5, mC5⟩ : ∃ x : Nat, oR (f0 C) 5 = x := ⟨_, rfl⟩
  have rC5 : RK kp L C5 3 := by rw [← mC5]; exact th_ref hTH rC (by decide) (by decide) rfl
  obtain ⟨I, mI⟩ : ∃ x : Nat, oR (f0 h0) 2 = x := ⟨_, rfl⟩
  have rI : RK kp L I 0 := by rw [← mI]; exact th_ref hTH rh0 (by decide) (by decide) rfl
  obtain ⟨I0, mI0⟩ : ∃ x : Nat, oR (f0 I) 0 = x := ⟨_, rfl⟩
  have rI0 : RK kp L I0 4 := by rw [← mI0]; exact th_ref hTH rI (by decide) (by decide) rfl
  obtain ⟨I1, mI1⟩ : ∃ x : Nat, oR (f0 I) 1 = x := ⟨_, rfl⟩
  have rI1 : RK kp L I1 1 := by rw [← mI1]; exact th_ref hTH rI (by decide) (by decide) rfl
  obtain ⟨I5, mI5⟩ : ∃ x : Nat, oR (f0 I) 5 = x := ⟨_, rfl⟩
  have rI5 : RK kp L I5 3 := by rw [← mI5]; exact th_ref hTH rI (by decide) (by decide) rfl
  obtain ⟨J, mJ⟩ : ∃ x : Nat, oR (f0 h0) 3 = x := ⟨_, rfl⟩
  have rJ : RK kp L J 0 := by rw [← mJ]; exact th_ref hTH rh0 (by decide) (by decide) rfl
  obtain ⟨J0, mJ0⟩ : ∃ x : Nat, oR (f0 J) 0 = x := ⟨_, rfl⟩
  have rJ0 : RK kp L J0 4 := by rw [← mJ0]; exact th_ref hTH rJ (by decide) (by decide) rfl
  obtain ⟨J1, mJ1⟩ : ∃ x : Nat, oR (f0 J) 1 = x := ⟨_, rfl⟩
  have rJ1 : RK kp L J1 1 := by rw [← mJ1]; exact th_ref hTH rJ (by decide) (by decide) rfl
  obtain ⟨J5, mJ5⟩ : ∃ x : Nat, oR (f0 J) 5 = x := ⟨_, rfl⟩
  have rJ5 : RK kp L J5 3 := by rw [← mJ5]; exact th_ref hTH rJ (by decide) (by decide) rfl
  obtain ⟨k4, mk4⟩ : ∃ x : Int32, oI (f0 h0) 4 = x := ⟨_, rfl⟩
  have bk4 : (0 : Int) ≤ k4.toInt ∧ k4.toInt ≤ 1 := by rw [← mk4]; exact th_ivT hTH rh0 (by decide) (by decide) rfl
  obtain ⟨k5, mk5⟩ : ∃ x : Int32, oI (f0 h0) 5 = x := ⟨_, rfl⟩
  have bk5 : (0 : Int) ≤ k5.toInt ∧ k5.toInt ≤ 1 := by rw [← mk5]; exact th_ivT hTH rh0 (by decide) (by decide) rfl
  refine lv_iload_n hx hb dX11_back_0 rfl (lv_at hl 1 rfl) ?_
  refine lv_iconst (v := 0) hx hb dX11_back_1 (by decide) ?_
  refine lv_iconst (v := 1) hx hb dX11_back_2 (by decide) ?_
  have hW0 := hW.2.2.2
  refine t_callS (As := [.int u1, .int 0, .int 1]) (rest := []) E hW (c_X11_within l G cI cJ cZ cD cR cT kp L f0 hW.2.2.2 _ u1 0 1 (by decide)) wk_X11_within tw_599 rfl ⟨Nat.le_of_ble_eq_true rfl, Nat.le_of_ble_eq_true rfl⟩ ⟨rfl, rfl⟩ hl.1 rfl (Nat.le_of_ble_eq_true rfl) dX11_back_3 ⟨Nat.le_of_ble_eq_true rfl, Nat.le_of_ble_eq_true rfl⟩ (fun v1 f2 H locs q3 hW => ?_)
  obtain ⟨⟨x5, rfl, p6⟩, g4⟩ := q3
  have p6 : (x5.toInt = 1 ∧ (0 : Int) ≤ u1.toInt ∧ u1.toInt ≤ (1 : Int)) ∨ (x5.toInt = 0 ∧ (u1.toInt < (0 : Int) ∨ (1 : Int) < u1.toInt)) := p6
  have z7 : WT kp L [] f0 f2 := wt_fm (wt_rf : WT kp L [] f0 f0) g4 rfl
  have hF := FM.tr hF g4 rfl
  refine q_if_ne (tgt := 15) hx hb dX11_back_6 (by decide) rfl (fun c8 => ?_) (fun c8 => ?_)
  · have q9 : (0 : Int) ≤ u1.toInt ∧ u1.toInt ≤ (1 : Int) := by omega
    clear p6
    refine lv_iload_n hx hb dX11_back_15 rfl (lv_at hl 1 rfl) ?_
    refine q_if_ne (tgt := 29) hx hb dX11_back_16 (by decide) rfl (fun c10 => ?_) (fun c10 => ?_)
    · refine lv_aload_n hx hb dX11_back_29 rfl (lv_at hl 0 rfl) ?_
      refine fg_RX11_353 E hW rh0 dX11_back_30 (fun y11 m12 b13 => ?_)
      obtain rfl : k5 = y11 := (((fm_I g4 rh0 rfl).trans mk5)).symm.trans m12
      refine q_if_ne (tgt := 43) hx hb dX11_back_33 (by decide) rfl (fun c14 => ?_) (fun c14 => ?_)
      · refine lv_aload_n hx hb dX11_back_43 rfl (lv_at hl 0 rfl) ?_
        refine fg_RX11_12 E hW rh0 dX11_back_44 (fun a15 m16 r17 => ?_)
        obtain rfl : C = a15 := (((fm_R g4 rh0 rfl).trans mC)).symm.trans m16
        refine lv_iload_n hx hb dX11_back_47 rfl (lv_at hl 1 rfl) ?_
        refine q_if_ne (tgt := 58) hx hb dX11_back_48 (by decide) rfl (fun c18 => ?_) (fun c18 => ?_)
        · refine lv_aload_n hx hb dX11_back_58 rfl (lv_at hl 0 rfl) ?_
          refine fg_RX11_24 E hW rh0 dX11_back_59 (fun a19 m20 r21 => ?_)
          obtain rfl : J = a19 := (((fm_R g4 rh0 rfl).trans mJ)).symm.trans m20
          have hW0 := hW.2.2.2
          refine t_callV (As := [.ref J]) (rest := []) E hW (c_X0_copyFrom_w l G cI cJ cZ cD cR cT kp L f2 hW.2.2.2 _ C J rC rJ) rC (by decide) rfl wk_X0_copyFrom tw_1285 rfl ⟨Nat.le_of_ble_eq_true rfl, Nat.le_of_ble_eq_true rfl⟩ ⟨rfl, rfl⟩ hl.1 rfl (Nat.le_of_ble_eq_true rfl) dX11_back_62 ⟨Nat.le_of_ble_eq_true rfl, Nat.le_of_ble_eq_true rfl⟩ (fun v22 f23 H locs q24 hW => ?_)
          obtain ⟨rfl, g25, h26, h27, h28, h29, h30, h31⟩ := q24
          have hF := FM.tr hF g25 rfl
          have z33 : WT kp L [] f0 f23 := wt_call z7 h31 (by rw [((fm_R g4 rC rfl).trans mC0), ((fm_R g4 rC rfl).trans mC1), ((fm_R g4 rC rfl).trans mC5)]; intro q h; simp only [List.mem_cons, List.not_mem_nil, or_false] at h ⊢; omega)
          refine lv_aload_n hx hb dX11_back_65 rfl (lv_at hl 0 rfl) ?_
          refine lv_iconst (v := 0) hx hb dX11_back_66 (by decide) ?_
          have hW0 := hW.2.2.2
          refine t_callV (As := [.int 0]) (rest := []) E hW (c_X11_accept_x l G cI cJ cZ cD cR cT kp L f23 hW.2.2.2 _ h0 0 rh0) rh0 (by decide) rfl wk_X11_accept tw_611 rfl ⟨Nat.le_of_ble_eq_true rfl, Nat.le_of_ble_eq_true rfl⟩ ⟨rfl, rfl⟩ hl.1 rfl (Nat.le_of_ble_eq_true rfl) dX11_back_67 ⟨Nat.le_of_ble_eq_true rfl, Nat.le_of_ble_eq_true rfl⟩ (fun v34 f35 H locs q36 hW => ?_)
          obtain ⟨⟨x38, rfl, p39⟩, g37⟩ := q36
          have p39 : x38.toInt = (0 : Int) := p39
          have z40 : WT kp L [] f0 f35 := wt_fm z33 g37 rfl
          have hF := FM.tr hF g37 rfl
          exact e_I E hW rfl ⟨⟨_, rfl, (by first | omega | trivial)⟩, hF, (by have h1 : (1 : Int32).toInt = 1 := rfl; rw [((fm_I g37 rh0 rfl).trans ((fm_I g25 rh0 rfl).trans ((fm_I g4 rh0 rfl).trans mk4))), ((fm_I g37 rh0 rfl).trans ((fm_I g25 rh0 rfl).trans m12)), mk4, mk5]; omega), z40⟩ dX11_back_70
        · exfalso; omega
      · refine lv_aload_n hx hb dX11_back_36 rfl (lv_at hl 0 rfl) ?_
        refine lv_bipush (v := (-2)) hx hb dX11_back_37 (by decide) ?_
        have hW0 := hW.2.2.2
        refine t_callV (As := [.int (-2)]) (rest := []) E hW (c_X11_refuse_x l G cI cJ cZ cD cR cT kp L f2 hW.2.2.2 _ h0 (-2) rh0 (by decide)) rh0 (by decide) rfl wk_X11_refuse tw_603 rfl ⟨Nat.le_of_ble_eq_true rfl, Nat.le_of_ble_eq_true rfl⟩ ⟨rfl, rfl⟩ hl.1 rfl (Nat.le_of_ble_eq_true rfl) dX11_back_39 ⟨Nat.le_of_ble_eq_true rfl, Nat.le_of_ble_eq_true rfl⟩ (fun v41 f42 H locs q43 hW => ?_)
        obtain ⟨⟨x45, rfl, p46⟩, g44⟩ := q43
        have p46 : x45.toInt = (-2 : Int) := p46
        have z47 : WT kp L [] f0 f42 := wt_fm z7 g44 rfl
        have hF := FM.tr hF g44 rfl
        exact e_I E hW rfl ⟨⟨_, rfl, (by first | omega | trivial)⟩, hF, (by have h1 : (1 : Int32).toInt = 1 := rfl; rw [((fm_I g44 rh0 rfl).trans ((fm_I g4 rh0 rfl).trans mk4)), ((fm_I g44 rh0 rfl).trans m12), mk4, mk5]; omega), z47⟩ dX11_back_42
    · refine lv_aload_n hx hb dX11_back_19 rfl (lv_at hl 0 rfl) ?_
      refine fg_RX11_349 E hW rh0 dX11_back_20 (fun y48 m49 b50 => ?_)
      obtain rfl : k4 = y48 := (((fm_I g4 rh0 rfl).trans mk4)).symm.trans m49
      refine q_if_ne (tgt := 43) hx hb dX11_back_23 (by decide) rfl (fun c51 => ?_) (fun c51 => ?_)
      · refine lv_aload_n hx hb dX11_back_43 rfl (lv_at hl 0 rfl) ?_
        refine fg_RX11_12 E hW rh0 dX11_back_44 (fun a52 m53 r54 => ?_)
        obtain rfl : C = a52 := (((fm_R g4 rh0 rfl).trans mC)).symm.trans m53
        refine lv_iload_n hx hb dX11_back_47 rfl (lv_at hl 1 rfl) ?_
        refine q_if_ne (tgt := 58) hx hb dX11_back_48 (by decide) rfl (fun c55 => ?_) (fun c55 => ?_)
        · exfalso; omega
        · refine lv_aload_n hx hb dX11_back_51 rfl (lv_at hl 0 rfl) ?_
          refine fg_RX11_21 E hW rh0 dX11_back_52 (fun a56 m57 r58 => ?_)
          obtain rfl : I = a56 := (((fm_R g4 rh0 rfl).trans mI)).symm.trans m57
          refine lv_goto (tgt := 62) hx hb dX11_back_55 (by decide) ?_
          have hW0 := hW.2.2.2
          refine t_callV (As := [.ref I]) (rest := []) E hW (c_X0_copyFrom_w l G cI cJ cZ cD cR cT kp L f2 hW.2.2.2 _ C I rC rI) rC (by decide) rfl wk_X0_copyFrom tw_1285 rfl ⟨Nat.le_of_ble_eq_true rfl, Nat.le_of_ble_eq_true rfl⟩ ⟨rfl, rfl⟩ hl.1 rfl (Nat.le_of_ble_eq_true rfl) dX11_back_62 ⟨Nat.le_of_ble_eq_true rfl, Nat.le_of_ble_eq_true rfl⟩ (fun v59 f60 H locs q61 hW => ?_)
          obtain ⟨rfl, g62, h63, h64, h65, h66, h67, h68⟩ := q61
          have hF := FM.tr hF g62 rfl
          have z70 : WT kp L [] f0 f60 := wt_call z7 h68 (by rw [((fm_R g4 rC rfl).trans mC0), ((fm_R g4 rC rfl).trans mC1), ((fm_R g4 rC rfl).trans mC5)]; intro q h; simp only [List.mem_cons, List.not_mem_nil, or_false] at h ⊢; omega)
          refine lv_aload_n hx hb dX11_back_65 rfl (lv_at hl 0 rfl) ?_
          refine lv_iconst (v := 0) hx hb dX11_back_66 (by decide) ?_
          have hW0 := hW.2.2.2
          refine t_callV (As := [.int 0]) (rest := []) E hW (c_X11_accept_x l G cI cJ cZ cD cR cT kp L f60 hW.2.2.2 _ h0 0 rh0) rh0 (by decide) rfl wk_X11_accept tw_611 rfl ⟨Nat.le_of_ble_eq_true rfl, Nat.le_of_ble_eq_true rfl⟩ ⟨rfl, rfl⟩ hl.1 rfl (Nat.le_of_ble_eq_true rfl) dX11_back_67 ⟨Nat.le_of_ble_eq_true rfl, Nat.le_of_ble_eq_true rfl⟩ (fun v71 f72 H locs q73 hW => ?_)
          obtain ⟨⟨x75, rfl, p76⟩, g74⟩ := q73
          have p76 : x75.toInt = (0 : Int) := p76
          have z77 : WT kp L [] f0 f72 := wt_fm z70 g74 rfl
          have hF := FM.tr hF g74 rfl
          exact e_I E hW rfl ⟨⟨_, rfl, (by first | omega | trivial)⟩, hF, (by have h1 : (1 : Int32).toInt = 1 := rfl; rw [((fm_I g74 rh0 rfl).trans ((fm_I g62 rh0 rfl).trans m49)), ((fm_I g74 rh0 rfl).trans ((fm_I g62 rh0 rfl).trans ((fm_I g4 rh0 rfl).trans mk5))), mk4, mk5]; omega), z77⟩ dX11_back_70
      · refine lv_goto (tgt := 36) hx hb dX11_back_26 (by decide) ?_
        refine lv_aload_n hx hb dX11_back_36 rfl (lv_at hl 0 rfl) ?_
        refine lv_bipush (v := (-2)) hx hb dX11_back_37 (by decide) ?_
        have hW0 := hW.2.2.2
        refine t_callV (As := [.int (-2)]) (rest := []) E hW (c_X11_refuse_x l G cI cJ cZ cD cR cT kp L f2 hW.2.2.2 _ h0 (-2) rh0 (by decide)) rh0 (by decide) rfl wk_X11_refuse tw_603 rfl ⟨Nat.le_of_ble_eq_true rfl, Nat.le_of_ble_eq_true rfl⟩ ⟨rfl, rfl⟩ hl.1 rfl (Nat.le_of_ble_eq_true rfl) dX11_back_39 ⟨Nat.le_of_ble_eq_true rfl, Nat.le_of_ble_eq_true rfl⟩ (fun v78 f79 H locs q80 hW => ?_)
        obtain ⟨⟨x82, rfl, p83⟩, g81⟩ := q80
        have p83 : x82.toInt = (-2 : Int) := p83
        have z84 : WT kp L [] f0 f79 := wt_fm z7 g81 rfl
        have hF := FM.tr hF g81 rfl
        exact e_I E hW rfl ⟨⟨_, rfl, (by first | omega | trivial)⟩, hF, (by have h1 : (1 : Int32).toInt = 1 := rfl; rw [((fm_I g81 rh0 rfl).trans m49), ((fm_I g81 rh0 rfl).trans ((fm_I g4 rh0 rfl).trans mk5)), mk4, mk5]; omega), z84⟩ dX11_back_42
  · have q85 : (u1.toInt < (0 : Int) ∨ (1 : Int) < u1.toInt) := by omega
    clear p6
    refine lv_aload_n hx hb dX11_back_9 rfl (lv_at hl 0 rfl) ?_
    refine lv_iconst (v := (-1)) hx hb dX11_back_10 (by decide) ?_
    have hW0 := hW.2.2.2
    refine t_callV (As := [.int (-1)]) (rest := []) E hW (c_X11_refuse_x l G cI cJ cZ cD cR cT kp L f2 hW.2.2.2 _ h0 (-1) rh0 (by decide)) rh0 (by decide) rfl wk_X11_refuse tw_603 rfl ⟨Nat.le_of_ble_eq_true rfl, Nat.le_of_ble_eq_true rfl⟩ ⟨rfl, rfl⟩ hl.1 rfl (Nat.le_of_ble_eq_true rfl) dX11_back_11 ⟨Nat.le_of_ble_eq_true rfl, Nat.le_of_ble_eq_true rfl⟩ (fun v86 f87 H locs q88 hW => ?_)
    obtain ⟨⟨x90, rfl, p91⟩, g89⟩ := q88
    have p91 : x90.toInt = (-1 : Int) := p91
    have z92 : WT kp L [] f0 f87 := wt_fm z7 g89 rfl
    have hF := FM.tr hF g89 rfl
    exact e_I E hW rfl ⟨⟨_, rfl, (by first | omega | trivial)⟩, hF, (by have h1 : (1 : Int32).toInt = 1 := rfl; rw [((fm_I g89 rh0 rfl).trans ((fm_I g4 rh0 rfl).trans mk4)), ((fm_I g89 rh0 rfl).trans ((fm_I g4 rh0 rfl).trans mk5)), mk4, mk5]; omega), z92⟩ dX11_back_14
def ms_X11_gotOnPaper_wt : List (Nat × Nat) := [(0, 6), (0, 9), (0, 12), (0, 13), (0, 14), (1, 0), (1, 8), (1, 12), (1, 13), (1, 14), (2, 0), (3, 0), (3, 1), (3, 2), (3, 3), (4, 0), (10, 0), (10, 7), (108, 0), (115, 0), (161, 0), (162, 0), (163, 0), (164, 0), (165, 0), (166, 0), (167, 0), (169, 0), (170, 0), (171, 0), (221, 0), (222, 0), (223, 0), (284, 0), (285, 0), (341, 0), (342, 0), (343, 0), (344, 0), (345, 0), (346, 0), (347, 0), (348, 0), (349, 0), (520, 0), (521, 0), (701, 0), (702, 0), (703, 0), (704, 0), (705, 0), (706, 0), (708, 0), (709, 0), (710, 0)]
def po_X11_gotOnPaper_wt (kp : Nat → Nat) (L : List Nat) (f0 : Nat → va_E) (h0 : Nat) (u1 : Int32) (u2 : Nat) : Option Value → (Nat → va_E) → Prop := fun v f => (∃ r : Int64, v = some (.long r) ∧ (True)) ∧ FM kp L ms_X11_gotOnPaper_wt f0 f ∧ (WT kp L [(oR (f0 h0) 1), oR (f0 (oR (f0 h0) 1)) 0, oR (f0 (oR (f0 h0) 1)) 1, oR (f0 (oR (f0 h0) 1)) 5] f0 f)
set_option maxHeartbeats 4000000 in
set_option maxRecDepth 100000 in
theorem c_X11_gotOnPaper_wt (l : Launch) (G : va_G) (cI cJ cZ cD cR cT : ClassId) (kp : Nat → Nat) (L : List Nat) (f0 : Nat → va_E) (hTH : TH cI cJ cZ cD cR cT kp L f0) (sz : Nat) (h0 : Nat) (u1 : Int32) (u2 : Nat) (rh0 : RK kp L h0 11) (ru2 : RK kp L u2 9) : Met l yX11_gotOnPaper (Cond.code yX11_gotOnPaper cX11_gotOnPaper 4 (some .long) :: wTab) ({ frames := 7, cells := 0, slots := 0, locals := 191 }) (va_Pc [.ref h0, .int u1, .ref u2] (PreW G (tys6 cI cJ cZ cD cR cT) (va_pl L f0) sz)) (QT (po_X11_gotOnPaper_wt kp L f0 h0 u1 u2) G cI cJ cZ cD cR cT (va_A (va_pl L f0) sz) kp L) 0 0 (va_A (va_pl L f0) sz) := by
  refine metT (by decide) (Nat.le_of_ble_eq_true rfl) hTH ?_
  intro p e s m below meth c A ls E hW hl
  obtain ⟨hx, hb, -, hml, hown, hts, -, -, -⟩ := id E
  have hF : FM kp L ms_X11_gotOnPaper_wt f0 f0 := FM.rf
  have hl : lv_has ls 4 [(0, .ref h0), (1, .int u1), (2, .ref u2)] := hl
  obtain ⟨P, mP⟩ : ∃ x : Nat, oR (f0 h0) 1 = x := ⟨_, rfl⟩
  have rP : RK kp L P 0 := by rw [← mP]; exact th_ref hTH rh0 (by decide) (by decide) rfl
  obtain ⟨P0, mP0⟩ : ∃ x : Nat, oR (f0 P) 0 = x := ⟨_, rfl⟩
  have rP0 : RK kp L P0 4 := by rw [← mP0]; exact th_ref hTH rP (by decide) (by decide) rfl
  obtain ⟨P1, mP1⟩ : ∃ x : Nat, oR (f0 P) 1 = x := ⟨_, rfl⟩
  have rP1 : RK kp L P1 1 := by rw [← mP1]; exact th_ref hTH rP (by decide) (by decide) rfl
  obtain ⟨P5, mP5⟩ : ∃ x : Nat, oR (f0 P) 5 = x := ⟨_, rfl⟩
  have rP5 : RK kp L P5 3 := by rw [← mP5]; exact th_ref hTH rP (by decide) (by decide) rfl
  refine lv_aload_n hx hb dX11_gotOnPaper_0 rfl (lv_at hl 0 rfl) ?_
  refine fg_RX11_18 E hW rh0 dX11_gotOnPaper_1 (fun a1 m2 r3 => ?_)
  obtain rfl : P = a1 := (mP).symm.trans m2
  refine lv_aload_n hx hb dX11_gotOnPaper_4 rfl (lv_at hl 0 rfl) ?_
  refine fg_RX11_12 E hW rh0 dX11_gotOnPaper_5 (fun a4 m5 r6 => ?_)
  have hW0 := hW.2.2.2
  refine t_callV (As := [.ref a4]) (rest := []) E hW (c_X0_copyFrom_w l G cI cJ cZ cD cR cT kp L f0 hW.2.2.2 _ P a4 rP r6) rP (by decide) rfl wk_X0_copyFrom tw_1285 rfl ⟨Nat.le_of_ble_eq_true rfl, Nat.le_of_ble_eq_true rfl⟩ ⟨rfl, rfl⟩ hl.1 rfl (Nat.le_of_ble_eq_true rfl) dX11_gotOnPaper_8 ⟨Nat.le_of_ble_eq_true rfl, Nat.le_of_ble_eq_true rfl⟩ (fun v7 f8 H locs q9 hW => ?_)
  obtain ⟨rfl, g10, h11, h12, h13, h14, h15, h16⟩ := q9
  have hF := FM.tr hF g10 rfl
  have z18 : WT kp L [P, P0, P1, P5] f0 f8 := wt_call (wt_rf : WT kp L [P, P0, P1, P5] f0 f0) h16 (by rw [mP0, mP1, mP5]; intro q h; simp only [List.mem_cons, List.not_mem_nil, or_false] at h ⊢; omega)
  refine lv_aload_n hx hb dX11_gotOnPaper_11 rfl (lv_at hl 2 rfl) ?_
  refine lv_ifnull hx hb dX11_gotOnPaper_12 ?_
  refine lv_aload_n hx hb dX11_gotOnPaper_15 rfl (lv_at hl 0 rfl) ?_
  refine fg_RX11_18 E hW rh0 dX11_gotOnPaper_16 (fun a19 m20 r21 => ?_)
  obtain rfl : P = a19 := (((fm_R g10 rh0 rfl).trans m2)).symm.trans m20
  refine fg_RX11_219 E hW rP dX11_gotOnPaper_19 (fun a22 m23 r24 => ?_)
  refine lv_aload_n hx hb dX11_gotOnPaper_22 rfl (lv_at hl 2 rfl) ?_
  have hW0 := hW.2.2.2
  refine t_callV (As := [.ref u2]) (rest := []) E hW (c_X2_add l G cI cJ cZ cD cR cT kp L f8 hW.2.2.2 _ a22 u2 r24 ru2) r24 (by decide) rfl wk_X2_add tw_1050 rfl ⟨Nat.le_of_ble_eq_true rfl, Nat.le_of_ble_eq_true rfl⟩ ⟨rfl, rfl⟩ hl.1 rfl (Nat.le_of_ble_eq_true rfl) dX11_gotOnPaper_23 ⟨Nat.le_of_ble_eq_true rfl, Nat.le_of_ble_eq_true rfl⟩ (fun v25 f26 H locs q27 hW => ?_)
  obtain ⟨⟨x29, rfl, p30⟩, g28⟩ := q27
  have z31 : WT kp L [P, P0, P1, P5] f0 f26 := wt_fm z18 g28 rfl
  have hF := FM.tr hF g28 rfl
  refine lv_pop hx hb dX11_gotOnPaper_26 rfl ?_
  refine lv_iconst (v := 0) hx hb dX11_gotOnPaper_27 (by decide) ?_
  refine lv_istore_n (lv' := [(3, .int 0), (0, .ref h0), (1, .int u1), (2, .ref u2)]) hx hb dX11_gotOnPaper_28 rfl hl (by decide) rfl (fun ls hl => ?_)
  have L1531 : ∀ (n : Nat), ∀ (f1521 : Nat → va_E) (y1528 : Int32) (m1522 : oR (f1521 P) 0 = P0) (m1523 : oR (f1521 P) 1 = P1) (m1524 : oR (f1521 P) 4 = a22) (m1525 : oR (f1521 P) 5 = P5) (m1526 : oR (f1521 h0) 0 = a4) (m1527 : oR (f1521 h0) 1 = P) (b1529 : (0 : Int) ≤ y1528.toInt) (z1530 : WT kp L [P, P0, P1, P5] f0 f1521) (hm : (2147483648 : Int) - y1528.toInt ≤ n) (H : Heap) (locs : List Loc) (ls : Array Slot), WS G cI cJ cZ cD cR cT A kp L f1521 s H locs → FM kp L ms_X11_gotOnPaper_wt f0 f1521 → lv_has ls 4 [(3, .int y1528), (0, .ref h0), (1, .int u1), (2, .ref u2)] → W p l e ({ frames := 7, cells := 0, slots := 0, locals := 191 }) s m ([.ref h0, .int u1, .ref u2] : List Value).toArray below meth c H locs 0 0 (MQ below (QT (po_X11_gotOnPaper_wt kp L f0 h0 u1 u2) G cI cJ cZ cD cR cT A kp L) ([.ref h0, .int u1, .ref u2] : List Value).toArray s 0 0 A) (F0 m 29 ls []) := by
    intro n
    induction n with
    | zero =>
      intro f1521 y1528 m1522 m1523 m1524 m1525 m1526 m1527 b1529 z1530 hm H locs ls hW hF hl
      have hz := i32_b y1528
      exfalso; omega
    | succ n ih =>
      intro f1521 y1528 m1522 m1523 m1524 m1525 m1526 m1527 b1529 z1530 hm H locs ls hW hF hl
      clear p30
      have ih29 := ih
      refine lv_iload_n hx hb dX11_gotOnPaper_29 rfl (lv_at hl 0 rfl) ?_
      refine lv_iload_n hx hb dX11_gotOnPaper_30 rfl (lv_at hl 2 rfl) ?_
      refine q_icmp_ge (tgt := 47) hx hb dX11_gotOnPaper_31 (by decide) rfl rfl (fun c1532 => ?_) (fun c1532 => ?_)
      · refine lv_aload_n hx hb dX11_gotOnPaper_47 rfl (lv_at hl 1 rfl) ?_
        refine fg_RX11_18 E hW rh0 dX11_gotOnPaper_48 (fun a1533 m1534 r1535 => ?_)
        obtain rfl : P = a1533 := (m1527).symm.trans m1534
        refine fg_RX11_395 E hW rP dX11_gotOnPaper_51 (fun y1536 m1537 => ?_)
        exact e_J E hW rfl ⟨⟨_, rfl, trivial⟩, hF, (by rw [mP, mP0, mP1, mP5]; exact z1530)⟩ dX11_gotOnPaper_54
      · have hb1538 : y1528.toInt ≤ 2147483646 := by have := i32_b u1; omega
        refine lv_aload_n hx hb dX11_gotOnPaper_34 rfl (lv_at hl 1 rfl) ?_
        refine fg_RX11_18 E hW rh0 dX11_gotOnPaper_35 (fun a1539 m1540 r1541 => ?_)
        obtain rfl : P = a1539 := (m1527).symm.trans m1540
        have hW0 := hW.2.2.2
        refine t_callV (As := []) (rest := []) E hW (c_X0_passWeek_w l G cI cJ cZ cD cR cT kp L f1521 hW.2.2.2 _ P rP) rP (by decide) rfl wk_X0_passWeek tw_1114 rfl ⟨Nat.le_of_ble_eq_true rfl, Nat.le_of_ble_eq_true rfl⟩ ⟨rfl, rfl⟩ hl.1 rfl (Nat.le_of_ble_eq_true rfl) dX11_gotOnPaper_38 ⟨Nat.le_of_ble_eq_true rfl, Nat.le_of_ble_eq_true rfl⟩ (fun v1542 f1543 H locs q1544 hW => ?_)
        obtain ⟨rfl, g1545, h1546, h1547⟩ := q1544
        have hF := FM.tr hF g1545 rfl
        have z1549 : WT kp L [P, P0, P1, P5] f0 f1543 := wt_call z1530 h1547 (by intro q h; simp only [List.mem_cons, List.not_mem_nil, or_false] at h ⊢; omega)
        refine q_iinc hx hb dX11_gotOnPaper_41 hl (k := 0) rfl rfl rfl (by omega) (by decide) (fun i1550 ls h1551 hl => ?_)
        have hl : lv_has ls 4 [(3, .int i1550), (0, .ref h0), (1, .int u1), (2, .ref u2)] := hl
        refine lv_goto (tgt := 29) hx hb dX11_gotOnPaper_44 (by decide) ?_
        exact ih29 f1543 i1550 ((fm_R g1545 rP rfl).trans m1522) ((fm_R g1545 rP rfl).trans m1523) ((fm_R g1545 rP rfl).trans m1524) ((fm_R g1545 rP rfl).trans m1525) ((fm_R g1545 rh0 rfl).trans m1526) ((fm_R g1545 rh0 rfl).trans m1540) (by omega) z1549 (by omega) _ _ _ hW hF (lv_sub hl [0, 1, 2, 3] rfl)
  have hk1552 : (0 : Int32).toInt = 0 := rfl
  exact L1531 2147483648 f26 0 ((fm_R g28 rP rfl).trans ((fm_R g10 rP rfl).trans mP0)) ((fm_R g28 rP rfl).trans ((fm_R g10 rP rfl).trans mP1)) ((fm_R g28 rP rfl).trans m23) ((fm_R g28 rP rfl).trans ((fm_R g10 rP rfl).trans mP5)) ((fm_R g28 rh0 rfl).trans ((fm_R g10 rh0 rfl).trans m5)) ((fm_R g28 rh0 rfl).trans m20) (by decide) z31 (by omega) _ _ _ hW hF (lv_sub hl [0, 1, 2, 3] rfl)
def ms_X11_gotOnPaper_wn : List (Nat × Nat) := [(0, 6), (0, 9), (0, 12), (0, 13), (0, 14), (1, 0), (1, 8), (1, 12), (1, 13), (1, 14), (2, 0), (3, 0), (3, 1), (3, 2), (3, 3), (4, 0), (10, 0), (10, 7), (108, 0), (115, 0), (161, 0), (162, 0), (163, 0), (164, 0), (165, 0), (166, 0), (167, 0), (169, 0), (170, 0), (171, 0), (221, 0), (222, 0), (223, 0), (284, 0), (285, 0), (341, 0), (342, 0), (343, 0), (344, 0), (345, 0), (346, 0), (347, 0), (348, 0), (349, 0), (520, 0), (521, 0), (701, 0), (702, 0), (703, 0), (704, 0), (705, 0), (706, 0), (708, 0), (709, 0), (710, 0)]
def po_X11_gotOnPaper_wn (kp : Nat → Nat) (L : List Nat) (f0 : Nat → va_E) (h0 : Nat) (u1 : Int32) : Option Value → (Nat → va_E) → Prop := fun v f => (∃ r : Int64, v = some (.long r) ∧ (True)) ∧ FM kp L ms_X11_gotOnPaper_wn f0 f ∧ (WT kp L [(oR (f0 h0) 1), oR (f0 (oR (f0 h0) 1)) 0, oR (f0 (oR (f0 h0) 1)) 1, oR (f0 (oR (f0 h0) 1)) 5] f0 f)
set_option maxHeartbeats 4000000 in
set_option maxRecDepth 100000 in
theorem c_X11_gotOnPaper_wn (l : Launch) (G : va_G) (cI cJ cZ cD cR cT : ClassId) (kp : Nat → Nat) (L : List Nat) (f0 : Nat → va_E) (hTH : TH cI cJ cZ cD cR cT kp L f0) (sz : Nat) (h0 : Nat) (u1 : Int32) (rh0 : RK kp L h0 11) : Met l yX11_gotOnPaper (Cond.code yX11_gotOnPaper cX11_gotOnPaper 4 (some .long) :: wTab) ({ frames := 7, cells := 0, slots := 0, locals := 191 }) (va_Pc [.ref h0, .int u1, .null] (PreW G (tys6 cI cJ cZ cD cR cT) (va_pl L f0) sz)) (QT (po_X11_gotOnPaper_wn kp L f0 h0 u1) G cI cJ cZ cD cR cT (va_A (va_pl L f0) sz) kp L) 0 0 (va_A (va_pl L f0) sz) := by
  refine metT (by decide) (Nat.le_of_ble_eq_true rfl) hTH ?_
  intro p e s m below meth c A ls E hW hl
  obtain ⟨hx, hb, -, hml, hown, hts, -, -, -⟩ := id E
  have hF : FM kp L ms_X11_gotOnPaper_wn f0 f0 := FM.rf
  have hl : lv_has ls 4 [(0, .ref h0), (1, .int u1), (2, .null)] := hl
  obtain ⟨P, mP⟩ : ∃ x : Nat, oR (f0 h0) 1 = x := ⟨_, rfl⟩
  have rP : RK kp L P 0 := by rw [← mP]; exact th_ref hTH rh0 (by decide) (by decide) rfl
  obtain ⟨P0, mP0⟩ : ∃ x : Nat, oR (f0 P) 0 = x := ⟨_, rfl⟩
  have rP0 : RK kp L P0 4 := by rw [← mP0]; exact th_ref hTH rP (by decide) (by decide) rfl
  obtain ⟨P1, mP1⟩ : ∃ x : Nat, oR (f0 P) 1 = x := ⟨_, rfl⟩
  have rP1 : RK kp L P1 1 := by rw [← mP1]; exact th_ref hTH rP (by decide) (by decide) rfl
  obtain ⟨P5, mP5⟩ : ∃ x : Nat, oR (f0 P) 5 = x := ⟨_, rfl⟩
  have rP5 : RK kp L P5 3 := by rw [← mP5]; exact th_ref hTH rP (by decide) (by decide) rfl
  refine lv_aload_n hx hb dX11_gotOnPaper_0 rfl (lv_at hl 0 rfl) ?_
  refine fg_RX11_18 E hW rh0 dX11_gotOnPaper_1 (fun a1 m2 r3 => ?_)
  obtain rfl : P = a1 := (mP).symm.trans m2
  refine lv_aload_n hx hb dX11_gotOnPaper_4 rfl (lv_at hl 0 rfl) ?_
  refine fg_RX11_12 E hW rh0 dX11_gotOnPaper_5 (fun a4 m5 r6 => ?_)
  have hW0 := hW.2.2.2
  refine t_callV (As := [.ref a4]) (rest := []) E hW (c_X0_copyFrom_w l G cI cJ cZ cD cR cT kp L f0 hW.2.2.2 _ P a4 rP r6) rP (by decide) rfl wk_X0_copyFrom tw_1285 rfl ⟨Nat.le_of_ble_eq_true rfl, Nat.le_of_ble_eq_true rfl⟩ ⟨rfl, rfl⟩ hl.1 rfl (Nat.le_of_ble_eq_true rfl) dX11_gotOnPaper_8 ⟨Nat.le_of_ble_eq_true rfl, Nat.le_of_ble_eq_true rfl⟩ (fun v7 f8 H locs q9 hW => ?_)
  obtain ⟨rfl, g10, h11, h12, h13, h14, h15, h16⟩ := q9
  have hF := FM.tr hF g10 rfl
  have z18 : WT kp L [P, P0, P1, P5] f0 f8 := wt_call (wt_rf : WT kp L [P, P0, P1, P5] f0 f0) h16 (by rw [mP0, mP1, mP5]; intro q h; simp only [List.mem_cons, List.not_mem_nil, or_false] at h ⊢; omega)
  refine lv_aload_nN hx hb dX11_gotOnPaper_11 rfl (lv_at hl 2 rfl) ?_
  refine lv_ifnullN (tgt := 27) hx hb dX11_gotOnPaper_12 (by decide) ?_
  refine lv_iconst (v := 0) hx hb dX11_gotOnPaper_27 (by decide) ?_
  refine lv_istore_n (lv' := [(3, .int 0), (0, .ref h0), (1, .int u1), (2, .null)]) hx hb dX11_gotOnPaper_28 rfl hl (by decide) rfl (fun ls hl => ?_)
  have L1455 : ∀ (n : Nat), ∀ (f1446 : Nat → va_E) (y1452 : Int32) (m1447 : oR (f1446 P) 0 = P0) (m1448 : oR (f1446 P) 1 = P1) (m1449 : oR (f1446 P) 5 = P5) (m1450 : oR (f1446 h0) 0 = a4) (m1451 : oR (f1446 h0) 1 = P) (b1453 : (0 : Int) ≤ y1452.toInt) (z1454 : WT kp L [P, P0, P1, P5] f0 f1446) (hm : (2147483648 : Int) - y1452.toInt ≤ n) (H : Heap) (locs : List Loc) (ls : Array Slot), WS G cI cJ cZ cD cR cT A kp L f1446 s H locs → FM kp L ms_X11_gotOnPaper_wn f0 f1446 → lv_has ls 4 [(3, .int y1452), (0, .ref h0), (1, .int u1), (2, .null)] → W p l e ({ frames := 7, cells := 0, slots := 0, locals := 191 }) s m ([.ref h0, .int u1, .null] : List Value).toArray below meth c H locs 0 0 (MQ below (QT (po_X11_gotOnPaper_wn kp L f0 h0 u1) G cI cJ cZ cD cR cT A kp L) ([.ref h0, .int u1, .null] : List Value).toArray s 0 0 A) (F0 m 29 ls []) := by
    intro n
    induction n with
    | zero =>
      intro f1446 y1452 m1447 m1448 m1449 m1450 m1451 b1453 z1454 hm H locs ls hW hF hl
      have hz := i32_b y1452
      exfalso; omega
    | succ n ih =>
      intro f1446 y1452 m1447 m1448 m1449 m1450 m1451 b1453 z1454 hm H locs ls hW hF hl
      have ih29 := ih
      refine lv_iload_n hx hb dX11_gotOnPaper_29 rfl (lv_at hl 0 rfl) ?_
      refine lv_iload_n hx hb dX11_gotOnPaper_30 rfl (lv_at hl 2 rfl) ?_
      refine q_icmp_ge (tgt := 47) hx hb dX11_gotOnPaper_31 (by decide) rfl rfl (fun c1456 => ?_) (fun c1456 => ?_)
      · refine lv_aload_n hx hb dX11_gotOnPaper_47 rfl (lv_at hl 1 rfl) ?_
        refine fg_RX11_18 E hW rh0 dX11_gotOnPaper_48 (fun a1457 m1458 r1459 => ?_)
        obtain rfl : P = a1457 := (m1451).symm.trans m1458
        refine fg_RX11_395 E hW rP dX11_gotOnPaper_51 (fun y1460 m1461 => ?_)
        exact e_J E hW rfl ⟨⟨_, rfl, trivial⟩, hF, (by rw [mP, mP0, mP1, mP5]; exact z1454)⟩ dX11_gotOnPaper_54
      · have hb1462 : y1452.toInt ≤ 2147483646 := by have := i32_b u1; omega
        refine lv_aload_n hx hb dX11_gotOnPaper_34 rfl (lv_at hl 1 rfl) ?_
        refine fg_RX11_18 E hW rh0 dX11_gotOnPaper_35 (fun a1463 m1464 r1465 => ?_)
        obtain rfl : P = a1463 := (m1451).symm.trans m1464
        have hW0 := hW.2.2.2
        refine t_callV (As := []) (rest := []) E hW (c_X0_passWeek_w l G cI cJ cZ cD cR cT kp L f1446 hW.2.2.2 _ P rP) rP (by decide) rfl wk_X0_passWeek tw_1114 rfl ⟨Nat.le_of_ble_eq_true rfl, Nat.le_of_ble_eq_true rfl⟩ ⟨rfl, rfl⟩ hl.1 rfl (Nat.le_of_ble_eq_true rfl) dX11_gotOnPaper_38 ⟨Nat.le_of_ble_eq_true rfl, Nat.le_of_ble_eq_true rfl⟩ (fun v1466 f1467 H locs q1468 hW => ?_)
        obtain ⟨rfl, g1469, h1470, h1471⟩ := q1468
        have hF := FM.tr hF g1469 rfl
        have z1473 : WT kp L [P, P0, P1, P5] f0 f1467 := wt_call z1454 h1471 (by intro q h; simp only [List.mem_cons, List.not_mem_nil, or_false] at h ⊢; omega)
        refine q_iinc hx hb dX11_gotOnPaper_41 hl (k := 0) rfl rfl rfl (by omega) (by decide) (fun i1474 ls h1475 hl => ?_)
        have hl : lv_has ls 4 [(3, .int i1474), (0, .ref h0), (1, .int u1), (2, .null)] := hl
        refine lv_goto (tgt := 29) hx hb dX11_gotOnPaper_44 (by decide) ?_
        exact ih29 f1467 i1474 ((fm_R g1469 rP rfl).trans m1447) ((fm_R g1469 rP rfl).trans m1448) ((fm_R g1469 rP rfl).trans m1449) ((fm_R g1469 rh0 rfl).trans m1450) ((fm_R g1469 rh0 rfl).trans m1464) (by omega) z1473 (by omega) _ _ _ hW hF (lv_sub hl [0, 1, 2, 3] rfl)
  have hk1476 : (0 : Int32).toInt = 0 := rfl
  exact L1455 2147483648 f8 0 ((fm_R g10 rP rfl).trans mP0) ((fm_R g10 rP rfl).trans mP1) ((fm_R g10 rP rfl).trans mP5) ((fm_R g10 rh0 rfl).trans m5) ((fm_R g10 rh0 rfl).trans m2) (by decide) z18 (by omega) _ _ _ hW hF (lv_sub hl [0, 1, 2, 3] rfl)
def ms_X11_worstOf_w : List (Nat × Nat) := [(0, 6), (0, 9), (0, 10), (0, 11), (0, 12), (0, 13), (0, 14), (1, 0), (1, 8), (1, 12), (1, 13), (1, 14), (2, 0), (3, 0), (3, 1), (3, 2), (3, 3), (4, 0), (10, 0), (10, 7), (108, 0), (115, 0), (161, 0), (162, 0), (163, 0), (164, 0), (165, 0), (166, 0), (167, 0), (169, 0), (170, 0), (171, 0), (221, 0), (222, 0), (223, 0), (284, 0), (285, 0), (341, 0), (342, 0), (343, 0), (344, 0), (345, 0), (346, 0), (347, 0), (348, 0), (349, 0), (520, 0), (521, 0), (701, 0), (702, 0), (703, 0), (704, 0), (705, 0), (706, 0), (708, 0), (709, 0), (710, 0)]
def po_X11_worstOf_w (kp : Nat → Nat) (L : List Nat) (f0 : Nat → va_E) (h0 : Nat) (u1 : Int32) (u2 : Int32) (u3 : Int32) : Option Value → (Nat → va_E) → Prop := fun v f => (∃ r : Int32, v = some (.int r) ∧ ((0 : Int) ≤ r.toInt)) ∧ FM kp L ms_X11_worstOf_w f0 f ∧ (WT kp L [(oR (f0 h0) 1), oR (f0 (oR (f0 h0) 1)) 0, oR (f0 (oR (f0 h0) 1)) 1, oR (f0 (oR (f0 h0) 1)) 5] f0 f)
set_option maxHeartbeats 4000000 in
set_option maxRecDepth 100000 in
theorem c_X11_worstOf_w (l : Launch) (G : va_G) (cI cJ cZ cD cR cT : ClassId) (kp : Nat → Nat) (L : List Nat) (f0 : Nat → va_E) (hTH : TH cI cJ cZ cD cR cT kp L f0) (sz : Nat) (h0 : Nat) (u1 : Int32) (u2 : Int32) (u3 : Int32) (rh0 : RK kp L h0 11) : Met l yX11_worstOf (Cond.code yX11_worstOf cX11_worstOf 7 (some .int) :: wTab) ({ frames := 7, cells := 0, slots := 0, locals := 191 }) (va_Pc [.ref h0, .int u1, .int u2, .int u3] (PreW G (tys6 cI cJ cZ cD cR cT) (va_pl L f0) sz)) (QT (po_X11_worstOf_w kp L f0 h0 u1 u2 u3) G cI cJ cZ cD cR cT (va_A (va_pl L f0) sz) kp L) 0 0 (va_A (va_pl L f0) sz) := by
  refine metT (by decide) (Nat.le_of_ble_eq_true rfl) hTH ?_
  intro p e s m below meth c A ls E hW hl
  obtain ⟨hx, hb, -, hml, hown, hts, -, -, -⟩ := id E
  have hF : FM kp L ms_X11_worstOf_w f0 f0 := FM.rf
  have hl : lv_has ls 7 [(0, .ref h0), (1, .int u1), (2, .int u2), (3, .int u3)] := hl
  obtain ⟨P, mP⟩ : ∃ x : Nat, oR (f0 h0) 1 = x := ⟨_, rfl⟩
  have rP : RK kp L P 0 := by rw [← mP]; exact th_ref hTH rh0 (by decide) (by decide) rfl
  obtain ⟨P0, mP0⟩ : ∃ x : Nat, oR (f0 P) 0 = x := ⟨_, rfl⟩
  have rP0 : RK kp L P0 4 := by rw [← mP0]; exact th_ref hTH rP (by decide) (by decide) rfl
  obtain ⟨P1, mP1⟩ : ∃ x : Nat, oR (f0 P) 1 = x := ⟨_, rfl⟩
  have rP1 : RK kp L P1 1 := by rw [← mP1]; exact th_ref hTH rP (by decide) (by decide) rfl
  obtain ⟨P5, mP5⟩ : ∃ x : Nat, oR (f0 P) 5 = x := ⟨_, rfl⟩
  have rP5 : RK kp L P5 3 := by rw [← mP5]; exact th_ref hTH rP (by decide) (by decide) rfl
  refine lv_iconst (v := 0) hx hb dX11_worstOf_0 (by decide) ?_
  refine lv_istore (lv' := [(4, .int 0), (0, .ref h0), (1, .int u1), (2, .int u2), (3, .int u3)]) hx hb dX11_worstOf_1 hl (by decide) rfl (fun ls hl => ?_)
  refine lv_iconst (v := 0) hx hb dX11_worstOf_3 (by decide) ?_
  refine lv_istore (lv' := [(5, .int 0), (4, .int 0), (0, .ref h0), (1, .int u1), (2, .int u2), (3, .int u3)]) hx hb dX11_worstOf_4 hl (by decide) rfl (fun ls hl => ?_)
  have L10358 : ∀ (n : Nat), ∀ (f10348 : Nat → va_E) (y10353 : Int32) (y10355 : Int32) (m10349 : oR (f10348 P) 0 = P0) (m10350 : oR (f10348 P) 1 = P1) (m10351 : oR (f10348 P) 5 = P5) (m10352 : oR (f10348 h0) 1 = P) (b10354 : (0 : Int) ≤ y10353.toInt ∧ y10353.toInt ≤ 3) (b10356 : (0 : Int) ≤ y10355.toInt) (z10357 : WT kp L [P, P0, P1, P5] f0 f10348) (hm : (4 : Int) - y10353.toInt ≤ n) (H : Heap) (locs : List Loc) (ls : Array Slot), WS G cI cJ cZ cD cR cT A kp L f10348 s H locs → FM kp L ms_X11_worstOf_w f0 f10348 → lv_has ls 7 [(5, .int y10353), (4, .int y10355), (0, .ref h0), (1, .int u1), (2, .int u2), (3, .int u3)] → W p l e ({ frames := 7, cells := 0, slots := 0, locals := 191 }) s m ([.ref h0, .int u1, .int u2, .int u3] : List Value).toArray below meth c H locs 0 0 (MQ below (QT (po_X11_worstOf_w kp L f0 h0 u1 u2 u3) G cI cJ cZ cD cR cT A kp L) ([.ref h0, .int u1, .int u2, .int u3] : List Value).toArray s 0 0 A) (F0 m 6 ls []) := by
    intro n
    induction n with
    | zero =>
      intro f10348 y10353 y10355 m10349 m10350 m10351 m10352 b10354 b10356 z10357 hm H locs ls hW hF hl
      have hz := i32_b y10353
      exfalso; omega
    | succ n ih =>
      intro f10348 y10353 y10355 m10349 m10350 m10351 m10352 b10354 b10356 z10357 hm H locs ls hW hF hl
      have ih6 := ih
      refine lv_iload hx hb dX11_worstOf_6 (lv_at hl 0 rfl) ?_
      refine lv_aload_n hx hb dX11_worstOf_8 rfl (lv_at hl 2 rfl) ?_
      refine fg_RX11_312 E hW rh0 dX11_worstOf_9 (fun y10359 m10360 b10361 => ?_)
      refine q_icmp_ge (tgt := 145) hx hb dX11_worstOf_12 (by decide) rfl rfl (fun c10362 => ?_) (fun c10362 => ?_)
      · refine lv_iload hx hb dX11_worstOf_145 (lv_at hl 1 rfl) ?_
        exact e_I E hW rfl ⟨⟨_, rfl, (by first | omega | trivial)⟩, hF, (by rw [mP, mP0, mP1, mP5]; exact z10357)⟩ dX11_worstOf_147
      · refine lv_iload hx hb dX11_worstOf_15 (lv_at hl 1 rfl) ?_
        refine lv_iload_n hx hb dX11_worstOf_17 rfl (lv_at hl 5 rfl) ?_
        refine q_icmp_ge (tgt := 145) hx hb dX11_worstOf_18 (by decide) rfl rfl (fun c10363 => ?_) (fun c10363 => ?_)
        · refine lv_iload hx hb dX11_worstOf_145 (lv_at hl 1 rfl) ?_
          exact e_I E hW rfl ⟨⟨_, rfl, (by first | omega | trivial)⟩, hF, (by rw [mP, mP0, mP1, mP5]; exact z10357)⟩ dX11_worstOf_147
        · have hb10364 : y10355.toInt ≤ 2147483646 := by have := i32_b u3; omega
          refine lv_aload_n hx hb dX11_worstOf_21 rfl (lv_at hl 2 rfl) ?_
          refine fg_RX11_18 E hW rh0 dX11_worstOf_22 (fun a10365 m10366 r10367 => ?_)
          obtain rfl : P = a10365 := (m10352).symm.trans m10366
          refine lv_aload_n hx hb dX11_worstOf_25 rfl (lv_at hl 2 rfl) ?_
          refine fg_RX11_12 E hW rh0 dX11_worstOf_26 (fun a10368 m10369 r10370 => ?_)
          have hW0 := hW.2.2.2
          refine t_callV (As := [.ref a10368]) (rest := []) E hW (c_X0_copyFrom_w l G cI cJ cZ cD cR cT kp L f10348 hW.2.2.2 _ P a10368 rP r10370) rP (by decide) rfl wk_X0_copyFrom tw_1285 rfl ⟨Nat.le_of_ble_eq_true rfl, Nat.le_of_ble_eq_true rfl⟩ ⟨rfl, rfl⟩ hl.1 rfl (Nat.le_of_ble_eq_true rfl) dX11_worstOf_29 ⟨Nat.le_of_ble_eq_true rfl, Nat.le_of_ble_eq_true rfl⟩ (fun v10371 f10372 H locs q10373 hW => ?_)
          obtain ⟨rfl, g10374, h10375, h10376, h10377, h10378, h10379, h10380⟩ := q10373
          have hF := FM.tr hF g10374 rfl
          have z10382 : WT kp L [P, P0, P1, P5] f0 f10372 := wt_call z10357 h10380 (by rw [m10349, m10350, m10351]; intro q h; simp only [List.mem_cons, List.not_mem_nil, or_false] at h ⊢; omega)
          refine lv_aload_n hx hb dX11_worstOf_32 rfl (lv_at hl 2 rfl) ?_
          refine fg_RX11_18 E hW rh0 dX11_worstOf_33 (fun a10383 m10384 r10385 => ?_)
          obtain rfl : P = a10383 := (((fm_R g10374 rh0 rfl).trans m10366)).symm.trans m10384
          refine lv_aload_n hx hb dX11_worstOf_36 rfl (lv_at hl 2 rfl) ?_
          refine fg_RX11_45 E hW rh0 dX11_worstOf_37 (fun a10386 m10387 r10388 => ?_)
          refine lv_iload hx hb dX11_worstOf_40 (lv_at hl 0 rfl) ?_
          refine gl_770 E hW r10388 ⟨by omega, by omega⟩ dX11_worstOf_42 (fun y10389 m10390 => ?_)
          refine lv_aload_n hx hb dX11_worstOf_43 rfl (lv_at hl 2 rfl) ?_
          refine fg_RX11_48 E hW rh0 dX11_worstOf_44 (fun a10392 m10393 r10394 => ?_)
          refine lv_iload hx hb dX11_worstOf_47 (lv_at hl 0 rfl) ?_
          refine gl_771 E hW r10394 ⟨by omega, by omega⟩ dX11_worstOf_49 (fun y10395 m10396 => ?_)
          have hW0 := hW.2.2.2
          refine t_callV (As := [.int y10389, .int y10395]) (rest := []) E hW (c_X0_tellCrops l G cI cJ cZ cD cR cT kp L f10372 hW.2.2.2 _ P y10389 y10395 rP) rP (by decide) rfl wk_X0_tellCrops tw_1318 rfl ⟨Nat.le_of_ble_eq_true rfl, Nat.le_of_ble_eq_true rfl⟩ ⟨rfl, rfl⟩ hl.1 rfl (Nat.le_of_ble_eq_true rfl) dX11_worstOf_50 ⟨Nat.le_of_ble_eq_true rfl, Nat.le_of_ble_eq_true rfl⟩ (fun v10398 f10399 H locs q10400 hW => ?_)
          obtain ⟨rfl, g10401⟩ := q10400
          have z10402 : WT kp L [P, P0, P1, P5] f0 f10399 := wt_fm z10382 g10401 rfl
          have hF := FM.tr hF g10401 rfl
          refine lv_iconst (v := 0) hx hb dX11_worstOf_53 (by decide) ?_
          refine lv_istore (lv' := [(6, .int 0), (5, .int y10353), (4, .int y10355), (0, .ref h0), (1, .int u1), (2, .int u2), (3, .int u3)]) hx hb dX11_worstOf_54 hl (by decide) rfl (fun ls hl => ?_)
          have L10681 : ∀ (n : Nat), ∀ (f10669 : Nat → va_E) (y10678 : Int32) (m10670 : oR (f10669 P) 0 = P0) (m10671 : oR (f10669 P) 1 = P1) (m10672 : oR (f10669 P) 5 = P5) (m10673 : oR (f10669 h0) 0 = a10368) (m10674 : oR (f10669 h0) 1 = P) (m10675 : oR (f10669 h0) 10 = a10386) (m10676 : oR (f10669 h0) 11 = a10392) (m10677 : oI (f10669 h0) 12 = y10359) (b10679 : (0 : Int) ≤ y10678.toInt ∧ y10678.toInt ≤ 6) (z10680 : WT kp L [P, P0, P1, P5] f0 f10669) (hm : (7 : Int) - y10678.toInt ≤ n) (H : Heap) (locs : List Loc) (ls : Array Slot), WS G cI cJ cZ cD cR cT A kp L f10669 s H locs → FM kp L ms_X11_worstOf_w f0 f10669 → lv_has ls 7 [(6, .int y10678), (5, .int y10353), (4, .int y10355), (0, .ref h0), (1, .int u1), (2, .int u2), (3, .int u3)] → W p l e ({ frames := 7, cells := 0, slots := 0, locals := 191 }) s m ([.ref h0, .int u1, .int u2, .int u3] : List Value).toArray below meth c H locs 0 0 (MQ below (QT (po_X11_worstOf_w kp L f0 h0 u1 u2 u3) G cI cJ cZ cD cR cT A kp L) ([.ref h0, .int u1, .int u2, .int u3] : List Value).toArray s 0 0 A) (F0 m 56 ls []) := by
            intro n
            induction n with
            | zero =>
              intro f10669 y10678 m10670 m10671 m10672 m10673 m10674 m10675 m10676 m10677 b10679 z10680 hm H locs ls hW hF hl
              have hz := i32_b y10678
              exfalso; omega
            | succ n ih =>
              intro f10669 y10678 m10670 m10671 m10672 m10673 m10674 m10675 m10676 m10677 b10679 z10680 hm H locs ls hW hF hl
              have ih56 := ih
              refine lv_iload hx hb dX11_worstOf_56 (lv_at hl 0 rfl) ?_
              refine lv_aload_n hx hb dX11_worstOf_58 rfl (lv_at hl 3 rfl) ?_
              refine fg_RX11_309 E hW rh0 dX11_worstOf_59 (fun y10682 m10683 b10684 => ?_)
              refine q_icmp_ge (tgt := 92) hx hb dX11_worstOf_62 (by decide) rfl rfl (fun c10685 => ?_) (fun c10685 => ?_)
              · refine lv_iconst (v := 0) hx hb dX11_worstOf_92 (by decide) ?_
                refine lv_istore (lv' := [(6, .int 0), (5, .int y10353), (4, .int y10355), (0, .ref h0), (1, .int u1), (2, .int u2), (3, .int u3)]) hx hb dX11_worstOf_93 hl (by decide) rfl (fun ls hl => ?_)
                have L12870 : ∀ (n : Nat), ∀ (f12857 : Nat → va_E) (y12867 : Int32) (m12858 : oR (f12857 P) 0 = P0) (m12859 : oR (f12857 P) 1 = P1) (m12860 : oR (f12857 P) 5 = P5) (m12861 : oR (f12857 h0) 0 = a10368) (m12862 : oR (f12857 h0) 1 = P) (m12863 : oI (f12857 h0) 9 = y10682) (m12864 : oR (f12857 h0) 10 = a10386) (m12865 : oR (f12857 h0) 11 = a10392) (m12866 : oI (f12857 h0) 12 = y10359) (b12868 : (0 : Int) ≤ y12867.toInt) (z12869 : WT kp L [P, P0, P1, P5] f0 f12857) (hm : (2147483648 : Int) - y12867.toInt ≤ n) (H : Heap) (locs : List Loc) (ls : Array Slot), WS G cI cJ cZ cD cR cT A kp L f12857 s H locs → FM kp L ms_X11_worstOf_w f0 f12857 → lv_has ls 7 [(6, .int y12867), (5, .int y10353), (4, .int y10355), (0, .ref h0), (1, .int u1), (2, .int u2), (3, .int u3)] → W p l e ({ frames := 7, cells := 0, slots := 0, locals := 191 }) s m ([.ref h0, .int u1, .int u2, .int u3] : List Value).toArray below meth c H locs 0 0 (MQ below (QT (po_X11_worstOf_w kp L f0 h0 u1 u2 u3) G cI cJ cZ cD cR cT A kp L) ([.ref h0, .int u1, .int u2, .int u3] : List Value).toArray s 0 0 A) (F0 m 95 ls []) := by
                  intro n
                  induction n with
                  | zero =>
                    intro f12857 y12867 m12858 m12859 m12860 m12861 m12862 m12863 m12864 m12865 m12866 b12868 z12869 hm H locs ls hW hF hl
                    have hz := i32_b y12867
                    exfalso; omega
                  | succ n ih =>
                    intro f12857 y12867 m12858 m12859 m12860 m12861 m12862 m12863 m12864 m12865 m12866 b12868 z12869 hm H locs ls hW hF hl
                    have ih95 := ih
                    refine lv_iload hx hb dX11_worstOf_95 (lv_at hl 0 rfl) ?_
                    refine lv_iload_n hx hb dX11_worstOf_97 rfl (lv_at hl 5 rfl) ?_
                    refine q_icmp_ge (tgt := 125) hx hb dX11_worstOf_98 (by decide) rfl rfl (fun c12871 => ?_) (fun c12871 => ?_)
                    · refine lv_iload hx hb dX11_worstOf_125 (lv_at hl 2 rfl) ?_
                      refine lv_aload_n hx hb dX11_worstOf_127 rfl (lv_at hl 3 rfl) ?_
                      refine fg_RX11_18 E hW rh0 dX11_worstOf_128 (fun a12872 m12873 r12874 => ?_)
                      obtain rfl : P = a12872 := (m12862).symm.trans m12873
                      refine fg_RX11_389 E hW rP dX11_worstOf_131 (fun y12875 m12876 => ?_)
                      refine t_max (own := RX11) E tw_1322 ⟨tw_714, tw_115, tw_715⟩ hl.1 ⟨Nat.le_of_ble_eq_true rfl, Nat.le_of_ble_eq_true rfl⟩ ⟨Nat.le_of_ble_eq_true rfl, Nat.le_of_ble_eq_true rfl⟩ rfl rfl dX11_worstOf_134 (fun x12878 h12879 => ?_)
                      refine lv_istore (lv' := [(4, .int x12878), (6, .int y12867), (5, .int y10353), (0, .ref h0), (1, .int u1), (2, .int u2), (3, .int u3)]) hx hb dX11_worstOf_137 hl (by decide) rfl (fun ls hl => ?_)
                      refine q_iinc hx hb dX11_worstOf_139 hl (k := 2) rfl rfl rfl (by omega) (by decide) (fun i12880 ls h12881 hl => ?_)
                      have hl : lv_has ls 7 [(5, .int i12880), (4, .int x12878), (6, .int y12867), (0, .ref h0), (1, .int u1), (2, .int u2), (3, .int u3)] := hl
                      refine lv_goto (tgt := 6) hx hb dX11_worstOf_142 (by decide) ?_
                      exact ih6 f12857 i12880 x12878 m12858 m12859 m12860 m12873 (by omega) (by omega) z12869 (by omega) _ _ _ hW hF (lv_sub hl [0, 1, 3, 4, 5, 6] rfl)
                    · have hb12882 : y12867.toInt ≤ 2147483646 := by have := i32_b u2; omega
                      refine lv_aload_n hx hb dX11_worstOf_101 rfl (lv_at hl 3 rfl) ?_
                      refine fg_RX11_18 E hW rh0 dX11_worstOf_102 (fun a12883 m12884 r12885 => ?_)
                      obtain rfl : P = a12883 := (m12862).symm.trans m12884
                      refine fg_RX11_389 E hW rP dX11_worstOf_105 (fun y12886 m12887 => ?_)
                      refine lv_iload_n hx hb dX11_worstOf_108 rfl (lv_at hl 6 rfl) ?_
                      refine q_icmp_ge (tgt := 125) hx hb dX11_worstOf_109 (by decide) rfl rfl (fun c12889 => ?_) (fun c12889 => ?_)
                      · refine lv_iload hx hb dX11_worstOf_125 (lv_at hl 2 rfl) ?_
                        refine lv_aload_n hx hb dX11_worstOf_127 rfl (lv_at hl 3 rfl) ?_
                        refine fg_RX11_18 E hW rh0 dX11_worstOf_128 (fun a12890 m12891 r12892 => ?_)
                        obtain rfl : P = a12890 := (m12884).symm.trans m12891
                        refine fg_RX11_389 E hW rP dX11_worstOf_131 (fun y12893 m12894 => ?_)
                        obtain rfl : y12886 = y12893 := (m12887).symm.trans m12894
                        refine t_max (own := RX11) E tw_1322 ⟨tw_714, tw_115, tw_715⟩ hl.1 ⟨Nat.le_of_ble_eq_true rfl, Nat.le_of_ble_eq_true rfl⟩ ⟨Nat.le_of_ble_eq_true rfl, Nat.le_of_ble_eq_true rfl⟩ rfl rfl dX11_worstOf_134 (fun x12896 h12897 => ?_)
                        refine lv_istore (lv' := [(4, .int x12896), (6, .int y12867), (5, .int y10353), (0, .ref h0), (1, .int u1), (2, .int u2), (3, .int u3)]) hx hb dX11_worstOf_137 hl (by decide) rfl (fun ls hl => ?_)
                        refine q_iinc hx hb dX11_worstOf_139 hl (k := 2) rfl rfl rfl (by omega) (by decide) (fun i12898 ls h12899 hl => ?_)
                        have hl : lv_has ls 7 [(5, .int i12898), (4, .int x12896), (6, .int y12867), (0, .ref h0), (1, .int u1), (2, .int u2), (3, .int u3)] := hl
                        refine lv_goto (tgt := 6) hx hb dX11_worstOf_142 (by decide) ?_
                        exact ih6 f12857 i12898 x12896 m12858 m12859 m12860 m12891 (by omega) (by omega) z12869 (by omega) _ _ _ hW hF (lv_sub hl [0, 1, 3, 4, 5, 6] rfl)
                      · have hb12900 : y12886.toInt ≤ 2147483646 := by have := i32_b u3; omega
                        refine lv_aload_n hx hb dX11_worstOf_112 rfl (lv_at hl 3 rfl) ?_
                        refine fg_RX11_18 E hW rh0 dX11_worstOf_113 (fun a12901 m12902 r12903 => ?_)
                        obtain rfl : P = a12901 := (m12884).symm.trans m12902
                        have hW0 := hW.2.2.2
                        refine t_callV (As := []) (rest := []) E hW (c_X0_passWeek_w l G cI cJ cZ cD cR cT kp L f12857 hW.2.2.2 _ P rP) rP (by decide) rfl wk_X0_passWeek tw_1114 rfl ⟨Nat.le_of_ble_eq_true rfl, Nat.le_of_ble_eq_true rfl⟩ ⟨rfl, rfl⟩ hl.1 rfl (Nat.le_of_ble_eq_true rfl) dX11_worstOf_116 ⟨Nat.le_of_ble_eq_true rfl, Nat.le_of_ble_eq_true rfl⟩ (fun v12904 f12905 H locs q12906 hW => ?_)
                        obtain ⟨rfl, g12907, h12908, h12909⟩ := q12906
                        have hF := FM.tr hF g12907 rfl
                        have z12911 : WT kp L [P, P0, P1, P5] f0 f12905 := wt_call z12869 h12909 (by intro q h; simp only [List.mem_cons, List.not_mem_nil, or_false] at h ⊢; omega)
                        refine q_iinc hx hb dX11_worstOf_119 hl (k := 0) rfl rfl rfl (by omega) (by decide) (fun i12912 ls h12913 hl => ?_)
                        have hl : lv_has ls 7 [(6, .int i12912), (5, .int y10353), (4, .int y10355), (0, .ref h0), (1, .int u1), (2, .int u2), (3, .int u3)] := hl
                        refine lv_goto (tgt := 95) hx hb dX11_worstOf_122 (by decide) ?_
                        exact ih95 f12905 i12912 ((fm_R g12907 rP rfl).trans m12858) ((fm_R g12907 rP rfl).trans m12859) ((fm_R g12907 rP rfl).trans m12860) ((fm_R g12907 rh0 rfl).trans m12861) ((fm_R g12907 rh0 rfl).trans m12902) ((fm_I g12907 rh0 rfl).trans m12863) ((fm_R g12907 rh0 rfl).trans m12864) ((fm_R g12907 rh0 rfl).trans m12865) ((fm_I g12907 rh0 rfl).trans m12866) (by omega) z12911 (by omega) _ _ _ hW hF (lv_sub hl [0, 1, 2, 3, 4, 5, 6] rfl)
                have hk12914 : (0 : Int32).toInt = 0 := rfl
                exact L12870 2147483648 f10669 0 m10670 m10671 m10672 m10673 m10674 m10683 m10675 m10676 m10677 (by decide) z10680 (by omega) _ _ _ hW hF (lv_sub hl [0, 1, 2, 3, 4, 5, 6] rfl)
              · refine lv_aload_n hx hb dX11_worstOf_65 rfl (lv_at hl 3 rfl) ?_
                refine fg_RX11_18 E hW rh0 dX11_worstOf_66 (fun a12915 m12916 r12917 => ?_)
                obtain rfl : P = a12915 := (m10674).symm.trans m12916
                refine fg_RX11_386 E hW rP dX11_worstOf_69 (fun a12918 m12919 r12920 => ?_)
                refine lv_aload_n hx hb dX11_worstOf_72 rfl (lv_at hl 3 rfl) ?_
                refine fg_RX11_41 E hW rh0 dX11_worstOf_73 (fun a12921 m12922 r12923 => ?_)
                refine lv_iload hx hb dX11_worstOf_76 (lv_at hl 0 rfl) ?_
                refine gl_768 E hW r12923 ⟨by omega, by omega⟩ dX11_worstOf_78 (fun y12924 m12925 b12926 => ?_)
                refine lv_iload_n hx hb dX11_worstOf_79 rfl (lv_at hl 4 rfl) ?_
                refine lv_iload hx hb dX11_worstOf_80 (lv_at hl 0 rfl) ?_
                refine u_ishr hx hb dX11_worstOf_82 (fun x12927 => ?_)
                refine lv_iconst (v := 1) hx hb dX11_worstOf_83 (by decide) ?_
                refine q_iand (M := 1) (k := 1) hx hb dX11_worstOf_84 (by decide) (by decide) (by decide) (fun x12928 h12929 => ?_)
                have hW0 := hW.2.2.2
                refine gs_108 E hW r12920 ⟨by omega, by omega⟩ dX11_worstOf_85 (fun f12930 H locs e12931 n12932 g12933 hW => ?_)
                have z12934 : WT kp L [P, P0, P1, P5] f0 f12930 := wt_fm z10680 g12933 rfl
                have hF := FM.tr hF g12933 rfl
                refine q_iinc hx hb dX11_worstOf_86 hl (k := 0) rfl rfl rfl (by omega) (by decide) (fun i12935 ls h12936 hl => ?_)
                have hl : lv_has ls 7 [(6, .int i12935), (5, .int y10353), (4, .int y10355), (0, .ref h0), (1, .int u1), (2, .int u2), (3, .int u3)] := hl
                refine lv_goto (tgt := 56) hx hb dX11_worstOf_89 (by decide) ?_
                exact ih56 f12930 i12935 ((fm_R g12933 rP rfl).trans m10670) ((fm_R g12933 rP rfl).trans m10671) ((fm_R g12933 rP rfl).trans m10672) ((fm_R g12933 rh0 rfl).trans m10673) ((fm_R g12933 rh0 rfl).trans m12916) ((fm_R g12933 rh0 rfl).trans m10675) ((fm_R g12933 rh0 rfl).trans m10676) ((fm_I g12933 rh0 rfl).trans m10677) (by omega) z12934 (by omega) _ _ _ hW hF (lv_sub hl [0, 1, 2, 3, 4, 5, 6] rfl)
          have hk12937 : (0 : Int32).toInt = 0 := rfl
          exact L10681 7 f10399 0 ((fm_R g10401 rP rfl).trans ((fm_R g10374 rP rfl).trans m10349)) ((fm_R g10401 rP rfl).trans ((fm_R g10374 rP rfl).trans m10350)) ((fm_R g10401 rP rfl).trans ((fm_R g10374 rP rfl).trans m10351)) ((fm_R g10401 rh0 rfl).trans ((fm_R g10374 rh0 rfl).trans m10369)) ((fm_R g10401 rh0 rfl).trans m10384) ((fm_R g10401 rh0 rfl).trans m10387) ((fm_R g10401 rh0 rfl).trans m10393) ((fm_I g10401 rh0 rfl).trans ((fm_I g10374 rh0 rfl).trans m10360)) (by decide) z10402 (by omega) _ _ _ hW hF (lv_sub hl [0, 1, 2, 3, 4, 5, 6] rfl)
  have hk12938 : (0 : Int32).toInt = 0 := rfl
  have hk12939 : (0 : Int32).toInt = 0 := rfl
  exact L10358 4 f0 0 0 mP0 mP1 mP5 mP (by decide) (by decide) (wt_rf : WT kp L [P, P0, P1, P5] f0 f0) (by omega) _ _ _ hW hF (lv_sub hl [0, 1, 2, 3, 4, 5] rfl)
def ms_X11_choose_w : List (Nat × Nat) := [(0, 6), (0, 9), (0, 10), (0, 11), (0, 12), (0, 13), (0, 14), (1, 0), (1, 8), (1, 12), (1, 13), (1, 14), (2, 0), (3, 0), (3, 1), (3, 2), (3, 3), (4, 0), (10, 0), (10, 7), (11, 14), (108, 0), (115, 0), (161, 0), (162, 0), (163, 0), (164, 0), (165, 0), (166, 0), (167, 0), (169, 0), (170, 0), (171, 0), (221, 0), (222, 0), (223, 0), (284, 0), (285, 0), (341, 0), (342, 0), (343, 0), (344, 0), (345, 0), (346, 0), (347, 0), (348, 0), (349, 0), (520, 0), (521, 0), (701, 0), (702, 0), (703, 0), (704, 0), (705, 0), (706, 0), (708, 0), (709, 0), (710, 0), (773, 0)]
def po_X11_choose_w (kp : Nat → Nat) (L : List Nat) (f0 : Nat → va_E) (h0 : Nat) (u1 : Int32) : Option Value → (Nat → va_E) → Prop := fun v f => (∃ r : Int32, v = some (.int r) ∧ ((-1 : Int) ≤ r.toInt ∧ r.toInt ≤ 41)) ∧ FM kp L ms_X11_choose_w f0 f ∧ (WT kp L [(oR (f0 h0) 1), oR (f0 (oR (f0 h0) 1)) 0, oR (f0 (oR (f0 h0) 1)) 1, oR (f0 (oR (f0 h0) 1)) 5] f0 f)
set_option maxHeartbeats 4000000 in
set_option maxRecDepth 100000 in
theorem c_X11_choose_w (l : Launch) (G : va_G) (cI cJ cZ cD cR cT : ClassId) (kp : Nat → Nat) (L : List Nat) (f0 : Nat → va_E) (hTH : TH cI cJ cZ cD cR cT kp L f0) (sz : Nat) (h0 : Nat) (u1 : Int32) (rh0 : RK kp L h0 11) : Met l yX11_choose (Cond.code yX11_choose cX11_choose 8 (some .int) :: wTab) ({ frames := 8, cells := 0, slots := 0, locals := 217 }) (va_Pc [.ref h0, .int u1] (PreW G (tys6 cI cJ cZ cD cR cT) (va_pl L f0) sz)) (QT (po_X11_choose_w kp L f0 h0 u1) G cI cJ cZ cD cR cT (va_A (va_pl L f0) sz) kp L) 0 0 (va_A (va_pl L f0) sz) := by
  refine metT (by decide) (Nat.le_of_ble_eq_true rfl) hTH ?_
  intro p e s m below meth c A ls E hW hl
  obtain ⟨hx, hb, -, hml, hown, hts, -, -, -⟩ := id E
  have hF : FM kp L ms_X11_choose_w f0 f0 := FM.rf
  have hl : lv_has ls 8 [(0, .ref h0), (1, .int u1)] := hl
  obtain ⟨P, mP⟩ : ∃ x : Nat, oR (f0 h0) 1 = x := ⟨_, rfl⟩
  have rP : RK kp L P 0 := by rw [← mP]; exact th_ref hTH rh0 (by decide) (by decide) rfl
  obtain ⟨P0, mP0⟩ : ∃ x : Nat, oR (f0 P) 0 = x := ⟨_, rfl⟩
  have rP0 : RK kp L P0 4 := by rw [← mP0]; exact th_ref hTH rP (by decide) (by decide) rfl
  obtain ⟨P1, mP1⟩ : ∃ x : Nat, oR (f0 P) 1 = x := ⟨_, rfl⟩
  have rP1 : RK kp L P1 1 := by rw [← mP1]; exact th_ref hTH rP (by decide) (by decide) rfl
  obtain ⟨P5, mP5⟩ : ∃ x : Nat, oR (f0 P) 5 = x := ⟨_, rfl⟩
  have rP5 : RK kp L P5 3 := by rw [← mP5]; exact th_ref hTH rP (by decide) (by decide) rfl
  refine lv_aload_n hx hb dX11_choose_0 rfl (lv_at hl 0 rfl) ?_
  refine lv_iload_n hx hb dX11_choose_1 rfl (lv_at hl 1 rfl) ?_
  have hW0 := hW.2.2.2
  refine t_callV (As := [.int u1]) (rest := []) E hW (c_X11_canChoose l G cI cJ cZ cD cR cT kp L f0 hW.2.2.2 _ h0 u1 rh0) rh0 (by decide) rfl wk_X11_canChoose tw_1272 rfl ⟨Nat.le_of_ble_eq_true rfl, Nat.le_of_ble_eq_true rfl⟩ ⟨rfl, rfl⟩ hl.1 rfl (Nat.le_of_ble_eq_true rfl) dX11_choose_2 ⟨Nat.le_of_ble_eq_true rfl, Nat.le_of_ble_eq_true rfl⟩ (fun v1 f2 H locs q3 hW => ?_)
  obtain ⟨⟨x5, rfl, p6⟩, g4⟩ := q3
  have z7 : WT kp L [P, P0, P1, P5] f0 f2 := wt_fm (wt_rf : WT kp L [P, P0, P1, P5] f0 f0) g4 rfl
  have hF := FM.tr hF g4 rfl
  refine q_if_ne (tgt := 10) hx hb dX11_choose_5 (by decide) rfl (fun c8 => ?_) (fun c8 => ?_)
  · refine lv_bipush (v := 41) hx hb dX11_choose_10 (by decide) ?_
    refine lv_istore_n (lv' := [(2, .int 41), (0, .ref h0), (1, .int u1)]) hx hb dX11_choose_12 rfl hl (by decide) rfl (fun ls hl => ?_)
    refine lv_iconst (v := 0) hx hb dX11_choose_13 (by decide) ?_
    refine lv_istore_n (lv' := [(3, .int 0), (2, .int 41), (0, .ref h0), (1, .int u1)]) hx hb dX11_choose_14 rfl hl (by decide) rfl (fun ls hl => ?_)
    refine lv_iconst (v := 0) hx hb dX11_choose_15 (by decide) ?_
    refine lv_istore (lv' := [(4, .int 0), (3, .int 0), (2, .int 41), (0, .ref h0), (1, .int u1)]) hx hb dX11_choose_16 hl (by decide) rfl (fun ls hl => ?_)
    have L24902 : ∀ (n : Nat), ∀ (f24891 : Nat → va_E) (y24896 : Int32) (y24898 : Int32) (y24899 : Int32) (m24892 : oR (f24891 P) 0 = P0) (m24893 : oR (f24891 P) 1 = P1) (m24894 : oR (f24891 P) 5 = P5) (m24895 : oR (f24891 h0) 1 = P) (b24897 : (0 : Int) ≤ y24896.toInt ∧ y24896.toInt ≤ 7) (b24900 : (0 : Int) ≤ y24899.toInt ∧ y24899.toInt ≤ 41) (z24901 : WT kp L [P, P0, P1, P5] f0 f24891) (hm : (8 : Int) - y24896.toInt ≤ n) (H : Heap) (locs : List Loc) (ls : Array Slot), WS G cI cJ cZ cD cR cT A kp L f24891 s H locs → FM kp L ms_X11_choose_w f0 f24891 → lv_has ls 8 [(4, .int y24896), (3, .int y24898), (2, .int y24899), (0, .ref h0), (1, .int u1)] → W p l e ({ frames := 8, cells := 0, slots := 0, locals := 217 }) s m ([.ref h0, .int u1] : List Value).toArray below meth c H locs 0 0 (MQ below (QT (po_X11_choose_w kp L f0 h0 u1) G cI cJ cZ cD cR cT A kp L) ([.ref h0, .int u1] : List Value).toArray s 0 0 A) (F0 m 18 ls []) := by
      intro n
      induction n with
      | zero =>
        intro f24891 y24896 y24898 y24899 m24892 m24893 m24894 m24895 b24897 b24900 z24901 hm H locs ls hW hF hl
        have hz := i32_b y24896
        exfalso; omega
      | succ n ih =>
        intro f24891 y24896 y24898 y24899 m24892 m24893 m24894 m24895 b24897 b24900 z24901 hm H locs ls hW hF hl
        clear p6 c8
        have ih18 := ih
        refine lv_iload hx hb dX11_choose_18 (lv_at hl 0 rfl) ?_
        refine lv_aload_n hx hb dX11_choose_20 rfl (lv_at hl 3 rfl) ?_
        refine fg_RX11_309 E hW rh0 dX11_choose_21 (fun y24903 m24904 b24905 => ?_)
        refine q_icmp_gt (tgt := 104) hx hb dX11_choose_24 (by decide) rfl rfl (fun c24906 => ?_) (fun c24906 => ?_)
        · refine lv_iconst (v := 0) hx hb dX11_choose_104 (by decide) ?_
          refine lv_istore (lv' := [(4, .int 0), (3, .int y24898), (2, .int y24899), (0, .ref h0), (1, .int u1)]) hx hb dX11_choose_105 hl (by decide) rfl (fun ls hl => ?_)
          have L25098 : ∀ (n : Nat), ∀ (f25089 : Nat → va_E) (y25095 : Int32) (m25090 : oR (f25089 P) 0 = P0) (m25091 : oR (f25089 P) 1 = P1) (m25092 : oR (f25089 P) 5 = P5) (m25093 : oR (f25089 h0) 1 = P) (m25094 : oI (f25089 h0) 9 = y24903) (b25096 : (0 : Int) ≤ y25095.toInt ∧ y25095.toInt ≤ 6) (z25097 : WT kp L [P, P0, P1, P5] f0 f25089) (hm : (7 : Int) - y25095.toInt ≤ n) (H : Heap) (locs : List Loc) (ls : Array Slot), WS G cI cJ cZ cD cR cT A kp L f25089 s H locs → FM kp L ms_X11_choose_w f0 f25089 → lv_has ls 8 [(4, .int y25095), (3, .int y24898), (2, .int y24899), (0, .ref h0), (1, .int u1)] → W p l e ({ frames := 8, cells := 0, slots := 0, locals := 217 }) s m ([.ref h0, .int u1] : List Value).toArray below meth c H locs 0 0 (MQ below (QT (po_X11_choose_w kp L f0 h0 u1) G cI cJ cZ cD cR cT A kp L) ([.ref h0, .int u1] : List Value).toArray s 0 0 A) (F0 m 107 ls []) := by
            intro n
            induction n with
            | zero =>
              intro f25089 y25095 m25090 m25091 m25092 m25093 m25094 b25096 z25097 hm H locs ls hW hF hl
              have hz := i32_b y25095
              exfalso; omega
            | succ n ih =>
              intro f25089 y25095 m25090 m25091 m25092 m25093 m25094 b25096 z25097 hm H locs ls hW hF hl
              have ih107 := ih
              refine lv_iload hx hb dX11_choose_107 (lv_at hl 0 rfl) ?_
              refine lv_aload_n hx hb dX11_choose_109 rfl (lv_at hl 3 rfl) ?_
              refine fg_RX11_309 E hW rh0 dX11_choose_110 (fun y25099 m25100 b25101 => ?_)
              obtain rfl : y24903 = y25099 := (m25094).symm.trans m25100
              refine q_icmp_ge (tgt := 135) hx hb dX11_choose_113 (by decide) rfl rfl (fun c25102 => ?_) (fun c25102 => ?_)
              · refine lv_aload_n hx hb dX11_choose_135 rfl (lv_at hl 3 rfl) ?_
                refine lv_aload_n hx hb dX11_choose_136 rfl (lv_at hl 3 rfl) ?_
                refine fg_RX11_309 E hW rh0 dX11_choose_137 (fun y25103 m25104 b25105 => ?_)
                obtain rfl : y24903 = y25103 := (m25100).symm.trans m25104
                have hW0 := hW.2.2.2
                refine fp_RX11_329 E hW rh0 (by omega) dX11_choose_140 (fun f25106 H locs e25107 n25108 g25109 hW => ?_)
                have z25110 : WT kp L [P, P0, P1, P5] f0 f25106 := wt_fm z25097 g25109 rfl
                have hF := FM.tr hF g25109 rfl
                refine lv_iload_n hx hb dX11_choose_143 rfl (lv_at hl 2 rfl) ?_
                exact e_I E hW rfl ⟨⟨_, rfl, (by first | omega | trivial)⟩, hF, (by rw [mP, mP0, mP1, mP5]; exact z25110)⟩ dX11_choose_144
              · refine lv_aload_n hx hb dX11_choose_116 rfl (lv_at hl 3 rfl) ?_
                refine fg_RX11_51 E hW rh0 dX11_choose_117 (fun a25111 m25112 r25113 => ?_)
                refine lv_iload hx hb dX11_choose_120 (lv_at hl 0 rfl) ?_
                refine lv_iload_n hx hb dX11_choose_122 rfl (lv_at hl 1 rfl) ?_
                refine lv_iload hx hb dX11_choose_123 (lv_at hl 0 rfl) ?_
                refine u_ishr hx hb dX11_choose_125 (fun x25114 => ?_)
                refine lv_iconst (v := 1) hx hb dX11_choose_126 (by decide) ?_
                refine q_iand (M := 1) (k := 1) hx hb dX11_choose_127 (by decide) (by decide) (by decide) (fun x25115 h25116 => ?_)
                have hW0 := hW.2.2.2
                refine gs_773 E hW r25113 ⟨by omega, by omega⟩ dX11_choose_128 (fun f25117 H locs e25118 n25119 g25120 hW => ?_)
                have z25121 : WT kp L [P, P0, P1, P5] f0 f25117 := wt_fm z25097 g25120 rfl
                have hF := FM.tr hF g25120 rfl
                refine q_iinc hx hb dX11_choose_129 hl (k := 0) rfl rfl rfl (by omega) (by decide) (fun i25122 ls h25123 hl => ?_)
                have hl : lv_has ls 8 [(4, .int i25122), (3, .int y24898), (2, .int y24899), (0, .ref h0), (1, .int u1)] := hl
                refine lv_goto (tgt := 107) hx hb dX11_choose_132 (by decide) ?_
                exact ih107 f25117 i25122 ((fm_R g25120 rP rfl).trans m25090) ((fm_R g25120 rP rfl).trans m25091) ((fm_R g25120 rP rfl).trans m25092) ((fm_R g25120 rh0 rfl).trans m25093) ((fm_I g25120 rh0 rfl).trans m25100) (by omega) z25121 (by omega) _ _ _ hW hF (lv_sub hl [0, 1, 2, 3, 4] rfl)
          have hk25124 : (0 : Int32).toInt = 0 := rfl
          exact L25098 7 f24891 0 m24892 m24893 m24894 m24895 m24904 (by decide) z24901 (by omega) _ _ _ hW hF (lv_sub hl [0, 1, 2, 3, 4] rfl)
        · refine lv_iload_n hx hb dX11_choose_27 rfl (lv_at hl 2 rfl) ?_
          refine q_if_le (tgt := 104) hx hb dX11_choose_28 (by decide) rfl (fun c25125 => ?_) (fun c25125 => ?_)
          · refine lv_iconst (v := 0) hx hb dX11_choose_104 (by decide) ?_
            refine lv_istore (lv' := [(4, .int 0), (3, .int y24898), (2, .int y24899), (0, .ref h0), (1, .int u1)]) hx hb dX11_choose_105 hl (by decide) rfl (fun ls hl => ?_)
            have L25317 : ∀ (n : Nat), ∀ (f25308 : Nat → va_E) (y25314 : Int32) (m25309 : oR (f25308 P) 0 = P0) (m25310 : oR (f25308 P) 1 = P1) (m25311 : oR (f25308 P) 5 = P5) (m25312 : oR (f25308 h0) 1 = P) (m25313 : oI (f25308 h0) 9 = y24903) (b25315 : (0 : Int) ≤ y25314.toInt ∧ y25314.toInt ≤ 6) (z25316 : WT kp L [P, P0, P1, P5] f0 f25308) (hm : (7 : Int) - y25314.toInt ≤ n) (H : Heap) (locs : List Loc) (ls : Array Slot), WS G cI cJ cZ cD cR cT A kp L f25308 s H locs → FM kp L ms_X11_choose_w f0 f25308 → lv_has ls 8 [(4, .int y25314), (3, .int y24898), (2, .int y24899), (0, .ref h0), (1, .int u1)] → W p l e ({ frames := 8, cells := 0, slots := 0, locals := 217 }) s m ([.ref h0, .int u1] : List Value).toArray below meth c H locs 0 0 (MQ below (QT (po_X11_choose_w kp L f0 h0 u1) G cI cJ cZ cD cR cT A kp L) ([.ref h0, .int u1] : List Value).toArray s 0 0 A) (F0 m 107 ls []) := by
              intro n
              induction n with
              | zero =>
                intro f25308 y25314 m25309 m25310 m25311 m25312 m25313 b25315 z25316 hm H locs ls hW hF hl
                have hz := i32_b y25314
                exfalso; omega
              | succ n ih =>
                intro f25308 y25314 m25309 m25310 m25311 m25312 m25313 b25315 z25316 hm H locs ls hW hF hl
                have ih107 := ih
                refine lv_iload hx hb dX11_choose_107 (lv_at hl 0 rfl) ?_
                refine lv_aload_n hx hb dX11_choose_109 rfl (lv_at hl 3 rfl) ?_
                refine fg_RX11_309 E hW rh0 dX11_choose_110 (fun y25318 m25319 b25320 => ?_)
                obtain rfl : y24903 = y25318 := (m25313).symm.trans m25319
                refine q_icmp_ge (tgt := 135) hx hb dX11_choose_113 (by decide) rfl rfl (fun c25321 => ?_) (fun c25321 => ?_)
                · refine lv_aload_n hx hb dX11_choose_135 rfl (lv_at hl 3 rfl) ?_
                  refine lv_aload_n hx hb dX11_choose_136 rfl (lv_at hl 3 rfl) ?_
                  refine fg_RX11_309 E hW rh0 dX11_choose_137 (fun y25322 m25323 b25324 => ?_)
                  obtain rfl : y24903 = y25322 := (m25319).symm.trans m25323
                  have hW0 := hW.2.2.2
                  refine fp_RX11_329 E hW rh0 (by omega) dX11_choose_140 (fun f25325 H locs e25326 n25327 g25328 hW => ?_)
                  have z25329 : WT kp L [P, P0, P1, P5] f0 f25325 := wt_fm z25316 g25328 rfl
                  have hF := FM.tr hF g25328 rfl
                  refine lv_iload_n hx hb dX11_choose_143 rfl (lv_at hl 2 rfl) ?_
                  exact e_I E hW rfl ⟨⟨_, rfl, (by first | omega | trivial)⟩, hF, (by rw [mP, mP0, mP1, mP5]; exact z25329)⟩ dX11_choose_144
                · refine lv_aload_n hx hb dX11_choose_116 rfl (lv_at hl 3 rfl) ?_
                  refine fg_RX11_51 E hW rh0 dX11_choose_117 (fun a25330 m25331 r25332 => ?_)
                  refine lv_iload hx hb dX11_choose_120 (lv_at hl 0 rfl) ?_
                  refine lv_iload_n hx hb dX11_choose_122 rfl (lv_at hl 1 rfl) ?_
                  refine lv_iload hx hb dX11_choose_123 (lv_at hl 0 rfl) ?_
                  refine u_ishr hx hb dX11_choose_125 (fun x25333 => ?_)
                  refine lv_iconst (v := 1) hx hb dX11_choose_126 (by decide) ?_
                  refine q_iand (M := 1) (k := 1) hx hb dX11_choose_127 (by decide) (by decide) (by decide) (fun x25334 h25335 => ?_)
                  have hW0 := hW.2.2.2
                  refine gs_773 E hW r25332 ⟨by omega, by omega⟩ dX11_choose_128 (fun f25336 H locs e25337 n25338 g25339 hW => ?_)
                  have z25340 : WT kp L [P, P0, P1, P5] f0 f25336 := wt_fm z25316 g25339 rfl
                  have hF := FM.tr hF g25339 rfl
                  refine q_iinc hx hb dX11_choose_129 hl (k := 0) rfl rfl rfl (by omega) (by decide) (fun i25341 ls h25342 hl => ?_)
                  have hl : lv_has ls 8 [(4, .int i25341), (3, .int y24898), (2, .int y24899), (0, .ref h0), (1, .int u1)] := hl
                  refine lv_goto (tgt := 107) hx hb dX11_choose_132 (by decide) ?_
                  exact ih107 f25336 i25341 ((fm_R g25339 rP rfl).trans m25309) ((fm_R g25339 rP rfl).trans m25310) ((fm_R g25339 rP rfl).trans m25311) ((fm_R g25339 rh0 rfl).trans m25312) ((fm_I g25339 rh0 rfl).trans m25319) (by omega) z25340 (by omega) _ _ _ hW hF (lv_sub hl [0, 1, 2, 3, 4] rfl)
            have hk25343 : (0 : Int32).toInt = 0 := rfl
            exact L25317 7 f24891 0 m24892 m24893 m24894 m24895 m24904 (by decide) z24901 (by omega) _ _ _ hW hF (lv_sub hl [0, 1, 2, 3, 4] rfl)
          · refine lv_iconst (v := 0) hx hb dX11_choose_31 (by decide) ?_
            refine lv_istore (lv' := [(5, .int 0), (4, .int y24896), (3, .int y24898), (2, .int y24899), (0, .ref h0), (1, .int u1)]) hx hb dX11_choose_32 hl (by decide) rfl (fun ls hl => ?_)
            have L28395 : ∀ (n : Nat), ∀ (f28383 : Nat → va_E) (y28389 : Int32) (y28391 : Int32) (y28392 : Int32) (m28384 : oR (f28383 P) 0 = P0) (m28385 : oR (f28383 P) 1 = P1) (m28386 : oR (f28383 P) 5 = P5) (m28387 : oR (f28383 h0) 1 = P) (m28388 : oI (f28383 h0) 9 = y24903) (b28390 : (0 : Int) ≤ y28389.toInt) (b28393 : (0 : Int) ≤ y28392.toInt ∧ y28392.toInt ≤ 41) (z28394 : WT kp L [P, P0, P1, P5] f0 f28383) (hm : (2147483648 : Int) - y28389.toInt ≤ n) (H : Heap) (locs : List Loc) (ls : Array Slot), WS G cI cJ cZ cD cR cT A kp L f28383 s H locs → FM kp L ms_X11_choose_w f0 f28383 → lv_has ls 8 [(5, .int y28389), (4, .int y24896), (3, .int y28391), (2, .int y28392), (0, .ref h0), (1, .int u1)] → W p l e ({ frames := 8, cells := 0, slots := 0, locals := 217 }) s m ([.ref h0, .int u1] : List Value).toArray below meth c H locs 0 0 (MQ below (QT (po_X11_choose_w kp L f0 h0 u1) G cI cJ cZ cD cR cT A kp L) ([.ref h0, .int u1] : List Value).toArray s 0 0 A) (F0 m 34 ls []) := by
              intro n
              induction n with
              | zero =>
                intro f28383 y28389 y28391 y28392 m28384 m28385 m28386 m28387 m28388 b28390 b28393 z28394 hm H locs ls hW hF hl
                have hz := i32_b y28389
                exfalso; omega
              | succ n ih =>
                intro f28383 y28389 y28391 y28392 m28384 m28385 m28386 m28387 m28388 b28390 b28393 z28394 hm H locs ls hW hF hl
                clear b24900 c25125
                have ih34 := ih
                refine lv_iload hx hb dX11_choose_34 (lv_at hl 0 rfl) ?_
                refine lv_iconst (v := 1) hx hb dX11_choose_36 (by decide) ?_
                refine lv_aload_n hx hb dX11_choose_37 rfl (lv_at hl 4 rfl) ?_
                refine fg_RX11_309 E hW rh0 dX11_choose_38 (fun y28396 m28397 b28398 => ?_)
                obtain rfl : y24903 = y28396 := (m28388).symm.trans m28397
                refine u_ishl hx hb dX11_choose_41 (fun x28399 => ?_)
                refine q_icmp_ge (tgt := 98) hx hb dX11_choose_42 (by decide) rfl rfl (fun c28400 => ?_) (fun c28400 => ?_)
                · refine q_iinc hx hb dX11_choose_98 hl (k := 1) rfl rfl rfl (by omega) (by decide) (fun i28401 ls h28402 hl => ?_)
                  have hl : lv_has ls 8 [(4, .int i28401), (5, .int y28389), (3, .int y28391), (2, .int y28392), (0, .ref h0), (1, .int u1)] := hl
                  refine lv_goto (tgt := 18) hx hb dX11_choose_101 (by decide) ?_
                  exact ih18 f28383 i28401 y28391 y28392 m28384 m28385 m28386 m28387 (by omega) (by omega) z28394 (by omega) _ _ _ hW hF (lv_sub hl [0, 2, 3, 4, 5] rfl)
                · have hb28403 : y28389.toInt ≤ 2147483646 := by have := i32_b x28399; omega
                  refine lv_iload_n hx hb dX11_choose_45 rfl (lv_at hl 3 rfl) ?_
                  refine q_if_le (tgt := 98) hx hb dX11_choose_46 (by decide) rfl (fun c28404 => ?_) (fun c28404 => ?_)
                  · refine q_iinc hx hb dX11_choose_98 hl (k := 1) rfl rfl rfl (by omega) (by decide) (fun i28405 ls h28406 hl => ?_)
                    have hl : lv_has ls 8 [(4, .int i28405), (5, .int y28389), (3, .int y28391), (2, .int y28392), (0, .ref h0), (1, .int u1)] := hl
                    refine lv_goto (tgt := 18) hx hb dX11_choose_101 (by decide) ?_
                    exact ih18 f28383 i28405 y28391 y28392 m28384 m28385 m28386 m28387 (by omega) (by omega) z28394 (by omega) _ _ _ hW hF (lv_sub hl [0, 2, 3, 4, 5] rfl)
                  · refine lv_iload hx hb dX11_choose_49 (lv_at hl 0 rfl) ?_
                    have hW0 := hW.2.2.2
                    refine t_callS (As := [.int y28389]) (rest := []) E hW (c_J6_bitCount_0f7a4 l G cI cJ cZ cD cR cT kp L f28383 hW.2.2.2 _ y28389 (by omega)) wk_J6_bitCount_0f7a4 tw_1276 rfl ⟨Nat.le_of_ble_eq_true rfl, Nat.le_of_ble_eq_true rfl⟩ ⟨rfl, rfl⟩ hl.1 rfl (Nat.le_of_ble_eq_true rfl) dX11_choose_51 ⟨Nat.le_of_ble_eq_true rfl, Nat.le_of_ble_eq_true rfl⟩ (fun v28407 f28408 H locs q28409 hW => ?_)
                    obtain ⟨⟨x28411, rfl, p28412⟩, g28410⟩ := q28409
                    have z28413 : WT kp L [P, P0, P1, P5] f0 f28408 := wt_fm z28394 g28410 rfl
                    have hF := FM.tr hF g28410 rfl
                    refine lv_iload hx hb dX11_choose_54 (lv_at hl 1 rfl) ?_
                    refine q_icmp_eq (tgt := 62) hx hb dX11_choose_56 (by decide) rfl rfl (fun c28414 => ?_) (fun c28414 => ?_)
                    · refine lv_aload_n hx hb dX11_choose_62 rfl (lv_at hl 4 rfl) ?_
                      refine lv_iload hx hb dX11_choose_63 (lv_at hl 0 rfl) ?_
                      have hW0 := hW.2.2.2
                      refine t_callV (As := [.int y28389]) (rest := []) E hW (c_X11_bitsOfRow l G cI cJ cZ cD cR cT kp L f28408 hW.2.2.2 _ h0 y28389 rh0 (by omega)) rh0 (by decide) rfl wk_X11_bitsOfRow tw_1277 rfl ⟨Nat.le_of_ble_eq_true rfl, Nat.le_of_ble_eq_true rfl⟩ ⟨rfl, rfl⟩ hl.1 rfl (Nat.le_of_ble_eq_true rfl) dX11_choose_65 ⟨Nat.le_of_ble_eq_true rfl, Nat.le_of_ble_eq_true rfl⟩ (fun v28415 f28416 H locs q28417 hW => ?_)
                      obtain ⟨⟨x28419, rfl, p28420⟩, g28418⟩ := q28417
                      clear p28420
                      have z28421 : WT kp L [P, P0, P1, P5] f0 f28416 := wt_fm z28413 g28418 rfl
                      have hF := FM.tr hF g28418 rfl
                      refine lv_istore (lv' := [(6, .int x28419), (5, .int y28389), (4, .int y24896), (3, .int y28391), (2, .int y28392), (0, .ref h0), (1, .int u1)]) hx hb dX11_choose_68 hl (by decide) rfl (fun ls hl => ?_)
                      refine lv_aload_n hx hb dX11_choose_70 rfl (lv_at hl 5 rfl) ?_
                      refine lv_iload hx hb dX11_choose_71 (lv_at hl 0 rfl) ?_
                      refine lv_iload_n hx hb dX11_choose_73 rfl (lv_at hl 6 rfl) ?_
                      refine lv_iload_n hx hb dX11_choose_74 rfl (lv_at hl 4 rfl) ?_
                      have hW0 := hW.2.2.2
                      refine t_callV (As := [.int x28419, .int u1, .int y28392]) (rest := []) E hW (c_X11_worstOf_w l G cI cJ cZ cD cR cT kp L f28416 hW.2.2.2 _ h0 x28419 u1 y28392 rh0) rh0 (by decide) rfl wk_X11_worstOf tw_1281 rfl ⟨Nat.le_of_ble_eq_true rfl, Nat.le_of_ble_eq_true rfl⟩ ⟨rfl, rfl⟩ hl.1 rfl (Nat.le_of_ble_eq_true rfl) dX11_choose_75 ⟨Nat.le_of_ble_eq_true rfl, Nat.le_of_ble_eq_true rfl⟩ (fun v28422 f28423 H locs q28424 hW => ?_)
                      obtain ⟨⟨x28427, rfl, p28428⟩, g28425, h28426⟩ := q28424
                      have hF := FM.tr hF g28425 rfl
                      have z28430 : WT kp L [P, P0, P1, P5] f0 f28423 := wt_call z28421 h28426 (by rw [((fm_R g28418 rh0 rfl).trans ((fm_R g28410 rh0 rfl).trans m28387)), ((fm_R g28418 rP rfl).trans ((fm_R g28410 rP rfl).trans m28384)), ((fm_R g28418 rP rfl).trans ((fm_R g28410 rP rfl).trans m28385)), ((fm_R g28418 rP rfl).trans ((fm_R g28410 rP rfl).trans m28386))]; intro q h; simp only [List.mem_cons, List.not_mem_nil, or_false] at h ⊢; omega)
                      refine lv_istore (lv' := [(7, .int x28427), (6, .int x28419), (5, .int y28389), (4, .int y24896), (3, .int y28391), (2, .int y28392), (0, .ref h0), (1, .int u1)]) hx hb dX11_choose_78 hl (by decide) rfl (fun ls hl => ?_)
                      refine lv_iload hx hb dX11_choose_80 (lv_at hl 0 rfl) ?_
                      refine lv_iload_n hx hb dX11_choose_82 rfl (lv_at hl 5 rfl) ?_
                      refine q_icmp_ge (tgt := 92) hx hb dX11_choose_83 (by decide) rfl rfl (fun c28431 => ?_) (fun c28431 => ?_)
                      · refine q_iinc hx hb dX11_choose_92 hl (k := 2) rfl rfl rfl (by omega) (by decide) (fun i28432 ls h28433 hl => ?_)
                        have hl : lv_has ls 8 [(5, .int i28432), (7, .int x28427), (6, .int x28419), (4, .int y24896), (3, .int y28391), (2, .int y28392), (0, .ref h0), (1, .int u1)] := hl
                        refine lv_goto (tgt := 34) hx hb dX11_choose_95 (by decide) ?_
                        exact ih34 f28423 i28432 y28391 y28392 ((fm_R g28425 rP rfl).trans ((fm_R g28418 rP rfl).trans ((fm_R g28410 rP rfl).trans m28384))) ((fm_R g28425 rP rfl).trans ((fm_R g28418 rP rfl).trans ((fm_R g28410 rP rfl).trans m28385))) ((fm_R g28425 rP rfl).trans ((fm_R g28418 rP rfl).trans ((fm_R g28410 rP rfl).trans m28386))) ((fm_R g28425 rh0 rfl).trans ((fm_R g28418 rh0 rfl).trans ((fm_R g28410 rh0 rfl).trans m28387))) ((fm_I g28425 rh0 rfl).trans ((fm_I g28418 rh0 rfl).trans ((fm_I g28410 rh0 rfl).trans m28397))) (by omega) (by omega) z28430 (by omega) _ _ _ hW hF (lv_sub hl [0, 3, 4, 5, 6, 7] rfl)
                      · refine lv_iload hx hb dX11_choose_86 (lv_at hl 0 rfl) ?_
                        refine lv_istore_n (lv' := [(2, .int x28427), (7, .int x28427), (6, .int x28419), (5, .int y28389), (4, .int y24896), (3, .int y28391), (0, .ref h0), (1, .int u1)]) hx hb dX11_choose_88 rfl hl (by decide) rfl (fun ls hl => ?_)
                        refine lv_iload hx hb dX11_choose_89 (lv_at hl 2 rfl) ?_
                        refine lv_istore_n (lv' := [(3, .int x28419), (2, .int x28427), (7, .int x28427), (6, .int x28419), (5, .int y28389), (4, .int y24896), (0, .ref h0), (1, .int u1)]) hx hb dX11_choose_91 rfl hl (by decide) rfl (fun ls hl => ?_)
                        refine q_iinc hx hb dX11_choose_92 hl (k := 4) rfl rfl rfl (by omega) (by decide) (fun i28434 ls h28435 hl => ?_)
                        have hl : lv_has ls 8 [(5, .int i28434), (3, .int x28419), (2, .int x28427), (7, .int x28427), (6, .int x28419), (4, .int y24896), (0, .ref h0), (1, .int u1)] := hl
                        refine lv_goto (tgt := 34) hx hb dX11_choose_95 (by decide) ?_
                        exact ih34 f28423 i28434 x28419 x28427 ((fm_R g28425 rP rfl).trans ((fm_R g28418 rP rfl).trans ((fm_R g28410 rP rfl).trans m28384))) ((fm_R g28425 rP rfl).trans ((fm_R g28418 rP rfl).trans ((fm_R g28410 rP rfl).trans m28385))) ((fm_R g28425 rP rfl).trans ((fm_R g28418 rP rfl).trans ((fm_R g28410 rP rfl).trans m28386))) ((fm_R g28425 rh0 rfl).trans ((fm_R g28418 rh0 rfl).trans ((fm_R g28410 rh0 rfl).trans m28387))) ((fm_I g28425 rh0 rfl).trans ((fm_I g28418 rh0 rfl).trans ((fm_I g28410 rh0 rfl).trans m28397))) (by omega) (by omega) z28430 (by omega) _ _ _ hW hF (lv_sub hl [0, 5, 1, 2, 6, 7] rfl)
                    · refine lv_goto (tgt := 92) hx hb dX11_choose_59 (by decide) ?_
                      refine q_iinc hx hb dX11_choose_92 hl (k := 0) rfl rfl rfl (by omega) (by decide) (fun i28436 ls h28437 hl => ?_)
                      have hl : lv_has ls 8 [(5, .int i28436), (4, .int y24896), (3, .int y28391), (2, .int y28392), (0, .ref h0), (1, .int u1)] := hl
                      refine lv_goto (tgt := 34) hx hb dX11_choose_95 (by decide) ?_
                      exact ih34 f28408 i28436 y28391 y28392 ((fm_R g28410 rP rfl).trans m28384) ((fm_R g28410 rP rfl).trans m28385) ((fm_R g28410 rP rfl).trans m28386) ((fm_R g28410 rh0 rfl).trans m28387) ((fm_I g28410 rh0 rfl).trans m28397) (by omega) (by omega) z28413 (by omega) _ _ _ hW hF (lv_sub hl [0, 1, 2, 3, 4, 5] rfl)
            have hk28438 : (0 : Int32).toInt = 0 := rfl
            exact L28395 2147483648 f24891 0 y24898 y24899 m24892 m24893 m24894 m24895 m24904 (by decide) (by omega) z24901 (by omega) _ _ _ hW hF (lv_sub hl [0, 1, 2, 3, 4, 5] rfl)
    have hk28439 : (0 : Int32).toInt = 0 := rfl
    have hk28440 : (0 : Int32).toInt = 0 := rfl
    have hk28441 : (41 : Int32).toInt = 41 := rfl
    exact L24902 8 f2 0 0 41 ((fm_R g4 rP rfl).trans mP0) ((fm_R g4 rP rfl).trans mP1) ((fm_R g4 rP rfl).trans mP5) ((fm_R g4 rh0 rfl).trans mP) (by decide) (by decide) z7 (by omega) _ _ _ hW hF (lv_sub hl [0, 1, 2, 3, 4] rfl)
  · refine lv_iconst (v := (-1)) hx hb dX11_choose_8 (by decide) ?_
    exact e_I E hW rfl ⟨⟨_, rfl, (by have hk : ((-1) : Int32).toInt = -1 := rfl; first | decide | omega)⟩, hF, (by rw [mP, mP0, mP1, mP5]; exact z7)⟩ dX11_choose_9
def ms_X11_judge_w : List (Nat × Nat) := [(0, 6), (0, 9), (0, 10), (0, 11), (0, 12), (0, 13), (0, 14), (1, 0), (1, 8), (1, 12), (1, 13), (1, 14), (2, 0), (3, 0), (3, 1), (3, 2), (3, 3), (4, 0), (10, 0), (10, 7), (108, 0), (115, 0), (161, 0), (162, 0), (163, 0), (164, 0), (165, 0), (166, 0), (167, 0), (169, 0), (170, 0), (171, 0), (221, 0), (222, 0), (223, 0), (284, 0), (285, 0), (341, 0), (342, 0), (343, 0), (344, 0), (345, 0), (346, 0), (347, 0), (348, 0), (349, 0), (520, 0), (521, 0), (701, 0), (702, 0), (703, 0), (704, 0), (705, 0), (706, 0), (708, 0), (709, 0), (710, 0)]
def po_X11_judge_w (kp : Nat → Nat) (L : List Nat) (f0 : Nat → va_E) (h0 : Nat) (u1 : Int32) (u2 : Int32) : Option Value → (Nat → va_E) → Prop := fun v f => (∃ r : Int32, v = some (.int r) ∧ ((-1 : Int) ≤ r.toInt)) ∧ FM kp L ms_X11_judge_w f0 f ∧ (WT kp L [(oR (f0 h0) 1), oR (f0 (oR (f0 h0) 1)) 0, oR (f0 (oR (f0 h0) 1)) 1, oR (f0 (oR (f0 h0) 1)) 5] f0 f)
set_option maxHeartbeats 4000000 in
set_option maxRecDepth 100000 in
theorem c_X11_judge_w (l : Launch) (G : va_G) (cI cJ cZ cD cR cT : ClassId) (kp : Nat → Nat) (L : List Nat) (f0 : Nat → va_E) (hTH : TH cI cJ cZ cD cR cT kp L f0) (sz : Nat) (h0 : Nat) (u1 : Int32) (u2 : Int32) (rh0 : RK kp L h0 11) : Met l yX11_judge (Cond.code yX11_judge cX11_judge 3 (some .int) :: wTab) ({ frames := 8, cells := 0, slots := 0, locals := 217 }) (va_Pc [.ref h0, .int u1, .int u2] (PreW G (tys6 cI cJ cZ cD cR cT) (va_pl L f0) sz)) (QT (po_X11_judge_w kp L f0 h0 u1 u2) G cI cJ cZ cD cR cT (va_A (va_pl L f0) sz) kp L) 0 0 (va_A (va_pl L f0) sz) := by
  refine metT (by decide) (Nat.le_of_ble_eq_true rfl) hTH ?_
  intro p e s m below meth c A ls E hW hl
  obtain ⟨hx, hb, -, hml, hown, hts, -, -, -⟩ := id E
  have hF : FM kp L ms_X11_judge_w f0 f0 := FM.rf
  have hl : lv_has ls 3 [(0, .ref h0), (1, .int u1), (2, .int u2)] := hl
  obtain ⟨P, mP⟩ : ∃ x : Nat, oR (f0 h0) 1 = x := ⟨_, rfl⟩
  have rP : RK kp L P 0 := by rw [← mP]; exact th_ref hTH rh0 (by decide) (by decide) rfl
  obtain ⟨P0, mP0⟩ : ∃ x : Nat, oR (f0 P) 0 = x := ⟨_, rfl⟩
  have rP0 : RK kp L P0 4 := by rw [← mP0]; exact th_ref hTH rP (by decide) (by decide) rfl
  obtain ⟨P1, mP1⟩ : ∃ x : Nat, oR (f0 P) 1 = x := ⟨_, rfl⟩
  have rP1 : RK kp L P1 1 := by rw [← mP1]; exact th_ref hTH rP (by decide) (by decide) rfl
  obtain ⟨P5, mP5⟩ : ∃ x : Nat, oR (f0 P) 5 = x := ⟨_, rfl⟩
  have rP5 : RK kp L P5 3 := by rw [← mP5]; exact th_ref hTH rP (by decide) (by decide) rfl
  refine lv_aload_n hx hb dX11_judge_0 rfl (lv_at hl 0 rfl) ?_
  refine lv_iload_n hx hb dX11_judge_1 rfl (lv_at hl 2 rfl) ?_
  have hW0 := hW.2.2.2
  refine t_callV (As := [.int u2]) (rest := []) E hW (c_X11_canChoose l G cI cJ cZ cD cR cT kp L f0 hW.2.2.2 _ h0 u2 rh0) rh0 (by decide) rfl wk_X11_canChoose tw_1272 rfl ⟨Nat.le_of_ble_eq_true rfl, Nat.le_of_ble_eq_true rfl⟩ ⟨rfl, rfl⟩ hl.1 rfl (Nat.le_of_ble_eq_true rfl) dX11_judge_2 ⟨Nat.le_of_ble_eq_true rfl, Nat.le_of_ble_eq_true rfl⟩ (fun v1 f2 H locs q3 hW => ?_)
  obtain ⟨⟨x5, rfl, p6⟩, g4⟩ := q3
  have z7 : WT kp L [P, P0, P1, P5] f0 f2 := wt_fm (wt_rf : WT kp L [P, P0, P1, P5] f0 f0) g4 rfl
  have hF := FM.tr hF g4 rfl
  refine q_if_eq (tgt := 24) hx hb dX11_judge_5 (by decide) rfl (fun c8 => ?_) (fun c8 => ?_)
  · refine lv_iconst (v := (-1)) hx hb dX11_judge_24 (by decide) ?_
    exact e_I E hW rfl ⟨⟨_, rfl, (by have hk : ((-1) : Int32).toInt = -1 := rfl; first | decide | omega)⟩, hF, (by rw [mP, mP0, mP1, mP5]; exact z7)⟩ dX11_judge_25
  · refine lv_iload_n hx hb dX11_judge_8 rfl (lv_at hl 1 rfl) ?_
    refine lv_iconst (v := 0) hx hb dX11_judge_9 (by decide) ?_
    refine lv_iconst (v := 1) hx hb dX11_judge_10 (by decide) ?_
    refine lv_aload_n hx hb dX11_judge_11 rfl (lv_at hl 0 rfl) ?_
    refine fg_RX11_309 E hW rh0 dX11_judge_12 (fun y9 m10 b11 => ?_)
    refine u_ishl hx hb dX11_judge_15 (fun x12 => ?_)
    refine lv_iconst (v := 1) hx hb dX11_judge_16 (by decide) ?_
    refine u_isub hx hb dX11_judge_17 (fun x13 => ?_)
    have hW0 := hW.2.2.2
    refine t_callS (As := [.int u1, .int 0, .int x13]) (rest := []) E hW (c_X11_within l G cI cJ cZ cD cR cT kp L f2 hW.2.2.2 _ u1 0 x13 (by decide)) wk_X11_within tw_599 rfl ⟨Nat.le_of_ble_eq_true rfl, Nat.le_of_ble_eq_true rfl⟩ ⟨rfl, rfl⟩ hl.1 rfl (Nat.le_of_ble_eq_true rfl) dX11_judge_18 ⟨Nat.le_of_ble_eq_true rfl, Nat.le_of_ble_eq_true rfl⟩ (fun v14 f15 H locs q16 hW => ?_)
    obtain ⟨⟨x18, rfl, p19⟩, g17⟩ := q16
    have p19 : (x18.toInt = 1 ∧ (0 : Int) ≤ u1.toInt ∧ u1.toInt ≤ x13.toInt) ∨ (x18.toInt = 0 ∧ (u1.toInt < (0 : Int) ∨ x13.toInt < u1.toInt)) := p19
    have z20 : WT kp L [P, P0, P1, P5] f0 f15 := wt_fm z7 g17 rfl
    have hF := FM.tr hF g17 rfl
    refine q_if_ne (tgt := 26) hx hb dX11_judge_21 (by decide) rfl (fun c21 => ?_) (fun c21 => ?_)
    · have q22 : (0 : Int) ≤ u1.toInt ∧ u1.toInt ≤ x13.toInt := by omega
      clear p19
      refine lv_aload_n hx hb dX11_judge_26 rfl (lv_at hl 0 rfl) ?_
      refine lv_iload_n hx hb dX11_judge_27 rfl (lv_at hl 1 rfl) ?_
      refine lv_iload_n hx hb dX11_judge_28 rfl (lv_at hl 2 rfl) ?_
      refine lv_bipush (v := 41) hx hb dX11_judge_29 (by decide) ?_
      have hW0 := hW.2.2.2
      refine t_callV (As := [.int u1, .int u2, .int 41]) (rest := []) E hW (c_X11_worstOf_w l G cI cJ cZ cD cR cT kp L f15 hW.2.2.2 _ h0 u1 u2 41 rh0) rh0 (by decide) rfl wk_X11_worstOf tw_1281 rfl ⟨Nat.le_of_ble_eq_true rfl, Nat.le_of_ble_eq_true rfl⟩ ⟨rfl, rfl⟩ hl.1 rfl (Nat.le_of_ble_eq_true rfl) dX11_judge_31 ⟨Nat.le_of_ble_eq_true rfl, Nat.le_of_ble_eq_true rfl⟩ (fun v23 f24 H locs q25 hW => ?_)
      obtain ⟨⟨x28, rfl, p29⟩, g26, h27⟩ := q25
      have p29 : (0 : Int) ≤ x28.toInt := p29
      have hF := FM.tr hF g26 rfl
      have z31 : WT kp L [P, P0, P1, P5] f0 f24 := wt_call z20 h27 (by rw [((fm_R g17 rh0 rfl).trans ((fm_R g4 rh0 rfl).trans mP)), ((fm_R g17 rP rfl).trans ((fm_R g4 rP rfl).trans mP0)), ((fm_R g17 rP rfl).trans ((fm_R g4 rP rfl).trans mP1)), ((fm_R g17 rP rfl).trans ((fm_R g4 rP rfl).trans mP5))]; intro q h; simp only [List.mem_cons, List.not_mem_nil, or_false] at h ⊢; omega)
      exact e_I E hW rfl ⟨⟨_, rfl, (by first | omega | trivial)⟩, hF, (by rw [mP, mP0, mP1, mP5]; exact z31)⟩ dX11_judge_34
    · have q32 : (u1.toInt < (0 : Int) ∨ x13.toInt < u1.toInt) := by omega
      clear p19
      refine lv_iconst (v := (-1)) hx hb dX11_judge_24 (by decide) ?_
      exact e_I E hW rfl ⟨⟨_, rfl, (by have hk : ((-1) : Int32).toInt = -1 := rfl; first | decide | omega)⟩, hF, (by rw [mP, mP0, mP1, mP5]; exact z20)⟩ dX11_judge_25
