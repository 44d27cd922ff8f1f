/-! what is kept of texts: a clause lies within its instructions -/
section TEXTS
variable {G : va_G} {A : Nat → Prop} {cI cJ cZ cD cR cT : ClassId} {kp : Nat → Nat} {L : List Nat} {f : Nat → va_E} {s : State} {H : Heap} {locs : List Loc} {t a7 a8 : Nat} {i c y : Int32}
theorem si_start (hW : WS G cI cJ cZ cD cR cT A kp L f s H locs) (hr : RK kp L t 9) (hm : oR (f t) 6 = a7) (hc : 0 ≤ c.toInt ∧ c.toInt < (oI (f t) 1).toInt) (hy : aI (f a7) c.toNatClampNeg = y) : 0 ≤ y.toInt := by
  have h := ((hW.2.2.2.2 t hr).2 c.toNatClampNeg (by rw [tnc hc.1]; exact hc.2)).1
  rw [hm, hy] at h
  exact h
theorem si_stop (hW : WS G cI cJ cZ cD cR cT A kp L f s H locs) (hr : RK kp L t 9) (hm : oR (f t) 7 = a7) (hc : 0 ≤ c.toInt ∧ c.toInt < (oI (f t) 1).toInt) (hy : aI (f a7) c.toNatClampNeg = y) : y.toInt ≤ ((aN (f (oR (f t) 8)) : Nat) : Int) := by
  have h := ((hW.2.2.2.2 t hr).2 c.toNatClampNeg (by rw [tnc hc.1]; exact hc.2)).2
  rw [hm, hy] at h
  exact h
theorem ix_op (hW : WS G cI cJ cZ cD cR cT A kp L f s H locs) (hr : RK kp L t 9) (h7 : oR (f t) 7 = a7) (h8 : oR (f t) 8 = a8) (hc : 0 ≤ c.toInt ∧ c.toInt < (oI (f t) 1).toInt) (hy : aI (f a7) c.toNatClampNeg = y) (h0 : 0 ≤ i.toInt) (h1 : i.toInt < y.toInt) : 0 ≤ i.toInt ∧ i.toInt < ((aN (f a8) : Nat) : Int) := by
  have h := si_stop hW hr h7 hc hy
  rw [h8] at h
  omega
theorem ix_arg (hW : WS G cI cJ cZ cD cR cT A kp L f s H locs) (hr : RK kp L t 9) (h7 : oR (f t) 7 = a7) (h8 : oR (f t) 9 = a8) (hc : 0 ≤ c.toInt ∧ c.toInt < (oI (f t) 1).toInt) (hy : aI (f a7) c.toNatClampNeg = y) (h0 : 0 ≤ i.toInt) (h1 : i.toInt < y.toInt) : 0 ≤ i.toInt ∧ i.toInt < ((aN (f a8) : Nat) : Int) := by
  have h := si_stop hW hr h7 hc hy
  rw [(hW.2.2.2.2 t hr).1, h8] at h
  omega
end TEXTS
section TEXTS2
variable {cI cJ cZ cD cR cT : ClassId} {kp : Nat → Nat} {L : List Nat} {f f0 : Nat → va_E} {ms : List (Nat × Nat)} {a ci k K cty law : Nat}
theorem th_ref (h : TH cI cJ cZ cD cR cT kp L f) (hr : RK kp L a ci) (hci : ci < 100) (hk : k < nF ci) (hft : fTab ci k = (2, K, 0, 0)) : RK kp L (oR (f a) k) K := by
  obtain ⟨fs, e1, e2, e3⟩ := th_obj h hr hci
  have h3 := e3 k hk
  rw [hft] at h3
  obtain ⟨y, e4, e5⟩ := h3
  have e6 : oR (f a) k = y := by unfold oR; rw [oVal_obj e1, e4]
  rw [e6]
  exact e5
theorem th_txt (h : TH cI cJ cZ cD cR cT kp L f) (hr : RK kp L a K) (hK : 100 ≤ K) (hT : aTag K = 5) {i T : Nat} (hq : aQ (f a) i = some T) : RK kp L T 9 := by
  have h2 := th_arr h hr hK
  unfold okA at h2
  rw [hT] at h2
  obtain ⟨n, g, e1, e2, e3⟩ := h2
  rw [(aQ_of e1).1] at hq
  exact e3 i T hq
theorem holds_tr (hTH : TH cI cJ cZ cD cR cT kp L f0) (hF : FM kp L ms f0 f) (rc : RK kp L cty 0) (h1 : ms.contains (0, 4) = false) (h2 : ms.contains (2, 1) = false) (h3 : ms.contains (221, 0) = false) (h4 : ms.contains (9, 1) = false) (m4 : oR (f0 cty) 4 = law) {i : Nat} {c : Int32} (h : ∀ T : Nat, aQ (f0 (oR (f0 law) 1)) i = some T → c.toInt < (oI (f0 T) 1).toInt) : ∀ T : Nat, aQ (f (oR (f (oR (f cty) 4)) 1)) i = some T → c.toInt < (oI (f T) 1).toInt := by
  intro T hT
  have rl : RK kp L law 2 := by rw [← m4]; exact th_ref hTH rc (by decide) (by decide) rfl
  have rt : RK kp L (oR (f0 law) 1) 221 := th_ref hTH rl (by decide) (by decide) rfl
  rw [fm_R hF rc h1, m4, fm_R hF rl h2, fm_A hF rt (by decide) h3] at hT
  have rT := th_txt hTH rt (by decide) rfl hT
  rw [fm_I hF rT h4]
  exact h T hT
theorem one_of {r : Int32} (h : r.toInt = 1) : some (Value.int r) = some (Value.int 1) := congrArg (fun z => some (Value.int z)) (Int32.toInt_inj.mp (h.trans rfl))
theorem not_one {P : Prop} (h : some (Value.int (0 : Int32)) = some (Value.int 1)) : P := absurd (congrArg (fun o : Option Value => match o with
  | some (.int x) => x.toInt
  | _ => 0) h) (by decide)
end TEXTS2

theorem th_iv {G : va_G} {A : Nat → Prop} {cI cJ cZ cD cR cT : ClassId} {kp : Nat → Nat} {L : List Nat} {f : Nat → va_E} {s : State} {H : Heap} {locs : List Loc} {a ci k : Nat} {lo hi : Int} (hW : WS G cI cJ cZ cD cR cT A kp L f s H locs) (hr : RK kp L a ci) (hci : ci < 100) (hk : k < nF ci) (hft : fTab ci k = (0, 0, lo, hi)) : lo ≤ (oI (f a) k).toInt ∧ (oI (f a) k).toInt ≤ hi := by
  obtain ⟨fs, e1, e2, e3⟩ := th_obj hW.2.2.2 hr hci
  have h3 := e3 k hk
  rw [hft] at h3
  obtain ⟨x, e4, e5⟩ := h3
  have : oI (f a) k = x := by unfold oI; rw [oVal_obj e1, e4]
  rw [this]
  exact e5
