/-! the reader's state while it reads: it stands within its tokens, the last of which is END -/
def rdI (f : Nat → va_E) (r : Nat) : Prop := (oI (f r) 15).toInt ≤ (oI (f r) 11).toInt ∧ aI (f (oR (f r) 12)) (oI (f r) 11).toNatClampNeg = 302
/-- since f0 no instruction was taken back -/
def rdJ (f0 f : Nat → va_E) (r : Nat) : Prop := rdI f r ∧ (oI (f0 r) 8).toInt ≤ (oI (f r) 8).toInt
section RD
variable {cI cJ cZ cD cR cT : ClassId} {kp : Nat → Nat} {L : List Nat} {f0 f f1 : Nat → va_E} {ms : List (Nat × Nat)} {r t : Nat} {a y v : Int32}
theorem rj_0 (h : rdI f0 r) : rdJ f0 f0 r := ⟨h, Int.le_refl _⟩
theorem ri_fm (hTH : TH cI cJ cZ cD cR cT kp L f) (h : rdI f r) (g : FM kp L ms f f1) (hr : RK kp L r 5) (h1 : ms.contains (5, 15) = false) (h2 : ms.contains (5, 11) = false) (h3 : ms.contains (5, 12) = false) (h4 : ms.contains (412, 0) = false) : rdI f1 r := by
  have rt : RK kp L (oR (f r) 12) 412 := th_ref hTH hr (by decide) (by decide) rfl
  unfold rdI
  rw [fm_I g hr h1, fm_I g hr h2, fm_R g hr h3, fm_A g rt (by decide) h4]
  exact h
theorem rj_fm (hTH : TH cI cJ cZ cD cR cT kp L f) (h : rdJ f0 f r) (g : FM kp L ms f f1) (hr : RK kp L r 5) (h1 : ms.contains (5, 15) = false) (h2 : ms.contains (5, 11) = false) (h3 : ms.contains (5, 12) = false) (h4 : ms.contains (412, 0) = false) (h5 : ms.contains (5, 8) = false) : rdJ f0 f1 r :=
  ⟨ri_fm hTH h.1 g hr h1 h2 h3 h4, by rw [fm_I g hr h5]; exact h.2⟩
/-- a call that keeps it -/
theorem rj_call (h : rdJ f0 f r) (g : rdJ f f1 r) : rdJ f0 f1 r := ⟨g.1, Int.le_trans h.2 g.2⟩
/-- one more instruction -/
theorem rj_w (hTH : TH cI cJ cZ cD cR cT kp L f) (h : rdJ f0 f r) (g : FM kp L [(5, 8)] f f1) (hr : RK kp L r 5) (hm : oI (f r) 8 = a) (he : oI (f1 r) 8 = v) (hv : a.toInt ≤ v.toInt) : rdJ f0 f1 r :=
  ⟨ri_fm hTH h.1 g hr rfl rfl rfl rfl, by have z := h.2; rw [hm] at z; rw [he]; omega⟩
/-- a token that isn't END is followed by another -/
theorem ri_lt (h : rdI f r) (m15 : oI (f r) 15 = a) (m12 : oR (f r) 12 = t) (my : aI (f t) a.toNatClampNeg = y) (hne : ¬ y.toInt = 302) : a.toInt < (oI (f r) 11).toInt := by
  have h1 := h.1
  rw [m15] at h1
  rcases (by omega : a.toInt < (oI (f r) 11).toInt ∨ a.toInt = (oI (f r) 11).toInt) with z | z
  · exact z
  · have h2 := h.2
    rw [m12, ← Int32.toInt_inj.mp z, my] at h2
    exact absurd (congrArg Int32.toInt h2) (fun q => hne (q.trans rfl))
/-- and then "at" is one more -/
theorem rj_at (hTH : TH cI cJ cZ cD cR cT kp L f) (h : rdJ f0 f r) (g : FM kp L [(5, 15)] f f1) (hr : RK kp L r 5) (he : oI (f1 r) 15 = v) (hv : v.toInt ≤ (oI (f r) 11).toInt) : rdJ f0 f1 r := by
  have rt : RK kp L (oR (f r) 12) 412 := th_ref hTH hr (by decide) (by decide) rfl
  refine ⟨⟨?_, ?_⟩, by rw [fm_I g hr rfl]; exact h.2⟩
  · rw [he, fm_I g hr rfl]; exact hv
  · rw [fm_I g hr rfl, fm_R g hr rfl, fm_A g rt (by decide) rfl]; exact h.1.2
theorem tok_le {G : va_G} {A : Nat → Prop} {s : State} {H : Heap} {locs : List Loc} (hW : WS G cI cJ cZ cD cR cT A kp L f s H locs) (hr : RK kp L r 5) : 0 ≤ (oI (f r) 11).toInt ∧ (oI (f r) 11).toInt ≤ 400 := by
  obtain ⟨fs, e1, e2, e3⟩ := th_obj hW.2.2.2 hr (by decide)
  obtain ⟨x, e4, e5, e6⟩ := e3 11 (by decide)
  have : oI (f r) 11 = x := by unfold oI; rw [oVal_obj e1, e4]
  rw [this]
  exact ⟨e5, e6⟩
end RD
