/-! what is kept of texts: a clause lies within its instructions -/
section TEXTS
variable {G : va_G} {A : Nat → Prop} {cI cJ cZ cD cR cT : ClassId} {kp : Nat → Nat} {L : List Nat} {f : Nat → va_E} {s : State} {H : Heap} {locs : List Loc} {t a7 a8 : Nat} {i c y : Int32}
theorem si_start (hW : WS G cI cJ cZ cD cR cT A kp L f s H locs) (hr : RK kp L t 9) (hm : oR (f t) 6 = a7) (hc : 0 ≤ c.toInt ∧ c.toInt < (oI (f t) 1).toInt) (hy : aI (f a7) c.toNatClampNeg = y) : 0 ≤ y.toInt := by
  have h := ((hW.2.2.2.2 t hr).2 c.toNatClampNeg (by rw [tnc hc.1]; exact hc.2)).1
  rw [hm, hy] at h
  exact h
theorem si_stop (hW : WS G cI cJ cZ cD cR cT A kp L f s H locs) (hr : RK kp L t 9) (hm : oR (f t) 7 = a7) (hc : 0 ≤ c.toInt ∧ c.toInt < (oI (f t) 1).toInt) (hy : aI (f a7) c.toNatClampNeg = y) : y.toInt ≤ ((aN (f (oR (f t) 8)) : Nat) : Int) := by
  have h := ((hW.2.2.2.2 t hr).2 c.toNatClampNeg (by rw [tnc hc.1]; exact hc.2)).2
  rw [hm, hy] at h
  exact h
theorem ix_op (hW : WS G cI cJ cZ cD cR cT A kp L f s H locs) (hr : RK kp L t 9) (h7 : oR (f t) 7 = a7) (h8 : oR (f t) 8 = a8) (hc : 0 ≤ c.toInt ∧ c.toInt < (oI (f t) 1).toInt) (hy : aI (f a7) c.toNatClampNeg = y) (h0 : 0 ≤ i.toInt) (h1 : i.toInt < y.toInt) : 0 ≤ i.toInt ∧ i.toInt < ((aN (f a8) : Nat) : Int) := by
  have h := si_stop hW hr h7 hc hy
  rw [h8] at h
  omega
theorem ix_arg (hW : WS G cI cJ cZ cD cR cT A kp L f s H locs) (hr : RK kp L t 9) (h7 : oR (f t) 7 = a7) (h8 : oR (f t) 9 = a8) (hc : 0 ≤ c.toInt ∧ c.toInt < (oI (f t) 1).toInt) (hy : aI (f a7) c.toNatClampNeg = y) (h0 : 0 ≤ i.toInt) (h1 : i.toInt < y.toInt) : 0 ≤ i.toInt ∧ i.toInt < ((aN (f a8) : Nat) : Int) := by
  have h := si_stop hW hr h7 hc hy
  rw [(hW.2.2.2.2 t hr).1, h8] at h
  omega
end TEXTS
