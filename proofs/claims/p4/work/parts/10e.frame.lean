/-! the row's frame: since f0 it is as it was but for the places in ms -/
def rwOut (ms : List (Nat × Nat)) (j : Nat) : Bool := ms.all (fun q => decide (j < q.1) || decide (q.2 < j))
def rwIn (m1 ms : List (Nat × Nat)) : Bool := m1.all (fun q => ms.any (fun p => decide (p.1 ≤ q.1) && decide (q.2 ≤ p.2)))
def RF (ms : List (Nat × Nat)) (f0 f : Nat → va_E) (r : Nat) : Prop := ∀ j : Nat, rwOut ms j = true → aI (f (oR (f0 r) 2)) j = aI (f0 (oR (f0 r) 2)) j
section FR
variable {cI cJ cZ cD cR cT : ClassId} {kp : Nat → Nat} {L : List Nat} {f0 f f1 : Nat → va_E} {ms m1 M : List (Nat × Nat)} {r a : Nat}
theorem rwIn_out (hs : rwIn m1 ms = true) {j : Nat} (h : rwOut ms j = true) : rwOut m1 j = true := by
  unfold rwOut at h ⊢
  unfold rwIn at hs
  refine List.all_eq_true.mpr (fun q hq => ?_)
  have h1 := List.all_eq_true.mp hs q hq
  obtain ⟨p, hp, h2⟩ := List.any_eq_true.mp h1
  have h3 := List.all_eq_true.mp h p hp
  simp only [Bool.and_eq_true, Bool.or_eq_true, decide_eq_true_eq] at h2 h3 ⊢
  omega
theorem rf_rf : RF ms f0 f0 r := fun _ _ => rfl
theorem rf_fm (hTH : TH cI cJ cZ cD cR cT kp L f0) (h : RF ms f0 f r) (g : FM kp L m1 f f1) (hr : RK kp L r 12) (hc : m1.contains (822, 0) = false) : RF ms f0 f1 r := fun j hj => by
  have rt : RK kp L (oR (f0 r) 2) 822 := th_ref hTH hr (by decide) (by decide) rfl
  rw [fm_A g rt (by decide) hc]
  exact h j hj
theorem rf_call (h : RF ms f0 f r) (g : RF m1 f f1 r) (e0 : oR (f0 r) 2 = a) (e1 : oR (f r) 2 = a) (hs : rwIn m1 ms = true) : RF ms f0 f1 r := fun j hj => by
  have z := g j (rwIn_out hs hj)
  have z2 := h j hj
  rw [e1] at z
  rw [e0] at z2 ⊢
  exact z.trans z2
theorem rf_st {i x : Int32} {lo hi : Nat} (h : RF ms f0 f r) (e0 : oR (f0 r) 2 = a) (e : aI (f1 a) = upd (aI (f a)) i.toNatClampNeg x) (hin : (lo : Int) ≤ i.toInt ∧ i.toInt ≤ (hi : Int)) (hs : rwIn [(lo, hi)] ms = true) : RF ms f0 f1 r := fun j hj => by
  have z2 := h j hj
  have z3 := rwIn_out hs hj
  rw [e0] at z2 ⊢
  simp only [rwOut, List.all_cons, List.all_nil, Bool.and_true, Bool.or_eq_true, decide_eq_true_eq] at z3
  have z4 := tnc (i := i) (by omega)
  rw [e, up_n (by omega)]
  exact z2
theorem rf_get (h : RF m1 f f1 r) (e1 : oR (f r) 2 = a) (j : Nat) (hj : rwOut m1 j = true) : aI (f1 a) j = aI (f a) j := by
  have z := h j hj
  rw [e1] at z
  exact z
end FR
