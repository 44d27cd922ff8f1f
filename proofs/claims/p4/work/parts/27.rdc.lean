/-! the class's reader: the clauses that it has read lie within what it has written -/
def rdC (f : Nat → va_E) (r : Nat) : Prop := ∀ i : Nat, (i : Int) < (oI (f r) 1).toInt → 0 ≤ (aI (f (oR (f r) 6)) i).toInt ∧ (aI (f (oR (f r) 7)) i).toInt ≤ (oI (f r) 8).toInt
theorem rc_end {f0 f : Nat → va_E} {r : Nat} {c w w2 : Int32} (h : rdC f0 r) (eS : aI (f (oR (f r) 6)) = upd (aI (f0 (oR (f0 r) 6))) c.toNatClampNeg w) (eT : aI (f (oR (f r) 7)) = upd (aI (f0 (oR (f0 r) 7))) c.toNatClampNeg w2) (hc : oI (f0 r) 1 = c) (hc0 : 0 ≤ c.toInt) (hw : 0 ≤ w.toInt) (hw2 : oI (f r) 8 = w2) (hg : (oI (f0 r) 8).toInt ≤ (oI (f r) 8).toInt) (hn : (oI (f r) 1).toInt = c.toInt + 1) : rdC f r := fun i hi => by
  have z := tnc hc0
  rw [eS, eT]
  by_cases e : i = c.toNatClampNeg
  · subst e
    rw [up_s, up_s, hw2]
    exact ⟨hw, Int.le_refl _⟩
  · rw [up_n e, up_n e]
    have q := h i (by rw [hc]; omega)
    exact ⟨q.1, Int.le_trans q.2 hg⟩
theorem rc_keep {cI cJ cZ cD cR cT : ClassId} {kp : Nat → Nat} {L : List Nat} {f f1 : Nat → va_E} {ms : List (Nat × Nat)} {r : Nat} (h : rdC f r) (hTH : TH cI cJ cZ cD cR cT kp L f) (g : FM kp L ms f f1) (hr : RK kp L r 5) (h1 : ms.contains (5, 1) = false) (h2 : ms.contains (5, 6) = false) (h3 : ms.contains (5, 7) = false) (h4 : ms.contains (406, 0) = false) (h5 : ms.contains (407, 0) = false) (h8 : (oI (f r) 8).toInt ≤ (oI (f1 r) 8).toInt) : rdC f1 r := fun i hi => by
  rw [fm_I g hr h1] at hi
  rw [fm_R g hr h2, fm_R g hr h3, fm_A g (th_ref hTH hr (by decide) (by decide) (show fTab 5 6 = (2, 406, 0, 0) from rfl)) (by decide) h4, fm_A g (th_ref hTH hr (by decide) (by decide) (show fTab 5 7 = (2, 407, 0, 0) from rfl)) (by decide) h5]
  exact ⟨(h i hi).1, Int.le_trans (h i hi).2 h8⟩
