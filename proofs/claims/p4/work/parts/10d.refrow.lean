/-! the reference's row: what a place of it keeps -/
section RROW
variable {g : Nat → Int32} {i y x : Int32}
theorem rr_at (h : RowInv g) (hm : g i.toNatClampNeg = y) (h0 : 0 ≤ i.toInt) : rbI i.toInt y.toInt := by
  have z := h.1 i.toNatClampNeg
  rw [tnc h0, hm] at z
  exact z
theorem rr_0 (h : RowInv g) (hm : g i.toNatClampNeg = y) (e : i.toInt = 0) : 0 ≤ y.toInt ∧ y.toInt ≤ 40 := (rr_at h hm (by omega)).1 e
theorem rr_1 (h : RowInv g) (hm : g i.toNatClampNeg = y) (e : i.toInt = 1) : 0 ≤ y.toInt ∧ y.toInt ≤ 8 := (rr_at h hm (by omega)).2.1 e
theorem rr_2 (h : RowInv g) (hm : g i.toNatClampNeg = y) (e : i.toInt = 2) : 0 ≤ y.toInt ∧ y.toInt ≤ 40 := (rr_at h hm (by omega)).2.2.1 e
theorem rr_3 (h : RowInv g) (hm : g i.toNatClampNeg = y) (e : i.toInt = 3) : 0 ≤ y.toInt ∧ y.toInt ≤ 20 := (rr_at h hm (by omega)).2.2.2.1 e
theorem rr_4 (h : RowInv g) (hm : g i.toNatClampNeg = y) (e : i.toInt = 4) : 0 ≤ y.toInt ∧ y.toInt ≤ 60 := (rr_at h hm (by omega)).2.2.2.2.1 e
theorem rr_6 (h : RowInv g) (hm : g i.toNatClampNeg = y) (e : i.toInt = 6) : 0 ≤ y.toInt ∧ y.toInt ≤ 9 := (rr_at h hm (by omega)).2.2.2.2.2.1 e
theorem rr_7 (h : RowInv g) (hm : g i.toNatClampNeg = y) (e : i.toInt = 7) : 0 ≤ y.toInt ∧ y.toInt ≤ 40 := (rr_at h hm (by omega)).2.2.2.2.2.2.1 e
theorem rr_8 (h : RowInv g) (hm : g i.toNatClampNeg = y) (e : i.toInt = 8) : 0 ≤ y.toInt ∧ y.toInt ≤ 399 := (rr_at h hm (by omega)).2.2.2.2.2.2.2.1 e
theorem rr_heed (h : RowInv g) (hm : g i.toNatClampNeg = y) (e : 20 ≤ i.toInt ∧ i.toInt ≤ 339 ∧ (i.toInt - 20) % 8 = 3) : (-1 : Int) ≤ y.toInt ∧ y.toInt ≤ 39 := (rr_at h hm (by omega)).2.2.2.2.2.2.2.2.1 e.1 e.2.1 e.2.2
theorem rr_fest (h : RowInv g) (hm : g i.toNatClampNeg = y) (e : 364 ≤ i.toInt ∧ i.toInt ≤ 683 ∧ (i.toInt - 364) % 8 = 0) : (0 : Int) ≤ y.toInt ∧ y.toInt ≤ 7 := (rr_at h hm (by omega)).2.2.2.2.2.2.2.2.2.1 e.1 e.2.1 e.2.2
theorem rr_fhol (h : RowInv g) (hm : g i.toNatClampNeg = y) (e : 364 ≤ i.toInt ∧ i.toInt ≤ 683 ∧ (i.toInt - 364) % 8 = 3) : (-1 : Int) ≤ y.toInt ∧ y.toInt ≤ 39 := (rr_at h hm (by omega)).2.2.2.2.2.2.2.2.2.2.1 e.1 e.2.1 e.2.2
theorem rr_wfld (h : RowInv g) (hm : g i.toNatClampNeg = y) (e : 684 ≤ i.toInt ∧ i.toInt ≤ 1043 ∧ (i.toInt - 684) % 6 = 0) : (0 : Int) ≤ y.toInt ∧ y.toInt ≤ 39 := (rr_at h hm (by omega)).2.2.2.2.2.2.2.2.2.2.2 e.1 e.2.1 e.2.2
/-- a write ahead of the texts, and not of how many they are -/
theorem rr_up (h : RowInv g) (h0 : 0 ≤ i.toInt ∧ i.toInt < 17982) (h3 : ¬ i.toInt = 3) (hv : rbI i.toInt x.toInt) : RowInv (upd g i.toNatClampNeg x) := by
  refine ⟨fun j => ?_, trivial⟩
  by_cases hj : j = i.toNatClampNeg
  · subst hj
    rw [up_s, tnc h0.1]
    exact hv
  · rw [up_n hj]
    exact h.1 j
end RROW
