/-! whole copies of the row -/
/-- the places b .. b + n - 1 of g1 are the places a .. of g -/
def CP (g g1 : Nat → Int32) (a b n : Int) : Prop := ∀ j : Int, 0 ≤ j → j < n → g1 (b + j).toNat = g (a + j).toNat
section CP
variable {g g1 g2 : Nat → Int32} {a b n n1 : Int} {di si i x y k : Int32}
theorem cp_0 : CP g g1 a b 0 := fun j h1 h2 => by omega
theorem cp_le (h : CP g g1 a b n) (hn : n1 ≤ n) : CP g g1 a b n1 := fun j h1 h2 => h j h1 (by omega)
theorem cp_st (h : CP g g1 a b n) (e : g2 = upd g1 di.toNatClampNeg x) (m : g si.toNatClampNeg = x) (hd : di.toInt = b + n) (hs : si.toInt = a + n) (h0 : 0 ≤ a ∧ 0 ≤ b ∧ 0 ≤ n) (hn : n1 = n + 1) : CP g g2 a b n1 := fun j h1 h2 => by
  have z1 := tnc (i := di) (by omega)
  have z2 := tnc (i := si) (by omega)
  rw [e]
  by_cases hj : j = n
  · subst hj
    have e1 : (b + j).toNat = di.toNatClampNeg := by omega
    have e2 : (a + j).toNat = si.toNatClampNeg := by omega
    rw [e1, e2, up_s, m]
  · rw [up_n (by omega)]
    exact h j h1 (by omega)
theorem cp_fr (h : ∀ j : Nat, ((j : Int) < b ∨ b + 35942 ≤ (j : Int)) → g1 j = g j) (e : g2 = upd g1 di.toNatClampNeg x) (hd : b ≤ di.toInt ∧ di.toInt < b + 35942 ∧ 0 ≤ b) : ∀ j : Nat, ((j : Int) < b ∨ b + 35942 ≤ (j : Int)) → g2 j = g j := fun j hj => by
  have z1 := tnc (i := di) (by omega)
  rw [e, up_n (by omega)]
  exact h j hj
theorem rr_up2 (h : RowInv g) (h0 : 0 ≤ i.toInt) (hv : rbI i.toInt x.toInt) : RowInv (upd g i.toNatClampNeg x) := by
  refine ⟨fun j => ?_, trivial⟩
  by_cases hj : j = i.toNatClampNeg
  · subst hj
    rw [up_s, tnc h0]
    exact hv
  · rw [up_n hj]
    exact h.1 j
theorem rb_free {j v : Int} (h : 1044 ≤ j) : rbI j v := by unfold rbI; omega
theorem img_at (h : ImgInv g) (m : g si.toNatClampNeg = y) (hk : k.toInt = 0 ∨ k.toInt = 1) (hi : 0 ≤ i.toInt ∧ i.toInt < 35942) (hs : si.toInt = 35942 * k.toInt + i.toInt) : rbI i.toInt y.toInt := by
  have z := tnc (i := si) (by omega)
  rcases hk with hk | hk
  · have w := h.1.1 si.toNatClampNeg
    rw [m, z] at w
    rw [hs, hk] at w
    simpa using w
  · have w := h.2.1 i.toInt.toNat
    have e : 35942 + i.toInt.toNat = si.toNatClampNeg := by omega
    simp only [e, m] at w
    have e2 : ((i.toInt.toNat : Nat) : Int) = i.toInt := by omega
    rw [e2] at w
    exact w
theorem img_up (h : ImgInv g) (hk : k.toInt = 0 ∨ k.toInt = 1) (hi : 0 ≤ i.toInt ∧ i.toInt < 35942) (hs : di.toInt = 35942 * k.toInt + i.toInt) (hv : rbI i.toInt x.toInt) : ImgInv (upd g di.toNatClampNeg x) := by
  have z := tnc (i := di) (by omega)
  rcases hk with hk | hk
  · refine ⟨rr_up2 h.1 (by omega) (by rw [show di.toInt = i.toInt by omega]; exact hv), ⟨fun j => ?_, trivial⟩⟩
    show rbI j (upd g di.toNatClampNeg x (35942 + j)).toInt
    rw [up_n (by omega)]
    exact h.2.1 j
  · refine ⟨rr_up2 h.1 (by omega) (rb_free (by omega)), ⟨fun j => ?_, trivial⟩⟩
    show rbI j (upd g di.toNatClampNeg x (35942 + j)).toInt
    by_cases hj : 35942 + j = di.toNatClampNeg
    · rw [hj, up_s]
      have e : (j : Int) = i.toInt := by omega
      rw [e]
      exact hv
    · rw [up_n hj]
      exact h.2.1 j
/-- the row's texts out of a copy -/
theorem tx_cp {r : Nat → Int32} (h : TX (fun j => g ((a : Int) + (j : Int)).toNat)) (hc : CP g g1 a b 35942) (h3 : (g (a + 3).toNat).toInt ≤ 20) : TX (fun j => g1 ((b : Int) + (j : Int)).toNat) := by
  have hb : ∀ j : Int, 0 ≤ j → j < 35942 → g1 (b + ((j.toNat : Nat) : Int)).toNat = g (a + ((j.toNat : Nat) : Int)).toNat := fun j h1 h2 => by
    have e : ((j.toNat : Nat) : Int) = j := by omega
    rw [e]
    exact hc j h1 h2
  have e3 : g1 (b + ((3 : Nat) : Int)).toNat = g (a + ((3 : Nat) : Int)).toNat := hc 3 (by omega) (by omega)
  intro t ht ht3
  have ht20 : t < 20 := by
    have ht3' : t < (g1 (b + ((3 : Nat) : Int)).toNat).toInt := ht3
    rw [e3] at ht3'
    have : (g (a + ((3 : Nat) : Int)).toNat).toInt ≤ 20 := h3
    omega
  have ht4 : t < ((fun j => g ((a : Int) + (j : Int)).toNat) 3).toInt := by
    show t < (g (a + ((3 : Nat) : Int)).toNat).toInt
    rw [← e3]
    exact ht3
  obtain ⟨z1, z2⟩ := h t ht ht4
  have hs : ∀ a1 e1 : Int, Seg (fun j => g ((a : Int) + (j : Int)).toNat) t a1 e1 → Seg (fun j => g1 ((b : Int) + (j : Int)).toNat) t a1 e1 := fun a1 e1 ⟨q1, q2, d, q3, q4⟩ => ⟨q1, q2, d, q3, fun k hk1 hk2 => by
    have z := q4 k hk1 hk2
    simp only [hb _ (show (0 : Int) ≤ 18080 + 898 * t + 2 * k by omega) (by omega), hb _ (show (0 : Int) ≤ 18081 + 898 * t + 2 * k by omega) (by omega)]
    exact z⟩
  unfold TXo
  simp only [hb _ (show (0 : Int) ≤ 17983 + 898 * t by omega) (by omega)] at z1 z2 ⊢
  refine ⟨z1, fun c hc0 hcn => ?_⟩
  obtain ⟨w1, w2, w3⟩ := z2 c hc0 hcn
  simp only [hb _ (show (0 : Int) ≤ 17984 + 898 * t + 8 * c by omega) (by omega), hb _ (show (0 : Int) ≤ 17985 + 898 * t + 8 * c by omega) (by omega), hb _ (show (0 : Int) ≤ 17986 + 898 * t + 8 * c by omega) (by omega), hb _ (show (0 : Int) ≤ 17987 + 898 * t + 8 * c by omega) (by omega), hb _ (show (0 : Int) ≤ 17988 + 898 * t + 8 * c by omega) (by omega), hb _ (show (0 : Int) ≤ 17989 + 898 * t + 8 * c by omega) (by omega), hb _ (show (0 : Int) ≤ 17990 + 898 * t + 8 * c by omega) (by omega)]
  exact ⟨w1, hs _ _ w2, hs _ _ w3⟩
end CP
theorem th_row {cI cJ cZ cD cR cT : ClassId} {kp : Nat → Nat} {L : List Nat} {f : Nat → va_E} {a : Nat} (h : TH cI cJ cZ cD cR cT kp L f) (hr : RK kp L a 822) : RowInv (aI (f a)) := by
  have h2 := th_arr h hr (by decide)
  unfold okA at h2
  obtain ⟨n, g, e1, -, e3⟩ := h2
  rw [(aI_of e1).1]
  exact e3
theorem th_img {cI cJ cZ cD cR cT : ClassId} {kp : Nat → Nat} {L : List Nat} {f : Nat → va_E} {a : Nat} (h : TH cI cJ cZ cD cR cT kp L f) (hr : RK kp L a 823) : ImgInv (aI (f a)) := by
  have h2 := th_arr h hr (by decide)
  unfold okA at h2
  obtain ⟨n, g, e1, -, e3⟩ := h2
  rw [(aI_of e1).1]
  exact e3
theorem th_paper {cI cJ cZ cD cR cT : ClassId} {kp : Nat → Nat} {L : List Nat} {f : Nat → va_E} {a : Nat} (h : TH cI cJ cZ cD cR cT kp L f) (hr : RK kp L a 824) : RowInv (aI (f a)) := by
  have h2 := th_arr h hr (by decide)
  unfold okA at h2
  obtain ⟨n, g, e1, -, e3⟩ := h2
  rw [(aI_of e1).1]
  exact e3
theorem row_same {ms : List (Nat × Nat)} {f0 f1 : Nat → va_E} {r a : Nat} {p : Nat → Int32} (e : oR (f0 r) 2 = a) (h2 : CP p (aI (f1 a)) 0 0 35942) (hR : RF ms f0 f1 r) (h1 : CP (aI (f0 a)) p 0 0 35942) (hm : ms.all (fun q => decide (q.2 < 35942)) = true) : aI (f1 a) = aI (f0 a) := by
  funext j
  by_cases hj : j < 35942
  · have z1 := h1 (j : Int) (by omega) (by omega)
    have z2 := h2 (j : Int) (by omega) (by omega)
    have e2 : ((0 : Int) + (j : Int)).toNat = j := by omega
    rw [e2] at z1 z2
    exact z2.trans z1
  · have z : rwOut ms j = true := by
      unfold rwOut
      refine List.all_eq_true.mpr (fun q hq => ?_)
      have z2 := List.all_eq_true.mp hm q hq
      simp only [Bool.or_eq_true, decide_eq_true_eq] at z2 ⊢
      omega
    have z3 := hR j z
    rw [e] at z3
    exact z3
