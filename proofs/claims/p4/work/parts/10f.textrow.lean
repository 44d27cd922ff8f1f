/-! the texts that the reference's row holds: an instruction never takes more than there is -/
/-- k its place, e where the segment ends, d how much lies on the stack at least, ahead of each place -/
def opI (d : Int → Int) (e k op arg : Int) : Prop :=
  (0 ≤ op ∧ op ≤ 15 ∧ d (k + 1) ≤ d k + 1) ∨ (20 ≤ op ∧ op ≤ 26 ∧ 2 ≤ d k ∧ d (k + 1) ≤ d k - 1) ∨ (op = 27 ∧ 1 ≤ d k ∧ d (k + 1) ≤ d k) ∨ ((op = 28 ∨ op = 29) ∧ 1 ≤ d k ∧ d (k + 1) ≤ d k - 1 ∧ k < arg ∧ arg ≤ e ∧ d arg ≤ d k)
def Seg (g : Nat → Int32) (t a e : Int) : Prop := (0 ≤ a ∧ a ≤ 400) ∧ e ≤ 400 ∧ ∃ d : Int → Int, d a ≤ 0 ∧ ∀ k : Int, a ≤ k → k < e → opI d e k (g (18080 + 898 * t + 2 * k).toNat).toInt (g (18081 + 898 * t + 2 * k).toNat).toInt
/-- text t: its clauses are no more than 12; a "strike" names a text and a clause that can be; what a clause asks are segments -/
def TXo (g : Nat → Int32) (t : Int) : Prop :=
  (0 ≤ (g (17983 + 898 * t).toNat).toInt ∧ (g (17983 + 898 * t).toNat).toInt ≤ 12) ∧ ∀ c : Int, 0 ≤ c → c < (g (17983 + 898 * t).toNat).toInt →
    ((g (17984 + 898 * t + 8 * c).toNat).toInt = 0 → (0 ≤ (g (17985 + 898 * t + 8 * c).toNat).toInt ∧ (g (17985 + 898 * t + 8 * c).toNat).toInt ≤ 19) ∧ 0 ≤ (g (17986 + 898 * t + 8 * c).toNat).toInt ∧ (g (17986 + 898 * t + 8 * c).toNat).toInt ≤ 11)
    ∧ Seg g t (g (17987 + 898 * t + 8 * c).toNat).toInt (g (17988 + 898 * t + 8 * c).toNat).toInt
    ∧ Seg g t (g (17989 + 898 * t + 8 * c).toNat).toInt (g (17990 + 898 * t + 8 * c).toNat).toInt
def TX (g : Nat → Int32) : Prop := ∀ t : Int, 0 ≤ t → t < (g 3).toInt → TXo g t
section TX
variable {g g1 : Nat → Int32} {t c i i0 n y y0 a e : Int32} {kp : Nat → Nat} {L : List Nat}
theorem at_i {j : Int} (m : g i.toNatClampNeg = y) (h0 : 0 ≤ i.toInt) (e : j = i.toInt) : g j.toNat = y := by
  have h := tnc h0
  have e2 : j.toNat = i.toNatClampNeg := by omega
  rw [e2]
  exact m
theorem tx_n (h : TX g) (ht : 0 ≤ t.toInt) (h3 : t.toInt < (g 3).toInt) (m : g i.toNatClampNeg = y) (hi : i.toInt = 17983 + 898 * t.toInt) : 0 ≤ y.toInt ∧ y.toInt ≤ 12 := by
  have z := (h t.toInt ht h3).1
  rw [at_i (j := 17983 + 898 * t.toInt) m (by omega) hi.symm] at z
  exact z
theorem tx_s (h : TX g) (ht : 0 ≤ t.toInt) (h3 : t.toInt < (g 3).toInt) {j : Int32} (mn : g j.toNatClampNeg = n) (hj : j.toInt = 17983 + 898 * t.toInt) (hc : 0 ≤ c.toInt ∧ c.toInt < n.toInt) (m0 : g i0.toNatClampNeg = y0) (hi0 : i0.toInt = 17984 + 898 * t.toInt + 8 * c.toInt) (hy0 : y0.toInt = 0) (m : g i.toNatClampNeg = y) (hi : i.toInt = 17985 + 898 * t.toInt + 8 * c.toInt ∨ i.toInt = 17986 + 898 * t.toInt + 8 * c.toInt) : 0 ≤ y.toInt ∧ (i.toInt = 17985 + 898 * t.toInt + 8 * c.toInt → y.toInt ≤ 19) ∧ (i.toInt = 17986 + 898 * t.toInt + 8 * c.toInt → y.toInt ≤ 11) := by
  have z := (h t.toInt ht h3).2 c.toInt hc.1 (by rw [at_i mn (by omega) hj.symm]; exact hc.2)
  have z1 := z.1
  rw [at_i m0 (by omega) hi0.symm] at z1
  have z2 := z1 hy0
  rcases hi with hi | hi
  · rw [at_i (j := 17985 + 898 * t.toInt + 8 * c.toInt) m (by omega) hi.symm] at z2
    exact ⟨z2.1.1, fun _ => z2.1.2, fun q => by omega⟩
  · rw [at_i (j := 17986 + 898 * t.toInt + 8 * c.toInt) m (by omega) hi.symm] at z2
    exact ⟨z2.2.1, fun q => by omega, fun _ => z2.2.2⟩
theorem tx_g (h : TX g) (ht : 0 ≤ t.toInt) (h3 : t.toInt < (g 3).toInt) (hc : 0 ≤ c.toInt) (hn : c.toInt < (g (17983 + 898 * t.toInt).toNat).toInt) (ma : g i0.toNatClampNeg = a) (hi : i0.toInt = 17987 + 898 * t.toInt + 8 * c.toInt ∨ i0.toInt = 17989 + 898 * t.toInt + 8 * c.toInt) (me : g i.toNatClampNeg = e) (hi1 : i.toInt = i0.toInt + 1) : Seg g t.toInt a.toInt e.toInt := by
  have z := (h t.toInt ht h3).2 c.toInt hc hn
  rcases hi with hi | hi
  · have z1 := z.2.1
    rw [at_i (j := 17987 + 898 * t.toInt + 8 * c.toInt) ma (by omega) hi.symm, at_i (j := 17988 + 898 * t.toInt + 8 * c.toInt) me (by omega) (by omega)] at z1
    exact z1
  · have z1 := z.2.2
    rw [at_i (j := 17989 + 898 * t.toInt + 8 * c.toInt) ma (by omega) hi.symm, at_i (j := 17990 + 898 * t.toInt + 8 * c.toInt) me (by omega) (by omega)] at z1
    exact z1
/-- an instruction of a segment -/
theorem seg_at {d : Int → Int} {T A E : Int} {k op arg : Int32} (hd : ∀ k : Int, A ≤ k → k < E → opI d E k (g (18080 + 898 * T + 2 * k).toNat).toInt (g (18081 + 898 * T + 2 * k).toNat).toInt) (h1 : A ≤ k.toInt) (h2 : k.toInt < E) (mo : g i0.toNatClampNeg = op) (h0 : 0 ≤ i0.toInt) (hi0 : 18080 + 898 * T + 2 * k.toInt = i0.toInt) (ma : g i.toNatClampNeg = arg) (hi : 18081 + 898 * T + 2 * k.toInt = i.toInt) :
    ∃ D D1 DA : Int, d k.toInt = D ∧ d (k.toInt + 1) = D1 ∧ d arg.toInt = DA ∧ ((0 ≤ op.toInt ∧ op.toInt ≤ 15 ∧ D1 ≤ D + 1) ∨ (20 ≤ op.toInt ∧ op.toInt ≤ 26 ∧ 2 ≤ D ∧ D1 ≤ D - 1) ∨ (op.toInt = 27 ∧ 1 ≤ D ∧ D1 ≤ D) ∨ ((op.toInt = 28 ∨ op.toInt = 29) ∧ 1 ≤ D ∧ D1 ≤ D - 1 ∧ k.toInt < arg.toInt ∧ arg.toInt ≤ E ∧ DA ≤ D)) := by
  have z := hd k.toInt h1 h2
  rw [at_i mo h0 hi0, at_i ma (by omega) hi] at z
  exact ⟨_, _, _, rfl, rfl, rfl, z⟩
/-- the texts hang on the places 3 and 17982 and on -/
theorem tx_ext (h : TX g) (hg : ∀ j : Nat, j = 3 ∨ 17982 ≤ j → g1 j = g j) : TX g1 := by
  have hb : ∀ j : Int, 17982 ≤ j → g1 j.toNat = g j.toNat := fun j hj => hg _ (Or.inr (by omega))
  have hs : ∀ t a e : Int, 0 ≤ t → Seg g t a e → Seg g1 t a e := fun t a e ht ⟨h1, h2, d, h3, h4⟩ => ⟨h1, h2, d, h3, fun k hk1 hk2 => by
    have z := h4 k hk1 hk2
    rw [hb _ (by omega), hb _ (by omega)]
    exact z⟩
  intro t ht h3
  rw [hg 3 (Or.inl rfl)] at h3
  obtain ⟨z1, z2⟩ := h t ht h3
  unfold TXo
  rw [hb _ (by omega)]
  refine ⟨z1, fun c hc hcn => ?_⟩
  obtain ⟨w1, w2, w3⟩ := z2 c hc hcn
  rw [hb _ (by omega), hb _ (by omega), hb _ (by omega), hb _ (by omega), hb _ (by omega), hb _ (by omega), hb _ (by omega)]
  exact ⟨w1, hs _ _ _ ht w2, hs _ _ _ ht w3⟩
theorem tx_0 (h : (g 3).toInt ≤ 0) : TX g := fun t ht h3 => by omega
theorem tx_rf {f0 f : Nat → va_E} {ms : List (Nat × Nat)} {r b : Nat} (h : TX (aI (f0 b))) (hR : RF ms f0 f r) (e : oR (f0 r) 2 = b) (h3 : rwOut ms 3 = true) (hm : ms.all (fun q => decide (q.2 < 17982)) = true) : TX (aI (f b)) := by
  refine tx_ext h (fun j hj => ?_)
  have z : rwOut ms j = true := by
    rcases hj with rfl | hj
    · exact h3
    · unfold rwOut
      refine List.all_eq_true.mpr (fun q hq => ?_)
      have z2 := List.all_eq_true.mp hm q hq
      simp only [Bool.or_eq_true, decide_eq_true_eq] at z2 ⊢
      omega
  have z3 := hR j z
  rw [e] at z3
  exact z3
end TX
