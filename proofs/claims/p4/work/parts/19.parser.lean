/-! the reference's parser: what its pile owes -/
/-- as opI, for instructions that may still wait for their places -/
def ndI (d : Int → Int) (pend : Int → Prop) (nc k op arg : Int) : Prop :=
  (0 ≤ op ∧ op ≤ 15 ∧ d (k + 1) ≤ d k + 1) ∨ (20 ≤ op ∧ op ≤ 26 ∧ 2 ≤ d k ∧ d (k + 1) ≤ d k - 1) ∨ (op = 27 ∧ 1 ≤ d k ∧ d (k + 1) ≤ d k) ∨ ((op = 28 ∨ op = 29) ∧ 1 ≤ d k ∧ d (k + 1) ≤ d k - 1 ∧ (pend k ∨ (k < arg ∧ arg ≤ nc ∧ d arg ≤ d k)))
/-- the pile's n lowest can be taken off when D lie on the stack -/
def PO (d : Int → Int) (pile pat : Nat → Int32) (a nc : Int) : Nat → Int → Prop
  | 0, D => 1 ≤ D
  | n + 1, D => (20 ≤ (pile n).toInt ∧ (pile n).toInt ≤ 26 ∧ PO d pile pat a nc n (D - 1)) ∨ ((pile n).toInt = 27 ∧ PO d pile pat a nc n D) ∨ (((pile n).toInt = 28 ∨ (pile n).toInt = 29) ∧ (a ≤ (pat n).toInt ∧ (pat n).toInt < nc ∧ D ≤ d (pat n).toInt) ∧ PO d pile pat a nc n D) ∨ (((pile n).toInt = 30 ∨ (pile n).toInt = 31) ∧ PO d pile pat a nc n D)
def pendOf (pile pat : Nat → Int32) (pd : Nat) (k : Int) : Prop := ∃ i : Nat, i < pd ∧ ((pile i).toInt = 28 ∨ (pile i).toInt = 29) ∧ (pat i).toInt = k
/-- m = 1: an operand is to come; m = 0: one has come -/
def PSt (op arg pile pat : Nat → Int32) (a nc : Int) (pd : Nat) (m : Int) : Prop :=
  (0 ≤ a ∧ a ≤ nc) ∧ ∃ d : Int → Int, d a ≤ 0 ∧ (∀ k : Int, a ≤ k → k < nc → ndI d (pendOf pile pat pd) nc k (op k.toNat).toInt (arg k.toNat).toInt) ∧ PO d pile pat a nc pd (d nc + m)
def SQp (pile : Nat → Int32) (pd : Nat) : Prop := ∀ k j : Nat, k < j → j < pd → (pile k).toInt = 31 → (20 ≤ (pile j).toInt ∧ (pile j).toInt ≤ 23) ∨ (pile j).toInt = 31
def N31 (pile : Nat → Int32) (pd : Nat) : Prop := ∀ k : Nat, k < pd → (pile k).toInt ≠ 31
def NBp (pile : Nat → Int32) (pd : Nat) : Prop := ∀ k : Nat, k < pd → (pile k).toInt < 30
/-- at the turn t -/
def STt (op arg pile pat : Nat → Int32) (a nc : Int) (pd : Nat) (t : Int) : Prop :=
  (t ≤ 1 → PSt op arg pile pat a nc pd 1) ∧ (2 ≤ t → PSt op arg pile pat a nc pd 0) ∧ SQp pile pd ∧ (t = 0 ∨ t = 2 → N31 pile pd) ∧ (t = 4 → NBp pile pd)
/-- the code ahead of ga is gO, gA still -/
def FRc (o a gO gA : Nat → Int32) (ga : Int) : Prop := ∀ k : Nat, (k : Int) < ga → o k = gO k ∧ a k = gA k
section PARSER
variable {op arg pile pat op1 arg1 pile1 pat1 : Nat → Int32} {a nc D t : Int} {pd n : Nat} {d d1 : Int → Int} {i p x y : Int32}
theorem po_pos : ∀ {n : Nat} {D : Int}, PO d pile pat a nc n D → 1 ≤ D := by
  intro n
  induction n with
  | zero => intro D h; exact h
  | succ n ih =>
    intro D h
    rcases h with ⟨-, -, h⟩ | ⟨-, h⟩ | ⟨-, -, h⟩ | ⟨-, h⟩
    · have := ih h; omega
    · exact ih h
    · exact ih h
    · exact ih h
theorem po_ext {nc1 : Int} (hd : ∀ k : Int, k < nc → d1 k = d k) (hn : nc ≤ nc1) : ∀ {n : Nat} {D : Int}, (∀ j : Nat, j < n → pile1 j = pile j ∧ pat1 j = pat j) → PO d pile pat a nc n D → PO d1 pile1 pat1 a nc1 n D := by
  intro n
  induction n with
  | zero => intro D _ h; exact h
  | succ n ih =>
    intro D hj h
    have hj2 : ∀ j : Nat, j < n → pile1 j = pile j ∧ pat1 j = pat j := fun j q => hj j (by omega)
    obtain ⟨e1, e2⟩ := hj n (by omega)
    unfold PO
    rw [e1, e2]
    rcases h with ⟨h1, h2, h⟩ | ⟨h1, h⟩ | ⟨h1, h2, h⟩ | ⟨h1, h⟩
    · exact Or.inl ⟨h1, h2, ih hj2 h⟩
    · exact Or.inr (Or.inl ⟨h1, ih hj2 h⟩)
    · exact Or.inr (Or.inr (Or.inl ⟨h1, ⟨h2.1, by omega, by rw [hd _ h2.2.1]; exact h2.2.2⟩, ih hj2 h⟩))
    · exact Or.inr (Or.inr (Or.inr ⟨h1, ih hj2 h⟩))
theorem nd_ext {P P1 : Int → Prop} {nc1 k o g : Int} (h : ndI d P nc k o g) (hk : k < nc) (hp : P k → P1 k ∨ (k < g ∧ g ≤ nc1 ∧ d1 g ≤ d1 k)) (hd : ∀ j : Int, j ≤ nc → d1 j = d j) (hn : nc ≤ nc1) : ndI d1 P1 nc1 k o g := by
  unfold ndI at h ⊢
  rw [hd k (by omega), hd (k + 1) (by omega)]
  rcases h with h | h | h | ⟨h1, h2, h3, h4⟩
  · exact Or.inl h
  · exact Or.inr (Or.inl h)
  · exact Or.inr (Or.inr (Or.inl h))
  · refine Or.inr (Or.inr (Or.inr ⟨h1, h2, h3, ?_⟩))
    rcases h4 with h4 | ⟨h5, h6, h7⟩
    · rcases hp h4 with q | q
      · exact Or.inl q
      · rw [hd k (by omega)] at q
        exact Or.inr q
    · exact Or.inr ⟨h5, by omega, by rw [hd g h6]; exact h7⟩
theorem up_at {f : Nat → Int32} {k j : Nat} {v : Int32} (h : j ≠ k) : upd f k v j = f j := up_n h
/-- one instruction more, the pile as it was or one less -/
theorem ps_emit {m m1 : Int} {pd1 : Nat} {z : Int32} (h : PSt op arg pile pat a nc pd m) (hi : i.toInt = nc) (eo : op1 = upd op i.toNatClampNeg x) (ea : arg1 = upd arg i.toNatClampNeg z)
    (hnew : ∀ d : Int → Int, PO d pile pat a nc pd (d nc + m) → ∃ D1 : Int, ((0 ≤ x.toInt ∧ x.toInt ≤ 15 ∧ D1 - m1 ≤ d nc + 1) ∨ (20 ≤ x.toInt ∧ x.toInt ≤ 26 ∧ 2 ≤ d nc ∧ D1 - m1 ≤ d nc - 1) ∨ (x.toInt = 27 ∧ 1 ≤ d nc ∧ D1 - m1 ≤ d nc)) ∧ PO d pile pat a nc pd1 D1)
    (hpd : pd1 ≤ pd) (hpend : ∀ j : Nat, pd1 ≤ j → j < pd → (pile j).toInt ≠ 28 ∧ (pile j).toInt ≠ 29) : PSt op1 arg1 pile pat a (nc + 1) pd1 m1 := by
  obtain ⟨⟨h1, h2⟩, d, h3, h4, h5⟩ := h
  have hin : (i.toNatClampNeg : Int) = nc := by rw [tnc (by omega)]; exact hi
  obtain ⟨D1, q1, q2⟩ := hnew d h5
  have hd : ∀ k : Int, k ≤ nc → (fun k => if k = nc + 1 then D1 - m1 else d k) k = d k := fun k hk => by simp only; rw [if_neg (by omega)]
  have e1 : (fun k => if k = nc + 1 then D1 - m1 else d k) (nc + 1) = D1 - m1 := by simp
  refine ⟨⟨h1, by omega⟩, fun k => if k = nc + 1 then D1 - m1 else d k, by rw [hd a (by omega)]; exact h3, fun k hk1 hk2 => ?_, ?_⟩
  · rw [eo, ea]
    by_cases hk : k = nc
    · subst hk
      have e2 : k.toNat = i.toNatClampNeg := by omega
      rw [e2, up_s, up_s]
      unfold ndI
      rw [e1, hd k (by omega)]
      rcases q1 with q | q | q
      · exact Or.inl q
      · exact Or.inr (Or.inl q)
      · exact Or.inr (Or.inr (Or.inl q))
    · rw [up_n (by omega), up_n (by omega)]
      refine nd_ext (h4 k hk1 (by omega)) (by omega) (fun ⟨j, j1, j2, j3⟩ => Or.inl ⟨j, ?_, j2, j3⟩) hd (by omega)
      by_cases hj : j < pd1
      · exact hj
      · have := hpend j (by omega) j1; omega
  · rw [e1]
    have e3 : D1 - m1 + m1 = D1 := by omega
    rw [e3]
    exact po_ext (fun k hk => hd k (by omega)) (by omega) (fun j _ => ⟨rfl, rfl⟩) q2
/-- a leaf -/
theorem ps_leaf (h : PSt op arg pile pat a nc pd 1) (hi : i.toInt = nc) (eo : op1 = upd op i.toNatClampNeg x) (ea : arg1 = upd arg i.toNatClampNeg y) (hx : 0 ≤ x.toInt ∧ x.toInt ≤ 15) : PSt op1 arg1 pile pat a (nc + 1) pd 0 :=
  ps_emit h hi eo ea (fun d h5 => ⟨d nc + 1, Or.inl ⟨hx.1, hx.2, by omega⟩, h5⟩) (Nat.le_refl _) (fun j h1 h2 => by omega)
/-- the highest of the pile goes into the code -/
theorem ps_pop (h : PSt op arg pile pat a nc (n + 1) 0) (hi : i.toInt = nc) (hx : x = pile n) (h1 : ¬ (x.toInt = 28 ∨ x.toInt = 29)) (h2 : x.toInt < 30) (eo : op1 = upd op i.toNatClampNeg x) (ea : arg1 = upd arg i.toNatClampNeg y) : PSt op1 arg1 pile pat a (nc + 1) n 0 := by
  subst hx
  refine ps_emit h hi eo ea (fun d h5 => ?_) (Nat.le_succ _) (fun j j1 j2 => by
    have e : j = n := by omega
    subst e
    omega)
  have e0 : d nc + 0 = d nc := by omega
  rw [e0] at h5
  unfold PO at h5
  rcases h5 with ⟨q1, q2, q3⟩ | ⟨q1, q3⟩ | ⟨q1, -, q3⟩ | ⟨q1, q3⟩
  · have := po_pos q3
    exact ⟨d nc - 1, Or.inr (Or.inl ⟨q1, q2, by omega, by omega⟩), q3⟩
  · have := po_pos q3
    exact ⟨d nc, Or.inr (Or.inr ⟨q1, by omega, by omega⟩), q3⟩
  · omega
  · omega
/-- "and", "or": its place is here -/
theorem ps_popJ (h : PSt op arg pile pat a nc (n + 1) 0) (hi : i.toInt = nc) (hx : (pile n).toInt = 28 ∨ (pile n).toInt = 29) (hp : p = pat n) (ea : arg1 = upd arg p.toNatClampNeg i) : PSt op arg1 pile pat a nc n 0 := by
  obtain ⟨⟨h1, h2⟩, d, h3, h4, h5⟩ := h
  have e0 : d nc + 0 = d nc := by omega
  rw [e0] at h5
  unfold PO at h5
  obtain ⟨q1, q2, q3, q4⟩ : a ≤ p.toInt ∧ p.toInt < nc ∧ d nc ≤ d p.toInt ∧ PO d pile pat a nc n (d nc) := by
    rw [hp]
    rcases h5 with ⟨q1, q2, q3⟩ | ⟨q1, q3⟩ | ⟨q1, q2, q3⟩ | ⟨q1, q3⟩
    · omega
    · omega
    · exact ⟨q2.1, q2.2.1, q2.2.2, q3⟩
    · omega
  have hpn : (p.toNatClampNeg : Int) = p.toInt := tnc (by omega)
  refine ⟨⟨h1, h2⟩, d, h3, fun k hk1 hk2 => ?_, by rw [e0]; exact q4⟩
  have hk := h4 k hk1 hk2
  rw [ea]
  by_cases hkp : k = p.toInt
  · have e2 : k.toNat = p.toNatClampNeg := by omega
    rw [e2, up_s]
    rw [e2] at hk
    unfold ndI at hk ⊢
    rcases hk with hk | hk | hk | ⟨w1, w2, w3, -⟩
    · exact Or.inl hk
    · exact Or.inr (Or.inl hk)
    · exact Or.inr (Or.inr (Or.inl hk))
    · refine Or.inr (Or.inr (Or.inr ⟨w1, w2, w3, Or.inr ⟨by omega, by omega, ?_⟩⟩))
      rw [hi, hkp]
      exact q3
  · rw [up_n (by omega)]
    refine nd_ext hk hk2 (fun ⟨j, j1, j2, j3⟩ => Or.inl ⟨j, ?_, j2, j3⟩) (fun _ _ => rfl) (by omega)
    by_cases hj : j < n
    · exact hj
    · have e : j = n := by omega
      subst e
      rw [← hp] at j3
      omega
/-- a bracket goes -/
theorem ps_close (h : PSt op arg pile pat a nc (n + 1) 0) (hx : (pile n).toInt = 30 ∨ (pile n).toInt = 31) : PSt op arg pile pat a nc n 0 := by
  obtain ⟨⟨h1, h2⟩, d, h3, h4, h5⟩ := h
  unfold PO at h5
  refine ⟨⟨h1, h2⟩, d, h3, fun k hk1 hk2 => nd_ext (h4 k hk1 hk2) hk2 (fun ⟨j, j1, j2, j3⟩ => Or.inl ⟨j, ?_, j2, j3⟩) (fun _ _ => rfl) (by omega), ?_⟩
  · by_cases hj : j < n
    · exact hj
    · have e : j = n := by omega
      subst e
      omega
  · rcases h5 with ⟨q1, q2, q3⟩ | ⟨q1, q3⟩ | ⟨q1, q2, q3⟩ | ⟨q1, q3⟩
    · omega
    · omega
    · omega
    · exact q3
/-- a push -/
theorem ps_push {m m1 : Int} (h : PSt op arg pile pat a nc pd m) (hi : i.toInt = (pd : Int)) (ep : pile1 = upd pile i.toNatClampNeg x) (et : pat1 = upd pat i.toNatClampNeg y) (hx : (20 ≤ x.toInt ∧ x.toInt ≤ 26 ∧ m = 0 ∧ m1 = 1) ∨ (x.toInt = 27 ∧ m = m1) ∨ ((x.toInt = 30 ∨ x.toInt = 31) ∧ m = m1)) : PSt op arg pile1 pat1 a nc (pd + 1) m1 := by
  obtain ⟨⟨h1, h2⟩, d, h3, h4, h5⟩ := h
  have hin : i.toNatClampNeg = pd := by have := tnc (i := i) (by omega); omega
  rw [hin] at ep et
  have hj : ∀ j : Nat, j < pd → pile1 j = pile j ∧ pat1 j = pat j := fun j hj => ⟨by rw [ep, up_n (by omega)], by rw [et, up_n (by omega)]⟩
  have ex : pile1 pd = x := by rw [ep, up_s]
  have h6 : ∀ D : Int, PO d pile pat a nc pd D → PO d pile1 pat1 a nc pd D := fun D => po_ext (fun _ _ => rfl) (Int.le_refl _) hj
  refine ⟨⟨h1, h2⟩, d, h3, fun k hk1 hk2 => nd_ext (h4 k hk1 hk2) hk2 (fun ⟨j, j1, j2, j3⟩ => Or.inl ⟨j, by omega, by rw [(hj j j1).1]; exact j2, by rw [(hj j j1).2]; exact j3⟩) (fun _ _ => rfl) (by omega), ?_⟩
  unfold PO
  rw [ex]
  rcases hx with ⟨x1, x2, rfl, rfl⟩ | ⟨x1, rfl⟩ | ⟨x1, rfl⟩
  · refine Or.inl ⟨x1, x2, h6 _ ?_⟩
    have e : d nc + 1 - 1 = d nc + 0 := by omega
    rw [e]
    exact h5
  · exact Or.inr (Or.inl ⟨x1, h6 _ h5⟩)
  · exact Or.inr (Or.inr (Or.inr ⟨x1, h6 _ h5⟩))
/-- "and", "or": onto the pile and into the code -/
theorem ps_and {j z : Int32} (h : PSt op arg pile pat a nc pd 0) (hi : i.toInt = (pd : Int)) (hj : j.toInt = nc) (ep : pile1 = upd pile i.toNatClampNeg x) (et : pat1 = upd pat i.toNatClampNeg j) (hx : x.toInt = 28 ∨ x.toInt = 29) (eo : op1 = upd op j.toNatClampNeg x) (ea : arg1 = upd arg j.toNatClampNeg z) : PSt op1 arg1 pile1 pat1 a (nc + 1) (pd + 1) 1 := by
  obtain ⟨⟨h1, h2⟩, d, h3, h4, h5⟩ := h
  have e0 : d nc + 0 = d nc := by omega
  rw [e0] at h5
  have hin : i.toNatClampNeg = pd := by have := tnc (i := i) (by omega); omega
  have hjn : (j.toNatClampNeg : Int) = nc := by rw [tnc (by omega)]; exact hj
  rw [hin] at ep et
  have hjj : ∀ k : Nat, k < pd → pile1 k = pile k ∧ pat1 k = pat k := fun k hk => ⟨by rw [ep, up_n (by omega)], by rw [et, up_n (by omega)]⟩
  have ex : pile1 pd = x := by rw [ep, up_s]
  have ey : pat1 pd = j := by rw [et, up_s]
  have hD := po_pos h5
  have hd : ∀ k : Int, k ≤ nc → (fun k => if k = nc + 1 then d nc - 1 else d k) k = d k := fun k hk => by simp only; rw [if_neg (by omega)]
  have e1 : (fun k => if k = nc + 1 then d nc - 1 else d k) (nc + 1) = d nc - 1 := by simp
  refine ⟨⟨h1, by omega⟩, fun k => if k = nc + 1 then d nc - 1 else d k, by rw [hd a (by omega)]; exact h3, fun k hk1 hk2 => ?_, ?_⟩
  · rw [eo, ea]
    by_cases hk : k = nc
    · subst hk
      have e2 : k.toNat = j.toNatClampNeg := by omega
      rw [e2, up_s, up_s]
      unfold ndI
      rw [e1, hd k (by omega)]
      exact Or.inr (Or.inr (Or.inr ⟨hx, hD, by omega, Or.inl ⟨pd, by omega, by rw [ex]; exact hx, by rw [ey]; exact hj⟩⟩))
    · rw [up_n (by omega), up_n (by omega)]
      exact nd_ext (h4 k hk1 (by omega)) (by omega) (fun ⟨q, q1, q2, q3⟩ => Or.inl ⟨q, by omega, by rw [(hjj q q1).1]; exact q2, by rw [(hjj q q1).2]; exact q3⟩) hd (by omega)
  · rw [e1]
    unfold PO
    rw [ex, ey]
    refine Or.inr (Or.inr (Or.inl ⟨hx, ⟨by omega, by omega, ?_⟩, ?_⟩))
    · rw [hj]; show d nc - 1 + 1 ≤ (if nc = nc + 1 then d nc - 1 else d nc); rw [if_neg (by omega)]; omega
    · have e : d nc - 1 + 1 = d nc := by omega
      rw [e]
      exact po_ext (fun k hk => hd k (by omega)) (by omega) hjj h5
/-- the pile is empty: a segment -/
theorem ps_end (h : PSt op arg pile pat a nc 0 0) : ∃ d : Int → Int, d a ≤ 0 ∧ ∀ k : Int, a ≤ k → k < nc → opI d nc k (op k.toNat).toInt (arg k.toNat).toInt := by
  obtain ⟨-, d, h3, h4, -⟩ := h
  refine ⟨d, h3, fun k hk1 hk2 => ?_⟩
  have z := h4 k hk1 hk2
  unfold ndI at z
  unfold opI
  rcases z with z | z | z | ⟨z1, z2, z3, z4⟩
  · exact Or.inl z
  · exact Or.inr (Or.inl z)
  · exact Or.inr (Or.inr (Or.inl z))
  · rcases z4 with ⟨j, j1, -⟩ | z4
    · omega
    · exact Or.inr (Or.inr (Or.inr ⟨z1, z2, z3, z4⟩))
theorem fr_emit {gO gA : Nat → Int32} {ga : Int} (fr : FRc op arg gO gA ga) (h : 0 ≤ ga ∧ ga ≤ nc) (hi : i.toInt = nc) (eo : op1 = upd op i.toNatClampNeg x) (ea : arg1 = upd arg i.toNatClampNeg y) : FRc op1 arg1 gO gA ga := fun k hk => by
  have := tnc (i := i) (by omega)
  rw [eo, ea, up_n (by omega), up_n (by omega)]
  exact fr k hk
theorem ps_start (h : 0 ≤ a) : PSt op arg pile pat a a 0 1 := ⟨⟨h, Int.le_refl _⟩, fun _ => 0, Int.le_refl _, fun k h1 h2 => by omega, by unfold PO; exact Int.le_refl _⟩
/-- all on the pile is known -/
theorem po_rng : ∀ {n : Nat} {D : Int}, PO d pile pat a nc n D → ∀ j : Nat, j < n → 20 ≤ (pile j).toInt ∧ (pile j).toInt ≤ 31 := by
  intro n
  induction n with
  | zero => intro D _ j hj; omega
  | succ n ih =>
    intro D h j hj
    by_cases e : j = n
    · subst e
      unfold PO at h
      rcases h with ⟨h1, h2, h⟩ | ⟨h1, h⟩ | ⟨h1, h2, h⟩ | ⟨h1, h⟩ <;> omega
    · unfold PO at h
      rcases h with ⟨h1, h2, h⟩ | ⟨h1, h⟩ | ⟨h1, h2, h⟩ | ⟨h1, h⟩ <;> exact ih h j (by omega)
end PARSER

/-! the parser's views of the heap -/
def vO (f : Nat → va_E) (h : Nat) : Nat → Int32 := aI (f (oR (f h) 22))
def vA (f : Nat → va_E) (h : Nat) : Nat → Int32 := aI (f (oR (f h) 23))
def vP (f : Nat → va_E) (h : Nat) : Nat → Int32 := aI (f (oR (f h) 25))
def vT (f : Nat → va_E) (h : Nat) : Nat → Int32 := aI (f (oR (f h) 26))
/-- at the turn t, unless it has gone wrong -/
def GI (f : Nat → va_E) (h : Nat) (gO gA : Nat → Int32) (ga t : Int) : Prop := (oI (f h) 18).toInt = 1 ∨ (STt (vO f h) (vA f h) (vP f h) (vT f h) ga (oI (f h) 21).toInt (oI (f h) 27).toInt.toNat t ∧ FRc (vO f h) (vA f h) gO gA ga)
/-- settle: whatever lay ready stays so -/
def GS (f0 f : Nat → va_E) (h : Nat) : Prop := ∀ ga : Int, PSt (vO f0 h) (vA f0 h) (vP f0 h) (vT f0 h) ga (oI (f0 h) 21).toInt (oI (f0 h) 27).toInt.toNat 0 → PSt (vO f h) (vA f h) (vP f h) (vT f h) ga (oI (f h) 21).toInt (oI (f h) 27).toInt.toNat 0 ∧ FRc (vO f h) (vA f h) (vO f0 h) (vA f0 h) ga
def noC (ms : List (Nat × Nat)) : Bool := !(ms.contains (12, 22) || ms.contains (12, 23) || ms.contains (12, 21) || ms.contains (842, 0) || ms.contains (843, 0))
def noP (ms : List (Nat × Nat)) : Bool := !(ms.contains (12, 25) || ms.contains (12, 26) || ms.contains (12, 27) || ms.contains (845, 0) || ms.contains (846, 0))
section PVIEW
variable {cI cJ cZ cD cR cT : ClassId} {kp : Nat → Nat} {L : List Nat} {f f1 f2 : Nat → va_E} {ms m2 : List (Nat × Nat)} {h : Nat} {gO gA : Nat → Int32} {ga t : Int} {x y : Int32}
theorem c_keep (hTH : TH cI cJ cZ cD cR cT kp L f) (g : FM kp L ms f f1) (hr : RK kp L h 12) (hc : noC ms = true) : vO f1 h = vO f h ∧ vA f1 h = vA f h ∧ oI (f1 h) 21 = oI (f h) 21 := by
  simp only [noC, Bool.not_eq_true', Bool.or_eq_false_iff] at hc
  have r1 : RK kp L (oR (f h) 22) 842 := th_ref hTH hr (by decide) (by decide) rfl
  have r2 : RK kp L (oR (f h) 23) 843 := th_ref hTH hr (by decide) (by decide) rfl
  refine ⟨?_, ?_, fm_I g hr hc.1.1.2⟩
  · unfold vO; rw [fm_R g hr hc.1.1.1.1, fm_A g r1 (by decide) hc.1.2]
  · unfold vA; rw [fm_R g hr hc.1.1.1.2, fm_A g r2 (by decide) hc.2]
theorem p_keep (hTH : TH cI cJ cZ cD cR cT kp L f) (g : FM kp L ms f f1) (hr : RK kp L h 12) (hc : noP ms = true) : vP f1 h = vP f h ∧ vT f1 h = vT f h ∧ oI (f1 h) 27 = oI (f h) 27 := by
  simp only [noP, Bool.not_eq_true', Bool.or_eq_false_iff] at hc
  have r1 : RK kp L (oR (f h) 25) 845 := th_ref hTH hr (by decide) (by decide) rfl
  have r2 : RK kp L (oR (f h) 26) 846 := th_ref hTH hr (by decide) (by decide) rfl
  refine ⟨?_, ?_, fm_I g hr hc.1.1.2⟩
  · unfold vP; rw [fm_R g hr hc.1.1.1.1, fm_A g r1 (by decide) hc.1.2]
  · unfold vT; rw [fm_R g hr hc.1.1.1.2, fm_A g r2 (by decide) hc.2]
/-- what touches neither code nor pile -/
theorem gi_keep (hG : GI f h gO gA ga t) (hTH : TH cI cJ cZ cD cR cT kp L f) (g : FM kp L ms f f1) (hr : RK kp L h 12) (hc : noC ms = true) (hp : noP ms = true) (hb : (oI (f h) 18).toInt = 1 → (oI (f1 h) 18).toInt = 1) : GI f1 h gO gA ga t := by
  rcases hG with q | q
  · exact Or.inl (hb q)
  · obtain ⟨e1, e2, e3⟩ := c_keep hTH g hr hc
    obtain ⟨e4, e5, e6⟩ := p_keep hTH g hr hp
    refine Or.inr ?_
    rw [e1, e2, e3, e4, e5, e6]
    exact q
/-- a leaf -/
theorem gi_leaf (hG : GI f h gO gA ga t) (hTH : TH cI cJ cZ cD cR cT kp L f) (g : FM kp L ms f f1) (hr : RK kp L h 12) (hp : noP ms = true) (hb : ms.contains (12, 18) = false) (ht : t = 0 ∨ t = 1) (hx : 0 ≤ x.toInt ∧ x.toInt ≤ 15) (he : vO f1 h = upd (vO f h) (oI (f h) 21).toNatClampNeg x ∧ vA f1 h = upd (vA f h) (oI (f h) 21).toNatClampNeg y ∧ (oI (f1 h) 21).toInt = (oI (f h) 21).toInt + 1) : GI f1 h gO gA ga 3 ∧ (t = 0 → GI f1 h gO gA ga 2) := by
  have hb2 := fm_I g hr hb
  rcases hG with q | ⟨⟨q1, -, q3, q4, -⟩, fr⟩
  · rw [← hb2] at q
    exact ⟨Or.inl q, fun _ => Or.inl q⟩
  · have hfr : FRc (vO f1 h) (vA f1 h) gO gA ga := fr_emit fr (q1 (by omega)).1 rfl he.1 he.2.1
    obtain ⟨e4, e5, e6⟩ := p_keep hTH g hr hp
    obtain ⟨e1, e2, e3⟩ := he
    have z := ps_leaf (q1 (by omega)) rfl e1 e2 hx
    refine ⟨Or.inr ?_, fun h0 => Or.inr ?_⟩
    · rw [e3, e4, e5, e6]
      exact ⟨⟨fun w => by omega, fun _ => z, q3, fun w => by omega, fun w => by omega⟩, hfr⟩
    · rw [e3, e4, e5, e6]
      exact ⟨⟨fun w => by omega, fun _ => z, q3, fun _ => q4 (Or.inl h0), fun w => by omega⟩, hfr⟩
/-- a push of what isn't "and", "or" -/
theorem gi_push {t1 : Int} (hG : GI f h gO gA ga t) (hTH : TH cI cJ cZ cD cR cT kp L f) (g : FM kp L ms f f1) (hr : RK kp L h 12) (hc : noC ms = true) (hb : ms.contains (12, 18) = false) (h27 : 0 ≤ (oI (f h) 27).toInt) (he : vP f1 h = upd (vP f h) (oI (f h) 27).toNatClampNeg x ∧ vT f1 h = upd (vT f h) (oI (f h) 27).toNatClampNeg y ∧ (oI (f1 h) 27).toInt = (oI (f h) 27).toInt + 1)
    (hx : (t = 3 ∧ t1 = 1 ∧ 20 ≤ x.toInt ∧ x.toInt ≤ 23) ∨ (t = 2 ∧ t1 = 1 ∧ 20 ≤ x.toInt ∧ x.toInt ≤ 26) ∨ (t = 0 ∧ t1 = 0 ∧ (x.toInt = 27 ∨ x.toInt = 30)) ∨ ((t = 0 ∨ t = 1) ∧ t1 = 1 ∧ x.toInt = 31)) : GI f1 h gO gA ga t1 := by
  have hb2 := fm_I g hr hb
  rcases hG with q | ⟨⟨q1, q2, q3, q4, -⟩, fr⟩
  · exact Or.inl (by rw [hb2]; exact q)
  · obtain ⟨e4, e5, e6⟩ := c_keep hTH g hr hc
    obtain ⟨e1, e2, e3⟩ := he
    have en : (oI (f1 h) 27).toInt.toNat = (oI (f h) 27).toInt.toNat + 1 := by omega
    have hi : (oI (f h) 27).toInt = (((oI (f h) 27).toInt.toNat : Nat) : Int) := by omega
    have hin : (oI (f h) 27).toNatClampNeg = (oI (f h) 27).toInt.toNat := by have := tnc (i := oI (f h) 27) h27; omega
    have ex : vP f1 h (oI (f h) 27).toInt.toNat = x := by rw [e1, hin, up_s]
    have ej : ∀ j : Nat, j < (oI (f h) 27).toInt.toNat → vP f1 h j = vP f h j := fun j hj => by rw [e1, hin, up_n (by omega)]
    refine Or.inr ⟨?_, by rw [e4, e5]; exact fr⟩
    rw [e4, e5, e6, en]
    have hS : ∀ P : Prop, ((t1 ≤ 1 ∧ 0 ≤ t1) ∧ PSt (vO f h) (vA f h) (vP f1 h) (vT f1 h) ga (oI (f h) 21).toInt ((oI (f h) 27).toInt.toNat + 1) 1 ∧ (∀ k : Nat, k < (oI (f h) 27).toInt.toNat → (vP f h k).toInt = 31 → (20 ≤ x.toInt ∧ x.toInt ≤ 23) ∨ x.toInt = 31) ∧ (t1 = 0 → N31 (vP f h) (oI (f h) 27).toInt.toNat ∧ x.toInt ≠ 31)) → STt (vO f h) (vA f h) (vP f1 h) (vT f1 h) ga (oI (f h) 21).toInt ((oI (f h) 27).toInt.toNat + 1) t1 := fun _ ⟨w0, w1, w2, w3⟩ => by
      refine ⟨fun _ => w1, fun w => by omega, fun k j hk hj hk31 => ?_, fun w => ?_, fun w => by omega⟩
      · rw [ej k (by omega)] at hk31
        by_cases hjn : j = (oI (f h) 27).toInt.toNat
        · subst hjn
          rw [ex]
          exact w2 k hk hk31
        · rw [ej j (by omega)]
          exact q3 k j hk (by omega) hk31
      · have w4 := w3 (by omega)
        intro k hk
        by_cases hkn : k = (oI (f h) 27).toInt.toNat
        · subst hkn
          rw [ex]
          exact w4.2
        · rw [ej k (by omega)]
          exact w4.1 k (by omega)
    refine hS True ?_
    rcases hx with ⟨rfl, rfl, x1, x2⟩ | ⟨rfl, rfl, x1, x2⟩ | ⟨rfl, rfl, x1⟩ | ⟨ht, rfl, x1⟩
    · exact ⟨by omega, ps_push (q2 (by omega)) hi e1 e2 (Or.inl ⟨x1, by omega, rfl, rfl⟩), fun _ _ _ => Or.inl ⟨x1, x2⟩, fun w => by omega⟩
    · exact ⟨by omega, ps_push (q2 (by omega)) hi e1 e2 (Or.inl ⟨x1, by omega, rfl, rfl⟩), fun k hk h31 => absurd h31 (q4 (by omega) k hk), fun w => by omega⟩
    · refine ⟨by omega, ps_push (q1 (by omega)) hi e1 e2 ?_, fun k hk h31 => absurd h31 (q4 (by omega) k hk), fun _ => ⟨q4 (by omega), by omega⟩⟩
      rcases x1 with x1 | x1
      · exact Or.inr (Or.inl ⟨x1, rfl⟩)
      · exact Or.inr (Or.inr ⟨Or.inl x1, rfl⟩)
    · exact ⟨by omega, ps_push (q1 (by omega)) hi e1 e2 (Or.inr (Or.inr ⟨Or.inr x1, rfl⟩)), fun _ _ _ => Or.inr x1, fun w => by omega⟩
/-- "and", "or" -/
theorem gi_and (hG : GI f h gO gA ga 2) (hTH : TH cI cJ cZ cD cR cT kp L f) (hTH1 : TH cI cJ cZ cD cR cT kp L f1) (g : FM kp L ms f f1) (g2 : FM kp L m2 f1 f2) (hr : RK kp L h 12) (hc : noC ms = true) (hp : noP m2 = true) (hb : ms.contains (12, 18) = false) (hb2 : m2.contains (12, 18) = false) (h27 : 0 ≤ (oI (f h) 27).toInt) {z : Int32} (hx : x.toInt = 28 ∨ x.toInt = 29) (hy : y = oI (f h) 21)
    (he : vP f1 h = upd (vP f h) (oI (f h) 27).toNatClampNeg x ∧ vT f1 h = upd (vT f h) (oI (f h) 27).toNatClampNeg y ∧ (oI (f1 h) 27).toInt = (oI (f h) 27).toInt + 1) (he2 : vO f2 h = upd (vO f1 h) (oI (f1 h) 21).toNatClampNeg x ∧ vA f2 h = upd (vA f1 h) (oI (f1 h) 21).toNatClampNeg z ∧ (oI (f2 h) 21).toInt = (oI (f1 h) 21).toInt + 1) : GI f2 h gO gA ga 0 := by
  have k1 := fm_I g hr hb
  have k2 := fm_I g2 hr hb2
  rcases hG with q | ⟨⟨q1, q2, q3, q4, -⟩, fr⟩
  · exact Or.inl (by rw [k2, k1]; exact q)
  · have hfr : FRc (vO f2 h) (vA f2 h) gO gA ga := by
      obtain ⟨e4, e5, e6⟩ := c_keep hTH g hr hc
      rw [← e4, ← e5] at fr
      exact fr_emit fr (q2 (by omega)).1 (by rw [e6]) he2.1 he2.2.1
    obtain ⟨e4, e5, e6⟩ := c_keep hTH g hr hc
    obtain ⟨a4, a5, a6⟩ := p_keep hTH1 g2 hr hp
    obtain ⟨e1, e2, e3⟩ := he
    obtain ⟨b1, b2, b3⟩ := he2
    rw [e4, e6] at b1
    rw [e5, e6] at b2
    rw [e6] at b3
    have hN := q4 (Or.inr rfl)
    have en : (oI (f1 h) 27).toInt.toNat = (oI (f h) 27).toInt.toNat + 1 := by omega
    have hi : (oI (f h) 27).toInt = (((oI (f h) 27).toInt.toNat : Nat) : Int) := by omega
    have hin : (oI (f h) 27).toNatClampNeg = (oI (f h) 27).toInt.toNat := by have := tnc (i := oI (f h) 27) h27; omega
    have ex : vP f1 h (oI (f h) 27).toInt.toNat = x := by rw [e1, hin, up_s]
    have ej : ∀ j : Nat, j < (oI (f h) 27).toInt.toNat → vP f1 h j = vP f h j := fun j hj => by rw [e1, hin, up_n (by omega)]
    have hN1 : N31 (vP f1 h) ((oI (f h) 27).toInt.toNat + 1) := fun k hk => by
      by_cases hkn : k = (oI (f h) 27).toInt.toNat
      · subst hkn; rw [ex]; omega
      · rw [ej k (by omega)]; exact hN k (by omega)
    refine Or.inr ⟨?_, hfr⟩
    rw [a4, a5, a6, en, b3]
    subst hy
    exact ⟨fun _ => ps_and (q2 (by omega)) hi rfl e1 e2 hx b1 b2, fun w => by omega, fun k j hk hj h31 => absurd h31 (hN1 k (by omega)), fun _ => hN1, fun w => by omega⟩
/-- the state behind settle -/
theorem gi_settle (hG : GI f h gO gA ga t) (hTH : TH cI cJ cZ cD cR cT kp L f) (hr : RK kp L h 12) (g : FM kp L ms f f1) (hb : ms.contains (12, 18) = false) (ht : 2 ≤ t) (hS : GS f f1 h) (hP : vP f1 h = vP f h) (hle : 0 ≤ (oI (f1 h) 27).toInt ∧ (oI (f1 h) 27).toInt ≤ (oI (f h) 27).toInt) : GI f1 h gO gA ga t := by
  have hb2 := fm_I g hr hb
  rcases hG with q | ⟨⟨q1, q2, q3, q4, q5⟩, fr⟩
  · exact Or.inl (by rw [hb2]; exact q)
  · obtain ⟨hS1, hS2⟩ := hS ga (q2 ht)
    refine Or.inr ⟨⟨fun w => by omega, fun w => hS1, fun k j hk hj h31 => ?_, fun w k hk => ?_, fun w k hk => ?_⟩, fun k hk => ⟨((hS2 k hk).1).trans (fr k hk).1, ((hS2 k hk).2).trans (fr k hk).2⟩⟩
    · rw [hP] at h31 ⊢
      exact q3 k j hk (by omega) h31
    · rw [hP]
      exact q4 w k (by omega)
    · rw [hP]
      exact q5 w k (by omega)
/-- how hard an operation holds -/
def bnI (o : Int) : Int := if 30 ≤ o then 0 else if o = 29 then 1 else if o = 28 then 2 else if o = 27 then 3 else if 24 ≤ o then 4 else if 22 ≤ o then 6 else 5
theorem bn_br {o : Int} (h : bnI o < 1) : 30 ≤ o := by unfold bnI at h; split at h <;> first | omega | (split at h <;> first | omega | (split at h <;> first | omega | (split at h <;> first | omega | (split at h <;> first | omega | (split at h <;> omega)))))
theorem bn_lo {o : Int} (h : o < 30) : 1 ≤ bnI o := by
  by_cases q : bnI o < 1
  · have := bn_br q; omega
  · omega
theorem bn_sum {o : Int} (h : 20 ≤ o ∧ o ≤ 23) : 5 ≤ bnI o := by unfold bnI; rw [if_neg (by omega), if_neg (by omega), if_neg (by omega), if_neg (by omega), if_neg (by omega)]; split <;> omega
theorem bn_hi {o : Int} (h : 30 ≤ o) : bnI o = 0 := by unfold bnI; rw [if_pos h]
/-- the highest of the pile goes into the code -/
theorem gs_pop {f0 : Nat → va_E} {z : Int32} (hv : GS f0 f h) (hTH : TH cI cJ cZ cD cR cT kp L f) (hTH1 : TH cI cJ cZ cD cR cT kp L f1) (hr : RK kp L h 12) (g1 : FM kp L [(12, 27)] f f1) (e27 : oI (f1 h) 27 = z) (hz : z.toInt = (oI (f h) 27).toInt - 1) (h27 : 1 ≤ (oI (f h) 27).toInt) (g2 : FM kp L m2 f1 f2) (hp : noP m2 = true)
    (hx : x = vP f h z.toNatClampNeg) (hn : ¬ (x.toInt = 28 ∨ x.toInt = 29)) (hlt : x.toInt < 30) (he : vO f2 h = upd (vO f1 h) (oI (f1 h) 21).toNatClampNeg x ∧ vA f2 h = upd (vA f1 h) (oI (f1 h) 21).toNatClampNeg y ∧ (oI (f2 h) 21).toInt = (oI (f1 h) 21).toInt + 1) : GS f0 f2 h := fun ga h0 => by
  obtain ⟨q1, q2⟩ := hv ga h0
  obtain ⟨e4, e5, e6⟩ := c_keep hTH g1 hr rfl
  obtain ⟨a4, a5, a6⟩ := p_keep hTH1 g2 hr hp
  have b4 : vP f1 h = vP f h := by unfold vP; rw [fm_R g1 hr rfl, fm_A g1 (th_ref hTH hr (by decide) (by decide) (show fTab 12 25 = (2, 845, 0, 0) from rfl)) (by decide) rfl]
  have b5 : vT f1 h = vT f h := by unfold vT; rw [fm_R g1 hr rfl, fm_A g1 (th_ref hTH hr (by decide) (by decide) (show fTab 12 26 = (2, 846, 0, 0) from rfl)) (by decide) rfl]
  obtain ⟨c1, c2, c3⟩ := he
  rw [e4, e6] at c1
  rw [e5, e6] at c2
  rw [e6] at c3
  have hzn : z.toNatClampNeg = z.toInt.toNat := by have := tnc (i := z) (by omega); omega
  have en : (oI (f h) 27).toInt.toNat = z.toInt.toNat + 1 := by omega
  rw [en] at q1
  rw [a4, a5, a6, b4, b5, e27, c3]
  exact ⟨ps_pop q1 rfl (by rw [← hzn]; exact hx) hn hlt c1 c2, fr_emit q2 q1.1 rfl c1 c2⟩
/-- "and", "or": its place is here -/
theorem gs_popJ {f0 : Nat → va_E} {z w : Int32} (hv : GS f0 f h) (hTH : TH cI cJ cZ cD cR cT kp L f) (hTH1 : TH cI cJ cZ cD cR cT kp L f1) (hr : RK kp L h 12) (g1 : FM kp L [(12, 27)] f f1) (e27 : oI (f1 h) 27 = z) (hz : z.toInt = (oI (f h) 27).toInt - 1) (h27 : 1 ≤ (oI (f h) 27).toInt) (g2 : FM kp L [(843, 0)] f1 f2)
    (hx : x = vP f h z.toNatClampNeg) (hn : x.toInt = 28 ∨ x.toInt = 29) (hw : w = vT f h z.toNatClampNeg) (ea : vA f2 h = upd (vA f1 h) w.toNatClampNeg (oI (f h) 21)) : GS f0 f2 h := fun ga h0 => by
  obtain ⟨q1, q2⟩ := hv ga h0
  obtain ⟨e4, e5, e6⟩ := c_keep hTH g1 hr rfl
  obtain ⟨a4, a5, a6⟩ := p_keep hTH1 g2 hr rfl
  have b4 : vP f1 h = vP f h := by unfold vP; rw [fm_R g1 hr rfl, fm_A g1 (th_ref hTH hr (by decide) (by decide) (show fTab 12 25 = (2, 845, 0, 0) from rfl)) (by decide) rfl]
  have b5 : vT f1 h = vT f h := by unfold vT; rw [fm_R g1 hr rfl, fm_A g1 (th_ref hTH hr (by decide) (by decide) (show fTab 12 26 = (2, 846, 0, 0) from rfl)) (by decide) rfl]
  have b6 : vO f2 h = vO f1 h := by unfold vO; rw [fm_R g2 hr rfl, fm_A g2 (th_ref hTH1 hr (by decide) (by decide) (show fTab 12 22 = (2, 842, 0, 0) from rfl)) (by decide) rfl]
  have b7 : oI (f2 h) 21 = oI (f1 h) 21 := fm_I g2 hr rfl
  rw [e5] at ea
  have hzn : z.toNatClampNeg = z.toInt.toNat := by have := tnc (i := z) (by omega); omega
  have en : (oI (f h) 27).toInt.toNat = z.toInt.toNat + 1 := by omega
  rw [en] at q1
  rw [a4, a5, a6, b4, b5, b6, b7, e4, e6, e27]
  rw [hzn] at hx hw
  refine ⟨ps_popJ q1 rfl (by rw [← hx]; exact hn) hw ea, fun k hk => ⟨(q2 k hk).1, ?_⟩⟩
  have hge : ga ≤ w.toInt := by
    obtain ⟨-, d, -, -, h5⟩ := q1
    unfold PO at h5
    rw [hw]
    rw [hx] at hn
    rcases h5 with ⟨w1, w2, w3⟩ | ⟨w1, w3⟩ | ⟨w1, w2, w3⟩ | ⟨w1, w3⟩
    · omega
    · omega
    · exact w2.1
    · omega
  have h0a := q1.1.1
  have := tnc (i := w) (by omega)
  rw [ea, up_n (by omega)]
  exact (q2 k hk).2
theorem gs_0 {f0 : Nat → va_E} : GS f0 f0 h := fun ga h0 => ⟨h0, fun _ _ => ⟨rfl, rfl⟩⟩
/-- a bracket goes -/
theorem gi_close {z : Int32} (hG : GI f h gO gA ga t) (hTH : TH cI cJ cZ cD cR cT kp L f) (hr : RK kp L h 12) (g1 : FM kp L [(12, 27)] f f1) (e27 : oI (f1 h) 27 = z) (hz : z.toInt = (oI (f h) 27).toInt - 1) (h27 : 1 ≤ (oI (f h) 27).toInt) (ht : t = 2 ∨ t = 3) (htop : (vP f h ((oI (f h) 27).toInt - 1).toNat).toInt = 30 ∨ (vP f h ((oI (f h) 27).toInt - 1).toNat).toInt = 31) : GI f1 h gO gA ga t := by
  have hb2 : oI (f1 h) 18 = oI (f h) 18 := fm_I g1 hr rfl
  rcases hG with q | ⟨⟨q1, q2, q3, q4, -⟩, fr⟩
  · exact Or.inl (by rw [hb2]; exact q)
  · obtain ⟨e4, e5, e6⟩ := c_keep hTH g1 hr rfl
    have b4 : vP f1 h = vP f h := by unfold vP; rw [fm_R g1 hr rfl, fm_A g1 (th_ref hTH hr (by decide) (by decide) (show fTab 12 25 = (2, 845, 0, 0) from rfl)) (by decide) rfl]
    have b5 : vT f1 h = vT f h := by unfold vT; rw [fm_R g1 hr rfl, fm_A g1 (th_ref hTH hr (by decide) (by decide) (show fTab 12 26 = (2, 846, 0, 0) from rfl)) (by decide) rfl]
    have en : (oI (f h) 27).toInt.toNat = z.toInt.toNat + 1 := by omega
    have en2 : ((oI (f h) 27).toInt - 1).toNat = z.toInt.toNat := by omega
    have w0 := q2 (by omega)
    rw [en] at w0 q3 q4
    rw [en2] at htop
    refine Or.inr ?_
    rw [e4, e5, e6, b4, b5, e27]
    exact ⟨⟨fun w => by omega, fun _ => ps_close w0 htop, fun k j hk hj => q3 k j hk (by omega), fun w k hk => q4 w k (by omega), fun w => by omega⟩, fr⟩
/-- behind settle(5), inside a square bracket: it is the highest -/
theorem top31 (hG : GI f h gO gA ga t) (hb : ¬ (oI (f h) 18).toInt = 1) {n n1 : Int} (hn : n = (oI (f h) 27).toInt) (h1 : 0 ≤ n1) (hin : ∃ k : Nat, (k : Int) < n ∧ (vP f h k).toInt = 31 ∧ ∀ j : Nat, k < j → (j : Int) < n → (vP f h j).toInt < 30) (hs : n1 = 0 ∨ bnI (vP f h (n1 - 1).toNat).toInt < 5) (ho : ∀ k : Nat, n1 ≤ (k : Int) → (k : Int) < n → 5 ≤ bnI (vP f h k).toInt) (hle : n1 ≤ n) : 1 ≤ n1 ∧ (vP f h (n1 - 1).toNat).toInt = 31 := by
  rcases hG with q | ⟨⟨-, -, q3, -, -⟩, -⟩
  · exact absurd q hb
  · obtain ⟨k, k1, k2, k3⟩ := hin
    have hk : (k : Int) < n1 := by
      by_cases w : (k : Int) < n1
      · exact w
      · have := ho k (by omega) k1
        rw [k2, bn_hi (by omega)] at this
        omega
    refine ⟨by omega, ?_⟩
    by_cases e : (n1 - 1).toNat = k
    · rw [e]; exact k2
    · have w1 := k3 (n1 - 1).toNat (by omega) (by omega)
      have w2 := q3 k (n1 - 1).toNat (by omega) (by omega) k2
      rcases w2 with w2 | w2
      · have := bn_sum w2
        omega
      · omega
/-- behind settle(1), inside a bracket: it is the highest -/
theorem top30 {n n1 : Int} {pl : Nat → Int32} (h1 : 0 ≤ n1) (hin : ∃ k : Nat, (k : Int) < n ∧ 30 ≤ (pl k).toInt ∧ ∀ j : Nat, k < j → (j : Int) < n → (pl j).toInt < 30) (hs : n1 = 0 ∨ bnI (pl (n1 - 1).toNat).toInt < 1) (ho : ∀ k : Nat, n1 ≤ (k : Int) → (k : Int) < n → 1 ≤ bnI (pl k).toInt) (hle : n1 ≤ n) : 1 ≤ n1 ∧ ∃ k : Nat, (n1 - 1).toNat = k ∧ (k : Int) < n ∧ 30 ≤ (pl k).toInt := by
  obtain ⟨k, k1, k2, k3⟩ := hin
  have hk : (k : Int) < n1 := by
    by_cases w : (k : Int) < n1
    · exact w
    · have := ho k (by omega) k1
      rw [bn_hi k2] at this
      omega
  refine ⟨by omega, (n1 - 1).toNat, rfl, by omega, ?_⟩
  rcases hs with hs | hs
  · omega
  · exact bn_br hs
/-- no bracket is left, and all is settled: the code from ga on is a segment -/
theorem gi_end {f2 : Nat → va_E} (hG : GI f h gO gA ga 4) (hb : ¬ (oI (f h) 18).toInt = 1) (hS : GS f f1 h) (h1 : 0 ≤ (oI (f1 h) 27).toInt) (hle : (oI (f1 h) 27).toInt ≤ (oI (f h) 27).toInt) (hs : (oI (f1 h) 27).toInt = 0 ∨ bnI (vP f h ((oI (f1 h) 27).toInt - 1).toNat).toInt < 1) : (∃ d : Int → Int, d ga ≤ 0 ∧ ∀ k : Int, ga ≤ k → k < (oI (f1 h) 21).toInt → opI d (oI (f1 h) 21).toInt k (vO f1 h k.toNat).toInt (vA f1 h k.toNat).toInt) ∧ FRc (vO f1 h) (vA f1 h) gO gA ga ∧ ga ≤ (oI (f1 h) 21).toInt := by
  rcases hG with q | ⟨⟨-, q2, -, -, q5⟩, fr⟩
  · exact absurd q hb
  · obtain ⟨w1, w2⟩ := hS ga (q2 (by omega))
    have e0 : (oI (f1 h) 27).toInt.toNat = 0 := by
      rcases hs with hs | hs
      · omega
      · by_cases w : (oI (f1 h) 27).toInt = 0
        · omega
        · have := bn_br hs
          have := q5 rfl ((oI (f1 h) 27).toInt - 1).toNat (by omega)
          omega
    rw [e0] at w1
    exact ⟨ps_end w1, fun k hk => ⟨((w2 k hk).1).trans (fr k hk).1, ((w2 k hk).2).trans (fr k hk).2⟩, w1.1.2⟩
theorem fm_J {ms : List (Nat × Nat)} {a K : Nat} (h : FM kp L ms f f1) (hr : RK kp L a K) {k : Nat} (hk : ms.contains (K, k) = false) : oJ (f1 a) k = oJ (f a) k := by
  have h2 := (h a hr.1).1 k (by rw [hr.2]; intro z; rw [List.contains_iff_mem.mpr z] at hk; cases hk)
  unfold oJ
  rw [h2]
end PVIEW
