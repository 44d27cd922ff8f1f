/-! the parser: clauses and the text that comes of them -/
def vN (f : Nat → va_E) (h : Nat) : Nat → Int32 := aI (f (oR (f h) 20))
def SegC (o a : Nat → Int32) (x e nc : Int) : Prop := (0 ≤ x ∧ x ≤ nc) ∧ e ≤ nc ∧ SegN o a x e
def CL1 (o a n : Nat → Int32) (nc c : Int) : Prop := ((n (8 * c).toNat).toInt = 0 → (0 ≤ (n (8 * c + 1).toNat).toInt ∧ (n (8 * c + 1).toNat).toInt ≤ 19) ∧ 0 ≤ (n (8 * c + 2).toNat).toInt ∧ (n (8 * c + 2).toNat).toInt ≤ 11)
  ∧ SegC o a (n (8 * c + 3).toNat).toInt (n (8 * c + 4).toNat).toInt nc ∧ SegC o a (n (8 * c + 5).toNat).toInt (n (8 * c + 6).toNat).toInt nc
def CLs (o a n : Nat → Int32) (nc N : Int) : Prop := ∀ c : Int, 0 ≤ c → c < N → CL1 o a n nc c
def ZR (g : Nat → Int32) (b n : Int) : Prop := ∀ j : Int, b ≤ j → j < b + n → (g j.toNat).toInt = 0
/-- two segments, and the code ahead of n0 as at f0, unless it has gone wrong -/
def DJ (f0 f : Nat → va_E) (h : Nat) (n0 x e x2 e2 : Int) : Prop := (oI (f h) 18).toInt = 1 ∨ (SegN (vO f h) (vA f h) x e ∧ SegN (vO f h) (vA f h) x2 e2 ∧ FRc (vO f h) (vA f h) (vO f0 h) (vA f0 h) n0)
section P3
variable {g g1 g2 o a o1 a1 n n1 : Nat → Int32} {b nc N x e x2 e2 : Int} {i y v : Int32}
theorem segn_0 : SegN o a x x := ⟨fun _ => 0, Int.le_refl _, fun k h1 h2 => by omega⟩
theorem segn_ext (h : SegN o a x e) (hx : 0 ≤ x) (hf : FRc o1 a1 o a nc) (he : e ≤ nc) : SegN o1 a1 x e := by
  obtain ⟨d, h1, h2⟩ := h
  refine ⟨d, h1, fun k hk1 hk2 => ?_⟩
  have z := hf k.toNat (by omega)
  rw [z.1, z.2]
  exact h2 k hk1 hk2
theorem zr_0 : ZR g b 0 := fun j h1 h2 => by omega
theorem zr_st (h : ZR g b nc) (e : g1 = upd g i.toNatClampNeg y) (hy : y.toInt = 0) (hi : i.toInt = b + nc) (h0 : 0 ≤ b ∧ 0 ≤ nc) {N : Int} (hN : N = nc + 1) : ZR g1 b N := fun j h1 h2 => by
  have z := tnc (i := i) (by omega)
  rw [e]
  by_cases w : j = i.toInt
  · have e2 : j.toNat = i.toNatClampNeg := by omega
    rw [e2, up_s]
    exact hy
  · rw [up_n (by omega)]
    exact h j h1 (by omega)
theorem pre_st {B : Int} (h : ∀ j : Nat, (j : Int) < B → g j = g2 j) (e : g1 = upd g i.toNatClampNeg y) (hi : B ≤ i.toInt ∧ 0 ≤ i.toInt) : ∀ j : Nat, (j : Int) < B → g1 j = g2 j := fun j hj => by
  have z := tnc (i := i) hi.2
  rw [e, up_n (by omega)]
  exact h j hj
theorem ent_st {B : Int} (e : g1 = upd g i.toNatClampNeg y) (hi : i.toInt = B) (h0 : 0 ≤ B) : g1 B.toNat = y := by
  have z := tnc (i := i) (by omega)
  have e2 : B.toNat = i.toNatClampNeg := by omega
  rw [e, e2, up_s]
theorem ent_no {B : Int} (h : g B.toNat = v) (e : g1 = upd g i.toNatClampNeg y) (hi : ¬ i.toInt = B) (h0 : 0 ≤ B ∧ 0 ≤ i.toInt) : g1 B.toNat = v := by
  have z := tnc (i := i) (by omega)
  rw [e, up_n (by omega)]
  exact h
theorem ent_z {B b : Int} (h : ZR g b 8) (h1 : b ≤ B) (h2 : B < b + 8) : g B.toNat = 0 := Int32.toInt_inj.mp ((h B h1 h2).trans rfl)
section HEAP
variable {cI cJ cZ cD cR cT : ClassId} {kp : Nat → Nat} {L : List Nat} {f0 f f1 : Nat → va_E} {ms : List (Nat × Nat)} {h : Nat} {n0 n2 : Int}
theorem dj_0 : DJ f0 f0 h n0 x x x2 x2 := Or.inr ⟨segn_0, segn_0, fun _ _ => ⟨rfl, rfl⟩⟩
theorem dj_keep (D : DJ f0 f h n0 x e x2 e2) (hTH : TH cI cJ cZ cD cR cT kp L f) (gg : FM kp L ms f f1) (hr : RK kp L h 12) (hc : noC ms = true) (hb : (oI (f h) 18).toInt = 1 → (oI (f1 h) 18).toInt = 1) : DJ f0 f1 h n0 x e x2 e2 := by
  rcases D with q | q
  · exact Or.inl (hb q)
  · obtain ⟨e1, e2, -⟩ := c_keep hTH gg hr hc
    refine Or.inr ?_
    rw [e1, e2]
    exact q
theorem dj_triv (D : DJ f0 f h n0 x e x2 e2) {w z : Int} : DJ f0 f h n0 w w z z := by
  rcases D with q | ⟨-, -, q⟩
  · exact Or.inl q
  · exact Or.inr ⟨segn_0, segn_0, q⟩
/-- a first expression -/
theorem dj_ex1 (D : DJ f0 f h n0 x e x2 e2) (hb : ¬ (oI (f h) 18).toInt = 1) (hn : n0 ≤ nc) {w : Int} (hX : (oI (f1 h) 18).toInt = 1 ∨ (SegN (vO f1 h) (vA f1 h) nc N ∧ FRc (vO f1 h) (vA f1 h) (vO f h) (vA f h) nc)) : DJ f0 f1 h n0 nc N w w := by
  rcases D with q | ⟨-, -, q⟩
  · exact absurd q hb
  · rcases hX with p | ⟨p1, p2⟩
    · exact Or.inl p
    · exact Or.inr ⟨p1, segn_0, fun k hk => ⟨(p2 k (by omega)).1.trans (q k hk).1, (p2 k (by omega)).2.trans (q k hk).2⟩⟩
/-- a second one -/
theorem dj_ex2 (D : DJ f0 f h n0 x e x2 e2) (hb : ¬ (oI (f h) 18).toInt = 1) (hn : n0 ≤ nc) (hx : 0 ≤ x) (he : e ≤ nc) (hX : (oI (f1 h) 18).toInt = 1 ∨ (SegN (vO f1 h) (vA f1 h) nc N ∧ FRc (vO f1 h) (vA f1 h) (vO f h) (vA f h) nc)) : DJ f0 f1 h n0 x e nc N := by
  rcases D with q | ⟨q1, -, q⟩
  · exact absurd q hb
  · rcases hX with p | ⟨p1, p2⟩
    · exact Or.inl p
    · exact Or.inr ⟨segn_ext q1 hx p2 he, p1, fun k hk => ⟨(p2 k (by omega)).1.trans (q k hk).1, (p2 k (by omega)).2.trans (q k hk).2⟩⟩
theorem cl_end {hd r1 r2 v3 v4 v5 v6 : Int32} (hC : CLs (vO f0 h) (vA f0 h) (vN f0 h) n0 N) (hN : 0 ≤ N) (D : DJ f0 f h n0 v3.toInt v4.toInt v5.toInt v6.toInt) (hp : ∀ j : Nat, (j : Int) < 8 * N → vN f h j = vN f0 h j) (e0 : vN f h (8 * N + 0).toNat = hd) (e1 : vN f h (8 * N + 1).toNat = r1) (e2 : vN f h (8 * N + 2).toNat = r2) (e3 : vN f h (8 * N + 3).toNat = v3) (e4 : vN f h (8 * N + 4).toNat = v4) (e5 : vN f h (8 * N + 5).toNat = v5) (e6 : vN f h (8 * N + 6).toNat = v6)
    (hst : (oI (f h) 18).toInt = 1 ∨ ¬ hd.toInt = 0 ∨ ((0 ≤ r1.toInt ∧ r1.toInt ≤ 19) ∧ 0 ≤ r2.toInt ∧ r2.toInt ≤ 11)) (hb : n0 ≤ nc ∧ (0 ≤ v3.toInt ∧ v3.toInt ≤ nc) ∧ v4.toInt ≤ nc ∧ (0 ≤ v5.toInt ∧ v5.toInt ≤ nc) ∧ v6.toInt ≤ nc) {N1 : Int} (hN1 : N1 = N + 1) : (oI (f h) 18).toInt = 1 ∨ CLs (vO f h) (vA f h) (vN f h) nc N1 := by
  rcases D with q | ⟨q1, q2, q3⟩
  · exact Or.inl q
  · rcases hst with p | hst
    · exact Or.inl p
    · refine Or.inr (fun c hc hcN => ?_)
      by_cases w : c < N
      · obtain ⟨w1, w2, w3⟩ := hC c hc w
        have hj : ∀ j : Int, 0 ≤ j → j < 8 * N → vN f h j.toNat = vN f0 h j.toNat := fun j h1 h2 => hp _ (by omega)
        have sg : ∀ x e : Int, SegC (vO f0 h) (vA f0 h) x e n0 → SegC (vO f h) (vA f h) x e nc := fun x e ⟨⟨s1, s2⟩, s3, s4⟩ => ⟨⟨s1, by omega⟩, by omega, segn_ext s4 s1 q3 s3⟩
        unfold CL1
        rw [hj (8 * c) (by omega) (by omega), hj (8 * c + 1) (by omega) (by omega), hj (8 * c + 2) (by omega) (by omega), hj (8 * c + 3) (by omega) (by omega), hj (8 * c + 4) (by omega) (by omega), hj (8 * c + 5) (by omega) (by omega), hj (8 * c + 6) (by omega) (by omega)]
        exact ⟨w1, sg _ _ w2, sg _ _ w3⟩
      · have e : c = N := by omega
        subst e
        unfold CL1
        have e00 : 8 * c = 8 * c + 0 := by omega
        rw [e1, e2, e3, e4, e5, e6, e00, e0]
        exact ⟨fun z => by omega, ⟨hb.2.1, hb.2.2.1, q1⟩, ⟨hb.2.2.2.1, hb.2.2.2.2, q2⟩⟩
end HEAP
/-- while the text is written into the row: T its place -/
def TB (g g0 n o a : Nat → Int32) (T N k1 k2 : Int) : Prop := (∀ j : Nat, (j : Int) < T → g j = g0 j) ∧ (g (T + 1).toNat).toInt = N ∧ (∀ j : Int, 0 ≤ j → j < k1 → g (T + 2 + j).toNat = n j.toNat) ∧ ∀ j : Int, 0 ≤ j → j < k2 → g (T + 98 + 2 * j).toNat = o j.toNat ∧ g (T + 99 + 2 * j).toNat = a j.toNat
theorem tb_0 {g0 : Nat → Int32} {T : Int} {t1 : Int32} (e1 : g1 = upd g0 i.toNatClampNeg y) (h1 : i.toInt = T) (e2 : g2 = upd g1 t1.toNatClampNeg v) (h2 : t1.toInt = T + 1) (hv : v.toInt = N) (hT : 0 ≤ T) : TB g2 g0 n o a T N 0 0 := by
  have z := tnc (i := i) (by omega)
  have z2 := tnc (i := t1) (by omega)
  refine ⟨fun j hj => by rw [e2, up_n (by omega), e1, up_n (by omega)], ?_, fun j h1 h2 => by omega, fun j h1 h2 => by omega⟩
  have e3 : (T + 1).toNat = t1.toNatClampNeg := by omega
  rw [e3, e2, up_s]
  exact hv
theorem tb_cl {g0 : Nat → Int32} {T k1 k : Int} {t : Int32} (h : TB g g0 n o a T N k1 0) (e : g1 = upd g i.toNatClampNeg y) (hi : i.toInt = T + 2 + t.toInt) (ht : t.toInt = k1) (hk0 : 0 ≤ k1) (hT : 0 ≤ T) (hy : n t.toNatClampNeg = y) (hk : k = k1 + 1) : TB g1 g0 n o a T N k 0 := by
  have z := tnc (i := i) (by omega)
  have z2 := tnc (i := t) (by omega)
  obtain ⟨h1, h2, h3, -⟩ := h
  refine ⟨fun j hj => by rw [e, up_n (by omega)]; exact h1 j hj, by rw [e, up_n (by omega)]; exact h2, fun j j1 j2 => ?_, fun j h1 h2 => by omega⟩
  by_cases w : j = k1
  · have e2 : (T + 2 + j).toNat = i.toNatClampNeg := by omega
    have e3 : j.toNat = t.toNatClampNeg := by omega
    rw [e, e2, e3, up_s, hy]
  · rw [e, up_n (by omega)]
    exact h3 j j1 (by omega)
theorem tb_cd {g0 : Nat → Int32} {T k1 k2 k : Int} {t i2 y2 : Int32} (h : TB g g0 n o a T N k1 k2) (e : g1 = upd g i.toNatClampNeg y) (hi : i.toInt = T + 98 + 2 * t.toInt) (e' : g2 = upd g1 i2.toNatClampNeg y2) (hi2 : i2.toInt = i.toInt + 1) (ht : t.toInt = k2) (hk0 : 0 ≤ k2) (hT : 0 ≤ T) (h96 : k1 ≤ 96) (hy : o t.toNatClampNeg = y) (hy2 : a t.toNatClampNeg = y2) (hk : k = k2 + 1) : TB g2 g0 n o a T N k1 k := by
  have z := tnc (i := i) (by omega)
  have z3 := tnc (i := i2) (by omega)
  have z2 := tnc (i := t) (by omega)
  obtain ⟨h1, h2, h3, h4⟩ := h
  have hn : ∀ j : Nat, j ≠ i.toNatClampNeg → j ≠ i2.toNatClampNeg → g2 j = g j := fun j a1 a2 => by rw [e', up_n a2, e, up_n a1]
  refine ⟨fun j hj => by rw [hn j (by omega) (by omega)]; exact h1 j hj, by rw [hn _ (by omega) (by omega)]; exact h2, fun j j1 j2 => by rw [hn _ (by omega) (by omega)]; exact h3 j j1 j2, fun j j1 j2 => ?_⟩
  by_cases w : j = k2
  · have e2 : (T + 98 + 2 * j).toNat = i.toNatClampNeg := by omega
    have e4 : (T + 99 + 2 * j).toNat = i2.toNatClampNeg := by omega
    have e3 : j.toNat = t.toNatClampNeg := by omega
    rw [e2, e4, e3, e', up_s, up_n (by omega), e, up_s, hy, hy2]
    exact ⟨rfl, rfl⟩
  · rw [hn _ (by omega) (by omega), hn _ (by omega) (by omega)]
    exact h4 j j1 (by omega)
theorem opI_e {d : Int → Int} {e k op arg : Int} {E : Int} (h : opI d e k op arg) (he : e = E) : opI d E k op arg := by subst he; exact h
/-- the new text -/
theorem tx_new {g0 : Nat → Int32} {p3 : Int32} {T k1 k2 : Int} (h : TX g0) (m3 : g0 3 = p3) (h3 : 0 ≤ p3.toInt ∧ p3.toInt ≤ 19) (hT : T = 17982 + 898 * p3.toInt) (hB : TB g g0 n o a T N k1 k2) (hC : CLs o a n nc N) (hN : 0 ≤ N ∧ N ≤ 12) (hk1 : k1 = 8 * N) (hk2 : k2 = nc) (hnc : 0 ≤ nc ∧ nc ≤ 400) (e : g1 = upd g (3 : Int32).toNatClampNeg y) (hy : y.toInt = p3.toInt + 1) : TX g1 := by
  have e3' : (3 : Int32).toNatClampNeg = 3 := by decide
  rw [e3'] at e
  obtain ⟨b1, b2, b3, b4⟩ := hB
  have hg : ∀ j : Int, 17982 ≤ j → g1 j.toNat = g j.toNat := fun j hj => by rw [e, up_n (by omega)]
  have hg0 : ∀ j : Int, 17982 ≤ j → j < T → g1 j.toNat = g0 j.toNat := fun j hj hjT => by rw [hg j hj]; exact b1 _ (by omega)
  intro t ht ht3
  rw [e, up_s, hy] at ht3
  by_cases w : t < p3.toInt
  · obtain ⟨z1, z2⟩ := h t ht (by rw [m3]; exact w)
    have hs : ∀ a e : Int, Seg g0 t a e → Seg g1 t a e := fun a e ⟨q1, q2, d, q3, q4⟩ => ⟨q1, q2, d, q3, fun k hk1 hk2 => by
      have z := q4 k hk1 hk2
      rw [hg0 _ (by omega) (by omega), hg0 _ (by omega) (by omega)]
      exact z⟩
    unfold TXo
    rw [hg0 _ (by omega) (by omega)]
    refine ⟨z1, fun c hc hcn => ?_⟩
    obtain ⟨w1, w2, w3⟩ := z2 c hc hcn
    rw [hg0 _ (by omega) (by omega), hg0 _ (by omega) (by omega), hg0 _ (by omega) (by omega), hg0 _ (by omega) (by omega), hg0 _ (by omega) (by omega), hg0 _ (by omega) (by omega), hg0 _ (by omega) (by omega)]
    exact ⟨w1, hs _ _ w2, hs _ _ w3⟩
  · have et : t = p3.toInt := by omega
    have eN : (g1 (17983 + 898 * t).toNat).toInt = N := by
      rw [hg _ (by omega), show 17983 + 898 * t = T + 1 by omega]
      exact b2
    have ec : ∀ c j : Int, 0 ≤ c → c < N → 0 ≤ j → j < 8 → g1 (17984 + 898 * t + 8 * c + j).toNat = n (8 * c + j).toNat := fun c j h1 h2 h3 h4 => by
      rw [hg _ (by omega), show 17984 + 898 * t + 8 * c + j = T + 2 + (8 * c + j) by omega]
      exact b3 _ (by omega) (by omega)
    have hs : ∀ x z : Int, SegC o a x z nc → Seg g1 t x z := fun x z ⟨⟨q1, q2⟩, q3, d, q4, q5⟩ => ⟨⟨q1, by omega⟩, by omega, d, q4, fun k hk1 hk2 => by
      have w1 := q5 k hk1 hk2
      have w2 := b4 k (by omega) (by omega)
      rw [hg _ (by omega), hg _ (by omega), show 18080 + 898 * t + 2 * k = T + 98 + 2 * k by omega, show 18081 + 898 * t + 2 * k = T + 99 + 2 * k by omega, w2.1, w2.2]
      exact w1⟩
    unfold TXo
    rw [eN]
    refine ⟨hN, fun c hc hcn => ?_⟩
    obtain ⟨w1, w2, w3⟩ := hC c hc hcn
    have f0 := ec c 0 hc hcn (by omega) (by omega)
    have f1 := ec c 1 hc hcn (by omega) (by omega)
    have f2 := ec c 2 hc hcn (by omega) (by omega)
    have f3 := ec c 3 hc hcn (by omega) (by omega)
    have f4 := ec c 4 hc hcn (by omega) (by omega)
    have f5 := ec c 5 hc hcn (by omega) (by omega)
    have f6 := ec c 6 hc hcn (by omega) (by omega)
    rw [show 17984 + 898 * t + 8 * c = 17984 + 898 * t + 8 * c + 0 by omega, show 17985 + 898 * t + 8 * c = 17984 + 898 * t + 8 * c + 1 by omega, show 17986 + 898 * t + 8 * c = 17984 + 898 * t + 8 * c + 2 by omega, show 17987 + 898 * t + 8 * c = 17984 + 898 * t + 8 * c + 3 by omega, show 17988 + 898 * t + 8 * c = 17984 + 898 * t + 8 * c + 4 by omega, show 17989 + 898 * t + 8 * c = 17984 + 898 * t + 8 * c + 5 by omega, show 17990 + 898 * t + 8 * c = 17984 + 898 * t + 8 * c + 6 by omega, f0, f1, f2, f3, f4, f5, f6, show 8 * c + 0 = 8 * c by omega]
    exact ⟨w1, hs _ _ w2, hs _ _ w3⟩
end P3
theorem dj_triv1 {f0 f : Nat → va_E} {h : Nat} {n0 x e x2 e2 w : Int} (D : DJ f0 f h n0 x e x2 e2) : DJ f0 f h n0 w w x2 e2 := by
  rcases D with q | ⟨-, q2, q⟩
  · exact Or.inl q
  · exact Or.inr ⟨segn_0, q2, q⟩
theorem dj_triv2 {f0 f : Nat → va_E} {h : Nat} {n0 x e x2 e2 w : Int} (D : DJ f0 f h n0 x e x2 e2) : DJ f0 f h n0 x e w w := by
  rcases D with q | ⟨q1, -, q⟩
  · exact Or.inl q
  · exact Or.inr ⟨q1, segn_0, q⟩
theorem cl_keep {cI cJ cZ cD cR cT : ClassId} {kp : Nat → Nat} {L : List Nat} {f f1 : Nat → va_E} {ms : List (Nat × Nat)} {h : Nat} (C : (oI (f h) 18).toInt = 1 ∨ CLs (vO f h) (vA f h) (vN f h) (oI (f h) 21).toInt (oI (f h) 19).toInt) (hTH : TH cI cJ cZ cD cR cT kp L f) (g : FM kp L ms f f1) (hr : RK kp L h 12) (hc : noC ms = true) (h1 : ms.contains (12, 20) = false) (h2 : ms.contains (840, 0) = false) (h3 : ms.contains (12, 19) = false) (hb : (oI (f h) 18).toInt = 1 → (oI (f1 h) 18).toInt = 1) : (oI (f1 h) 18).toInt = 1 ∨ CLs (vO f1 h) (vA f1 h) (vN f1 h) (oI (f1 h) 21).toInt (oI (f1 h) 19).toInt := by
  rcases C with q | q
  · exact Or.inl (hb q)
  · obtain ⟨e1, e2, e3⟩ := c_keep hTH g hr hc
    have e4 : vN f1 h = vN f h := by unfold vN; rw [fm_R g hr h1, fm_A g (th_ref hTH hr (by decide) (by decide) (show fTab 12 20 = (2, 840, 0, 0) from rfl)) (by decide) h2]
    rw [e1, e2, e3, e4, fm_I g hr h3]
    exact Or.inr q
theorem cn_keep {cI cJ cZ cD cR cT : ClassId} {kp : Nat → Nat} {L : List Nat} {f f1 : Nat → va_E} {ms : List (Nat × Nat)} {h : Nat} {cN cO cA : Nat → Int32} (C : vN f h = cN ∧ vO f h = cO ∧ vA f h = cA) (hTH : TH cI cJ cZ cD cR cT kp L f) (g : FM kp L ms f f1) (hr : RK kp L h 12) (hc : noC ms = true) (h1 : ms.contains (12, 20) = false) (h2 : ms.contains (840, 0) = false) : vN f1 h = cN ∧ vO f1 h = cO ∧ vA f1 h = cA := by
  obtain ⟨e1, e2, e3⟩ := c_keep hTH g hr hc
  have e4 : vN f1 h = vN f h := by unfold vN; rw [fm_R g hr h1, fm_A g (th_ref hTH hr (by decide) (by decide) (show fTab 12 20 = (2, 840, 0, 0) from rfl)) (by decide) h2]
  rw [e1, e2, e4]
  exact C
theorem not_zero {P : Prop} (h : some (Value.int (1 : Int32)) = some (Value.int 0)) : P := absurd (congrArg (fun o : Option Value => match o with
  | some (.int x) => x.toInt
  | _ => 0) h) (by decide)
theorem ent_no2 {g g1 : Nat → Int32} {i y v : Int32} {N off j : Int} (h : g (N + j).toNat = v) (e : g1 = upd g i.toNatClampNeg y) (hi : i.toInt = N + off) (hN : 0 ≤ N) (hne : (off ≠ j ∧ 0 ≤ off) ∧ 0 ≤ j) : g1 (N + j).toNat = v := ent_no h e (by omega) (by omega)
theorem ent_st2 {g g1 : Nat → Int32} {i y : Int32} {N off : Int} (e : g1 = upd g i.toNatClampNeg y) (hi : i.toInt = N + off) (hN : 0 ≤ N) (h0 : 0 ≤ off) : g1 (N + off).toNat = y := ent_st e hi (by omega)
theorem pre_st2 {g g1 g2 : Nat → Int32} {i y : Int32} {N off : Int} (h : ∀ j : Nat, (j : Int) < N → g j = g2 j) (e : g1 = upd g i.toNatClampNeg y) (hi : i.toInt = N + off) (hN : 0 ≤ N) (h0 : 0 ≤ off) : ∀ j : Nat, (j : Int) < N → g1 j = g2 j := pre_st h e (by omega)
theorem ent_z2 {g : Nat → Int32} {N j : Int} (h : ZR g N 8) (hj : 0 ≤ j ∧ j < 8) : g (N + j).toNat = 0 := ent_z h (by omega) (by omega)
