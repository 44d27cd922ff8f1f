/-! the parser: brackets, clauses -/
/-- its: the highest bracket among the k lowest of the pile -/
def innI (pl : Nat → Int32) (its k : Int) : Prop := (its = -1 ∧ ∀ j : Nat, (j : Int) < k → (pl j).toInt < 30) ∨ (30 ≤ its ∧ ∃ i : Nat, (i : Int) < k ∧ (pl i).toInt = its ∧ ∀ j : Nat, i < j → (j : Int) < k → (pl j).toInt < 30)
def SegN (o a : Nat → Int32) (x e : Int) : Prop := ∃ d : Int → Int, d x ≤ 0 ∧ ∀ k : Int, x ≤ k → k < e → opI d e k (o k.toNat).toInt (a k.toNat).toInt
section INN
variable {pl : Nat → Int32} {i y : Int32} {its k : Int}
theorem inn_0 : innI pl (-1) 0 := Or.inl ⟨rfl, fun j h => by omega⟩
theorem inn_br (h : innI pl its i.toInt) (h0 : 0 ≤ i.toInt) (m : pl i.toNatClampNeg = y) (hy : 30 ≤ y.toInt) {k : Int} (hk : k = i.toInt + 1) : innI pl y.toInt k := by
  have z := tnc h0
  refine Or.inr ⟨hy, i.toNatClampNeg, by omega, by rw [m], fun j h1 h2 => by omega⟩
theorem inn_no (h : innI pl its i.toInt) (h0 : 0 ≤ i.toInt) (m : pl i.toNatClampNeg = y) (hy : y.toInt < 30) {k : Int} (hk : k = i.toInt + 1) : innI pl its k := by
  have z := tnc h0
  have hn : ∀ j : Nat, (j : Int) < k → ¬ (j : Int) < i.toInt → (pl j).toInt < 30 := fun j h1 h2 => by
    have e : j = i.toNatClampNeg := by omega
    subst e
    rw [m]
    exact hy
  rcases h with ⟨h1, h2⟩ | ⟨h1, q, h2, h3, h4⟩
  · refine Or.inl ⟨h1, fun j hj => ?_⟩
    by_cases w : (j : Int) < i.toInt
    · exact h2 j w
    · exact hn j hj w
  · refine Or.inr ⟨h1, q, by omega, h3, fun j hj hk2 => ?_⟩
    by_cases w : (j : Int) < i.toInt
    · exact h4 j hj w
    · exact hn j hk2 w
end INN
section INN2
variable {f f1 : Nat → va_E} {h : Nat} {gO gA : Nat → Int32} {ga t r n : Int}
theorem gi_no31 (hG : GI f h gO gA ga 3) (hi : innI (vP f h) r (oI (f h) 27).toInt) (hr : ¬ r = 31) (h0 : 0 ≤ (oI (f h) 27).toInt) : GI f h gO gA ga 2 := by
  rcases hG with q | ⟨⟨q1, q2, q3, -, -⟩, fr⟩
  · exact Or.inl q
  · refine Or.inr ⟨⟨fun w => by omega, fun _ => q2 (by omega), q3, fun _ k hk h31 => ?_, fun w => by omega⟩, fr⟩
    rcases hi with ⟨h1, h2⟩ | ⟨h1, i, h2, h3, h4⟩
    · have := h2 k (by omega); omega
    · rcases Nat.lt_trichotomy i k with w | w | w
      · have := h4 k w (by omega); omega
      · subst w; omega
      · have := q3 k i w (by omega) h31
        omega
theorem gi_over (hG : GI f h gO gA ga t) (ht : 2 ≤ t) (hi : innI (vP f h) r (oI (f h) 27).toInt) (hr : r = -1) (h0 : 0 ≤ (oI (f h) 27).toInt) : GI f h gO gA ga 4 := by
  rcases hG with q | ⟨⟨q1, q2, q3, -, -⟩, fr⟩
  · exact Or.inl q
  · refine Or.inr ⟨⟨fun w => by omega, fun _ => q2 ht, q3, fun w => by omega, fun _ k hk => ?_⟩, fr⟩
    rcases hi with ⟨h1, h2⟩ | ⟨h1, -⟩
    · exact h2 k (by omega)
    · omega
theorem inn_ex {pl : Nat → Int32} (hi : innI pl r n) (hr : ¬ r = -1) : ∃ k : Nat, (k : Int) < n ∧ (pl k).toInt = r ∧ 30 ≤ (pl k).toInt ∧ ∀ j : Nat, k < j → (j : Int) < n → (pl j).toInt < 30 := by
  rcases hi with ⟨h1, -⟩ | ⟨h1, i, h2, h3, h4⟩
  · exact absurd h1 hr
  · exact ⟨i, h2, h3, by omega, h4⟩
/-- behind must, settle(5) at a square bracket -/
theorem close31 (hG : GI f h gO gA ga 3) (hb : ¬ (oI (f h) 18).toInt = 1) (hi : innI (vP f h) r n) (hr : r = 31) (hn : n = (oI (f h) 27).toInt) {n1 : Int} (hP : vP f1 h = vP f h) (hle : 0 ≤ n1 ∧ n1 ≤ n) (hs : n1 = 0 ∨ bnI (vP f h (n1 - 1).toNat).toInt < 5) (ho : ∀ k : Nat, n1 ≤ (k : Int) → (k : Int) < n → 5 ≤ bnI (vP f h k).toInt) : 1 ≤ n1 ∧ ((vP f1 h (n1 - 1).toNat).toInt = 30 ∨ (vP f1 h (n1 - 1).toNat).toInt = 31) := by
  obtain ⟨k, k1, k2, -, k3⟩ := inn_ex hi (by omega)
  obtain ⟨w1, w2⟩ := top31 hG hb hn hle.1 ⟨k, k1, by omega, k3⟩ hs ho hle.2
  exact ⟨w1, Or.inr (by rw [hP]; exact w2)⟩
/-- behind must, settle(1) at a round bracket -/
theorem close30 (hG : GI f h gO gA ga 2) (hb : ¬ (oI (f h) 18).toInt = 1) (hi : innI (vP f h) r n) (hr : ¬ r = -1) (hn : n = (oI (f h) 27).toInt) {n1 : Int} (hP : vP f1 h = vP f h) (hle : 0 ≤ n1 ∧ n1 ≤ n) (hs : n1 = 0 ∨ bnI (vP f h (n1 - 1).toNat).toInt < 1) (ho : ∀ k : Nat, n1 ≤ (k : Int) → (k : Int) < n → 1 ≤ bnI (vP f h k).toInt) : 1 ≤ n1 ∧ ((vP f1 h (n1 - 1).toNat).toInt = 30 ∨ (vP f1 h (n1 - 1).toNat).toInt = 31) := by
  obtain ⟨k, k1, k2, k4, k3⟩ := inn_ex hi hr
  obtain ⟨w1, k', e, w2, w3⟩ := top30 hle.1 ⟨k, k1, k4, k3⟩ hs ho hle.2
  refine ⟨w1, ?_⟩
  rw [hP, e]
  rcases hG with q | ⟨⟨-, q2, -, -, -⟩, -⟩
  · exact absurd q hb
  · obtain ⟨-, d, -, -, h5⟩ := q2 (by omega)
    have := po_rng h5 k' (by omega)
    omega
theorem gi_start (h27 : (oI (f h) 27).toInt = 0) (h21 : 0 ≤ (oI (f h) 21).toInt) (e1 : vO f h = gO) (e2 : vA f h = gA) (e3 : (oI (f h) 21).toInt = ga) (ht : t = 0 ∨ t = 1) : GI f h gO gA ga t := by
  refine Or.inr ⟨⟨fun _ => ?_, fun w => by omega, fun k j hk hj => by omega, fun _ k hk => by omega, fun w => by omega⟩, fun k hk => ⟨by rw [e1], by rw [e2]⟩⟩
  rw [h27, e3]
  exact ps_start (by omega)
end INN2
section L2I
variable {p : Program} {l : Launch} {e : Env} {R : Room} {s : State} {m : MethodId} {args : Array Value} {below : List Frame} {meth : Method} {c : Code} {H : Heap} {locs : List Loc} {cells slots : Nat} {Q : State → Prop}
variable {cc : ByteArray} {pc : Nat} {ls : Array Slot} {rest : List Value}
theorem q_l2iC (hx : p.tables.exec = Jvm.exec) (hb : c.code = cc) {x : Int64} {X : Int} (hdg : decode cc pc = .ok (.l2i, 1)) (hX : x.toInt = X) (kk : ∀ z : Int32, (X < -2147483648 ∨ 2147483647 < X ∨ z.toInt = X) → W p l e R s m args below meth c H locs cells slots Q (F0 m (pc + 1) ls (.int z :: rest))) : W p l e R s m args below meth c H locs cells slots Q (F0 m pc ls (.long x :: rest)) := by
  by_cases w : -2147483648 ≤ X ∧ X ≤ 2147483647
  · exact q_l2i hx hb hdg hX (by omega) (fun z hz => kk z (Or.inr (Or.inr hz)))
  · exact u_l2i hx hb hdg (fun z => kk z (by omega))
end L2I
theorem bn_lt {o : Int} (h : 1 ≤ bnI o) : o < 30 := by
  by_cases w : o < 30
  · exact w
  · rw [bn_hi (by omega)] at h; omega
theorem pop_all {pl : Nat → Int32} {z y : Int32} {n N u : Int} (hv : ∀ k : Nat, n ≤ (k : Int) → (k : Int) < N → u ≤ bnI (pl k).toInt) (m : pl z.toNatClampNeg = y) (hz : z.toInt = n - 1) (h0 : 0 ≤ z.toInt) (hb : u ≤ bnI y.toInt) : ∀ k : Nat, z.toInt ≤ (k : Int) → (k : Int) < N → u ≤ bnI (pl k).toInt := fun k h1 h2 => by
  by_cases w : n ≤ (k : Int)
  · exact hv k w h2
  · have e := tnc h0
    have e2 : k = z.toNatClampNeg := by omega
    rw [e2, m]
    exact hb
theorem inn_r {pl : Nat → Int32} {r n : Int} (h : innI pl r n) : r = -1 ∨ 30 ≤ r := by
  rcases h with ⟨h, -⟩ | ⟨h, -⟩
  · exact Or.inl h
  · exact Or.inr h
theorem gs_keep {cI cJ cZ cD cR cT : ClassId} {kp : Nat → Nat} {L : List Nat} {f0 f f1 : Nat → va_E} {ms : List (Nat × Nat)} {h : Nat} (hv : GS f0 f h) (hTH : TH cI cJ cZ cD cR cT kp L f) (g : FM kp L ms f f1) (hr : RK kp L h 12) (hc : noC ms = true) (hp : noP ms = true) : GS f0 f1 h := fun ga h0 => by
  obtain ⟨e1, e2, e3⟩ := c_keep hTH g hr hc
  obtain ⟨e4, e5, e6⟩ := p_keep hTH g hr hp
  rw [e1, e2, e3, e4, e5, e6]
  exact hv ga h0
