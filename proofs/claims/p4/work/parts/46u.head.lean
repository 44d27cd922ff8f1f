/-! exact copies and arithmetic -/
section LIBX
variable {p : Program} {l : Launch} {e : Env} {R : Room} {s : State} {m : MethodId} {args : Array Value} {below : List Frame} {meth : Method} {c : Code} {H : Heap} {locs : List Loc} {cells slots : Nat} {Q : State → Prop}
variable {cc : ByteArray} {pc : Nat} {ls : Array Slot} {rest st0 : List Value} {G : va_G} {A : Nat → Prop} {cI cJ cZ cD cR cT : ClassId} {ret rety : Option FieldType} {nL : Nat} {own : String} {kp : Nat → Nat} {L : List Nat} {f : Nat → va_E} {a a0 K K0 ci k index : Nat}
theorem t_copyx {n0 n1 : Nat} {n : Int32} {N : Int} (E : EV G cI cJ cZ cD cR cT A cc ret nL own p s m args meth c) (hW : WS G cI cJ cZ cD cR cT A kp L f s H locs) (hlk : Cond.methodLink own index arraycopyName ∈ wTab) (hw : Cond.native arraycopyName ∈ wTab ∧ Cond.static arraycopyName ∈ wTab ∧ Cond.initialized "java/lang/System" ∈ wTab) (hsz : ls.size = nL) (hnN : n.toInt = N) (hr0 : RK kp L a0 K0) (hK0 : 100 ≤ K0) (hT0 : aTag K0 = 0) (hr : RK kp L a K)  (hK : 100 ≤ K) (hT : aTag K = 0) (hl0 : aLen K0 = n0) (h00 : n0 ≠ 0) (hl1 : aLen K = n1) (h01 : n1 ≠ 0) (hsk : sKind K = false) (hN : 0 ≤ N ∧ N ≤ (min n0 n1 : Nat)) (hcp : aCP K0 (aI (f a0)) → aCP K (aI (f a)) → aCP K (va_cpy (aI (f a0)) (aI (f a)) 0 0 n.toNatClampNeg))
    (hR : 1 ≤ R.frames ∧ (rest.map fun v => v.category).sum + (nativeFrameWords "java/lang/System" "arraycopy" 5 + 11) ≤ R.locals) (hdg : decode cc pc = .ok (.invokestatic index, 3))
    (kk : ∀ (f1 : Nat → va_E) (H1 : Heap) (locs1 : List Loc), (∀ b, b ≠ a → f1 b = f b) → aI (f1 a) = va_cpy (aI (f a0)) (aI (f a)) 0 0 n.toNatClampNeg → FM kp L [(K, 0)] f f1 → WS G cI cJ cZ cD cR cT A kp L f1 s H1 locs1 → W p l e R s m args below meth c H1 locs1 cells slots Q (F0 m (pc + 3) ls rest)) : W p l e R s m args below meth c H locs cells slots Q (F0 m pc ls (.int n :: .int 0 :: .ref a :: .int 0 :: .ref a0 :: rest)) := by
  obtain ⟨hx, hb, -, hml, hown, hts, -, hKK, -⟩ := E
  obtain ⟨x0, g0, e0, l0, c0⟩ := th_int hW hr0 hK0 hT0
  obtain ⟨x1, g1, e1, l1, c1⟩ := th_int hW hr hK hT
  obtain ⟨hP, hD, hS, hTH⟩ := hW
  obtain ⟨q0, hq0⟩ := ws_at ⟨hP, hD, hS, hTH⟩ hr0.1
  obtain ⟨q1, hq1⟩ := ws_at ⟨hP, hD, hS, hTH⟩ hr.1
  have hset : ∀ x, (va_pl L f).set q1 (a, x) = va_pl L (va_up f a x) := fun x => pl_set hD hr.1 hq1
  have hq1' := hq1
  rw [e0] at hq0
  rw [e1] at hq1'
  obtain ⟨d1, d2⟩ := aI_of e0
  obtain ⟨d3, d4⟩ := aI_of e1
  rw [d1, d3] at hcp
  have hx0 := lenOk_n l0 hl0 h00
  have hx1 := lenOk_n l1 hl1 h01
  have hn0 : ¬ n < 0 := fun z => by have := i32_lt.mp z; have h0 : (0 : Int32).toInt = 0 := rfl; omega
  have hnn : ((n.toNatClampNeg : Nat) : Int) = n.toInt := tnc (by omega)
  refine va_copyi (ty := .int) hx hb (hml.trans hsz.symm) hown (hts _ hlk) (hts _ hw.1) (hts _ hw.2.1) (hts _ hw.2.2) hKK.1 hP hD hS q0 q1 0 0 hq0 hq1' rfl rfl rfl (by decide) (by decide) hn0 (by show 0 + _ ≤ _; omega) (by show 0 + _ ≤ _; omega) (fun _ _ => rfl) hR.1 hR.2 hdg (fun H1 locs1 hP1 hD1 hS1 => ?_)
  rw [hset] at hP1 hD1
  refine kk _ H1 locs1 (fun b hb => va_up_ne _ _ hb) (by rw [va_up_self, d1, d3]; rfl) (fm_ast hr hK (fun k => by rw [e1]; rfl)) ⟨hP1, hD1, hS1, th_up hTH hr ⟨fun h2 => absurd h2 (by omega), fun _ => ?_⟩ hsk⟩
  unfold okA
  rw [hT]
  exact ⟨x1, _, rfl, l1, hcp c0 c1⟩
end LIBX
section NUMX
variable {p : Program} {l : Launch} {e : Env} {R : Room} {s : State} {m : MethodId} {args : Array Value} {below : List Frame} {meth : Method} {c : Code} {H : Heap} {locs : List Loc} {cells slots : Nat} {Q : State → Prop}
variable {cc : ByteArray} {pc : Nat} {ls : Array Slot} {rest : List Value}
theorem x_iadd (hx : p.tables.exec = Jvm.exec) (hb : c.code = cc) {x y : Int32} (hdg : decode cc pc = .ok (.iadd, 1)) (kk : ∀ z : Int32, z = x + y → W p l e R s m args below meth c H locs cells slots Q (F0 m (pc + 1) ls (.int z :: rest))) : W p l e R s m args below meth c H locs cells slots Q (F0 m pc ls (.int y :: .int x :: rest)) := lv_iadd hx hb hdg (kk _ rfl)
theorem x_isub (hx : p.tables.exec = Jvm.exec) (hb : c.code = cc) {x y : Int32} (hdg : decode cc pc = .ok (.isub, 1)) (kk : ∀ z : Int32, z = x - y → W p l e R s m args below meth c H locs cells slots Q (F0 m (pc + 1) ls (.int z :: rest))) : W p l e R s m args below meth c H locs cells slots Q (F0 m pc ls (.int y :: .int x :: rest)) := lv_isub hx hb hdg (kk _ rfl)
theorem x_imul (hx : p.tables.exec = Jvm.exec) (hb : c.code = cc) {x y : Int32} (hdg : decode cc pc = .ok (.imul, 1)) (kk : ∀ z : Int32, z = x * y → W p l e R s m args below meth c H locs cells slots Q (F0 m (pc + 1) ls (.int z :: rest))) : W p l e R s m args below meth c H locs cells slots Q (F0 m pc ls (.int y :: .int x :: rest)) := lv_imul hx hb hdg (kk _ rfl)
theorem x_iand (hx : p.tables.exec = Jvm.exec) (hb : c.code = cc) {x y : Int32} (hdg : decode cc pc = .ok (.iand, 1)) (kk : ∀ z : Int32, z = x &&& y → W p l e R s m args below meth c H locs cells slots Q (F0 m (pc + 1) ls (.int z :: rest))) : W p l e R s m args below meth c H locs cells slots Q (F0 m pc ls (.int y :: .int x :: rest)) := lv_iand hx hb hdg (kk _ rfl)
theorem x_ishr (hx : p.tables.exec = Jvm.exec) (hb : c.code = cc) {x y : Int32} (hdg : decode cc pc = .ok (.ishr, 1)) (kk : ∀ z : Int32, z = x >>> (y &&& 31) → W p l e R s m args below meth c H locs cells slots Q (F0 m (pc + 1) ls (.int z :: rest))) : W p l e R s m args below meth c H locs cells slots Q (F0 m pc ls (.int y :: .int x :: rest)) := lv_ishr hx hb hdg (kk _ rfl)
theorem x_ishl (hx : p.tables.exec = Jvm.exec) (hb : c.code = cc) {x y : Int32} (hdg : decode cc pc = .ok (.ishl, 1)) (kk : ∀ z : Int32, z = x <<< (y &&& 31) → W p l e R s m args below meth c H locs cells slots Q (F0 m (pc + 1) ls (.int z :: rest))) : W p l e R s m args below meth c H locs cells slots Q (F0 m pc ls (.int y :: .int x :: rest)) := lv_ishl hx hb hdg (kk _ rfl)
theorem x_iushr (hx : p.tables.exec = Jvm.exec) (hb : c.code = cc) {x y : Int32} (hdg : decode cc pc = .ok (.iushr, 1)) (kk : ∀ z : Int32, z = (x.toUInt32 >>> (y.toUInt32 &&& Int32.toUInt32 31)).toInt32 → W p l e R s m args below meth c H locs cells slots Q (F0 m (pc + 1) ls (.int z :: rest))) : W p l e R s m args below meth c H locs cells slots Q (F0 m pc ls (.int y :: .int x :: rest)) := lv_iushr hx hb hdg rfl (kk _ rfl)
end NUMX
/-- four places of the row -/
def Q4 (g g1 : Nat → Int32) (a : Int) (x y z w : Int32) : Prop := (∀ j : Nat, ((j : Int) < a ∨ a + 3 < (j : Int)) → g1 j = g j) ∧ (∀ j : Nat, (j : Int) = a → g1 j = x) ∧ (∀ j : Nat, (j : Int) = a + 1 → g1 j = y) ∧ (∀ j : Nat, (j : Int) = a + 2 → g1 j = z) ∧ (∀ j : Nat, (j : Int) = a + 3 → g1 j = w)
theorem q4_mk {g g1 : Nat → Int32} {a : Int} {x y z w i0 i1 i2 i3 : Int32} (e : g1 = upd (upd (upd (upd g i0.toNatClampNeg x) i1.toNatClampNeg y) i2.toNatClampNeg z) i3.toNatClampNeg w) (ha : 0 ≤ a) (h0 : i0.toInt = a) (h1 : i1.toInt = a + 1) (h2 : i2.toInt = a + 2) (h3 : i3.toInt = a + 3) : Q4 g g1 a x y z w := by
  have t0 := tnc (i := i0) (by omega)
  have t1 := tnc (i := i1) (by omega)
  have t2 := tnc (i := i2) (by omega)
  have t3 := tnc (i := i3) (by omega)
  subst e
  refine ⟨fun j hj => ?_, fun j hj => ?_, fun j hj => ?_, fun j hj => ?_, fun j hj => ?_⟩
  · rw [up_n (by omega), up_n (by omega), up_n (by omega), up_n (by omega)]
  · rw [up_n (by omega), up_n (by omega), up_n (by omega), show j = i0.toNatClampNeg by omega, up_s]
  · rw [up_n (by omega), up_n (by omega), show j = i1.toNatClampNeg by omega, up_s]
  · rw [up_n (by omega), show j = i2.toNatClampNeg by omega, up_s]
  · rw [show j = i3.toNatClampNeg by omega, up_s]
/-! views of the PEOPLE and of the LEAGUE: the same words for both sides -/
def rs (n s : Nat) (g : Nat → Int32) (b : Nat) : Nat → Int := fun i => if i < n then (g (b + s * i)).toInt else 0
def ds (s : Nat) (g : Nat → Int32) (b : Nat) : Nat → Bool := fun i => decide (i < 40 ∧ (g (b + s * i)).toInt = 4)
def pt {α : Type} (v : Nat → α) (c : Int) (x : α) : Nat → α := fun i => if (i : Int) = c then x else v i
section RS
variable {n s b k c m o o1 N : Nat} {g h g1 : Nat → Int32} {x : Int32}
theorem rs_in (hs : 0 < s) (hk : k = b + s * c) (hc : c < n) : rs n s (upd g k x) b = pt (rs n s g b) (c : Int) x.toInt := by
  funext i
  by_cases e : i = c
  · subst e
    show (if i < n then (upd g k x (b + s * i)).toInt else 0) = if (i : Int) = (i : Int) then x.toInt else rs n s g b i
    rw [if_pos hc, if_pos rfl, ← hk, up_s]
  · have h2 : b + s * i ≠ k := fun z => e (Nat.eq_of_mul_eq_mul_left hs (by omega))
    show (if i < n then (upd g k x (b + s * i)).toInt else 0) = if (i : Int) = (c : Int) then x.toInt else (if i < n then (g (b + s * i)).toInt else 0)
    rw [if_neg (fun z => e (by omega) : ¬ (i : Int) = (c : Int)), up_n h2]
theorem rs_ext (h : ∀ i : Nat, i < n → g1 (o1 + s * i) = g (o + s * i)) : rs n s g1 o1 = rs n s g o := by
  funext i
  by_cases e : i < n
  · show (if i < n then (g1 (o1 + s * i)).toInt else 0) = (if i < n then (g (o + s * i)).toInt else 0)
    rw [h i e]
  · show (if i < n then (g1 (o1 + s * i)).toInt else 0) = (if i < n then (g (o + s * i)).toInt else 0)
    rw [if_neg e, if_neg e]
theorem rs_out (h : ∀ i : Nat, i < n → b + s * i ≠ k) : rs n s (upd g k x) b = rs n s g b := rs_ext (fun i hi => up_n (h i hi))
theorem rs_cpy (h1 : n ≤ m) : rs n 1 (va_cpy g h 0 0 m) 0 = rs n 1 g 0 := rs_ext (fun i hi => by
  unfold va_cpy
  rw [if_pos ⟨by omega, by omega⟩]
  congr 1
  omega)
theorem ds_in (hs : 0 < s) (hk : k = b + s * c) (hc : c < 40) : ds s (upd g k x) b = pt (ds s g b) (c : Int) (decide (x.toInt = 4)) := by
  funext i
  by_cases e : i = c
  · subst e
    show decide (i < 40 ∧ (upd g k x (b + s * i)).toInt = 4) = if (i : Int) = (i : Int) then decide (x.toInt = 4) else ds s g b i
    rw [if_pos rfl, ← hk, up_s]
    exact decide_eq_decide.mpr ⟨fun z => z.2, fun z => ⟨hc, z⟩⟩
  · have h2 : b + s * i ≠ k := fun z => e (Nat.eq_of_mul_eq_mul_left hs (by omega))
    show decide (i < 40 ∧ (upd g k x (b + s * i)).toInt = 4) = if (i : Int) = (c : Int) then decide (x.toInt = 4) else decide (i < 40 ∧ (g (b + s * i)).toInt = 4)
    rw [if_neg (fun z => e (by omega) : ¬ (i : Int) = (c : Int)), up_n h2]
theorem ds_iff (h : ∀ i : Nat, i < 40 → ((g1 (o1 + s * i)).toInt = 4 ↔ (g (o + s * i)).toInt = 4)) : ds s g1 o1 = ds s g o :=
  funext fun i => decide_eq_decide.mpr ⟨fun z => ⟨z.1, (h i z.1).mp z.2⟩, fun z => ⟨z.1, (h i z.1).mpr z.2⟩⟩
theorem ds_ext (h : ∀ i : Nat, i < 40 → g1 (o1 + s * i) = g (o + s * i)) : ds s g1 o1 = ds s g o := ds_iff (fun i hi => by rw [h i hi])
theorem ds_out (h : ∀ i : Nat, i < 40 → b + s * i ≠ k) : ds s (upd g k x) b = ds s g b := ds_ext (fun i hi => up_n (h i hi))
theorem ds_keep (h : x.toInt = 4 ↔ (g k).toInt = 4) : ds s (upd g k x) b = ds s g b := ds_iff (fun i hi => by
  by_cases e : b + s * i = k
  · rw [e, up_s]; exact h
  · rw [up_n e])
theorem ds_cpy (h1 : 40 ≤ m) : ds 1 (va_cpy g h 0 0 m) 0 = ds 1 g 0 := ds_ext (fun i hi => by
  unfold va_cpy
  rw [if_pos ⟨by omega, by omega⟩]
  congr 1
  omega)
end RS
abbrev VP : Type := Int × (Nat → Int) × (Nat → Int) × (Nat → Int) × (Nat → Bool)
abbrev VL : Type := Int × Int × (Nat → Int) × (Nat → Int)
/-- PEOPLE: how many; their HOUSES, FEARS, HEEDS; who is DEAD -/
def P8 (f : Nat → va_E) (p : Nat) : VP := ((oI (f p) 0).toInt, rs 40 1 (aI (f (oR (f p) 1))) 0, rs 40 1 (aI (f (oR (f p) 3))) 0, rs 40 1 (aI (f (oR (f p) 4))) 0, ds 1 (aI (f (oR (f p) 6))) 0)
def RP (g : Nat → Int32) (o : Nat) : VP := ((g o).toInt, rs 40 8 g (o + 20), rs 40 8 g (o + 22), rs 40 8 g (o + 23), ds 8 g (o + 25))
/-- the LEAGUE: how many offers; BRAVE; what they give to both -/
def L8 (f : Nat → va_E) (l : Nat) : VL := ((oI (f l) 3).toInt, (oI (f l) 1).toInt, rs 9 1 (aI (f (oR (f l) 4))) 0, rs 9 1 (aI (f (oR (f l) 5))) 0)
def RG (g : Nat → Int32) (o : Nat) : VL := ((g (o + 6)).toInt, (g (o + 10)).toInt, rs 9 2 g (o + 1164), rs 9 2 g (o + 1165))
def addP (v : VP) (a c : Int) : VP := (v.1 + 1, pt v.2.1 v.1 a, pt v.2.2.1 v.1 c, pt v.2.2.2.1 v.1 (-1), pt v.2.2.2.2 v.1 false)
def heedP (v : VP) (i w : Int) : VP := (v.1, v.2.1, v.2.2.1, pt v.2.2.2.1 i w, v.2.2.2.2)
def goesP (v : VP) (i w : Int) : VP := (v.1, v.2.1, v.2.2.1, v.2.2.2.1, pt v.2.2.2.2 i (decide (w = 4)))
def addO (v : VL) (a b : Int) : VL := (v.1 + 1, v.2.1, pt v.2.2.1 v.1 a, pt v.2.2.2 v.1 b)
def braveL (v : VL) (a : Int) : VL := (v.1, a, v.2.2.1, v.2.2.2)
/-- a call: the answer, and how things are behind it -/
def sPerson (v : VP) (a b c : Int) : Int × VP := if (0 ≤ a ∧ a ≤ 19) ∧ (0 ≤ b ∧ b ≤ 1000000) ∧ 0 ≤ c ∧ c ≤ 100 then (if v.1 < 40 then (v.1, addP v a c) else (-5, v)) else (-1, v)
def sHeed (v : VP) (i w : Int) : Int × VP := if (0 ≤ i ∧ i < v.1) ∧ (w = -1 ∨ (0 ≤ w ∧ w < v.1)) then (if i = w then (-3, v) else (0, heedP v i w)) else (-2, v)
def sGoes (v : VP) (i w : Int) : Int × VP := if 0 ≤ w ∧ w ≤ 4 then (if 0 ≤ i ∧ i < v.1 then (if v.2.2.2.2 i.toNat = true then (-3, v) else (0, goesP v i w)) else (-2, v)) else (-1, v)
def sOffer (v : VL) (a b : Int) : Int × VL := if (-1000 ≤ a ∧ a ≤ 1000) ∧ -1000 ≤ b ∧ b ≤ 1000 then (if v.1 < 9 then (v.1 + 1, addO v a b) else (-5, v)) else (-1, v)
def sBrave (v : VL) (a : Int) : Int × VL := if 0 ≤ a ∧ a ≤ 101 then (v.2.1, braveL v a) else (-1, v)
section STEPS
variable {v v' : VP} {w w' : VL} {r a b c i n : Int}
theorem sPerson_1 (h : ¬ ((0 ≤ a ∧ a ≤ 19) ∧ (0 ≤ b ∧ b ≤ 1000000) ∧ 0 ≤ c ∧ c ≤ 100)) (hr : r = -1) (hv : v' = v) : (r, v') = sPerson v a b c := by
  unfold sPerson; rw [if_neg h, hr, hv]
theorem sPerson_2 (e : v.1 = n) (h : (0 ≤ a ∧ a ≤ 19) ∧ (0 ≤ b ∧ b ≤ 1000000) ∧ 0 ≤ c ∧ c ≤ 100) (h2 : 40 ≤ n) (hr : r = -5) (hv : v' = v) : (r, v') = sPerson v a b c := by
  unfold sPerson; rw [if_pos h, if_neg (by omega), hr, hv]
theorem sPerson_3 (e : v.1 = n) (h : (0 ≤ a ∧ a ≤ 19) ∧ (0 ≤ b ∧ b ≤ 1000000) ∧ 0 ≤ c ∧ c ≤ 100) (h2 : n < 40) (hr : r = n) (hv : v' = addP v a c) : (r, v') = sPerson v a b c := by
  unfold sPerson; rw [if_pos h, if_pos (by omega), hr, hv, e]
theorem sHeed_1 (e : v.1 = n) (h : ¬ ((0 ≤ i ∧ i < n) ∧ (a = -1 ∨ (0 ≤ a ∧ a < n)))) (hr : r = -2) (hv : v' = v) : (r, v') = sHeed v i a := by
  unfold sHeed; rw [e, if_neg h, hr, hv]
theorem sHeed_2 (e : v.1 = n) (h : (0 ≤ i ∧ i < n) ∧ (a = -1 ∨ (0 ≤ a ∧ a < n))) (h2 : i = a) (hr : r = -3) (hv : v' = v) : (r, v') = sHeed v i a := by
  unfold sHeed; rw [e, if_pos h, if_pos h2, hr, hv]
theorem sHeed_3 (e : v.1 = n) (h : (0 ≤ i ∧ i < n) ∧ (a = -1 ∨ (0 ≤ a ∧ a < n))) (h2 : ¬ i = a) (hr : r = 0) (hv : v' = heedP v i a) : (r, v') = sHeed v i a := by
  unfold sHeed; rw [e, if_pos h, if_neg h2, hr, hv]
theorem sGoes_1 (h : ¬ (0 ≤ a ∧ a ≤ 4)) (hr : r = -1) (hv : v' = v) : (r, v') = sGoes v i a := by
  unfold sGoes; rw [if_neg h, hr, hv]
theorem sGoes_2 (e : v.1 = n) (h : 0 ≤ a ∧ a ≤ 4) (h2 : ¬ (0 ≤ i ∧ i < n)) (hr : r = -2) (hv : v' = v) : (r, v') = sGoes v i a := by
  unfold sGoes; rw [e, if_pos h, if_neg h2, hr, hv]
theorem sGoes_3 (e : v.1 = n) (h : 0 ≤ a ∧ a ≤ 4) (h2 : 0 ≤ i ∧ i < n) (h3 : v.2.2.2.2 i.toNat = true) (hr : r = -3) (hv : v' = v) : (r, v') = sGoes v i a := by
  unfold sGoes; rw [e, if_pos h, if_pos h2, if_pos h3, hr, hv]
theorem sGoes_4 (e : v.1 = n) (h : 0 ≤ a ∧ a ≤ 4) (h2 : 0 ≤ i ∧ i < n) (h3 : v.2.2.2.2 i.toNat = false) (hr : r = 0) (hv : v' = goesP v i a) : (r, v') = sGoes v i a := by
  unfold sGoes; rw [e, if_pos h, if_pos h2, h3, if_neg Bool.false_ne_true, hr, hv]
theorem sOffer_1 (h : ¬ ((-1000 ≤ a ∧ a ≤ 1000) ∧ -1000 ≤ b ∧ b ≤ 1000)) (hr : r = -1) (hv : w' = w) : (r, w') = sOffer w a b := by
  unfold sOffer; rw [if_neg h, hr, hv]
theorem sOffer_2 (e : w.1 = n) (h : (-1000 ≤ a ∧ a ≤ 1000) ∧ -1000 ≤ b ∧ b ≤ 1000) (h2 : 9 ≤ n) (hr : r = -5) (hv : w' = w) : (r, w') = sOffer w a b := by
  unfold sOffer; rw [if_pos h, if_neg (by omega), hr, hv]
theorem sOffer_3 (e : w.1 = n) (h : (-1000 ≤ a ∧ a ≤ 1000) ∧ -1000 ≤ b ∧ b ≤ 1000) (h2 : n < 9) (hr : r = n + 1) (hv : w' = addO w a b) : (r, w') = sOffer w a b := by
  unfold sOffer; rw [if_pos h, if_pos (by omega), hr, hv, e]
theorem sBrave_1 (h : ¬ (0 ≤ a ∧ a ≤ 101)) (hr : r = -1) (hv : w' = w) : (r, w') = sBrave w a := by
  unfold sBrave; rw [if_neg h, hr, hv]
theorem sBrave_2 (e : w.2.1 = n) (h : 0 ≤ a ∧ a ≤ 101) (hr : r = n) (hv : w' = braveL w a) : (r, w') = sBrave w a := by
  unfold sBrave; rw [if_pos h, hr, hv, e]
end STEPS
/-! what may change of it, object by object -/
def NO (l ms : List (Nat × Nat)) : Bool := l.all (fun q => !(ms.contains q))
theorem no_at {l ms : List (Nat × Nat)} {q : Nat × Nat} (h : NO l ms = true) (hq : q ∈ l) : ms.contains q = false := by
  have z := List.all_eq_true.mp h q hq
  simpa using z
def UF : List (Nat × Nat) := [(4, 0), (3, 1), (3, 3)]
def UA : List Nat := [341, 343, 344, 284, 285]
def UM : List (Nat × Nat) := [(4, 0), (3, 1), (3, 3), (341, 0), (343, 0), (344, 0), (284, 0), (285, 0), (346, 0)]
def PM : List (Nat × Nat) := [(4, 0), (4, 1), (4, 3), (4, 4), (4, 6), (341, 0), (343, 0), (344, 0), (346, 0)]
def LM : List (Nat × Nat) := [(3, 1), (3, 3), (3, 4), (3, 5), (284, 0), (285, 0)]
def WU (kp : Nat → Nat) (L : List Nat) (S : List Nat) (f0 f : Nat → va_E) : Prop := (∀ b K j : Nat, RK kp L b K → (K, j) ∈ UF → b ∉ S → oI (f b) j = oI (f0 b) j) ∧ (∀ b K : Nat, RK kp L b K → K ∈ UA → b ∉ S → aI (f b) = aI (f0 b)) ∧ (∀ b : Nat, RK kp L b 346 → b ∉ S → ∀ i : Nat, (aI (f b) i).toInt = 4 ↔ (aI (f0 b) i).toInt = 4)
section WU
variable {cI cJ cZ cD cR cT : ClassId} {kp : Nat → Nat} {L S S1 : List Nat} {f0 f f1 : Nat → va_E} {ms : List (Nat × Nat)} {a p l k : Nat} {x : Int32}
theorem wu_rf : WU kp L S f f := ⟨fun _ _ _ _ _ _ => rfl, fun _ _ _ _ _ => rfl, fun _ _ _ _ => Iff.rfl⟩
theorem ua_100 {K : Nat} (h : K ∈ UA) : 100 ≤ K ∧ (K, 0) ∈ UM := by
  simp only [UA, List.mem_cons, List.not_mem_nil, or_false] at h
  rcases h with h | h | h | h | h <;> (subst h; exact ⟨by decide, by decide⟩)
theorem uf_um {K j : Nat} (h : (K, j) ∈ UF) : (K, j) ∈ UM ∧ K ≠ 346 := by
  simp only [UF, List.mem_cons, List.not_mem_nil, or_false, Prod.mk.injEq] at h
  rcases h with ⟨h, h2⟩ | ⟨h, h2⟩ | ⟨h, h2⟩ <;> (subst h; subst h2; exact ⟨by decide, by decide⟩)
theorem wu_fm (h : WU kp L S f0 f) (g : FM kp L ms f f1) (hc : NO UM ms = true) : WU kp L S f0 f1 := by
  refine ⟨fun b K j hb hk hs => ?_, fun b K hb hk hs => ?_, fun b hb hs i => ?_⟩
  · rw [fm_I g hb (no_at hc (uf_um hk).1)]; exact h.1 b K j hb hk hs
  · rw [fm_A g hb (ua_100 hk).1 (no_at hc (ua_100 hk).2)]; exact h.2.1 b K hb hk hs
  · rw [fm_A g hb (by decide) (no_at hc (by decide))]; exact h.2.2 b hb hs i
theorem wu_put (h : WU kp L S f0 f) (n : ∀ b, b ≠ a → f1 b = f b) (ha : a ∈ S) : WU kp L S f0 f1 := by
  refine ⟨fun b K j hb hk hs => ?_, fun b K hb hk hs => ?_, fun b hb hs i => ?_⟩
  · rw [n b (fun e => hs (by rw [e]; exact ha))]; exact h.1 b K j hb hk hs
  · rw [n b (fun e => hs (by rw [e]; exact ha))]; exact h.2.1 b K hb hk hs
  · rw [n b (fun e => hs (by rw [e]; exact ha))]; exact h.2.2 b hb hs i
theorem wu_dead (h : WU kp L S f0 f) (ra : RK kp L a 346) (n : ∀ b, b ≠ a → f1 b = f b) (e : aI (f1 a) = upd (aI (f a)) k x) (hd : x.toInt = 4 ↔ (aI (f a) k).toInt = 4) : WU kp L S f0 f1 := by
  refine ⟨fun b K j hb hk hs => ?_, fun b K hb hk hs => ?_, fun b hb hs i => ?_⟩
  · have hne : b ≠ a := fun z => (uf_um hk).2 (by rw [← hb.2, z, ra.2])
    rw [n b hne]; exact h.1 b K j hb hk hs
  · have hne : b ≠ a := fun z => by
      have e2 : K = 346 := by rw [← hb.2, z, ra.2]
      subst e2
      exact absurd hk (by decide)
    rw [n b hne]; exact h.2.1 b K hb hk hs
  · by_cases hne : b = a
    · subst hne
      rw [e, ← h.2.2 b hb hs i]
      by_cases hi : i = k
      · subst hi; rw [up_s]; exact hd
      · rw [up_n hi]
    · rw [n b hne]; exact h.2.2 b hb hs i
theorem wu_call (h : WU kp L S f0 f) (g : WU kp L S1 f f1) (hs : ∀ q : Nat, q ∈ S1 → q ∈ S) : WU kp L S f0 f1 :=
  ⟨fun b K j hb hk hn => (g.1 b K j hb hk (fun q => hn (hs b q))).trans (h.1 b K j hb hk hn), fun b K hb hk hn => (g.2.1 b K hb hk (fun q => hn (hs b q))).trans (h.2.1 b K hb hk hn), fun b hb hn i => (g.2.2 b hb (fun q => hn (hs b q)) i).trans (h.2.2 b hb hn i)⟩
theorem wu_nil (h : WU kp L [] f f1) : WU kp L S f f1 := wu_call wu_rf h (fun _ h => absurd h List.not_mem_nil)
theorem wu_res {kp1 : Nat → Nat} {L1 : List Nat} (hE : EXT kp L kp1 L1) (h : WU kp1 L1 S f f1) : WU kp L S f f1 := ⟨fun b K j hb => h.1 b K j (hE _ _ hb), fun b K hb => h.2.1 b K (hE _ _ hb), fun b hb => h.2.2 b (hE _ _ hb)⟩
theorem rk_p (h : TH cI cJ cZ cD cR cT kp L f) (r : RK kp L p 4) : RK kp L (oR (f p) 1) 341 ∧ RK kp L (oR (f p) 3) 343 ∧ RK kp L (oR (f p) 4) 344 ∧ RK kp L (oR (f p) 6) 346 :=
  ⟨th_ref h r (by decide) (by decide) rfl, th_ref h r (by decide) (by decide) rfl, th_ref h r (by decide) (by decide) rfl, th_ref h r (by decide) (by decide) rfl⟩
theorem rk_l (h : TH cI cJ cZ cD cR cT kp L f) (r : RK kp L l 3) : RK kp L (oR (f l) 4) 284 ∧ RK kp L (oR (f l) 5) 285 :=
  ⟨th_ref h r (by decide) (by decide) rfl, th_ref h r (by decide) (by decide) rfl⟩
theorem p8_fm (h : TH cI cJ cZ cD cR cT kp L f) (r : RK kp L p 4) (g : FM kp L ms f f1) (hc : NO PM ms = true) : P8 f1 p = P8 f p := by
  obtain ⟨r1, r3, r4, r6⟩ := rk_p h r
  unfold P8
  rw [fm_I g r (k := 0) (no_at hc (by decide)), fm_R g r (k := 1) (no_at hc (by decide)), fm_R g r (k := 3) (no_at hc (by decide)), fm_R g r (k := 4) (no_at hc (by decide)), fm_R g r (k := 6) (no_at hc (by decide)), fm_A g r1 (by decide) (no_at hc (by decide)), fm_A g r3 (by decide) (no_at hc (by decide)), fm_A g r4 (by decide) (no_at hc (by decide)), fm_A g r6 (by decide) (no_at hc (by decide))]
theorem l8_fm (h : TH cI cJ cZ cD cR cT kp L f) (r : RK kp L l 3) (g : FM kp L ms f f1) (hc : NO LM ms = true) : L8 f1 l = L8 f l := by
  obtain ⟨r4, r5⟩ := rk_l h r
  unfold L8
  rw [fm_I g r (k := 3) (no_at hc (by decide)), fm_I g r (k := 1) (no_at hc (by decide)), fm_R g r (k := 4) (no_at hc (by decide)), fm_R g r (k := 5) (no_at hc (by decide)), fm_A g r4 (by decide) (no_at hc (by decide)), fm_A g r5 (by decide) (no_at hc (by decide))]
theorem p8_wu (h : TH cI cJ cZ cD cR cT kp L f) (r : RK kp L p 4) (w : WU kp L S f f1) (e1 : oR (f1 p) 1 = oR (f p) 1) (e3 : oR (f1 p) 3 = oR (f p) 3) (e4 : oR (f1 p) 4 = oR (f p) 4) (e6 : oR (f1 p) 6 = oR (f p) 6) (hd : ∀ q : Nat, q ∈ [p, oR (f p) 1, oR (f p) 3, oR (f p) 4, oR (f p) 6] → q ∉ S) : P8 f1 p = P8 f p := by
  obtain ⟨r1, r3, r4, r6⟩ := rk_p h r
  unfold P8
  rw [e1, e3, e4, e6, w.1 p 4 0 r (by decide) (hd _ (by simp)), w.2.1 _ _ r1 (by decide) (hd _ (by simp)), w.2.1 _ _ r3 (by decide) (hd _ (by simp)), w.2.1 _ _ r4 (by decide) (hd _ (by simp)), ds_iff (s := 1) (o1 := 0) (o := 0) (fun i _ => w.2.2 _ r6 (hd _ (by simp)) (0 + 1 * i))]
theorem l8_wu (h : TH cI cJ cZ cD cR cT kp L f) (r : RK kp L l 3) (w : WU kp L S f f1) (e4 : oR (f1 l) 4 = oR (f l) 4) (e5 : oR (f1 l) 5 = oR (f l) 5) (hd : ∀ q : Nat, q ∈ [l, oR (f l) 4, oR (f l) 5] → q ∉ S) : L8 f1 l = L8 f l := by
  obtain ⟨r4, r5⟩ := rk_l h r
  unfold L8
  rw [e4, e5, w.1 l 3 3 r (by decide) (hd _ (by simp)), w.1 l 3 1 r (by decide) (hd _ (by simp)), w.2.1 _ _ r4 (by decide) (hd _ (by simp)), w.2.1 _ _ r5 (by decide) (hd _ (by simp))]
/-- by names -/
theorem p8_mk {a1 a3 a4 a6 : Nat} {c : Int} {g1 g3 g4 g6 : Nat → Int32} (e1 : oR (f p) 1 = a1) (e3 : oR (f p) 3 = a3) (e4 : oR (f p) 4 = a4) (e6 : oR (f p) 6 = a6) (c0 : (oI (f p) 0).toInt = c) (h1 : aI (f a1) = g1) (h3 : aI (f a3) = g3) (h4 : aI (f a4) = g4) (h6 : aI (f a6) = g6) : P8 f p = (c, rs 40 1 g1 0, rs 40 1 g3 0, rs 40 1 g4 0, ds 1 g6 0) := by
  unfold P8
  rw [e1, e3, e4, e6, c0, h1, h3, h4, h6]
theorem l8_mk {a4 a5 : Nat} {c b : Int} {g4 g5 : Nat → Int32} (e4 : oR (f l) 4 = a4) (e5 : oR (f l) 5 = a5) (c0 : (oI (f l) 3).toInt = c) (b0 : (oI (f l) 1).toInt = b) (h4 : aI (f a4) = g4) (h5 : aI (f a5) = g5) : L8 f l = (c, b, rs 9 1 g4 0, rs 9 1 g5 0) := by
  unfold L8
  rw [e4, e5, c0, b0, h4, h5]
theorem p8_add {a1 a3 a4 a6 : Nat} {c z d u v : Int32} (d1 : oR (f0 p) 1 = a1) (d3 : oR (f0 p) 3 = a3) (d4 : oR (f0 p) 4 = a4) (d6 : oR (f0 p) 6 = a6) (e1 : oR (f p) 1 = a1) (e3 : oR (f p) 3 = a3) (e4 : oR (f p) 4 = a4) (e6 : oR (f p) 6 = a6) (hc : 0 ≤ c.toInt ∧ c.toInt < 40) (c0 : oI (f0 p) 0 = c) (c1 : (oI (f p) 0).toInt = c.toInt + 1) (h1 : aI (f a1) = upd (aI (f0 a1)) c.toNatClampNeg u) (h3 : aI (f a3) = upd (aI (f0 a3)) c.toNatClampNeg v) (h4 : aI (f a4) = upd (aI (f0 a4)) c.toNatClampNeg z) (h6 : aI (f a6) = upd (aI (f0 a6)) c.toNatClampNeg d) (hz : z.toInt = -1) (hd : d.toInt = 0) : P8 f p = addP (P8 f0 p) u.toInt v.toInt := by
  have hn : ((c.toNatClampNeg : Nat) : Int) = c.toInt := tnc hc.1
  have hk : c.toNatClampNeg = 0 + 1 * c.toNatClampNeg := by omega
  have hl : c.toNatClampNeg < 40 := by omega
  rw [p8_mk e1 e3 e4 e6 c1 h1 h3 h4 h6, p8_mk d1 d3 d4 d6 (congrArg Int32.toInt c0) rfl rfl rfl rfl]
  unfold addP
  rw [rs_in (n := 40) (s := 1) (b := 0) (g := aI (f0 a1)) (x := u) (by decide) hk hl, rs_in (n := 40) (s := 1) (b := 0) (g := aI (f0 a3)) (x := v) (by decide) hk hl, rs_in (n := 40) (s := 1) (b := 0) (g := aI (f0 a4)) (x := z) (by decide) hk hl, ds_in (s := 1) (b := 0) (g := aI (f0 a6)) (x := d) (by decide) hk hl, hn, hz, hd]
  rfl
theorem p8_heed {a1 a3 a4 a6 : Nat} {c i z : Int32} (d1 : oR (f0 p) 1 = a1) (d3 : oR (f0 p) 3 = a3) (d4 : oR (f0 p) 4 = a4) (d6 : oR (f0 p) 6 = a6) (e1 : oR (f p) 1 = a1) (e3 : oR (f p) 3 = a3) (e4 : oR (f p) 4 = a4) (e6 : oR (f p) 6 = a6) (hc : 0 ≤ i.toInt ∧ i.toInt < 40) (c0 : oI (f0 p) 0 = c) (c1 : oI (f p) 0 = c) (h1 : aI (f a1) = aI (f0 a1)) (h3 : aI (f a3) = aI (f0 a3)) (h4 : aI (f a4) = upd (aI (f0 a4)) i.toNatClampNeg z) (h6 : aI (f a6) = aI (f0 a6)) : P8 f p = heedP (P8 f0 p) i.toInt z.toInt := by
  have hn : ((i.toNatClampNeg : Nat) : Int) = i.toInt := tnc hc.1
  have hk : i.toNatClampNeg = 0 + 1 * i.toNatClampNeg := by omega
  have hl : i.toNatClampNeg < 40 := by omega
  rw [p8_mk e1 e3 e4 e6 (congrArg Int32.toInt c1) h1 h3 h4 h6, p8_mk d1 d3 d4 d6 (congrArg Int32.toInt c0) rfl rfl rfl rfl]
  unfold heedP
  rw [rs_in (n := 40) (s := 1) (b := 0) (g := aI (f0 a4)) (x := z) (by decide) hk hl, hn]
theorem p8_goes {a1 a3 a4 a6 : Nat} {c i z : Int32} (d1 : oR (f0 p) 1 = a1) (d3 : oR (f0 p) 3 = a3) (d4 : oR (f0 p) 4 = a4) (d6 : oR (f0 p) 6 = a6) (e1 : oR (f p) 1 = a1) (e3 : oR (f p) 3 = a3) (e4 : oR (f p) 4 = a4) (e6 : oR (f p) 6 = a6) (hc : 0 ≤ i.toInt ∧ i.toInt < 40) (c0 : oI (f0 p) 0 = c) (c1 : oI (f p) 0 = c) (h1 : aI (f a1) = aI (f0 a1)) (h3 : aI (f a3) = aI (f0 a3)) (h4 : aI (f a4) = aI (f0 a4)) (h6 : aI (f a6) = upd (aI (f0 a6)) i.toNatClampNeg z) : P8 f p = goesP (P8 f0 p) i.toInt z.toInt := by
  have hn : ((i.toNatClampNeg : Nat) : Int) = i.toInt := tnc hc.1
  have hk : i.toNatClampNeg = 0 + 1 * i.toNatClampNeg := by omega
  have hl : i.toNatClampNeg < 40 := by omega
  rw [p8_mk e1 e3 e4 e6 (congrArg Int32.toInt c1) h1 h3 h4 h6, p8_mk d1 d3 d4 d6 (congrArg Int32.toInt c0) rfl rfl rfl rfl]
  unfold goesP
  rw [ds_in (s := 1) (b := 0) (g := aI (f0 a6)) (x := z) (by decide) hk hl, hn]
theorem p8_dead {a6 : Nat} {i y : Int32} (d6 : oR (f0 p) 6 = a6) (hc : 0 ≤ i.toInt ∧ i.toInt < 40) (hy : aI (f0 a6) i.toNatClampNeg = y) : (P8 f0 p).2.2.2.2 i.toInt.toNat = decide (y.toInt = 4) := by
  show decide (i.toInt.toNat < 40 ∧ (aI (f0 (oR (f0 p) 6)) (0 + 1 * i.toInt.toNat)).toInt = 4) = decide (y.toInt = 4)
  have e : 0 + 1 * i.toInt.toNat = i.toNatClampNeg := by
    show 0 + 1 * i.toInt.toNat = i.toInt.toNat
    omega
  rw [e, d6, hy]
  exact decide_eq_decide.mpr ⟨fun z => z.2, fun z => ⟨by omega, z⟩⟩
theorem p8_copy {q h1 h3 h4 h6 u1 u3 u4 u6 : Nat} {c : Int32} (d1 : oR (f0 q) 1 = u1) (d3 : oR (f0 q) 3 = u3) (d4 : oR (f0 q) 4 = u4) (d6 : oR (f0 q) 6 = u6) (e1 : oR (f p) 1 = h1) (e3 : oR (f p) 3 = h3) (e4 : oR (f p) 4 = h4) (e6 : oR (f p) 6 = h6) (c0 : oI (f0 q) 0 = c) (c1 : oI (f p) 0 = c) {n : Nat} (hn : 40 ≤ n) (k1 : aI (f h1) = va_cpy (aI (f0 u1)) (aI (f0 h1)) 0 0 n) (k3 : aI (f h3) = va_cpy (aI (f0 u3)) (aI (f0 h3)) 0 0 n) (k4 : aI (f h4) = va_cpy (aI (f0 u4)) (aI (f0 h4)) 0 0 n) (k6 : aI (f h6) = va_cpy (aI (f0 u6)) (aI (f0 h6)) 0 0 n) : P8 f p = P8 f0 q := by
  rw [p8_mk e1 e3 e4 e6 (congrArg Int32.toInt c1) k1 k3 k4 k6, p8_mk d1 d3 d4 d6 (congrArg Int32.toInt c0) rfl rfl rfl rfl, rs_cpy hn, rs_cpy hn, rs_cpy hn, ds_cpy hn]
theorem l8_copy {q h4 h5 u4 u5 : Nat} {c b : Int32} (d4 : oR (f0 q) 4 = u4) (d5 : oR (f0 q) 5 = u5) (e4 : oR (f l) 4 = h4) (e5 : oR (f l) 5 = h5) (c0 : oI (f0 q) 3 = c) (c1 : oI (f l) 3 = c) (b0 : oI (f0 q) 1 = b) (b1 : oI (f l) 1 = b) {n : Nat} (hn : 9 ≤ n) (k4 : aI (f h4) = va_cpy (aI (f0 u4)) (aI (f0 h4)) 0 0 n) (k5 : aI (f h5) = va_cpy (aI (f0 u5)) (aI (f0 h5)) 0 0 n) : L8 f l = L8 f0 q := by
  rw [l8_mk e4 e5 (congrArg Int32.toInt c1) (congrArg Int32.toInt b1) k4 k5, l8_mk d4 d5 (congrArg Int32.toInt c0) (congrArg Int32.toInt b0) rfl rfl, rs_cpy hn, rs_cpy hn]
theorem l8_add {a4 a5 : Nat} {c u v : Int32} (d4 : oR (f0 l) 4 = a4) (d5 : oR (f0 l) 5 = a5) (e4 : oR (f l) 4 = a4) (e5 : oR (f l) 5 = a5) (hc : 0 ≤ c.toInt ∧ c.toInt < 9) (c0 : oI (f0 l) 3 = c) (c1 : (oI (f l) 3).toInt = c.toInt + 1) (b1 : oI (f l) 1 = oI (f0 l) 1) (h4 : aI (f a4) = upd (aI (f0 a4)) c.toNatClampNeg u) (h5 : aI (f a5) = upd (aI (f0 a5)) c.toNatClampNeg v) : L8 f l = addO (L8 f0 l) u.toInt v.toInt := by
  have hn : ((c.toNatClampNeg : Nat) : Int) = c.toInt := tnc hc.1
  have hk : c.toNatClampNeg = 0 + 1 * c.toNatClampNeg := by omega
  have hl : c.toNatClampNeg < 9 := by omega
  rw [l8_mk e4 e5 c1 (congrArg Int32.toInt b1) h4 h5, l8_mk d4 d5 (congrArg Int32.toInt c0) rfl rfl rfl]
  unfold addO
  rw [rs_in (n := 9) (s := 1) (b := 0) (g := aI (f0 a4)) (x := u) (by decide) hk hl, rs_in (n := 9) (s := 1) (b := 0) (g := aI (f0 a5)) (x := v) (by decide) hk hl, hn]
theorem l8_brave {x : Int32} (h : TH cI cJ cZ cD cR cT kp L f0) (r : RK kp L l 3) (g : FM kp L ms f0 f) (hc : NO [(3, 3), (3, 4), (3, 5), (284, 0), (285, 0)] ms = true) (hx : oI (f l) 1 = x) : L8 f l = braveL (L8 f0 l) x.toInt := by
  obtain ⟨r4, r5⟩ := rk_l h r
  unfold L8
  rw [fm_I g r (k := 3) (no_at hc (by decide)), hx, fm_R g r (k := 4) (no_at hc (by decide)), fm_R g r (k := 5) (no_at hc (by decide)), fm_A g r4 (by decide) (no_at hc (by decide)), fm_A g r5 (by decide) (no_at hc (by decide))]
  rfl
end WU
/-! the reference's row -/
def RQ : List Nat := 0 :: ((List.range 40).map (fun i => 20 + 8 * i) ++ ((List.range 40).map (fun i => 22 + 8 * i) ++ ((List.range 40).map (fun i => 23 + 8 * i) ++ (List.range 40).map (fun i => 25 + 8 * i))))
def RLQ : List Nat := 6 :: 10 :: (List.range 18).map (fun i => 1164 + i)
section ROWV
variable {kp : Nat → Nat} {L : List Nat} {f0 f f1 : Nat → va_E} {ms rw : List (Nat × Nat)} {g g1 : Nat → Int32} {a r : Nat} {i x y : Int32} {V : VP} {V2 : VL}
theorem rp_ext {o o1 : Nat} (h : ∀ p : Nat, p < 340 → g1 (o1 + p) = g (o + p)) : RP g1 o1 = RP g o := by
  unfold RP
  rw [show g1 o1 = g o from h 0 (by decide), rs_ext (o1 := o1 + 20) (o := o + 20) (g1 := g1) (g := g) (fun i hi => by rw [Nat.add_assoc, Nat.add_assoc]; exact h _ (by omega)), rs_ext (o1 := o1 + 22) (o := o + 22) (g1 := g1) (g := g) (fun i hi => by rw [Nat.add_assoc, Nat.add_assoc]; exact h _ (by omega)), rs_ext (o1 := o1 + 23) (o := o + 23) (g1 := g1) (g := g) (fun i hi => by rw [Nat.add_assoc, Nat.add_assoc]; exact h _ (by omega)), ds_ext (o1 := o1 + 25) (o := o + 25) (g1 := g1) (g := g) (fun i hi => by rw [Nat.add_assoc, Nat.add_assoc]; exact h _ (by omega))]
theorem rl_ext {o o1 : Nat} (h : ∀ p : Nat, p < 1182 → g1 (o1 + p) = g (o + p)) : RG g1 o1 = RG g o := by
  unfold RG
  rw [h 6 (by decide), h 10 (by decide), rs_ext (o1 := o1 + 1164) (o := o + 1164) (g1 := g1) (g := g) (fun i hi => by rw [Nat.add_assoc, Nat.add_assoc]; exact h _ (by omega)), rs_ext (o1 := o1 + 1165) (o := o + 1165) (g1 := g1) (g := g) (fun i hi => by rw [Nat.add_assoc, Nat.add_assoc]; exact h _ (by omega))]
theorem rp_at (h : ∀ p : Nat, p ∈ RQ → g1 p = g p) : RP g1 0 = RP g 0 := by
  have m1 : ∀ i : Nat, i < 40 → 0 + 20 + 8 * i ∈ RQ := fun i hi => List.mem_cons_of_mem _ (List.mem_append_left _ (List.mem_map.mpr ⟨i, List.mem_range.mpr hi, by omega⟩))
  have m2 : ∀ i : Nat, i < 40 → 0 + 22 + 8 * i ∈ RQ := fun i hi => List.mem_cons_of_mem _ (List.mem_append_right _ (List.mem_append_left _ (List.mem_map.mpr ⟨i, List.mem_range.mpr hi, by omega⟩)))
  have m3 : ∀ i : Nat, i < 40 → 0 + 23 + 8 * i ∈ RQ := fun i hi => List.mem_cons_of_mem _ (List.mem_append_right _ (List.mem_append_right _ (List.mem_append_left _ (List.mem_map.mpr ⟨i, List.mem_range.mpr hi, by omega⟩))))
  have m4 : ∀ i : Nat, i < 40 → 0 + 25 + 8 * i ∈ RQ := fun i hi => List.mem_cons_of_mem _ (List.mem_append_right _ (List.mem_append_right _ (List.mem_append_right _ (List.mem_map.mpr ⟨i, List.mem_range.mpr hi, by omega⟩))))
  unfold RP
  rw [h 0 List.mem_cons_self, rs_ext (o1 := 0 + 20) (o := 0 + 20) (g1 := g1) (g := g) (fun i hi => h _ (m1 i hi)), rs_ext (o1 := 0 + 22) (o := 0 + 22) (g1 := g1) (g := g) (fun i hi => h _ (m2 i hi)), rs_ext (o1 := 0 + 23) (o := 0 + 23) (g1 := g1) (g := g) (fun i hi => h _ (m3 i hi)), ds_ext (o1 := 0 + 25) (o := 0 + 25) (g1 := g1) (g := g) (fun i hi => h _ (m4 i hi))]
theorem rl_at (h : ∀ p : Nat, p ∈ RLQ → g1 p = g p) : RG g1 0 = RG g 0 := by
  have m : ∀ i : Nat, i < 18 → 1164 + i ∈ RLQ := fun i hi => List.mem_cons_of_mem _ (List.mem_cons_of_mem _ (List.mem_map.mpr ⟨i, List.mem_range.mpr hi, rfl⟩))
  unfold RG
  rw [show g1 (0 + 6) = g (0 + 6) from h 6 List.mem_cons_self, show g1 (0 + 10) = g (0 + 10) from h 10 (List.mem_cons_of_mem _ List.mem_cons_self), rs_ext (o1 := 0 + 1164) (o := 0 + 1164) (g1 := g1) (g := g) (fun i hi => by have z := h _ (m (2 * i) (by omega)); rw [show 0 + 1164 + 2 * i = 1164 + 2 * i by omega]; exact z), rs_ext (o1 := 0 + 1165) (o := 0 + 1165) (g1 := g1) (g := g) (fun i hi => by have z := h _ (m (2 * i + 1) (by omega)); rw [show 0 + 1165 + 2 * i = 1164 + (2 * i + 1) by omega]; exact z)]
/-- a frame of the row that leaves them -/
theorem rp_rf (h : RF rw f f1 r) (e0 : oR (f r) 2 = a) (hw : RQ.all (fun j => rwOut rw j) = true) : RP (aI (f1 a)) 0 = RP (aI (f a)) 0 :=
  rp_at (fun p hp => rf_get h e0 p (List.all_eq_true.mp hw p hp))
theorem rl_rf (h : RF rw f f1 r) (e0 : oR (f r) 2 = a) (hw : RLQ.all (fun j => rwOut rw j) = true) : RG (aI (f1 a)) 0 = RG (aI (f a)) 0 :=
  rl_at (fun p hp => rf_get h e0 p (List.all_eq_true.mp hw p hp))
theorem rp_fm (h : RP (aI (f a)) 0 = V) (g : FM kp L ms f f1) (hr : RK kp L a 822) (hc : ms.contains (822, 0) = false) : RP (aI (f1 a)) 0 = V := by
  rw [fm_A g hr (by decide) hc]; exact h
/-- a store elsewhere -/
theorem rp_upd (h : RP g 0 = V) (h0 : 0 ≤ i.toInt) (hq : ¬ i.toInt = 0 ∧ (20 ≤ i.toInt → i.toInt ≤ 339 → ¬ i.toInt % 8 = 4 ∧ ¬ i.toInt % 8 = 6 ∧ ¬ i.toInt % 8 = 7 ∧ ¬ i.toInt % 8 = 1)) : RP (upd g i.toNatClampNeg x) 0 = V := by
  have z := tnc h0
  rw [← h]
  unfold RP
  rw [up_n (by omega : (0 : Nat) ≠ i.toNatClampNeg), rs_out (fun j hj => by omega), rs_out (fun j hj => by omega), rs_out (fun j hj => by omega), ds_out (fun j hj => by omega)]
theorem rp_st (h : RP (aI (f a)) 0 = V) (e : aI (f1 a) = upd (aI (f a)) i.toNatClampNeg x) (h0 : 0 ≤ i.toInt) (hq : ¬ i.toInt = 0 ∧ (20 ≤ i.toInt → i.toInt ≤ 339 → ¬ i.toInt % 8 = 4 ∧ ¬ i.toInt % 8 = 6 ∧ ¬ i.toInt % 8 = 7 ∧ ¬ i.toInt % 8 = 1)) : RP (aI (f1 a)) 0 = V := by
  rw [e]; exact rp_upd h h0 hq
/-- who was not DEAD is not DEAD -/
theorem rp_dead (h : RP (aI (f a)) 0 = V) (e : aI (f1 a) = upd (aI (f a)) i.toNatClampNeg x) (h0 : 0 ≤ i.toInt) (hq : ¬ i.toInt = 0 ∧ (20 ≤ i.toInt → i.toInt ≤ 339 → i.toInt % 8 = 1)) (hm : aI (f a) i.toNatClampNeg = y) (hd : ¬ y.toInt = 4 ∧ ¬ x.toInt = 4) : RP (aI (f1 a)) 0 = V := by
  have z := tnc h0
  rw [← h, e]
  unfold RP
  rw [up_n (by omega : (0 : Nat) ≠ i.toNatClampNeg), rs_out (fun j hj => by omega), rs_out (fun j hj => by omega), rs_out (fun j hj => by omega), ds_keep (by rw [hm]; exact ⟨fun q => absurd q hd.2, fun q => absurd q hd.1⟩)]
/-- four places elsewhere -/
theorem rp_four {u : Int32} (h : RP (aI (f a)) 0 = V) (hj : ∀ j : Nat, ((j : Int) < u.toInt ∨ u.toInt + 3 < (j : Int)) → aI (f1 a) j = aI (f a) j) (hu : 340 ≤ u.toInt) : RP (aI (f1 a)) 0 = V := by
  rw [← h]
  exact rp_ext (o := 0) (o1 := 0) (fun p hp => by rw [Nat.zero_add]; exact hj p (Or.inl (by omega)))
theorem rp_call (h : RP (aI (f a)) 0 = V) (g : RP (aI (f1 (oR (f r) 2))) 0 = RP (aI (f (oR (f r) 2))) 0) (e : oR (f r) 2 = a) : RP (aI (f1 a)) 0 = V := by
  rw [e] at g; exact g.trans h
theorem rp_heed {c w : Int32} (hc : 0 ≤ c.toInt ∧ c.toInt < 40) (hi : i.toInt = 23 + 8 * c.toInt) : RP (upd g i.toNatClampNeg w) 0 = heedP (RP g 0) c.toInt w.toInt := by
  have z := tnc (i := i) (by omega)
  have hn : ((c.toNatClampNeg : Nat) : Int) = c.toInt := tnc hc.1
  unfold RP heedP
  rw [up_n (by omega : (0 : Nat) ≠ i.toNatClampNeg), rs_out (n := 40) (b := 0 + 20) (fun j hj => by omega), rs_out (n := 40) (b := 0 + 22) (fun j hj => by omega), rs_in (n := 40) (s := 8) (b := 0 + 23) (c := c.toNatClampNeg) (by decide) (by omega) (by omega), ds_out (fun j hj => by omega), hn]
theorem rp_goes {c w : Int32} (hc : 0 ≤ c.toInt ∧ c.toInt < 40) (hi : i.toInt = 25 + 8 * c.toInt) : RP (upd g i.toNatClampNeg w) 0 = goesP (RP g 0) c.toInt w.toInt := by
  have z := tnc (i := i) (by omega)
  have hn : ((c.toNatClampNeg : Nat) : Int) = c.toInt := tnc hc.1
  unfold RP goesP
  rw [up_n (by omega : (0 : Nat) ≠ i.toNatClampNeg), rs_out (n := 40) (b := 0 + 20) (fun j hj => by omega), rs_out (n := 40) (b := 0 + 22) (fun j hj => by omega), rs_out (n := 40) (b := 0 + 23) (fun j hj => by omega), ds_in (s := 8) (b := 0 + 25) (c := c.toNatClampNeg) (by decide) (by omega) (by omega), hn]
theorem rp_deadAt {c : Int32} (hc : 0 ≤ c.toInt ∧ c.toInt < 40) (hi : i.toInt = 25 + 8 * c.toInt) (hy : g i.toNatClampNeg = y) : (RP g 0).2.2.2.2 c.toInt.toNat = decide (y.toInt = 4) := by
  show decide (c.toInt.toNat < 40 ∧ (g (0 + 25 + 8 * c.toInt.toNat)).toInt = 4) = decide (y.toInt = 4)
  have z := tnc (i := i) (by omega)
  have e : 0 + 25 + 8 * c.toInt.toNat = i.toNatClampNeg := by omega
  rw [e, hy]
  exact decide_eq_decide.mpr ⟨fun z => z.2, fun z => ⟨by omega, z⟩⟩
theorem rl_offer {c u v n i1 i2 : Int32} (hc : 0 ≤ c.toInt ∧ c.toInt < 9) (hg : g 6 = c) (h1 : i1.toInt = 1164 + 2 * c.toInt) (h2 : i2.toInt = 1165 + 2 * c.toInt) (hn : n.toInt = c.toInt + 1) : RG (upd (upd (upd g i1.toNatClampNeg u) i2.toNatClampNeg v) (6 : Int32).toNatClampNeg n) 0 = addO (RG g 0) u.toInt v.toInt := by
  have z1 := tnc (i := i1) (by omega)
  have z2 := tnc (i := i2) (by omega)
  have hk : ((c.toNatClampNeg : Nat) : Int) = c.toInt := tnc hc.1
  have e6 : (6 : Int32).toNatClampNeg = 6 := rfl
  rw [e6]
  unfold RG addO
  rw [show upd (upd (upd g i1.toNatClampNeg u) i2.toNatClampNeg v) 6 n (0 + 6) = n from up_s, up_n (by omega : (0 + 10 : Nat) ≠ 6), up_n (by omega : (0 + 10 : Nat) ≠ i2.toNatClampNeg), up_n (by omega : (0 + 10 : Nat) ≠ i1.toNatClampNeg),
    rs_out (n := 9) (b := 0 + 1164) (k := 6) (fun j hj => by omega), rs_out (n := 9) (b := 0 + 1164) (k := i2.toNatClampNeg) (fun j hj => by omega), rs_in (n := 9) (s := 2) (b := 0 + 1164) (k := i1.toNatClampNeg) (c := c.toNatClampNeg) (by decide) (by omega) (by omega),
    rs_out (n := 9) (b := 0 + 1165) (k := 6) (fun j hj => by omega), rs_in (n := 9) (s := 2) (b := 0 + 1165) (k := i2.toNatClampNeg) (c := c.toNatClampNeg) (by decide) (by omega) (by omega), rs_out (n := 9) (b := 0 + 1165) (k := i1.toNatClampNeg) (fun j hj => by omega), hk, hn]
  rw [show g (0 + 6) = c from hg]
theorem rl_brave {x : Int32} : RG (upd g (10 : Int32).toNatClampNeg x) 0 = braveL (RG g 0) x.toInt := by
  have e : (10 : Int32).toNatClampNeg = 10 := rfl
  rw [e]
  unfold RG braveL
  rw [up_n (by omega : (0 + 6 : Nat) ≠ 10), show upd g 10 x (0 + 10) = x from up_s, rs_out (fun j hj => by omega), rs_out (fun j hj => by omega)]
/-- a new person: two times four places, and one more -/
theorem rp_add {c u v n : Int32} {h : Nat → Int32} (hc : 0 ≤ c.toInt ∧ c.toInt < 40) (hg : (g 0) = c) (hn : n.toInt = c.toInt + 1)
    (q0 : (g1 (20 + 8 * c.toNatClampNeg)) = u) (q2 : (g1 (22 + 8 * c.toNatClampNeg)) = v) (q3 : (g1 (23 + 8 * c.toNatClampNeg)).toInt = -1) (qo : ∀ j : Nat, (j < 20 + 8 * c.toNatClampNeg ∨ 23 + 8 * c.toNatClampNeg < j) → g1 j = g j)
    (t1 : (h (25 + 8 * c.toNatClampNeg)).toInt = 0) (to : ∀ j : Nat, (j < 24 + 8 * c.toNatClampNeg ∨ 27 + 8 * c.toNatClampNeg < j) → h j = g1 j) : RP (upd h (0 : Int32).toNatClampNeg n) 0 = addP (RP g 0) u.toInt v.toInt := by
  have hk : ((c.toNatClampNeg : Nat) : Int) = c.toInt := tnc hc.1
  have e0 : (0 : Int32).toNatClampNeg = 0 := rfl
  have key : ∀ b : Nat, 20 ≤ b → b ≤ 27 → ∀ j : Nat, j < 40 → j ≠ c.toNatClampNeg → upd h 0 n (b + 8 * j) = g (b + 8 * j) := fun b h1 h2 j hj hne => by
    rw [up_n (by omega), to _ (by omega), qo _ (by omega)]
  have at_ : ∀ b : Nat, 20 ≤ b → b ≤ 23 → upd h 0 n (b + 8 * c.toNatClampNeg) = g1 (b + 8 * c.toNatClampNeg) := fun b h1 h2 => by
    rw [up_n (by omega), to _ (by omega)]
  have rsn : ∀ (b : Nat) (x : Int), 20 ≤ b → b ≤ 23 → (g1 (b + 8 * c.toNatClampNeg)).toInt = x → rs 40 8 (upd h 0 n) b = pt (rs 40 8 g b) c.toInt x := fun b x h1 h2 hx => by
    funext j
    by_cases e : j = c.toNatClampNeg
    · subst e
      show (if c.toNatClampNeg < 40 then (upd h 0 n (b + 8 * c.toNatClampNeg)).toInt else 0) = if ((c.toNatClampNeg : Nat) : Int) = c.toInt then x else rs 40 8 g b c.toNatClampNeg
      rw [if_pos hk, if_pos (by omega), at_ b h1 h2, hx]
    · show (if j < 40 then (upd h 0 n (b + 8 * j)).toInt else 0) = if (j : Int) = c.toInt then x else (if j < 40 then (g (b + 8 * j)).toInt else 0)
      rw [if_neg (fun z => e (by omega) : ¬ (j : Int) = c.toInt)]
      by_cases hj : j < 40
      · rw [if_pos hj, if_pos hj, key b h1 (by omega) j hj e]
      · rw [if_neg hj, if_neg hj]
  have dsn : ds 8 (upd h 0 n) 25 = pt (ds 8 g 25) c.toInt false := by
    funext j
    by_cases e : j = c.toNatClampNeg
    · subst e
      show decide (c.toNatClampNeg < 40 ∧ (upd h 0 n (25 + 8 * c.toNatClampNeg)).toInt = 4) = if ((c.toNatClampNeg : Nat) : Int) = c.toInt then false else ds 8 g 25 c.toNatClampNeg
      rw [if_pos hk, up_n (by omega), t1]
      exact decide_eq_false (fun z => absurd z.2 (by decide))
    · show decide (j < 40 ∧ (upd h 0 n (25 + 8 * j)).toInt = 4) = if (j : Int) = c.toInt then false else decide (j < 40 ∧ (g (25 + 8 * j)).toInt = 4)
      rw [if_neg (fun z => e (by omega) : ¬ (j : Int) = c.toInt)]
      by_cases hj : j < 40
      · rw [key 25 (by decide) (by decide) j hj e]
      · exact decide_eq_decide.mpr ⟨fun z => absurd z.1 hj, fun z => absurd z.1 hj⟩
  rw [e0]
  unfold RP addP
  rw [show upd h 0 n 0 = n from up_s, rsn (0 + 20) u.toInt (by decide) (by decide) (by rw [show 0 + 20 + 8 * c.toNatClampNeg = 20 + 8 * c.toNatClampNeg by omega, q0]), rsn (0 + 22) v.toInt (by decide) (by decide) (by rw [show 0 + 22 + 8 * c.toNatClampNeg = 22 + 8 * c.toNatClampNeg by omega, q2]), rsn (0 + 23) (-1) (by decide) (by decide) (by rw [show 0 + 23 + 8 * c.toNatClampNeg = 23 + 8 * c.toNatClampNeg by omega]; exact q3), show ds 8 (upd h 0 n) (0 + 25) = _ from dsn, hn, hg]
theorem rp_add2 {c u b v w d0 d1 d2 d3 n : Int32} {h : Nat → Int32} {A1 A2 : Int} (hc : 0 ≤ c.toInt ∧ c.toInt < 40) (hg : g 0 = c) (hn : n.toInt = c.toInt + 1) (e1 : A1 = 20 + 8 * c.toInt) (e2 : A2 = 24 + 8 * c.toInt) (q : Q4 g g1 A1 u b v w) (t : Q4 g1 h A2 d0 d1 d2 d3) (hw : w.toInt = -1) (hd : d1.toInt = 0) : RP (upd h (0 : Int32).toNatClampNeg n) 0 = addP (RP g 0) u.toInt v.toInt := by
  have hk : ((c.toNatClampNeg : Nat) : Int) = c.toInt := tnc hc.1
  exact rp_add hc hg hn (q.2.1 _ (by omega)) (q.2.2.2.1 _ (by omega)) (by rw [q.2.2.2.2 _ (by omega)]; exact hw) (fun j hj => q.1 j (by omega)) (by rw [t.2.2.1 _ (by omega)]; exact hd) (fun j hj => t.1 j (by omega))
end ROWV
