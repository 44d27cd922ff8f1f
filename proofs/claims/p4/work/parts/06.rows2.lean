/-! arrays, calls, ends over typed heaps -/
theorem aI_of {x : va_E} {cA : ClassId} {n : Nat} {g : Nat → Int32} (h : x = .inl (cA, n, .inl g)) : aI x = g ∧ aN x = n := by subst h; exact ⟨rfl, rfl⟩
theorem aJ_of {x : va_E} {cA : ClassId} {n : Nat} {g : Nat → Int64} (h : x = .inl (cA, n, .inr (.inl g))) : aJ x = g ∧ aN x = n := by subst h; exact ⟨rfl, rfl⟩
theorem aD_of {x : va_E} {cA : ClassId} {n : Nat} {g : Nat → UInt64} (h : x = .inl (cA, n, .inr (.inr (.inr (.inl g))))) : aD x = g ∧ aN x = n := by subst h; exact ⟨rfl, rfl⟩
theorem aQ_of {x : va_E} {cA : ClassId} {n : Nat} {g : Nat → Option Nat} (h : x = .inl (cA, n, .inr (.inr (.inr (.inr g))))) : aQ x = g ∧ aN x = n := by subst h; exact ⟨rfl, rfl⟩
theorem oVal_inl {q : ClassId × vp_A} (k : Nat) : oVal (.inl q) k = .null := rfl
theorem lenOk_n {K n N : Nat} (h : lenOk K n) (h1 : aLen K = N) (h0 : N ≠ 0) : n = N := by rw [← h1] at h0 ⊢; exact h.2 h0
/-- a place within: for what omega knows -/
theorem vin {i : Int32} {n : Nat} (h : 0 ≤ i.toInt ∧ i.toInt < (n : Int)) : vp_in i n := vp_in_iff.mpr h
section ROWS
variable {p : Program} {l : Launch} {e : Env} {R : Room} {s : State} {m : MethodId} {args : Array Value} {below : List Frame} {meth : Method} {c : Code} {H : Heap} {locs : List Loc} {cells slots : Nat} {Q : State → Prop}
variable {cc : ByteArray} {pc : Nat} {ls : Array Slot} {rest : List Value} {G : va_G} {A : Nat → Prop} {cI cJ cZ cD cR cT : ClassId} {ret : Option FieldType} {nL : Nat} {own : String} {kp : Nat → Nat} {L : List Nat} {f : Nat → va_E} {a K ci k index : Nat} {C : String} {T : u_T} {N : Nat}
theorem th_len (hW : WS G cI cJ cZ cD cR cT A kp L f s H locs) (hr : RK kp L a K) (hK : 100 ≤ K) : lenOk K (aN (f a)) := by
  have h := th_arr hW.2.2.2 hr hK
  unfold okA at h
  split at h <;> obtain ⟨n, g, e1, e2⟩ := h <;> rw [e1] <;> first | exact e2 | exact e2.1
theorem r_iald (E : EV G cI cJ cZ cD cR cT A cc ret nL own p s m args meth c) (hW : WS G cI cJ cZ cD cR cT A kp L f s H locs) (hr : RK kp L a K) (hK : 100 ≤ K) (hT : aTag K = 0) {i : Int32} (hi : 0 ≤ i.toInt ∧ i.toInt < ((aN (f a) : Nat) : Int)) (hdg : decode cc pc = .ok (.iaload, 1))
    (kk : ∀ y : Int32, aI (f a) i.toNatClampNeg = y → aCP K (aI (f a)) → W p l e R s m args below meth c H locs cells slots Q (F0 m (pc + 1) ls (.int y :: rest))) : W p l e R s m args below meth c H locs cells slots Q (F0 m pc ls (.int i :: .ref a :: rest)) := by
  obtain ⟨hx, hb, -, -, hown, hts, -, hKK, -⟩ := E
  have h := th_arr hW.2.2.2 hr hK
  unfold okA at h
  rw [hT] at h
  obtain ⟨n, g, e1, e2, e3⟩ := h
  obtain ⟨q, hq⟩ := ws_at hW hr.1
  obtain ⟨e4, e5⟩ := aI_of e1
  rw [e5] at hi
  rw [e1] at hq
  rw [e4] at kk
  exact va_iald hx hb hKK.1 hW.1 q 0 hq rfl (vin hi) hdg (kk _ rfl e3)
theorem r_zald (E : EV G cI cJ cZ cD cR cT A cc ret nL own p s m args meth c) (hW : WS G cI cJ cZ cD cR cT A kp L f s H locs) (hr : RK kp L a K) (hK : 100 ≤ K) (hT : aTag K = 1) {i : Int32} (hi : 0 ≤ i.toInt ∧ i.toInt < ((aN (f a) : Nat) : Int)) (hdg : decode cc pc = .ok (.baload, 1))
    (kk : ∀ y : Int32, aI (f a) i.toNatClampNeg = y → aCP K (aI (f a)) → W p l e R s m args below meth c H locs cells slots Q (F0 m (pc + 1) ls (.int y :: rest))) : W p l e R s m args below meth c H locs cells slots Q (F0 m pc ls (.int i :: .ref a :: rest)) := by
  obtain ⟨hx, hb, -, -, hown, hts, -, hKK, -⟩ := E
  have h := th_arr hW.2.2.2 hr hK
  unfold okA at h
  rw [hT] at h
  obtain ⟨n, g, e1, e2, e3⟩ := h
  obtain ⟨q, hq⟩ := ws_at hW hr.1
  obtain ⟨e4, e5⟩ := aI_of e1
  rw [e5] at hi
  rw [e1] at hq
  rw [e4] at kk
  exact va_zald hx hb hKK.1 hW.1 q 2 hq rfl (vin hi) hdg (kk _ rfl e3)
theorem r_lald (E : EV G cI cJ cZ cD cR cT A cc ret nL own p s m args meth c) (hW : WS G cI cJ cZ cD cR cT A kp L f s H locs) (hr : RK kp L a K) (hK : 100 ≤ K) (hT : aTag K = 2) {i : Int32} (hi : 0 ≤ i.toInt ∧ i.toInt < ((aN (f a) : Nat) : Int)) (hdg : decode cc pc = .ok (.laload, 1))
    (kk : ∀ y : Int64, aJ (f a) i.toNatClampNeg = y → W p l e R s m args below meth c H locs cells slots Q (F0 m (pc + 1) ls (.long y :: rest))) : W p l e R s m args below meth c H locs cells slots Q (F0 m pc ls (.int i :: .ref a :: rest)) := by
  obtain ⟨hx, hb, -, -, hown, hts, -, hKK, -⟩ := E
  have h := th_arr hW.2.2.2 hr hK
  unfold okA at h
  rw [hT] at h
  obtain ⟨n, g, e1, e2⟩ := h
  obtain ⟨q, hq⟩ := ws_at hW hr.1
  obtain ⟨e4, e5⟩ := aJ_of e1
  rw [e5] at hi
  rw [e1] at hq
  rw [e4] at kk
  exact va_lald hx hb hKK.1 hW.1 q 1 hq rfl (vin hi) hdg (kk _ rfl)
theorem r_dald (E : EV G cI cJ cZ cD cR cT A cc ret nL own p s m args meth c) (hW : WS G cI cJ cZ cD cR cT A kp L f s H locs) (hr : RK kp L a K) (hK : 100 ≤ K) (hT : aTag K = 3) {i : Int32} (hi : 0 ≤ i.toInt ∧ i.toInt < ((aN (f a) : Nat) : Int)) (hdg : decode cc pc = .ok (.daload, 1))
    (kk : ∀ y : UInt64, aD (f a) i.toNatClampNeg = y → W p l e R s m args below meth c H locs cells slots Q (F0 m (pc + 1) ls (.double y :: rest))) : W p l e R s m args below meth c H locs cells slots Q (F0 m pc ls (.int i :: .ref a :: rest)) := by
  obtain ⟨hx, hb, -, -, hown, hts, -, hKK, -⟩ := E
  have h := th_arr hW.2.2.2 hr hK
  unfold okA at h
  rw [hT] at h
  obtain ⟨n, g, e1, e2⟩ := h
  obtain ⟨q, hq⟩ := ws_at hW hr.1
  obtain ⟨e4, e5⟩ := aD_of e1
  rw [e5] at hi
  rw [e1] at hq
  rw [e4] at kk
  exact va_dald hx hb hKK.1 hW.1 q 3 hq rfl (vin hi) hdg (kk _ rfl)
theorem r_aldR (E : EV G cI cJ cZ cD cR cT A cc ret nL own p s m args meth c) (hW : WS G cI cJ cZ cD cR cT A kp L f s H locs) (hr : RK kp L a K) (hK : 100 ≤ K) (hT : aTag K = 4) {i : Int32} (hi : 0 ≤ i.toInt ∧ i.toInt < ((aN (f a) : Nat) : Int)) (hdg : decode cc pc = .ok (.aaload, 1))
    (kk : ∀ y : Option Nat, aQ (f a) i.toNatClampNeg = y → (∀ b, y = some b → RK kp L b 6) → W p l e R s m args below meth c H locs cells slots Q (F0 m (pc + 1) ls (va_rf y :: rest))) : W p l e R s m args below meth c H locs cells slots Q (F0 m pc ls (.int i :: .ref a :: rest)) := by
  obtain ⟨hx, hb, -, -, hown, hts, -, hKK, -⟩ := E
  have h := th_arr hW.2.2.2 hr hK
  unfold okA at h
  rw [hT] at h
  obtain ⟨n, g, e1, e2, e3⟩ := h
  obtain ⟨q, hq⟩ := ws_at hW hr.1
  obtain ⟨e4, e5⟩ := aQ_of e1
  rw [e5] at hi
  rw [e1] at hq
  rw [e4] at kk
  exact va_aldq (C := RX6) hx hb hKK.1 hW.1 q 4 hq rfl (vin hi) hdg (kk _ rfl (fun b hb => e3 _ b hb))
theorem r_aldT (E : EV G cI cJ cZ cD cR cT A cc ret nL own p s m args meth c) (hW : WS G cI cJ cZ cD cR cT A kp L f s H locs) (hr : RK kp L a K) (hK : 100 ≤ K) (hT : aTag K = 5) {i : Int32} (hi : 0 ≤ i.toInt ∧ i.toInt < ((aN (f a) : Nat) : Int)) (hdg : decode cc pc = .ok (.aaload, 1))
    (kk : ∀ y : Option Nat, aQ (f a) i.toNatClampNeg = y → (∀ b, y = some b → RK kp L b 9) → W p l e R s m args below meth c H locs cells slots Q (F0 m (pc + 1) ls (va_rf y :: rest))) : W p l e R s m args below meth c H locs cells slots Q (F0 m pc ls (.int i :: .ref a :: rest)) := by
  obtain ⟨hx, hb, -, -, hown, hts, -, hKK, -⟩ := E
  have h := th_arr hW.2.2.2 hr hK
  unfold okA at h
  rw [hT] at h
  obtain ⟨n, g, e1, e2, e3⟩ := h
  obtain ⟨q, hq⟩ := ws_at hW hr.1
  obtain ⟨e4, e5⟩ := aQ_of e1
  rw [e5] at hi
  rw [e1] at hq
  rw [e4] at kk
  exact va_aldq (C := RX9) hx hb hKK.1 hW.1 q 5 hq rfl (vin hi) hdg (kk _ rfl (fun b hb => e3 _ b hb))
theorem r_alen (E : EV G cI cJ cZ cD cR cT A cc ret nL own p s m args meth c) (hW : WS G cI cJ cZ cD cR cT A kp L f s H locs) (hr : RK kp L a K) (hK : 100 ≤ K) (hdg : decode cc pc = .ok (.arraylength, 1))
    (kk : ∀ y : Int32, y.toInt = ((aN (f a) : Nat) : Int) → W p l e R s m args below meth c H locs cells slots Q (F0 m (pc + 1) ls (.int y :: rest))) (hs : aN (f a) < 2147483648) : W p l e R s m args below meth c H locs cells slots Q (F0 m pc ls (.ref a :: rest)) := by
  obtain ⟨hx, hb, -, -, hown, hts, -, hKK, -⟩ := E
  have h := th_arr hW.2.2.2 hr hK
  obtain ⟨q, hq⟩ := ws_at hW hr.1
  have key : ∀ y : Int32, Int32.ofNat (aN (f a)) = y → W p l e R s m args below meth c H locs cells slots Q (F0 m (pc + 1) ls (.int y :: rest)) := fun y hy => kk y (by subst hy; exact nI_toInt hs)
  unfold okA at h
  split at h <;> obtain ⟨n, g, e1, e2, -⟩ := h <;> rw [e1] at hq key
  · exact va_alen hx hb hKK.1 hW.1 q 0 hq (by rfl) rfl hdg (key _ rfl)
  · exact va_alen hx hb hKK.1 hW.1 q 2 hq (by rfl) rfl hdg (key _ rfl)
  · exact va_alen hx hb hKK.1 hW.1 q 1 hq (by rfl) rfl hdg (key _ rfl)
  · exact va_alen hx hb hKK.1 hW.1 q 3 hq (by rfl) rfl hdg (key _ rfl)
  · exact va_alen hx hb hKK.1 hW.1 q 4 hq (by rfl) rfl hdg (key _ rfl)
  · exact va_alen hx hb hKK.1 hW.1 q 5 hq (by rfl) rfl hdg (key _ rfl)
theorem r_iast (E : EV G cI cJ cZ cD cR cT A cc ret nL own p s m args meth c) (hW : WS G cI cJ cZ cD cR cT A kp L f s H locs) (hr : RK kp L a K) (hK : 100 ≤ K) (hT : aTag K = 0) (hsk : sKind K = false) {i x : Int32} (hi : 0 ≤ i.toInt ∧ i.toInt < ((aN (f a) : Nat) : Int)) (hcp : aCP K (aI (f a)) → aCP K (upd (aI (f a)) i.toNatClampNeg x)) (hdg : decode cc pc = .ok (.iastore, 1))
    (kk : ∀ (f1 : Nat → va_E) (H1 : Heap) (locs1 : List Loc), aI (f1 a) = upd (aI (f a)) i.toNatClampNeg x → aN (f1 a) = aN (f a) → (∀ b, b ≠ a → f1 b = f b) → FM kp L [(K, 0)] f f1 → WS G cI cJ cZ cD cR cT A kp L f1 s H1 locs1 → W p l e R s m args below meth c H1 locs1 cells slots Q (F0 m (pc + 1) ls rest)) : W p l e R s m args below meth c H locs cells slots Q (F0 m pc ls (.int x :: .int i :: .ref a :: rest)) := by
  obtain ⟨hx, hb, -, -, hown, hts, -, hKK, -⟩ := E
  obtain ⟨hP, hD, hS, hTH⟩ := hW
  have h := th_arr hTH hr hK
  unfold okA at h
  rw [hT] at h
  obtain ⟨n, g, e1, e2, e3⟩ := h
  obtain ⟨q, hq⟩ := ws_at ⟨hP, hD, hS, hTH⟩ hr.1
  have hset : ∀ x, (va_pl L f).set q (a, x) = va_pl L (va_up f a x) := fun x => pl_set hD hr.1 hq
  have hq2 := hq
  rw [e1] at hq2
  obtain ⟨e4, e5⟩ := aI_of e1
  rw [e5] at hi
  rw [e4] at kk hcp
  refine va_iast hx hb hKK.1 hP hD hS q 0 hq2 rfl (vin hi) hdg (fun H1 locs1 hP1 hD1 hS1 => ?_)
  rw [hset] at hP1 hD1
  refine kk _ H1 locs1 ?_ ?_ (fun b hb => va_up_ne _ _ hb) (fm_ast hr hK (fun k => by rw [e1]; rfl)) ⟨hP1, hD1, hS1, th_up hTH hr ⟨fun h2 => absurd h2 (by omega), fun _ => ?_⟩ hsk⟩
  · rw [va_up_self]; rfl
  · rw [va_up_self, e5]; rfl
  · unfold okA
    rw [hT]
    exact ⟨n, _, rfl, e2, hcp e3⟩
theorem r_zast (E : EV G cI cJ cZ cD cR cT A cc ret nL own p s m args meth c) (hW : WS G cI cJ cZ cD cR cT A kp L f s H locs) (hr : RK kp L a K) (hK : 100 ≤ K) (hT : aTag K = 1) (hsk : sKind K = false) {i x : Int32} (hi : 0 ≤ i.toInt ∧ i.toInt < ((aN (f a) : Nat) : Int)) (hcp : aCP K (aI (f a)) → aCP K (upd (aI (f a)) i.toNatClampNeg (vp_nar .boolean x))) (hdg : decode cc pc = .ok (.bastore, 1))
    (kk : ∀ (f1 : Nat → va_E) (H1 : Heap) (locs1 : List Loc), aI (f1 a) = upd (aI (f a)) i.toNatClampNeg (vp_nar .boolean x) → aN (f1 a) = aN (f a) → (∀ b, b ≠ a → f1 b = f b) → FM kp L [(K, 0)] f f1 → WS G cI cJ cZ cD cR cT A kp L f1 s H1 locs1 → W p l e R s m args below meth c H1 locs1 cells slots Q (F0 m (pc + 1) ls rest)) : W p l e R s m args below meth c H locs cells slots Q (F0 m pc ls (.int x :: .int i :: .ref a :: rest)) := by
  obtain ⟨hx, hb, -, -, hown, hts, -, hKK, -⟩ := E
  obtain ⟨hP, hD, hS, hTH⟩ := hW
  have h := th_arr hTH hr hK
  unfold okA at h
  rw [hT] at h
  obtain ⟨n, g, e1, e2, e3⟩ := h
  obtain ⟨q, hq⟩ := ws_at ⟨hP, hD, hS, hTH⟩ hr.1
  have hset : ∀ x, (va_pl L f).set q (a, x) = va_pl L (va_up f a x) := fun x => pl_set hD hr.1 hq
  have hq2 := hq
  rw [e1] at hq2
  obtain ⟨e4, e5⟩ := aI_of e1
  rw [e5] at hi
  rw [e4] at kk hcp
  refine va_zast hx hb hKK.1 hP hD hS q 2 hq2 rfl (vin hi) hdg (fun H1 locs1 hP1 hD1 hS1 => ?_)
  rw [hset] at hP1 hD1
  refine kk _ H1 locs1 ?_ ?_ (fun b hb => va_up_ne _ _ hb) (fm_ast hr hK (fun k => by rw [e1]; rfl)) ⟨hP1, hD1, hS1, th_up hTH hr ⟨fun h2 => absurd h2 (by omega), fun _ => ?_⟩ hsk⟩
  · rw [va_up_self]; rfl
  · rw [va_up_self, e5]; rfl
  · unfold okA
    rw [hT]
    exact ⟨n, _, rfl, e2, hcp e3⟩
theorem r_last (E : EV G cI cJ cZ cD cR cT A cc ret nL own p s m args meth c) (hW : WS G cI cJ cZ cD cR cT A kp L f s H locs) (hr : RK kp L a K) (hK : 100 ≤ K) (hT : aTag K = 2) (hsk : sKind K = false) {i : Int32} {x : Int64} (hi : 0 ≤ i.toInt ∧ i.toInt < ((aN (f a) : Nat) : Int)) (hdg : decode cc pc = .ok (.lastore, 1))
    (kk : ∀ (f1 : Nat → va_E) (H1 : Heap) (locs1 : List Loc), aJ (f1 a) = vp_updL (aJ (f a)) i.toNatClampNeg x → aN (f1 a) = aN (f a) → (∀ b, b ≠ a → f1 b = f b) → FM kp L [(K, 0)] f f1 → WS G cI cJ cZ cD cR cT A kp L f1 s H1 locs1 → W p l e R s m args below meth c H1 locs1 cells slots Q (F0 m (pc + 1) ls rest)) : W p l e R s m args below meth c H locs cells slots Q (F0 m pc ls (.long x :: .int i :: .ref a :: rest)) := by
  obtain ⟨hx, hb, -, -, hown, hts, -, hKK, -⟩ := E
  obtain ⟨hP, hD, hS, hTH⟩ := hW
  have h := th_arr hTH hr hK
  unfold okA at h
  rw [hT] at h
  obtain ⟨n, g, e1, e2⟩ := h
  obtain ⟨q, hq⟩ := ws_at ⟨hP, hD, hS, hTH⟩ hr.1
  have hset : ∀ x, (va_pl L f).set q (a, x) = va_pl L (va_up f a x) := fun x => pl_set hD hr.1 hq
  have hq2 := hq
  rw [e1] at hq2
  obtain ⟨e4, e5⟩ := aJ_of e1
  rw [e5] at hi
  rw [e4] at kk
  refine va_last hx hb hKK.1 hP hD hS q 1 hq2 rfl (vin hi) hdg (fun H1 locs1 hP1 hD1 hS1 => ?_)
  rw [hset] at hP1 hD1
  refine kk _ H1 locs1 ?_ ?_ (fun b hb => va_up_ne _ _ hb) (fm_ast hr hK (fun k => by rw [e1]; rfl)) ⟨hP1, hD1, hS1, th_up hTH hr ⟨fun h2 => absurd h2 (by omega), fun _ => ?_⟩ hsk⟩
  · rw [va_up_self]; rfl
  · rw [va_up_self, e5]; rfl
  · unfold okA
    rw [hT]
    exact ⟨n, _, rfl, e2⟩
theorem r_dast (E : EV G cI cJ cZ cD cR cT A cc ret nL own p s m args meth c) (hW : WS G cI cJ cZ cD cR cT A kp L f s H locs) (hr : RK kp L a K) (hK : 100 ≤ K) (hT : aTag K = 3) (hsk : sKind K = false) {i : Int32} {x : UInt64} (hi : 0 ≤ i.toInt ∧ i.toInt < ((aN (f a) : Nat) : Int)) (hdg : decode cc pc = .ok (.dastore, 1))
    (kk : ∀ (f1 : Nat → va_E) (H1 : Heap) (locs1 : List Loc), aN (f1 a) = aN (f a) → (∀ b, b ≠ a → f1 b = f b) → FM kp L [(K, 0)] f f1 → WS G cI cJ cZ cD cR cT A kp L f1 s H1 locs1 → W p l e R s m args below meth c H1 locs1 cells slots Q (F0 m (pc + 1) ls rest)) : W p l e R s m args below meth c H locs cells slots Q (F0 m pc ls (.double x :: .int i :: .ref a :: rest)) := by
  obtain ⟨hx, hb, -, -, hown, hts, -, hKK, -⟩ := E
  obtain ⟨hP, hD, hS, hTH⟩ := hW
  have h := th_arr hTH hr hK
  unfold okA at h
  rw [hT] at h
  obtain ⟨n, g, e1, e2⟩ := h
  obtain ⟨q, hq⟩ := ws_at ⟨hP, hD, hS, hTH⟩ hr.1
  have hset : ∀ x, (va_pl L f).set q (a, x) = va_pl L (va_up f a x) := fun x => pl_set hD hr.1 hq
  have hq2 := hq
  rw [e1] at hq2
  obtain ⟨e4, e5⟩ := aD_of e1
  rw [e5] at hi
  refine va_dast hx hb hKK.1 hP hD hS q 3 hq2 rfl (vin hi) hdg (fun H1 locs1 hP1 hD1 hS1 => ?_)
  rw [hset] at hP1 hD1
  refine kk _ H1 locs1 ?_ (fun b hb => va_up_ne _ _ hb) (fm_ast hr hK (fun k => by rw [e1]; rfl)) ⟨hP1, hD1, hS1, th_up hTH hr ⟨fun h2 => absurd h2 (by omega), fun _ => ?_⟩ hsk⟩
  · rw [va_up_self, e5]; rfl
  · unfold okA
    rw [hT]
    exact ⟨n, _, rfl, e2⟩
end ROWS
/-! calls and ends -/
def QT (po : Option Value → (Nat → va_E) → Prop) (G : va_G) (cI cJ cZ cD cR cT : ClassId) (A : Nat → Prop) (kp : Nat → Nat) (L : List Nat) : Array Value → State → Outcome → State → Prop := fun _ st oc t =>
  (∃ (v : Option Value) (f : Nat → va_E), oc = .returned v ∧ po v f ∧ TH cI cJ cZ cD cR cT kp L f ∧ va_P G vwCl (va_pl L f) t.heap ∧ va_D A (va_pl L f)) ∧ va_F A st t
section CALLS
variable {p : Program} {l : Launch} {e : Env} {R : Room} {s : State} {m : MethodId} {args : Array Value} {below : List Frame} {meth : Method} {c : Code} {H : Heap} {locs : List Loc} {cells slots : Nat} {Q : State → Prop}
variable {cc : ByteArray} {pc : Nat} {ls : Array Slot} {rest st0 : List Value} {G : va_G} {A : Nat → Prop} {cI cJ cZ cD cR cT : ClassId} {ret rety : Option FieldType} {nL : Nat} {own : String} {kp : Nat → Nat} {L : List Nat} {f : Nat → va_E} {a K ci k index : Nat} {C : String} {T : u_T} {N : Nat}
variable {po : Option Value → (Nat → va_E) → Prop} {mc ms : Nat} {y : MethodName} {bytes : ByteArray} {maxL n : Nat} {rm : Room} {As : List Value}
theorem callT {av : Array Value} (hA : ∀ q : Nat, s.heap.size ≤ q → A q) (hW : WS G cI cJ cZ cD cR cT A kp L f s H locs) (hrun : va_Run p l e R s m args below meth c H locs cells slots mc ms (F0 m pc ls st0) rest (QT po G cI cJ cZ cD cR cT (va_A (va_pl L f) H.size) kp L av) (va_A (va_pl L f) H.size))
    (kk : ∀ (v : Option Value) (f1 : Nat → va_E) (H1 : Heap) (locs1 : List Loc), po v f1 → WS G cI cJ cZ cD cR cT A kp L f1 s H1 locs1 → W p l e R s m args below meth c H1 locs1 (cells + mc) (slots + ms) Q (F0 m (pc + 3) ls (v.toList ++ rest))) : W p l e R s m args below meth c H locs cells slots Q (F0 m pc ls st0) := by
  obtain ⟨hP, hD, hS, hTH⟩ := hW
  have hF : ∀ q : Nat, va_A (va_pl L f) H.size q → A q := fun q h => by
    rcases h with ⟨k, x, hk⟩ | h
    · exact hD.2 k _ hk
    · exact hA q (Nat.le_trans hS.1 h)
  intro T hT X
  obtain ⟨v, st₀, t, T', Lo, h0, X', hL, e1, e2, ⟨⟨v', f1, hv, hpo, hTH1, hP1, hD1⟩, hz, hk⟩, st⟩ := hrun T hT X
  cases hv
  rw [h0] at hz hk
  obtain ⟨t2, a1, b1⟩ := kk v f1 T'.heap (locs ++ Lo) hpo ⟨by rw [e1]; exact hP1, hD1.weaken (fun k q _ h => hF q.1 h), ⟨Nat.le_trans hS.1 (by rw [e1]; exact hz), fun x h1 h2 => by rw [e1, hk x (Nat.lt_of_lt_of_le h1 hS.1) (fun z => h2 (hF x z))]; exact hS.2.1 x h1 h2, fun x hx => by
      rcases List.mem_append.mp hx with h | h
      · exact hS.2.2 x h
      · exact hF _ (hL x h)⟩, hTH1⟩ T' rfl X'
  exact ⟨t2, st t2 a1, b1⟩
theorem pre_S (hKK : KK G (tys6 cI cJ cZ cD cR cT) s) (hW : WS G cI cJ cZ cD cR cT A kp L f s H locs) : PreS s H (va_Pc As (PreW G (tys6 cI cJ cZ cD cR cT) (va_pl L f) H.size)) As :=
  ⟨preW_blind, fun U hU hw => ⟨rfl, by rw [hU], by rw [hU]; exact hW.1, KK.moved hw.alike hKK, hW.2.1.weaken (fun _ _ _ _ => trivial)⟩⟩
theorem good_y (hg : ∀ w ∈ wTab, goodWord w = true) (hc : Cond.code y bytes maxL rety ∈ wTab) : GoodIn wTab (Cond.code y bytes maxL rety :: wTab) := fun w hw => by
  rcases List.mem_cons.mp hw with h | h
  · subst h; exact ⟨hc, good_of_word (hg _ hc)⟩
  · exact ⟨h, good_of_word (hg _ h)⟩
theorem r_callS (E : EV G cI cJ cZ cD cR cT A cc ret nL own p s m args meth c) (hW : WS G cI cJ cZ cD cR cT A kp L f s H locs) (hM : Met l y (Cond.code y bytes maxL rety :: wTab) rm (va_Pc As (PreW G (tys6 cI cJ cZ cD cR cT) (va_pl L f) H.size)) (QT po G cI cJ cZ cD cR cT (va_A (va_pl L f) H.size) kp L) mc ms (va_A (va_pl L f) H.size))
    (hg : ∀ w ∈ wTab, goodWord w = true) (hc : Cond.code y bytes maxL rety ∈ wTab) (hrc : rm.cells = mc) (hrs : rm.slots = ms) (hini : Cond.initialized y.cls ∈ wTab) (hl : Cond.methodLink own index y ∈ wTab) (hst : Cond.static y ∈ wTab)
    (hd : y.cls ≠ "java/lang/invoke/MethodHandle" ∧ y.cls ≠ "java/lang/invoke/VarHandle" ∧ (parseMethodDescriptor y.desc).map (fun d => d.parameters.length) = some As.length) (hR : rm.frames + 1 ≤ R.frames ∧ 8 + (maxL + 11) + rm.locals ≤ R.locals)
    (hsize : ls.size = nL) (hst0 : st0 = As.reverse ++ rest) (hw : (rest.map fun v => v.category).sum ≤ 8) (hdg : decode cc pc = .ok (.invokestatic index, 3)) (hf : cells + mc ≤ R.cells ∧ slots + ms ≤ R.slots)
    (kk : ∀ (v : Option Value) (f1 : Nat → va_E) (H1 : Heap) (locs1 : List Loc), po v f1 → WS G cI cJ cZ cD cR cT A kp L f1 s H1 locs1 → W p l e R s m args below meth c H1 locs1 (cells + mc) (slots + ms) Q (F0 m (pc + 3) ls (v.toList ++ rest))) : W p l e R s m args below meth c H locs cells slots Q (F0 m pc ls st0) := by
  obtain ⟨hx, hb, -, hml, hown, hts, -, hKK, hA⟩ := E
  exact callT hA hW (va_runS ⟨hx, hb, hml, hown, hts⟩ hM ⟨callB_of As.length hts (good_y hg hc) rfl hrc hrs (hts _ hini) (hts _ hl) hd hR, hts _ hst⟩ (pre_S hKK hW) rfl rfl hsize hst0 (lv_room hw) hdg hf) kk
theorem r_callV (E : EV G cI cJ cZ cD cR cT A cc ret nL own p s m args meth c) (hW : WS G cI cJ cZ cD cR cT A kp L f s H locs) {b : Nat} (hM : Met l y (Cond.code y bytes maxL rety :: wTab) rm (va_Pc (.ref b :: As) (PreW G (tys6 cI cJ cZ cD cR cT) (va_pl L f) H.size)) (QT po G cI cJ cZ cD cR cT (va_A (va_pl L f) H.size) kp L) mc ms (va_A (va_pl L f) H.size))
    (hr : RK kp L b ci) (hci : ci < 100) (hcl : vwCl[ci]? = some (C, T, N)) (hg : ∀ w ∈ wTab, goodWord w = true) (hc : Cond.code y bytes maxL rety ∈ wTab) (hrc : rm.cells = mc) (hrs : rm.slots = ms) (hini : Cond.initialized y.cls ∈ wTab) (hl : Cond.methodLink own index y ∈ wTab) (him : Cond.instanceMethod y ∈ wTab) (hsel : Cond.selects C y y ∈ wTab)
    (hd : y.cls ≠ "java/lang/invoke/MethodHandle" ∧ y.cls ≠ "java/lang/invoke/VarHandle" ∧ (parseMethodDescriptor y.desc).map (fun d => d.parameters.length) = some As.length) (hR : rm.frames + 1 ≤ R.frames ∧ 8 + (maxL + 11) + rm.locals ≤ R.locals)
    (hsize : ls.size = nL) (hst0 : st0 = As.reverse ++ .ref b :: rest) (hw : (rest.map fun v => v.category).sum ≤ 8) (hdg : decode cc pc = .ok (.invokevirtual index, 3)) (hf : cells + mc ≤ R.cells ∧ slots + ms ≤ R.slots)
    (kk : ∀ (v : Option Value) (f1 : Nat → va_E) (H1 : Heap) (locs1 : List Loc), po v f1 → WS G cI cJ cZ cD cR cT A kp L f1 s H1 locs1 → W p l e R s m args below meth c H1 locs1 (cells + mc) (slots + ms) Q (F0 m (pc + 3) ls (v.toList ++ rest))) : W p l e R s m args below meth c H locs cells slots Q (F0 m pc ls st0) := by
  obtain ⟨hx, hb, -, hml, hown, hts, -, hKK, hA⟩ := E
  obtain ⟨fs, e1, -, -⟩ := th_obj hW.2.2.2 hr hci
  obtain ⟨q, hq⟩ := ws_at hW hr.1
  rw [e1] at hq
  have hpv : PreV s H C b (va_Pc (.ref b :: As) (PreW G (tys6 cI cJ cZ cD cR cT) (va_pl L f) H.size)) As := ⟨preW_blind, va_recv hKK.1 hW.1 hcl hq, (pre_S (As := .ref b :: As) hKK hW).2⟩
  exact callT hA hW (va_runV ⟨hx, hb, hml, hown, hts⟩ hM ⟨callB_of As.length hts (good_y hg hc) rfl hrc hrs (hts _ hini) (hts _ hl) hd hR, hts _ him, hts _ hsel⟩ hpv rfl rfl hsize hst0 (lv_room hw) hdg hf) kk
/-- ends -/
theorem e_I {v : Int32} (E : EV G cI cJ cZ cD cR cT A cc ret nL own p s m args meth c) (hW : WS G cI cJ cZ cD cR cT A kp L f s H locs) (hret : ret = some .int) (hpo : po (some (.int v)) f) (hdg : decode cc pc = .ok (.ireturn, 1)) : W p l e R s m args below meth c H locs cells slots (MQ below (QT po G cI cJ cZ cD cR cT A kp L) args s cells slots A) (F0 m pc ls [.int v]) := by
  obtain ⟨hx, hb, hr, hml, hown, hts, hlocks, hKK, hA⟩ := E
  exact W.iret (v := v) hx hb (hr.trans hret) (fun t ht _ => ⟨⟨_, f, rfl, hpo, hW.2.2.2, by rw [ht]; exact hW.1, hW.2.1⟩, hW.2.2.1.F ht⟩) hW.2.2.1.2.2 hdg hlocks
theorem nar01 {v : Int32} (h : 0 ≤ v.toInt ∧ v.toInt ≤ 1) : narrow .boolean (.int v) = .int v := by
  rcases (by omega : v.toInt = 0 ∨ v.toInt = 1) with h | h
  · have e : v = 0 := Int32.toInt_inj.mp (h.trans rfl)
    subst e
    rfl
  · have e : v = 1 := Int32.toInt_inj.mp (h.trans rfl)
    subst e
    rfl
theorem e_Z {v : Int32} (E : EV G cI cJ cZ cD cR cT A cc ret nL own p s m args meth c) (hW : WS G cI cJ cZ cD cR cT A kp L f s H locs) (hret : ret = some .boolean) (h01 : 0 ≤ v.toInt ∧ v.toInt ≤ 1) (hpo : po (some (.int v)) f) (hdg : decode cc pc = .ok (.ireturn, 1)) : W p l e R s m args below meth c H locs cells slots (MQ below (QT po G cI cJ cZ cD cR cT A kp L) args s cells slots A) (F0 m pc ls [.int v]) := by
  obtain ⟨hx, hb, hr, hml, hown, hts, hlocks, hKK, hA⟩ := E
  exact W.zret (v := v) hx hb (hr.trans hret) (nar01 h01) (fun t ht _ => ⟨⟨_, f, rfl, hpo, hW.2.2.2, by rw [ht]; exact hW.1, hW.2.1⟩, hW.2.2.1.F ht⟩) hW.2.2.1.2.2 hdg hlocks
theorem e_J {v : Int64} (E : EV G cI cJ cZ cD cR cT A cc ret nL own p s m args meth c) (hW : WS G cI cJ cZ cD cR cT A kp L f s H locs) (hret : ret = some .long) (hpo : po (some (.long v)) f) (hdg : decode cc pc = .ok (.lreturn, 1)) : W p l e R s m args below meth c H locs cells slots (MQ below (QT po G cI cJ cZ cD cR cT A kp L) args s cells slots A) (F0 m pc ls [.long v]) := by
  obtain ⟨hx, hb, hr, hml, hown, hts, hlocks, hKK, hA⟩ := E
  exact W.lret (v := v) hx hb (hr.trans hret) (fun t ht _ => ⟨⟨_, f, rfl, hpo, hW.2.2.2, by rw [ht]; exact hW.1, hW.2.1⟩, hW.2.2.1.F ht⟩) hW.2.2.1.2.2 hdg hlocks
theorem e_V (E : EV G cI cJ cZ cD cR cT A cc ret nL own p s m args meth c) (hW : WS G cI cJ cZ cD cR cT A kp L f s H locs) (hret : ret = none) (hpo : po none f) (hdg : decode cc pc = .ok (.return_, 1)) : W p l e R s m args below meth c H locs cells slots (MQ below (QT po G cI cJ cZ cD cR cT A kp L) args s cells slots A) (F0 m pc ls []) := by
  obtain ⟨hx, hb, hr, hml, hown, hts, hlocks, hKK, hA⟩ := E
  exact W.vret hx hb (hr.trans hret) (fun t ht _ => ⟨⟨_, f, rfl, hpo, hW.2.2.2, by rw [ht]; exact hW.1, hW.2.1⟩, hW.2.2.1.F ht⟩) hW.2.2.1.2.2 hdg hlocks
end CALLS
/-- a method's contract out of the walk of its body -/
theorem metT {l : Launch} {y : MethodName} {rm : Room} {As : List Value} {G : va_G} {cI cJ cZ cD cR cT : ClassId} {kp : Nat → Nat} {L : List Nat} {f : Nat → va_E} {sz : Nat} {po : Option Value → (Nat → va_E) → Prop} {mc ms : Nat} {cc : ByteArray} {maxL : Nat} {ret : Option FieldType}
    (hy : plainName y.cls = true) (hL : (lg_sl As).length ≤ maxL) (hTH : TH cI cJ cZ cD cR cT kp L f)
    (body : ∀ (p : Program) (e : Env) (s : State) (m : MethodId) (below : List Frame) (meth : Method) (c : Code) (A : Nat → Prop) (ls : Array Slot), EV G cI cJ cZ cD cR cT A cc ret maxL y.cls p s m As.toArray meth c → WS G cI cJ cZ cD cR cT A kp L f s s.heap [] → lv_has ls maxL (lv_args 0 As) → W p l e rm s m As.toArray below meth c s.heap [] 0 0 (MQ below (QT po G cI cJ cZ cD cR cT A kp L) As.toArray s mc ms A) (F0 m 0 ls [])) :
    Met l y (Cond.code y cc maxL ret :: wTab) rm (va_Pc As (PreW G (tys6 cI cJ cZ cD cR cT) (va_pl L f) sz)) (QT po G cI cJ cZ cD cR cT (va_A (va_pl L f) sz) kp L) mc ms (va_A (va_pl L f) sz) := by
  refine Met.ofW (cc := cc) (maxL := maxL) (ret := ret) hy rfl ?_
  intro p e s m args below meth c s₁ B hml hv
  obtain ⟨rfl, hsz, hP, hK, hD0⟩ := hv
  have hts := atoms_spec (ws := Cond.code y cc maxL ret :: wTab) B.pre
  subst hsz
  have hl := lv_entry As (n := maxL) hL
  rw [lg_entry_eq]
  exact body p e s m below meth c (va_A (va_pl L f) s.heap.size) _ ⟨B.exec, B.bytes, B.returns, hml, findClass_of_methodNamed B.named, fun w hw => hts w (List.mem_cons_of_mem _ hw), B.notSynchronized, hK, fun q h => Or.inr h⟩ ⟨hP, hD0.self, va_S.rf, hTH⟩ hl
