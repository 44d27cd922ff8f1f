/-! rows over typed heaps -/
section THL
variable {cI cJ cZ cD cR cT : ClassId} {kp : Nat → Nat} {L : List Nat} {f : Nat → va_E} {a K ci k : Nat}
theorem th_obj (h : TH cI cJ cZ cD cR cT kp L f) (hr : RK kp L a ci) (hci : ci < 100) : ∃ fs : List Value, f a = .inr (ci, fs) ∧ fs.length = nF ci ∧ ∀ k : Nat, k < nF ci → okV kp L (fTab ci k) (fs.getD k .null) := by
  have h1 := (h.1 a hr.1).1
  rw [hr.2] at h1
  exact h1 hci
theorem th_arr (h : TH cI cJ cZ cD cR cT kp L f) (hr : RK kp L a K) (hK : 100 ≤ K) : okA cI cJ cZ cD cR cT kp L K (f a) := by
  have h1 := (h.1 a hr.1).2
  rw [hr.2] at h1
  exact h1 hK
theorem oVal_obj {fs : List Value} (h : f a = .inr (ci, fs)) (k : Nat) : oVal (f a) k = fs.getD k .null := by rw [h]; rfl
/-- a new content of a cell -/
theorem th_up (h : TH cI cJ cZ cD cR cT kp L f) (hr : RK kp L a K) {x : va_E} (hx : okK cI cJ cZ cD cR cT kp L K x) (hs : sKind K = false) : TH cI cJ cZ cD cR cT kp L (va_up f a x) := by
  refine ⟨fun b hb => ?_, fun b hb => ?_⟩
  · by_cases hab : b = a
    · subst hab
      rw [va_up_self, hr.2]
      exact hx
    · rw [va_up_ne _ _ hab]
      exact h.1 b hb
  · have hne : ∀ {c Kc : Nat}, RK kp L c Kc → sKind Kc = true → c ≠ a := fun {c Kc} hc h1 h2 => by
      subst h2
      have e : Kc = K := hc.2.symm.trans hr.2
      subst e
      rw [h1] at hs
      cases hs
    have hb9 := hne hb (by decide)
    obtain ⟨fs, e1, e2, e3⟩ := th_obj h hb (by decide)
    have ref : ∀ j Kj : Nat, j < 10 → fTab 9 j = (2, Kj, 0, 0) → RK kp L (oR (f b) j) Kj := fun j Kj hj hft => by
      have h3 := e3 j hj
      rw [hft] at h3
      obtain ⟨r, e4, e5⟩ := h3
      have e6 : oR (f b) j = r := by unfold oR; rw [oVal_obj e1, e4]
      rw [e6]
      exact e5
    have r6 := hne (ref 6 646 (by decide) rfl) (by decide)
    have r7 := hne (ref 7 647 (by decide) rfl) (by decide)
    have r8 := hne (ref 8 648 (by decide) rfl) (by decide)
    have r9 := hne (ref 9 649 (by decide) rfl) (by decide)
    have hS := h.2 b hb
    rw [va_up_ne _ _ hb9, va_up_ne _ _ r6, va_up_ne _ _ r7, va_up_ne _ _ r8, va_up_ne _ _ r9]
    exact hS
def setO (x : va_E) (k : Nat) (v : Value) : va_E := match x with
  | .inr o => .inr (o.1, o.2.set k v)
  | .inl o => .inl o
theorem oVal_set {fs : List Value} (h : f a = .inr (ci, fs)) (hk : k < fs.length) (v : Value) (j : Nat) : oVal (setO (f a) k v) j = if j = k then v else oVal (f a) j := by
  rw [h]
  show (fs.set k v).getD j .null = _
  by_cases hj : j = k
  · subst hj
    simp [hk]
  · rw [if_neg hj]
    show _ = fs.getD j .null
    simp [List.getD, List.getElem?_set_ne (Ne.symm hj)]
theorem okO_set (h : TH cI cJ cZ cD cR cT kp L f) (hr : RK kp L a ci) (hci : ci < 100) (hk : k < nF ci) {v : Value} (hv : okV kp L (fTab ci k) v) : okK cI cJ cZ cD cR cT kp L ci (setO (f a) k v) := by
  obtain ⟨fs, e1, e2, e3⟩ := th_obj h hr hci
  refine ⟨fun _ => ?_, fun h2 => absurd h2 (by omega)⟩
  rw [e1]
  refine ⟨fs.set k v, rfl, by simp [e2], fun j hj => ?_⟩
  by_cases hjk : j = k
  · subst hjk
    have : (fs.set j v).getD j .null = v := by simp [e2, hk]
    rw [this]
    exact hv
  · have : (fs.set k v).getD j .null = fs.getD j .null := by simp [List.getD, List.getElem?_set_ne (Ne.symm hjk)]
    rw [this]
    exact e3 j hj
/-- one field, or one array, has changed -/
theorem fm_put {fs : List Value} (h : f a = .inr (ci, fs)) (hr : RK kp L a ci) (hci : ci < 100) (hk : k < fs.length) (v : Value) : FM kp L [(ci, k)] f (va_up f a (setO (f a) k v)) := by
  intro b hb
  by_cases hab : b = a
  · subst hab
    refine ⟨fun j hj => ?_, fun h100 => ?_⟩
    · rw [va_up_self, oVal_set h hk, if_neg]
      intro e
      subst e
      exact hj (by rw [hr.2]; exact List.mem_cons_self)
    · rw [hr.2] at h100
      omega
  · rw [va_up_ne _ _ hab]
    exact ⟨fun _ _ => rfl, fun _ _ => rfl⟩
theorem fm_ast (hr : RK kp L a K) (hK : 100 ≤ K) {x : va_E} (hx : ∀ k : Nat, oVal x k = oVal (f a) k) : FM kp L [(K, 0)] f (va_up f a x) := by
  intro b hb
  by_cases hab : b = a
  · subst hab
    refine ⟨fun j hj => ?_, fun _ h2 => ?_⟩
    · rw [va_up_self]; exact hx j
    · exact absurd (by rw [hr.2]; exact List.mem_cons_self) h2
  · rw [va_up_ne _ _ hab]
    exact ⟨fun _ _ => rfl, fun _ _ => rfl⟩
end THL
/-- what stands fast in a method -/
def EV (G : va_G) (cI cJ cZ cD cR cT : ClassId) (A : Nat → Prop) (cc : ByteArray) (ret : Option FieldType) (nL : Nat) (own : String) (p : Program) (s : State) (m : MethodId) (args : Array Value) (meth : Method) (c : Code) : Prop :=
  p.tables.exec = Jvm.exec ∧ c.code = cc ∧ meth.sig.returnType = ret ∧ c.maxLocals = nL ∧ s.vm.findClass own = some m.cls ∧ (∀ w ∈ wTab, w.before args s = true) ∧ meth.locks = false ∧ KK G (tys6 cI cJ cZ cD cR cT) s ∧ ∀ q : Nat, s.heap.size ≤ q → A q
/-- the heap, typed -/
def WS (G : va_G) (cI cJ cZ cD cR cT : ClassId) (A : Nat → Prop) (kp : Nat → Nat) (L : List Nat) (f : Nat → va_E) (s : State) (H : Heap) (locs : List Loc) : Prop :=
  va_P G vwCl (va_pl L f) H ∧ va_D A (va_pl L f) ∧ va_S A s.heap H locs ∧ TH cI cJ cZ cD cR cT kp L f
section ROWS
variable {p : Program} {l : Launch} {e : Env} {R : Room} {s : State} {m : MethodId} {args : Array Value} {below : List Frame} {meth : Method} {c : Code} {H : Heap} {locs : List Loc} {cells slots : Nat} {Q : State → Prop}
variable {cc : ByteArray} {pc : Nat} {ls : Array Slot} {rest : List Value} {G : va_G} {A : Nat → Prop} {cI cJ cZ cD cR cT : ClassId} {ret : Option FieldType} {nL : Nat} {own : String} {kp : Nat → Nat} {L : List Nat} {f : Nat → va_E} {a K ci k index : Nat} {C : String} {T : u_T} {N : Nat}
theorem ws_at (hW : WS G cI cJ cZ cD cR cT A kp L f s H locs) (ha : a ∈ L) : ∃ q : Nat, (va_pl L f)[q]? = some (a, f a) := by
  have := va_pl_get (X := []) (f := f) ha
  simpa using this
theorem pl_set {e' : va_E} (hD : va_D A (va_pl L f)) (ha : a ∈ L) {q : Nat} (hq : (va_pl L f)[q]? = some (a, f a)) : (va_pl L f).set q (a, e') = va_pl L (va_up f a e') := by
  have := va_pl_set (A := A) (X := []) (L := L) (f := f) (a := a) (k := q) (e := e') (by simpa using hD) ha (by simpa using hq)
  simpa using this
theorem r_getI (E : EV G cI cJ cZ cD cR cT A cc ret nL own p s m args meth c) (hW : WS G cI cJ cZ cD cR cT A kp L f s H locs) {lo hi : Int} (hr : RK kp L a ci) (hci : ci < 100) (hc : vwCl[ci]? = some (C, T, N)) (hN : nF ci = N) (hk : k < N) (hin : ∀ w ∈ u_ws C T N, w ∈ wTab) (hlk : Cond.fieldLink own index C (T k).2.1 (T k).2.2.1 ∈ wTab) (hT : (T k).1 = C) (hft : fTab ci k = (0, 0, lo, hi)) (hdg : decode cc pc = .ok (.getfield index, 3))
    (kk : ∀ y : Int32, oI (f a) k = y → lo ≤ y.toInt ∧ y.toInt ≤ hi → W p l e R s m args below meth c H locs cells slots Q (F0 m (pc + 3) ls (.int y :: rest))) : W p l e R s m args below meth c H locs cells slots Q (F0 m pc ls (.ref a :: rest)) := by
  obtain ⟨hx, hb, -, -, hown, hts, -, hKK, -⟩ := E
  obtain ⟨fs, e1, e2, e3⟩ := th_obj hW.2.2.2 hr hci
  obtain ⟨q, hq⟩ := ws_at hW hr.1
  have h3 := e3 k (by omega)
  rw [hft] at h3
  obtain ⟨y, e4, e5⟩ := h3
  have e6 : fs[k]? = some (.int y) := by
    have : k < fs.length := by omega
    rw [List.getElem?_eq_getElem this]
    rw [List.getD_eq_getElem?_getD, List.getElem?_eq_getElem this] at e4
    exact congrArg some e4
  rw [e1] at hq
  refine va_get (v := .int y) hx hb hts hin hown hKK.1 hW.1 q hq hc k hk (hts _ hlk) (fun x h => by rw [hT] at h; exact h) e6 hdg (kk y ?_ e5)
  unfold oI
  rw [oVal_obj e1, e4]
theorem r_getJ (E : EV G cI cJ cZ cD cR cT A cc ret nL own p s m args meth c) (hW : WS G cI cJ cZ cD cR cT A kp L f s H locs) (hr : RK kp L a ci) (hci : ci < 100) (hc : vwCl[ci]? = some (C, T, N)) (hN : nF ci = N) (hk : k < N) (hin : ∀ w ∈ u_ws C T N, w ∈ wTab) (hlk : Cond.fieldLink own index C (T k).2.1 (T k).2.2.1 ∈ wTab) (hT : (T k).1 = C) (hft : fTab ci k = (1, 0, 0, 0)) (hdg : decode cc pc = .ok (.getfield index, 3))
    (kk : ∀ y : Int64, oJ (f a) k = y → W p l e R s m args below meth c H locs cells slots Q (F0 m (pc + 3) ls (.long y :: rest))) : W p l e R s m args below meth c H locs cells slots Q (F0 m pc ls (.ref a :: rest)) := by
  obtain ⟨hx, hb, -, -, hown, hts, -, hKK, -⟩ := E
  obtain ⟨fs, e1, e2, e3⟩ := th_obj hW.2.2.2 hr hci
  obtain ⟨q, hq⟩ := ws_at hW hr.1
  have h3 := e3 k (by omega)
  rw [hft] at h3
  obtain ⟨y, e4⟩ := h3
  have e6 : fs[k]? = some (.long y) := by
    have : k < fs.length := by omega
    rw [List.getElem?_eq_getElem this]
    rw [List.getD_eq_getElem?_getD, List.getElem?_eq_getElem this] at e4
    exact congrArg some e4
  rw [e1] at hq
  refine va_get (v := .long y) hx hb hts hin hown hKK.1 hW.1 q hq hc k hk (hts _ hlk) (fun x h => by rw [hT] at h; exact h) e6 hdg (kk y ?_)
  unfold oJ
  rw [oVal_obj e1, e4]
theorem r_getR (E : EV G cI cJ cZ cD cR cT A cc ret nL own p s m args meth c) (hW : WS G cI cJ cZ cD cR cT A kp L f s H locs) (hr : RK kp L a ci) (hci : ci < 100) (hc : vwCl[ci]? = some (C, T, N)) (hN : nF ci = N) (hk : k < N) (hin : ∀ w ∈ u_ws C T N, w ∈ wTab) (hlk : Cond.fieldLink own index C (T k).2.1 (T k).2.2.1 ∈ wTab) (hT : (T k).1 = C) (hft : fTab ci k = (2, K, 0, 0)) (hdg : decode cc pc = .ok (.getfield index, 3))
    (kk : ∀ y : Nat, oR (f a) k = y → RK kp L y K → W p l e R s m args below meth c H locs cells slots Q (F0 m (pc + 3) ls (.ref y :: rest))) : W p l e R s m args below meth c H locs cells slots Q (F0 m pc ls (.ref a :: rest)) := by
  obtain ⟨hx, hb, -, -, hown, hts, -, hKK, -⟩ := E
  obtain ⟨fs, e1, e2, e3⟩ := th_obj hW.2.2.2 hr hci
  obtain ⟨q, hq⟩ := ws_at hW hr.1
  have h3 := e3 k (by omega)
  rw [hft] at h3
  obtain ⟨y, e4, e5⟩ := h3
  have e6 : fs[k]? = some (.ref y) := by
    have : k < fs.length := by omega
    rw [List.getElem?_eq_getElem this]
    rw [List.getD_eq_getElem?_getD, List.getElem?_eq_getElem this] at e4
    exact congrArg some e4
  rw [e1] at hq
  refine va_get (v := .ref y) hx hb hts hin hown hKK.1 hW.1 q hq hc k hk (hts _ hlk) (fun x h => by rw [hT] at h; exact h) e6 hdg (kk y ?_ e5)
  unfold oR
  rw [oVal_obj e1, e4]
/-- a field is written: any value that is of its kind -/
theorem r_put (E : EV G cI cJ cZ cD cR cT A cc ret nL own p s m args meth c) (hW : WS G cI cJ cZ cD cR cT A kp L f s H locs) (hr : RK kp L a ci) (hci : ci < 100) (hc : vwCl[ci]? = some (C, T, N)) (hN : nF ci = N) (hk : k < N) (hin : ∀ w ∈ u_ws C T N, w ∈ wTab) (ty0 : Nat → FieldType) (hty : ∀ k, k < N → parseFieldDescriptor (T k).2.2.1 = some (ty0 k)) (hnm : ∀ a, a < N → ∀ b, b < N → a ≠ b → (T a).2.1 ≠ (T b).2.1) (hlk : Cond.fieldLink own index C (T k).2.1 (T k).2.2.1 ∈ wTab) (hT : (T k).1 = C) (hfin : (T k).2.2.2 = false) (hs : sKind ci = false) {v : Value} (hv : okV kp L (fTab ci k) v) (hn : narrow (ty0 k) v = v) (hfit : fits (ty0 k) v = true) (hdg : decode cc pc = .ok (.putfield index, 3))
    (kk : ∀ (f1 : Nat → va_E) (H1 : Heap) (locs1 : List Loc), oVal (f1 a) k = v → (∀ b, b ≠ a → f1 b = f b) → (∀ j, j ≠ k → oVal (f1 a) j = oVal (f a) j) → FM kp L [(ci, k)] f f1 → WS G cI cJ cZ cD cR cT A kp L f1 s H1 locs1 → W p l e R s m args below meth c H1 locs1 cells slots Q (F0 m (pc + 3) ls rest)) : W p l e R s m args below meth c H locs cells slots Q (F0 m pc ls (v :: .ref a :: rest)) := by
  obtain ⟨hx, hb, -, -, hown, hts, -, hKK, -⟩ := E
  obtain ⟨hP, hD, hS, hTH⟩ := hW
  obtain ⟨fs, e1, e2, e3⟩ := th_obj hTH hr hci
  obtain ⟨q, hq⟩ := ws_at ⟨hP, hD, hS, hTH⟩ hr.1
  have hkl : k < fs.length := by omega
  have hq2 := hq
  rw [e1] at hq2
  have hset : ∀ x, (va_pl L f).set q (a, x) = va_pl L (va_up f a x) := fun x => pl_set hD hr.1 hq
  refine va_put hx hb hts hin ty0 hty hnm hown hKK.1 hP hD hS q hq2 hc k hk (hts _ hlk) (fun x h => by rw [hT] at h; exact h) hfin (hty k hk) hn hfit hkl hdg (fun H1 locs1 hP1 hD1 hS1 => ?_)
  have es : setO (f a) k v = .inr (ci, fs.set k v) := by rw [e1]; rfl
  rw [hset, ← es] at hP1 hD1
  refine kk _ H1 locs1 ?_ (fun b hb => va_up_ne _ _ hb) (fun j hj => ?_) (fm_put e1 hr hci hkl v) ⟨hP1, hD1, hS1, th_up hTH hr (okO_set hTH hr hci (by omega) hv) hs⟩
  · rw [va_up_self, oVal_set e1 hkl, if_pos rfl]
  · rw [va_up_self, oVal_set e1 hkl, if_neg hj]
end ROWS
