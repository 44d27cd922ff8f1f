/-! a typed pool, and beside it cells that are being built -/
def WX (G : va_G) (cI cJ cZ cD cR cT : ClassId) (A : Nat → Prop) (kp : Nat → Nat) (L : List Nat) (f : Nat → va_E) (X : va_W) (s : State) (H : Heap) (locs : List Loc) : Prop :=
  va_P G vwCl (va_pl L f ++ X) H ∧ va_D A (va_pl L f ++ X) ∧ va_S A s.heap H locs ∧ TH cI cJ cZ cD cR cT kp L f
theorem app_l {α : Type} {a b : List α} {k : Nat} {x : α} (h : a[k]? = some x) : (a ++ b)[k]? = some x := by
  have hk : k < a.length := by
    by_cases q : k < a.length
    · exact q
    · rw [List.getElem?_eq_none (by omega)] at h; cases h
  rw [List.getElem?_append_left hk]
  exact h
theorem app_r {α : Type} {a b : List α} {k : Nat} {x : α} (h : b[k]? = some x) : (a ++ b)[a.length + k]? = some x := by
  rw [List.getElem?_append_right (by omega), Nat.add_sub_cancel_left]
  exact h
section WXS
variable {p : Program} {l : Launch} {e : Env} {R : Room} {s S : State} {m : MethodId} {args : Array Value} {below : List Frame} {meth : Method} {c : Code} {H : Heap} {locs : List Loc} {cells slots : Nat} {Q : State → Prop}
variable {cc : ByteArray} {pc : Nat} {ls : Array Slot} {rest st0 : List Value} {G : va_G} {A : Nat → Prop} {cI cJ cZ cD cR cT : ClassId} {ret rety : Option FieldType} {nL : Nat} {own : String} {kp : Nat → Nat} {L : List Nat} {f : Nat → va_E} {X : va_W} {mc ms : Nat} {po : Option Value → (Nat → va_E) → Prop}
theorem wx_ws (h : WX G cI cJ cZ cD cR cT A kp L f X s H locs) : WS G cI cJ cZ cD cR cT A kp L f s H locs :=
  ⟨fun k q hk => h.1 k q (app_l hk), ⟨fun i j p q hi hj e => h.2.1.1 i j p q (app_l hi) (app_l hj) e, fun k q hk => h.2.1.2 k q (app_l hk)⟩, h.2.2.1, h.2.2.2⟩
/-- the cells beside the pool live on through what a call does to the pool -/
theorem wx_join {A1 : Nat → Prop} {H1 : Heap} {f1 : Nat → va_E} (hP : va_P G vwCl (va_pl L f ++ X) H) (hD : va_D A (va_pl L f ++ X)) (hk : ∀ q : Nat, q < H.size → ¬ va_A (va_pl L f) H.size q → H1[q]? = H[q]?) (hP1 : va_P G vwCl (va_pl L f1) H1) (hD1 : va_D A1 (va_pl L f1)) (hA1 : ∀ q : Nat, A1 q → A q) : va_P G vwCl (va_pl L f1 ++ X) H1 ∧ va_D A (va_pl L f1 ++ X) := by
  have hne : ∀ (k : Nat) (x : Nat × va_E), X[k]? = some x → x.1 ∉ L := fun k x hx hin => by
    obtain ⟨i, hi⟩ := va_pl_get (X := []) (f := f) hin
    have hi2 : (va_pl L f)[i]? = some (x.1, f x.1) := by simpa using hi
    have e := hD.1 i ((va_pl L f).length + k) _ _ (app_l hi2) (app_r hx) rfl
    have hlt : i < (va_pl L f).length := by
      by_cases q : i < (va_pl L f).length
      · exact q
      · rw [List.getElem?_eq_none (by omega)] at hi2; cases hi2
    omega
  have hin : ∀ (g : Nat → va_E) (k : Nat) (x : Nat × va_E), (va_pl L g)[k]? = some x → x.1 ∈ L := fun g k x hx => by
    unfold va_pl at hx
    rw [List.getElem?_map] at hx
    cases hL : L[k]? with
    | none => rw [hL] at hx; cases hx
    | some a =>
      rw [hL] at hx
      cases hx
      exact List.mem_of_getElem? hL
  have hPX : va_P G vwCl X H := fun k q hq => hP _ q (app_r hq)
  have hPX1 : va_P G vwCl X H1 := hPX.kept (fun k q hq => hk q.1 (hPX k q hq).lt (fun z => by
    rcases z with ⟨i, x, hx⟩ | z
    · exact hne k q hq (hin f i (q.1, x) hx)
    · have := (hPX k q hq).lt; omega))
  exact ⟨hP1.app hPX1, va_D.app (hD1.weaken (fun _ q _ h => hA1 q.1 h)) ⟨fun i j p q hi hj e => by
    have := hD.1 _ _ p q (app_r (a := va_pl L f) hi) (app_r (a := va_pl L f) hj) e
    omega, fun k q hq => hD.2 _ q (app_r (a := va_pl L f) hq)⟩ (fun i j p q hi hj e => hne j q hj (e ▸ hin f1 i p hi))⟩
theorem callTX {av : Array Value} (hA : ∀ q : Nat, s.heap.size ≤ q → A q) (hX : WX G cI cJ cZ cD cR cT A kp L f X s H locs) (hrun : va_Run p l e R s m args below meth c H locs cells slots mc ms (F0 m pc ls st0) rest (QT po G cI cJ cZ cD cR cT (va_A (va_pl L f) H.size) kp L av) (va_A (va_pl L f) H.size))
    (kk : ∀ (v : Option Value) (f1 : Nat → va_E) (H1 : Heap) (locs1 : List Loc), po v f1 → WX G cI cJ cZ cD cR cT A kp L f1 X s H1 locs1 → W p l e R s m args below meth c H1 locs1 (cells + mc) (slots + ms) Q (F0 m (pc + 3) ls (v.toList ++ rest))) : W p l e R s m args below meth c H locs cells slots Q (F0 m pc ls st0) := by
  have hF := hF_of hA (wx_ws hX)
  obtain ⟨hP, hD, hS, hTH⟩ := hX
  intro T hT X0
  obtain ⟨v, st₀, t, T', Lo, h0, X', hL, e1, e2, ⟨⟨v', f1, hv, hpo, hTH1, hP1, hD1⟩, hz, hk⟩, st⟩ := hrun T hT X0
  cases hv
  rw [h0] at hz hk
  obtain ⟨j1, j2⟩ := wx_join hP hD hk hP1 hD1 hF
  obtain ⟨t2, a1, b1⟩ := kk v f1 T'.heap (locs ++ Lo) hpo ⟨by rw [e1]; exact j1, j2, ⟨Nat.le_trans hS.1 (by rw [e1]; exact hz), fun x h1 h2 => by rw [e1, hk x (Nat.lt_of_lt_of_le h1 hS.1) (fun z => h2 (hF x z))]; exact hS.2.1 x h1 h2, fun x hx => by
      rcases List.mem_append.mp hx with h | h
      · exact hS.2.2 x h
      · exact hF _ (hL x h)⟩, hTH1⟩ T' rfl X'
  exact ⟨t2, st t2 a1, b1⟩
theorem callTDX {av : Array Value} (E : EV G cI cJ cZ cD cR cT A cc ret nL own p S m args meth c) (hdr : DR s S) (hX : WX G cI cJ cZ cD cR cT A kp L f X S H locs) (hrun : va_RunD lw_cs p l e R S m args below meth c H locs cells slots mc ms (F0 m pc ls st0) rest (QT po G cI cJ cZ cD cR cT (va_A (va_pl L f) H.size) kp L av) (va_A (va_pl L f) H.size))
    (kk : ∀ (v : Option Value) (f1 : Nat → va_E) (S : State) (H1 : Heap) (locs1 : List Loc), po v f1 → EV G cI cJ cZ cD cR cT A cc ret nL own p S m args meth c → DR s S → WX G cI cJ cZ cD cR cT A kp L f1 X S H1 locs1 → W p l e R S m args below meth c H1 locs1 (cells + mc) (slots + ms) Q (F0 m (pc + 3) ls (v.toList ++ rest))) : W p l e R S m args below meth c H locs cells slots Q (F0 m pc ls st0) := by
  obtain ⟨d, hd, rfl⟩ := hdr
  have hF := hF_of E.2.2.2.2.2.2.2.2 (wx_ws hX)
  obtain ⟨hP, hD, hS, hTH⟩ := hX
  intro T hT X0
  obtain ⟨v, st₀, t, T', Lo, d', hd', h0, X', hL, e1, e2, ⟨⟨v', f1, hv, hpo, hTH1, hP1, hD1⟩, hz, hk⟩, st⟩ := hrun T hT X0
  cases hv
  rw [h0] at hz hk
  obtain ⟨j1, j2⟩ := wx_join hP hD hk hP1 hD1 hF
  obtain ⟨t2, a1, b1⟩ := kk v f1 (s.setDrawn d') T'.heap (locs ++ Lo) hpo (ev_d E) ⟨d', hd.trans hd', rfl⟩ ⟨by rw [e1]; exact j1, j2, ⟨Nat.le_trans hS.1 (by rw [e1]; exact hz), fun x h1 h2 => by rw [e1, hk x (Nat.lt_of_lt_of_le h1 hS.1) (fun z => h2 (hF x z))]; exact hS.2.1 x h1 h2, fun x hx => by
      rcases List.mem_append.mp hx with h | h
      · exact hS.2.2 x h
      · exact hF _ (hL x h)⟩, hTH1⟩ T' rfl X'
  exact ⟨t2, st t2 a1, b1⟩
end WXS
