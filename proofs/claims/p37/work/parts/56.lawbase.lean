/-! the law: what holds at the head of its loop -/
def TXI (f : Nat → va_E) (m : Nat) : Prop := TX (aI (f (oR (f m) 2))) ∧ ∀ k : Int, (k = 0 ∨ k = 1) → TX (fun j => aI (f (oR (f m) 3)) (35942 * k + (j : Int)).toNat)
theorem tx_fun {g g1 : Nat → Int32} (h : TX g) (e : ∀ j : Nat, g1 j = g j) : TX g1 := by
  have e2 : g1 = g := funext e
  rw [e2]
  exact h
section TXI
variable {cI cJ cZ cD cR cT : ClassId} {kp : Nat → Nat} {L : List Nat} {f f1 : Nat → va_E} {ms rw : List (Nat × Nat)} {m : Nat} {u : Int32}
theorem txi_im (hTH : TH cI cJ cZ cD cR cT kp L f) (h : TXI f m) (g : FM kp L ms f f1) (hr : RK kp L m 12) (h3 : ms.contains (12, 3) = false) (h5 : ms.contains (823, 0) = false) : ∀ k : Int, (k = 0 ∨ k = 1) → TX (fun j => aI (f1 (oR (f1 m) 3)) (35942 * k + (j : Int)).toNat) := fun k hk => by
  have r3 : RK kp L (oR (f m) 3) 823 := th_ref hTH hr (by decide) (by decide) rfl
  rw [fm_R g hr h3, fm_A g r3 (by decide) h5]
  exact h.2 k hk
theorem txi_fm (hTH : TH cI cJ cZ cD cR cT kp L f) (h : TXI f m) (g : FM kp L ms f f1) (hr : RK kp L m 12) (h2 : ms.contains (12, 2) = false) (h3 : ms.contains (12, 3) = false) (h4 : ms.contains (822, 0) = false) (h5 : ms.contains (823, 0) = false) : TXI f1 m := by
  have r2 : RK kp L (oR (f m) 2) 822 := th_ref hTH hr (by decide) (by decide) rfl
  refine ⟨?_, txi_im hTH h g hr h3 h5⟩
  rw [fm_R g hr h2, fm_A g r2 (by decide) h4]
  exact h.1
theorem txi_rf (hTH : TH cI cJ cZ cD cR cT kp L f) (h : TXI f m) (g : FM kp L ms f f1) (hr : RK kp L m 12) (h2 : ms.contains (12, 2) = false) (h3 : ms.contains (12, 3) = false) (h5 : ms.contains (823, 0) = false) (hR : RF rw f f1 m) (w3 : rwOut rw 3 = true) (wm : rw.all (fun q => decide (q.2 < 17982)) = true) : TXI f1 m := by
  refine ⟨?_, txi_im hTH h g hr h3 h5⟩
  rw [fm_R g hr h2]
  exact tx_rf h.1 hR rfl w3 wm
theorem txi_tx (hTH : TH cI cJ cZ cD cR cT kp L f) (h : TXI f m) (g : FM kp L ms f f1) (hr : RK kp L m 12) (h2 : ms.contains (12, 2) = false) (h3 : ms.contains (12, 3) = false) (h5 : ms.contains (823, 0) = false) (hT : TX (aI (f1 (oR (f m) 2)))) : TXI f1 m := by
  refine ⟨?_, txi_im hTH h g hr h3 h5⟩
  rw [fm_R g hr h2]
  exact hT
theorem row3 {g : Nat → Int32} (h : RowInv g) {j : Nat} (e : j = 3) : (g j).toInt ≤ 20 := by
  subst e
  exact ((h.1 3).2.2.2.1 rfl).2
theorem txi_image (hTH : TH cI cJ cZ cD cR cT kp L f) (h : TXI f m) (g : FM kp L ms f f1) (hr : RK kp L m 12) (h2 : ms.contains (12, 2) = false) (h3 : ms.contains (12, 3) = false) (h4 : ms.contains (822, 0) = false) (hc : ((0 ≤ u.toInt ∧ u.toInt ≤ 1) ∧ CP (aI (f (oR (f m) 2))) (aI (f1 (oR (f m) 3))) 0 (35942 * u.toInt) 35942 ∧ ∀ j : Nat, ((j : Int) < 35942 * u.toInt ∨ 35942 * u.toInt + 35942 ≤ (j : Int)) → aI (f1 (oR (f m) 3)) j = aI (f (oR (f m) 3)) j) ∨ aI (f1 (oR (f m) 3)) = aI (f (oR (f m) 3))) : TXI f1 m := by
  have r2 : RK kp L (oR (f m) 2) 822 := th_ref hTH hr (by decide) (by decide) rfl
  have hrow : RowInv (aI (f (oR (f m) 2))) := th_row hTH r2
  refine ⟨?_, fun k hk => ?_⟩
  · rw [fm_R g hr h2, fm_A g r2 (by decide) h4]
    exact h.1
  · rw [fm_R g hr h3]
    rcases hc with ⟨hu, hcp, ho⟩ | hc
    · by_cases e : k = u.toInt
      · subst e
        refine tx_cp (r := fun _ => 0) (a := 0) (g := aI (f (oR (f m) 2))) (tx_fun h.1 (fun j => ?_)) hcp (row3 hrow rfl)
        congr 1
        omega
      · have h20 : ∀ j : Nat, j < 35942 → (fun j : Nat => aI (f1 (oR (f m) 3)) (35942 * k + (j : Int)).toNat) j = (fun j : Nat => aI (f (oR (f m) 3)) (35942 * k + (j : Int)).toNat) j := fun j hj => ho _ (by omega)
        have r3 : RK kp L (oR (f m) 3) 823 := th_ref hTH hr (by decide) (by decide) rfl
        have himg : ImgInv (aI (f (oR (f m) 3))) := th_img hTH r3
        have e3 : (aI (f (oR (f m) 3)) (35942 * k + 3).toNat).toInt ≤ 20 := by
          rcases hk with rfl | rfl
          · exact row3 himg.1 rfl
          · exact row3 himg.2 (j := 3) rfl
        refine tx_cp (r := fun _ => 0) (a := 35942 * k) (b := 35942 * k) (g := aI (f (oR (f m) 3))) (h.2 k hk) (fun j h1 h2 => ho _ (by omega)) e3
    · rw [hc]
      exact h.2 k hk
theorem txi_back (hTH : TH cI cJ cZ cD cR cT kp L f) (h : TXI f m) (g : FM kp L ms f f1) (hr : RK kp L m 12) (h2 : ms.contains (12, 2) = false) (h3 : ms.contains (12, 3) = false) (h5 : ms.contains (823, 0) = false) (hc : ((0 ≤ u.toInt ∧ u.toInt ≤ 1) ∧ CP (aI (f (oR (f m) 3))) (aI (f1 (oR (f m) 2))) (35942 * u.toInt) 0 35942) ∨ aI (f1 (oR (f m) 2)) = aI (f (oR (f m) 2))) : TXI f1 m := by
  refine ⟨?_, txi_im hTH h g hr h3 h5⟩
  rw [fm_R g hr h2]
  rcases hc with ⟨hu, hcp⟩ | hc
  · have hk : u.toInt = 0 ∨ u.toInt = 1 := by omega
    have r3 : RK kp L (oR (f m) 3) 823 := th_ref hTH hr (by decide) (by decide) rfl
    have himg : ImgInv (aI (f (oR (f m) 3))) := th_img hTH r3
    have e3 : (aI (f (oR (f m) 3)) (35942 * u.toInt + 3).toNat).toInt ≤ 20 := by
      rcases hk with e | e
      · rw [e]; exact row3 himg.1 rfl
      · rw [e]; exact row3 himg.2 (j := 3) rfl
    have z := tx_cp (r := fun _ => 0) (b := 0) (h.2 u.toInt hk) hcp e3
    refine tx_fun z (fun j => ?_)
    show aI (f1 (oR (f m) 2)) j = aI (f1 (oR (f m) 2)) ((0 : Int) + (j : Int)).toNat
    congr 1
    omega
  · rw [hc]
    exact h.1
end TXI
section TIEV
variable {cI cJ cZ cD cR cT : ClassId} {kp : Nat → Nat} {L : List Nat} {f f1 f2 : Nat → va_E} {ms ms1 ms2 : List (Nat × Nat)} {x k : Nat} {u r1 r2 : Int32}
/-- the crops told: as many on both sides -/
def TIE (f : Nat → va_E) (x k : Nat) : Prop := (oI (f x) 12).toInt = (oI (f k) 43).toInt
theorem tie_fm (hTH : TH cI cJ cZ cD cR cT kp L f) (h : TIE f x k) (g : FM kp L ms f f1) (rx : RK kp L x 11) (rk : RK kp L k 12) (c1 : ms.contains (11, 12) = false) (c2 : ms.contains (12, 43) = false) : TIE f1 x k := by
  unfold TIE
  rw [fm_I g rx c1, fm_I g rk c2]
  exact h
end TIEV
/-- at the head of the loop -/
def LWS (G : va_G) (cI cJ cZ cD cR cT : ClassId) (A : Nat → Prop) (kp : Nat → Nat) (L : List Nat) (f : Nat → va_E) (x k : Nat) (s S : State) (H : Heap) (locs : List Loc) : Prop :=
  DR s S ∧ WS G cI cJ cZ cD cR cT A kp L f S H locs ∧ RK kp L x 11 ∧ RK kp L k 12 ∧ TXI f k ∧ TIE f x k
section LAWB
variable {p : Program} {l : Launch} {e : Env} {R : Room} {s S : State} {m : MethodId} {args : Array Value} {below : List Frame} {meth : Method} {c : Code} {H : Heap} {locs : List Loc} {cells slots : Nat} {Q : State → Prop}
variable {cc : ByteArray} {pc : Nat} {ls : Array Slot} {rest : List Value} {G : va_G} {A : Nat → Prop} {cI cJ cZ cD cR cT : ClassId} {ret : Option FieldType} {nL : Nat} {own : String} {σ : SE} {b Ls m1 m2 : Nat} {xs : Nat → Int32} {i : Int32}
theorem ev_S (E : EV G cI cJ cZ cD cR cT A cc ret nL own p s m args meth c) (h : DR s S) : EV G cI cJ cZ cD cR cT A cc ret nL own p S m args meth c := by
  obtain ⟨d, hd, rfl⟩ := h
  exact ev_d E
theorem sx_S (h : DR s S) (hSX : SX σ A s s.heap) : SX σ A S S.heap := by
  obtain ⟨d, hd, rfl⟩ := h
  exact ⟨SV.moved (u := s) (U := s.setDrawn d) (Vm.Alike.refl _) hSX.1, vk_R.same (u := s) rfl hSX.2⟩
theorem ca_S (h : DR s S) (hCA : CA s) : CA S := by
  obtain ⟨d, hd, rfl⟩ := h
  exact CA.moved (u := s) (U := s.setDrawn d) (Vm.Alike.refl _) hCA
theorem xx_S (h : DR s S) (hX : va_X b Ls xs s s.heap) : va_X b Ls xs S S.heap := by
  obtain ⟨d, hd, rfl⟩ := h
  exact va_X.moved (u := s) (U := s.setDrawn d) (Vm.Alike.refl _) hX
theorem hs_S (h : DR s S) : S.heap = s.heap := by
  obtain ⟨d, hd, rfl⟩ := h
  rfl
/-- the k-th number of a call -/
def ag (xs : Nat → Int32) (i : Int32) (k : Nat) : Int32 := xs (i.toInt.toNat + k)
theorem law_arg {k : Nat} {kz : Int} (hx : p.tables.exec = Jvm.exec) (hb : c.code = cc) {lv : List (Nat × Value)} (hl : lv_has ls 4 ((3, .int i) :: (2, .ref m2) :: (1, .ref m1) :: (0, .ref b) :: lv)) (hX : va_X b Ls xs S S.heap) (hbl : b < S.heap.size) (hbA : ¬ A b) (hS : va_S A S.heap H locs) (hi : 0 ≤ i.toInt ∧ i.toInt + 6 ≤ (Ls : Int) ∧ Ls ≤ 3072) (hkz : kz = (k : Int)) (hk : k ≤ 5)
    (d0 : decode cc pc = .ok (.aload_n 0, 1)) (d1 : decode cc (pc + 1) = .ok (.iload_n 3, 1)) (d2 : decode cc (pc + 2) = .ok (.iconst kz, 1)) (d3 : decode cc (pc + 3) = .ok (.iadd, 1)) (d4 : decode cc (pc + 4) = .ok (.iaload, 1))
    (kk : W p l e R S m args below meth c H locs cells slots Q (F0 m (pc + 5) ls (.int (ag xs i k) :: rest))) : W p l e R S m args below meth c H locs cells slots Q (F0 m pc ls rest) := by
  have hkz2 : (Int32.ofInt kz).toInt = kz := by
    rw [Int32.toInt_ofInt]
    exact bmod32 (by omega) (by omega)
  refine lv_aload_n hx hb d0 rfl (lv_at hl 3 rfl) ?_
  refine lv_iload_n hx hb d1 rfl (lv_at hl 0 rfl) ?_
  refine lv_iconst (v := Int32.ofInt kz) hx hb d2 rfl ?_
  refine q_iadd hx hb d3 rfl hkz2 (by omega) (fun z hz => ?_)
  refine va_sld hx hb hX hbl hbA hS (vin ⟨by omega, by omega⟩) d4 ?_
  have e : z.toNatClampNeg = i.toInt.toNat + k := by
    have := tnc (i := z) (by omega)
    omega
  rw [e]
  exact kk
end LAWB
