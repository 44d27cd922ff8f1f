/-! the law: what holds at the head of its loop -/
def TXI (f : Nat → va_E) (m : Nat) : Prop := TX (aI (f (oR (f m) 2))) ∧ ∀ k : Int, (k = 0 ∨ k = 1) → TX (fun j => aI (f (oR (f m) 3)) (35942 * k + (j : Int)).toNat)
theorem tx_fun {g g1 : Nat → Int32} (h : TX g) (e : ∀ j : Nat, g1 j = g j) : TX g1 := by
  have e2 : g1 = g := funext e
  rw [e2]
  exact h
section TXI
variable {cI cJ cZ cD cR cT : ClassId} {kp : Nat → Nat} {L : List Nat} {f f1 : Nat → va_E} {ms rw : List (Nat × Nat)} {m : Nat} {u : Int32}
theorem txi_im (hTH : TH cI cJ cZ cD cR cT kp L f) (h : TXI f m) (g : FM kp L ms f f1) (hr : RK kp L m 12) (h3 : ms.contains (12, 3) = false) (h5 : ms.contains (823, 0) = false) : ∀ k : Int, (k = 0 ∨ k = 1) → TX (fun j => aI (f1 (oR (f1 m) 3)) (35942 * k + (j : Int)).toNat) := fun k hk => by
  have r3 : RK kp L (oR (f m) 3) 823 := th_ref hTH hr (by decide) (by decide) rfl
  rw [fm_R g hr h3, fm_A g r3 (by decide) h5]
  exact h.2 k hk
theorem txi_fm (hTH : TH cI cJ cZ cD cR cT kp L f) (h : TXI f m) (g : FM kp L ms f f1) (hr : RK kp L m 12) (h2 : ms.contains (12, 2) = false) (h3 : ms.contains (12, 3) = false) (h4 : ms.contains (822, 0) = false) (h5 : ms.contains (823, 0) = false) : TXI f1 m := by
  have r2 : RK kp L (oR (f m) 2) 822 := th_ref hTH hr (by decide) (by decide) rfl
  refine ⟨?_, txi_im hTH h g hr h3 h5⟩
  rw [fm_R g hr h2, fm_A g r2 (by decide) h4]
  exact h.1
theorem txi_rf (hTH : TH cI cJ cZ cD cR cT kp L f) (h : TXI f m) (g : FM kp L ms f f1) (hr : RK kp L m 12) (h2 : ms.contains (12, 2) = false) (h3 : ms.contains (12, 3) = false) (h5 : ms.contains (823, 0) = false) (hR : RF rw f f1 m) (w3 : rwOut rw 3 = true) (wm : rw.all (fun q => decide (q.2 < 17982)) = true) : TXI f1 m := by
  refine ⟨?_, txi_im hTH h g hr h3 h5⟩
  rw [fm_R g hr h2]
  exact tx_rf h.1 hR rfl w3 wm
theorem txi_tx (hTH : TH cI cJ cZ cD cR cT kp L f) (h : TXI f m) (g : FM kp L ms f f1) (hr : RK kp L m 12) (h2 : ms.contains (12, 2) = false) (h3 : ms.contains (12, 3) = false) (h5 : ms.contains (823, 0) = false) (hT : TX (aI (f1 (oR (f m) 2)))) : TXI f1 m := by
  refine ⟨?_, txi_im hTH h g hr h3 h5⟩
  rw [fm_R g hr h2]
  exact hT
theorem row3 {g : Nat → Int32} (h : RowInv g) {j : Nat} (e : j = 3) : (g j).toInt ≤ 20 := by
  subst e
  exact ((h.1 3).2.2.2.1 rfl).2
theorem txi_image (hTH : TH cI cJ cZ cD cR cT kp L f) (h : TXI f m) (g : FM kp L ms f f1) (hr : RK kp L m 12) (h2 : ms.contains (12, 2) = false) (h3 : ms.contains (12, 3) = false) (h4 : ms.contains (822, 0) = false) (hc : ((0 ≤ u.toInt ∧ u.toInt ≤ 1) ∧ CP (aI (f (oR (f m) 2))) (aI (f1 (oR (f m) 3))) 0 (35942 * u.toInt) 35942 ∧ ∀ j : Nat, ((j : Int) < 35942 * u.toInt ∨ 35942 * u.toInt + 35942 ≤ (j : Int)) → aI (f1 (oR (f m) 3)) j = aI (f (oR (f m) 3)) j) ∨ aI (f1 (oR (f m) 3)) = aI (f (oR (f m) 3))) : TXI f1 m := by
  have r2 : RK kp L (oR (f m) 2) 822 := th_ref hTH hr (by decide) (by decide) rfl
  have hrow : RowInv (aI (f (oR (f m) 2))) := th_row hTH r2
  refine ⟨?_, fun k hk => ?_⟩
  · rw [fm_R g hr h2, fm_A g r2 (by decide) h4]
    exact h.1
  · rw [fm_R g hr h3]
    rcases hc with ⟨hu, hcp, ho⟩ | hc
    · by_cases e : k = u.toInt
      · subst e
        refine tx_cp (r := fun _ => 0) (a := 0) (g := aI (f (oR (f m) 2))) (tx_fun h.1 (fun j => ?_)) hcp (row3 hrow rfl)
        congr 1
        omega
      · have h20 : ∀ j : Nat, j < 35942 → (fun j : Nat => aI (f1 (oR (f m) 3)) (35942 * k + (j : Int)).toNat) j = (fun j : Nat => aI (f (oR (f m) 3)) (35942 * k + (j : Int)).toNat) j := fun j hj => ho _ (by omega)
        have r3 : RK kp L (oR (f m) 3) 823 := th_ref hTH hr (by decide) (by decide) rfl
        have himg : ImgInv (aI (f (oR (f m) 3))) := th_img hTH r3
        have e3 : (aI (f (oR (f m) 3)) (35942 * k + 3).toNat).toInt ≤ 20 := by
          rcases hk with rfl | rfl
          · exact row3 himg.1 rfl
          · exact row3 himg.2 (j := 3) rfl
        refine tx_cp (r := fun _ => 0) (a := 35942 * k) (b := 35942 * k) (g := aI (f (oR (f m) 3))) (h.2 k hk) (fun j h1 h2 => ho _ (by omega)) e3
    · rw [hc]
      exact h.2 k hk
theorem txi_back (hTH : TH cI cJ cZ cD cR cT kp L f) (h : TXI f m) (g : FM kp L ms f f1) (hr : RK kp L m 12) (h2 : ms.contains (12, 2) = false) (h3 : ms.contains (12, 3) = false) (h5 : ms.contains (823, 0) = false) (hc : ((0 ≤ u.toInt ∧ u.toInt ≤ 1) ∧ CP (aI (f (oR (f m) 3))) (aI (f1 (oR (f m) 2))) (35942 * u.toInt) 0 35942) ∨ aI (f1 (oR (f m) 2)) = aI (f (oR (f m) 2))) : TXI f1 m := by
  refine ⟨?_, txi_im hTH h g hr h3 h5⟩
  rw [fm_R g hr h2]
  rcases hc with ⟨hu, hcp⟩ | hc
  · have hk : u.toInt = 0 ∨ u.toInt = 1 := by omega
    have r3 : RK kp L (oR (f m) 3) 823 := th_ref hTH hr (by decide) (by decide) rfl
    have himg : ImgInv (aI (f (oR (f m) 3))) := th_img hTH r3
    have e3 : (aI (f (oR (f m) 3)) (35942 * u.toInt + 3).toNat).toInt ≤ 20 := by
      rcases hk with e | e
      · rw [e]; exact row3 himg.1 rfl
      · rw [e]; exact row3 himg.2 (j := 3) rfl
    have z := tx_cp (r := fun _ => 0) (b := 0) (h.2 u.toInt hk) hcp e3
    refine tx_fun z (fun j => ?_)
    show aI (f1 (oR (f m) 2)) j = aI (f1 (oR (f m) 2)) ((0 : Int) + (j : Int)).toNat
    congr 1
    omega
  · rw [hc]
    exact h.1
end TXI
/-! the tie: both sides hold the same PEOPLE, offers and BRAVE; so does what is kept -/
def V8 (f : Nat → va_E) (c : Nat) : VP × VL := (P8 f (oR (f c) 0), L8 f (oR (f c) 5))
def R8 (g : Nat → Int32) (o : Nat) : VP × VL := (RP g o, RG g o)
def SA (v r : VP × VL) : Prop := v = r ∧ HC r.1
def T8 (f : Nat → va_E) (c : Nat) : List Nat := [oR (f c) 0, oR (f (oR (f c) 0)) 1, oR (f (oR (f c) 0)) 3, oR (f (oR (f c) 0)) 4, oR (f (oR (f c) 0)) 6, oR (f c) 5, oR (f (oR (f c) 5)) 4, oR (f (oR (f c) 5)) 5]
def ND (f : Nat → va_E) (x : Nat) : Prop := (T8 f (oR (f x) 0) ++ (T8 f (oR (f x) 1) ++ (T8 f (oR (f x) 2) ++ T8 f (oR (f x) 3)))).Nodup
def TIE (f : Nat → va_E) (x k : Nat) : Prop := ND f x ∧ SA (V8 f (oR (f x) 0)) (R8 (aI (f (oR (f k) 2))) 0) ∧ ((oI (f x) 4).toInt = (aI (f (oR (f k) 5)) 0).toInt ∧ (oI (f x) 5).toInt = (aI (f (oR (f k) 5)) 1).toInt) ∧ (¬ (oI (f x) 4).toInt = 0 → SA (V8 f (oR (f x) 2)) (R8 (aI (f (oR (f k) 3))) 0)) ∧ (¬ (oI (f x) 5).toInt = 0 → SA (V8 f (oR (f x) 3)) (R8 (aI (f (oR (f k) 3))) 35942))
def KR : List (Nat × Nat) := [(11, 0), (11, 1), (11, 2), (11, 3), (0, 0), (0, 5), (4, 1), (4, 3), (4, 4), (4, 6), (3, 4), (3, 5)]
def KF : List (Nat × Nat) := [(11, 4), (11, 5)]
theorem nd_dis {q : Nat} : ∀ {l1 l2 : List Nat}, (l1 ++ l2).Nodup → q ∈ l1 → q ∉ l2 := by
  intro l1
  induction l1 with
  | nil => intro l2 _ h; exact absurd h List.not_mem_nil
  | cons a l ih =>
    intro l2 h h1 h2
    rw [List.cons_append, List.nodup_cons] at h
    rcases List.mem_cons.mp h1 with e | h1
    · subst e; exact h.1 (List.mem_append_right _ h2)
    · exact ih h.2 h1 h2
theorem nd_r : ∀ {l1 l2 : List Nat}, (l1 ++ l2).Nodup → l2.Nodup := by
  intro l1
  induction l1 with
  | nil => intro l2 h; exact h
  | cons a l ih =>
    intro l2 h
    rw [List.cons_append, List.nodup_cons] at h
    exact ih h.2
section TIE8
variable {cI cJ cZ cD cR cT : ClassId} {kp : Nat → Nat} {L : List Nat} {f f1 f2 : Nat → va_E} {ms ms1 ms2 rw rw2 : List (Nat × Nat)} {x k c d : Nat} {S : List Nat} {u r1 r2 : Int32}
/-- references are as they were -/
def RE (kp : Nat → Nat) (L : List Nat) (f f1 : Nat → va_E) (x : Nat) : Prop := (oR (f1 x) 0 = oR (f x) 0 ∧ oR (f1 x) 1 = oR (f x) 1 ∧ oR (f1 x) 2 = oR (f x) 2 ∧ oR (f1 x) 3 = oR (f x) 3) ∧ (∀ c : Nat, RK kp L c 0 → oR (f1 c) 0 = oR (f c) 0 ∧ oR (f1 c) 5 = oR (f c) 5) ∧ (∀ p : Nat, RK kp L p 4 → oR (f1 p) 1 = oR (f p) 1 ∧ oR (f1 p) 3 = oR (f p) 3 ∧ oR (f1 p) 4 = oR (f p) 4 ∧ oR (f1 p) 6 = oR (f p) 6) ∧ (∀ l : Nat, RK kp L l 3 → oR (f1 l) 4 = oR (f l) 4 ∧ oR (f1 l) 5 = oR (f l) 5)
theorem re_fm (g : FM kp L ms f f1) (rx : RK kp L x 11) (h : NO KR ms = true) : RE kp L f f1 x :=
  ⟨⟨fm_R g rx (no_at h (by decide)), fm_R g rx (no_at h (by decide)), fm_R g rx (no_at h (by decide)), fm_R g rx (no_at h (by decide))⟩, fun c hc => ⟨fm_R g hc (no_at h (by decide)), fm_R g hc (no_at h (by decide))⟩, fun p hp => ⟨fm_R g hp (no_at h (by decide)), fm_R g hp (no_at h (by decide)), fm_R g hp (no_at h (by decide)), fm_R g hp (no_at h (by decide))⟩, fun l hl => ⟨fm_R g hl (no_at h (by decide)), fm_R g hl (no_at h (by decide))⟩⟩
theorem rk4 (hTH : TH cI cJ cZ cD cR cT kp L f) (rx : RK kp L x 11) : RK kp L (oR (f x) 0) 0 ∧ RK kp L (oR (f x) 1) 0 ∧ RK kp L (oR (f x) 2) 0 ∧ RK kp L (oR (f x) 3) 0 :=
  ⟨th_ref hTH rx (by decide) (by decide) rfl, th_ref hTH rx (by decide) (by decide) rfl, th_ref hTH rx (by decide) (by decide) rfl, th_ref hTH rx (by decide) (by decide) rfl⟩
theorem rk2 (hTH : TH cI cJ cZ cD cR cT kp L f) (rc : RK kp L c 0) : RK kp L (oR (f c) 0) 4 ∧ RK kp L (oR (f c) 5) 3 :=
  ⟨th_ref hTH rc (by decide) (by decide) rfl, th_ref hTH rc (by decide) (by decide) rfl⟩
theorem t8_re (hTH : TH cI cJ cZ cD cR cT kp L f) (hR : RE kp L f f1 x) (hc : RK kp L c 0) : T8 f1 c = T8 f c := by
  obtain ⟨rp, rl⟩ := rk2 hTH hc
  obtain ⟨a, b⟩ := hR.2.1 c hc
  obtain ⟨p1, p3, p4, p6⟩ := hR.2.2.1 _ rp
  obtain ⟨l4, l5⟩ := hR.2.2.2 _ rl
  unfold T8
  rw [a, b, p1, p3, p4, p6, l4, l5]
theorem nd_re (hTH : TH cI cJ cZ cD cR cT kp L f) (rx : RK kp L x 11) (hR : RE kp L f f1 x) (h : ND f x) : ND f1 x := by
  obtain ⟨q0, q1, q2, q3⟩ := rk4 hTH rx
  obtain ⟨⟨e0, e1, e2, e3⟩, -⟩ := id hR
  unfold ND
  rw [e0, e1, e2, e3, t8_re hTH hR q0, t8_re hTH hR q1, t8_re hTH hR q2, t8_re hTH hR q3]
  exact h
theorem v8_wu (hTH : TH cI cJ cZ cD cR cT kp L f) (rc : RK kp L c 0) (w : WU kp L S f f1) (hR : RE kp L f f1 x) (hd : ∀ q : Nat, q ∈ T8 f c → q ∉ S) : V8 f1 c = V8 f c := by
  obtain ⟨rp, rl⟩ := rk2 hTH rc
  obtain ⟨a, b⟩ := hR.2.1 c rc
  obtain ⟨p1, p3, p4, p6⟩ := hR.2.2.1 _ rp
  obtain ⟨l4, l5⟩ := hR.2.2.2 _ rl
  unfold V8
  rw [a, b, p8_wu hTH rp w p1 p3 p4 p6 (fun q hq => hd q (by simp only [T8, List.mem_cons, List.not_mem_nil, or_false] at hq ⊢; omega)), l8_wu hTH rl w l4 l5 (fun q hq => hd q (by simp only [T8, List.mem_cons, List.not_mem_nil, or_false] at hq ⊢; omega))]
theorem v8_fm (hTH : TH cI cJ cZ cD cR cT kp L f) (rc : RK kp L c 0) (g : FM kp L ms f f1) (hW : NO UM ms = true) (hR : RE kp L f f1 x) : V8 f1 c = V8 f c :=
  v8_wu (S := []) hTH rc (wu_fm wu_rf g hW) hR (fun _ _ => List.not_mem_nil)
/-- the four counties stand apart -/
theorem nd_ap (h : ND f x) : (∀ q : Nat, q ∈ T8 f (oR (f x) 0) → q ∉ T8 f (oR (f x) 1) ∧ q ∉ T8 f (oR (f x) 2) ∧ q ∉ T8 f (oR (f x) 3)) ∧ (∀ q : Nat, q ∈ T8 f (oR (f x) 1) → q ∉ T8 f (oR (f x) 2) ∧ q ∉ T8 f (oR (f x) 3)) ∧ (∀ q : Nat, q ∈ T8 f (oR (f x) 2) → q ∉ T8 f (oR (f x) 3)) := by
  have h1 := nd_r h
  have h2 := nd_r h1
  refine ⟨fun q hq => ?_, fun q hq => ?_, fun q hq => nd_dis h2 hq⟩
  · have z := nd_dis h hq
    exact ⟨fun w => z (List.mem_append_left _ w), fun w => z (List.mem_append_right _ (List.mem_append_left _ w)), fun w => z (List.mem_append_right _ (List.mem_append_right _ w))⟩
  · have z := nd_dis h1 hq
    exact ⟨fun w => z (List.mem_append_left _ w), fun w => z (List.mem_append_right _ w)⟩
/-- the reference's side, where it is as it was -/
theorem im_fm (hTH : TH cI cJ cZ cD cR cT kp L f) (rk : RK kp L k 12) (g : FM kp L ms f f1) (h : NO [(12, 3), (823, 0)] ms = true) : aI (f1 (oR (f1 k) 3)) = aI (f (oR (f k) 3)) := by
  have r3 : RK kp L (oR (f k) 3) 823 := th_ref hTH rk (by decide) (by decide) rfl
  rw [fm_R g rk (no_at h (by decide)), fm_A g r3 (by decide) (no_at h (by decide))]
theorem row_fm (hTH : TH cI cJ cZ cD cR cT kp L f) (rk : RK kp L k 12) (g : FM kp L ms f f1) (h : NO [(12, 2), (822, 0)] ms = true) : aI (f1 (oR (f1 k) 2)) = aI (f (oR (f k) 2)) := by
  have r3 : RK kp L (oR (f k) 2) 822 := th_ref hTH rk (by decide) (by decide) rfl
  rw [fm_R g rk (no_at h (by decide)), fm_A g r3 (by decide) (no_at h (by decide))]
theorem kept_fm (hTH : TH cI cJ cZ cD cR cT kp L f) (rk : RK kp L k 12) (g : FM kp L ms f f1) (h : NO [(12, 5), (825, 0)] ms = true) : aI (f1 (oR (f1 k) 5)) = aI (f (oR (f k) 5)) := by
  have r3 : RK kp L (oR (f k) 5) 825 := th_ref hTH rk (by decide) (by decide) rfl
  rw [fm_R g rk (no_at h (by decide)), fm_A g r3 (by decide) (no_at h (by decide))]
/-- nothing of it changes -/
theorem tie_fm (hTH : TH cI cJ cZ cD cR cT kp L f) (h : TIE f x k) (g : FM kp L ms f f1) (rx : RK kp L x 11) (rk : RK kp L k 12) (n1 : NO KR ms = true) (n2 : NO UM ms = true) (n3 : NO KF ms = true) (n4 : NO [(12, 2), (822, 0)] ms = true) (n5 : NO [(12, 3), (823, 0)] ms = true) (n6 : NO [(12, 5), (825, 0)] ms = true) : TIE f1 x k := by
  obtain ⟨q0, q1, q2, q3⟩ := rk4 hTH rx
  have hR := re_fm g rx n1
  obtain ⟨h1, h2, h3, h4, h5⟩ := h
  obtain ⟨⟨e0, e1, e2, e3⟩, -⟩ := id hR
  refine ⟨nd_re hTH rx hR h1, ?_, ?_, ?_, ?_⟩
  · rw [e0, v8_fm hTH q0 g n2 hR, row_fm hTH rk g n4]; exact h2
  · rw [fm_I g rx (no_at n3 (by decide)), fm_I g rx (no_at n3 (by decide)), kept_fm hTH rk g n6]; exact h3
  · rw [fm_I g rx (no_at n3 (by decide)), e2, v8_fm hTH q2 g n2 hR, im_fm hTH rk g n5]; exact h4
  · rw [fm_I g rx (no_at n3 (by decide)), e3, v8_fm hTH q3 g n2 hR, im_fm hTH rk g n5]; exact h5
/-- on paper alone -/
theorem tie_pa (hTH : TH cI cJ cZ cD cR cT kp L f) (h : TIE f x k) (g : FM kp L ms f f1) (w : WU kp L (T8 f (oR (f x) 1)) f f1) (rx : RK kp L x 11) (rk : RK kp L k 12) (n1 : NO KR ms = true) (f4 : (oI (f1 x) 4).toInt = (oI (f x) 4).toInt) (f5 : (oI (f1 x) 5).toInt = (oI (f x) 5).toInt) (n4 : NO [(12, 2), (822, 0)] ms = true) (n5 : NO [(12, 3), (823, 0)] ms = true) (n6 : NO [(12, 5), (825, 0)] ms = true) : TIE f1 x k := by
  obtain ⟨q0, q1, q2, q3⟩ := rk4 hTH rx
  have hR := re_fm g rx n1
  obtain ⟨h1, h2, h3, h4, h5⟩ := h
  obtain ⟨a0, a1, a2⟩ := nd_ap h1
  obtain ⟨⟨e0, e1, e2, e3⟩, -⟩ := id hR
  refine ⟨nd_re hTH rx hR h1, ?_, ?_, ?_, ?_⟩
  · rw [e0, v8_wu hTH q0 w hR (fun q hq => (a0 q hq).1), row_fm hTH rk g n4]; exact h2
  · rw [f4, f5, kept_fm hTH rk g n6]; exact h3
  · rw [f4, e2, v8_wu hTH q2 w hR (fun q hq hn => (a1 q hn).1 hq), im_fm hTH rk g n5]; exact h4
  · rw [f5, e3, v8_wu hTH q3 w hR (fun q hq hn => (a1 q hn).2 hq), im_fm hTH rk g n5]; exact h5
/-- the reference's side, by what is the same of it -/
theorem tie_gen (hTH : TH cI cJ cZ cD cR cT kp L f) (h : TIE f x k) (g : FM kp L ms f f1) (rx : RK kp L x 11) (n1 : NO KR ms = true) (n2 : NO UM ms = true) (n3 : NO KF ms = true) (w : R8 (aI (f1 (oR (f1 k) 2))) 0 = R8 (aI (f (oR (f k) 2))) 0) (w0 : R8 (aI (f1 (oR (f1 k) 3))) 0 = R8 (aI (f (oR (f k) 3))) 0) (w1 : R8 (aI (f1 (oR (f1 k) 3))) 35942 = R8 (aI (f (oR (f k) 3))) 35942) (wk : aI (f1 (oR (f1 k) 5)) = aI (f (oR (f k) 5))) : TIE f1 x k := by
  obtain ⟨q0, q1, q2, q3⟩ := rk4 hTH rx
  have hR := re_fm g rx n1
  obtain ⟨h1, h2, h3, h4, h5⟩ := h
  obtain ⟨⟨e0, e1, e2, e3⟩, -⟩ := id hR
  refine ⟨nd_re hTH rx hR h1, ?_, ?_, ?_, ?_⟩
  · rw [e0, v8_fm hTH q0 g n2 hR, w]; exact h2
  · rw [fm_I g rx (no_at n3 (by decide)), fm_I g rx (no_at n3 (by decide)), wk]; exact h3
  · rw [fm_I g rx (no_at n3 (by decide)), e2, v8_fm hTH q2 g n2 hR, w0]; exact h4
  · rw [fm_I g rx (no_at n3 (by decide)), e3, v8_fm hTH q3 g n2 hR, w1]; exact h5
/-- the reference's row changes elsewhere -/
theorem r8_rf (rk : RK kp L k 12) (g : FM kp L ms f f1) (n4 : NO [(12, 2)] ms = true) (hF : RF rw f f1 k) (w : RQ.all (fun j => rwOut rw j) = true) (w2 : RLQ.all (fun j => rwOut rw j) = true) : R8 (aI (f1 (oR (f1 k) 2))) 0 = R8 (aI (f (oR (f k) 2))) 0 := by
  unfold R8
  rw [fm_R g rk (no_at n4 (by decide)), rp_rf hF rfl w, rl_rf hF rfl w2]
theorem r8_pl (rk : RK kp L k 12) (g : FM kp L ms f f1) (n4 : NO [(12, 2)] ms = true) (hF : RF rw f f1 k) (w2 : RLQ.all (fun j => rwOut rw j) = true) (hp : RP (aI (f1 (oR (f k) 2))) 0 = RP (aI (f (oR (f k) 2))) 0) : R8 (aI (f1 (oR (f1 k) 2))) 0 = R8 (aI (f (oR (f k) 2))) 0 := by
  unfold R8
  rw [fm_R g rk (no_at n4 (by decide)), hp, rl_rf hF rfl w2]
theorem tie_row (hTH : TH cI cJ cZ cD cR cT kp L f) (h : TIE f x k) (g : FM kp L ms f f1) (rx : RK kp L x 11) (rk : RK kp L k 12) (n1 : NO KR ms = true) (n2 : NO UM ms = true) (n3 : NO KF ms = true) (n5 : NO [(12, 3), (823, 0)] ms = true) (n6 : NO [(12, 5), (825, 0)] ms = true) (hw : R8 (aI (f1 (oR (f1 k) 2))) 0 = R8 (aI (f (oR (f k) 2))) 0) : TIE f1 x k := by
  obtain ⟨q0, q1, q2, q3⟩ := rk4 hTH rx
  have hR := re_fm g rx n1
  obtain ⟨h1, h2, h3, h4, h5⟩ := h
  obtain ⟨⟨e0, e1, e2, e3⟩, -⟩ := id hR
  refine ⟨nd_re hTH rx hR h1, ?_, ?_, ?_, ?_⟩
  · rw [e0, v8_fm hTH q0 g n2 hR, hw]; exact h2
  · rw [fm_I g rx (no_at n3 (by decide)), fm_I g rx (no_at n3 (by decide)), kept_fm hTH rk g n6]; exact h3
  · rw [fm_I g rx (no_at n3 (by decide)), e2, v8_fm hTH q2 g n2 hR, im_fm hTH rk g n5]; exact h4
  · rw [fm_I g rx (no_at n3 (by decide)), e3, v8_fm hTH q3 g n2 hR, im_fm hTH rk g n5]; exact h5
/-- the county's own change, on both sides -/
theorem tie_own (hTH : TH cI cJ cZ cD cR cT kp L f) (hTH1 : TH cI cJ cZ cD cR cT kp L f1) (h : TIE f x k) (g1 : FM kp L ms1 f f1) (g2 : FM kp L ms2 f1 f2) (w : WU kp L S f f1) (hS : ∀ q : Nat, q ∈ S → q ∈ T8 f (oR (f x) 0)) (rx : RK kp L x 11) (rk : RK kp L k 12) (n1 : NO KR ms1 = true) (n3 : NO KF ms1 = true) (n5 : NO [(12, 3), (823, 0)] ms1 = true) (n6 : NO [(12, 5), (825, 0)] ms1 = true) (o1 : NO KR ms2 = true) (o2 : NO UM ms2 = true) (o3 : NO KF ms2 = true) (o5 : NO [(12, 3), (823, 0)] ms2 = true) (o6 : NO [(12, 5), (825, 0)] ms2 = true) (hv : SA (V8 f1 (oR (f x) 0)) (R8 (aI (f2 (oR (f2 k) 2))) 0)) : TIE f2 x k := by
  obtain ⟨q0, q1, q2, q3⟩ := rk4 hTH rx
  have hR := re_fm g1 rx n1
  have hR2 := re_fm g2 rx o1
  obtain ⟨h1, h2, h3, h4, h5⟩ := h
  obtain ⟨a0, a1, a2⟩ := nd_ap h1
  obtain ⟨⟨e0, e1, e2, e3⟩, -⟩ := id hR
  obtain ⟨⟨d0, d1, d2, d3⟩, -⟩ := id hR2
  refine ⟨nd_re hTH1 rx hR2 (nd_re hTH rx hR h1), ?_, ?_, ?_, ?_⟩
  · rw [d0, e0, v8_fm hTH1 q0 g2 o2 hR2]; exact hv
  · rw [fm_I g2 rx (no_at o3 (by decide)), fm_I g2 rx (no_at o3 (by decide)), kept_fm hTH1 rk g2 o6, fm_I g1 rx (no_at n3 (by decide)), fm_I g1 rx (no_at n3 (by decide)), kept_fm hTH rk g1 n6]; exact h3
  · rw [fm_I g2 rx (no_at o3 (by decide)), fm_I g1 rx (no_at n3 (by decide)), d2, e2, v8_fm hTH1 q2 g2 o2 hR2, v8_wu hTH q2 w hR (fun q hq hn => (a0 q (hS q hn)).2.1 hq), im_fm hTH1 rk g2 o5, im_fm hTH rk g1 n5]; exact h4
  · rw [fm_I g2 rx (no_at o3 (by decide)), fm_I g1 rx (no_at n3 (by decide)), d3, e3, v8_fm hTH1 q3 g2 o2 hR2, v8_wu hTH q3 w hR (fun q hq hn => (a0 q (hS q hn)).2.2 hq), im_fm hTH1 rk g2 o5, im_fm hTH rk g1 n5]; exact h5
theorem r8_cp {g g1 : Nat → Int32} {a b : Int} {oa ob : Nat} (hc : CP g g1 a b 35942) (ea : a = (oa : Int)) (eb : b = (ob : Int)) : R8 g1 ob = R8 g oa := by
  have at_ : ∀ p : Nat, p < 35942 → g1 (ob + p) = g (oa + p) := fun p hp => by
    have z := hc (p : Int) (by omega) (by omega)
    have e1 : (b + (p : Int)).toNat = ob + p := by omega
    have e2 : (a + (p : Int)).toNat = oa + p := by omega
    rw [e1, e2] at z
    exact z
  unfold R8
  rw [rp_ext (o := oa) (o1 := ob) (g := g) (fun p hp => at_ p (by omega)), rl_ext (o := oa) (o1 := ob) (g := g) (fun p hp => at_ p (by omega))]
theorem r8_at {g g1 : Nat → Int32} {o : Nat} (h : ∀ p : Nat, p < 35942 → g1 (o + p) = g (o + p)) : R8 g1 o = R8 g o := by
  unfold R8
  rw [rp_ext (o := o) (o1 := o) (g := g) (fun p hp => h p (by omega)), rl_ext (o := o) (o1 := o) (g := g) (fun p hp => h p (by omega))]
theorem v8_eq (hR : RE kp L f f1 x) (hc : RK kp L c 0) (p : P8 f1 (oR (f c) 0) = P8 f (oR (f d) 0)) (q : L8 f1 (oR (f c) 5) = L8 f (oR (f d) 5)) : V8 f1 c = V8 f d := by
  obtain ⟨a, b⟩ := hR.2.1 c hc
  unfold V8
  rw [a, b, p, q]
theorem own_p (hR : RE kp L f f1 x) (hc : RK kp L c 0) (hTH : TH cI cJ cZ cD cR cT kp L f) (w : WU kp L S f f1) (hd : ∀ q : Nat, q ∈ [oR (f c) 5, oR (f (oR (f c) 5)) 4, oR (f (oR (f c) 5)) 5] → q ∉ S) : V8 f1 c = (P8 f1 (oR (f c) 0), L8 f (oR (f c) 5)) := by
  obtain ⟨rp, rl⟩ := rk2 hTH hc
  obtain ⟨a, b⟩ := hR.2.1 c hc
  obtain ⟨l4, l5⟩ := hR.2.2.2 _ rl
  unfold V8
  rw [a, b, l8_wu hTH rl w l4 l5 hd]
theorem own_l (hR : RE kp L f f1 x) (hc : RK kp L c 0) (hTH : TH cI cJ cZ cD cR cT kp L f) (w : WU kp L S f f1) (hd : ∀ q : Nat, q ∈ [oR (f c) 0, oR (f (oR (f c) 0)) 1, oR (f (oR (f c) 0)) 3, oR (f (oR (f c) 0)) 4, oR (f (oR (f c) 0)) 6] → q ∉ S) : V8 f1 c = (P8 f (oR (f c) 0), L8 f1 (oR (f c) 5)) := by
  obtain ⟨rp, rl⟩ := rk2 hTH hc
  obtain ⟨a, b⟩ := hR.2.1 c hc
  obtain ⟨p1, p3, p4, p6⟩ := hR.2.2.1 _ rp
  unfold V8
  rw [a, b, p8_wu hTH rp w p1 p3 p4 p6 hd]
theorem nd_pl (h : (T8 f c).Nodup) : (∀ q : Nat, q ∈ [oR (f c) 5, oR (f (oR (f c) 5)) 4, oR (f (oR (f c) 5)) 5] → q ∉ [oR (f c) 0, oR (f (oR (f c) 0)) 1, oR (f (oR (f c) 0)) 3, oR (f (oR (f c) 0)) 4, oR (f (oR (f c) 0)) 6]) ∧ (∀ q : Nat, q ∈ [oR (f c) 0, oR (f (oR (f c) 0)) 1, oR (f (oR (f c) 0)) 3, oR (f (oR (f c) 0)) 4, oR (f (oR (f c) 0)) 6] → q ∉ [oR (f c) 5, oR (f (oR (f c) 5)) 4, oR (f (oR (f c) 5)) 5]) := by
  have h2 : ([oR (f c) 0, oR (f (oR (f c) 0)) 1, oR (f (oR (f c) 0)) 3, oR (f (oR (f c) 0)) 4, oR (f (oR (f c) 0)) 6] ++ [oR (f c) 5, oR (f (oR (f c) 5)) 4, oR (f (oR (f c) 5)) 5]).Nodup := h
  exact ⟨fun q h3 h4 => nd_dis h2 h4 h3, fun q h3 h4 => nd_dis h2 h3 h4⟩
theorem nd_l : ∀ {l1 l2 : List Nat}, (l1 ++ l2).Nodup → l1.Nodup := by
  intro l1
  induction l1 with
  | nil => intro _ _; exact List.nodup_nil
  | cons a l ih =>
    intro l2 h
    rw [List.cons_append, List.nodup_cons] at h
    rw [List.nodup_cons]
    exact ⟨fun z => h.1 (List.mem_append_left _ z), ih h.2⟩
/-- image 0: the county is kept, on both sides -/
theorem tie_image0 (hTH : TH cI cJ cZ cD cR cT kp L f) (hTH1 : TH cI cJ cZ cD cR cT kp L f1) (h : TIE f x k) (g1 : FM kp L ms1 f f1) (w : WU kp L (T8 f (oR (f x) 2)) f f1) (fl : (oI (f1 x) 4).toInt = 1 ∧ (oI (f1 x) 5).toInt = (oI (f x) 5).toInt) (hv : V8 f1 (oR (f x) 2) = V8 f (oR (f x) 0)) (g2 : FM kp L ms2 f1 f2) (hu : u.toInt = 0) (hcp : CP (aI (f1 (oR (f1 k) 2))) (aI (f2 (oR (f1 k) 3))) 0 (35942 * u.toInt) 35942) (ho : ∀ j : Nat, ((j : Int) < 35942 * u.toInt ∨ 35942 * u.toInt + 35942 ≤ (j : Int)) → aI (f2 (oR (f1 k) 3)) j = aI (f1 (oR (f1 k) 3)) j) (hk : aI (f2 (oR (f1 k) 5)) = upd (aI (f1 (oR (f1 k) 5))) u.toNatClampNeg 1) (rx : RK kp L x 11) (rk : RK kp L k 12) (n1 : NO KR ms1 = true) (n4 : NO [(12, 2), (822, 0)] ms1 = true) (n5 : NO [(12, 3), (823, 0)] ms1 = true) (n6 : NO [(12, 5), (825, 0)] ms1 = true) (o1 : NO KR ms2 = true) (o2 : NO UM ms2 = true) (o3 : NO KF ms2 = true) (o4 : NO [(12, 2), (822, 0)] ms2 = true) (o5 : NO [(12, 3)] ms2 = true) (o6 : NO [(12, 5)] ms2 = true) : TIE f2 x k := by
  obtain ⟨q0, q1, q2, q3⟩ := rk4 hTH rx
  have hR := re_fm g1 rx n1
  have hR2 := re_fm g2 rx o1
  obtain ⟨h1, h2, h3, h4, h5⟩ := h
  obtain ⟨a0, a1, a2⟩ := nd_ap h1
  obtain ⟨⟨e0, e1, e2, e3⟩, -⟩ := id hR
  obtain ⟨⟨d0, d1, d2, d3⟩, -⟩ := id hR2
  have fF2 : oI (f2 x) 4 = oI (f1 x) 4 := fm_I g2 rx (no_at o3 (by decide))
  have fG2 : oI (f2 x) 5 = oI (f1 x) 5 := fm_I g2 rx (no_at o3 (by decide))
  have row1 := row_fm hTH rk g1 n4
  have row2 := row_fm hTH1 rk g2 o4
  have im1 := im_fm hTH rk g1 n5
  have k1 := kept_fm hTH rk g1 n6
  have eIm : aI (f2 (oR (f2 k) 3)) = aI (f2 (oR (f1 k) 3)) := by rw [fm_R g2 rk (no_at o5 (by decide))]
  have k2 : aI (f2 (oR (f2 k) 5)) = upd (aI (f1 (oR (f1 k) 5))) u.toNatClampNeg 1 := by rw [fm_R g2 rk (no_at o6 (by decide))]; exact hk
  have hu2 : u.toNatClampNeg = 0 := by have := tnc (i := u) (by omega); omega
  refine ⟨nd_re hTH1 rx hR2 (nd_re hTH rx hR h1), ?_, ⟨by rw [fF2, k2, k1, hu2, up_s]; exact fl.1, by rw [fG2, k2, k1, hu2, up_n (by decide : (1 : Nat) ≠ 0)]; rw [fl.2]; exact h3.2⟩, fun _ => by rw [d2, e2, v8_fm hTH1 q2 g2 o2 hR2, hv, eIm, r8_cp hcp (oa := 0) (ob := 0) rfl (by rw [hu]; decide), row1]; exact h2, fun hf => by rw [d3, e3, v8_fm hTH1 q3 g2 o2 hR2, v8_wu hTH q3 w hR (fun q hq hn => a2 q hn hq), eIm, r8_at (o := 35942) (g := aI (f1 (oR (f1 k) 3))) (fun p hp => ho (35942 + p) (by rw [hu]; omega)), im1]; exact h5 (by rw [← fl.2, ← fG2]; exact hf)⟩
  rw [d0, e0, v8_fm hTH1 q0 g2 o2 hR2, v8_wu hTH q0 w hR (fun q hq => (a0 q hq).2.1), row2, row1]
  exact h2
/-- image 1: the county is kept, on both sides -/
theorem tie_image1 (hTH : TH cI cJ cZ cD cR cT kp L f) (hTH1 : TH cI cJ cZ cD cR cT kp L f1) (h : TIE f x k) (g1 : FM kp L ms1 f f1) (w : WU kp L (T8 f (oR (f x) 3)) f f1) (fl : (oI (f1 x) 5).toInt = 1 ∧ (oI (f1 x) 4).toInt = (oI (f x) 4).toInt) (hv : V8 f1 (oR (f x) 3) = V8 f (oR (f x) 0)) (g2 : FM kp L ms2 f1 f2) (hu : u.toInt = 1) (hcp : CP (aI (f1 (oR (f1 k) 2))) (aI (f2 (oR (f1 k) 3))) 0 (35942 * u.toInt) 35942) (ho : ∀ j : Nat, ((j : Int) < 35942 * u.toInt ∨ 35942 * u.toInt + 35942 ≤ (j : Int)) → aI (f2 (oR (f1 k) 3)) j = aI (f1 (oR (f1 k) 3)) j) (hk : aI (f2 (oR (f1 k) 5)) = upd (aI (f1 (oR (f1 k) 5))) u.toNatClampNeg 1) (rx : RK kp L x 11) (rk : RK kp L k 12) (n1 : NO KR ms1 = true) (n4 : NO [(12, 2), (822, 0)] ms1 = true) (n5 : NO [(12, 3), (823, 0)] ms1 = true) (n6 : NO [(12, 5), (825, 0)] ms1 = true) (o1 : NO KR ms2 = true) (o2 : NO UM ms2 = true) (o3 : NO KF ms2 = true) (o4 : NO [(12, 2), (822, 0)] ms2 = true) (o5 : NO [(12, 3)] ms2 = true) (o6 : NO [(12, 5)] ms2 = true) : TIE f2 x k := by
  obtain ⟨q0, q1, q2, q3⟩ := rk4 hTH rx
  have hR := re_fm g1 rx n1
  have hR2 := re_fm g2 rx o1
  obtain ⟨h1, h2, h3, h4, h5⟩ := h
  obtain ⟨a0, a1, a2⟩ := nd_ap h1
  obtain ⟨⟨e0, e1, e2, e3⟩, -⟩ := id hR
  obtain ⟨⟨d0, d1, d2, d3⟩, -⟩ := id hR2
  have fF2 : oI (f2 x) 5 = oI (f1 x) 5 := fm_I g2 rx (no_at o3 (by decide))
  have fG2 : oI (f2 x) 4 = oI (f1 x) 4 := fm_I g2 rx (no_at o3 (by decide))
  have row1 := row_fm hTH rk g1 n4
  have row2 := row_fm hTH1 rk g2 o4
  have im1 := im_fm hTH rk g1 n5
  have k1 := kept_fm hTH rk g1 n6
  have eIm : aI (f2 (oR (f2 k) 3)) = aI (f2 (oR (f1 k) 3)) := by rw [fm_R g2 rk (no_at o5 (by decide))]
  have k2 : aI (f2 (oR (f2 k) 5)) = upd (aI (f1 (oR (f1 k) 5))) u.toNatClampNeg 1 := by rw [fm_R g2 rk (no_at o6 (by decide))]; exact hk
  have hu2 : u.toNatClampNeg = 1 := by have := tnc (i := u) (by omega); omega
  refine ⟨nd_re hTH1 rx hR2 (nd_re hTH rx hR h1), ?_, ⟨by rw [fG2, k2, k1, hu2, up_n (by decide : (0 : Nat) ≠ 1)]; rw [fl.2]; exact h3.1, by rw [fF2, k2, k1, hu2, up_s]; exact fl.1⟩, fun hf => by rw [d2, e2, v8_fm hTH1 q2 g2 o2 hR2, v8_wu hTH q2 w hR (fun q hq hn => a2 q hq hn), eIm, r8_at (o := 0) (g := aI (f1 (oR (f1 k) 3))) (fun p hp => ho (0 + p) (by rw [hu]; omega)), im1]; exact h4 (by rw [← fl.2, ← fG2]; exact hf), fun _ => by rw [d3, e3, v8_fm hTH1 q3 g2 o2 hR2, hv, eIm, r8_cp hcp (oa := 0) (ob := 35942) rfl (by rw [hu]; decide), row1]; exact h2⟩
  rw [d0, e0, v8_fm hTH1 q0 g2 o2 hR2, v8_wu hTH q0 w hR (fun q hq => (a0 q hq).2.2), row2, row1]
  exact h2
/-- back to image 0, on both sides, where it is kept -/
theorem tie_back0 (hTH : TH cI cJ cZ cD cR cT kp L f) (hTH1 : TH cI cJ cZ cD cR cT kp L f1) (h : TIE f x k) (g1 : FM kp L ms1 f f1) (w : WU kp L (T8 f (oR (f x) 0)) f f1) (hv : ((oI (f x) 4).toInt = 0 ∧ V8 f1 (oR (f x) 0) = V8 f (oR (f x) 0)) ∨ (¬ (oI (f x) 4).toInt = 0 ∧ V8 f1 (oR (f x) 0) = V8 f (oR (f x) 2))) (g2 : FM kp L ms2 f1 f2) (hu : u.toInt = 0) (hp : ((0 ≤ u.toInt ∧ u.toInt ≤ 1) ∧ ¬ (aI (f1 (oR (f1 k) 5)) u.toNatClampNeg).toInt = 0 ∧ CP (aI (f1 (oR (f1 k) 3))) (aI (f2 (oR (f1 k) 2))) (35942 * u.toInt) 0 35942) ∨ (¬ ((0 ≤ u.toInt ∧ u.toInt ≤ 1) ∧ ¬ (aI (f1 (oR (f1 k) 5)) u.toNatClampNeg).toInt = 0) ∧ aI (f2 (oR (f1 k) 2)) = aI (f1 (oR (f1 k) 2)))) (rx : RK kp L x 11) (rk : RK kp L k 12) (n1 : NO KR ms1 = true) (n3 : NO KF ms1 = true) (n4 : NO [(12, 2), (822, 0)] ms1 = true) (n5 : NO [(12, 3), (823, 0)] ms1 = true) (n6 : NO [(12, 5), (825, 0)] ms1 = true) (o1 : NO KR ms2 = true) (o2 : NO UM ms2 = true) (o3 : NO KF ms2 = true) (o4 : NO [(12, 2)] ms2 = true) (o5 : NO [(12, 3), (823, 0)] ms2 = true) (o6 : NO [(12, 5), (825, 0)] ms2 = true) : TIE f2 x k := by
  obtain ⟨q0, q1, q2, q3⟩ := rk4 hTH rx
  have hR := re_fm g1 rx n1
  have hR2 := re_fm g2 rx o1
  obtain ⟨h1, h2, h3, h4, h5⟩ := h
  obtain ⟨a0, a1, a2⟩ := nd_ap h1
  obtain ⟨⟨e0, e1, e2, e3⟩, -⟩ := id hR
  obtain ⟨⟨d0, d1, d2, d3⟩, -⟩ := id hR2
  have row1 := row_fm hTH rk g1 n4
  have im1 := im_fm hTH rk g1 n5
  have im2 := im_fm hTH1 rk g2 o5
  have k1 := kept_fm hTH rk g1 n6
  have k2 := kept_fm hTH1 rk g2 o6
  have eRow : aI (f2 (oR (f2 k) 2)) = aI (f2 (oR (f1 k) 2)) := by rw [fm_R g2 rk (no_at o4 (by decide))]
  have hu2 : u.toNatClampNeg = 0 := by have := tnc (i := u) (by omega); omega
  have f4 : oI (f2 x) 4 = oI (f x) 4 := (fm_I g2 rx (no_at o3 (by decide))).trans (fm_I g1 rx (no_at n3 (by decide)))
  have f5 : oI (f2 x) 5 = oI (f x) 5 := (fm_I g2 rx (no_at o3 (by decide))).trans (fm_I g1 rx (no_at n3 (by decide)))
  refine ⟨nd_re hTH1 rx hR2 (nd_re hTH rx hR h1), ?_, by rw [f4, f5, k2, k1]; exact h3, ?_, ?_⟩
  · rw [d0, e0, v8_fm hTH1 q0 g2 o2 hR2, eRow]
    rw [hu2, k1] at hp
    rcases hv with ⟨z, hv⟩ | ⟨z, hv⟩
    · rcases hp with ⟨-, hz, -⟩ | ⟨-, hp⟩
      · exact absurd z (by omega)
      · rw [hv, hp, row1]; exact h2
    · rcases hp with ⟨-, -, hp⟩ | ⟨hz, -⟩
      · rw [hv, r8_cp hp (oa := 0) (ob := 0) (by rw [hu]; decide) rfl, im1]; exact h4 z
      · exact absurd ⟨by omega, by omega⟩ hz
  · intro hf
    rw [d2, e2, v8_fm hTH1 q2 g2 o2 hR2, v8_wu hTH q2 w hR (fun q hq hn => (a0 q hn).2.1 hq), im2, im1]
    exact h4 (by rw [← f4]; exact hf)
  · intro hf
    rw [d3, e3, v8_fm hTH1 q3 g2 o2 hR2, v8_wu hTH q3 w hR (fun q hq hn => (a0 q hn).2.2 hq), im2, im1]
    exact h5 (by rw [← f5]; exact hf)
/-- back to image 1, on both sides, where it is kept -/
theorem tie_back1 (hTH : TH cI cJ cZ cD cR cT kp L f) (hTH1 : TH cI cJ cZ cD cR cT kp L f1) (h : TIE f x k) (g1 : FM kp L ms1 f f1) (w : WU kp L (T8 f (oR (f x) 0)) f f1) (hv : ((oI (f x) 5).toInt = 0 ∧ V8 f1 (oR (f x) 0) = V8 f (oR (f x) 0)) ∨ (¬ (oI (f x) 5).toInt = 0 ∧ V8 f1 (oR (f x) 0) = V8 f (oR (f x) 3))) (g2 : FM kp L ms2 f1 f2) (hu : u.toInt = 1) (hp : ((0 ≤ u.toInt ∧ u.toInt ≤ 1) ∧ ¬ (aI (f1 (oR (f1 k) 5)) u.toNatClampNeg).toInt = 0 ∧ CP (aI (f1 (oR (f1 k) 3))) (aI (f2 (oR (f1 k) 2))) (35942 * u.toInt) 0 35942) ∨ (¬ ((0 ≤ u.toInt ∧ u.toInt ≤ 1) ∧ ¬ (aI (f1 (oR (f1 k) 5)) u.toNatClampNeg).toInt = 0) ∧ aI (f2 (oR (f1 k) 2)) = aI (f1 (oR (f1 k) 2)))) (rx : RK kp L x 11) (rk : RK kp L k 12) (n1 : NO KR ms1 = true) (n3 : NO KF ms1 = true) (n4 : NO [(12, 2), (822, 0)] ms1 = true) (n5 : NO [(12, 3), (823, 0)] ms1 = true) (n6 : NO [(12, 5), (825, 0)] ms1 = true) (o1 : NO KR ms2 = true) (o2 : NO UM ms2 = true) (o3 : NO KF ms2 = true) (o4 : NO [(12, 2)] ms2 = true) (o5 : NO [(12, 3), (823, 0)] ms2 = true) (o6 : NO [(12, 5), (825, 0)] ms2 = true) : TIE f2 x k := by
  obtain ⟨q0, q1, q2, q3⟩ := rk4 hTH rx
  have hR := re_fm g1 rx n1
  have hR2 := re_fm g2 rx o1
  obtain ⟨h1, h2, h3, h4, h5⟩ := h
  obtain ⟨a0, a1, a2⟩ := nd_ap h1
  obtain ⟨⟨e0, e1, e2, e3⟩, -⟩ := id hR
  obtain ⟨⟨d0, d1, d2, d3⟩, -⟩ := id hR2
  have row1 := row_fm hTH rk g1 n4
  have im1 := im_fm hTH rk g1 n5
  have im2 := im_fm hTH1 rk g2 o5
  have k1 := kept_fm hTH rk g1 n6
  have k2 := kept_fm hTH1 rk g2 o6
  have eRow : aI (f2 (oR (f2 k) 2)) = aI (f2 (oR (f1 k) 2)) := by rw [fm_R g2 rk (no_at o4 (by decide))]
  have hu2 : u.toNatClampNeg = 1 := by have := tnc (i := u) (by omega); omega
  have f4 : oI (f2 x) 4 = oI (f x) 4 := (fm_I g2 rx (no_at o3 (by decide))).trans (fm_I g1 rx (no_at n3 (by decide)))
  have f5 : oI (f2 x) 5 = oI (f x) 5 := (fm_I g2 rx (no_at o3 (by decide))).trans (fm_I g1 rx (no_at n3 (by decide)))
  refine ⟨nd_re hTH1 rx hR2 (nd_re hTH rx hR h1), ?_, by rw [f4, f5, k2, k1]; exact h3, ?_, ?_⟩
  · rw [d0, e0, v8_fm hTH1 q0 g2 o2 hR2, eRow]
    rw [hu2, k1] at hp
    rcases hv with ⟨z, hv⟩ | ⟨z, hv⟩
    · rcases hp with ⟨-, hz, -⟩ | ⟨-, hp⟩
      · exact absurd z (by omega)
      · rw [hv, hp, row1]; exact h2
    · rcases hp with ⟨-, -, hp⟩ | ⟨hz, -⟩
      · rw [hv, r8_cp hp (oa := 35942) (ob := 0) (by rw [hu]; decide) rfl, im1]; exact h5 z
      · exact absurd ⟨by omega, by omega⟩ hz
  · intro hf
    rw [d2, e2, v8_fm hTH1 q2 g2 o2 hR2, v8_wu hTH q2 w hR (fun q hq hn => (a0 q hn).2.1 hq), im2, im1]
    exact h4 (by rw [← f4]; exact hf)
  · intro hf
    rw [d3, e3, v8_fm hTH1 q3 g2 o2 hR2, v8_wu hTH q3 w hR (fun q hq hn => (a0 q hn).2.2 hq), im2, im1]
    exact h5 (by rw [← f5]; exact hf)
/-- the tie's parts -/
theorem tie_pe (h : TIE f x k) : P8 f (oR (f (oR (f x) 0)) 0) = RP (aI (f (oR (f k) 2))) 0 ∧ HC (RP (aI (f (oR (f k) 2))) 0) := ⟨congrArg Prod.fst h.2.1.1, h.2.1.2⟩
theorem tie_le (h : TIE f x k) : L8 f (oR (f (oR (f x) 0)) 5) = RG (aI (f (oR (f k) 2))) 0 := congrArg Prod.snd h.2.1.1
end TIE8
theorem nd_idx {A : Nat → Prop} {ws : va_W} (hD : va_D A ws) : ∀ (is as : List Nat), is.Nodup → is.map (fun i => (ws[i]?).map (·.1)) = as.map some → as.Nodup := by
  intro is
  induction is with
  | nil =>
    intro as _ h
    cases as with
    | nil => exact List.nodup_nil
    | cons a as => simp at h
  | cons i is ih =>
    intro as hn h
    cases as with
    | nil => exact List.nodup_nil
    | cons a as =>
      rw [List.map_cons, List.map_cons, List.cons.injEq] at h
      rw [List.nodup_cons] at hn ⊢
      refine ⟨fun ha => ?_, ih as hn.2 h.2⟩
      have hm : some a ∈ as.map some := List.mem_map.mpr ⟨a, ha, rfl⟩
      rw [← h.2] at hm
      obtain ⟨j, hj, e⟩ := List.mem_map.mp hm
      have key : ∀ t : Nat, (ws[t]?).map (·.1) = some a → ∃ x, ws[t]? = some (a, x) := fun t ht => by
        cases q : ws[t]? with
        | none => rw [q] at ht; cases ht
        | some y =>
          rw [q] at ht
          obtain ⟨y1, y2⟩ := y
          cases ht
          exact ⟨y2, rfl⟩
      obtain ⟨x1, q1⟩ := key i h.1
      obtain ⟨x2, q2⟩ := key j e
      have := hD.1 i j _ _ q1 q2 rfl
      subst this
      exact hn.1 hj
/-- the row at the start -/
theorem rp_m : RP mrow 0 = (0, rs 40 1 (fun _ => 0) 0, rs 40 1 (fun _ => 0) 0, rs 40 1 (fun _ => 0) 0, ds 1 (fun _ => 0) 0) := by
  unfold RP mrow
  rw [up_n (by decide : (0 : Nat) ≠ 10), rs_out (n := 40) (b := 0 + 20) (fun j hj => by omega), rs_out (n := 40) (b := 0 + 22) (fun j hj => by omega), rs_out (n := 40) (b := 0 + 23) (fun j hj => by omega), ds_out (b := 0 + 25) (fun j hj => by omega)]
  rfl
theorem rg_m : RG mrow 0 = (0, 50, rs 9 1 (fun _ => 0) 0, rs 9 1 (fun _ => 0) 0) := by
  unfold RG mrow
  rw [up_n (by decide : (0 + 6 : Nat) ≠ 10), show upd (fun _ => 0) 10 50 (0 + 10) = 50 from up_s, rs_out (n := 9) (b := 0 + 1164) (fun j hj => by omega), rs_out (n := 9) (b := 0 + 1165) (fun j hj => by omega)]
  rfl
/-- at the head of the loop -/
def LWS (G : va_G) (cI cJ cZ cD cR cT : ClassId) (A : Nat → Prop) (kp : Nat → Nat) (L : List Nat) (f : Nat → va_E) (x k : Nat) (s S : State) (H : Heap) (locs : List Loc) : Prop :=
  DR s S ∧ WS G cI cJ cZ cD cR cT A kp L f S H locs ∧ RK kp L x 11 ∧ RK kp L k 12 ∧ TXI f k ∧ TIE f x k
section LAWB
variable {p : Program} {l : Launch} {e : Env} {R : Room} {s S : State} {m : MethodId} {args : Array Value} {below : List Frame} {meth : Method} {c : Code} {H : Heap} {locs : List Loc} {cells slots : Nat} {Q : State → Prop}
variable {cc : ByteArray} {pc : Nat} {ls : Array Slot} {rest : List Value} {G : va_G} {A : Nat → Prop} {cI cJ cZ cD cR cT : ClassId} {ret : Option FieldType} {nL : Nat} {own : String} {σ : SE} {b Ls m1 m2 : Nat} {xs : Nat → Int32} {i : Int32}
theorem ev_S (E : EV G cI cJ cZ cD cR cT A cc ret nL own p s m args meth c) (h : DR s S) : EV G cI cJ cZ cD cR cT A cc ret nL own p S m args meth c := by
  obtain ⟨d, hd, rfl⟩ := h
  exact ev_d E
theorem sx_S (h : DR s S) (hSX : SX σ A s s.heap) : SX σ A S S.heap := by
  obtain ⟨d, hd, rfl⟩ := h
  exact ⟨SV.moved (u := s) (U := s.setDrawn d) (Vm.Alike.refl _) hSX.1, vk_R.same (u := s) rfl hSX.2⟩
theorem ca_S (h : DR s S) (hCA : CA s) : CA S := by
  obtain ⟨d, hd, rfl⟩ := h
  exact CA.moved (u := s) (U := s.setDrawn d) (Vm.Alike.refl _) hCA
theorem xx_S (h : DR s S) (hX : va_X b Ls xs s s.heap) : va_X b Ls xs S S.heap := by
  obtain ⟨d, hd, rfl⟩ := h
  exact va_X.moved (u := s) (U := s.setDrawn d) (Vm.Alike.refl _) hX
theorem hs_S (h : DR s S) : S.heap = s.heap := by
  obtain ⟨d, hd, rfl⟩ := h
  rfl
/-- the k-th number of a call -/
def ag (xs : Nat → Int32) (i : Int32) (k : Nat) : Int32 := xs (i.toInt.toNat + k)
theorem law_arg {k : Nat} {kz : Int} (hx : p.tables.exec = Jvm.exec) (hb : c.code = cc) {lv : List (Nat × Value)} (hl : lv_has ls 4 ((3, .int i) :: (2, .ref m2) :: (1, .ref m1) :: (0, .ref b) :: lv)) (hX : va_X b Ls xs S S.heap) (hbl : b < S.heap.size) (hbA : ¬ A b) (hS : va_S A S.heap H locs) (hi : 0 ≤ i.toInt ∧ i.toInt + 6 ≤ (Ls : Int) ∧ Ls ≤ 3072) (hkz : kz = (k : Int)) (hk : k ≤ 5)
    (d0 : decode cc pc = .ok (.aload_n 0, 1)) (d1 : decode cc (pc + 1) = .ok (.iload_n 3, 1)) (d2 : decode cc (pc + 2) = .ok (.iconst kz, 1)) (d3 : decode cc (pc + 3) = .ok (.iadd, 1)) (d4 : decode cc (pc + 4) = .ok (.iaload, 1))
    (kk : W p l e R S m args below meth c H locs cells slots Q (F0 m (pc + 5) ls (.int (ag xs i k) :: rest))) : W p l e R S m args below meth c H locs cells slots Q (F0 m pc ls rest) := by
  have hkz2 : (Int32.ofInt kz).toInt = kz := by
    rw [Int32.toInt_ofInt]
    exact bmod32 (by omega) (by omega)
  refine lv_aload_n hx hb d0 rfl (lv_at hl 3 rfl) ?_
  refine lv_iload_n hx hb d1 rfl (lv_at hl 0 rfl) ?_
  refine lv_iconst (v := Int32.ofInt kz) hx hb d2 rfl ?_
  refine q_iadd hx hb d3 rfl hkz2 (by omega) (fun z hz => ?_)
  refine va_sld hx hb hX hbl hbA hS (vin ⟨by omega, by omega⟩) d4 ?_
  have e : z.toNatClampNeg = i.toInt.toNat + k := by
    have := tnc (i := z) (by omega)
    omega
  rw [e]
  exact kk
end LAWB
