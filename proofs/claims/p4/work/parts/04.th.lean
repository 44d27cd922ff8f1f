/-! typed heaps: every address of L has a kind (kp), and holds what is of that kind -/
theorem bmod32 {z : Int} (h1 : -2147483648 ≤ z) (h2 : z < 2147483648) : z.bmod (2 ^ 32) = z := by
  rw [Int.bmod_def]
  have e : ((2 ^ 32 : Nat) : Int) = 4294967296 := by decide
  rw [e]
  split <;> omega
theorem bmod64 {z : Int} (h1 : -9223372036854775808 ≤ z) (h2 : z < 9223372036854775808) : z.bmod (2 ^ 64) = z := by
  rw [Int.bmod_def]
  have e : ((2 ^ 64 : Nat) : Int) = 18446744073709551616 := by decide
  rw [e]
  split <;> omega
def AB (f : Nat → Int32) (lo hi : Int) : Prop := ∀ j : Nat, lo ≤ (f j).toInt ∧ (f j).toInt ≤ hi
theorem AB_upd {f : Nat → Int32} {lo hi : Int} {k : Nat} {x : Int32} (h : AB f lo hi) (h1 : lo ≤ x.toInt ∧ x.toInt ≤ hi) : AB (upd f k x) lo hi := by
  intro j
  by_cases hj : j = k
  · simp only [upd, hj, if_true]; exact h1
  · simp only [upd, hj, if_false]; exact h j
/-- what every content of the reference's row that can come keeps, place by place -/
def rbI (i v : Int) : Prop := (i = 0 → 0 ≤ v ∧ v ≤ 40) ∧ (i = 1 → 0 ≤ v ∧ v ≤ 8) ∧ (i = 2 → 0 ≤ v ∧ v ≤ 40) ∧ (i = 3 → 0 ≤ v ∧ v ≤ 20) ∧ (i = 4 → 0 ≤ v ∧ v ≤ 60) ∧ (i = 6 → 0 ≤ v ∧ v ≤ 9) ∧ (i = 7 → 0 ≤ v ∧ v ≤ 40) ∧ (i = 8 → 0 ≤ v ∧ v ≤ 399) ∧ (20 ≤ i → i ≤ 339 → (i - 20) % 8 = 3 → (-1 : Int) ≤ v ∧ v ≤ 39) ∧ (364 ≤ i → i ≤ 683 → (i - 364) % 8 = 0 → (0 : Int) ≤ v ∧ v ≤ 7) ∧ (364 ≤ i → i ≤ 683 → (i - 364) % 8 = 3 → (-1 : Int) ≤ v ∧ v ≤ 39) ∧ (684 ≤ i → i ≤ 1043 → (i - 684) % 6 = 0 → (0 : Int) ≤ v ∧ v ≤ 39)
/-- the texts that the row holds -/
def TxtI (f : Nat → Int32) (b : Nat) : Prop := True
def RowInv (f : Nat → Int32) : Prop := (∀ j : Nat, rbI j (f j).toInt) ∧ TxtI f 0
def ImgInv (f : Nat → Int32) : Prop := RowInv f ∧ RowInv (fun j => f (35942 + j))
abbrev tFT : Type := Nat × Nat × Int × Int
def fTab : Nat → Nat → tFT
  | 0, 0 => (2, 4, 0, 0)
  | 0, 1 => (2, 1, 0, 0)
  | 0, 2 => (2, 10, 0, 0)
  | 0, 3 => (2, 7, 0, 0)
  | 0, 4 => (2, 2, 0, 0)
  | 0, 5 => (2, 3, 0, 0)
  | 0, 6 => (0, 0, 0, 399)
  | 0, 7 => (0, 0, 0, 1)
  | 0, 8 => (2, 108, 0, 0)
  | 0, 9 => (0, 0, 0, 1)
  | 0, 10 => (0, 0, -2147483648, 2147483647)
  | 0, 11 => (0, 0, -2147483648, 2147483647)
  | 0, 12 => (0, 0, -2147483648, 2147483647)
  | 0, 13 => (1, 0, 0, 0)
  | 0, 14 => (0, 0, -2147483648, 2147483647)
  | 0, 15 => (2, 115, 0, 0)
  | 0, 16 => (2, 116, 0, 0)
  | 1, 0 => (0, 0, 0, 40)
  | 1, 1 => (2, 161, 0, 0)
  | 1, 2 => (2, 162, 0, 0)
  | 1, 3 => (2, 163, 0, 0)
  | 1, 4 => (2, 164, 0, 0)
  | 1, 5 => (2, 165, 0, 0)
  | 1, 6 => (2, 166, 0, 0)
  | 1, 7 => (2, 167, 0, 0)
  | 1, 8 => (0, 0, 0, 8)
  | 1, 9 => (2, 169, 0, 0)
  | 1, 10 => (2, 170, 0, 0)
  | 1, 11 => (2, 171, 0, 0)
  | 1, 12 => (0, 0, -2147483648, 2147483647)
  | 1, 13 => (1, 0, 0, 0)
  | 1, 14 => (1, 0, 0, 0)
  | 2, 0 => (0, 0, 0, 20)
  | 2, 1 => (2, 221, 0, 0)
  | 2, 2 => (2, 222, 0, 0)
  | 2, 3 => (2, 223, 0, 0)
  | 3, 0 => (0, 0, -2147483648, 2147483647)
  | 3, 1 => (0, 0, -2147483648, 2147483647)
  | 3, 2 => (0, 0, -2147483648, 2147483647)
  | 3, 3 => (0, 0, 0, 9)
  | 3, 4 => (2, 284, 0, 0)
  | 3, 5 => (2, 285, 0, 0)
  | 4, 0 => (0, 0, 0, 40)
  | 4, 1 => (2, 341, 0, 0)
  | 4, 2 => (2, 342, 0, 0)
  | 4, 3 => (2, 343, 0, 0)
  | 4, 4 => (2, 344, 0, 0)
  | 4, 5 => (2, 345, 0, 0)
  | 4, 6 => (2, 346, 0, 0)
  | 4, 7 => (2, 347, 0, 0)
  | 4, 8 => (2, 348, 0, 0)
  | 4, 9 => (2, 349, 0, 0)
  | 5, 0 => (0, 0, -2147483648, 2147483647)
  | 5, 1 => (0, 0, 0, 12)
  | 5, 2 => (0, 0, 0, 1)
  | 5, 3 => (2, 403, 0, 0)
  | 5, 4 => (2, 404, 0, 0)
  | 5, 5 => (2, 405, 0, 0)
  | 5, 6 => (2, 406, 0, 0)
  | 5, 7 => (2, 407, 0, 0)
  | 5, 8 => (0, 0, 0, 400)
  | 5, 9 => (2, 409, 0, 0)
  | 5, 10 => (2, 410, 0, 0)
  | 5, 11 => (0, 0, 0, 400)
  | 5, 12 => (2, 412, 0, 0)
  | 5, 13 => (2, 413, 0, 0)
  | 5, 14 => (2, 414, 0, 0)
  | 5, 15 => (0, 0, 0, 400)
  | 5, 16 => (0, 0, -2147483648, 2147483647)
  | 6, 0 => (0, 0, 0, 39)
  | 6, 1 => (2, 461, 0, 0)
  | 7, 0 => (2, 520, 0, 0)
  | 7, 1 => (2, 521, 0, 0)
  | 8, 0 => (0, 0, 0, 400)
  | 8, 1 => (2, 581, 0, 0)
  | 8, 2 => (2, 582, 0, 0)
  | 8, 3 => (0, 0, 0, 40)
  | 9, 0 => (0, 0, -2147483648, 2147483647)
  | 9, 1 => (0, 0, 0, 12)
  | 9, 2 => (0, 0, 0, 1)
  | 9, 3 => (2, 643, 0, 0)
  | 9, 4 => (2, 644, 0, 0)
  | 9, 5 => (2, 645, 0, 0)
  | 9, 6 => (2, 646, 0, 0)
  | 9, 7 => (2, 647, 0, 0)
  | 9, 8 => (2, 648, 0, 0)
  | 9, 9 => (2, 649, 0, 0)
  | 10, 0 => (0, 0, 0, 60)
  | 10, 1 => (2, 701, 0, 0)
  | 10, 2 => (2, 702, 0, 0)
  | 10, 3 => (2, 703, 0, 0)
  | 10, 4 => (2, 704, 0, 0)
  | 10, 5 => (2, 705, 0, 0)
  | 10, 6 => (2, 706, 0, 0)
  | 10, 7 => (0, 0, 0, 40)
  | 10, 8 => (2, 708, 0, 0)
  | 10, 9 => (2, 709, 0, 0)
  | 10, 10 => (2, 710, 0, 0)
  | 11, 0 => (2, 0, 0, 0)
  | 11, 1 => (2, 0, 0, 0)
  | 11, 2 => (2, 0, 0, 0)
  | 11, 3 => (2, 0, 0, 0)
  | 11, 4 => (0, 0, 0, 1)
  | 11, 5 => (0, 0, 0, 1)
  | 11, 6 => (2, 8, 0, 0)
  | 11, 7 => (2, 5, 0, 0)
  | 11, 8 => (2, 768, 0, 0)
  | 11, 9 => (0, 0, 0, 6)
  | 11, 10 => (2, 770, 0, 0)
  | 11, 11 => (2, 771, 0, 0)
  | 11, 12 => (0, 0, 0, 3)
  | 11, 13 => (2, 773, 0, 0)
  | 11, 14 => (0, 0, 0, 6)
  | 11, 15 => (0, 0, -2147483648, 2147483647)
  | 12, 0 => (0, 0, -2147483648, 2147483647)
  | 12, 1 => (0, 0, -2147483648, 2147483647)
  | 12, 2 => (2, 822, 0, 0)
  | 12, 3 => (2, 823, 0, 0)
  | 12, 4 => (2, 824, 0, 0)
  | 12, 5 => (2, 825, 0, 0)
  | 12, 6 => (0, 0, 0, 1)
  | 12, 7 => (0, 0, -2147483648, 2147483647)
  | 12, 8 => (0, 0, -2147483648, 2147483647)
  | 12, 9 => (2, 829, 0, 0)
  | 12, 10 => (2, 830, 0, 0)
  | 12, 11 => (2, 831, 0, 0)
  | 12, 12 => (0, 0, 0, 400)
  | 12, 13 => (0, 0, 0, 400)
  | 12, 14 => (0, 0, 0, 400)
  | 12, 15 => (0, 0, 0, 3)
  | 12, 16 => (1, 0, 0, 0)
  | 12, 17 => (0, 0, -2147483648, 2147483647)
  | 12, 18 => (0, 0, 0, 1)
  | 12, 19 => (0, 0, 0, 12)
  | 12, 20 => (2, 840, 0, 0)
  | 12, 21 => (0, 0, 0, 400)
  | 12, 22 => (2, 842, 0, 0)
  | 12, 23 => (2, 843, 0, 0)
  | 12, 24 => (0, 0, 0, 50)
  | 12, 25 => (2, 845, 0, 0)
  | 12, 26 => (2, 846, 0, 0)
  | 12, 27 => (0, 0, 0, 400)
  | 12, 28 => (0, 0, -2147483648, 2147483647)
  | 12, 29 => (2, 849, 0, 0)
  | 12, 30 => (2, 850, 0, 0)
  | 12, 31 => (2, 851, 0, 0)
  | 12, 32 => (2, 852, 0, 0)
  | 12, 33 => (0, 0, 0, 1)
  | 12, 34 => (1, 0, 0, 0)
  | 12, 35 => (1, 0, 0, 0)
  | 12, 36 => (1, 0, 0, 0)
  | 12, 37 => (1, 0, 0, 0)
  | 12, 38 => (0, 0, -2147483648, 2147483647)
  | 12, 39 => (2, 859, 0, 0)
  | 12, 40 => (2, 860, 0, 0)
  | 12, 41 => (0, 0, 0, 6)
  | 12, 42 => (2, 862, 0, 0)
  | 12, 43 => (0, 0, 0, 3)
  | 12, 44 => (2, 864, 0, 0)
  | 12, 45 => (2, 865, 0, 0)
  | 12, 46 => (0, 0, -2147483648, 2147483647)
  | 12, 47 => (0, 0, 0, 1)
  | 12, 48 => (0, 0, -2147483648, 2147483647)
  | 12, 49 => (0, 0, -2147483648, 2147483647)
  | 12, 50 => (0, 0, -2147483648, 2147483647)
  | 12, 51 => (0, 0, -2147483648, 2147483647)
  | _, _ => (3, 0, 0, 0)
def nF : Nat → Nat
  | 0 => 17
  | 1 => 15
  | 2 => 4
  | 3 => 6
  | 4 => 10
  | 5 => 17
  | 6 => 2
  | 7 => 2
  | 8 => 4
  | 9 => 10
  | 10 => 11
  | 11 => 16
  | 12 => 52
  | _ => 0
def aTag : Nat → Nat
  | 115 => 2
  | 221 => 5
  | 521 => 4
  | 582 => 3
  | 825 => 1
  | 829 => 3
  | 830 => 1
  | 849 => 1
  | 850 => 1
  | 851 => 2
  | 852 => 2
  | 859 => 1
  | _ => 0
def aLen : Nat → Nat
  | 108 => 40
  | 115 => 64
  | 116 => 40
  | 161 => 40
  | 162 => 40
  | 163 => 40
  | 164 => 40
  | 165 => 40
  | 166 => 40
  | 167 => 40
  | 169 => 8
  | 170 => 8
  | 171 => 8
  | 221 => 20
  | 222 => 20
  | 223 => 20
  | 284 => 9
  | 285 => 9
  | 341 => 40
  | 342 => 40
  | 343 => 40
  | 344 => 40
  | 345 => 40
  | 346 => 40
  | 347 => 40
  | 348 => 40
  | 349 => 40
  | 403 => 12
  | 404 => 12
  | 405 => 12
  | 406 => 12
  | 407 => 12
  | 409 => 400
  | 410 => 400
  | 412 => 401
  | 413 => 401
  | 414 => 401
  | 461 => 0
  | 520 => 400
  | 521 => 400
  | 581 => 400
  | 582 => 40
  | 643 => 12
  | 644 => 12
  | 645 => 12
  | 646 => 12
  | 647 => 12
  | 648 => 0
  | 649 => 0
  | 701 => 60
  | 702 => 60
  | 703 => 60
  | 704 => 60
  | 705 => 60
  | 706 => 60
  | 708 => 40
  | 709 => 40
  | 710 => 40
  | 768 => 6
  | 770 => 3
  | 771 => 3
  | 773 => 6
  | 822 => 35942
  | 823 => 71884
  | 824 => 35942
  | 825 => 2
  | 829 => 100
  | 830 => 100
  | 831 => 400
  | 840 => 96
  | 842 => 400
  | 843 => 400
  | 845 => 400
  | 846 => 400
  | 849 => 20
  | 850 => 240
  | 851 => 16
  | 852 => 400
  | 859 => 40
  | 860 => 40
  | 862 => 6
  | 864 => 3
  | 865 => 3
  | _ => 0
def aCP : Nat → (Nat → Int32) → Prop
  | 161 => fun g => AB g (0) (7)
  | 164 => fun g => AB g (-1) (39)
  | 344 => fun g => AB g (-1) (39)
  | 404 => fun g => AB g (0) (19)
  | 413 => fun g => AB g (0) (400)
  | 644 => fun g => AB g (0) (19)
  | 701 => fun g => AB g (0) (39)
  | 702 => fun g => AB g (0) (39)
  | 768 => fun g => AB g (0) (39)
  | 822 => RowInv
  | 823 => ImgInv
  | 824 => RowInv
  | 825 => fun g => AB g (0) (1)
  | 830 => fun g => AB g (0) (1)
  | 846 => fun g => AB g (0) (399)
  | 849 => fun g => AB g (0) (1)
  | 850 => fun g => AB g (0) (1)
  | 859 => fun g => AB g (0) (1)
  | 862 => fun g => AB g (0) (39)
  | _ => fun _ => True
def oVal (x : va_E) (k : Nat) : Value := match x with
  | .inr o => o.2.getD k .null
  | .inl _ => .null
def oI (x : va_E) (k : Nat) : Int32 := match oVal x k with
  | .int v => v
  | _ => 0
def oJ (x : va_E) (k : Nat) : Int64 := match oVal x k with
  | .long v => v
  | _ => 0
def oR (x : va_E) (k : Nat) : Nat := match oVal x k with
  | .ref v => v
  | _ => 0
def aPay (x : va_E) : vp_A := match x with
  | .inl o => o.2
  | .inr _ => (0, .inl (fun _ => 0))
def aN (x : va_E) : Nat := (aPay x).1
def aI (x : va_E) : Nat → Int32 := match (aPay x).2 with
  | .inl g => g
  | _ => fun _ => 0
def aJ (x : va_E) : Nat → Int64 := match (aPay x).2 with
  | .inr (.inl g) => g
  | _ => fun _ => 0
def aD (x : va_E) : Nat → UInt64 := match (aPay x).2 with
  | .inr (.inr (.inr (.inl g))) => g
  | _ => fun _ => 0
def aQ (x : va_E) : Nat → Option Nat := match (aPay x).2 with
  | .inr (.inr (.inr (.inr g))) => g
  | _ => fun _ => none
/-- a typed address -/
def RK (kp : Nat → Nat) (L : List Nat) (a K : Nat) : Prop := a ∈ L ∧ kp a = K
def okV (kp : Nat → Nat) (L : List Nat) (t : tFT) (v : Value) : Prop := match t.1 with
  | 0 => ∃ x : Int32, v = .int x ∧ t.2.2.1 ≤ x.toInt ∧ x.toInt ≤ t.2.2.2
  | 1 => ∃ x : Int64, v = .long x
  | 2 => ∃ a : Nat, v = .ref a ∧ RK kp L a t.2.1
  | _ => True
def okO (kp : Nat → Nat) (L : List Nat) (ci : Nat) (x : va_E) : Prop := ∃ fs : List Value, x = .inr (ci, fs) ∧ fs.length = nF ci ∧ ∀ k : Nat, k < nF ci → okV kp L (fTab ci k) (fs.getD k .null)
def lenOk (K n : Nat) : Prop := (aLen K = 0 → n ≤ 400) ∧ (aLen K ≠ 0 → n = aLen K)
section TH
variable (cI cJ cZ cD cR cT : ClassId)
def okA (kp : Nat → Nat) (L : List Nat) (K : Nat) (x : va_E) : Prop := match aTag K with
  | 0 => ∃ (n : Nat) (g : Nat → Int32), x = .inl (cI, n, .inl g) ∧ lenOk K n ∧ aCP K g
  | 1 => ∃ (n : Nat) (g : Nat → Int32), x = .inl (cZ, n, .inl g) ∧ lenOk K n ∧ aCP K g
  | 2 => ∃ (n : Nat) (g : Nat → Int64), x = .inl (cJ, n, .inr (.inl g)) ∧ lenOk K n
  | 3 => ∃ (n : Nat) (g : Nat → UInt64), x = .inl (cD, n, .inr (.inr (.inr (.inl g)))) ∧ lenOk K n
  | 4 => ∃ (n : Nat) (g : Nat → Option Nat), x = .inl (cR, n, .inr (.inr (.inr (.inr g)))) ∧ lenOk K n ∧ ∀ i a : Nat, g i = some a → RK kp L a 6
  | _ => ∃ (n : Nat) (g : Nat → Option Nat), x = .inl (cT, n, .inr (.inr (.inr (.inr g)))) ∧ lenOk K n ∧ ∀ i a : Nat, g i = some a → RK kp L a 9
def okK (kp : Nat → Nat) (L : List Nat) (K : Nat) (x : va_E) : Prop := (K < 100 → okO kp L K x) ∧ (100 ≤ K → okA cI cJ cZ cD cR cT kp L K x)
/-- the clauses of a text lie within its instructions -/
def SI (kp : Nat → Nat) (L : List Nat) (f : Nat → va_E) : Prop := ∀ a : Nat, RK kp L a 9 → aN (f (oR (f a) 8)) = aN (f (oR (f a) 9)) ∧ ∀ i : Nat, (i : Int) < (oI (f a) 1).toInt → 0 ≤ (aI (f (oR (f a) 6)) i).toInt ∧ (aI (f (oR (f a) 7)) i).toInt ≤ ((aN (f (oR (f a) 8)) : Nat) : Int)
def TH (kp : Nat → Nat) (L : List Nat) (f : Nat → va_E) : Prop := (∀ a : Nat, a ∈ L → okK cI cJ cZ cD cR cT kp L (kp a) (f a)) ∧ SI kp L f
end TH
/-- which kinds the clause about texts speaks of -/
def sKind (K : Nat) : Bool := K == 9 || (646 ≤ K && K ≤ 649)
/-- since f0 only what ms names has changed: fields of kinds of objects, arrays by their kinds (place 0) -/
def FM (kp : Nat → Nat) (L : List Nat) (ms : List (Nat × Nat)) (f0 f : Nat → va_E) : Prop := ∀ a : Nat, a ∈ L → (∀ k : Nat, (kp a, k) ∉ ms → oVal (f a) k = oVal (f0 a) k) ∧ (100 ≤ kp a → (kp a, 0) ∉ ms → f a = f0 a)
theorem FM.rf {kp : Nat → Nat} {L : List Nat} {ms : List (Nat × Nat)} {f : Nat → va_E} : FM kp L ms f f := fun _ _ => ⟨fun _ _ => rfl, fun _ _ => rfl⟩
theorem FM.tr {kp : Nat → Nat} {L : List Nat} {ms m1 : List (Nat × Nat)} {f f1 f2 : Nat → va_E} (h : FM kp L ms f f1) (h1 : FM kp L m1 f1 f2) (hs : m1.all (fun q => ms.contains q) = true) : FM kp L ms f f2 := by
  have hsub : ∀ q ∈ m1, q ∈ ms := fun q hq => by
    have h2 := List.all_eq_true.mp hs q hq
    exact List.contains_iff_mem.mp h2
  intro a ha
  obtain ⟨p1, p2⟩ := h a ha
  obtain ⟨q1, q2⟩ := h1 a ha
  exact ⟨fun k hk => (q1 k (fun z => hk (hsub _ z))).trans (p1 k hk), fun h100 hk => (q2 h100 (fun z => hk (hsub _ z))).trans (p2 h100 hk)⟩
theorem fm_I {kp : Nat → Nat} {L : List Nat} {ms : List (Nat × Nat)} {f f1 : Nat → va_E} {a K : Nat} (h : FM kp L ms f f1) (hr : RK kp L a K) {k : Nat} (hk : ms.contains (K, k) = false) : oI (f1 a) k = oI (f a) k := by
  have h2 := (h a hr.1).1 k (by rw [hr.2]; intro z; rw [List.contains_iff_mem.mpr z] at hk; cases hk)
  unfold oI
  rw [h2]
theorem fm_R {kp : Nat → Nat} {L : List Nat} {ms : List (Nat × Nat)} {f f1 : Nat → va_E} {a K : Nat} (h : FM kp L ms f f1) (hr : RK kp L a K) {k : Nat} (hk : ms.contains (K, k) = false) : oR (f1 a) k = oR (f a) k := by
  have h2 := (h a hr.1).1 k (by rw [hr.2]; intro z; rw [List.contains_iff_mem.mpr z] at hk; cases hk)
  unfold oR
  rw [h2]
theorem fm_A {kp : Nat → Nat} {L : List Nat} {ms : List (Nat × Nat)} {f f1 : Nat → va_E} {a K : Nat} (h : FM kp L ms f f1) (hr : RK kp L a K) (h100 : 100 ≤ K) (hk : ms.contains (K, 0) = false) : f1 a = f a := (h a hr.1).2 (by rw [hr.2]; exact h100) (by rw [hr.2]; intro z; rw [List.contains_iff_mem.mpr z] at hk; cases hk)
