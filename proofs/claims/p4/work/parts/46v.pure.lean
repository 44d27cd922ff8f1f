/-! who KEEPS THE BAN: the row of those that are heeded -/
def kbF (fe he : Nat → Int) (n br : Int) : Nat → Int → Int
  | 0, _ => 0
  | k + 1, p => if 0 ≤ p ∧ p < n then (if br ≤ fe p.toNat then 1 else kbF fe he n br k (he p.toNat)) else 0
def fBan (v : VP) (n br a b : Int) : Int := if v.2.1 a.toNat = v.2.1 b.toNat then 0 else kbF v.2.2.1 v.2.2.2.1 n br 41 a
def fKeeps (v : VP) (n br a b : Int) : Int := if ((0 ≤ a ∧ a < v.1) ∧ 0 ≤ b ∧ b < v.1) ∧ ¬ a = b then fBan v n br a b else -1
def HC (v : VP) : Prop := ∀ i : Nat, (i : Int) < v.1 → v.2.2.2.1 i = -1 ∨ (0 ≤ v.2.2.2.1 i ∧ v.2.2.2.1 i < v.1)
section KB
variable {fe he fe2 he2 : Nat → Int} {n br K i i2 p y a b N : Int} {v : VP} {f0 : Nat → va_E} {g : Nat → Int32} {q a1 a3 a4 : Nat} {c j w : Int32}
theorem kb_end (h : kbF fe he n br (41 - i).toNat p = K) (hi : 41 ≤ i) : K = 0 := by
  rw [← h, show (41 - i).toNat = 0 by omega]
  rfl
theorem kb_un (hi : 0 ≤ i ∧ i ≤ 40) : kbF fe he n br (41 - i).toNat p = if 0 ≤ p ∧ p < n then (if br ≤ fe p.toNat then 1 else kbF fe he n br (40 - i).toNat (he p.toNat)) else 0 := by
  rw [show (41 - i).toNat = (40 - i).toNat + 1 by omega]
  rfl
theorem kb_no (h : kbF fe he n br (41 - i).toNat p = K) (hi : 0 ≤ i ∧ i ≤ 40) (hp : ¬ (0 ≤ p ∧ p < n)) : K = 0 := by
  rw [← h, kb_un hi, if_neg hp]
theorem kb_yes (h : kbF fe he n br (41 - i).toNat p = K) (hi : 0 ≤ i ∧ i ≤ 40) (hp : 0 ≤ p ∧ p < n) (hf : fe p.toNat = y) (hy : br ≤ y) : K = 1 := by
  rw [← h, kb_un hi, if_pos hp, if_pos (by rw [hf]; exact hy)]
theorem kb_go (h : kbF fe he n br (41 - i).toNat p = K) (hi : 0 ≤ i ∧ i ≤ 40) (hp : 0 ≤ p ∧ p < n) (hf : fe p.toNat = y) (hy : ¬ br ≤ y) (hh : he p.toNat = b) (hi2 : i2 = i + 1) : kbF fe he n br (41 - i2).toNat b = K := by
  rw [← h, kb_un hi, if_pos hp, if_neg (by rw [hf]; exact hy), hh, hi2, show (41 - (i + 1)).toNat = (40 - i).toNat by omega]
theorem fBan_0 (h : v.2.1 a.toNat = v.2.1 b.toNat) : fBan v n br a b = 0 := by unfold fBan; rw [if_pos h]
theorem fBan_1 (h : ¬ v.2.1 a.toNat = v.2.1 b.toNat) (hk : kbF v.2.2.1 v.2.2.2.1 n br 41 a = K) : fBan v n br a b = K := by unfold fBan; rw [if_neg h, hk]
theorem fKeeps_0 (e : v.1 = N) (h : ¬ (((0 ≤ a ∧ a < N) ∧ 0 ≤ b ∧ b < N) ∧ ¬ a = b)) : fKeeps v n br a b = -1 := by unfold fKeeps; rw [e, if_neg h]
theorem fKeeps_1 (e : v.1 = N) (h : ((0 ≤ a ∧ a < N) ∧ 0 ≤ b ∧ b < N) ∧ ¬ a = b) : fKeeps v n br a b = fBan v n br a b := by unfold fKeeps; rw [e, if_pos h]
theorem rs_get {m s k b : Nat} (hk : k < m) (hg : g (b + s * k) = c) : rs m s g b k = c.toInt := by
  show (if k < m then (g (b + s * k)).toInt else 0) = c.toInt
  rw [if_pos hk, hg]
theorem tn_1 (h : 0 ≤ j.toInt) : 0 + 1 * j.toInt.toNat = j.toNatClampNeg := by
  show 0 + 1 * j.toInt.toNat = j.toInt.toNat
  omega
theorem p8_house (d : oR (f0 q) 1 = a1) (hj : 0 ≤ j.toInt ∧ j.toInt < 40) (hy : aI (f0 a1) j.toNatClampNeg = c) : (P8 f0 q).2.1 j.toInt.toNat = c.toInt :=
  rs_get (by omega) (by rw [d, tn_1 hj.1]; exact hy)
theorem p8_fear (d : oR (f0 q) 3 = a3) (hj : 0 ≤ j.toInt ∧ j.toInt < 40) (hy : aI (f0 a3) j.toNatClampNeg = c) : (P8 f0 q).2.2.1 j.toInt.toNat = c.toInt :=
  rs_get (by omega) (by rw [d, tn_1 hj.1]; exact hy)
theorem p8_hd (d : oR (f0 q) 4 = a4) (hj : 0 ≤ j.toInt ∧ j.toInt < 40) (hy : aI (f0 a4) j.toNatClampNeg = c) : (P8 f0 q).2.2.2.1 j.toInt.toNat = c.toInt :=
  rs_get (by omega) (by rw [d, tn_1 hj.1]; exact hy)
theorem rp_house (hj : 0 ≤ j.toInt ∧ j.toInt < 40) (hw : w.toInt = 20 + 8 * j.toInt) (hy : g w.toNatClampNeg = c) : (RP g 0).2.1 j.toInt.toNat = c.toInt :=
  rs_get (by omega) (by rw [show 0 + 20 + 8 * j.toInt.toNat = w.toNatClampNeg by have := tnc (i := w) (by omega); omega]; exact hy)
theorem rp_fear (hj : 0 ≤ j.toInt ∧ j.toInt < 40) (hw : w.toInt = 22 + 8 * j.toInt) (hy : g w.toNatClampNeg = c) : (RP g 0).2.2.1 j.toInt.toNat = c.toInt :=
  rs_get (by omega) (by rw [show 0 + 22 + 8 * j.toInt.toNat = w.toNatClampNeg by have := tnc (i := w) (by omega); omega]; exact hy)
theorem rp_hd (hj : 0 ≤ j.toInt ∧ j.toInt < 40) (hw : w.toInt = 23 + 8 * j.toInt) (hy : g w.toNatClampNeg = c) : (RP g 0).2.2.2.1 j.toInt.toNat = c.toInt :=
  rs_get (by omega) (by rw [show 0 + 23 + 8 * j.toInt.toNat = w.toNatClampNeg by have := tnc (i := w) (by omega); omega]; exact hy)
/-- who heeds heeds a PERSON or nobody: the two ways to go on agree -/
theorem kb_eq (hc : ∀ i : Nat, (i : Int) < n → he i = -1 ∨ (0 ≤ he i ∧ he i < n)) (hn : n ≤ 40) : ∀ (k : Nat) (p : Int), p = -1 ∨ (0 ≤ p ∧ p < n) → kbF fe he n br k p = kbF fe he 40 br k p := by
  intro k
  induction k with
  | zero => intro p _; rfl
  | succ k ih =>
    intro p hp
    show (if 0 ≤ p ∧ p < n then (if br ≤ fe p.toNat then 1 else kbF fe he n br k (he p.toNat)) else 0) = (if 0 ≤ p ∧ p < 40 then (if br ≤ fe p.toNat then 1 else kbF fe he 40 br k (he p.toNat)) else 0)
    rcases hp with hp | hp
    · rw [if_neg (show ¬ (0 ≤ p ∧ p < n) by omega), if_neg (show ¬ (0 ≤ p ∧ p < 40) by omega)]
    · rw [if_pos hp, if_pos (show 0 ≤ p ∧ p < 40 by omega), ih _ (hc p.toNat (by omega))]
theorem keeps_eq (hc : HC v) (hn : v.1 ≤ 40) : fKeeps v v.1 br a b = fKeeps v 40 br a b := by
  by_cases h : ((0 ≤ a ∧ a < v.1) ∧ 0 ≤ b ∧ b < v.1) ∧ ¬ a = b
  · rw [fKeeps_1 rfl h, fKeeps_1 rfl h]
    unfold fBan
    rw [kb_eq hc hn 41 a (Or.inr h.1.1)]
  · rw [fKeeps_0 rfl h, fKeeps_0 rfl h]
theorem hc_add {x z : Int} (h : HC v) (h0 : 0 ≤ v.1) : HC (addP v x z) := by
  intro i hi
  have hi2 : (i : Int) < v.1 + 1 := hi
  show pt v.2.2.2.1 v.1 (-1) i = -1 ∨ (0 ≤ pt v.2.2.2.1 v.1 (-1) i ∧ pt v.2.2.2.1 v.1 (-1) i < v.1 + 1)
  by_cases e : (i : Int) = v.1
  · left
    show (if (i : Int) = v.1 then (-1 : Int) else v.2.2.2.1 i) = -1
    rw [if_pos e]
  · have z : pt v.2.2.2.1 v.1 (-1) i = v.2.2.2.1 i := by
      show (if (i : Int) = v.1 then (-1 : Int) else v.2.2.2.1 i) = v.2.2.2.1 i
      rw [if_neg e]
    rw [z]
    rcases h i (by omega) with q | q
    · exact Or.inl q
    · exact Or.inr ⟨q.1, by omega⟩
theorem hc_heed {x z : Int} (h : HC v) (hz : z = -1 ∨ (0 ≤ z ∧ z < v.1)) : HC (heedP v x z) := by
  intro i hi
  have hi2 : (i : Int) < v.1 := hi
  show pt v.2.2.2.1 x z i = -1 ∨ (0 ≤ pt v.2.2.2.1 x z i ∧ pt v.2.2.2.1 x z i < v.1)
  by_cases e : (i : Int) = x
  · have q : pt v.2.2.2.1 x z i = z := by
      show (if (i : Int) = x then z else v.2.2.2.1 i) = z
      rw [if_pos e]
    rw [q]; exact hz
  · have q : pt v.2.2.2.1 x z i = v.2.2.2.1 i := by
      show (if (i : Int) = x then z else v.2.2.2.1 i) = v.2.2.2.1 i
      rw [if_neg e]
    rw [q]; exact h i hi2
theorem hc_sPerson {x z t : Int} (h : HC v) (h0 : 0 ≤ v.1) : HC (sPerson v x z t).2 := by
  unfold sPerson
  by_cases h1 : (0 ≤ x ∧ x ≤ 19) ∧ (0 ≤ z ∧ z ≤ 1000000) ∧ 0 ≤ t ∧ t ≤ 100
  · rw [if_pos h1]
    by_cases h2 : v.1 < 40
    · rw [if_pos h2]; exact hc_add h h0
    · rw [if_neg h2]; exact h
  · rw [if_neg h1]; exact h
theorem hc_sHeed {x z : Int} (h : HC v) : HC (sHeed v x z).2 := by
  unfold sHeed
  by_cases h1 : (0 ≤ x ∧ x < v.1) ∧ (z = -1 ∨ (0 ≤ z ∧ z < v.1))
  · rw [if_pos h1]
    by_cases h2 : x = z
    · rw [if_pos h2]; exact h
    · rw [if_neg h2]; exact hc_heed h h1.2
  · rw [if_neg h1]; exact h
theorem hc_sGoes {x z : Int} (h : HC v) : HC (sGoes v x z).2 := by
  unfold sGoes
  by_cases h1 : 0 ≤ z ∧ z ≤ 4
  · rw [if_pos h1]
    by_cases h2 : 0 ≤ x ∧ x < v.1
    · rw [if_pos h2]
      by_cases h3 : v.2.2.2.2 x.toNat = true
      · rw [if_pos h3]; exact h
      · rw [if_neg h3]; exact h
    · rw [if_neg h2]; exact h
  · rw [if_neg h1]; exact h
end KB
/-! what both sides can agree on: sums over sets, the best set -/
def bi (s : Int32) (k : Nat) : Bool := decide (s.toInt.toNat / 2 ^ k % 2 = 1)
def sm (g : Nat → Int32) (s : Int32) : Nat → Int32
  | 0 => 0
  | k + 1 => sm g s k + (if bi s k = true then g k else 0)
def pcI (s : Int32) : Nat → Int32
  | 0 => 0
  | k + 1 => pcI s k + (if bi s k = true then 1 else 0)
def bstep (gl go : Nat → Int32) (n : Nat) (lo oo : Int) (s : Int32) (p : Int32 × Int32) : Int32 × Int32 := if (sm gl s n).toInt < lo ∨ (sm go s n).toInt < oo then p else (if p.1.toInt < 0 ∨ (pcI s 9).toInt < (pcI p.1 9).toInt ∨ ((pcI s 9).toInt = (pcI p.1 9).toInt ∧ p.2.toInt < (sm gl s n + sm go s n).toInt) then (s, sm gl s n + sm go s n) else p)
def bst (gl go : Nat → Int32) (n : Nat) (lo oo : Int) : Nat → Int32 × Int32
  | 0 => (-1, 0)
  | k + 1 => bstep gl go n lo oo (Int32.ofNat k) (bst gl go n lo oo k)
def fAgree (gl go : Nat → Int32) (n : Int32) (lo oo : Int) : Int32 := (bst gl go n.toNatClampNeg lo oo (2 ^ n.toInt.toNat)).1
def gAgree (gl go : Nat → Int32) (n : Int32) (lo oo : Int) : Int32 := if (-10000 ≤ lo ∧ lo ≤ 10000) ∧ -10000 ≤ oo ∧ oo ≤ 10000 then fAgree gl go n lo oo else -1
theorem bit_all : ∀ s : Nat, s < 512 → ∀ i : Nat, i < 9 → (Int32.ofNat s >>> (Int32.ofNat i &&& 31)) &&& 1 = (if bi (Int32.ofNat s) i = true then 1 else 0) := by decide +kernel
theorem shl_all : ∀ i : Nat, i < 10 → ((1 : Int32) <<< (Int32.ofNat i &&& 31)).toInt = ((2 ^ i : Nat) : Int) := by decide +kernel
def bcnt (x0 : Int32) : Int32 :=
  let x1 := x0 - ((x0.toUInt32 >>> ((1 : Int32).toUInt32 &&& Int32.toUInt32 31)).toInt32 &&& 1431655765)
  let x2 := (x1 &&& 858993459) + ((x1.toUInt32 >>> ((2 : Int32).toUInt32 &&& Int32.toUInt32 31)).toInt32 &&& 858993459)
  let x3 := (x2 + (x2.toUInt32 >>> ((4 : Int32).toUInt32 &&& Int32.toUInt32 31)).toInt32) &&& 252645135
  let x4 := x3 + (x3.toUInt32 >>> ((8 : Int32).toUInt32 &&& Int32.toUInt32 31)).toInt32
  let x5 := x4 + (x4.toUInt32 >>> ((16 : Int32).toUInt32 &&& Int32.toUInt32 31)).toInt32
  x5 &&& 63
theorem cnt_all : ∀ s : Nat, s < 512 → bcnt (Int32.ofNat s) = pcI (Int32.ofNat s) 9 ∧ 0 ≤ (pcI (Int32.ofNat s) 9).toInt ∧ (pcI (Int32.ofNat s) 9).toInt ≤ 9 := by decide +kernel
theorem cnt_n : ∀ n : Nat, n < 10 → ∀ s : Nat, s < 2 ^ n → pcI (Int32.ofNat s) n = pcI (Int32.ofNat s) 9 := by decide +kernel
theorem pow_all : ∀ i : Nat, i < 10 → 1 ≤ 2 ^ i ∧ 2 ^ i ≤ 512 := by decide +kernel
section AG
variable {gl go gl2 go2 : Nat → Int32} {s i i2 k k2 z z1 z2 y b q b2 q2 a c t n n2 m m2 w : Int32} {lo oo pw : Int} {N : Nat} {g : Nat → Int32}
theorem of_tn (h : 0 ≤ s.toInt) : Int32.ofNat s.toNatClampNeg = s := by
  refine Int32.toInt_inj.mp ?_
  have h1 := tnc h
  have h2 := i32_b s
  have h3 : (nI s.toNatClampNeg).toInt = ((s.toNatClampNeg : Nat) : Int) := nI_toInt (by omega)
  exact h3.trans h1
theorem bit_1 (hs : 0 ≤ s.toInt ∧ s.toInt < 512) (hi : 0 ≤ i.toInt ∧ i.toInt < 9) (e1 : z1 = s >>> (i &&& 31)) (e2 : z2 = z1 &&& 1) : z2 = (if bi s i.toNatClampNeg = true then 1 else 0) := by
  have h1 := tnc hs.1
  have h2 := tnc hi.1
  have h3 := bit_all s.toNatClampNeg (by omega) i.toNatClampNeg (by omega)
  rw [of_tn hs.1, of_tn hi.1] at h3
  rw [e2, e1]; exact h3
theorem bit_01 (h : z2 = (if bi s N = true then 1 else 0)) : 0 ≤ z2.toInt ∧ z2.toInt ≤ 1 := by
  rw [h]
  by_cases e : bi s N = true
  · rw [if_pos e]; decide
  · rw [if_neg e]; decide
theorem bit_t (h : z2 = (if bi s N = true then 1 else 0)) (h1 : z2.toInt = 1) : bi s N = true := by
  by_cases e : bi s N = true
  · exact e
  · rw [if_neg e] at h; subst h; exact absurd h1 (by decide)
theorem bit_f (h : z2 = (if bi s N = true then 1 else 0)) (h1 : ¬ z2.toInt = 1) : ¬ bi s N = true := by
  intro e
  rw [if_pos e] at h; subst h; exact h1 (by decide)
theorem tn_s (h0 : 0 ≤ i.toInt) (h : i2.toInt = i.toInt + 1) : i2.toNatClampNeg = i.toNatClampNeg + 1 := by
  have := tnc (i := i) h0
  have := tnc (i := i2) (by omega)
  omega
theorem sm_t (h : a = sm gl s i.toNatClampNeg) (hb : z2 = (if bi s i.toNatClampNeg = true then 1 else 0)) (h1 : z2.toInt = 1) (hy : gl i.toNatClampNeg = y) (e : z = a + y) (h0 : 0 ≤ i.toInt) (hi : i2.toInt = i.toInt + 1) : z = sm gl s i2.toNatClampNeg := by
  rw [tn_s h0 hi, e, h]
  show _ = sm gl s i.toNatClampNeg + (if bi s i.toNatClampNeg = true then gl i.toNatClampNeg else 0)
  rw [if_pos (bit_t hb h1), hy]
theorem sm_f (h : a = sm gl s i.toNatClampNeg) (hb : z2 = (if bi s i.toNatClampNeg = true then 1 else 0)) (h1 : ¬ z2.toInt = 1) (e : z = a + 0) (h0 : 0 ≤ i.toInt) (hi : i2.toInt = i.toInt + 1) : z = sm gl s i2.toNatClampNeg := by
  rw [tn_s h0 hi, e, h]
  show _ = sm gl s i.toNatClampNeg + (if bi s i.toNatClampNeg = true then gl i.toNatClampNeg else 0)
  rw [if_neg (bit_f hb h1)]
theorem sm_m (h : a = sm gl s i.toNatClampNeg) (hb : z2 = (if bi s i.toNatClampNeg = true then 1 else 0)) (hy : gl i.toNatClampNeg = y) (e1 : w = z2 * y) (e : z = a + w) (h0 : 0 ≤ i.toInt) (hi : i2.toInt = i.toInt + 1) : z = sm gl s i2.toNatClampNeg := by
  rw [tn_s h0 hi, e, e1, h, hb]
  show _ = sm gl s i.toNatClampNeg + (if bi s i.toNatClampNeg = true then gl i.toNatClampNeg else 0)
  by_cases hq : bi s i.toNatClampNeg = true
  · rw [if_pos hq, if_pos hq, hy, Int32.one_mul]
  · rw [if_neg hq, if_neg hq, Int32.zero_mul]
theorem pc_m (h : a = pcI s i.toNatClampNeg) (hb : z2 = (if bi s i.toNatClampNeg = true then 1 else 0)) (e : z = a + z2) (h0 : 0 ≤ i.toInt) (hi : i2.toInt = i.toInt + 1) : z = pcI s i2.toNatClampNeg := by
  rw [tn_s h0 hi, e, h, hb]
  rfl
theorem sm_end (h : a = sm gl s i.toNatClampNeg) (hi : i.toInt = n.toInt) : a = sm gl s n.toNatClampNeg := by
  rw [h, Int32.toInt_inj.mp hi]
theorem pc_end (h : a = pcI s i.toNatClampNeg) (hi : i.toInt = n.toInt) (hn : 0 ≤ n.toInt ∧ n.toInt ≤ 9) (hp : ((2 ^ n.toInt.toNat : Nat) : Int) = pw) (hs : 0 ≤ s.toInt ∧ s.toInt < pw) : a.toInt = (pcI s 9).toInt := by
  have h1 := tnc (i := n) hn.1
  have h2 := tnc hs.1
  have e : n.toInt.toNat = n.toNatClampNeg := rfl
  rw [e] at hp
  have h3 := cnt_n n.toNatClampNeg (by omega) s.toNatClampNeg (by omega)
  rw [of_tn hs.1] at h3
  rw [h, Int32.toInt_inj.mp hi, h3]
theorem shl_1 (hn : 0 ≤ n.toInt ∧ n.toInt ≤ 9) (hp : ((2 ^ n.toInt.toNat : Nat) : Int) = pw) (e : z = 1 <<< (n &&& 31)) : z.toInt = pw := by
  have h1 := tnc hn.1
  have h3 := shl_all n.toNatClampNeg (by omega)
  rw [of_tn hn.1] at h3
  rw [e, h3]
  exact hp
theorem pw_b (hn : 0 ≤ n.toInt ∧ n.toInt ≤ 9) (hp : ((2 ^ n.toInt.toNat : Nat) : Int) = pw) : 1 ≤ pw ∧ pw ≤ 512 := by
  have h1 := pow_all n.toInt.toNat (by omega)
  rw [← hp]
  omega
theorem cnt_1 (hs : 0 ≤ s.toInt ∧ s.toInt < 512) (e : z = bcnt s) : z.toInt = (pcI s 9).toInt ∧ 0 ≤ z.toInt ∧ z.toInt ≤ 9 := by
  have h1 := tnc hs.1
  have h3 := cnt_all s.toNatClampNeg (by omega)
  rw [of_tn hs.1] at h3
  rw [e, h3.1]
  exact ⟨rfl, h3.2⟩
/-- one set more -/
theorem bs_next (h : (b, q) = bst gl go N lo oo k.toNatClampNeg) (h0 : 0 ≤ k.toInt) (hk : k2.toInt = k.toInt + 1) (ha : a = sm gl k N) (hc : c = sm go k N) (ht : t = a + c) (e : (b2, q2) = if a.toInt < lo ∨ c.toInt < oo then (b, q) else (if b.toInt < 0 ∨ (pcI k 9).toInt < (pcI b 9).toInt ∨ ((pcI k 9).toInt = (pcI b 9).toInt ∧ q.toInt < t.toInt) then (k, t) else (b, q))) : (b2, q2) = bst gl go N lo oo k2.toNatClampNeg := by
  rw [tn_s h0 hk, e]
  show _ = bstep gl go N lo oo (Int32.ofNat k.toNatClampNeg) (bst gl go N lo oo k.toNatClampNeg)
  rw [of_tn h0, ← h, ht, ha, hc]
  rfl
theorem fAgree_end (h : (b, q) = bst gl go n.toNatClampNeg lo oo k.toNatClampNeg) (hp : ((2 ^ n.toInt.toNat : Nat) : Int) = pw) (hk : k.toInt = pw) (h0 : 0 ≤ k.toInt) : b = fAgree gl go n lo oo := by
  have h1 := tnc h0
  have e : 2 ^ n.toInt.toNat = k.toNatClampNeg := by omega
  unfold fAgree
  rw [e, ← h]
theorem gAgree_1 (h : (-10000 ≤ lo ∧ lo ≤ 10000) ∧ -10000 ≤ oo ∧ oo ≤ 10000) (e : b = fAgree gl go n lo oo) : b = gAgree gl go n lo oo := by unfold gAgree; rw [if_pos h]; exact e
theorem gAgree_0 (h : ¬ ((-10000 ≤ lo ∧ lo ≤ 10000) ∧ -10000 ≤ oo ∧ oo ≤ 10000)) : (-1 : Int32) = gAgree gl go n lo oo := by unfold gAgree; rw [if_neg h]
/-- the same offers, the same best set -/
theorem sm_ext (h : ∀ j : Nat, j < 9 → gl j = gl2 j) : ∀ m : Nat, m ≤ 9 → sm gl s m = sm gl2 s m := by
  intro m
  induction m with
  | zero => intro _; rfl
  | succ m ih =>
    intro hm
    show sm gl s m + (if bi s m = true then gl m else 0) = sm gl2 s m + (if bi s m = true then gl2 m else 0)
    rw [ih (by omega), h m (by omega)]
theorem bst_ext (h4 : ∀ j : Nat, j < 9 → gl j = gl2 j) (h5 : ∀ j : Nat, j < 9 → go j = go2 j) (hN : N ≤ 9) : ∀ m : Nat, bst gl go N lo oo m = bst gl2 go2 N lo oo m := by
  intro m
  induction m with
  | zero => rfl
  | succ m ih =>
    show bstep gl go N lo oo (Int32.ofNat m) (bst gl go N lo oo m) = bstep gl2 go2 N lo oo (Int32.ofNat m) (bst gl2 go2 N lo oo m)
    unfold bstep
    rw [ih, sm_ext h4 N hN, sm_ext h5 N hN]
theorem rs_at (o s2 : Nat) {b b2 : Nat} (h : rs 9 o gl b = rs 9 s2 g b2) {j : Nat} (hj : j < 9) : gl (b + o * j) = g (b2 + s2 * j) := by
  have z := congrFun h j
  have z2 : (if j < 9 then (gl (b + o * j)).toInt else 0) = (if j < 9 then (g (b2 + s2 * j)).toInt else 0) := z
  rw [if_pos hj, if_pos hj] at z2
  exact Int32.toInt_inj.mp z2
theorem agree_eq (hn : n.toInt = n2.toInt) (h0 : 0 ≤ n.toInt ∧ n.toInt ≤ 9) (h4 : rs 9 1 gl 0 = rs 9 2 g (0 + 1164)) (h5 : rs 9 1 go 0 = rs 9 2 g (0 + 1165)) : gAgree gl go n lo oo = gAgree (fun j => g (1164 + 2 * j)) (fun j => g (1165 + 2 * j)) n2 lo oo := by
  have e : n = n2 := Int32.toInt_inj.mp hn
  subst e
  have h1 := tnc h0.1
  unfold gAgree fAgree
  rw [bst_ext (gl2 := fun j => g (1164 + 2 * j)) (go2 := fun j => g (1165 + 2 * j)) (fun j hj => by have z := rs_at 1 2 h4 hj; rw [show 0 + 1 * j = j by omega, show 0 + 1164 + 2 * j = 1164 + 2 * j by omega] at z; exact z) (fun j hj => by have z := rs_at 1 2 h5 hj; rw [show 0 + 1 * j = j by omega, show 0 + 1165 + 2 * j = 1165 + 2 * j by omega] at z; exact z) (by omega)]
end AG
theorem g1_at {g : Nat → Int32} {w i y : Int32} (h : g w.toNatClampNeg = y) (h0 : 0 ≤ i.toInt) (hw : w.toInt = 1164 + 2 * i.toInt) : (fun j : Nat => g (1164 + 2 * j)) i.toNatClampNeg = y := by
  have := tnc (i := i) h0
  have := tnc (i := w) (by omega)
  show g (1164 + 2 * i.toNatClampNeg) = y
  rw [show 1164 + 2 * i.toNatClampNeg = w.toNatClampNeg by omega]; exact h
theorem g2_at {g : Nat → Int32} {w i y : Int32} (h : g w.toNatClampNeg = y) (h0 : 0 ≤ i.toInt) (hw : w.toInt = 1165 + 2 * i.toInt) : (fun j : Nat => g (1165 + 2 * j)) i.toNatClampNeg = y := by
  have := tnc (i := i) h0
  have := tnc (i := w) (by omega)
  show g (1165 + 2 * i.toNatClampNeg) = y
  rw [show 1165 + 2 * i.toNatClampNeg = w.toNatClampNeg by omega]; exact h
