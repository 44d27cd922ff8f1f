/-! What a fresh object answers to one call, by its arguments alone; and what its rows hold -/
def fillU (f : Nat → Int32) (v : Int32) (n : Nat) : Nat → Int32 := fun j => if j < n then v else f j
theorem fillU_0 (f : Nat → Int32) (v : Int32) : fillU f v 0 = f := by funext j; simp [fillU]
theorem fillU_s (f : Nat → Int32) (v : Int32) (n : Nat) : upd (fillU f v n) n v = fillU f v (n + 1) := by
  funext j
  simp only [upd, fillU]
  by_cases h1 : j = n
  · subst h1; simp
  · by_cases h2 : j < n
    · simp [h1, h2, Nat.lt_succ_of_lt h2]
    · have h3 : ¬ j < n + 1 := by omega
      simp [h1, h2, h3]
def mrow : Nat → Int32 := upd (fun _ => 0) 10 50
theorem lcmp_cases (x y : Int64) : (lg_cmp x y = 1 ∧ y.toInt < x.toInt) ∨ (lg_cmp x y = 0 ∧ x.toInt = y.toInt) ∨ (lg_cmp x y = -1 ∧ x.toInt < y.toInt) := by
  by_cases h1 : y < x
  · exact Or.inl ⟨by simp [lg_cmp, h1], Int64.lt_iff_toInt_lt.mp h1⟩
  · by_cases h2 : x = y
    · subst h2; exact Or.inr (Or.inl ⟨by simp [lg_cmp], rfl⟩)
    · refine Or.inr (Or.inr ⟨by simp [lg_cmp, h1, h2], ?_⟩)
      have h3 : ¬ y.toInt < x.toInt := fun h => h1 (Int64.lt_iff_toInt_lt.mpr h)
      have h4 : ¬ x.toInt = y.toInt := fun h => h2 (Int64.toInt_inj.mp h)
      omega
def F_person (a b c : Int32) : Int32 := if 0 ≤ a.toInt ∧ a.toInt ≤ 19 ∧ 0 ≤ b.toInt ∧ b.toInt ≤ 1000000 ∧ 0 ≤ c.toInt ∧ c.toInt ≤ 100 then 0 else -1
def F_heed (a b : Int32) : Int32 := -2
def F_goes (a b : Int32) : Int32 := if 0 ≤ b.toInt ∧ b.toInt ≤ 4 then -2 else -1
def F_coin (a b : Int32) : Int32 := if 0 ≤ b.toInt ∧ b.toInt ≤ 1000000 then -2 else -1
def F_give (a : Int32) : Int32 := if 0 ≤ a.toInt ∧ a.toInt ≤ 10000000 then a else -1
def F_estate (a b : Int32) : Int32 := if 0 ≤ a.toInt ∧ a.toInt ≤ 10000000 ∧ 0 ≤ b.toInt ∧ b.toInt ≤ 1000000 then 0 else -1
def F_field (a b c d : Int32) : Int32 := if 1 ≤ b.toInt ∧ b.toInt ≤ 1000 ∧ 0 ≤ c.toInt ∧ c.toInt ≤ 100000 then -2 else -1
def F_of (a b : Int32) : Int32 := -1
def F_tells (a b : Int32) : Int32 := -1
def F_owner (a b : Int32) : Int32 := -1
def F_fund : Int32 := 0
def F_price (a b : Int32) : Int32 := if 0 ≤ a.toInt ∧ a.toInt ≤ 399 ∧ 0 ≤ b.toInt ∧ b.toInt ≤ 10000 then 0 else -1
def F_row (a b : Int32) : Int32 := if 0 ≤ a.toInt ∧ a.toInt ≤ 399 then -2 else -1
def F_crop (a b : Int32) : Int32 := -1
def F_feed (a b c d e : Int32) : Int32 := 20
def F_end (a : Int32) : Int32 := if a.toInt = 0 then a else -1
def F_text (a : Int32) : Int32 := if 0 ≤ a.toInt ∧ a.toInt ≤ 399 then -6 else -1
def F_fault : Int32 := -1
def F_force (a b c : Int32) : Int32 := -1
def F_holds (a b c d : Int32) : Int32 := -1
def F_writ (a : Int32) : Int32 := -2
def F_avoid (a : Int32) : Int32 := -2
def F_guard (a b c : Int32) : Int32 := if 0 ≤ b.toInt ∧ b.toInt ≤ c.toInt ∧ c.toInt ≤ 399 then -2 else -1
def F_take (a b c : Int32) : Int32 := if 0 ≤ c.toInt ∧ c.toInt ≤ 1 then -2 else -1
def F_go (a : Int32) : Int32 := if 1 ≤ a.toInt ∧ a.toInt ≤ 104 then a else -1
def F_deal (a b c : Int32) : Int32 := if 1 ≤ c.toInt ∧ c.toInt ≤ 10000 then -2 else -1
def F_brave (a : Int32) : Int32 := if 0 ≤ a.toInt ∧ a.toInt ≤ 101 then 50 else -1
def F_keeps (a b : Int32) : Int32 := -1
def F_broke (a b c d : Int32) : Int32 := -1
def F_last (a b c : Int32) : Int32 := if 1 ≤ a.toInt ∧ a.toInt ≤ 10000 ∧ 0 ≤ b.toInt ∧ b.toInt ≤ 1000 ∧ 0 ≤ c.toInt ∧ c.toInt ≤ 1000 then (if b.toInt = 0 then (if c.toInt = 0 then 400 else 1) else 0) else -1
def F_least (a b : Int32) : Int32 := -1
def F_offer (a b : Int32) : Int32 := if -1000 ≤ a.toInt ∧ a.toInt ≤ 1000 ∧ -1000 ≤ b.toInt ∧ b.toInt ≤ 1000 then 1 else -1
def F_agree (a b : Int32) : Int32 := if -10000 ≤ a.toInt ∧ a.toInt ≤ 0 ∧ -10000 ≤ b.toInt ∧ b.toInt ≤ 0 then 0 else -1
def F_wish (a : Int32) : Int32 := -2
def F_clear : Int32 := 0
def F_crops (a b : Int32) : Int32 := if 0 ≤ a.toInt ∧ a.toInt ≤ 10000 ∧ 0 ≤ b.toInt ∧ b.toInt ≤ 10000 then 1 else -1
def F_choose (a : Int32) : Int32 := -1
def F_chosen (a : Int32) : Int32 := -1
def F_judge (a b : Int32) : Int32 := -1
def F_beside (a : Int32) : Int64 := -2000000000000
def F_seal : Int32 := 0
def F_alter (a b : Int32) : Int32 := if 1 ≤ b.toInt ∧ b.toInt ≤ 255 then -2 else -1
def F_found : Int32 := -3
def F_image (a : Int32) : Int32 := if 0 ≤ a.toInt ∧ a.toInt ≤ 1 then 0 else -1
def F_back (a : Int32) : Int32 := if 0 ≤ a.toInt ∧ a.toInt ≤ 1 then -2 else -1
def F_count (a : Int32) : Int32 := if 0 ≤ a.toInt ∧ a.toInt ≤ 9 then 0 else -1
def F_status : Int32 := 0
