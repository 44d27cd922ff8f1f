/-! What a fresh object answers to one call, by its arguments alone; and what its rows hold -/
def fillU (f : Nat → Int32) (v : Int32) (n : Nat) : Nat → Int32 := fun j => if j < n then v else f j
theorem fillU_0 (f : Nat → Int32) (v : Int32) : fillU f v 0 = f := by funext j; simp [fillU]
theorem fillU_s (f : Nat → Int32) (v : Int32) (n : Nat) : upd (fillU f v n) n v = fillU f v (n + 1) := by
  funext j
  simp only [upd, fillU]
  by_cases h1 : j = n
  · subst h1; simp
  · by_cases h2 : j < n
    · simp [h1, h2, Nat.lt_succ_of_lt h2]
    · have h3 : ¬ j < n + 1 := by omega
      simp [h1, h2, h3]
def mrow : Nat → Int32 := upd (fun _ => 0) 10 50
