theorem bmod32 {z : Int} (h1 : -2147483648 ≤ z) (h2 : z < 2147483648) : z.bmod (2 ^ 32) = z := by
  rw [Int.bmod_def]
  have e : ((2 ^ 32 : Nat) : Int) = 4294967296 := by decide
  rw [e]
  split <;> omega
theorem bmod64 {z : Int} (h1 : -9223372036854775808 ≤ z) (h2 : z < 9223372036854775808) : z.bmod (2 ^ 64) = z := by
  rw [Int.bmod_def]
  have e : ((2 ^ 64 : Nat) : Int) = 18446744073709551616 := by decide
  rw [e]
  split <;> omega
theorem add32 {x y : Int32} {X Y : Int} (hx : x.toInt = X) (hy : y.toInt = Y) (h1 : -2147483648 ≤ X + Y) (h2 : X + Y < 2147483648) : (x + y).toInt = X + Y := by
  rw [Int32.toInt_add, hx, hy]
  exact bmod32 h1 h2
theorem sub64 {x y : Int64} {X Y : Int} (hx : x.toInt = X) (hy : y.toInt = Y) (h1 : -9223372036854775808 ≤ X - Y) (h2 : X - Y < 9223372036854775808) : (x - y).toInt = X - Y := by
  rw [Int64.toInt_sub, hx, hy]
  exact bmod64 h1 h2
theorem mul64 {x y : Int64} {X Y : Int} (hx : x.toInt = X) (hy : y.toInt = Y) (h1 : 1 ≤ X) (h2 : X ≤ 10000) (h3 : 1 ≤ Y) (h4 : Y ≤ 1000) : 1 ≤ (x * y).toInt ∧ (x * y).toInt ≤ 10000000 := by
  have a1 : 1 * 1 ≤ X * Y := Int.mul_le_mul h1 h3 (by decide) (by omega)
  have a2 : X * Y ≤ 10000 * 1000 := Int.mul_le_mul h2 h4 (by omega) (by decide)
  have e : (x * y).toInt = X * Y := by
    rw [Int64.toInt_mul, hx, hy]
    exact bmod64 (by omega) (by omega)
  rw [e]
  omega
