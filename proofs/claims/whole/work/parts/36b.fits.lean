theorem ts_6380 {a : Nat} (h : a < 2 ^ 6380) : a < 2 ^ 6400 := Nat.lt_of_lt_of_le h (Nat.pow_le_pow_right (by decide) (by decide))
theorem ts_plN {a n : Nat} (h : a < 2 ^ 6380) (hn : n < 1048576) : n * a < 2 ^ 6400 := by
  have h1 : n * a ≤ 1048576 * a := Nat.mul_le_mul_right _ (by omega)
  have h2 : (2 : Nat) ^ 6400 = 1048576 * 2 ^ 6380 := by rw [show (1048576 : Nat) = 2 ^ 20 by decide, ← Nat.pow_add]
  omega
