/-! ===== arithmetic for products, shifts, rests ===== -/
theorem mul_lt_sq {a b : Nat} (ha : a < 4294967296) (hb : b < 4294967296) : a * b ≤ 18446744065119617025 := by
  have := Nat.mul_le_mul (show a ≤ 4294967295 by omega) (show b ≤ 4294967295 by omega)
  omega
theorem pow_step (i k : Nat) : 4294967296 ^ (i + (k + 1)) = 4294967296 ^ (i + k) * 4294967296 := by rw [← Nat.add_assoc, Nat.pow_succ]
theorem mod_div_pow (x k : Nat) : x % 4294967296 ^ (k + 1) = x % 4294967296 ^ k + x / 4294967296 ^ k % 4294967296 * 4294967296 ^ k := by
  rw [Nat.pow_succ, Nat.mod_mul, Nat.mul_comm (4294967296 ^ k) (x / 4294967296 ^ k % 4294967296)]
/-- a rest, a limb further down -/
theorem rest_step (x k p : Nat) : (x / 4294967296 ^ (k + 1) % p * 4294967296 + x / 4294967296 ^ k % 4294967296) % p = x / 4294967296 ^ k % p := by
  conv => rhs; rw [div_step x k]
  rw [Nat.add_mod, Nat.mul_mod, Nat.mod_mod, ← Nat.mul_mod, ← Nat.add_mod]
/-- a quotient's limb -/
theorem quot_step {x k d : Nat} (hd : 0 < d) : (x / 4294967296 ^ (k + 1) % d * 4294967296 + x / 4294967296 ^ k % 4294967296) / d = x / d / 4294967296 ^ k % 4294967296 := by
  have h1 : x / d / 4294967296 ^ k = x / 4294967296 ^ k / d := by rw [Nat.div_div_eq_div_mul, Nat.div_div_eq_div_mul, Nat.mul_comm]
  rw [h1]
  have h2 := div_step x k
  generalize x / 4294967296 ^ (k + 1) = X at h2 ⊢
  generalize hD : x / 4294967296 ^ k % 4294967296 = D at h2 ⊢
  have hDl : D < 4294967296 := by rw [← hD]; exact Nat.mod_lt _ (by decide)
  rw [h2]
  have h3 : X * 4294967296 + D = (X % d * 4294967296 + D) + d * (X / d * 4294967296) := by
    have h4 : X = X % d + d * (X / d) := (Nat.mod_add_div X d).symm
    calc X * 4294967296 + D = (X % d + d * (X / d)) * 4294967296 + D := by rw [← h4]
      _ = _ := by rw [Nat.add_mul, Nat.mul_assoc]; omega
  rw [h3, Nat.add_mul_div_left _ _ hd, Nat.add_mul_mod_self_right]
  symm
  apply Nat.mod_eq_of_lt
  rw [Nat.div_lt_iff_lt_mul hd]
  have h5 : X % d < d := Nat.mod_lt _ hd
  have h6 : (X % d + 1) * 4294967296 ≤ d * 4294967296 := Nat.mul_le_mul_right _ h5
  rw [Nat.mul_comm d] at h6
  omega
/-- two limbs, shifted down -/
theorem shr_step {x k s : Nat} (hs : s < 32) : (x / 4294967296 ^ (k + 1) % 4294967296 * 4294967296 + x / 4294967296 ^ k % 4294967296) / 2 ^ s % 4294967296 = x / 2 ^ s / 4294967296 ^ k % 4294967296 := by
  have h1 : x / 2 ^ s / 4294967296 ^ k = x / 4294967296 ^ k / 2 ^ s := by rw [Nat.div_div_eq_div_mul, Nat.div_div_eq_div_mul, Nat.mul_comm]
  rw [h1]
  have h2 := div_step x k
  generalize x / 4294967296 ^ (k + 1) = X at h2 ⊢
  generalize x / 4294967296 ^ k % 4294967296 = D at h2 ⊢
  rw [h2]
  have h3 : X * 4294967296 + D = (X % 4294967296 * 4294967296 + D) + 2 ^ s * (2 ^ (32 - s) * (X / 4294967296) * 4294967296) := by
    have h4 : 2 ^ s * (2 ^ (32 - s) * (X / 4294967296) * 4294967296) = 4294967296 * (X / 4294967296) * 4294967296 := by
      rw [← Nat.mul_assoc, ← Nat.mul_assoc, ← Nat.pow_add, show s + (32 - s) = 32 by omega]
    rw [h4]
    omega
  rw [h3, Nat.add_mul_div_left _ _ (Nat.pow_pos (by decide)), Nat.add_mul_mod_self_right]
theorem lN_shrk {n k : Nat} (hn : n < 18446744073709551616) (hk : k < 64) : ((lN n).toUInt64 >>> ((nI k).toInt64.toUInt64 &&& Int64.toUInt64 63)).toInt64 = lN (n / 2 ^ k) := wb_shr (by rw [show (2 : Nat) ^ 64 = 18446744073709551616 by decide]; exact hn) hk
theorem lN_shlk (n : Nat) {k : Nat} (hk : k < 64) : lN n <<< ((nI k).toInt64 &&& 63) = lN (n * 2 ^ k) := wb_shl n hk
theorem lN_orHi {a b : Nat} (hb : b < 4294967296) (h : a * 4294967296 + b < 18446744073709551616) : lN (a * 4294967296) ||| lN b = lN (a * 4294967296 + b) := g_or (k := 32) (by decide) hb (by rw [show (2 : Nat) ^ 64 = 18446744073709551616 by decide]; exact h)
