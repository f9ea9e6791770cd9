/-! ===== digits by 2^28 ===== -/
def dg (x k : Nat) : Nat := x / 268435456 ^ k % 268435456
theorem dg_lt (x k : Nat) : dg x k < 268435456 := Nat.mod_lt _ (by decide)
theorem dgp (k : Nat) : 0 < 268435456 ^ k := Nat.pow_pos (by decide)
theorem dg_mod (x k : Nat) : x % 268435456 ^ (k + 1) = x % 268435456 ^ k + dg x k * 268435456 ^ k := by
  unfold dg
  rw [Nat.mod_pow_succ, Nat.mul_comm]
theorem dg_0 (k : Nat) : dg 0 k = 0 := by simp [dg]
theorem dg_hi {x t k : Nat} (h : x < 268435456 ^ t) (hk : t ≤ k) : dg x k = 0 := by
  unfold dg
  rw [Nat.div_eq_of_lt (Nat.lt_of_lt_of_le h (Nat.pow_le_pow_right (by decide) hk)), Nat.zero_mod]
/-- the digit of a number that is known to below 2^(28 (k+1)) -/
theorem dg_of {x y k v : Nat} (h : x % 268435456 ^ (k + 1) = y % 268435456 ^ (k + 1)) (hv : y / 268435456 ^ k = v) : dg x k = v % 268435456 := by
  have e : ∀ z, z / 268435456 ^ k % 268435456 = z % 268435456 ^ (k + 1) / 268435456 ^ k := fun z => by
    rw [Nat.pow_succ, Nat.mod_mul_right_div_self]
  unfold dg
  rw [e x, h, ← e y, hv]
theorem dg_lo {x y k j : Nat} (h : x % 268435456 ^ k = y % 268435456 ^ k) (hj : j < k) : dg x j = dg y j := by
  have e : ∀ z, z / 268435456 ^ j % 268435456 = z % 268435456 ^ k / 268435456 ^ j % 268435456 := fun z => by
    have h1 : 268435456 ^ k = 268435456 ^ j * (268435456 * 268435456 ^ (k - j - 1)) := by
      rw [← Nat.pow_succ', ← Nat.pow_add]; congr 1; omega
    rw [h1, Nat.mod_mul_right_div_self, Nat.mod_mul_right_mod]
  unfold dg
  rw [e x, e y, h]
theorem div_dg (x k : Nat) : x / 268435456 ^ k = x / 268435456 ^ (k + 1) * 268435456 + dg x k := by
  unfold dg
  rw [Nat.pow_succ, ← Nat.div_div_eq_div_mul]
  omega
theorem divlt {x k : Nat} (h : x < 268435456 ^ (k + 1)) : x / 268435456 ^ k < 268435456 := (Nat.div_lt_iff_lt_mul (dgp k)).mpr (by rw [← Nat.pow_succ']; exact h)
/-- a sum of two, digit by digit -/
theorem add_dg (x y k : Nat) : dg (x + y) k = (dg x k + dg y k + (x % 268435456 ^ k + y % 268435456 ^ k) / 268435456 ^ k) % 268435456 ∧ (x % 268435456 ^ (k + 1) + y % 268435456 ^ (k + 1)) / 268435456 ^ (k + 1) = (dg x k + dg y k + (x % 268435456 ^ k + y % 268435456 ^ k) / 268435456 ^ k) / 268435456 := by
  have hs : (x % 268435456 ^ (k + 1) + y % 268435456 ^ (k + 1)) / 268435456 ^ k = dg x k + dg y k + (x % 268435456 ^ k + y % 268435456 ^ k) / 268435456 ^ k := by
    rw [dg_mod, dg_mod, show x % 268435456 ^ k + dg x k * 268435456 ^ k + (y % 268435456 ^ k + dg y k * 268435456 ^ k) = (x % 268435456 ^ k + y % 268435456 ^ k) + (dg x k + dg y k) * 268435456 ^ k by rw [Nat.add_mul]; omega, Nat.add_mul_div_right _ _ (dgp k)]
    omega
  refine ⟨dg_of (y := x % 268435456 ^ (k + 1) + y % 268435456 ^ (k + 1)) (by rw [← Nat.add_mod]) hs, ?_⟩
  rw [Nat.pow_succ, ← Nat.div_div_eq_div_mul, ← Nat.pow_succ, hs]
/-- a difference, digit by digit; the borrow is 0 or 1 -/
theorem sub_q {P x y : Nat} (hP : 0 < P) (h : y ≤ x) : (x - y) / P = x / P - y / P - (if x % P < y % P then 1 else 0) ∧ y / P + (if x % P < y % P then 1 else 0) ≤ x / P := by
  have e1 := Nat.div_add_mod x P
  have e2 := Nat.div_add_mod y P
  have l1 := Nat.mod_lt x hP
  have l2 := Nat.mod_lt y hP
  generalize x % P = X at *
  generalize y % P = Y at *
  have hq : y / P ≤ x / P := Nat.div_le_div_right h
  generalize hqx : x / P = qx at *
  generalize hqy : y / P = qy at *
  clear hqx hqy
  by_cases hc : X < Y
  · rw [if_pos hc]
    have hlt : qy < qx := by
      rcases Nat.lt_or_ge qy qx with z | z
      · exact z
      · have : qx = qy := by omega
        subst this
        omega
    refine ⟨?_, hlt⟩
    obtain ⟨d, rfl⟩ : ∃ d, qx = qy + d + 1 := ⟨qx - qy - 1, by omega⟩
    have e3 : x - y = P * d + (P + X - Y) := by
      rw [Nat.mul_add, Nat.mul_add, Nat.mul_one] at e1
      omega
    rw [e3, Nat.mul_add_div hP, Nat.div_eq_of_lt (by omega)]
    omega
  · rw [if_neg hc]
    refine ⟨?_, by omega⟩
    obtain ⟨d, rfl⟩ : ∃ d, qx = qy + d := ⟨qx - qy, by omega⟩
    have e3 : x - y = P * d + (X - Y) := by
      rw [Nat.mul_add] at e1
      omega
    rw [e3, Nat.mul_add_div hP, Nat.div_eq_of_lt (by omega)]
    omega
theorem sub_m {B p q c : Nat} (hB : 0 < B) (hc : c ≤ 1) (h : q + c ≤ p) : (p - q - c) % B = (p % B + B - q % B - c) % B := by
  have l2 := Nat.mod_lt q hB
  have e2 := Nat.div_add_mod q B
  have e1 : (p - q - c + (q % B + c)) % B = p % B := by
    have : p - q - c + (q % B + c) + B * (q / B) = p := by omega
    conv => rhs; rw [← this]
    rw [Nat.add_mul_mod_self_left]
  have e3 : (p - q - c + (q % B + c) + (B - (q % B + c))) % B = (p % B + (B - (q % B + c))) % B := by
    rw [Nat.add_mod, e1]
    conv => rhs; rw [Nat.add_mod, Nat.mod_mod]
  rw [show p - q - c + (q % B + c) + (B - (q % B + c)) = p - q - c + B by omega, Nat.add_mod_right] at e3
  rw [e3]
  congr 1
  omega
theorem bor_m {B P x y : Nat} (hB : 0 < B) (hP : 0 < P) : (if x % (P * B) < y % (P * B) then 1 else 0) = (if x / P % B < y / P % B + (if x % P < y % P then 1 else 0) then 1 else (0 : Nat)) := by
  have m1 : x % (P * B) = x % P + P * (x / P % B) := Nat.mod_mul
  have m2 : y % (P * B) = y % P + P * (y / P % B) := Nat.mod_mul
  rw [m1, m2]
  have l1 := Nat.mod_lt x hP
  have l2 := Nat.mod_lt y hP
  generalize x % P = X at *
  generalize y % P = Y at *
  generalize x / P % B = a
  generalize y / P % B = b
  have hmul : ∀ {m n : Nat}, m < n → P * m + P ≤ P * n := fun {m n} h => by
    have := Nat.mul_le_mul_left P (show m + 1 ≤ n from h)
    rw [Nat.mul_add, Nat.mul_one] at this
    exact this
  by_cases hab : a < b
  · have := hmul hab
    rw [if_pos (by omega), if_pos (by omega)]
  · by_cases hba : b < a
    · have := hmul hba
      rw [if_neg (by omega), if_neg (by split <;> omega)]
    · have hE : a = b := by omega
      subst hE
      by_cases hc : X < Y
      · rw [if_pos (by omega), if_pos hc, if_pos (by omega)]
      · rw [if_neg (by omega), if_neg hc, if_neg (by omega)]
def bor (x y k : Nat) : Nat := if x % 268435456 ^ k < y % 268435456 ^ k then 1 else 0
theorem bor_le (x y k : Nat) : bor x y k ≤ 1 := by unfold bor; split <;> decide
theorem sub_dg {x y : Nat} (h : y ≤ x) (k : Nat) : dg (x - y) k = (dg x k + 268435456 - dg y k - bor x y k) % 268435456 ∧ bor x y (k + 1) = (if dg x k < dg y k + bor x y k then 1 else 0) := by
  constructor
  · obtain ⟨h1, h2⟩ := sub_q (dgp k) h
    unfold dg
    rw [h1]
    exact sub_m (by decide) (bor_le x y k) h2
  · have h1 := bor_m (B := 268435456) (x := x) (y := y) (by decide) (dgp k)
    rw [← Nat.pow_succ] at h1
    exact h1
