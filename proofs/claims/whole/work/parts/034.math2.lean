/-! ===== more of limbs, carries, borrows ===== -/
theorem lowN {d : Nat} (h : d < 4294967296) : (nI d).toInt64 &&& 4294967295 = lN d := by rw [low32, uu_nI, Nat.mod_eq_of_lt h]
theorem lowU (x : Int32) : x.toInt64 &&& 4294967295 = lN (uu x) := low32 x
theorem nI_m1 (k : Nat) : nI k + Int32.ofInt (-1) = nI k - nI 1 := by
  rw [Int32.sub_eq_add_neg]
  rfl
theorem nI_km1 (k : Nat) : nI (k + 1) - nI 1 = nI k := pk_sub (by omega)
theorem nI_0m1 : nI 0 - nI 1 < 0 := by decide
theorem nI_dec_lt {k : Nat} (h : k < 1073741824) : nI k - nI 1 < 0 ↔ k = 0 := by
  constructor
  · intro c
    cases k with
    | zero => rfl
    | succ k => rw [nI_km1] at c; exact absurd c (nI_pos (by omega))
  · rintro rfl; exact nI_0m1
theorem div_step (x k : Nat) : x / 4294967296 ^ k = x / 4294967296 ^ (k + 1) * 4294967296 + x / 4294967296 ^ k % 4294967296 := by
  rw [Nat.pow_succ, ← Nat.div_div_eq_div_mul]
  omega
theorem digsplit (t P : Nat) : t % 4294967296 * P + t / 4294967296 * (P * 4294967296) = t * P := by
  have h : t % 4294967296 + t / 4294967296 * 4294967296 = t := by omega
  calc t % 4294967296 * P + t / 4294967296 * (P * 4294967296) = (t % 4294967296 + t / 4294967296 * 4294967296) * P := by rw [Nat.add_mul, Nat.mul_assoc (t / 4294967296), Nat.mul_comm P]
    _ = t * P := by rw [h]
theorem max_nI {a b : Nat} (ha : a < 2147483648) (hb : b < 2147483648) : (if nI a < nI b then nI b else nI a) = nI (max a b) := by
  by_cases h : a < b
  · rw [if_pos ((nI_ltI ha hb).mpr h), Nat.max_eq_right (by omega)]
  · rw [if_neg (mt (nI_ltI ha hb).mp h), Nat.max_eq_left (by omega)]
theorem min_nI {a b : Nat} (ha : a < 2147483648) (hb : b < 2147483648) : (if nI b < nI a then nI b else nI a) = nI (min a b) := by
  by_cases h : b < a
  · rw [if_pos ((nI_ltI hb ha).mpr h), Nat.min_eq_right (by omega)]
  · rw [if_neg (mt (nI_ltI hb ha).mp h), Nat.min_eq_left (by omega)]
/-- longs by Int -/
def iN (z : Int) : Int64 := Int64.ofInt z
theorem iN_nat (n : Nat) : lN n = iN n := rfl
theorem iN_add (a b : Int) : iN a + iN b = iN (a + b) := by simp [iN, Int64.ofInt_add]
theorem iN_sub (a b : Int) : iN a - iN b = iN (a - b) := by simp [iN, Int64.ofInt_sub]
theorem iN_toInt {z : Int} (h1 : -9223372036854775808 ≤ z) (h2 : z < 9223372036854775808) : (iN z).toInt = z := Int64.toInt_ofInt_of_le (by simpa using h1) (by simpa using h2)
theorem iN_i32 (z : Int) : (iN z).toInt32 = Int32.ofInt z := by simp [iN]
theorem ofInt_nI {z : Int} {n : Nat} (h : z % 4294967296 = (n : Int) % 4294967296) : Int32.ofInt z = nI n := by
  apply Int32.toBitVec_inj.mp
  apply BitVec.eq_of_toNat_eq
  show (BitVec.ofInt 32 z).toNat = (BitVec.ofNat 32 n).toNat
  rw [BitVec.toNat_ofInt, BitVec.toNat_ofNat]
  have : ((2 ^ 32 : Nat) : Int) = 4294967296 := by decide
  omega
theorem iN_shr32 {z : Int} (h1 : -9223372036854775808 ≤ z) (h2 : z < 9223372036854775808) : iN z >>> ((32 : Int32).toInt64 &&& 63) = iN (z / 4294967296) := by
  apply Int64.toInt_inj.mp
  rw [iN_toInt (by omega) (by omega)]
  have e : (iN z >>> ((32 : Int32).toInt64 &&& 63)).toInt = (iN z).toInt >>> 32 := by
    rw [← show ((((32 : Int32).toInt64 &&& 63).toBitVec.smod 64).toNat) = 32 by decide]
    exact BitVec.toInt_sshiftRight ..
  rw [e, Int.shiftRight_eq_div_pow, iN_toInt h1 h2]
  rfl
/-- a borrow: what is left, and the next borrow -/
theorem sub_step {a b c : Nat} (ha : a < 4294967296) (hb : b < 4294967296) (hc : c ≤ 1) : (iN (-(c : Int)) + (lN a - lN b)).toInt32 = nI ((a + 4294967296 - b - c) % 4294967296) ∧ (iN (-(c : Int)) + (lN a - lN b)) >>> ((32 : Int32).toInt64 &&& 63) = iN (-((if a < b + c then 1 else 0 : Nat) : Int)) ∧ (a + 4294967296 - b - c) % 4294967296 + b + c = a + (if a < b + c then 1 else 0) * 4294967296 := by
  rw [iN_nat, iN_nat, iN_sub, iN_add]
  refine ⟨?_, ?_, ?_⟩
  · rw [iN_i32]
    apply ofInt_nI
    omega
  · rw [iN_shr32 (by omega) (by omega)]
    congr 1
    split <;> omega
  · split <;> omega
