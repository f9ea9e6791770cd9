/-! ===== ints and longs as naturals; limbs of 32 bits ===== -/
abbrev BB : Nat := 4294967296
def uu (x : Int32) : Nat := x.toBitVec.toNat
theorem uu_lt (x : Int32) : uu x < 4294967296 := x.toBitVec.isLt
theorem uu_nI (n : Nat) : uu (nI n) = n % 4294967296 := by
  show (BitVec.ofNat 32 n).toNat = _
  rw [BitVec.toNat_ofNat]
theorem nI_uu (x : Int32) : nI (uu x) = x := Int32.toBitVec_inj.mp (by show BitVec.ofNat 32 x.toBitVec.toNat = _; simp)
theorem uu_inj {x y : Int32} (h : uu x = uu y) : x = y := by rw [← nI_uu x, ← nI_uu y, h]
theorem nI_mod (n : Nat) : nI n = nI (n % 4294967296) := uu_inj (by rw [uu_nI, uu_nI]; omega)
theorem nI_inj32 {a b : Nat} (ha : a < 4294967296) (hb : b < 4294967296) : nI a = nI b ↔ a = b := by
  constructor
  · intro h
    have := congrArg uu h
    rw [uu_nI, uu_nI, Nat.mod_eq_of_lt ha, Nat.mod_eq_of_lt hb] at this
    exact this
  · rintro rfl; rfl
theorem uu_0 {x : Int32} : uu x = 0 ↔ x = 0 := by
  constructor
  · intro h; exact uu_inj (by rw [h]; rfl)
  · rintro rfl; rfl
theorem lN_eq64 {a b : Nat} (h : a % 18446744073709551616 = b % 18446744073709551616) : lN a = lN b := by
  rw [wb_mod a, wb_mod b, show (2 : Nat) ^ 64 = 18446744073709551616 by decide, h]
theorem low32 (x : Int32) : x.toInt64 &&& 4294967295 = lN (uu x) := by
  apply wb_inj
  apply BitVec.eq_of_toNat_eq
  rw [wb_tn (Nat.lt_trans (uu_lt x) (by decide))]
  rw [Int64.toBitVec_and, BitVec.toNat_and]
  rw [show (4294967295 : Int64).toBitVec.toNat = 2 ^ 32 - 1 by decide, Nat.and_two_pow_sub_one_eq_mod]
  rw [Int32.toBitVec_toInt64, BitVec.toNat_signExtend]
  have := uu_lt x
  simp only [BitVec.toNat_setWidth]
  unfold uu at *
  split <;> omega
theorem lN_shr32 {n : Nat} (h : n < 18446744073709551616) : ((lN n).toUInt64 >>> ((32 : Int32).toInt64.toUInt64 &&& Int64.toUInt64 63)).toInt64 = lN (n / 4294967296) := by
  have := wb_shr (n := n) (k := 32) (by rw [show (2 : Nat) ^ 64 = 18446744073709551616 by decide]; exact h) (by decide)
  rw [show (2 : Nat) ^ 32 = 4294967296 by decide] at this
  exact this
theorem lN_shl32 (n : Nat) : lN n <<< ((32 : Int32).toInt64 &&& 63) = lN (n * 4294967296) := by
  have := wb_shl n (k := 32) (by decide)
  rw [show (2 : Nat) ^ 32 = 4294967296 by decide] at this
  exact this
/-- limbs as a number -/
def vl (f : Nat → Int32) : Nat → Nat
  | 0 => 0
  | n + 1 => vl f n + uu (f n) * 4294967296 ^ n
theorem vl_succ (f : Nat → Int32) (n : Nat) : vl f (n + 1) = vl f n + uu (f n) * 4294967296 ^ n := rfl
theorem BBpos (n : Nat) : 0 < 4294967296 ^ n := Nat.pow_pos (by decide)
theorem vl_lt (f : Nat → Int32) (n : Nat) : vl f n < 4294967296 ^ n := by
  induction n with
  | zero => simp [vl]
  | succ n ih =>
    rw [vl_succ, Nat.pow_succ]
    have h1 := uu_lt (f n)
    have h2 : uu (f n) * 4294967296 ^ n ≤ 4294967295 * 4294967296 ^ n := Nat.mul_le_mul_right _ (by omega)
    omega
theorem vl_congr {f g : Nat → Int32} {n : Nat} (h : ∀ i, i < n → f i = g i) : vl f n = vl g n := by
  induction n with
  | zero => rfl
  | succ n ih => rw [vl_succ, vl_succ, ih (fun i hi => h i (by omega)), h n (by omega)]
theorem vl_up_ge {f : Nat → Int32} {k n : Nat} {x : Int32} (h : n ≤ k) : vl (upd f k x) n = vl f n := vl_congr (fun i hi => pk_un (by omega))
theorem vl_up {f : Nat → Int32} {k n : Nat} {x : Int32} (h : k < n) : vl (upd f k x) n + uu (f k) * 4294967296 ^ k = vl f n + uu x * 4294967296 ^ k := by
  induction n with
  | zero => omega
  | succ n ih =>
    rw [vl_succ, vl_succ]
    by_cases hk : k = n
    · subst hk
      rw [vl_up_ge (Nat.le_refl _), pk_us]
      omega
    · rw [pk_un (show n ≠ k by omega)]
      have := ih (by omega)
      omega
theorem vl_top {f : Nat → Int32} {m n : Nat} (hmn : m ≤ n) (h : ∀ i, m ≤ i → i < n → f i = 0) : vl f n = vl f m := by
  induction n with
  | zero => rw [show m = 0 by omega]
  | succ n ih =>
    by_cases hm : m = n + 1
    · rw [hm]
    · rw [vl_succ, ih (by omega) (fun i a b => h i a (by omega)), h n (by omega) (by omega), show uu 0 = 0 from rfl]
      omega
theorem vl_zero {f : Nat → Int32} {n : Nat} (h : ∀ i, i < n → f i = 0) : vl f n = 0 := vl_top (Nat.zero_le n) (fun i _ hi => h i hi)
theorem vl_le {f : Nat → Int32} {m n : Nat} (h : m ≤ n) : vl f m ≤ vl f n := by
  induction n with
  | zero => rw [show m = 0 by omega]; exact Nat.le_refl _
  | succ n ih =>
    by_cases hm : m = n + 1
    · rw [hm]; exact Nat.le_refl _
    · exact Nat.le_trans (ih (by omega)) (by rw [vl_succ]; omega)
theorem vl_mod (f : Nat → Int32) {m n : Nat} (h : m ≤ n) : vl f n % 4294967296 ^ m = vl f m := by
  induction n with
  | zero => rw [show m = 0 by omega]; simp [vl]
  | succ n ih =>
    by_cases hm : m = n + 1
    · rw [hm, Nat.mod_eq_of_lt (vl_lt f (n + 1))]
    · rw [vl_succ]
      obtain ⟨d, rfl⟩ : ∃ d, n = m + d := ⟨n - m, by omega⟩
      rw [Nat.pow_add, ← Nat.mul_assoc, Nat.mul_comm (uu (f (m + d))), Nat.mul_assoc, Nat.add_mul_mod_self_left]
      exact ih (by omega)
theorem vl_digit (f : Nat → Int32) {k n : Nat} (h : k < n) : uu (f k) = vl f n / 4294967296 ^ k % 4294967296 := by
  have h1 := vl_mod f (show k + 1 ≤ n from h)
  have h2 : vl f n / 4294967296 ^ k % 4294967296 = vl f n % 4294967296 ^ (k + 1) / 4294967296 ^ k := by
    rw [Nat.pow_succ, Nat.mod_mul_right_div_self]
  rw [h2, h1, vl_succ, Nat.add_mul_div_right _ _ (BBpos k), Nat.div_eq_of_lt (vl_lt f k)]
  omega
theorem vl_inj {f g : Nat → Int32} {n : Nat} (h : vl f n = vl g n) : ∀ i, i < n → f i = g i := fun i hi => uu_inj (by rw [vl_digit f hi, vl_digit g hi, h])
theorem vl_hi {f : Nat → Int32} {m n : Nat} (hmn : m ≤ n) (h : vl f n < 4294967296 ^ m) : ∀ i, m ≤ i → i < n → f i = 0 := by
  intro i h1 h2
  apply uu_0.mp
  rw [vl_digit f h2, Nat.div_eq_of_lt (Nat.lt_of_lt_of_le h (Nat.pow_le_pow_right (by decide) h1))]
/-- how many limbs -/
def nl (x : Nat) : Nat := if x = 0 then 0 else Nat.log2 x / 32 + 1
theorem BB2 (n : Nat) : 4294967296 ^ n = 2 ^ (32 * n) := by rw [Nat.pow_mul]
theorem nl_le {x n : Nat} : nl x ≤ n ↔ x < 4294967296 ^ n := by
  unfold nl
  by_cases h : x = 0
  · subst h
    simp [BBpos n]
  · rw [if_neg h, BB2, ← Nat.log2_lt h]
    omega
theorem lt_nl {x n : Nat} : n < nl x ↔ 4294967296 ^ n ≤ x := by
  rw [← Nat.not_le, nl_le, Nat.not_lt]
theorem nl_eq {x n : Nat} (h1 : x < 4294967296 ^ n) (h2 : n = 0 ∨ 4294967296 ^ (n - 1) ≤ x) : nl x = n := by
  have a := nl_le.mpr h1
  rcases h2 with rfl | h2
  · omega
  · have := lt_nl.mpr h2
    omega
theorem nl_0 {x : Nat} : nl x = 0 ↔ x = 0 := by
  constructor
  · intro h
    have := nl_le.mp (Nat.le_of_eq h)
    simpa using this
  · rintro rfl; rfl
theorem nl_16 {x : Nat} (h : x < 4294967296 ^ 16) : nl x ≤ 16 := nl_le.mpr h
theorem lt_pow_nl (x : Nat) : x < 4294967296 ^ nl x := nl_le.mp (Nat.le_refl _)
