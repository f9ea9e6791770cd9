/-! ===== bits; windows of limbs; a guessed limb of a quotient ===== -/
theorem nI_gt0 {n : Nat} (h : n < 4294967296) : 0 < nI n ↔ 0 < n ∧ n < 2147483648 := by
  rw [Int32.lt_iff_toInt_lt]
  have e : (nI n).toInt = if n < 2147483648 then (n : Int) else (n : Int) - 4294967296 := by
    show (BitVec.ofNat 32 n).toInt = _
    rw [BitVec.toInt_eq_toNat_cond, BitVec.toNat_ofNat, Nat.mod_eq_of_lt (by omega)]
    split <;> split <;> omega
  rw [e, show (0 : Int32).toInt = 0 from rfl]
  split <;> omega
theorem nI_subI {a b : Nat} (h : b ≤ a) : nI a + Int32.ofInt (-(b : Int)) = nI (a - b) := by
  rw [← pk_sub h, Int32.sub_eq_add_neg]
  congr 1
  show Int32.ofInt (-(b : Int)) = -Int32.ofNat b
  rw [Int32.ofInt_neg]
  rfl
/-- how many bits -/
def bl (x : Nat) : Nat := if x = 0 then 0 else Nat.log2 x + 1
theorem bl_le {x n : Nat} : bl x ≤ n ↔ x < 2 ^ n := by
  unfold bl
  by_cases h : x = 0
  · subst h
    have : 0 < 2 ^ n := Nat.pow_pos (by decide)
    simp [this]
  · rw [if_neg h, ← Nat.log2_lt h]
    omega
theorem bl_eq {x n : Nat} (h1 : x < 2 ^ n) (h2 : 2 ^ (n - 1) ≤ x) (hn : 0 < n) : bl x = n := by
  have a := bl_le.mpr h1
  have b : ¬ bl x ≤ n - 1 := fun h => absurd (bl_le.mp h) (by omega)
  omega
/-- limbs from j on -/
def wv (f : Nat → Int32) (j n : Nat) : Nat := vl (fun i => f (j + i)) n
theorem wv_succ (f : Nat → Int32) (j n : Nat) : wv f j (n + 1) = wv f j n + uu (f (j + n)) * 4294967296 ^ n := rfl
theorem wv_lt (f : Nat → Int32) (j n : Nat) : wv f j n < 4294967296 ^ n := vl_lt _ n
theorem wv_congr {f f' : Nat → Int32} {j n : Nat} (h : ∀ i, j ≤ i → i < j + n → f i = f' i) : wv f j n = wv f' j n := vl_congr (fun i hi => h (j + i) (by omega) (by omega))
theorem vl_add (f : Nat → Int32) (j n : Nat) : vl f (j + n) = vl f j + wv f j n * 4294967296 ^ j := by
  induction n with
  | zero => simp [wv, vl]
  | succ n ih =>
    rw [← Nat.add_assoc, vl_succ, ih, wv_succ, Nat.add_mul, Nat.pow_add, Nat.mul_assoc, Nat.mul_comm (4294967296 ^ n)]
    omega
theorem wv_up_ge {f : Nat → Int32} {j k n : Nat} {x : Int32} (h : j + n ≤ k) : wv (upd f k x) j n = wv f j n := wv_congr (fun i h1 h2 => pk_un (by omega))
theorem wv_div {f : Nat → Int32} {j n : Nat} (h : j + n = 16) : wv f j n = vl f 16 / 4294967296 ^ j := by
  have := vl_add f j n
  rw [h] at this
  rw [this, Nat.add_mul_div_right _ _ (BBpos j), Nat.div_eq_of_lt (vl_lt f j), Nat.zero_add]
theorem wv_top {f : Nat → Int32} {j m n : Nat} (h : m ≤ n) (hz : ∀ i, j + m ≤ i → i < j + n → f i = 0) : wv f j n = wv f j m := vl_top h (fun i h1 h2 => hz (j + i) (by omega) (by omega))
/-- the sign bit -/
theorem iN_sgn {z : Int} (h1 : -9223372036854775808 ≤ z) (h2 : z < 9223372036854775808) : ((iN z).toUInt64 >>> ((63 : Int32).toInt64.toUInt64 &&& Int64.toUInt64 63)).toInt64 = lN (if z < 0 then 1 else 0) := by
  have e : iN z = lN (if z < 0 then (z + 18446744073709551616).toNat else z.toNat) := by
    apply Int64.toBitVec_inj.mp
    apply BitVec.eq_of_toNat_eq
    show (BitVec.ofInt 64 z).toNat = (BitVec.ofNat 64 _).toNat
    rw [BitVec.toNat_ofInt, BitVec.toNat_ofNat]
    have : ((2 ^ 64 : Nat) : Int) = 18446744073709551616 := by decide
    split <;> omega
  rw [e]
  have := wb_shr (n := if z < 0 then (z + 18446744073709551616).toNat else z.toNat) (k := 63) (by
    rw [show (2 : Nat) ^ 64 = 18446744073709551616 by decide]
    split <;> omega) (by decide)
  rw [show (2 : Nat) ^ 63 = 9223372036854775808 by decide] at this
  refine Eq.trans this ?_
  congr 1
  split <;> omega
theorem nI_ofInt_sub {a b : Nat} (ha : a < 4294967296) (hb : b < 4294967296) : Int32.ofInt ((a : Int) - b) = nI ((a + 4294967296 - b) % 4294967296) := ofInt_nI (by omega)
theorem lN_subI (a b : Nat) : lN a - lN b = iN ((a : Int) - b) := by rw [iN_nat, iN_nat, iN_sub]
theorem iN_lt0 {z : Int} (h1 : -9223372036854775808 ≤ z) (h2 : z < 9223372036854775808) : lN 0 ≤ iN z ↔ 0 ≤ z := by
  rw [Int64.le_iff_toInt_le, iN_toInt h1 h2]
  rfl
/-- the guess from the highest limbs is never too low, and too high by 2 at most -/
theorem guess_ok {W D P d1 q : Nat} (hP : 0 < P) (hd1 : d1 = D / P) (hdt : D < 4294967296 * P) (hhi : 4294967296 ≤ 2 * d1) (hW : W < D * 4294967296) (hq : q = if d1 ≤ W / P / 4294967296 then 4294967295 else W / P / d1) : W / D ≤ q ∧ q ≤ W / D + 2 ∧ q < 4294967296 := by
  have hD0 : 0 < D := by
    rcases Nat.eq_zero_or_pos D with h | h
    · subst h; simp at hd1; omega
    · exact h
  have hd0 : 0 < d1 := by omega
  have hqB : W / D < 4294967296 := by rw [Nat.div_lt_iff_lt_mul hD0, Nat.mul_comm]; exact hW
  have hDlo : d1 * P ≤ D := by rw [hd1]; exact Nat.div_mul_le_self D P
  have hDhi : D < (d1 + 1) * P := by
    rw [hd1]
    have h1 := Nat.div_add_mod D P
    have h2 := Nat.mod_lt D hP
    rw [Nat.add_mul, Nat.mul_comm (D / P)]
    omega
  have hW2 : W < (W / D + 1) * D := by
    have h1 := Nat.div_add_mod W D
    have h2 := Nat.mod_lt W hD0
    rw [Nat.add_mul, Nat.mul_comm (W / D)]
    omega
  have key : q * d1 ≤ W / P → q ≤ W / D + 2 := by
    intro h
    have h1 : q * d1 * P ≤ W := Nat.le_trans (Nat.mul_le_mul_right P h) (Nat.div_mul_le_self W P)
    have h2 : q * d1 * P < (W / D + 1) * (d1 + 1) * P := by
      rw [Nat.mul_assoc (W / D + 1)]
      exact Nat.lt_of_le_of_lt h1 (Nat.lt_of_lt_of_le hW2 (Nat.mul_le_mul_left _ (Nat.le_of_lt hDhi)))
    have h3 : q * d1 < (W / D + 1) * (d1 + 1) := Nat.lt_of_mul_lt_mul_right h2
    apply Decidable.byContradiction
    intro hc
    have h4 : (W / D + 3) * d1 ≤ q * d1 := Nat.mul_le_mul_right _ (by omega)
    rw [Nat.add_mul] at h4
    rw [Nat.add_mul, Nat.mul_add] at h3
    omega
  by_cases hc : d1 ≤ W / P / 4294967296
  · rw [if_pos hc] at hq
    subst hq
    have h1 : d1 * 4294967296 ≤ W / P := (Nat.le_div_iff_mul_le (by decide)).mp hc
    exact ⟨by omega, key (by omega), by decide⟩
  · rw [if_neg hc] at hq
    subst hq
    refine ⟨?_, key (Nat.div_mul_le_self _ _), ?_⟩
    · rw [Nat.div_div_eq_div_mul]
      exact Nat.div_le_div_left (by rw [Nat.mul_comm]; exact hDlo) (Nat.mul_pos hP hd0)
    · rw [Nat.div_lt_iff_lt_mul hd0]
      have : W / P < d1 * 4294967296 := (Nat.div_lt_iff_lt_mul (by decide)).mp (by omega)
      rw [Nat.mul_comm]
      exact this
