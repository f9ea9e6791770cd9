/-! ===== Primes ===== -/
theorem cmpN {x y : Nat} (hx : x < 9223372036854775808) (hy : y < 9223372036854775808) : lg_cmp (lN x) (lN y) = 0 ↔ x = y := by
  rw [lg_cmp_eq]
  exact pk_lEQ (by omega) (by omega)
theorem shr1 {l : Nat} (h : l < 2147483648) : nI l >>> (nI 1 &&& 31) = nI (l / 2) := (pk_shrN (by omega) _ 1 (by decide)).trans (by rw [Nat.pow_one])
theorem and1 {l : Nat} (h : l < 2147483648) : nI l &&& nI 1 = nI (l % 2) := (pk_andN (by omega) 1 (by decide)).trans (by rw [Nat.pow_one])
theorem mulmod_lt {a b p : Nat} (ha : a < p) (hb : b < p) (hp : p < 2147483648) : a * b < 9223372036854775808 := by
  have : a * b ≤ 2147483647 * 2147483647 := Nat.mul_le_mul (by omega) (by omega)
  omega
/-- a step of the power -/
theorem pw_odd {m s l p : Nat} (h : l % 2 = 1) : m * s % p * (s * s % p) ^ (l / 2) % p = m * s ^ l % p := by
  have e : s ^ l = s * (s * s) ^ (l / 2) := by
    rw [← Nat.pow_two, ← Nat.pow_mul, ← Nat.pow_succ']
    congr 1
    omega
  rw [e, Nat.mul_mod, Nat.mod_mod, ← Nat.pow_mod, ← Nat.mul_mod, Nat.mul_assoc]
theorem pw_even {m s l p : Nat} (h : l % 2 = 0) : m * (s * s % p) ^ (l / 2) % p = m * s ^ l % p := by
  have e : s ^ l = (s * s) ^ (l / 2) := by
    rw [← Nat.pow_two, ← Nat.pow_mul]
    congr 1
    omega
  rw [e, Nat.mul_mod, ← Nat.pow_mod, ← Nat.mul_mod]
set_option maxRecDepth 100000 in
theorem c_power {Γ : Gm} {S : Hs} {b e p : Nat} (hb : b < p) (hp1 : 1 < p) (hp : p < 2147483648) (he : e < 2147483648) : zCt Γ mX5_power 0 0 0 0 [.long (lN b), .int (nI e), .int (nI p)] S (pL (fun r S' => r = lN (b ^ e % p) ∧ S' = S)) := by
  refine zCt.of [some (.long (lN b)), none, some (.int (nI e)), some (.int (nI p)), none, none, none, none, none] pn_X5_power rfl (Nat.le_of_ble_eq_true rfl) rfl (fun κ F => ?_)
  generalize hQ : zQ Γ κ (pL (fun r S' => r = lN (b ^ e % p) ∧ S' = S)) 0 0 = Q
  have hp64 : (nI p).toInt64 = lN p := nI_l (by omega)
  have hpne : ¬ lN p = 0 := fun z => absurd ((pk_lEQ (a := p) (b := 0) (by omega) (by decide)).mp z) (by omega)
  have hp0 : 0 < p := by omega
  have loop : ∀ (k m s l : Nat), l < 2 ^ k → l < 2147483648 → m < p → s < p → m * s ^ l % p = b ^ e % p → zX Γ κ S 0 0 Q 9 [some (.long (lN b)), none, some (.int (nI e)), some (.int (nI p)), some (.long (lN m)), none, some (.long (lN s)), none, some (.int (nI l))] [] := by
    intro k
    induction k with
    | zero =>
      intro m s l hk hl hm hs hv
      have h0 : l = 0 := by omega
      subst h0
      rw [Nat.pow_zero, Nat.mul_one, Nat.mod_eq_of_lt hm] at hv
      refine z_iload F dX5_power_9 rfl ?_
      refine z_if_le (tgt := 51) F dX5_power_11 (by decide) (fun c => ?_) (fun c => ?_)
      · subst hQ
        refine z_lload F dX5_power_51 rfl ?_
        exact z_lret F dX5_power_53 rfl ⟨by rw [hv], rfl⟩
      · exact absurd (show nI 0 ≤ 0 by decide) c
    | succ k ih =>
      intro m s l hk hl hm hs hv
      rw [Nat.pow_succ] at hk
      have hss := mulmod_lt hs hs hp
      have hms := mulmod_lt hm hs hp
      refine z_iload F dX5_power_9 rfl ?_
      refine z_if_le (tgt := 51) F dX5_power_11 (by decide) (fun c => ?_) (fun c => ?_)
      · have h0 : l = 0 := (nI_le0 hl).mp c
        subst h0
        rw [Nat.pow_zero, Nat.mul_one, Nat.mod_eq_of_lt hm] at hv
        subst hQ
        refine z_lload F dX5_power_51 rfl ?_
        exact z_lret F dX5_power_53 rfl ⟨by rw [hv], rfl⟩
      · have sq : ∀ (m' : Nat), m' < p → m' * (s * s % p) ^ (l / 2) % p = b ^ e % p → zX Γ κ S 0 0 Q 32 [some (.long (lN b)), none, some (.int (nI e)), some (.int (nI p)), some (.long (lN m')), none, some (.long (lN s)), none, some (.int (nI l))] [] := by
          intro m' hm' hv'
          refine z_lload F dX5_power_32 rfl ?_
          refine z_lload F dX5_power_34 rfl ?_
          refine z_lmul F dX5_power_36 ?_
          refine z_tl (lN_mul s s) ?_
          refine z_iload_n F dX5_power_37 rfl ?_
          refine z_i2l F dX5_power_38 ?_
          refine z_tl hp64 ?_
          refine z_lrem F dX5_power_39 hpne ?_
          refine z_tl (pk_lRem hss hp0 (by omega)) ?_
          refine z_lstore_6 F dX5_power_40 rfl ?_
          refine z_iload F dX5_power_42 rfl ?_
          refine z_iconst (v := nI 1) F dX5_power_44 (by decide) ?_
          refine z_ishr F dX5_power_45 ?_
          refine z_ti (shr1 hl) ?_
          refine z_istore_8 F dX5_power_46 rfl ?_
          refine z_goto (tgt := 9) F dX5_power_48 (by decide) ?_
          exact ih m' _ (l / 2) (by omega) (by omega) hm' (Nat.mod_lt _ hp0) hv'
        refine z_iload F dX5_power_14 rfl ?_
        refine z_iconst (v := nI 1) F dX5_power_16 (by decide) ?_
        refine z_iand F dX5_power_17 ?_
        refine z_ti (and1 hl) ?_
        refine z_iconst (v := nI 1) F dX5_power_18 (by decide) ?_
        refine z_icmp_ne (tgt := 32) F dX5_power_19 (by decide) (fun c2 => ?_) (fun c2 => ?_)
        · have hev : l % 2 = 0 := by
            rcases Nat.mod_two_eq_zero_or_one l with h | h
            · exact h
            · exact absurd (by rw [h]) c2
          exact sq m hm (by rw [pw_even hev]; exact hv)
        · have hod : l % 2 = 1 := by
            rcases Nat.mod_two_eq_zero_or_one l with h | h
            · rw [h] at c2; exact absurd (show ¬ nI 0 = nI 1 by decide) (by simpa using c2)
            · exact h
          refine z_lload F dX5_power_22 rfl ?_
          refine z_lload F dX5_power_24 rfl ?_
          refine z_lmul F dX5_power_26 ?_
          refine z_tl (lN_mul m s) ?_
          refine z_iload_n F dX5_power_27 rfl ?_
          refine z_i2l F dX5_power_28 ?_
          refine z_tl hp64 ?_
          refine z_lrem F dX5_power_29 hpne ?_
          refine z_tl (pk_lRem hms hp0 (by omega)) ?_
          refine z_lstore_4 F dX5_power_30 rfl ?_
          exact sq _ (Nat.mod_lt _ hp0) (by rw [pw_odd hod]; exact hv)
  refine z_lconst (v := lN 1) F dX5_power_0 (by decide) ?_
  refine z_lstore_4 F dX5_power_1 rfl ?_
  refine z_lload_n F dX5_power_3 rfl ?_
  refine z_lstore_6 F dX5_power_4 rfl ?_
  refine z_iload_n F dX5_power_6 rfl ?_
  refine z_istore_8 F dX5_power_7 rfl ?_
  exact loop 31 1 b e (by omega) he hp1 hb (by rw [Nat.one_mul])
set_option maxRecDepth 100000 in
theorem c_inverse {Γ : Gm} {S : Hs} {b p : Nat} (hb : b < p) (hp1 : 1 < p) (hp : p < 2147483648) : zCt Γ mX5_inverse 1 28 0 0 [.int (nI b), .int (nI p)] S (pL (fun r S' => r = lN (b ^ (p - 2) % p) ∧ S' = S)) := by
  refine zCt.of [some (.int (nI b)), some (.int (nI p))] pn_X5_inverse rfl (Nat.le_of_ble_eq_true rfl) rfl (fun κ F => ?_)
  refine z_iload_n F dX5_inverse_0 rfl ?_
  refine z_i2l F dX5_inverse_1 ?_
  refine z_tl (nI_l (by omega)) ?_
  refine z_iload_n F dX5_inverse_2 rfl ?_
  refine z_iconst (v := nI 2) F dX5_inverse_3 (by decide) ?_
  refine z_isub F dX5_inverse_4 ?_
  refine z_ti (pk_sub (by omega)) ?_
  refine z_iload_n F dX5_inverse_5 rfl ?_
  refine z_cSl F (c_power hb hp1 hp (e := p - 2) (by omega)) dX5_inverse_6 ml_X5_23 ok_X5_power rfl rfl rfl (Nat.le_of_ble_eq_true rfl) (by decide) (by decide) (fun r S' hr => ?_)
  obtain ⟨rfl, rfl⟩ := hr
  exact z_lret F dX5_inverse_9 rfl ⟨rfl, rfl⟩
/-- Integer.numberOfTrailingZeros -/
theorem tz_and {t s m : Nat} (hm : t = 2 ^ (s + 1) * m + 2 ^ s) (ht : t < 2 ^ 32) : (2 ^ 32 - (t + 1)) &&& (t - 1) = 2 ^ s - 1 := by
  have hs : 0 < 2 ^ s := Nat.pow_pos (by decide)
  have e2 : t - 1 = 2 ^ (s + 1) * m + (2 ^ s - 1) := by omega
  have ps : 2 ^ (s + 1) = 2 * 2 ^ s := by rw [Nat.pow_succ]; omega
  apply Nat.eq_of_testBit_eq
  intro j
  rw [Nat.testBit_and, Nat.testBit_two_pow_sub_succ ht, Nat.testBit_two_pow_sub_one, e2, Nat.testBit_two_pow_mul_add m (by omega), hm, Nat.testBit_two_pow_mul_add m (by omega), Nat.testBit_two_pow, Nat.testBit_two_pow_sub_one]
  by_cases h1 : j < s
  · have h2 : j < 32 := by
      rcases Nat.lt_or_ge j 32 with z | z
      · exact z
      · have : 2 ^ 32 ≤ 2 ^ s := Nat.pow_le_pow_right (by decide) (by omega)
        have : 2 ^ s ≤ t := by rw [hm]; omega
        omega
    simp [h1, h2, show j < s + 1 by omega, show ¬ s = j by omega]
  · by_cases h3 : j = s
    · subst h3
      simp
    · simp [h1, show ¬ j < s + 1 by omega]
theorem tz_split {t : Nat} (h : 0 < t) : ∃ s m, t = 2 ^ (s + 1) * m + 2 ^ s := by
  induction t using Nat.strongRecOn with
  | _ t ih =>
    rcases Nat.mod_two_eq_zero_or_one t with h2 | h2
    · obtain ⟨s, m, e⟩ := ih (t / 2) (by omega) (by omega)
      refine ⟨s + 1, m, ?_⟩
      rw [show 2 ^ (s + 1 + 1) = 2 * 2 ^ (s + 1) by rw [Nat.pow_succ]; omega, show 2 ^ (s + 1) = 2 * 2 ^ s by rw [Nat.pow_succ]; omega] at *
      rw [Nat.mul_assoc, ← Nat.mul_add, ← e]
      omega
    · exact ⟨0, t / 2, by omega⟩
theorem tz_int {t s m : Nat} (hm : t = 2 ^ (s + 1) * m + 2 ^ s) (ht : t < 2147483648) : (nI t ^^^ (-1)) &&& (nI t - nI 1) = nI (2 ^ s - 1) := by
  have hs : 0 < 2 ^ s := Nat.pow_pos (by decide)
  have ht0 : 0 < t := by omega
  rw [pk_sub ht0]
  have h1 : nI t ^^^ (-1) = nI (2 ^ 32 - (t + 1)) := by
    apply Int32.toBitVec_inj.mp
    rw [Int32.toBitVec_xor]
    show BitVec.ofNat 32 t ^^^ (-1 : Int32).toBitVec = BitVec.ofNat 32 (2 ^ 32 - (t + 1))
    rw [show (-1 : Int32).toBitVec = BitVec.allOnes 32 by decide, BitVec.xor_allOnes]
    apply BitVec.eq_of_toNat_eq
    rw [BitVec.toNat_not, BitVec.toNat_ofNat, BitVec.toNat_ofNat]
    omega
  rw [h1]
  apply Int32.toBitVec_inj.mp
  rw [Int32.toBitVec_and]
  show BitVec.ofNat 32 _ &&& BitVec.ofNat 32 _ = BitVec.ofNat 32 _
  apply BitVec.eq_of_toNat_eq
  rw [BitVec.toNat_and, BitVec.toNat_ofNat, BitVec.toNat_ofNat, BitVec.toNat_ofNat, Nat.mod_eq_of_lt (show 2 ^ 32 - (t + 1) < 2 ^ 32 by omega), Nat.mod_eq_of_lt (show t - 1 < 2 ^ 32 by omega), tz_and hm (by omega), Nat.mod_eq_of_lt (by omega)]
