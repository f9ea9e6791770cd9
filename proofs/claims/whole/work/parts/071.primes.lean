/-! ===== Primes: passes, isPrime ===== -/
theorem tzF_of (m : Nat) : ∀ (f s : Nat), s ≤ f → tzF f (2 ^ (s + 1) * m + 2 ^ s) = s
  | 0, s, h => by
    have : s = 0 := by omega
    subst this
    rfl
  | f + 1, 0, h => by
    have : (2 ^ (0 + 1) * m + 2 ^ 0) % 2 ≠ 0 := by simp
    simp only [tzF]
    rw [if_neg this]
  | f + 1, s + 1, h => by
    have e : 2 ^ (s + 1 + 1) * m + 2 ^ (s + 1) = 2 * (2 ^ (s + 1) * m + 2 ^ s) := by
      rw [Nat.pow_succ 2 (s + 1), Nat.pow_succ 2 s, Nat.mul_add]
      rw [Nat.mul_comm (2 ^ s) 2, Nat.mul_comm (2 * 2 ^ s) 2, Nat.mul_assoc 2]
    have h1 : (2 ^ (s + 1 + 1) * m + 2 ^ (s + 1)) % 2 = 0 := by rw [e]; omega
    simp only [tzF]
    rw [if_pos h1, e, Nat.mul_div_cancel_left _ (by decide), tzF_of m f s (by omega)]
theorem tz_sh : ∀ a, a < 31 → (17 ≤ a → (2 ^ a - 1) / 2 ^ 16 = 2 ^ (a - 16) - 1) ∧ (9 ≤ a → (2 ^ a - 1) / 2 ^ 8 = 2 ^ (a - 8) - 1) ∧ (5 ≤ a → (2 ^ a - 1) / 2 ^ 4 = 2 ^ (a - 4) - 1) ∧ (3 ≤ a → (2 ^ a - 1) / 2 ^ 2 = 2 ^ (a - 2) - 1) ∧ (2 ^ a - 1 ≤ 65536 ↔ a ≤ 16) ∧ (2 ^ a - 1 ≤ 256 ↔ a ≤ 8) ∧ (2 ^ a - 1 ≤ 16 ↔ a ≤ 4) ∧ (2 ^ a - 1 ≤ 4 ↔ a ≤ 2) ∧ 2 ^ a - 1 < 2147483648 := by decide +kernel
set_option maxRecDepth 100000 in
theorem c_ntz {Γ : Gm} {S : Hs} {t : Nat} (h0 : 0 < t) (h2 : t % 2 = 0) (ht : t < 2147483648) : zCt Γ mJ6_numberOfTrailingZeros_0f7a4 0 0 0 0 [.int (nI t)] S (pI (fun r S' => r = nI (tzF 31 t) ∧ S' = S ∧ 1 ≤ tzF 31 t ∧ tzF 31 t ≤ 30)) := by
  refine zCt.of [some (.int (nI t)), none] pn_J6_numberOfTrailingZeros_0f7a4 rfl (Nat.le_of_ble_eq_true rfl) rfl (fun κ F => ?_)
  obtain ⟨s, m, hm⟩ := tz_split h0
  have hs30 : s ≤ 30 := by
    rcases Nat.lt_or_ge 30 s with h | h
    · have h1 : 2 ^ 31 ≤ 2 ^ s := Nat.pow_le_pow_right (by decide) h
      have h3 : 2 ^ s ≤ t := by rw [hm]; omega
      omega
    · exact h
  have hs1 : 1 ≤ s := by
    rcases Nat.eq_zero_or_pos s with h | h
    · subst h
      rw [hm] at h2
      simp at h2
    · exact h
  have hst : tzF 31 t = s := by rw [hm]; exact tzF_of m 31 s (by omega)
  rw [hst]
  generalize hQ : zQ Γ κ (pI (fun r S' => r = nI s ∧ S' = S ∧ 1 ≤ s ∧ s ≤ 30)) 0 0 = Q
  have sh : ∀ {v k : Nat} {y : Int32}, v < 4294967296 → ((y.toUInt32 &&& Int32.toUInt32 31).toBitVec % 32).toNat = k → ((nI v).toUInt32 >>> (y.toUInt32 &&& Int32.toUInt32 31)).toInt32 = nI (v / 2 ^ k) := fun {v k y} hv hk => pk_ushrN (by rw [show (2 : Nat) ^ 32 = 4294967296 by decide]; exact hv) y k hk
  have s1 : ∀ a c, 1 ≤ a → a ≤ 2 → c + a = s + 1 → zX Γ κ S 0 0 Q 74 [some (.int (nI (2 ^ a - 1))), some (.int (nI c))] [] := by
    intro a c h1 h9 hc
    have hv : (2 ^ a - 1) / 2 ^ 1 = a - 1 ∧ 2 ^ a - 1 < 4294967296 := by
      rcases (show a = 1 ∨ a = 2 by omega) with rfl | rfl <;> decide
    subst hQ
    refine z_iload_n F dJ6_numberOfTrailingZeros_0f7a4_74 rfl ?_
    refine z_iload_n F dJ6_numberOfTrailingZeros_0f7a4_75 rfl ?_
    refine z_iconst (v := nI 1) F dJ6_numberOfTrailingZeros_0f7a4_76 (by decide) ?_
    refine z_iushr F dJ6_numberOfTrailingZeros_0f7a4_77 ?_
    refine z_ti (sh (k := 1) hv.2 (by decide)) ?_
    refine z_iadd F dJ6_numberOfTrailingZeros_0f7a4_78 ?_
    refine z_ti (nI_add _ _) ?_
    exact z_iret F dJ6_numberOfTrailingZeros_0f7a4_79 rfl ⟨congrArg nI (by rw [hv.1]; omega), rfl, hs1, hs30⟩
  have s2 : ∀ a c, 1 ≤ a → a ≤ 4 → c + a = s + 1 → zX Γ κ S 0 0 Q 62 [some (.int (nI (2 ^ a - 1))), some (.int (nI c))] [] := by
    intro a c h1 h9 hc
    obtain ⟨q1, q2, q3, q4, q5, q6, q7, q8, q9⟩ := tz_sh a (by omega)
    refine z_iload_n F dJ6_numberOfTrailingZeros_0f7a4_62 rfl ?_
    refine z_iconst (v := nI 4) F dJ6_numberOfTrailingZeros_0f7a4_63 (by decide) ?_
    refine z_icmp_le (tgt := 74) F dJ6_numberOfTrailingZeros_0f7a4_64 (by decide) (fun c1 => ?_) (fun c1 => ?_)
    · exact s1 a c h1 (q8.mp ((nI_leI (b := 4) (by omega) (by omega)).mp c1)) hc
    · have h3 : ¬ a ≤ 2 := fun z => c1 ((nI_leI (b := 4) (by omega) (by omega)).mpr (q8.mpr z))
      refine z_iinc_1 F dJ6_numberOfTrailingZeros_0f7a4_67 rfl ?_
      refine z_iload_n F dJ6_numberOfTrailingZeros_0f7a4_70 rfl ?_
      refine z_iconst (v := nI 2) F dJ6_numberOfTrailingZeros_0f7a4_71 (by decide) ?_
      refine z_iushr F dJ6_numberOfTrailingZeros_0f7a4_72 ?_
      refine z_ti (sh (k := 2) (by omega) (by decide)) ?_
      refine z_istore_n_0 F dJ6_numberOfTrailingZeros_0f7a4_73 ?_
      rw [q4 (by omega), show nI c + Int32.ofInt 2 = nI (c + 2) from nI_add c 2]
      exact s1 (a - 2) (c + 2) (by omega) (by omega) (by omega)
  have s3 : ∀ a c, 1 ≤ a → a ≤ 8 → c + a = s + 1 → zX Γ κ S 0 0 Q 49 [some (.int (nI (2 ^ a - 1))), some (.int (nI c))] [] := by
    intro a c h1 h9 hc
    obtain ⟨q1, q2, q3, q4, q5, q6, q7, q8, q9⟩ := tz_sh a (by omega)
    refine z_iload_n F dJ6_numberOfTrailingZeros_0f7a4_49 rfl ?_
    refine z_bipush (v := nI 16) F dJ6_numberOfTrailingZeros_0f7a4_50 (by decide) ?_
    refine z_icmp_le (tgt := 62) F dJ6_numberOfTrailingZeros_0f7a4_52 (by decide) (fun c1 => ?_) (fun c1 => ?_)
    · exact s2 a c h1 (q7.mp ((nI_leI (b := 16) (by omega) (by omega)).mp c1)) hc
    · have h3 : ¬ a ≤ 4 := fun z => c1 ((nI_leI (b := 16) (by omega) (by omega)).mpr (q7.mpr z))
      refine z_iinc_1 F dJ6_numberOfTrailingZeros_0f7a4_55 rfl ?_
      refine z_iload_n F dJ6_numberOfTrailingZeros_0f7a4_58 rfl ?_
      refine z_iconst (v := nI 4) F dJ6_numberOfTrailingZeros_0f7a4_59 (by decide) ?_
      refine z_iushr F dJ6_numberOfTrailingZeros_0f7a4_60 ?_
      refine z_ti (sh (k := 4) (by omega) (by decide)) ?_
      refine z_istore_n_0 F dJ6_numberOfTrailingZeros_0f7a4_61 ?_
      rw [q3 (by omega), show nI c + Int32.ofInt 4 = nI (c + 4) from nI_add c 4]
      exact s2 (a - 4) (c + 4) (by omega) (by omega) (by omega)
  have s4 : ∀ a c, 1 ≤ a → a ≤ 16 → c + a = s + 1 → zX Γ κ S 0 0 Q 34 [some (.int (nI (2 ^ a - 1))), some (.int (nI c))] [] := by
    intro a c h1 h9 hc
    obtain ⟨q1, q2, q3, q4, q5, q6, q7, q8, q9⟩ := tz_sh a (by omega)
    refine z_iload_n F dJ6_numberOfTrailingZeros_0f7a4_34 rfl ?_
    refine z_sipush (v := nI 256) F dJ6_numberOfTrailingZeros_0f7a4_35 (by decide) ?_
    refine z_icmp_le (tgt := 49) F dJ6_numberOfTrailingZeros_0f7a4_38 (by decide) (fun c1 => ?_) (fun c1 => ?_)
    · exact s3 a c h1 (q6.mp ((nI_leI (b := 256) (by omega) (by omega)).mp c1)) hc
    · have h3 : ¬ a ≤ 8 := fun z => c1 ((nI_leI (b := 256) (by omega) (by omega)).mpr (q6.mpr z))
      refine z_iinc_1 F dJ6_numberOfTrailingZeros_0f7a4_41 rfl ?_
      refine z_iload_n F dJ6_numberOfTrailingZeros_0f7a4_44 rfl ?_
      refine z_bipush (v := nI 8) F dJ6_numberOfTrailingZeros_0f7a4_45 (by decide) ?_
      refine z_iushr F dJ6_numberOfTrailingZeros_0f7a4_47 ?_
      refine z_ti (sh (k := 8) (by omega) (by decide)) ?_
      refine z_istore_n_0 F dJ6_numberOfTrailingZeros_0f7a4_48 ?_
      rw [q2 (by omega), show nI c + Int32.ofInt 8 = nI (c + 8) from nI_add c 8]
      exact s3 (a - 8) (c + 8) (by omega) (by omega) (by omega)
  obtain ⟨q1, q2, q3, q4, q5, q6, q7, q8, q9⟩ := tz_sh s (by omega)
  refine z_iload_n F dJ6_numberOfTrailingZeros_0f7a4_0 rfl ?_
  refine z_iconst (v := (-1)) F dJ6_numberOfTrailingZeros_0f7a4_1 (by decide) ?_
  refine z_ixor F dJ6_numberOfTrailingZeros_0f7a4_2 ?_
  refine z_iload_n F dJ6_numberOfTrailingZeros_0f7a4_3 rfl ?_
  refine z_iconst (v := nI 1) F dJ6_numberOfTrailingZeros_0f7a4_4 (by decide) ?_
  refine z_isub F dJ6_numberOfTrailingZeros_0f7a4_5 ?_
  refine z_iand F dJ6_numberOfTrailingZeros_0f7a4_6 ?_
  refine z_ti (tz_int hm ht) ?_
  refine z_istore_n_0 F dJ6_numberOfTrailingZeros_0f7a4_7 ?_
  refine z_iload_n F dJ6_numberOfTrailingZeros_0f7a4_8 rfl ?_
  refine z_if_gt (tgt := 17) F dJ6_numberOfTrailingZeros_0f7a4_9 (by decide) (fun c => ?_) (fun c => ?_)
  · refine z_iconst (v := nI 1) F dJ6_numberOfTrailingZeros_0f7a4_17 (by decide) ?_
    refine z_istore_n_1 F dJ6_numberOfTrailingZeros_0f7a4_18 rfl ?_
    refine z_iload_n F dJ6_numberOfTrailingZeros_0f7a4_19 rfl ?_
    refine z_ldcw (v := 65536) F dJ6_numberOfTrailingZeros_0f7a4_20 cn_J6_264 ?_
    refine z_ti (show (65536 : Int32) = nI 65536 from rfl) ?_
    refine z_icmp_le (tgt := 34) F dJ6_numberOfTrailingZeros_0f7a4_23 (by decide) (fun c1 => ?_) (fun c1 => ?_)
    · exact s4 s 1 hs1 (q5.mp ((nI_leI (b := 65536) (by omega) (by omega)).mp c1)) (by omega)
    · have h3 : ¬ s ≤ 16 := fun z => c1 ((nI_leI (b := 65536) (by omega) (by omega)).mpr (q5.mpr z))
      refine z_iinc_1 F dJ6_numberOfTrailingZeros_0f7a4_26 rfl ?_
      refine z_iload_n F dJ6_numberOfTrailingZeros_0f7a4_29 rfl ?_
      refine z_bipush (v := nI 16) F dJ6_numberOfTrailingZeros_0f7a4_30 (by decide) ?_
      refine z_iushr F dJ6_numberOfTrailingZeros_0f7a4_32 ?_
      refine z_ti (sh (k := 16) (by omega) (by decide)) ?_
      refine z_istore_n_0 F dJ6_numberOfTrailingZeros_0f7a4_33 ?_
      rw [q1 (by omega), show nI 1 + Int32.ofInt 16 = nI (1 + 16) from nI_add 1 16]
      exact s4 (s - 16) 17 (by omega) (by omega) (by omega)
  · refine absurd ((nI_gt0 (by omega)).mpr ⟨?_, q9⟩) c
    have : 2 ^ 1 ≤ 2 ^ s := Nat.pow_le_pow_right (by decide) hs1
    omega
theorem shrk : ∀ k, k < 31 → ((nI k &&& 31).toBitVec.smod 32).toNat = k := by decide +kernel
set_option maxRecDepth 100000 in
theorem c_passes {Γ : Gm} {S : Hs} {p a : Nat} (ha : a < p) (ho : p % 2 = 1) (hp1 : 1 < p) (hp : p < 2147483648) : zCt Γ mX5_passes 1 28 0 0 [.int (nI p), .int (nI a)] S (pZ (fun r S' => r = mrB p a ∧ S' = S)) := by
  refine zCt.of [some (.int (nI p)), some (.int (nI a)), none, none, none, none] pn_X5_passes rfl (Nat.le_of_ble_eq_true rfl) rfl (fun κ F => ?_)
  generalize hQ : zQ Γ κ (pZ (fun r S' => r = mrB p a ∧ S' = S)) 0 0 = Q
  have hp64 : (nI p).toInt64 = lN p := nI_l (by omega)
  have hp0 : 0 < p := by omega
  have hpne : ¬ lN p = 0 := fun z => absurd ((pk_lEQ (a := p) (b := 0) (by omega) (by decide)).mp z) (by omega)
  have hm1 : nI p - nI 1 = nI (p - 1) := pk_sub (by omega)
  have hm64 : (nI (p - 1)).toInt64 = lN (p - 1) := nI_l (by omega)
  refine z_iload_n F dX5_passes_0 rfl ?_
  refine z_iconst (v := nI 1) F dX5_passes_1 (by decide) ?_
  refine z_isub F dX5_passes_2 ?_
  refine z_ti hm1 ?_
  refine z_cSi F (c_ntz (t := p - 1) (by omega) (by omega) (by omega)) dX5_passes_3 ml_X5_17 ok_J6_numberOfTrailingZeros_0f7a4 rfl rfl rfl (Nat.le_of_ble_eq_true rfl) (by decide) (by decide) (fun r S' hr => ?_)
  obtain ⟨rfl, rfl, hs1, hs30⟩ := hr
  generalize hs : tzF 31 (p - 1) = s at hs1 hs30 ⊢
  have hsh : nI (p - 1) >>> (nI s &&& 31) = nI ((p - 1) / 2 ^ s) := pk_shrN (by omega) _ s (shrk s (by omega))
  have hd : (p - 1) / 2 ^ s < 2147483648 := Nat.lt_of_le_of_lt (Nat.div_le_self _ _) (by omega)
  obtain ⟨x0, hx0⟩ : ∃ x0, x0 = a ^ ((p - 1) / 2 ^ s) % p := ⟨_, rfl⟩
  have hx0p : x0 < p := hx0 ▸ Nat.mod_lt _ hp0
  have hB : mrB p a = if x0 = 1 ∨ x0 = p - 1 then true else mrL p (s - 1) x0 := by unfold mrB; rw [hs, ← hx0]
  refine z_istore_n_2 F dX5_passes_6 rfl ?_
  refine z_iload_n F dX5_passes_7 rfl ?_
  refine z_i2l F dX5_passes_8 ?_
  refine z_tl (nI_l (by omega)) ?_
  refine z_iload_n F dX5_passes_9 rfl ?_
  refine z_iconst (v := nI 1) F dX5_passes_10 (by decide) ?_
  refine z_isub F dX5_passes_11 ?_
  refine z_ti hm1 ?_
  refine z_iload_n F dX5_passes_12 rfl ?_
  refine z_ishr F dX5_passes_13 ?_
  refine z_ti hsh ?_
  refine z_iload_n F dX5_passes_14 rfl ?_
  refine z_cSl F (c_power ha hp1 hp hd) dX5_passes_15 ml_X5_23 ok_X5_power rfl rfl rfl (Nat.le_of_ble_eq_true rfl) (by decide) (by decide) (fun r S' hr => ?_)
  obtain ⟨rfl, rfl⟩ := hr
  rw [← hx0]
  have yes : mrB p a = true → ∀ lv, lv.length = 6 → zX Γ κ S' 0 0 Q 34 lv [] := by
    intro h lv _
    subst hQ
    refine z_iconst (v := nI 1) F dX5_passes_34 (by decide) ?_
    exact z_zret F true dX5_passes_35 rfl rfl ⟨h.symm, rfl⟩
  have loop : ∀ (d i x : Nat), i + d = s → 1 ≤ i → x < p → mrL p d x = mrB p a → zX Γ κ S' 0 0 Q 39 [some (.int (nI p)), some (.int (nI a)), some (.int (nI s)), some (.long (lN x)), none, some (.int (nI i))] [] := by
    intro d
    induction d with
    | zero =>
      intro i x hi hi1 hx hsp
      refine z_iload F dX5_passes_39 rfl ?_
      refine z_iload_n F dX5_passes_41 rfl ?_
      refine z_icmp_ge (tgt := 69) F dX5_passes_42 (by decide) (fun c => ?_) (fun c => ?_)
      · subst hQ
        refine z_iconst (v := nI 0) F dX5_passes_69 (by decide) ?_
        exact z_zret F false dX5_passes_70 rfl rfl ⟨hsp, rfl⟩
      · exact absurd (nI_le (by omega) (by omega)) c
    | succ d ih =>
      intro i x hi hi1 hx hsp
      simp only [mrL] at hsp
      have hxx := mulmod_lt hx hx hp
      have hyp := Nat.mod_lt (x * x) hp0
      refine z_iload F dX5_passes_39 rfl ?_
      refine z_iload_n F dX5_passes_41 rfl ?_
      refine z_icmp_ge (tgt := 69) F dX5_passes_42 (by decide) (fun c => ?_) (fun c => ?_)
      · exact absurd ((nI_leI (by omega) (by omega)).mp c) (by omega)
      · refine z_lload_n F dX5_passes_45 rfl ?_
        refine z_lload_n F dX5_passes_46 rfl ?_
        refine z_lmul F dX5_passes_47 ?_
        refine z_tl (lN_mul x x) ?_
        refine z_iload_n F dX5_passes_48 rfl ?_
        refine z_i2l F dX5_passes_49 ?_
        refine z_tl hp64 ?_
        refine z_lrem F dX5_passes_50 hpne ?_
        refine z_tl (pk_lRem hxx hp0 (by omega)) ?_
        refine z_lstore_n_3 F dX5_passes_51 rfl ?_
        refine z_lload_n F dX5_passes_52 rfl ?_
        refine z_iload_n F dX5_passes_53 rfl ?_
        refine z_iconst (v := nI 1) F dX5_passes_54 (by decide) ?_
        refine z_isub F dX5_passes_55 ?_
        refine z_ti hm1 ?_
        refine z_i2l F dX5_passes_56 ?_
        refine z_tl hm64 ?_
        refine z_lcmp F dX5_passes_57 ?_
        refine z_if_ne (tgt := 63) F dX5_passes_58 (by decide) (fun c2 => ?_) (fun c2 => ?_)
        · have h := mt (cmpN (x := x * x % p) (y := p - 1) (by omega) (by omega)).mpr c2
          rw [if_neg h] at hsp
          refine z_iinc_5 F dX5_passes_63 rfl ?_
          refine z_goto (tgt := 39) F dX5_passes_66 (by decide) ?_
          rw [show nI i + Int32.ofInt 1 = nI (i + 1) from nI_1 i]
          exact ih (i + 1) _ (by omega) (by omega) hyp hsp
        · have h := (cmpN (x := x * x % p) (y := p - 1) (by omega) (by omega)).mp c2
          rw [if_pos h] at hsp
          subst hQ
          refine z_iconst (v := nI 1) F dX5_passes_61 (by decide) ?_
          exact z_zret F true dX5_passes_62 rfl rfl ⟨hsp, rfl⟩
  refine z_lstore_n_3 F dX5_passes_18 rfl ?_
  refine z_lload_n F dX5_passes_19 rfl ?_
  refine z_lconst (v := lN 1) F dX5_passes_20 (by decide) ?_
  refine z_lcmp F dX5_passes_21 ?_
  refine z_if_eq (tgt := 34) F dX5_passes_22 (by decide) (fun c => ?_) (fun c => ?_)
  · have h := (cmpN (x := x0) (y := 1) (by omega) (by omega)).mp c
    exact yes (by rw [hB, if_pos (Or.inl h)]) _ rfl
  · have h := mt (cmpN (x := x0) (y := 1) (by omega) (by omega)).mpr c
    refine z_lload_n F dX5_passes_25 rfl ?_
    refine z_iload_n F dX5_passes_26 rfl ?_
    refine z_iconst (v := nI 1) F dX5_passes_27 (by decide) ?_
    refine z_isub F dX5_passes_28 ?_
    refine z_ti hm1 ?_
    refine z_i2l F dX5_passes_29 ?_
    refine z_tl hm64 ?_
    refine z_lcmp F dX5_passes_30 ?_
    refine z_if_ne (tgt := 36) F dX5_passes_31 (by decide) (fun c2 => ?_) (fun c2 => ?_)
    · have h2 := mt (cmpN (x := x0) (y := p - 1) (by omega) (by omega)).mpr c2
      rw [if_neg (by rintro (z | z); exact h z; exact h2 z)] at hB
      refine z_iconst (v := nI 1) F dX5_passes_36 (by decide) ?_
      refine z_istore_5 F dX5_passes_37 rfl ?_
      exact loop (s - 1) 1 x0 (by omega) (Nat.le_refl _) hx0p hB.symm
    · have h2 := (cmpN (x := x0) (y := p - 1) (by omega) (by omega)).mp c2
      exact yes (by rw [hB, if_pos (Or.inr h2)]) _ rfl
