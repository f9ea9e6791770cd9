/-! ===== Integer.numberOfLeadingZeros; Whole: bits, takeTimes, giveBack ===== -/
set_option maxRecDepth 100000 in
theorem c_nlz {Γ : Gm} {S : Hs} {t : Nat} (h0 : 0 < t) (ht : t < 4294967296) : zCt Γ mJ6_numberOfLeadingZeros_0f7a4 0 0 0 0 [.int (nI t)] S (pI (fun r S' => S' = S ∧ ∃ s, s ≤ 31 ∧ r = nI s ∧ 2 ^ (31 - s) ≤ t ∧ t < 2 ^ (32 - s))) := by
  refine zCt.of [some (.int (nI t)), none] pn_J6_numberOfLeadingZeros_0f7a4 rfl (Nat.le_of_ble_eq_true rfl) rfl (fun κ F => ?_)
  generalize hQ : zQ Γ κ (pI (fun r S' => S' = S ∧ ∃ s, s ≤ 31 ∧ r = nI s ∧ 2 ^ (31 - s) ≤ t ∧ t < 2 ^ (32 - s))) 0 0 = Q
  -- with v = t / 2^m, n = 31 - m
  have sh : ∀ {v k : Nat} {y : Int32}, v < 4294967296 → ((y.toUInt32 &&& Int32.toUInt32 31).toBitVec % 32).toNat = k → ((nI v).toUInt32 >>> (y.toUInt32 &&& Int32.toUInt32 31)).toInt32 = nI (v / 2 ^ k) := fun {v k y} hv hk => pk_ushrN (by rw [show (2 : Nat) ^ 32 = 4294967296 by decide]; exact hv) y k hk
  have dd : ∀ m k, t / 2 ^ m / 2 ^ k = t / 2 ^ (m + k) := fun m k => by rw [Nat.div_div_eq_div_mul, Nat.pow_add]
  have lo : ∀ {m c : Nat}, c ≤ t / 2 ^ m → c * 2 ^ m ≤ t := fun {m c} h => (Nat.le_div_iff_mul_le (Nat.pow_pos (by decide))).mp h
  have hi : ∀ {m c : Nat}, t / 2 ^ m < c → t < c * 2 ^ m := fun {m c} h => (Nat.div_lt_iff_lt_mul (Nat.pow_pos (by decide))).mp h
  have s1 : ∀ m, m ≤ 30 → 0 < t / 2 ^ m → t / 2 ^ m < 4 → zX Γ κ S 0 0 Q 73 [some (.int (nI (t / 2 ^ m))), some (.int (nI (31 - m)))] [] := by
    intro m hm h1 h2
    subst hQ
    by_cases hv : t / 2 ^ m = 1
    · have e1 : nI (31 - m) - nI (t / 2 ^ m / 2 ^ 1) = nI (31 - m) := by
        rw [hv]
        exact pk_sub (Nat.zero_le _)
      refine z_iload_n F dJ6_numberOfLeadingZeros_0f7a4_73 rfl ?_
      refine z_iload_n F dJ6_numberOfLeadingZeros_0f7a4_74 rfl ?_
      refine z_iconst (v := nI 1) F dJ6_numberOfLeadingZeros_0f7a4_75 (by decide) ?_
      refine z_iushr F dJ6_numberOfLeadingZeros_0f7a4_76 ?_
      refine z_ti (sh (k := 1) (by omega) (by decide)) ?_
      refine z_isub F dJ6_numberOfLeadingZeros_0f7a4_77 ?_
      refine z_ti e1 ?_
      exact z_iret F dJ6_numberOfLeadingZeros_0f7a4_78 rfl ⟨rfl, 31 - m, by omega, rfl, by
        rw [show 31 - (31 - m) = m by omega]
        have := lo (show 1 ≤ t / 2 ^ m by omega)
        omega, by
        rw [show 32 - (31 - m) = m + 1 by omega, Nat.pow_succ]
        have := hi (show t / 2 ^ m < 2 by omega)
        omega⟩
    · have e1 : nI (31 - m) - nI (t / 2 ^ m / 2 ^ 1) = nI (30 - m) := by
        rw [show t / 2 ^ m / 2 ^ 1 = 1 by omega, pk_sub (by omega)]
        congr 1
        omega
      refine z_iload_n F dJ6_numberOfLeadingZeros_0f7a4_73 rfl ?_
      refine z_iload_n F dJ6_numberOfLeadingZeros_0f7a4_74 rfl ?_
      refine z_iconst (v := nI 1) F dJ6_numberOfLeadingZeros_0f7a4_75 (by decide) ?_
      refine z_iushr F dJ6_numberOfLeadingZeros_0f7a4_76 ?_
      refine z_ti (sh (k := 1) (by omega) (by decide)) ?_
      refine z_isub F dJ6_numberOfLeadingZeros_0f7a4_77 ?_
      refine z_ti e1 ?_
      exact z_iret F dJ6_numberOfLeadingZeros_0f7a4_78 rfl ⟨rfl, 30 - m, by omega, rfl, by
        rw [show 31 - (30 - m) = m + 1 by omega, Nat.pow_succ]
        have := lo (show 2 ≤ t / 2 ^ m by omega)
        omega, by
        rw [show 32 - (30 - m) = m + 1 + 1 by omega, Nat.pow_succ, Nat.pow_succ]
        have := hi (show t / 2 ^ m < 4 by omega)
        omega⟩
  have s2 : ∀ m, m ≤ 28 → 0 < t / 2 ^ m → t / 2 ^ m < 16 → zX Γ κ S 0 0 Q 61 [some (.int (nI (t / 2 ^ m))), some (.int (nI (31 - m)))] [] := by
    intro m hm h1 h2
    refine z_iload_n F dJ6_numberOfLeadingZeros_0f7a4_61 rfl ?_
    refine z_iconst (v := nI 4) F dJ6_numberOfLeadingZeros_0f7a4_62 (by decide) ?_
    refine z_icmp_lt (tgt := 73) F dJ6_numberOfLeadingZeros_0f7a4_63 (by decide) (fun c => ?_) (fun c => ?_)
    · exact s1 m (by omega) h1 ((nI_ltI (b := 4) (by omega) (by omega)).mp c)
    · have c' := mt (nI_ltI (a := t / 2 ^ m) (b := 4) (by omega) (by omega)).mpr c
      refine z_iinc_1 F dJ6_numberOfLeadingZeros_0f7a4_66 rfl ?_
      refine z_iload_n F dJ6_numberOfLeadingZeros_0f7a4_69 rfl ?_
      refine z_iconst (v := nI 2) F dJ6_numberOfLeadingZeros_0f7a4_70 (by decide) ?_
      refine z_iushr F dJ6_numberOfLeadingZeros_0f7a4_71 ?_
      refine z_ti (sh (k := 2) (by omega) (by decide)) ?_
      refine z_istore_n_0 F dJ6_numberOfLeadingZeros_0f7a4_72 ?_
      rw [show nI (31 - m) + Int32.ofInt (-2) = nI (31 - (m + 2)) from (nI_subI (a := 31 - m) (b := 2) (by omega)).trans (congrArg nI (by omega)), dd]
      have := dd m 2
      exact s1 (m + 2) (by omega) (by omega) (by omega)
  have s3 : ∀ m, m ≤ 24 → 0 < t / 2 ^ m → t / 2 ^ m < 256 → zX Γ κ S 0 0 Q 48 [some (.int (nI (t / 2 ^ m))), some (.int (nI (31 - m)))] [] := by
    intro m hm h1 h2
    refine z_iload_n F dJ6_numberOfLeadingZeros_0f7a4_48 rfl ?_
    refine z_bipush (v := nI 16) F dJ6_numberOfLeadingZeros_0f7a4_49 (by decide) ?_
    refine z_icmp_lt (tgt := 61) F dJ6_numberOfLeadingZeros_0f7a4_51 (by decide) (fun c => ?_) (fun c => ?_)
    · exact s2 m (by omega) h1 ((nI_ltI (b := 16) (by omega) (by omega)).mp c)
    · have c' := mt (nI_ltI (a := t / 2 ^ m) (b := 16) (by omega) (by omega)).mpr c
      refine z_iinc_1 F dJ6_numberOfLeadingZeros_0f7a4_54 rfl ?_
      refine z_iload_n F dJ6_numberOfLeadingZeros_0f7a4_57 rfl ?_
      refine z_iconst (v := nI 4) F dJ6_numberOfLeadingZeros_0f7a4_58 (by decide) ?_
      refine z_iushr F dJ6_numberOfLeadingZeros_0f7a4_59 ?_
      refine z_ti (sh (k := 4) (by omega) (by decide)) ?_
      refine z_istore_n_0 F dJ6_numberOfLeadingZeros_0f7a4_60 ?_
      rw [show nI (31 - m) + Int32.ofInt (-4) = nI (31 - (m + 4)) from (nI_subI (a := 31 - m) (b := 4) (by omega)).trans (congrArg nI (by omega)), dd]
      have := dd m 4
      exact s2 (m + 4) (by omega) (by omega) (by omega)
  have s4 : ∀ m, m ≤ 16 → 0 < t / 2 ^ m → t / 2 ^ m < 65536 → zX Γ κ S 0 0 Q 33 [some (.int (nI (t / 2 ^ m))), some (.int (nI (31 - m)))] [] := by
    intro m hm h1 h2
    refine z_iload_n F dJ6_numberOfLeadingZeros_0f7a4_33 rfl ?_
    refine z_sipush (v := nI 256) F dJ6_numberOfLeadingZeros_0f7a4_34 (by decide) ?_
    refine z_icmp_lt (tgt := 48) F dJ6_numberOfLeadingZeros_0f7a4_37 (by decide) (fun c => ?_) (fun c => ?_)
    · exact s3 m (by omega) h1 ((nI_ltI (b := 256) (by omega) (by omega)).mp c)
    · have c' := mt (nI_ltI (a := t / 2 ^ m) (b := 256) (by omega) (by omega)).mpr c
      refine z_iinc_1 F dJ6_numberOfLeadingZeros_0f7a4_40 rfl ?_
      refine z_iload_n F dJ6_numberOfLeadingZeros_0f7a4_43 rfl ?_
      refine z_bipush (v := nI 8) F dJ6_numberOfLeadingZeros_0f7a4_44 (by decide) ?_
      refine z_iushr F dJ6_numberOfLeadingZeros_0f7a4_46 ?_
      refine z_ti (sh (k := 8) (by omega) (by decide)) ?_
      refine z_istore_n_0 F dJ6_numberOfLeadingZeros_0f7a4_47 ?_
      rw [show nI (31 - m) + Int32.ofInt (-8) = nI (31 - (m + 8)) from (nI_subI (a := 31 - m) (b := 8) (by omega)).trans (congrArg nI (by omega)), dd]
      have := dd m 8
      exact s3 (m + 8) (by omega) (by omega) (by omega)
  refine z_iload_n F dJ6_numberOfLeadingZeros_0f7a4_0 rfl ?_
  refine z_if_gt (tgt := 15) F dJ6_numberOfLeadingZeros_0f7a4_1 (by decide) (fun c => ?_) (fun c => ?_)
  · have h31 := ((nI_gt0 ht).mp c).2
    refine z_bipush (v := nI 31) F dJ6_numberOfLeadingZeros_0f7a4_15 (by decide) ?_
    refine z_istore_n_1 F dJ6_numberOfLeadingZeros_0f7a4_17 rfl ?_
    refine z_iload_n F dJ6_numberOfLeadingZeros_0f7a4_18 rfl ?_
    refine z_ldcw (v := 65536) F dJ6_numberOfLeadingZeros_0f7a4_19 cn_J6_264 ?_
    refine z_ti (show (65536 : Int32) = nI 65536 from rfl) ?_
    have e0 : t / 2 ^ 0 = t := by simp
    refine z_icmp_lt (tgt := 33) F dJ6_numberOfLeadingZeros_0f7a4_22 (by decide) (fun c2 => ?_) (fun c2 => ?_)
    · have c' := (nI_ltI (b := 65536) (by omega) (by omega)).mp c2
      have := s4 0 (by decide) (by omega) (by omega)
      rw [e0] at this
      exact this
    · have c' := mt (nI_ltI (a := t) (b := 65536) (by omega) (by omega)).mpr c2
      refine z_iinc_1 F dJ6_numberOfLeadingZeros_0f7a4_25 rfl ?_
      refine z_iload_n F dJ6_numberOfLeadingZeros_0f7a4_28 rfl ?_
      refine z_bipush (v := nI 16) F dJ6_numberOfLeadingZeros_0f7a4_29 (by decide) ?_
      refine z_iushr F dJ6_numberOfLeadingZeros_0f7a4_31 ?_
      refine z_ti (sh (k := 16) (by omega) (by decide)) ?_
      refine z_istore_n_0 F dJ6_numberOfLeadingZeros_0f7a4_32 ?_
      rw [show nI 31 + Int32.ofInt (-16) = nI (31 - 16) from rfl]
      exact s4 16 (by decide) (by omega) (by omega)
  · have h31 : ¬ t < 2147483648 := fun z => c ((nI_gt0 ht).mpr ⟨h0, z⟩)
    refine z_iload_n F dJ6_numberOfLeadingZeros_0f7a4_4 rfl ?_
    refine z_if_ne (tgt := 13) F dJ6_numberOfLeadingZeros_0f7a4_5 (by decide) (fun c2 => ?_) (fun c2 => ?_)
    · subst hQ
      refine z_iconst (v := nI 0) F dJ6_numberOfLeadingZeros_0f7a4_13 (by decide) ?_
      exact z_iret F dJ6_numberOfLeadingZeros_0f7a4_14 rfl ⟨rfl, 0, by decide, rfl, by omega, by omega⟩
    · exact absurd ((nI_ne0' ht).mp c2) (by omega)
set_option maxRecDepth 100000 in
/-- bits() -/
theorem c_bits {Γ : Gm} {Z : Hz} {V : Hv} {o g x : Nat} (ho : wh Z o g) (hv : vv V o g x) : zCt Γ mX8_bits 1 21 0 0 [.ref o] (Z, V) (pI (q0 Z V (nI (bl x)))) := by
  refine zCt.of [some (.ref o)] pn_X8_bits rfl (Nat.le_of_ble_eq_true rfl) rfl (fun κ F => ?_)
  obtain ⟨ho7, hog, hg, hn16⟩ := id ho
  have hl := hv.len
  refine z_aload_n F dX8_bits_0 rfl ?_
  refine z_getI F dX8_bits_1 gi_X8_19 (by assumption) ?_
  refine z_ti hv.2 ?_
  refine z_if_ne (tgt := 11) F dX8_bits_4 (by decide) (fun c => ?_) (fun c => ?_)
  · have hx : ¬ x = 0 := fun z => c (by subst z; rfl)
    have hn0 : 0 < nl x := by
      rcases Nat.eq_zero_or_pos (nl x) with h | h
      · exact absurd (nl_0.mp h) hx
      · exact h
    obtain ⟨m, hm⟩ : ∃ m, nl x = m + 1 := ⟨nl x - 1, by omega⟩
    have hlt : x < 4294967296 ^ (m + 1) := by rw [← hm]; exact lt_pow_nl x
    have hge : 4294967296 ^ m ≤ x := lt_nl.mp (by omega)
    have r1 : vA V g (nI m).toNatClampNeg = nI (x / 4294967296 ^ m) := by rw [cl16 (by omega), hv.limb (by omega), dig_lt hlt]
    have t1 : x / 4294967296 ^ m < 4294967296 := by rw [← dig_lt hlt]; exact Nat.mod_lt _ (by decide)
    have t0 : 0 < x / 4294967296 ^ m := Nat.div_pos hge (BBpos m)
    refine z_bipush (v := nI 32) F dX8_bits_11 (by decide) ?_
    refine z_aload_n F dX8_bits_13 rfl ?_
    refine z_getI F dX8_bits_14 gi_X8_19 (by assumption) ?_
    refine z_ti hv.2 ?_
    refine z_imul F dX8_bits_17 ?_
    refine z_ti (pk_mul 32 (nl x)) ?_
    refine z_aload_n F dX8_bits_18 rfl ?_
    refine z_getR F dX8_bits_19 gr_X8_9 (by assumption) (by assumption) ?_
    refine z_aload_n F dX8_bits_22 rfl ?_
    refine z_getI F dX8_bits_23 gi_X8_19 (by assumption) ?_
    refine z_ti hv.2 ?_
    refine z_iconst (v := nI 1) F dX8_bits_26 (by decide) ?_
    refine z_isub F dX8_bits_27 ?_
    refine z_ti (show nI (nl x) - nI 1 = nI m by rw [hm]; exact nI_km1 m) ?_
    refine z_iald F dX8_bits_28 (by assumption) (in16 ho (by omega)) ?_
    refine z_ti r1 ?_
    refine z_cSi F (c_nlz t0 t1) dX8_bits_29 ml_X8_25 ok_J6_numberOfLeadingZeros_0f7a4 rfl rfl rfl (Nat.le_of_ble_eq_true rfl) (by decide) (by decide) (fun r S' h => ?_)
    obtain ⟨rfl, s, hs, rfl, h1, h2⟩ := h
    have e1 : nI (32 * nl x) - nI s = nI (bl x) := by
      rw [pk_sub (by omega)]
      congr 1
      symm
      have p1 : 2 ^ (31 - s) * 4294967296 ^ m ≤ x := (Nat.le_div_iff_mul_le (BBpos m)).mp h1
      have p2 : x < 2 ^ (32 - s) * 4294967296 ^ m := (Nat.div_lt_iff_lt_mul (BBpos m)).mp h2
      rw [BB2, ← Nat.pow_add] at p1 p2
      apply bl_eq
      · rw [show 32 * nl x - s = 32 - s + 32 * m by omega]; exact p2
      · rw [show 32 * nl x - s - 1 = 31 - s + 32 * m by omega]; exact p1
      · omega
    refine z_isub F dX8_bits_32 ?_
    refine z_ti e1 ?_
    exact z_iret F dX8_bits_33 rfl ⟨rfl, rfl⟩
  · have hx : x = 0 := nl_0.mp ((nI_eq (by omega) (by omega)).mp c)
    subst hx
    refine z_iconst (v := nI 0) F dX8_bits_7 (by decide) ?_
    refine z_goto (tgt := 33) F dX8_bits_8 (by decide) ?_
    exact z_iret F dX8_bits_33 rfl ⟨rfl, rfl⟩
