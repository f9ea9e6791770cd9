/-! ===== Whole: the methods that only read ===== -/
set_option maxRecDepth 100000 in
theorem c_isZero {Γ : Gm} {Z : Hz} {V : Hv} {o g x : Nat} (ho : wh Z o g) (hv : vv V o g x) : zCt Γ mX8_isZero 0 0 0 0 [.ref o] (Z, V) (pZ (q0 Z V (decide (x = 0)))) := by
  refine zCt.of [some (.ref o)] pn_X8_isZero rfl (Nat.le_of_ble_eq_true rfl) rfl (fun κ F => ?_)
  obtain ⟨ho7, hog, hg, hn⟩ := ho
  refine z_aload_n F dX8_isZero_0 rfl ?_
  refine z_getI F dX8_isZero_1 gi_X8_19 (by assumption) ?_
  refine z_ti hv.2 ?_
  have hl := hv.len
  refine z_if_ne (tgt := 11) F dX8_isZero_4 (by decide) (fun c => ?_) (fun c => ?_)
  · refine z_iconst (v := nI 0) F dX8_isZero_11 (by decide) ?_
    have hx : ¬ x = 0 := fun z => c (by subst z; rfl)
    exact z_zret F false dX8_isZero_12 rfl rfl ⟨by simp [hx], rfl⟩
  · refine z_iconst (v := nI 1) F dX8_isZero_7 (by decide) ?_
    refine z_goto (tgt := 12) F dX8_isZero_8 (by decide) ?_
    have hx : x = 0 := nl_0.mp ((nI_eq (by omega) (by omega)).mp c)
    exact z_zret F true dX8_isZero_12 rfl rfl ⟨by simp [hx], rfl⟩
set_option maxRecDepth 100000 in
theorem c_isOne {Γ : Gm} {Z : Hz} {V : Hv} {o g x : Nat} (ho : wh Z o g) (hv : vv V o g x) : zCt Γ mX8_isOne 0 0 0 0 [.ref o] (Z, V) (pZ (q0 Z V (decide (x = 1)))) := by
  refine zCt.of [some (.ref o)] pn_X8_isOne rfl (Nat.le_of_ble_eq_true rfl) rfl (fun κ F => ?_)
  obtain ⟨ho7, hog, hg, hn⟩ := id ho
  have hl := hv.len
  have e0 : vA V g 0 = nI (x % 4294967296) := by rw [hv.limb (by decide)]; try simp
  refine z_aload_n F dX8_isOne_0 rfl ?_
  refine z_getI F dX8_isOne_1 gi_X8_19 (by assumption) ?_
  refine z_ti hv.2 ?_
  refine z_iconst (v := nI 1) F dX8_isOne_4 (by decide) ?_
  refine z_icmp_ne (tgt := 22) F dX8_isOne_5 (by decide) (fun c => ?_) (fun c => ?_)
  · have hx : ¬ x = 1 := fun z => c (by subst z; rfl)
    refine z_iconst (v := nI 0) F dX8_isOne_22 (by decide) ?_
    exact z_zret F false dX8_isOne_23 rfl rfl ⟨by simp [hx], rfl⟩
  · have h1 : nl x = 1 := (nI_eq (by omega) (by omega)).mp c
    have h2 : x < 4294967296 := by have := lt_pow_nl x; rw [h1] at this; omega
    refine z_aload_n F dX8_isOne_8 rfl ?_
    refine z_getR F dX8_isOne_9 gr_X8_9 (by assumption) (by assumption) ?_
    refine z_iconst (v := nI 0) F dX8_isOne_12 (by decide) ?_
    refine z_iald F dX8_isOne_13 (by assumption) (in16 ho (by decide)) ?_
    refine z_ti e0 ?_
    refine z_iconst (v := nI 1) F dX8_isOne_14 (by decide) ?_
    refine z_icmp_ne (tgt := 22) F dX8_isOne_15 (by decide) (fun c2 => ?_) (fun c2 => ?_)
    · have hx : ¬ x = 1 := fun z => c2 (by subst z; rfl)
      refine z_iconst (v := nI 0) F dX8_isOne_22 (by decide) ?_
      exact z_zret F false dX8_isOne_23 rfl rfl ⟨by simp [hx], rfl⟩
    · have hx : x = 1 := by
        have := (nI_inj32 (by omega) (by omega)).mp c2
        omega
      refine z_iconst (v := nI 1) F dX8_isOne_18 (by decide) ?_
      refine z_goto (tgt := 23) F dX8_isOne_19 (by decide) ?_
      exact z_zret F true dX8_isOne_23 rfl rfl ⟨by simp [hx], rfl⟩
set_option maxRecDepth 100000 in
theorem c_isWide {Γ : Gm} {Z : Hz} {V : Hv} {o g x : Nat} (ho : wh Z o g) (hv : vv V o g x) : zCt Γ mX8_isWide 0 0 0 0 [.ref o] (Z, V) (pZ (q0 Z V (decide (x < 4294967296 ^ 6)))) := by
  refine zCt.of [some (.ref o)] pn_X8_isWide rfl (Nat.le_of_ble_eq_true rfl) rfl (fun κ F => ?_)
  obtain ⟨ho7, hog, hg, hn⟩ := id ho
  have hl := hv.len
  refine z_aload_n F dX8_isWide_0 rfl ?_
  refine z_getI F dX8_isWide_1 gi_X8_19 (by assumption) ?_
  refine z_ti hv.2 ?_
  refine z_bipush (v := nI 6) F dX8_isWide_4 (by decide) ?_
  refine z_icmp_gt (tgt := 13) F dX8_isWide_6 (by decide) (fun c => ?_) (fun c => ?_)
  · have hx : ¬ x < 4294967296 ^ 6 := fun z => by
      have := nl_le.mpr z
      have := (nI_ltI (by omega) (by omega)).mp c
      omega
    refine z_iconst (v := nI 0) F dX8_isWide_13 (by decide) ?_
    exact z_zret F false dX8_isWide_14 rfl rfl ⟨(decide_eq_false hx).symm, rfl⟩
  · have hx : x < 4294967296 ^ 6 := nl_le.mp (by
      have := mt (nI_ltI (a := 6) (b := nl x) (by omega) (by omega)).mpr c
      omega)
    refine z_iconst (v := nI 1) F dX8_isWide_9 (by decide) ?_
    refine z_goto (tgt := 14) F dX8_isWide_10 (by decide) ?_
    exact z_zret F true dX8_isWide_14 rfl rfl ⟨(decide_eq_true hx).symm, rfl⟩
set_option maxRecDepth 100000 in
theorem c_fitsLong {Γ : Gm} {Z : Hz} {V : Hv} {o g x : Nat} (ho : wh Z o g) (hv : vv V o g x) : zCt Γ mX8_fitsLong 0 0 0 0 [.ref o] (Z, V) (pZ (q0 Z V (decide (x < 9223372036854775808)))) := by
  refine zCt.of [some (.ref o)] pn_X8_fitsLong rfl (Nat.le_of_ble_eq_true rfl) rfl (fun κ F => ?_)
  obtain ⟨ho7, hog, hg, hn⟩ := id ho
  have hl := hv.len
  have e1 : vA V g 1 = nI (x / 4294967296 % 4294967296) := by rw [hv.limb (by decide)]; try simp
  refine z_aload_n F dX8_fitsLong_0 rfl ?_
  refine z_getI F dX8_fitsLong_1 gi_X8_19 (by assumption) ?_
  refine z_ti hv.2 ?_
  refine z_iconst (v := nI 2) F dX8_fitsLong_4 (by decide) ?_
  refine z_icmp_lt (tgt := 25) F dX8_fitsLong_5 (by decide) (fun c => ?_) (fun c => ?_)
  · have hx : x < 9223372036854775808 := by
      have h1 := (nI_ltI (by omega) (by omega)).mp c
      have := nl_le.mp (show nl x ≤ 1 by omega)
      omega
    refine z_iconst (v := nI 1) F dX8_fitsLong_25 (by decide) ?_
    refine z_goto (tgt := 30) F dX8_fitsLong_26 (by decide) ?_
    exact z_zret F true dX8_fitsLong_30 rfl rfl ⟨(decide_eq_true hx).symm, rfl⟩
  · have h1 := mt (nI_ltI (a := nl x) (b := 2) (by omega) (by omega)).mpr c
    refine z_aload_n F dX8_fitsLong_8 rfl ?_
    refine z_getI F dX8_fitsLong_9 gi_X8_19 (by assumption) ?_
    refine z_ti hv.2 ?_
    refine z_iconst (v := nI 2) F dX8_fitsLong_12 (by decide) ?_
    refine z_icmp_ne (tgt := 29) F dX8_fitsLong_13 (by decide) (fun c2 => ?_) (fun c2 => ?_)
    · have h2 := mt (nI_eq (a := nl x) (b := 2) (by omega) (by omega)).mpr c2
      have hx : ¬ x < 9223372036854775808 := fun z => by
        have := nl_le.mpr (show x < 4294967296 ^ 2 by omega)
        omega
      refine z_iconst (v := nI 0) F dX8_fitsLong_29 (by decide) ?_
      exact z_zret F false dX8_fitsLong_30 rfl rfl ⟨(decide_eq_false hx).symm, rfl⟩
    · have h2 := (nI_eq (by omega) (by omega)).mp c2
      have h3 : x < 18446744073709551616 := by have := lt_pow_nl x; rw [h2] at this; omega
      refine z_aload_n F dX8_fitsLong_16 rfl ?_
      refine z_getR F dX8_fitsLong_17 gr_X8_9 (by assumption) (by assumption) ?_
      refine z_iconst (v := nI 1) F dX8_fitsLong_20 (by decide) ?_
      refine z_iald F dX8_fitsLong_21 (by assumption) (in16 ho (by decide)) ?_
      refine z_ti e1 ?_
      refine z_if_lt (tgt := 29) F dX8_fitsLong_22 (by decide) (fun c3 => ?_) (fun c3 => ?_)
      · have hx : ¬ x < 9223372036854775808 := fun z => nI_pos (n := x / 4294967296 % 4294967296) (by omega) c3
        refine z_iconst (v := nI 0) F dX8_fitsLong_29 (by decide) ?_
        exact z_zret F false dX8_fitsLong_30 rfl rfl ⟨(decide_eq_false hx).symm, rfl⟩
      · have hx : x < 9223372036854775808 := by
          apply Decidable.byContradiction
          intro z
          apply c3
          rw [Int32.lt_iff_toInt_lt]
          have e : (nI (x / 4294967296 % 4294967296)).toInt = (x / 4294967296 % 4294967296 : Nat) - 4294967296 := by
            show (BitVec.ofNat 32 _).toInt = _
            rw [BitVec.toInt_eq_toNat_cond, BitVec.toNat_ofNat]
            split <;> omega
          rw [e]
          show _ < (0 : Int)
          omega
        refine z_iconst (v := nI 1) F dX8_fitsLong_25 (by decide) ?_
        refine z_goto (tgt := 30) F dX8_fitsLong_26 (by decide) ?_
        exact z_zret F true dX8_fitsLong_30 rfl rfl ⟨(decide_eq_true hx).symm, rfl⟩
set_option maxRecDepth 100000 in
theorem c_toLong {Γ : Gm} {Z : Hz} {V : Hv} {o g x : Nat} (ho : wh Z o g) (hv : vv V o g x) : zCt Γ mX8_toLong 0 0 0 0 [.ref o] (Z, V) (pL (q0 Z V (lN (x % 18446744073709551616)))) := by
  refine zCt.of [some (.ref o)] pn_X8_toLong rfl (Nat.le_of_ble_eq_true rfl) rfl (fun κ F => ?_)
  obtain ⟨ho7, hog, hg, hn⟩ := id ho
  have hl := hv.len
  have e1 : vA V g 1 = nI (x / 4294967296 % 4294967296) := by rw [hv.limb (by decide)]; try simp
  have e0 : vA V g 0 = nI (x % 4294967296) := by rw [hv.limb (by decide)]; try simp
  have k0 : (nI (x % 4294967296)).toInt64 &&& 4294967295 = lN (x % 4294967296) := by rw [low32, uu_nI, Nat.mod_mod]
  have k1 : (nI (x / 4294967296 % 4294967296)).toInt64 &&& 4294967295 = lN (x / 4294967296 % 4294967296) := by rw [low32, uu_nI, Nat.mod_mod]
  refine z_aload_n F dX8_toLong_0 rfl ?_
  refine z_getR F dX8_toLong_1 gr_X8_9 (by assumption) (by assumption) ?_
  refine z_iconst (v := nI 1) F dX8_toLong_4 (by decide) ?_
  refine z_iald F dX8_toLong_5 (by assumption) (in16 ho (by decide)) ?_
  refine z_ti e1 ?_
  refine z_i2l F dX8_toLong_6 ?_
  refine z_ldc2 (v := 4294967295) F dX8_toLong_7 cn_X8_23 ?_
  refine z_land F dX8_toLong_10 ?_
  refine z_tl k1 ?_
  refine z_bipush (v := nI 32) F dX8_toLong_11 (by decide) ?_
  refine z_lshl F dX8_toLong_13 ?_
  refine z_tl (lN_shl32 _) ?_
  refine z_aload_n F dX8_toLong_14 rfl ?_
  refine z_getR F dX8_toLong_15 gr_X8_9 (by assumption) (by assumption) ?_
  refine z_iconst (v := nI 0) F dX8_toLong_18 (by decide) ?_
  refine z_iald F dX8_toLong_19 (by assumption) (in16 ho (by decide)) ?_
  refine z_ti e0 ?_
  refine z_i2l F dX8_toLong_20 ?_
  refine z_ldc2 (v := 4294967295) F dX8_toLong_21 cn_X8_23 ?_
  refine z_land F dX8_toLong_24 ?_
  refine z_tl k0 ?_
  refine z_lor F dX8_toLong_25 ?_
  have e : lN (x / 4294967296 % 4294967296 * 4294967296) ||| lN (x % 4294967296) = lN (x % 18446744073709551616) := by
    rw [g_or (k := 32) (p := 4294967296) (by decide) (by omega) (by omega)]
    congr 1
    omega
  refine z_tl e ?_
  exact z_lret F dX8_toLong_26 rfl ⟨rfl, rfl⟩
