/-! ===== Arithmetic: divide ===== -/
/-- the numbers of a long division: shifted so that the divisor's highest bit is set -/
theorem norm_ok {y t s m : Nat} (hy : y < 4294967296 ^ (m + 1)) (ht : t = y / 4294967296 ^ m) (hs : s ≤ 31) (h1 : 2 ^ (31 - s) ≤ t) (h2 : t < 2 ^ (32 - s)) : y * 2 ^ s < 4294967296 ^ (m + 1) ∧ 2147483648 * 4294967296 ^ m ≤ y * 2 ^ s := by
  have hP := BBpos m
  have a1 : y < 2 ^ (32 - s) * 4294967296 ^ m := (Nat.div_lt_iff_lt_mul hP).mp (by rw [← ht]; exact h2)
  have a2 : 2 ^ (31 - s) * 4294967296 ^ m ≤ y := (Nat.le_div_iff_mul_le hP).mp (by rw [← ht]; exact h1)
  have e1 : 2 ^ (32 - s) * 2 ^ s = 4294967296 := by rw [← Nat.pow_add, show 32 - s + s = 32 by omega]
  have e2 : 2 ^ (31 - s) * 2 ^ s = 2147483648 := by rw [← Nat.pow_add, show 31 - s + s = 31 by omega]
  have hp : 0 < 2 ^ s := Nat.pow_pos (by decide)
  constructor
  · have := Nat.mul_lt_mul_of_pos_right a1 hp
    rw [Nat.mul_right_comm, e1] at this
    rw [Nat.pow_succ]
    omega
  · have := Nat.mul_le_mul_right (2 ^ s) a2
    rw [Nat.mul_right_comm, e2] at this
    exact this
set_option maxRecDepth 100000 in
set_option maxHeartbeats 2000000 in
theorem c_divide {Γ : Gm} {Z : Hz} {V : Hv} {val w : Nat → Nat} {A o1 o2 o3 : Nat} (hJ : wInj Z) (hA : aR Z A w) (hC : CV Z V val) (h1 : iW Z o1) (h2 : iW Z o2) (h3 : iW Z o3) (n12 : o1 ≠ o2) (n13 : o1 ≠ o3) (n23 : o2 ≠ o3) (s1 : o1 ≠ w 0) (s2 : o2 ≠ w 0) (s3 : o3 ≠ w 0) (hx : val o1 < 4294967296 ^ 14) : zCt Γ mX0_divide 2 59 0 0 [.ref A, .ref o1, .ref o2, .ref o3] (Z, V) (pV (dP Z V val (w 0) o1 o2 o3)) := by
  refine zCt.of [some (.ref A), some (.ref o1), some (.ref o2), some (.ref o3), none, none, none, none, none, none, none] pn_X0_divide rfl (Nat.le_of_ble_eq_true rfl) rfl (fun κ F => ?_)
  obtain ⟨hA0, hAf, hAi⟩ := id hA
  obtain ⟨hsd, hiw⟩ := hAf 0 (by decide)
  obtain ⟨g1, hw1⟩ := id h1
  obtain ⟨g2, hw2⟩ := id h2
  obtain ⟨g3, hw3⟩ := id h3
  obtain ⟨gs, hws⟩ := id hiw
  generalize hsdn : w 0 = sd at *
  have k1 : zIn Z o1 7 := hw1.1
  have k2 : zIn Z o2 7 := hw2.1
  have k3 : zIn Z o3 7 := hw3.1
  have ks : zIn Z sd 7 := hws.1
  have g13 : g1 ≠ g3 := wh.ne hJ hw3 hw1 n13
  have gs1 : gs ≠ g1 := wh.ne hJ hw1 hws (Ne.symm s1)
  have gs3 : gs ≠ g3 := wh.ne hJ hw3 hws (Ne.symm s3)
  generalize hQ : zQ Γ κ (pV (dP Z V val sd o1 o2 o3)) 0 0 = Q
  -- to.setBits(0)
  refine z_aload_n F dX0_divide_0 rfl ?_
  refine z_lconst (v := lN 0) F dX0_divide_1 (by decide) ?_
  refine z_cVv F (C_setBits hC hJ h3 (show 0 < 18446744073709551616 by decide)) dX0_divide_2 ml_X0_49 ok_X8_setBits k3 (by decide) rfl rfl rfl (Nat.le_of_ble_eq_true rfl) (by decide) (by decide) (fun S' hS' => ?_)
  obtain ⟨Va, rfl, hCa, hNa⟩ := hS'
  have va1 : va_up val o3 0 o1 = val o1 := up_ne _ _ n13
  have va2 : va_up val o3 0 o2 = val o2 := up_ne _ _ n23
  have small : val o1 < val o2 ∨ val o2 = 0 → dP Z V val sd o1 o2 o3 (Z, Va) := by
    intro h
    refine ⟨Va, _, rfl, hCa, hNa, ?_, ?_, ?_⟩
    · rw [va1]
      rcases h with h | h
      · rw [Nat.mod_eq_of_lt h]
      · rw [h, Nat.mod_zero]
    · rw [up_self]
      rcases h with h | h
      · rw [Nat.div_eq_of_lt h]
      · rw [h, Nat.div_zero]
    · exact (eV.refl _ _).up (Or.inr (Or.inr rfl))
  refine z_aload_n F dX0_divide_5 rfl ?_
  refine z_cVz F (C_isZero hCa h2) dX0_divide_6 ml_X0_53 ok_X8_isZero k2 (by decide) rfl rfl rfl (Nat.le_of_ble_eq_true rfl) (by decide) (by decide) (fun b S' hb => ?_)
  obtain ⟨hb, rfl⟩ := hb
  rw [va2] at hb
  subst hb
  refine z_if_ne (tgt := 20) F dX0_divide_9 (by decide) (fun c0 => ?_) (fun c0 => ?_)
  · have hy0 : val o2 = 0 := by
      apply Decidable.byContradiction
      intro z
      exact c0 (by simp [z])
    subst hQ
    exact z_vret F dX0_divide_20 rfl (small (Or.inr hy0))
  have hy0 : 0 < val o2 := by
    apply Decidable.byContradiction
    intro z
    have : val o2 = 0 := by omega
    rw [this] at c0
    exact absurd c0 (by decide)
  refine z_aload_n F dX0_divide_12 rfl ?_
  refine z_aload_n F dX0_divide_13 rfl ?_
  refine z_cVi F (C_against hCa h1 h2) dX0_divide_14 ml_X0_57 ok_X8_against k1 (by decide) rfl rfl rfl (Nat.le_of_ble_eq_true rfl) (by decide) (by decide) (fun b S' hb => ?_)
  obtain ⟨rfl, rfl⟩ := hb
  rw [va1, va2]
  refine z_if_ge (tgt := 21) F dX0_divide_17 (by decide) (fun c1 => ?_) (fun c1 => ?_)
  rotate_left
  · have c1' := mt (cmpI_ge _ _).mpr c1
    subst hQ
    exact z_vret F dX0_divide_20 rfl (small (Or.inl (by omega)))
  have hyx := (cmpI_ge _ _).mp c1
  refine z_aload_n F dX0_divide_21 rfl ?_
  refine z_cVz F (C_fitsLong hCa h1) dX0_divide_22 ml_X0_61 ok_X8_fitsLong k1 (by decide) rfl rfl rfl (Nat.le_of_ble_eq_true rfl) (by decide) (by decide) (fun b S' hb => ?_)
  obtain ⟨hb, rfl⟩ := hb
  rw [va1] at hb
  subst hb
  refine z_if_eq (tgt := 59) F dX0_divide_25 (by decide) (fun c2 => ?_) (fun c2 => ?_)
  rotate_left
  · -- both fit longs
    have hxl : val o1 < 9223372036854775808 := by
      apply Decidable.byContradiction
      intro z
      exact c2 (by simp [z])
    have hyl : val o2 < 9223372036854775808 := by omega
    have yne : ¬ lN (val o2) = 0 := fun z => by
      have := (pk_lEQ (a := val o2) (b := 0) (by omega) (by decide)).mp z
      omega
    refine z_aload_n F dX0_divide_28 rfl ?_
    refine z_cVl F (C_toLong hCa h1) dX0_divide_29 ml_X0_64 ok_X8_toLong k1 (by decide) rfl rfl rfl (Nat.le_of_ble_eq_true rfl) (by decide) (by decide) (fun b S' hb => ?_)
    obtain ⟨rfl, rfl⟩ := hb
    rw [va1, Nat.mod_eq_of_lt (show val o1 < 18446744073709551616 by omega)]
    refine z_lstore_4 F dX0_divide_32 rfl ?_
    refine z_aload_n F dX0_divide_34 rfl ?_
    refine z_cVl F (C_toLong hCa h2) dX0_divide_35 ml_X0_64 ok_X8_toLong k2 (by decide) rfl rfl rfl (Nat.le_of_ble_eq_true rfl) (by decide) (by decide) (fun b S' hb => ?_)
    obtain ⟨rfl, rfl⟩ := hb
    rw [va2, Nat.mod_eq_of_lt (show val o2 < 18446744073709551616 by omega)]
    have hdl : val o1 / val o2 ≤ val o1 := Nat.div_le_self _ _
    have hml : val o1 % val o2 < val o2 := Nat.mod_lt _ hy0
    refine z_lstore_6 F dX0_divide_38 rfl ?_
    refine z_aload_n F dX0_divide_40 rfl ?_
    refine z_lload F dX0_divide_41 rfl ?_
    refine z_lload F dX0_divide_43 rfl ?_
    refine z_ldiv F dX0_divide_45 yne ?_
    refine z_tl (pk_lDiv (by omega) hy0 (by omega)) ?_
    refine z_cVv F (C_setBits hCa hJ h3 (show val o1 / val o2 < 18446744073709551616 by omega)) dX0_divide_46 ml_X0_49 ok_X8_setBits k3 (by decide) rfl rfl rfl (Nat.le_of_ble_eq_true rfl) (by decide) (by decide) (fun S' hS' => ?_)
    obtain ⟨Vb, rfl, hCb, hNb⟩ := hS'
    refine z_aload_n F dX0_divide_49 rfl ?_
    refine z_lload F dX0_divide_50 rfl ?_
    refine z_lload F dX0_divide_52 rfl ?_
    refine z_lrem F dX0_divide_54 yne ?_
    refine z_tl (pk_lRem (by omega) hy0 (by omega)) ?_
    refine z_cVv F (C_setBits hCb hJ h1 (show val o1 % val o2 < 18446744073709551616 by omega)) dX0_divide_55 ml_X0_49 ok_X8_setBits k1 (by decide) rfl rfl rfl (Nat.le_of_ble_eq_true rfl) (by decide) (by decide) (fun S' hS' => ?_)
    obtain ⟨Vc, rfl, hCc, hNc⟩ := hS'
    subst hQ
    exact z_vret F dX0_divide_58 rfl ⟨Vc, _, rfl, hCc, (hNa.trans hNb).trans hNc, up_self _ _ _, by rw [up_ne _ _ (Ne.symm n13), up_self], (((eV.refl _ _).up (Or.inr (Or.inr rfl))).up (Or.inr (Or.inr rfl))).up (Or.inr (Or.inl rfl))⟩
  -- long division
  have hv2 := hCa o2 g2 hw2
  rw [va2] at hv2
  have hn0 : 0 < nl (val o2) := by
    rcases Nat.eq_zero_or_pos (nl (val o2)) with h | h
    · have := nl_0.mp h; omega
    · exact h
  obtain ⟨m, hm⟩ : ∃ m, nl (val o2) = m + 1 := ⟨nl (val o2) - 1, by omega⟩
  have hy1 : val o2 < 4294967296 ^ (m + 1) := by rw [← hm]; exact lt_pow_nl _
  have hy2 : 4294967296 ^ m ≤ val o2 := lt_nl.mp (by omega)
  have hm14 : m + 1 ≤ 14 := by rw [← hm]; exact nl_le.mpr (by omega)
  have r2 : vA Va g2 (nI m).toNatClampNeg = nI (val o2 / 4294967296 ^ m) := by rw [cl16 (by omega), hv2.limb (by omega), dig_lt hy1]
  have t1 : val o2 / 4294967296 ^ m < 4294967296 := by rw [← dig_lt hy1]; exact Nat.mod_lt _ (by decide)
  have t0 : 0 < val o2 / 4294967296 ^ m := Nat.div_pos hy2 (BBpos m)
  have q2 : zR Z 7 0 o2 = some g2 := hw2.2.1
  have q2' : zIn Z g2 11 := hw2.2.2.1
  have q3 : zR Z 7 0 o3 = some g3 := hw3.2.1
  have q3' : zIn Z g3 11 := hw3.2.2.1
  refine z_aload_n F dX0_divide_59 rfl ?_
  refine z_getR F dX0_divide_60 gr_X0_68 (by assumption) (by assumption) ?_
  refine z_aload_n F dX0_divide_63 rfl ?_
  refine z_getI F dX0_divide_64 gi_X0_72 (by assumption) ?_
  refine z_ti (hv2.2.trans (congrArg nI hm)) ?_
  refine z_iconst (v := nI 1) F dX0_divide_67 (by decide) ?_
  refine z_isub F dX0_divide_68 ?_
  refine z_ti (nI_km1 m) ?_
  refine z_iald F dX0_divide_69 (by assumption) (in16 hw2 (by omega)) ?_
  refine z_ti r2 ?_
  refine z_cSi F (c_nlz t0 t1) dX0_divide_70 ml_X0_76 ok_J6_numberOfLeadingZeros_0f7a4 rfl rfl rfl (Nat.le_of_ble_eq_true rfl) (by decide) (by decide) (fun r S' hr => ?_)
  obtain ⟨rfl, s, hs31, rfl, hb1, hb2⟩ := hr
  obtain ⟨hD1, hD2⟩ := norm_ok hy1 rfl hs31 hb1 hb2
  have hp0 : 0 < 2 ^ s := Nat.pow_pos (by decide)
  have hp1 : 2 ^ s ≤ 2147483648 := by
    have := Nat.pow_le_pow_right (n := 2) (by decide) hs31
    omega
  refine z_istore_4 F dX0_divide_73 rfl ?_
  refine z_aload_n F dX0_divide_75 rfl ?_
  refine z_getR F dX0_divide_76 gr_X0_10 (by assumption) (by assumption) ?_
  refine z_aload_n F dX0_divide_79 rfl ?_
  refine z_cVv F (C_copy hCa hJ hiw h2) dX0_divide_80 ml_X0_82 ok_X8_copy ks (by decide) rfl rfl rfl (Nat.le_of_ble_eq_true rfl) (by decide) (by decide) (fun S' hS' => ?_)
  obtain ⟨Vb, rfl, hCb, hNb⟩ := hS'
  rw [va2] at hCb
  refine z_aload_n F dX0_divide_83 rfl ?_
  refine z_getR F dX0_divide_84 gr_X0_10 (by assumption) (by assumption) ?_
  refine z_iload F dX0_divide_87 rfl ?_
  refine z_cVv F (C_shiftLeft (s := s) hCb hJ hiw (by omega) (by rw [up_self]; exact Nat.lt_of_lt_of_le hD1 (Nat.pow_le_pow_right (by decide) (by omega)))) dX0_divide_89 ml_X0_86 ok_X8_shiftLeft ks (by decide) rfl rfl rfl (Nat.le_of_ble_eq_true rfl) (by decide) (by decide) (fun S' hS' => ?_)
  obtain ⟨Vc, rfl, hCc, hNc⟩ := hS'
  rw [up_self] at hCc
  obtain ⟨valc, hvalc⟩ : ∃ vc, vc = va_up (va_up (va_up val o3 0) sd (val o2)) sd (val o2 * 2 ^ s) := ⟨_, rfl⟩
  rw [← hvalc] at hCc
  have vc1 : valc o1 = val o1 := by rw [hvalc, up_ne _ _ s1, up_ne _ _ s1, va1]
  have vc2 : valc o2 = val o2 := by rw [hvalc, up_ne _ _ s2, up_ne _ _ s2, va2]
  have vcs : valc sd = val o2 * 2 ^ s := by rw [hvalc, up_self]
  have vc3 : valc o3 = 0 := by rw [hvalc, up_ne _ _ s3, up_ne _ _ s3, up_self]
  have hxs : val o1 * 2 ^ s < 4294967296 ^ 15 := by
    have a := Nat.mul_lt_mul_of_pos_right hx hp0
    have b := Nat.mul_le_mul_left (4294967296 ^ 14) hp1
    rw [Nat.pow_succ]
    omega
  refine z_aload_n F dX0_divide_92 rfl ?_
  refine z_iload F dX0_divide_93 rfl ?_
  refine z_cVv F (C_shiftLeft (s := s) hCc hJ h1 (by omega) (by rw [vc1]; exact Nat.lt_of_lt_of_le hxs (Nat.pow_le_pow_right (by decide) (by decide)))) dX0_divide_95 ml_X0_86 ok_X8_shiftLeft k1 (by decide) rfl rfl rfl (Nat.le_of_ble_eq_true rfl) (by decide) (by decide) (fun S' hS' => ?_)
  obtain ⟨Vd, rfl, hCd, hNd⟩ := hS'
  rw [vc1] at hCd
  obtain ⟨D, hD⟩ : ∃ D, D = val o2 * 2 ^ s := ⟨_, rfl⟩
  obtain ⟨U, hU⟩ : ∃ U, U = val o1 * 2 ^ s := ⟨_, rfl⟩
  rw [← hD] at hD1 hD2 vcs
  rw [← hU] at hxs hCd
  have hvd1 : vv Vd o1 g1 U := by have := hCd o1 g1 hw1; rwa [up_self] at this
  have hvd2 : vv Vd o2 g2 (val o2) := by have := hCd o2 g2 hw2; rwa [up_ne _ _ (Ne.symm n12), vc2] at this
  have hvds : vv Vd sd gs D := by have := hCd sd gs hws; rwa [up_ne _ _ (Ne.symm s1), vcs] at this
  have hvd3 : vv Vd o3 g3 0 := by have := hCd o3 g3 hw3; rwa [up_ne _ _ (Ne.symm n13), vc3] at this
  have hnD : nl D = m + 1 := nl_eq hD1 (Or.inr (by simp only [Nat.add_sub_cancel]; have := BBpos m; omega))
  have hUD : D ≤ U := by rw [hD, hU]; exact Nat.mul_le_mul_right _ hyx
  have hnU : m + 1 ≤ nl U := by
    rw [← hnD]
    exact nl_le.mpr (Nat.lt_of_le_of_lt hUD (lt_pow_nl U))
  have hnU15 : nl U ≤ 15 := nl_le.mpr hxs
  have hD0 : 0 < D := by have := BBpos m; omega
  obtain ⟨top, htop⟩ : ∃ top, nl U = top + (m + 1) := ⟨nl U - (m + 1), by omega⟩
  have hNad : eN Z V Vd := ((hNa.trans hNb).trans hNc).trans hNd
  -- the cells of the loop
  have hAs : ∀ f fq, vA (sA (sA Vd g1 f) g3 fq) gs = vA Vd gs := fun f fq => by rw [vA_sA_ne _ _ gs3, vA_sA_ne _ _ gs1]
  have hA1 : ∀ f fq, vA (sA (sA Vd g1 f) g3 fq) g1 = f := fun f fq => by rw [vA_sA_ne _ _ g13, vA_sA_self]
  have hA3 : ∀ f fq, vA (sA (sA Vd g1 f) g3 fq) g3 = fq := fun f fq => vA_sA_self _ _ _
  have hvs : ∀ f fq, vv (sA (sA Vd g1 f) g3 fq) sd gs D := fun f fq => ⟨by rw [hAs]; exact hvds.1, hvds.2⟩
  have loop : ∀ (k : Nat) (f fq : Nat → Int32) (l7 l9 l10 : Option Value), k ≤ top + 1 → U = vl fq 16 * D + vl f 16 → vl f 16 < D * 4294967296 ^ k → (∀ i, i < k → fq i = 0) → (∀ i, top + 1 ≤ i → i < 16 → fq i = 0) → zc1 l9 = true → zX Γ κ (Z, sA (sA Vd g1 f) g3 fq) 0 0 Q 118 [some (.ref A), some (.ref o1), some (.ref o2), some (.ref o3), some (.int (nI s)), some (.int (nI top)), some (.int (nI k - nI 1)), l7, none, l9, l10] [] := by
    intro k
    induction k with
    | zero =>
      intro f fq l7 l9 l10 hk hS hlt hz1 hz2 _
      rw [Nat.pow_zero, Nat.mul_one] at hlt
      have hQq : vl fq 16 = U / D := by
        symm
        apply Nat.div_eq_of_lt_le
        · omega
        · rw [Nat.add_mul]; omega
      have hRr : vl f 16 = U % D := by
        have := Nat.div_add_mod U D
        rw [← hQq, Nat.mul_comm] at this
        omega
      have eQ : U / D = val o1 / val o2 := by rw [hU, hD]; exact Nat.mul_div_mul_right _ _ hp0
      have eR : U % D / 2 ^ s = val o1 % val o2 := by rw [hU, hD, Nat.mul_mod_mul_right, Nat.mul_div_cancel _ hp0]
      refine z_iload F dX0_divide_118 rfl ?_
      refine z_if_lt (tgt := 200) F dX0_divide_120 (by decide) (fun c => ?_) (fun c => ?_)
      · obtain ⟨Ve, hVe⟩ : ∃ Ve, Ve = sI (sA (sA Vd g1 f) g3 fq) 7 1 o3 (nI (top + 1)) := ⟨_, rfl⟩
        have hVe3 : vl (vA Ve g3) 16 = val o1 / val o2 := by
          rw [hVe]
          show vl (vA (sA (sA Vd g1 f) g3 fq) g3) 16 = _
          rw [hA3, hQq, eQ]
        have hVeI : vI Ve 7 1 o3 = nI (top + 1) := by rw [hVe, vI_sI_self]
        have hQlt : val o1 / val o2 < 4294967296 ^ (top + 1) := by
          rw [← eQ, ← hQq, vl_top (m := top + 1) (by omega) hz2]
          exact vl_lt _ _
        refine z_aload_n F dX0_divide_200 rfl ?_
        refine z_iload F dX0_divide_201 rfl ?_
        refine z_iconst (v := nI 1) F dX0_divide_203 (by decide) ?_
        refine z_iadd F dX0_divide_204 ?_
        refine z_ti (nI_add top 1) ?_
        refine z_putI F dX0_divide_205 pi_X0_72 (zf_7_1 _) (by assumption) ?_
        refine z_aload_n F dX0_divide_208 rfl ?_
        refine z_V hVe.symm ?_
        refine z_cVv F (c_trim (L := top + 1) hw3 hVe3 hVeI (by omega) hQlt) dX0_divide_209 ml_X0_108 ok_X8_trim k3 (by decide) rfl rfl rfl (Nat.le_of_ble_eq_true rfl) (by decide) (by decide) (fun S' hS' => ?_)
        subst hS'
        obtain ⟨Vf, hVf⟩ : ∃ Vf, Vf = sI Ve 7 1 o3 (nI (nl (val o1 / val o2))) := ⟨_, rfl⟩
        have hVf1 : vl (vA Vf g1) 16 = U % D := by
          rw [hVf, hVe]
          show vl (vA (sA (sA Vd g1 f) g3 fq) g1) 16 = _
          rw [hA1, hRr]
        have hVfI : vI Vf 7 1 o1 = nI (nl U) := by
          rw [hVf, vI_sI_ne _ _ (fun z => n13 z.2.2), hVe, vI_sI_ne _ _ (fun z => n13 z.2.2)]
          exact hvd1.2
        have hRlt : U % D < 4294967296 ^ nl U := Nat.lt_of_le_of_lt (Nat.mod_le _ _) (lt_pow_nl U)
        refine z_V hVf.symm ?_
        refine z_aload_n F dX0_divide_212 rfl ?_
        refine z_iload F dX0_divide_213 rfl ?_
        refine z_cVv F (c_shiftRight (s := s) (L := nl U) hw1 hVf1 hVfI (by omega) hRlt (by omega)) dX0_divide_215 ml_X0_111 ok_X8_shiftRight k1 (by decide) rfl rfl rfl (Nat.le_of_ble_eq_true rfl) (by decide) (by decide) (fun S' hS' => ?_)
        obtain ⟨f2, rfl, hf2⟩ := hS'
        rw [eR] at hf2
        have hVg1 : vl (vA (sA Vf g1 f2) g1) 16 = val o1 % val o2 := by rw [vA_sA_self]; exact hf2
        have hRlt2 : val o1 % val o2 < 4294967296 ^ nl U := by
          rw [← eR]; exact Nat.lt_of_le_of_lt (Nat.div_le_self _ _) hRlt
        refine z_aload_n F dX0_divide_218 rfl ?_
        refine z_cVv F (c_trim (L := nl U) hw1 hVg1 hVfI (by omega) hRlt2) dX0_divide_219 ml_X0_108 ok_X8_trim k1 (by decide) rfl rfl rfl (Nat.le_of_ble_eq_true rfl) (by decide) (by decide) (fun S' hS' => ?_)
        subst hS'
        obtain ⟨Vg, hVg⟩ : ∃ Vg, Vg = sI (sA Vf g1 f2) 7 1 o1 (nI (nl (val o1 % val o2))) := ⟨_, rfl⟩
        refine z_V hVg.symm ?_
        have fin : CV Z Vg (va_up (va_up valc o1 (val o1 % val o2)) o3 (val o1 / val o2)) ∧ eN Z Vd Vg := by
          refine CV.of hCd (fun q => q = o1 ∨ q = o3) (fun ci kk a hn => ?_) (fun a hn => ?_) ?_ hJ (fun o g hX ho => ?_) (fun o hX => ?_)
          · rw [hVg, vI_sI_ne _ _ (fun z => hn ⟨z.1, z.2.1, Or.inl z.2.2⟩)]
            show vI Vf ci kk a = _
            rw [hVf, vI_sI_ne _ _ (fun z => hn ⟨z.1, z.2.1, Or.inr z.2.2⟩), hVe, vI_sI_ne _ _ (fun z => hn ⟨z.1, z.2.1, Or.inr z.2.2⟩)]
            rfl
          · have a1 : a ≠ g1 := fun z => hn o1 (Or.inl rfl) (z ▸ hw1)
            have a3 : a ≠ g3 := fun z => hn o3 (Or.inr rfl) (z ▸ hw3)
            rw [hVg]
            show vA (sA Vf g1 f2) a = _
            rw [vA_sA_ne _ _ a1, hVf, hVe]
            show vA (sA (sA Vd g1 f) g3 fq) a = _
            rw [vA_sA_ne _ _ a3, vA_sA_ne _ _ a1]
          · rw [hVg, hVf, hVe]; rfl
          · rcases hX with rfl | rfl
            · rw [up_ne _ _ n13, up_self, ho.fn hw1, hVg]
              exact ⟨hVg1, vI_sI_self _ _ _ _ _⟩
            · rw [up_self, ho.fn hw3, hVg]
              refine ⟨?_, ?_⟩
              · show vl (vA (sA Vf g1 f2) g3) 16 = _
                rw [vA_sA_ne _ _ (Ne.symm g13), hVf]
                exact hVe3
              · rw [vI_sI_ne _ _ (fun z => n13 z.2.2.symm)]
                show vI Vf 7 1 _ = _
                rw [hVf, vI_sI_self]
          · rw [up_ne _ _ (fun z => hX (Or.inr z)), up_ne _ _ (fun z => hX (Or.inl z)), up_ne _ _ (fun z => hX (Or.inl z))]
        subst hQ
        exact z_vret F dX0_divide_222 rfl ⟨Vg, _, rfl, fin.1, hNad.trans fin.2, by rw [up_ne _ _ n13, up_self], up_self _ _ _, by
          rw [hvalc]
          exact (((((eV.refl _ _).up (Or.inr (Or.inr rfl))).up (Or.inl rfl)).up (Or.inl rfl)).up (Or.inr (Or.inl rfl))).up (Or.inr (Or.inr rfl))⟩
      · exact absurd nI_0m1 c
    | succ k ih =>
      intro f fq l7 l9 l10 hk hS hlt hz1 hz2 hl9
      rw [nI_km1]
      have hjn : k + (m + 1) < 16 := by omega
      -- the window
      obtain ⟨W, hW⟩ : ∃ W, W = wv f k (m + 2) := ⟨_, rfl⟩
      have hfz : ∀ i, k + (m + 2) ≤ i → i < 16 → f i = 0 := by
        have hb : vl f 16 < 4294967296 ^ (k + (m + 2)) := by
          refine Nat.lt_of_lt_of_le hlt ?_
          rw [show k + (m + 2) = (m + 1) + (k + 1) by omega, Nat.pow_add 4294967296 (m + 1) (k + 1)]
          exact Nat.mul_le_mul_right _ (Nat.le_of_lt hD1)
        exact vl_hi (by omega) hb
      have hWd : W = vl f 16 / 4294967296 ^ k := by
        rw [hW, ← wv_div (f := f) (j := k) (n := 16 - k) (by omega)]
        exact (wv_top (by omega) (fun i a b => hfz i a (by omega))).symm
      have hWlt : W < D * 4294967296 := by
        rw [hWd, Nat.div_lt_iff_lt_mul (BBpos k), Nat.mul_assoc, Nat.mul_comm 4294967296, ← Nat.pow_succ]
        exact hlt
      have hvf : vl f 16 = vl f k + W * 4294967296 ^ k := by
        have e := vl_add f k (16 - k)
        rw [show k + (16 - k) = 16 by omega] at e
        rw [e, hW, wv_top (f := f) (j := k) (m := m + 2) (by omega) (fun i a b => hfz i a (by omega))]
      have hu1 : uu (f (k + m + 1)) = W / 4294967296 ^ m / 4294967296 := by
        rw [Nat.div_div_eq_div_mul, ← Nat.pow_succ, hW, wv_succ, Nat.add_mul_div_right _ _ (BBpos (m + 1)), Nat.div_eq_of_lt (wv_lt _ _ _), Nat.zero_add]
        rfl
      have hpair : uu (f (k + m + 1)) * 4294967296 + uu (f (k + m)) = W / 4294967296 ^ m := by
        rw [hW, wv_succ, wv_succ, Nat.pow_succ, Nat.mul_comm (4294967296 ^ m) 4294967296, ← Nat.mul_assoc, Nat.add_assoc (wv f k m), ← Nat.add_mul, Nat.add_mul_div_right _ _ (BBpos m), Nat.div_eq_of_lt (wv_lt _ _ _), Nat.zero_add, Nat.add_comm (uu (f (k + m)))]
        rfl
      have hd1 : 4294967296 ≤ 2 * (D / 4294967296 ^ m) := by
        have := (Nat.le_div_iff_mul_le (BBpos m)).mpr hD2
        omega
      obtain ⟨qh, hqh⟩ : ∃ qh, qh = if D / 4294967296 ^ m ≤ uu (f (k + m + 1)) then 4294967295 else (uu (f (k + m + 1)) * 4294967296 + uu (f (k + m))) / (D / 4294967296 ^ m) := ⟨_, rfl⟩
      have hgok := guess_ok (W := W) (D := D) (P := 4294967296 ^ m) (q := qh) (BBpos m) rfl (by rw [Nat.mul_comm, ← Nat.pow_succ]; exact hD1) hd1 hWlt (by rw [hqh, hpair, hu1])
      obtain ⟨hq1, hq2, hq3⟩ := hgok
      refine z_iload F dX0_divide_118 rfl ?_
      refine z_if_lt (tgt := 200) F dX0_divide_120 (by decide) (fun c => ?_) (fun c => ?_)
      · exact absurd c (nI_pos (by omega))
      · refine z_aload_n F dX0_divide_123 rfl ?_
        refine z_aload_n F dX0_divide_124 rfl ?_
        refine z_iload F dX0_divide_125 rfl ?_
        refine z_cVl F (c_guessLimb (n := m) hA0 hsd hws (hvs f fq) hw1 hnD (by omega)) dX0_divide_127 ml_X0_96 ok_X0_guessLimb hA0 (by decide) rfl rfl rfl (Nat.le_of_ble_eq_true rfl) (by decide) (by decide) (fun b S' hb => ?_)
        obtain ⟨hb, rfl⟩ := hb
        simp only [hA1] at hb
        rw [← hqh] at hb
        subst hb
        -- behind the turns: the limb is stored
        have store : ∀ (f' : Nat → Int32) (l9 l10 : Option Value), (∀ i, i < k ∨ k + (m + 1) < i → f' i = f i) → wv f' k (m + 2) + W / D * D = W → zc1 l9 = true → zX Γ κ (Z, sA (sA Vd g1 f') g3 fq) 0 0 Q 184 [some (.ref A), some (.ref o1), some (.ref o2), some (.ref o3), some (.int (nI s)), some (.int (nI top)), some (.int (nI k)), some (.long (lN (W / D))), none, l9, l10] [] := by
          intro f' l9 l10 hf' hw' hl9
          have hqB : W / D < 4294967296 := by rw [Nat.div_lt_iff_lt_mul hD0, Nat.mul_comm]; exact hWlt
          refine z_aload_n F dX0_divide_184 rfl ?_
          refine z_getR F dX0_divide_185 gr_X0_68 (by assumption) (by assumption) ?_
          refine z_iload F dX0_divide_188 rfl ?_
          refine z_lload F dX0_divide_190 rfl ?_
          refine z_l2i F dX0_divide_192 ?_
          refine z_ti (lN_i _) ?_
          refine z_iast F dX0_divide_193 (by assumption) (in16 hw3 (by omega)) ?_
          refine z_V (show _ = sA (sA Vd g1 f') g3 (upd fq k (nI (W / D))) by rw [hA3, sA_sA, cl16 (by omega)]) ?_
          refine z_iinc_6 F dX0_divide_194 rfl ?_
          refine z_goto (tgt := 118) F dX0_divide_197 (by decide) ?_
          rw [nI_m1]
          have hup := vl_up (f := fq) (x := nI (W / D)) (show k < 16 by omega)
          rw [hz1 k (by omega), show uu 0 = 0 from rfl, uu_nI, Nat.mod_eq_of_lt hqB] at hup
          have hvf' : vl f' 16 = vl f k + wv f' k (m + 2) * 4294967296 ^ k := by
            have e := vl_add f' k (16 - k)
            rw [show k + (16 - k) = 16 by omega] at e
            rw [e, wv_top (f := f') (j := k) (m := m + 2) (by omega) (fun i a b => by rw [hf' i (by omega)]; exact hfz i a (by omega)), vl_congr (fun i hi => hf' i (Or.inl hi))]
          have hmul : (wv f' k (m + 2) + W / D * D) * 4294967296 ^ k = W * 4294967296 ^ k := by rw [hw']
          rw [Nat.add_mul] at hmul
          have hwlt : wv f' k (m + 2) < D := by
            have e := Nat.div_add_mod W D
            have e2 := Nat.mod_lt W hD0
            rw [Nat.mul_comm] at e
            omega
          refine ih f' _ _ _ _ (by omega) ?_ ?_ (fun i hi => by rw [pk_un (by omega)]; exact hz1 i (by omega)) (fun i a b => by rw [pk_un (by omega)]; exact hz2 i a b) hl9
          · have e1 : vl (upd fq k (nI (W / D))) 16 * D = vl fq 16 * D + W / D * D * 4294967296 ^ k := by
              have : vl (upd fq k (nI (W / D))) 16 = vl fq 16 + W / D * 4294967296 ^ k := by omega
              rw [this, Nat.add_mul, Nat.mul_right_comm]
            rw [e1]
            omega
          · rw [hvf']
            have e1 : (wv f' k (m + 2) + 1) * 4294967296 ^ k ≤ D * 4294967296 ^ k := Nat.mul_le_mul_right _ hwlt
            rw [Nat.add_mul] at e1
            have := vl_lt f k
            omega
        -- the turns
        have turns : ∀ (d t q : Nat) (r : Bool) (f' : Nat → Int32), t + d = 2 → W / D ≤ q → q + t ≤ W / D + 2 → q < 4294967296 → (∀ i, i < k ∨ k + (m + 1) < i → f' i = f i) → wv f' k (m + 2) + q * D = W + (if r = true then 4294967296 ^ (m + 2) else 0) → zX Γ κ (Z, sA (sA Vd g1 f') g3 fq) 0 0 Q 149 [some (.ref A), some (.ref o1), some (.ref o2), some (.ref o3), some (.int (nI s)), some (.int (nI top)), some (.int (nI k)), some (.long (lN q)), none, some (.int (zb r)), some (.int (nI t))] [] := by
          intro d
          have hfalse : ∀ {q : Nat} {f' : Nat → Int32}, W / D ≤ q → wv f' k (m + 2) + q * D = W → q = W / D := fun {q f'} a b => by
            apply Nat.le_antisymm _ a
            exact (Nat.le_div_iff_mul_le hD0).mpr (by omega)
          have htrue : ∀ {q : Nat} {f' : Nat → Int32}, wv f' k (m + 2) + q * D = W + 4294967296 ^ (m + 2) → W / D < q := fun {q f'} b => by
            have hlt9 := wv_lt f' k (m + 2)
            refine (Nat.div_lt_iff_lt_mul hD0).mpr ?_
            generalize 4294967296 ^ (m + 2) = M at b hlt9
            generalize wv f' k (m + 2) = w9 at b hlt9
            omega
          induction d with
          | zero =>
            intro t q r f' ht ha hb hq hf' hw'
            have ht2 : t = 2 := by omega
            subst ht2
            cases r with
            | true =>
              simp only [if_true] at hw'
              have := htrue hw'
              omega
            | false =>
              simp only [Bool.false_eq_true, if_false, Nat.add_zero] at hw'
              have e := hfalse ha hw'
              subst e
              refine z_iload F dX0_divide_149 rfl ?_
              refine z_iconst (v := nI 2) F dX0_divide_151 (by decide) ?_
              refine z_icmp_ge (tgt := 184) F dX0_divide_152 (by decide) (fun c3 => ?_) (fun c3 => ?_)
              · exact store f' _ _ hf' hw' rfl
              · exact absurd (by decide) c3
          | succ d ih2 =>
            intro t q r f' ht ha hb hq hf' hw'
            refine z_iload F dX0_divide_149 rfl ?_
            refine z_iconst (v := nI 2) F dX0_divide_151 (by decide) ?_
            refine z_icmp_ge (tgt := 184) F dX0_divide_152 (by decide) (fun c3 => ?_) (fun c3 => ?_)
            · have := (nI_leI (a := 2) (b := t) (by omega) (by omega)).mp c3
              omega
            · refine z_iload F dX0_divide_155 rfl ?_
              refine z_if_eq (tgt := 184) F dX0_divide_157 (by decide) (fun c4 => ?_) (fun c4 => ?_)
              · have hr := (zb_eq0 r).mp c4
                subst hr
                simp only [Bool.false_eq_true, if_false, Nat.add_zero] at hw'
                have e := hfalse ha hw'
                subst e
                exact store f' _ _ hf' hw' rfl
              · have hr : r = true := by
                  cases r with
                  | true => rfl
                  | false => exact absurd rfl c4
                subst hr
                simp only [if_true] at hw'
                have hgt := htrue hw'
                have hq0 : 0 < q := Nat.lt_of_le_of_lt (Nat.zero_le _) hgt
                obtain ⟨q', hq'⟩ : ∃ q', q = q' + 1 := ⟨q - 1, by omega⟩
                subst hq'
                refine z_lload F dX0_divide_160 rfl ?_
                refine z_lconst (v := lN 1) F dX0_divide_162 (by decide) ?_
                refine z_lsub F dX0_divide_163 ?_
                refine z_tl (lN_sub (show 1 ≤ q' + 1 by omega)) ?_
                refine z_lstore_7 F dX0_divide_164 rfl ?_
                refine z_aload_n F dX0_divide_166 rfl ?_
                refine z_aload_n F dX0_divide_167 rfl ?_
                refine z_getR F dX0_divide_168 gr_X0_10 (by assumption) (by assumption) ?_
                refine z_iload F dX0_divide_171 rfl ?_
                refine z_cVz F (c_giveBack hw1 hws (hvs f' fq) gs1 (by rw [hnD]; omega)) dX0_divide_173 ml_X0_104 ok_X8_giveBack k1 (by decide) rfl rfl rfl (Nat.le_of_ble_eq_true rfl) (by decide) (by decide) (fun r2 S' hS' => ?_)
                obtain ⟨f2, rfl, hk2, hw2'⟩ := hS'
                rw [hA1, hnD] at hw2'
                simp only [hA1, hnD] at hk2
                refine z_V (show _ = sA (sA Vd g1 f2) g3 fq by rw [sA_comm _ _ _ (Ne.symm g13), sA_sA]) ?_
                refine z_istore_9 F dX0_divide_176 rfl ?_
                refine z_iinc_10 F dX0_divide_178 rfl ?_
                refine z_goto (tgt := 149) F dX0_divide_181 (by decide) ?_
                rw [show nI t + Int32.ofInt 1 = nI (t + 1) from nI_1 t]
                refine ih2 (t + 1) q' r2 f2 (by omega) (by omega) (by omega) (by omega) (fun i hi => by rw [hk2 i hi]; exact hf' i hi) ?_
                rw [Nat.add_mul] at hw'
                cases r2 with
                | true =>
                  simp only [if_true] at hw2' ⊢
                  rw [show m + 1 + 1 = m + 2 from rfl] at hw2'
                  omega
                | false =>
                  simp only [Bool.false_eq_true, if_false] at hw2' ⊢
                  rw [show m + 1 + 1 = m + 2 from rfl] at hw2'
                  omega
        refine z_lstore_7 F dX0_divide_130 rfl ?_
        refine z_aload_n F dX0_divide_132 rfl ?_
        refine z_lload F dX0_divide_133 rfl ?_
        refine z_aload_n F dX0_divide_135 rfl ?_
        refine z_getR F dX0_divide_136 gr_X0_10 (by assumption) (by assumption) ?_
        refine z_iload F dX0_divide_139 rfl ?_
        refine z_cVz F (c_takeTimes hw1 hws (hvs f fq) gs1 hq3 (by rw [hnD]; omega)) dX0_divide_141 ml_X0_100 ok_X8_takeTimes k1 (by decide) rfl rfl rfl (Nat.le_of_ble_eq_true rfl) (by decide) (by decide) (fun r2 S' hS' => ?_)
        obtain ⟨f2, rfl, hk2, hw2'⟩ := hS'
        rw [hA1, hnD, show m + 1 + 1 = m + 2 from rfl, ← hW] at hw2'
        simp only [hA1, hnD] at hk2
        refine z_V (show _ = sA (sA Vd g1 f2) g3 fq by rw [sA_comm _ _ _ (Ne.symm g13), sA_sA]) ?_
        refine z_istore_9 F dX0_divide_144 rfl ?_
        refine z_iconst (v := nI 0) F dX0_divide_146 (by decide) ?_
        refine z_istore_10 F dX0_divide_147 rfl ?_
        exact turns 2 0 qh r2 f2 rfl hq1 (by omega) hq3 hk2 hw2'
  have emin : (if nI 15 < nI (nl U) then nI 15 else nI (nl U)) = nI (nl U) := by
    rw [min_nI (by omega) (by decide), Nat.min_eq_left hnU15]
  refine z_aload_n F dX0_divide_98 rfl ?_
  refine z_getI F dX0_divide_99 gi_X0_72 (by assumption) ?_
  refine z_ti hvd1.2 ?_
  refine z_bipush (v := nI 15) F dX0_divide_102 (by decide) ?_
  refine z_min F dX0_divide_104 ml_X0_90 rfl (by decide) (by decide) ?_
  refine z_ti emin ?_
  have etop : nI (nl U) - nI (m + 1) = nI top := by rw [pk_sub hnU]; congr 1; omega
  refine z_aload_n F dX0_divide_107 rfl ?_
  refine z_getI F dX0_divide_108 gi_X0_72 (by assumption) ?_
  refine z_ti (hvd2.2.trans (congrArg nI hm)) ?_
  refine z_isub F dX0_divide_111 ?_
  refine z_ti etop ?_
  refine z_istore_5 F dX0_divide_112 rfl ?_
  refine z_iload F dX0_divide_114 rfl ?_
  refine z_istore_6 F dX0_divide_116 rfl ?_
  refine z_V (show _ = sA (sA Vd g1 (vA Vd g1)) g3 (vA Vd g3) by rw [sA_id, sA_id]) ?_
  have hz3 : ∀ i, i < 16 → vA Vd g3 i = 0 := fun i hi => hvd3.hi i (by rw [nl_0.mpr rfl]; omega) hi
  have hlt0 : vl (vA Vd g1) 16 < D * 4294967296 ^ (top + 1) := by
    rw [hvd1.1]
    refine Nat.lt_of_lt_of_le (lt_pow_nl U) ?_
    rw [htop, show top + (m + 1) = m + (top + 1) by omega, Nat.pow_add]
    exact Nat.mul_le_mul_right _ (by omega)
  have start := loop (top + 1) (vA Vd g1) (vA Vd g3) none none none (Nat.le_refl _) (by rw [hvd3.1, hvd1.1]; omega) hlt0 (fun i hi => hz3 i (by omega)) (fun i _ hi => hz3 i hi) rfl
  rw [nI_km1] at start
  exact start
