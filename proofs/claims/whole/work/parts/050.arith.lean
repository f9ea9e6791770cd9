/-! ===== Arithmetic: guessLimb ===== -/
set_option maxRecDepth 100000 in
theorem c_guessLimb {Γ : Gm} {Z : Hz} {V : Hv} {A sd gs o g D j n : Nat} (hA : zIn Z A 0) (hsd : zR Z 0 0 A = some sd) (hs : wh Z sd gs) (hvs : vv V sd gs D) (ho : wh Z o g) (hn : nl D = n + 1) (hj : j + n + 1 < 16) : zCt Γ mX0_guessLimb 0 0 0 0 [.ref A, .ref o, .int (nI j)] (Z, V) (pL (q0 Z V (lN (if D / 4294967296 ^ n ≤ uu (vA V g (j + n + 1)) then 4294967295 else (uu (vA V g (j + n + 1)) * 4294967296 + uu (vA V g (j + n))) / (D / 4294967296 ^ n))))) := by
  refine zCt.of [some (.ref A), some (.ref o), some (.int (nI j)), none, none, none, none, none, none, none, none, none] pn_X0_guessLimb rfl (Nat.le_of_ble_eq_true rfl) rfl (fun κ F => ?_)
  obtain ⟨ho7, hog, hg, hn16⟩ := id ho
  obtain ⟨hs7, hsg, hgS, hsn16⟩ := id hs
  have hlt : D < 4294967296 ^ (n + 1) := by rw [← hn]; exact lt_pow_nl D
  have hge : 4294967296 ^ n ≤ D := lt_nl.mp (by omega)
  have d1 : D / 4294967296 ^ n < 4294967296 := by rw [← dig_lt hlt]; exact Nat.mod_lt _ (by decide)
  have d0 : 0 < D / 4294967296 ^ n := Nat.div_pos hge (BBpos n)
  have rD : vA V gs (nI n).toNatClampNeg = nI (D / 4294967296 ^ n) := by rw [cl16 (by omega), hvs.limb (by omega), dig_lt hlt]
  generalize D / 4294967296 ^ n = d at rD d1 d0
  have e1 : nI j + nI (n + 1) = nI (j + n + 1) := nI_add j (n + 1)
  have r1 : vA V g (nI (j + n + 1)).toNatClampNeg = vA V g (j + n + 1) := by rw [cl16 hj]
  have r0 : vA V g (nI (j + n)).toNatClampNeg = vA V g (j + n) := by rw [cl16 (by omega)]
  have b1 := uu_lt (vA V g (j + n + 1))
  have b0 := uu_lt (vA V g (j + n))
  generalize hu1 : uu (vA V g (j + n + 1)) = u1 at b1
  generalize hu0 : uu (vA V g (j + n)) = u0 at b0
  refine z_aload_n F dX0_guessLimb_0 rfl ?_
  refine z_getR F dX0_guessLimb_1 gr_X0_10 (by assumption) (by assumption) ?_
  refine z_getI F dX0_guessLimb_4 gi_X0_72 (by assumption) ?_
  refine z_ti (hvs.2.trans (congrArg nI hn)) ?_
  refine z_istore_n_3 F dX0_guessLimb_7 rfl ?_
  refine z_aload_n F dX0_guessLimb_8 rfl ?_
  refine z_getR F dX0_guessLimb_9 gr_X0_68 (by assumption) (by assumption) ?_
  refine z_iload_n F dX0_guessLimb_12 rfl ?_
  refine z_iload_n F dX0_guessLimb_13 rfl ?_
  refine z_iadd F dX0_guessLimb_14 ?_
  refine z_ti e1 ?_
  refine z_iald F dX0_guessLimb_15 (by assumption) (in16 ho hj) ?_
  refine z_ti r1 ?_
  refine z_i2l F dX0_guessLimb_16 ?_
  refine z_ldc2 (v := 4294967295) F dX0_guessLimb_17 cn_X0_114 ?_
  refine z_land F dX0_guessLimb_20 ?_
  refine z_tl ((lowU _).trans (congrArg lN hu1)) ?_
  refine z_lstore_4 F dX0_guessLimb_21 rfl ?_
  refine z_aload_n F dX0_guessLimb_23 rfl ?_
  refine z_getR F dX0_guessLimb_24 gr_X0_10 (by assumption) (by assumption) ?_
  refine z_getR F dX0_guessLimb_27 gr_X0_68 (by assumption) (by assumption) ?_
  refine z_iload_n F dX0_guessLimb_30 rfl ?_
  refine z_iconst (v := nI 1) F dX0_guessLimb_31 (by decide) ?_
  refine z_isub F dX0_guessLimb_32 ?_
  refine z_ti (nI_km1 n) ?_
  refine z_iald F dX0_guessLimb_33 (by assumption) (in16 hs (by omega)) ?_
  refine z_ti rD ?_
  refine z_i2l F dX0_guessLimb_34 ?_
  refine z_ldc2 (v := 4294967295) F dX0_guessLimb_35 cn_X0_114 ?_
  refine z_land F dX0_guessLimb_38 ?_
  refine z_tl (lowN d1) ?_
  refine z_lstore_6 F dX0_guessLimb_39 rfl ?_
  refine z_lload F dX0_guessLimb_41 rfl ?_
  refine z_lload F dX0_guessLimb_43 rfl ?_
  refine z_lcmp F dX0_guessLimb_45 ?_
  refine z_if_lt (tgt := 53) F dX0_guessLimb_46 (by decide) (fun c => ?_) (fun c => ?_)
  · have c1 := (pk_lLT (by omega) (by omega)).mp ((lg_cmp_lt _ _).mp c)
    have hP : u1 * 4294967296 + u0 < 18446744073709551616 := by omega
    obtain ⟨P, hPe⟩ : ∃ P, P = u1 * 4294967296 + u0 := ⟨_, rfl⟩
    rw [if_neg (by omega), ← hPe]
    have hd64 : ¬ lN d = 0 := fun z => by
      have := (pk_lEQ (a := d) (b := 0) (by omega) (by decide)).mp z
      omega
    obtain ⟨h1, h2, h3⟩ := half_div (P := P) d0
    obtain ⟨G, hG⟩ : ∃ G, G = P / 2 / d * 2 := ⟨_, rfl⟩
    rw [← hG] at h1 h2 h3
    have hGd : G < 18446744073709551616 := Nat.lt_of_le_of_lt (Nat.le_mul_of_pos_right G d0) (by omega)
    refine z_lload F dX0_guessLimb_53 rfl ?_
    refine z_bipush (v := nI 32) F dX0_guessLimb_55 (by decide) ?_
    refine z_lshl F dX0_guessLimb_57 ?_
    refine z_tl (lN_shl32 _) ?_
    refine z_aload_n F dX0_guessLimb_58 rfl ?_
    refine z_getR F dX0_guessLimb_59 gr_X0_68 (by assumption) (by assumption) ?_
    refine z_iload_n F dX0_guessLimb_62 rfl ?_
    refine z_iload_n F dX0_guessLimb_63 rfl ?_
    refine z_iadd F dX0_guessLimb_64 ?_
    refine z_ti e1 ?_
    refine z_iconst (v := nI 1) F dX0_guessLimb_65 (by decide) ?_
    refine z_isub F dX0_guessLimb_66 ?_
    refine z_ti (nI_km1 (j + n)) ?_
    refine z_iald F dX0_guessLimb_67 (by assumption) (in16 ho (by omega)) ?_
    refine z_ti r0 ?_
    refine z_i2l F dX0_guessLimb_68 ?_
    refine z_ldc2 (v := 4294967295) F dX0_guessLimb_69 cn_X0_114 ?_
    refine z_land F dX0_guessLimb_72 ?_
    refine z_tl ((lowU _).trans (congrArg lN hu0)) ?_
    refine z_lor F dX0_guessLimb_73 ?_
    refine z_tl ((lN_orHi b0 (by omega)).trans (congrArg lN hPe.symm)) ?_
    refine z_lstore_8 F dX0_guessLimb_74 rfl ?_
    refine z_lload F dX0_guessLimb_76 rfl ?_
    refine z_iconst (v := nI 1) F dX0_guessLimb_78 (by decide) ?_
    refine z_lushr F dX0_guessLimb_79 ?_
    refine z_tl (lN_shrk (k := 1) (by omega) (by decide)) ?_
    refine z_lload F dX0_guessLimb_80 rfl ?_
    refine z_ldiv F dX0_guessLimb_82 hd64 ?_
    refine z_tl (pk_lDiv (by omega) d0 (by omega)) ?_
    refine z_iconst (v := nI 1) F dX0_guessLimb_83 (by decide) ?_
    refine z_lshl F dX0_guessLimb_84 ?_
    refine z_tl ((lN_shlk (k := 1) _ (by decide)).trans (congrArg lN hG.symm)) ?_
    refine z_lstore_10 F dX0_guessLimb_85 rfl ?_
    refine z_lload F dX0_guessLimb_87 rfl ?_
    refine z_lload F dX0_guessLimb_89 rfl ?_
    refine z_lload F dX0_guessLimb_91 rfl ?_
    refine z_lmul F dX0_guessLimb_93 ?_
    refine z_tl (lN_mul _ _) ?_
    refine z_lsub F dX0_guessLimb_94 ?_
    refine z_tl (lN_sub h1) ?_
    refine z_lload F dX0_guessLimb_95 rfl ?_
    refine z_lcmp F dX0_guessLimb_97 ?_
    have hr : P - G * d < 9223372036854775808 := by
      have : P < G * d + 2 * d := by
        have a := Nat.div_add_mod (P / 2) d
        have b := Nat.mod_lt (P / 2) d0
        have e : G * d = 2 * (d * (P / 2 / d)) := by rw [hG, Nat.mul_comm (P / 2 / d) 2, Nat.mul_assoc, Nat.mul_comm d]
        omega
      omega
    refine z_if_lt (tgt := 108) F dX0_guessLimb_98 (by decide) (fun c2 => ?_) (fun c2 => ?_)
    · have c3 := (pk_lLT (by omega) (by omega)).mp ((lg_cmp_lt _ _).mp c2)
      refine z_lload F dX0_guessLimb_108 rfl ?_
      exact z_lret F dX0_guessLimb_110 rfl ⟨by rw [h2 c3], rfl⟩
    · have c3 := mt (pk_lLT (a := P - G * d) (b := d) (by omega) (by omega)).mpr (mt (lg_cmp_lt _ _).mpr c2)
      refine z_lload F dX0_guessLimb_101 rfl ?_
      refine z_lconst (v := lN 1) F dX0_guessLimb_103 (by decide) ?_
      refine z_ladd F dX0_guessLimb_104 ?_
      refine z_tl (lN_add _ _) ?_
      refine z_goto (tgt := 110) F dX0_guessLimb_105 (by decide) ?_
      exact z_lret F dX0_guessLimb_110 rfl ⟨by rw [h3 (by omega)], rfl⟩
  · have c1 := mt (pk_lLT (a := u1) (b := d) (by omega) (by omega)).mpr (mt (lg_cmp_lt _ _).mpr c)
    rw [if_pos (by omega)]
    refine z_ldc2 (v := 4294967295) F dX0_guessLimb_49 cn_X0_114 ?_
    exact z_lret F dX0_guessLimb_52 rfl ⟨rfl, rfl⟩
