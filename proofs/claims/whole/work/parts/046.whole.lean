/-! ===== Whole: takeTimes, giveBack ===== -/
set_option maxRecDepth 100000 in
set_option maxHeartbeats 1000000 in
/-- takeTimes(times, divisor, j): from limb j on, so many times the divisor goes -/
theorem c_takeTimes {Γ : Gm} {Z : Hz} {V : Hv} {o g od gd D t j : Nat} (ho : wh Z o g) (hod : wh Z od gd) (hvd : vv V od gd D) (hgd : gd ≠ g) (ht : t < 4294967296) (hj : j + nl D < 16) : zCt Γ mX8_takeTimes 0 0 0 0 [.ref o, .long (lN t), .ref od, .int (nI j)] (Z, V) (pZ (fun r S' => ∃ f, S' = (Z, sA V g f) ∧ (∀ i, i < j ∨ j + nl D < i → f i = vA V g i) ∧ wv f j (nl D + 1) + t * D = wv (vA V g) j (nl D + 1) + (if r = true then 4294967296 ^ (nl D + 1) else 0))) := by
  refine zCt.of [some (.ref o), some (.long (lN t)), none, some (.ref od), some (.int (nI j)), none, none, none, none, none, none, none] pn_X8_takeTimes rfl (Nat.le_of_ble_eq_true rfl) rfl (fun κ F => ?_)
  obtain ⟨ho7, hog, hg, hn16⟩ := id ho
  obtain ⟨hd7, hdg, hgD, hdn16⟩ := id hod
  have hI : ∀ f, vI (sA V g f) 7 1 od = nI (nl D) := fun f => hvd.2
  have hAd : ∀ f, vA (sA V g f) gd = vA V gd := fun f => vA_sA_ne _ _ hgd
  have hD : vl (vA V gd) (nl D) = D := by
    rw [← vl_top hvd.len (fun i h1 h2 => hvd.hi i h1 h2)]; exact hvd.1
  generalize hQ : zQ Γ κ (pZ (fun r S' => ∃ f, S' = (Z, sA V g f) ∧ (∀ i, i < j ∨ j + nl D < i → f i = vA V g i) ∧ wv f j (nl D + 1) + t * D = wv (vA V g) j (nl D + 1) + (if r = true then 4294967296 ^ (nl D + 1) else 0))) 0 0 = Q
  have loop : ∀ (d i : Nat) (f : Nat → Int32) (c : Nat) (l8 l10 : Option Value), i + d = nl D → wv f j i + t * vl (vA V gd) i = wv (vA V g) j i + c * 4294967296 ^ i → (∀ k, k < j ∨ j + i ≤ k → f k = vA V g k) → c < 4294967296 → zX Γ κ (Z, sA V g f) 0 0 Q 6 [some (.ref o), some (.long (lN t)), none, some (.ref od), some (.int (nI j)), some (.long (lN c)), none, some (.int (nI i)), l8, none, l10, none] [] := by
    intro d
    induction d with
    | zero =>
      intro i f c l8 l10 hi hs hf hc
      have hie : i = nl D := by omega
      subst hie
      rw [hD] at hs
      have hcl := cl16 hj
      have r1 : vA (sA V g f) g (nI (j + nl D)).toNatClampNeg = vA V g (j + nl D) := by rw [vA_sA_self, hcl]; exact hf _ (Or.inr (Nat.le_refl _))
      have b1 := uu_lt (vA V g (j + nl D))
      generalize hu : uu (vA V g (j + nl D)) = u at b1
      have e2 : (iN ((u : Int) - c)).toInt32 = nI ((u + 4294967296 - c) % 4294967296) := by rw [iN_i32]; exact nI_ofInt_sub b1 hc
      refine z_iload F dX8_takeTimes_6 rfl ?_
      refine z_aload_n F dX8_takeTimes_8 rfl ?_
      refine z_getI F dX8_takeTimes_9 gi_X8_19 (by assumption) ?_
      refine z_ti (hI f) ?_
      refine z_icmp_ge (tgt := 90) F dX8_takeTimes_12 (by decide) (fun c1 => ?_) (fun c1 => ?_)
      · refine z_aload_n F dX8_takeTimes_90 rfl ?_
        refine z_getR F dX8_takeTimes_91 gr_X8_9 (by assumption) (by assumption) ?_
        refine z_iload F dX8_takeTimes_94 rfl ?_
        refine z_aload_n F dX8_takeTimes_96 rfl ?_
        refine z_getI F dX8_takeTimes_97 gi_X8_19 (by assumption) ?_
        refine z_ti (hI f) ?_
        refine z_iadd F dX8_takeTimes_100 ?_
        refine z_ti (nI_add j (nl D)) ?_
        refine z_iald F dX8_takeTimes_101 (by assumption) (in16 ho hj) ?_
        refine z_ti r1 ?_
        refine z_i2l F dX8_takeTimes_102 ?_
        refine z_ldc2 (v := 4294967295) F dX8_takeTimes_103 cn_X8_23 ?_
        refine z_land F dX8_takeTimes_106 ?_
        refine z_tl ((lowU _).trans (congrArg lN hu)) ?_
        refine z_lload F dX8_takeTimes_107 rfl ?_
        refine z_lsub F dX8_takeTimes_109 ?_
        refine z_tl (lN_subI _ _) ?_
        refine z_lstore_7 F dX8_takeTimes_110 rfl ?_
        refine z_aload_n F dX8_takeTimes_112 rfl ?_
        refine z_getR F dX8_takeTimes_113 gr_X8_9 (by assumption) (by assumption) ?_
        refine z_iload F dX8_takeTimes_116 rfl ?_
        refine z_aload_n F dX8_takeTimes_118 rfl ?_
        refine z_getI F dX8_takeTimes_119 gi_X8_19 (by assumption) ?_
        refine z_ti (hI f) ?_
        refine z_iadd F dX8_takeTimes_122 ?_
        refine z_ti (nI_add j (nl D)) ?_
        refine z_lload F dX8_takeTimes_123 rfl ?_
        refine z_l2i F dX8_takeTimes_125 ?_
        refine z_ti e2 ?_
        refine z_iast F dX8_takeTimes_126 (by assumption) (in16 ho hj) ?_
        refine z_V (show _ = sA V g (upd f (j + nl D) (nI ((u + 4294967296 - c) % 4294967296))) by rw [vA_sA_self, sA_sA, hcl]) ?_
        have hkeep : ∀ i, i < j ∨ j + nl D < i → upd f (j + nl D) (nI ((u + 4294967296 - c) % 4294967296)) i = vA V g i := fun i h => by
          rw [pk_un (by omega)]; exact hf i (by omega)
        have hw : wv (upd f (j + nl D) (nI ((u + 4294967296 - c) % 4294967296))) j (nl D + 1) = wv f j (nl D) + (u + 4294967296 - c) % 4294967296 * 4294967296 ^ nl D := by
          rw [wv_succ, wv_up_ge (Nat.le_refl _), pk_us, uu_nI, Nat.mod_mod]
        have hw0 : wv (vA V g) j (nl D + 1) = wv (vA V g) j (nl D) + u * 4294967296 ^ nl D := by rw [wv_succ, hu]
        refine z_lload F dX8_takeTimes_127 rfl ?_
        refine z_lconst (v := lN 0) F dX8_takeTimes_129 (by decide) ?_
        refine z_lcmp F dX8_takeTimes_130 ?_
        refine z_if_ge (tgt := 138) F dX8_takeTimes_131 (by decide) (fun c2 => ?_) (fun c2 => ?_)
        · have c3 := (iN_lt0 (by omega) (by omega)).mp ((lg_cmp_ge _ _).mp c2)
          subst hQ
          have e3 : (u + 4294967296 - c) % 4294967296 = u - c := by omega
          have e4 : u = (u - c) + c := by omega
          have e5 : u * 4294967296 ^ nl D = (u - c) * 4294967296 ^ nl D + c * 4294967296 ^ nl D := by rw [← Nat.add_mul, ← e4]
          refine z_iconst (v := nI 0) F dX8_takeTimes_138 (by decide) ?_
          exact z_zret F false dX8_takeTimes_139 rfl rfl ⟨_, rfl, hkeep, by
            rw [hw, hw0, e3, e5]
            simp only [Bool.false_eq_true, if_false]
            omega⟩
        · have c3 := mt (iN_lt0 (z := (u : Int) - c) (by omega) (by omega)).mpr (mt (lg_cmp_ge _ _).mpr c2)
          subst hQ
          have e3 : (u + 4294967296 - c) % 4294967296 = u + 4294967296 - c := by omega
          have e4 : u + 4294967296 = (u + 4294967296 - c) + c := by omega
          have e5 : (u + 4294967296) * 4294967296 ^ nl D = (u + 4294967296 - c) * 4294967296 ^ nl D + c * 4294967296 ^ nl D := by rw [← Nat.add_mul, ← e4]
          rw [Nat.add_mul] at e5
          refine z_iconst (v := nI 1) F dX8_takeTimes_134 (by decide) ?_
          refine z_goto (tgt := 139) F dX8_takeTimes_135 (by decide) ?_
          exact z_zret F true dX8_takeTimes_139 rfl rfl ⟨_, rfl, hkeep, by
            rw [hw, hw0, e3, Nat.pow_succ, Nat.mul_comm (4294967296 ^ nl D)]
            simp only [if_true]
            omega⟩
      · exact absurd (nI_le (by omega) (by omega)) c1
    | succ d ih =>
      intro i f c l8 l10 hi hs hf hc
      have hiL : i < 16 := by omega
      have hji : j + i < 16 := by omega
      have hcl := cl16 hiL
      have hclj := cl16 hji
      have r1 : vA (sA V g f) gd (nI i).toNatClampNeg = vA V gd i := by rw [hAd, hcl]
      have r2 : vA (sA V g f) g (nI (j + i)).toNatClampNeg = vA V g (j + i) := by rw [vA_sA_self, hclj]; exact hf _ (Or.inr (Nat.le_refl _))
      have b1 := uu_lt (vA V gd i)
      have b2 := uu_lt (vA V g (j + i))
      have hsucc := vl_succ (vA V gd) i
      have hwsucc := wv_succ (vA V g) j i
      generalize hdi : uu (vA V gd i) = di at b1 hsucc
      generalize huj : uu (vA V g (j + i)) = u at b2 hwsucc
      have b3 := mul_lt_sq ht b1
      obtain ⟨P, hP⟩ : ∃ P, P = t * di + c := ⟨_, rfl⟩
      have hPlow : P % 4294967296 < 4294967296 := Nat.mod_lt _ (by decide)
      have e0 : lN P &&& 4294967295 = lN (P % 4294967296) := by
        have := wb_mask (n := P) (k := 32) (by rw [show (2 : Nat) ^ 64 = 18446744073709551616 by decide]; omega) (by decide)
        exact this
      have e2 : (iN ((u : Int) - (P % 4294967296 : Nat))).toInt32 = nI ((u + 4294967296 - P % 4294967296) % 4294967296) := by rw [iN_i32]; exact nI_ofInt_sub b2 hPlow
      obtain ⟨bo, hbo⟩ : ∃ bo, bo = if ((u : Int) - (P % 4294967296 : Nat)) < 0 then 1 else 0 := ⟨_, rfl⟩
      have e3 : ((iN ((u : Int) - (P % 4294967296 : Nat))).toUInt64 >>> ((63 : Int32).toInt64.toUInt64 &&& Int64.toUInt64 63)).toInt64 = lN bo := by rw [hbo]; exact iN_sgn (by omega) (by omega)
      have e4 : (u + 4294967296 - P % 4294967296) % 4294967296 + P % 4294967296 = u + bo * 4294967296 := by rw [hbo]; split <;> omega
      have hc2 : P / 4294967296 + bo < 4294967296 := by
        have h1 : t * di ≤ 4294967295 * 4294967295 := Nat.mul_le_mul (by omega) (by omega)
        rw [hbo]
        split <;> omega
      refine z_iload F dX8_takeTimes_6 rfl ?_
      refine z_aload_n F dX8_takeTimes_8 rfl ?_
      refine z_getI F dX8_takeTimes_9 gi_X8_19 (by assumption) ?_
      refine z_ti (hI f) ?_
      refine z_icmp_ge (tgt := 90) F dX8_takeTimes_12 (by decide) (fun c1 => ?_) (fun c1 => ?_)
      · exact absurd ((nI_leI (by omega) (by omega)).mp c1) (by omega)
      · refine z_lload_n F dX8_takeTimes_15 rfl ?_
        refine z_aload_n F dX8_takeTimes_16 rfl ?_
        refine z_getR F dX8_takeTimes_17 gr_X8_9 (by assumption) (by assumption) ?_
        refine z_iload F dX8_takeTimes_20 rfl ?_
        refine z_iald F dX8_takeTimes_22 (by assumption) (in16 hod hiL) ?_
        refine z_ti r1 ?_
        refine z_i2l F dX8_takeTimes_23 ?_
        refine z_ldc2 (v := 4294967295) F dX8_takeTimes_24 cn_X8_23 ?_
        refine z_land F dX8_takeTimes_27 ?_
        refine z_tl ((lowU _).trans (congrArg lN hdi)) ?_
        refine z_lmul F dX8_takeTimes_28 ?_
        refine z_tl (lN_mul _ _) ?_
        refine z_lload F dX8_takeTimes_29 rfl ?_
        refine z_ladd F dX8_takeTimes_31 ?_
        refine z_tl ((lN_add _ _).trans (congrArg lN hP.symm)) ?_
        refine z_lstore_8 F dX8_takeTimes_32 rfl ?_
        refine z_aload_n F dX8_takeTimes_34 rfl ?_
        refine z_getR F dX8_takeTimes_35 gr_X8_9 (by assumption) (by assumption) ?_
        refine z_iload F dX8_takeTimes_38 rfl ?_
        refine z_iload F dX8_takeTimes_40 rfl ?_
        refine z_iadd F dX8_takeTimes_42 ?_
        refine z_ti (nI_add j i) ?_
        refine z_iald F dX8_takeTimes_43 (by assumption) (in16 ho hji) ?_
        refine z_ti r2 ?_
        refine z_i2l F dX8_takeTimes_44 ?_
        refine z_ldc2 (v := 4294967295) F dX8_takeTimes_45 cn_X8_23 ?_
        refine z_land F dX8_takeTimes_48 ?_
        refine z_tl ((lowU _).trans (congrArg lN huj)) ?_
        refine z_lload F dX8_takeTimes_49 rfl ?_
        refine z_ldc2 (v := 4294967295) F dX8_takeTimes_51 cn_X8_23 ?_
        refine z_land F dX8_takeTimes_54 ?_
        refine z_tl e0 ?_
        refine z_lsub F dX8_takeTimes_55 ?_
        refine z_tl (lN_subI _ _) ?_
        refine z_lstore_10 F dX8_takeTimes_56 rfl ?_
        refine z_aload_n F dX8_takeTimes_58 rfl ?_
        refine z_getR F dX8_takeTimes_59 gr_X8_9 (by assumption) (by assumption) ?_
        refine z_iload F dX8_takeTimes_62 rfl ?_
        refine z_iload F dX8_takeTimes_64 rfl ?_
        refine z_iadd F dX8_takeTimes_66 ?_
        refine z_ti (nI_add j i) ?_
        refine z_lload F dX8_takeTimes_67 rfl ?_
        refine z_l2i F dX8_takeTimes_69 ?_
        refine z_ti e2 ?_
        refine z_iast F dX8_takeTimes_70 (by assumption) (in16 ho hji) ?_
        refine z_V (show _ = sA V g (upd f (j + i) (nI ((u + 4294967296 - P % 4294967296) % 4294967296))) by rw [vA_sA_self, sA_sA, hclj]) ?_
        refine z_lload F dX8_takeTimes_71 rfl ?_
        refine z_bipush (v := nI 32) F dX8_takeTimes_73 (by decide) ?_
        refine z_lushr F dX8_takeTimes_75 ?_
        refine z_tl (lN_shr32 (by omega)) ?_
        refine z_lload F dX8_takeTimes_76 rfl ?_
        refine z_bipush (v := nI 63) F dX8_takeTimes_78 (by decide) ?_
        refine z_lushr F dX8_takeTimes_80 ?_
        refine z_tl e3 ?_
        refine z_ladd F dX8_takeTimes_81 ?_
        refine z_tl (lN_add _ _) ?_
        refine z_lstore_5 F dX8_takeTimes_82 rfl ?_
        refine z_iinc_7 F dX8_takeTimes_84 rfl ?_
        refine z_goto (tgt := 6) F dX8_takeTimes_87 (by decide) ?_
        rw [show nI i + Int32.ofInt 1 = nI (i + 1) from nI_1 i]
        refine ih (i + 1) _ _ _ _ (by omega) ?_ (fun k hk => by rw [pk_un (by omega)]; exact hf k (by omega)) hc2
        rw [wv_succ, wv_up_ge (Nat.le_refl _), pk_us, uu_nI, Nat.mod_mod, hsucc, hwsucc, Nat.pow_succ, Nat.mul_add]
        have h1 := congrArg (· * 4294967296 ^ i) e4
        simp only [Nat.add_mul] at h1
        have h2 := digsplit P (4294967296 ^ i)
        rw [hP, Nat.add_mul, ← hP] at h2
        have h3 : t * (di * 4294967296 ^ i) = t * di * 4294967296 ^ i := (Nat.mul_assoc _ _ _).symm
        have h4 : bo * 4294967296 * 4294967296 ^ i = bo * (4294967296 ^ i * 4294967296) := by rw [Nat.mul_assoc, Nat.mul_comm 4294967296]
        have h5 : (P / 4294967296 + bo) * (4294967296 ^ i * 4294967296) = P / 4294967296 * (4294967296 ^ i * 4294967296) + bo * (4294967296 ^ i * 4294967296) := Nat.add_mul _ _ _
        omega
  refine z_lconst (v := lN 0) F dX8_takeTimes_0 (by decide) ?_
  refine z_lstore_5 F dX8_takeTimes_1 rfl ?_
  refine z_iconst (v := nI 0) F dX8_takeTimes_3 (by decide) ?_
  refine z_istore_7 F dX8_takeTimes_4 rfl ?_
  refine z_V (sA_id V g).symm ?_
  exact loop (nl D) 0 (vA V g) 0 _ _ (by omega) (by simp [vl, wv]) (fun k _ => rfl) (by decide)
set_option maxRecDepth 100000 in
set_option maxHeartbeats 1000000 in
/-- giveBack(divisor, j): from limb j on, the divisor comes back -/
theorem c_giveBack {Γ : Gm} {Z : Hz} {V : Hv} {o g od gd D j : Nat} (ho : wh Z o g) (hod : wh Z od gd) (hvd : vv V od gd D) (hgd : gd ≠ g) (hj : j + nl D < 16) : zCt Γ mX8_giveBack 0 0 0 0 [.ref o, .ref od, .int (nI j)] (Z, V) (pZ (fun r S' => ∃ f, S' = (Z, sA V g f) ∧ (∀ i, i < j ∨ j + nl D < i → f i = vA V g i) ∧ wv f j (nl D + 1) + (if r = true then 0 else 4294967296 ^ (nl D + 1)) = wv (vA V g) j (nl D + 1) + D)) := by
  refine zCt.of [some (.ref o), some (.ref od), some (.int (nI j)), none, none, none] pn_X8_giveBack rfl (Nat.le_of_ble_eq_true rfl) rfl (fun κ F => ?_)
  obtain ⟨ho7, hog, hg, hn16⟩ := id ho
  obtain ⟨hd7, hdg, hgD, hdn16⟩ := id hod
  have hI : ∀ f, vI (sA V g f) 7 1 od = nI (nl D) := fun f => hvd.2
  have hAd : ∀ f, vA (sA V g f) gd = vA V gd := fun f => vA_sA_ne _ _ hgd
  have hD : vl (vA V gd) (nl D) = D := by
    rw [← vl_top hvd.len (fun i h1 h2 => hvd.hi i h1 h2)]; exact hvd.1
  generalize hQ : zQ Γ κ (pZ (fun r S' => ∃ f, S' = (Z, sA V g f) ∧ (∀ i, i < j ∨ j + nl D < i → f i = vA V g i) ∧ wv f j (nl D + 1) + (if r = true then 0 else 4294967296 ^ (nl D + 1)) = wv (vA V g) j (nl D + 1) + D)) 0 0 = Q
  have loop : ∀ (d i : Nat) (f : Nat → Int32) (c : Nat), i + d = nl D → wv f j i + c * 4294967296 ^ i = wv (vA V g) j i + vl (vA V gd) i → (∀ k, k < j ∨ j + i ≤ k → f k = vA V g k) → c ≤ 1 → zX Γ κ (Z, sA V g f) 0 0 Q 5 [some (.ref o), some (.ref od), some (.int (nI j)), some (.long (lN c)), none, some (.int (nI i))] [] := by
    intro d
    induction d with
    | zero =>
      intro i f c hi hs hf hc
      have hie : i = nl D := by omega
      subst hie
      rw [hD] at hs
      have hcl := cl16 hj
      have r1 : vA (sA V g f) g (nI (j + nl D)).toNatClampNeg = vA V g (j + nl D) := by rw [vA_sA_self, hcl]; exact hf _ (Or.inr (Nat.le_refl _))
      have b1 := uu_lt (vA V g (j + nl D))
      have hw0 : wv (vA V g) j (nl D + 1) = wv (vA V g) j (nl D) + uu (vA V g (j + nl D)) * 4294967296 ^ nl D := wv_succ _ _ _
      generalize hu : uu (vA V g (j + nl D)) = u at b1 hw0
      refine z_iload F dX8_giveBack_5 rfl ?_
      refine z_aload_n F dX8_giveBack_7 rfl ?_
      refine z_getI F dX8_giveBack_8 gi_X8_19 (by assumption) ?_
      refine z_ti (hI f) ?_
      refine z_icmp_ge (tgt := 66) F dX8_giveBack_11 (by decide) (fun c1 => ?_) (fun c1 => ?_)
      · refine z_lload_n F dX8_giveBack_66 rfl ?_
        refine z_aload_n F dX8_giveBack_67 rfl ?_
        refine z_getR F dX8_giveBack_68 gr_X8_9 (by assumption) (by assumption) ?_
        refine z_iload_n F dX8_giveBack_71 rfl ?_
        refine z_aload_n F dX8_giveBack_72 rfl ?_
        refine z_getI F dX8_giveBack_73 gi_X8_19 (by assumption) ?_
        refine z_ti (hI f) ?_
        refine z_iadd F dX8_giveBack_76 ?_
        refine z_ti (nI_add j (nl D)) ?_
        refine z_iald F dX8_giveBack_77 (by assumption) (in16 ho hj) ?_
        refine z_ti r1 ?_
        refine z_i2l F dX8_giveBack_78 ?_
        refine z_ldc2 (v := 4294967295) F dX8_giveBack_79 cn_X8_23 ?_
        refine z_land F dX8_giveBack_82 ?_
        refine z_tl ((lowU _).trans (congrArg lN hu)) ?_
        refine z_ladd F dX8_giveBack_83 ?_
        refine z_tl (lN_add _ _) ?_
        refine z_lstore_n_3 F dX8_giveBack_84 rfl ?_
        refine z_aload_n F dX8_giveBack_85 rfl ?_
        refine z_getR F dX8_giveBack_86 gr_X8_9 (by assumption) (by assumption) ?_
        refine z_iload_n F dX8_giveBack_89 rfl ?_
        refine z_aload_n F dX8_giveBack_90 rfl ?_
        refine z_getI F dX8_giveBack_91 gi_X8_19 (by assumption) ?_
        refine z_ti (hI f) ?_
        refine z_iadd F dX8_giveBack_94 ?_
        refine z_ti (nI_add j (nl D)) ?_
        refine z_lload_n F dX8_giveBack_95 rfl ?_
        refine z_l2i F dX8_giveBack_96 ?_
        refine z_ti (lN_i _) ?_
        refine z_iast F dX8_giveBack_97 (by assumption) (in16 ho hj) ?_
        refine z_V (show _ = sA V g (upd f (j + nl D) (nI (c + u))) by rw [vA_sA_self, sA_sA, hcl]) ?_
        have hkeep : ∀ i, i < j ∨ j + nl D < i → upd f (j + nl D) (nI (c + u)) i = vA V g i := fun i h => by
          rw [pk_un (by omega)]; exact hf i (by omega)
        have hw : wv (upd f (j + nl D) (nI (c + u))) j (nl D + 1) = wv f j (nl D) + (c + u) % 4294967296 * 4294967296 ^ nl D := by
          rw [wv_succ, wv_up_ge (Nat.le_refl _), pk_us, uu_nI]
        have hcu : (c + u) * 4294967296 ^ nl D = c * 4294967296 ^ nl D + u * 4294967296 ^ nl D := Nat.add_mul _ _ _
        have hds := digsplit (c + u) (4294967296 ^ nl D)
        refine z_lload_n F dX8_giveBack_98 rfl ?_
        refine z_bipush (v := nI 32) F dX8_giveBack_99 (by decide) ?_
        refine z_lushr F dX8_giveBack_101 ?_
        refine z_tl (lN_shr32 (by omega)) ?_
        refine z_lconst (v := lN 0) F dX8_giveBack_102 (by decide) ?_
        refine z_lcmp F dX8_giveBack_103 ?_
        have hcmp : lg_cmp (lN ((c + u) / 4294967296)) (lN 0) = 0 ↔ (c + u) / 4294967296 = 0 := by
          rw [lg_cmp_eq]
          exact pk_lEQ (by omega) (by decide)
        refine z_if_ne (tgt := 111) F dX8_giveBack_104 (by decide) (fun c2 => ?_) (fun c2 => ?_)
        · have c3 : (c + u) / 4294967296 = 1 := by
            have := mt hcmp.mpr c2
            omega
          rw [c3] at hds
          subst hQ
          refine z_iconst (v := nI 0) F dX8_giveBack_111 (by decide) ?_
          exact z_zret F false dX8_giveBack_112 rfl rfl ⟨_, rfl, hkeep, by
            rw [hw, hw0, Nat.pow_succ]
            simp only [Bool.false_eq_true, if_false]
            omega⟩
        · have c3 := hcmp.mp c2
          rw [c3] at hds
          subst hQ
          refine z_iconst (v := nI 1) F dX8_giveBack_107 (by decide) ?_
          refine z_goto (tgt := 112) F dX8_giveBack_108 (by decide) ?_
          exact z_zret F true dX8_giveBack_112 rfl rfl ⟨_, rfl, hkeep, by
            rw [hw, hw0]
            simp only [if_true]
            omega⟩
      · exact absurd (nI_le (by omega) (by omega)) c1
    | succ d ih =>
      intro i f c hi hs hf hc
      have hiL : i < 16 := by omega
      have hji : j + i < 16 := by omega
      have hcl := cl16 hiL
      have hclj := cl16 hji
      have r1 : vA (sA V g f) gd (nI i).toNatClampNeg = vA V gd i := by rw [hAd, hcl]
      have r2 : vA (sA V g f) g (nI (j + i)).toNatClampNeg = vA V g (j + i) := by rw [vA_sA_self, hclj]; exact hf _ (Or.inr (Nat.le_refl _))
      have b1 := uu_lt (vA V gd i)
      have b2 := uu_lt (vA V g (j + i))
      refine z_iload F dX8_giveBack_5 rfl ?_
      refine z_aload_n F dX8_giveBack_7 rfl ?_
      refine z_getI F dX8_giveBack_8 gi_X8_19 (by assumption) ?_
      refine z_ti (hI f) ?_
      refine z_icmp_ge (tgt := 66) F dX8_giveBack_11 (by decide) (fun c1 => ?_) (fun c1 => ?_)
      · exact absurd ((nI_leI (by omega) (by omega)).mp c1) (by omega)
      · refine z_lload_n F dX8_giveBack_14 rfl ?_
        refine z_aload_n F dX8_giveBack_15 rfl ?_
        refine z_getR F dX8_giveBack_16 gr_X8_9 (by assumption) (by assumption) ?_
        refine z_iload_n F dX8_giveBack_19 rfl ?_
        refine z_iload F dX8_giveBack_20 rfl ?_
        refine z_iadd F dX8_giveBack_22 ?_
        refine z_ti (nI_add j i) ?_
        refine z_iald F dX8_giveBack_23 (by assumption) (in16 ho hji) ?_
        refine z_ti r2 ?_
        refine z_i2l F dX8_giveBack_24 ?_
        refine z_ldc2 (v := 4294967295) F dX8_giveBack_25 cn_X8_23 ?_
        refine z_land F dX8_giveBack_28 ?_
        refine z_tl (lowU _) ?_
        refine z_aload_n F dX8_giveBack_29 rfl ?_
        refine z_getR F dX8_giveBack_30 gr_X8_9 (by assumption) (by assumption) ?_
        refine z_iload F dX8_giveBack_33 rfl ?_
        refine z_iald F dX8_giveBack_35 (by assumption) (in16 hod hiL) ?_
        refine z_ti r1 ?_
        refine z_i2l F dX8_giveBack_36 ?_
        refine z_ldc2 (v := 4294967295) F dX8_giveBack_37 cn_X8_23 ?_
        refine z_land F dX8_giveBack_40 ?_
        refine z_tl (lowU _) ?_
        refine z_ladd F dX8_giveBack_41 ?_
        refine z_tl (lN_add _ _) ?_
        refine z_ladd F dX8_giveBack_42 ?_
        refine z_tl (lN_add _ _) ?_
        refine z_lstore_n_3 F dX8_giveBack_43 rfl ?_
        refine z_aload_n F dX8_giveBack_44 rfl ?_
        refine z_getR F dX8_giveBack_45 gr_X8_9 (by assumption) (by assumption) ?_
        refine z_iload_n F dX8_giveBack_48 rfl ?_
        refine z_iload F dX8_giveBack_49 rfl ?_
        refine z_iadd F dX8_giveBack_51 ?_
        refine z_ti (nI_add j i) ?_
        refine z_lload_n F dX8_giveBack_52 rfl ?_
        refine z_l2i F dX8_giveBack_53 ?_
        refine z_ti (lN_i _) ?_
        refine z_iast F dX8_giveBack_54 (by assumption) (in16 ho hji) ?_
        refine z_V (show _ = sA V g (upd f (j + i) (nI (c + (uu (vA V g (j + i)) + uu (vA V gd i))))) by rw [vA_sA_self, sA_sA, hclj]) ?_
        refine z_lload_n F dX8_giveBack_55 rfl ?_
        refine z_bipush (v := nI 32) F dX8_giveBack_56 (by decide) ?_
        refine z_lushr F dX8_giveBack_58 ?_
        refine z_tl (lN_shr32 (by omega)) ?_
        refine z_lstore_n_3 F dX8_giveBack_59 rfl ?_
        refine z_iinc_5 F dX8_giveBack_60 rfl ?_
        refine z_goto (tgt := 5) F dX8_giveBack_63 (by decide) ?_
        rw [show nI i + Int32.ofInt 1 = nI (i + 1) from nI_1 i]
        refine ih (i + 1) _ _ (by omega) ?_ (fun k hk => by rw [pk_un (by omega)]; exact hf k (by omega)) (by omega)
        rw [wv_succ, wv_up_ge (Nat.le_refl _), pk_us, uu_nI, wv_succ, vl_succ, Nat.pow_succ]
        have h1 := digsplit (c + (uu (vA V g (j + i)) + uu (vA V gd i))) (4294967296 ^ i)
        rw [Nat.add_mul, Nat.add_mul] at h1
        omega
  refine z_lconst (v := lN 0) F dX8_giveBack_0 (by decide) ?_
  refine z_lstore_n_3 F dX8_giveBack_1 rfl ?_
  refine z_iconst (v := nI 0) F dX8_giveBack_2 (by decide) ?_
  refine z_istore_5 F dX8_giveBack_3 rfl ?_
  refine z_V (sA_id V g).symm ?_
  exact loop (nl D) 0 (vA V g) 0 (by omega) (by simp [vl, wv]) (fun k _ => rfl) (by decide)
