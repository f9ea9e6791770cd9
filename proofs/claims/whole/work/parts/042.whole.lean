/-! ===== Whole: against, increase, decrease, scale ===== -/
set_option maxRecDepth 100000 in
/-- against(other): -1, 0, 1 -/
theorem c_against {Γ : Gm} {Z : Hz} {V : Hv} {o g o' g' x y : Nat} (ho : wh Z o g) (ho' : wh Z o' g') (hv : vv V o g x) (hv' : vv V o' g' y) : zCt Γ mX8_against 0 0 0 0 [.ref o, .ref o'] (Z, V) (pI (q0 Z V (cmpI x y))) := by
  refine zCt.of [some (.ref o), some (.ref o'), none] pn_X8_against rfl (Nat.le_of_ble_eq_true rfl) rfl (fun κ F => ?_)
  obtain ⟨ho7, hog, hg, hn16⟩ := id ho
  obtain ⟨ho7', hog', hg', hn16'⟩ := id ho'
  have hl := hv.len
  have hl' := hv'.len
  have loop : ∀ k, k ≤ 16 → x / 4294967296 ^ k = y / 4294967296 ^ k → zX Γ κ (Z, V) 0 0 (zQ Γ κ (pI (q0 Z V (cmpI x y))) 0 0) 35 [some (.ref o), some (.ref o'), some (.int (nI k - nI 1))] [] := by
    intro k
    induction k with
    | zero =>
      intro _ he
      have he : x = y := by simpa using he
      refine z_iload_n F dX8_against_35 rfl ?_
      refine z_if_lt (tgt := 92) F dX8_against_36 (by decide) (fun c => ?_) (fun c => ?_)
      · refine z_iconst (v := nI 0) F dX8_against_92 (by decide) ?_
        exact z_iret F dX8_against_93 rfl ⟨by simp [cmpI, he]; rfl, rfl⟩
      · exact absurd nI_0m1 c
    | succ k ih =>
      intro hk he
      have e1 := hv.limb (i := k) (by omega)
      have e2 := hv'.limb (i := k) (by omega)
      have d1 : x / 4294967296 ^ k % 4294967296 < 4294967296 := Nat.mod_lt _ (by decide)
      have d2 : y / 4294967296 ^ k % 4294967296 < 4294967296 := Nat.mod_lt _ (by decide)
      have s1 := div_step x k
      have s2 := div_step y k
      rw [nI_km1]
      have hcl := cl16 (i := k) (by omega)
      refine z_iload_n F dX8_against_35 rfl ?_
      refine z_if_lt (tgt := 92) F dX8_against_36 (by decide) (fun c => ?_) (fun c => ?_)
      · exact absurd c (nI_pos (by omega))
      · refine z_aload_n F dX8_against_39 rfl ?_
        refine z_getR F dX8_against_40 gr_X8_9 (by assumption) (by assumption) ?_
        refine z_iload_n F dX8_against_43 rfl ?_
        refine z_iald F dX8_against_44 (by assumption) (in16 ho (by omega)) ?_
        refine z_ti ((congrArg (vA V g) hcl).trans e1) ?_
        refine z_aload_n F dX8_against_45 rfl ?_
        refine z_getR F dX8_against_46 gr_X8_9 (by assumption) (by assumption) ?_
        refine z_iload_n F dX8_against_49 rfl ?_
        refine z_iald F dX8_against_50 (by assumption) (in16 ho' (by omega)) ?_
        refine z_ti ((congrArg (vA V g') hcl).trans e2) ?_
        refine z_icmp_eq (tgt := 86) F dX8_against_51 (by decide) (fun c2 => ?_) (fun c2 => ?_)
        · have c3 := (nI_inj32 d1 d2).mp c2
          refine z_iinc_2 F dX8_against_86 rfl ?_
          refine z_goto (tgt := 35) F dX8_against_89 (by decide) ?_
          rw [nI_m1]
          exact ih (by omega) (by rw [s1, s2, he, c3])
        · have c3 := mt (nI_inj32 d1 d2).mpr c2
          refine z_aload_n F dX8_against_54 rfl ?_
          refine z_getR F dX8_against_55 gr_X8_9 (by assumption) (by assumption) ?_
          refine z_iload_n F dX8_against_58 rfl ?_
          refine z_iald F dX8_against_59 (by assumption) (in16 ho (by omega)) ?_
          refine z_ti ((congrArg (vA V g) hcl).trans e1) ?_
          refine z_i2l F dX8_against_60 ?_
          refine z_ldc2 (v := 4294967295) F dX8_against_61 cn_X8_23 ?_
          refine z_land F dX8_against_64 ?_
          refine z_tl (lowN d1) ?_
          refine z_aload_n F dX8_against_65 rfl ?_
          refine z_getR F dX8_against_66 gr_X8_9 (by assumption) (by assumption) ?_
          refine z_iload_n F dX8_against_69 rfl ?_
          refine z_iald F dX8_against_70 (by assumption) (in16 ho' (by omega)) ?_
          refine z_ti ((congrArg (vA V g') hcl).trans e2) ?_
          refine z_i2l F dX8_against_71 ?_
          refine z_ldc2 (v := 4294967295) F dX8_against_72 cn_X8_23 ?_
          refine z_land F dX8_against_75 ?_
          refine z_tl (lowN d2) ?_
          refine z_lcmp F dX8_against_76 ?_
          refine z_if_ge (tgt := 84) F dX8_against_77 (by decide) (fun c4 => ?_) (fun c4 => ?_)
          · have c5 := (pk_lLE (by omega) (by omega)).mp ((lg_cmp_ge _ _).mp c4)
            have hlt : y < x := Nat.lt_of_div_lt_div (c := 4294967296 ^ k) (by omega)
            refine z_iconst (v := nI 1) F dX8_against_84 (by decide) ?_
            exact z_iret F dX8_against_85 rfl ⟨by simp only [cmpI, if_neg (Nat.not_lt.mpr (Nat.le_of_lt hlt)), if_neg (Nat.ne_of_gt hlt)]; rfl, rfl⟩
          · have c5 := mt (lg_cmp_ge _ _).mpr c4
            have c6 := mt (pk_lLE (a := y / 4294967296 ^ k % 4294967296) (b := x / 4294967296 ^ k % 4294967296) (by omega) (by omega)).mpr c5
            have hlt : x < y := Nat.lt_of_div_lt_div (c := 4294967296 ^ k) (by omega)
            refine z_iconst (v := (-1)) F dX8_against_80 (by decide) ?_
            refine z_goto (tgt := 85) F dX8_against_81 (by decide) ?_
            exact z_iret F dX8_against_85 rfl ⟨by simp only [cmpI, if_pos hlt], rfl⟩
  refine z_aload_n F dX8_against_0 rfl ?_
  refine z_getI F dX8_against_1 gi_X8_19 (by assumption) ?_
  refine z_ti hv.2 ?_
  refine z_aload_n F dX8_against_4 rfl ?_
  refine z_getI F dX8_against_5 gi_X8_19 (by assumption) ?_
  refine z_ti hv'.2 ?_
  refine z_icmp_eq (tgt := 28) F dX8_against_8 (by decide) (fun c => ?_) (fun c => ?_)
  · have c1 := (nI_eq (by omega) (by omega)).mp c
    refine z_aload_n F dX8_against_28 rfl ?_
    refine z_getI F dX8_against_29 gi_X8_19 (by assumption) ?_
    refine z_ti hv.2 ?_
    refine z_iconst (v := nI 1) F dX8_against_32 (by decide) ?_
    refine z_isub F dX8_against_33 ?_
    refine z_istore_n_2 F dX8_against_34 rfl ?_
    exact loop (nl x) hl (by
      rw [Nat.div_eq_of_lt (lt_pow_nl x), Nat.div_eq_of_lt (by rw [c1]; exact lt_pow_nl y)])
  · have c1 := mt (nI_eq (a := nl x) (b := nl y) (by omega) (by omega)).mpr c
    refine z_aload_n F dX8_against_11 rfl ?_
    refine z_getI F dX8_against_12 gi_X8_19 (by assumption) ?_
    refine z_ti hv.2 ?_
    refine z_aload_n F dX8_against_15 rfl ?_
    refine z_getI F dX8_against_16 gi_X8_19 (by assumption) ?_
    refine z_ti hv'.2 ?_
    refine z_icmp_ge (tgt := 26) F dX8_against_19 (by decide) (fun c2 => ?_) (fun c2 => ?_)
    · have c3 := (nI_leI (by omega) (by omega)).mp c2
      have hlt : y < x := Nat.lt_of_lt_of_le (lt_pow_nl y) (lt_nl.mp (by omega))
      refine z_iconst (v := nI 1) F dX8_against_26 (by decide) ?_
      exact z_iret F dX8_against_27 rfl ⟨by simp only [cmpI, if_neg (Nat.not_lt.mpr (Nat.le_of_lt hlt)), if_neg (Nat.ne_of_gt hlt)]; rfl, rfl⟩
    · have c3 := mt (nI_leI (a := nl y) (b := nl x) (by omega) (by omega)).mpr c2
      have hlt : x < y := Nat.lt_of_lt_of_le (lt_pow_nl x) (lt_nl.mp (by omega))
      refine z_iconst (v := (-1)) F dX8_against_22 (by decide) ?_
      refine z_goto (tgt := 27) F dX8_against_23 (by decide) ?_
      exact z_iret F dX8_against_27 rfl ⟨by simp only [cmpI, if_pos hlt], rfl⟩
set_option maxRecDepth 100000 in
/-- increase(other) -/
theorem c_increase {Γ : Gm} {Z : Hz} {V : Hv} {o g o' g' x y : Nat} (ho : wh Z o g) (ho' : wh Z o' g') (hv : vv V o g x) (hv' : vv V o' g' y) (hgg : g' ≠ g) (hoo : o' ≠ o) (hxy : x + y < 4294967296 ^ 16) : zCt Γ mX8_increase 1 21 0 0 [.ref o, .ref o'] (Z, V) (pV (rW Z V o g (x + y))) := by
  refine zCt.of [some (.ref o), some (.ref o'), none, none, none, none] pn_X8_increase rfl (Nat.le_of_ble_eq_true rfl) rfl (fun κ F => ?_)
  obtain ⟨ho7, hog, hg, hn16⟩ := id ho
  obtain ⟨ho7', hog', hg', hn16'⟩ := id ho'
  have hl := hv.len
  have hl' := hv'.len
  obtain ⟨e, he⟩ : ∃ e, e = max (nl x) (nl y) := ⟨_, rfl⟩
  have he16 : e ≤ 16 := by omega
  have hx : vl (vA V g) e = x := by
    rw [← vl_top he16 (fun i h1 h2 => hv.hi i (by omega) h2)]; exact hv.1
  have hy : vl (vA V g') e = y := by
    rw [← vl_top he16 (fun i h1 h2 => hv'.hi i (by omega) h2)]; exact hv'.1
  have loop : ∀ (d i : Nat) (f : Nat → Int32) (c : Nat), i + d = e → vl f i + c * 4294967296 ^ i = vl (vA V g) i + vl (vA V g') i → (∀ j, i ≤ j → f j = vA V g j) → c ≤ 1 → zX Γ κ (Z, sA V g f) 0 0 (zQ Γ κ (pV (rW Z V o g (x + y))) 0 0) 17 [some (.ref o), some (.ref o'), some (.int (nI e)), some (.long (lN c)), none, some (.int (nI i))] [] := by
    intro d
    induction d with
    | zero =>
      intro i f c hi hs hf hc
      have hie : i = e := by omega
      subst hie
      rw [hx, hy] at hs
      refine z_iload F dX8_increase_17 rfl ?_
      refine z_iload_n F dX8_increase_19 rfl ?_
      refine z_icmp_ge (tgt := 71) F dX8_increase_20 (by decide) (fun c1 => ?_) (fun c1 => ?_)
      · refine z_aload_n F dX8_increase_71 rfl ?_
        refine z_iload_n F dX8_increase_72 rfl ?_
        refine z_putI F dX8_increase_73 pi_X8_19 (zf_7_1 _) (by assumption) ?_
        refine z_aload_n F dX8_increase_76 rfl ?_
        refine z_lload_n F dX8_increase_77 rfl ?_
        refine z_l2i F dX8_increase_78 ?_
        refine z_ti (lN_i c) ?_
        have hA : vA (sA V g f) g = f := vA_sA_self _ _ _
        have hz : ∀ j, i ≤ j → j < 16 → f j = 0 := fun j h1 h2 => by rw [hf j h1]; exact hv.hi j (by omega) h2
        have hap : i = 16 → nI c = 0 := fun h => by
          have hc0 : c = 0 := by
            rw [h] at hs
            apply Decidable.byContradiction
            intro z
            have : c = 1 := by omega
            rw [this] at hs
            omega
          rw [hc0]; rfl
        refine z_cVv F (c_append (L := i) ho (vI_sI_self _ _ _ _ _) he16 hap) dX8_increase_79 ml_X8_37 ok_X8_append ho7 (by decide) rfl rfl rfl (Nat.le_of_ble_eq_true rfl) (by decide) (by decide) (fun S' hS' => ?_)
        subst hS'
        by_cases hc0 : c = 0
        · subst hc0
          rw [if_pos nI_0]
          have hsum : vl f i = x + y := by omega
          have hnl : nl (x + y) = i := nl_eq (by rw [← hsum]; exact vl_lt f i) (by
            rcases Nat.eq_zero_or_pos i with h0 | h0
            · exact Or.inl h0
            · right
              rcases Nat.le_total (nl x) (nl y) with h1 | h1
              · have := lt_nl.mp (show i - 1 < nl y by omega); omega
              · have := lt_nl.mp (show i - 1 < nl x by omega); omega)
          exact z_vret F dX8_increase_82 rfl ⟨_, rfl, oW.mk V o g _ _, by
            show vl (vA (sA V g f) g) 16 = _
            rw [hA, vl_top he16 hz, hsum], by rw [vI_sI_self, hnl]⟩
        · have hc1 : c = 1 := by omega
          subst hc1
          rw [if_neg (by decide)]
          have h16 : i < 16 := by
            apply Decidable.byContradiction
            intro z
            have : i = 16 := by omega
            rw [this] at hs
            omega
          have hsum : vl f i + 4294967296 ^ i = x + y := by omega
          have hnl : nl (x + y) = i + 1 := nl_eq (by
            rw [Nat.pow_succ]
            have := vl_lt f i
            omega) (Or.inr (by simp only [Nat.add_sub_cancel]; omega))
          have hA2 : vA (sI (sA V g f) 7 1 o (nI i)) g = f := hA
          exact z_vret F dX8_increase_82 rfl ⟨_, rfl, (oW.mk V o g f (nI i)).trans (oW.mk _ o g _ _), by
            show vl (vA (sA (sI (sA V g f) 7 1 o (nI i)) g _) g) 16 = _
            rw [vA_sA_self, hA2, vl_top (m := i + 1) (by omega) (fun j h1 h2 => by rw [pk_un (by omega)]; exact hz j (by omega) h2), vl_succ, vl_up_ge (Nat.le_refl _), pk_us, uu_nI]
            omega, by rw [vI_sI_self, hnl]⟩
      · exact absurd (nI_le (by omega) (by omega)) c1
    | succ d ih =>
      intro i f c hi hs hf hc
      have hiL : i < 16 := by omega
      have hcl := cl16 hiL
      have r1 : vA (sA V g f) g (nI i).toNatClampNeg = vA V g i := by rw [vA_sA_self, hcl]; exact hf i (Nat.le_refl _)
      have r2 : vA (sA V g f) g' (nI i).toNatClampNeg = vA V g' i := by rw [vA_sA_ne _ _ hgg, hcl]
      have b1 := uu_lt (vA V g i)
      have b2 := uu_lt (vA V g' i)
      refine z_iload F dX8_increase_17 rfl ?_
      refine z_iload_n F dX8_increase_19 rfl ?_
      refine z_icmp_ge (tgt := 71) F dX8_increase_20 (by decide) (fun c1 => ?_) (fun c1 => ?_)
      · exact absurd ((nI_leI (by omega) (by omega)).mp c1) (by omega)
      · refine z_lload_n F dX8_increase_23 rfl ?_
        refine z_aload_n F dX8_increase_24 rfl ?_
        refine z_getR F dX8_increase_25 gr_X8_9 (by assumption) (by assumption) ?_
        refine z_iload F dX8_increase_28 rfl ?_
        refine z_iald F dX8_increase_30 (by assumption) (in16 ho hiL) ?_
        refine z_ti r1 ?_
        refine z_i2l F dX8_increase_31 ?_
        refine z_ldc2 (v := 4294967295) F dX8_increase_32 cn_X8_23 ?_
        refine z_land F dX8_increase_35 ?_
        refine z_tl (lowU _) ?_
        refine z_aload_n F dX8_increase_36 rfl ?_
        refine z_getR F dX8_increase_37 gr_X8_9 (by assumption) (by assumption) ?_
        refine z_iload F dX8_increase_40 rfl ?_
        refine z_iald F dX8_increase_42 (by assumption) (in16 ho' hiL) ?_
        refine z_ti r2 ?_
        refine z_i2l F dX8_increase_43 ?_
        refine z_ldc2 (v := 4294967295) F dX8_increase_44 cn_X8_23 ?_
        refine z_land F dX8_increase_47 ?_
        refine z_tl (lowU _) ?_
        refine z_ladd F dX8_increase_48 ?_
        refine z_tl (lN_add _ _) ?_
        refine z_ladd F dX8_increase_49 ?_
        refine z_tl (lN_add _ _) ?_
        refine z_lstore_n_3 F dX8_increase_50 rfl ?_
        refine z_aload_n F dX8_increase_51 rfl ?_
        refine z_getR F dX8_increase_52 gr_X8_9 (by assumption) (by assumption) ?_
        refine z_iload F dX8_increase_55 rfl ?_
        refine z_lload_n F dX8_increase_57 rfl ?_
        refine z_l2i F dX8_increase_58 ?_
        refine z_ti (lN_i _) ?_
        refine z_iast F dX8_increase_59 (by assumption) (in16 ho hiL) ?_
        refine z_V (show _ = sA V g (upd f i (nI (c + (uu (vA V g i) + uu (vA V g' i))))) by rw [vA_sA_self, sA_sA, hcl]) ?_
        refine z_lload_n F dX8_increase_60 rfl ?_
        refine z_bipush (v := nI 32) F dX8_increase_61 (by decide) ?_
        refine z_lushr F dX8_increase_63 ?_
        refine z_tl (lN_shr32 (by omega)) ?_
        refine z_lstore_n_3 F dX8_increase_64 rfl ?_
        refine z_iinc_5 F dX8_increase_65 rfl ?_
        refine z_goto (tgt := 17) F dX8_increase_68 (by decide) ?_
        rw [show nI i + Int32.ofInt 1 = nI (i + 1) from nI_1 i]
        refine ih (i + 1) _ _ (by omega) ?_ (fun j hj => by rw [pk_un (by omega)]; exact hf j (by omega)) (by omega)
        rw [vl_succ, vl_up_ge (Nat.le_refl _), pk_us, uu_nI, vl_succ, vl_succ, Nat.pow_succ]
        have h1 := digsplit (c + (uu (vA V g i) + uu (vA V g' i))) (4294967296 ^ i)
        rw [Nat.add_mul, Nat.add_mul] at h1
        omega
  refine z_aload_n F dX8_increase_0 rfl ?_
  refine z_getI F dX8_increase_1 gi_X8_19 (by assumption) ?_
  refine z_ti hv.2 ?_
  refine z_aload_n F dX8_increase_4 rfl ?_
  refine z_getI F dX8_increase_5 gi_X8_19 (by assumption) ?_
  refine z_ti hv'.2 ?_
  refine z_max F dX8_increase_8 ml_X8_31 rfl (by decide) (by decide) ?_
  refine z_ti (max_nI (by omega) (by omega)) ?_
  rw [← he]
  refine z_istore_n_2 F dX8_increase_11 rfl ?_
  refine z_lconst (v := lN 0) F dX8_increase_12 (by decide) ?_
  refine z_lstore_n_3 F dX8_increase_13 rfl ?_
  refine z_iconst (v := nI 0) F dX8_increase_14 (by decide) ?_
  refine z_istore_5 F dX8_increase_15 rfl ?_
  refine z_V (sA_id V g).symm ?_
  exact loop e 0 (vA V g) 0 (by omega) (by simp [vl]) (fun j _ => rfl) (by decide)
set_option maxRecDepth 100000 in
/-- decrease(other), which is not above -/
theorem c_decrease {Γ : Gm} {Z : Hz} {V : Hv} {o g o' g' x y : Nat} (ho : wh Z o g) (ho' : wh Z o' g') (hv : vv V o g x) (hv' : vv V o' g' y) (hgg : g' ≠ g) (hyx : y ≤ x) : zCt Γ mX8_decrease 1 20 0 0 [.ref o, .ref o'] (Z, V) (pV (rW Z V o g (x - y))) := by
  refine zCt.of [some (.ref o), some (.ref o'), none, none, none] pn_X8_decrease rfl (Nat.le_of_ble_eq_true rfl) rfl (fun κ F => ?_)
  obtain ⟨ho7, hog, hg, hn16⟩ := id ho
  obtain ⟨ho7', hog', hg', hn16'⟩ := id ho'
  have hl := hv.len
  obtain ⟨e, he⟩ : ∃ e, e = nl x := ⟨_, rfl⟩
  have he16 : e ≤ 16 := by omega
  have hx : vl (vA V g) e = x := by
    rw [← vl_top he16 (fun i h1 h2 => hv.hi i (by omega) h2)]; exact hv.1
  have hyle : nl y ≤ e := by rw [he]; exact nl_le.mpr (Nat.lt_of_le_of_lt hyx (lt_pow_nl x))
  have hy : vl (vA V g') e = y := by
    rw [← vl_top he16 (fun i h1 h2 => hv'.hi i (by omega) h2)]; exact hv'.1
  have hI : ∀ f, vI (sA V g f) 7 1 o = nI e := fun f => by rw [he]; exact hv.2
  have loop : ∀ (d i : Nat) (f : Nat → Int32) (c : Nat), i + d = e → vl f i + vl (vA V g') i = vl (vA V g) i + c * 4294967296 ^ i → (∀ j, i ≤ j → f j = vA V g j) → c ≤ 1 → zX Γ κ (Z, sA V g f) 0 0 (zQ Γ κ (pV (rW Z V o g (x - y))) 0 0) 5 [some (.ref o), some (.ref o'), some (.long (iN (-(c : Int)))), none, some (.int (nI i))] [] := by
    intro d
    induction d with
    | zero =>
      intro i f c hi hs hf hc
      have hie : i = e := by omega
      subst hie
      rw [hx, hy] at hs
      have hfl := vl_lt f i
      have hc0 : c = 0 := by
        apply Decidable.byContradiction
        intro z
        have : c = 1 := by omega
        rw [this] at hs
        omega
      have hz : ∀ j, i ≤ j → j < 16 → f j = 0 := fun j h1 h2 => by rw [hf j h1]; exact hv.hi j (by omega) h2
      have hsum : vl f i = x - y := by rw [hc0] at hs; omega
      have hA : vl (vA (sA V g f) g) 16 = x - y := by rw [vA_sA_self, vl_top he16 hz, hsum]
      refine z_iload F dX8_decrease_5 rfl ?_
      refine z_aload_n F dX8_decrease_7 rfl ?_
      refine z_getI F dX8_decrease_8 gi_X8_19 (by assumption) ?_
      refine z_ti (hI f) ?_
      refine z_icmp_ge (tgt := 62) F dX8_decrease_11 (by decide) (fun c1 => ?_) (fun c1 => ?_)
      · refine z_aload_n F dX8_decrease_62 rfl ?_
        refine z_cVv F (c_trim (L := i) ho hA (hI f) he16 (by rw [← hsum]; exact hfl)) dX8_decrease_63 ml_X8_41 ok_X8_trim ho7 (by decide) rfl rfl rfl (Nat.le_of_ble_eq_true rfl) (by decide) (by decide) (fun S' hS' => ?_)
        subst hS'
        exact z_vret F dX8_decrease_66 rfl ⟨_, rfl, oW.mk V o g _ _, hA, by rw [vI_sI_self]⟩
      · exact absurd (nI_le (by omega) (by omega)) c1
    | succ d ih =>
      intro i f c hi hs hf hc
      have hiL : i < 16 := by omega
      have hcl := cl16 hiL
      have r1 : vA (sA V g f) g (nI i).toNatClampNeg = vA V g i := by rw [vA_sA_self, hcl]; exact hf i (Nat.le_refl _)
      have r2 : vA (sA V g f) g' (nI i).toNatClampNeg = vA V g' i := by rw [vA_sA_ne _ _ hgg, hcl]
      obtain ⟨s1, s2, s3⟩ := sub_step (uu_lt (vA V g i)) (uu_lt (vA V g' i)) hc
      refine z_iload F dX8_decrease_5 rfl ?_
      refine z_aload_n F dX8_decrease_7 rfl ?_
      refine z_getI F dX8_decrease_8 gi_X8_19 (by assumption) ?_
      refine z_ti (hI f) ?_
      refine z_icmp_ge (tgt := 62) F dX8_decrease_11 (by decide) (fun c1 => ?_) (fun c1 => ?_)
      · exact absurd ((nI_leI (by omega) (by omega)).mp c1) (by omega)
      · refine z_lload_n F dX8_decrease_14 rfl ?_
        refine z_aload_n F dX8_decrease_15 rfl ?_
        refine z_getR F dX8_decrease_16 gr_X8_9 (by assumption) (by assumption) ?_
        refine z_iload F dX8_decrease_19 rfl ?_
        refine z_iald F dX8_decrease_21 (by assumption) (in16 ho hiL) ?_
        refine z_ti r1 ?_
        refine z_i2l F dX8_decrease_22 ?_
        refine z_ldc2 (v := 4294967295) F dX8_decrease_23 cn_X8_23 ?_
        refine z_land F dX8_decrease_26 ?_
        refine z_tl (lowU _) ?_
        refine z_aload_n F dX8_decrease_27 rfl ?_
        refine z_getR F dX8_decrease_28 gr_X8_9 (by assumption) (by assumption) ?_
        refine z_iload F dX8_decrease_31 rfl ?_
        refine z_iald F dX8_decrease_33 (by assumption) (in16 ho' hiL) ?_
        refine z_ti r2 ?_
        refine z_i2l F dX8_decrease_34 ?_
        refine z_ldc2 (v := 4294967295) F dX8_decrease_35 cn_X8_23 ?_
        refine z_land F dX8_decrease_38 ?_
        refine z_tl (lowU _) ?_
        refine z_lsub F dX8_decrease_39 ?_
        refine z_ladd F dX8_decrease_40 ?_
        refine z_lstore_n_2 F dX8_decrease_41 rfl ?_
        refine z_aload_n F dX8_decrease_42 rfl ?_
        refine z_getR F dX8_decrease_43 gr_X8_9 (by assumption) (by assumption) ?_
        refine z_iload F dX8_decrease_46 rfl ?_
        refine z_lload_n F dX8_decrease_48 rfl ?_
        refine z_l2i F dX8_decrease_49 ?_
        refine z_ti s1 ?_
        refine z_iast F dX8_decrease_50 (by assumption) (in16 ho hiL) ?_
        refine z_V (show _ = sA V g (upd f i (nI ((uu (vA V g i) + 4294967296 - uu (vA V g' i) - c) % 4294967296))) by rw [vA_sA_self, sA_sA, hcl]) ?_
        refine z_lload_n F dX8_decrease_51 rfl ?_
        refine z_bipush (v := nI 32) F dX8_decrease_52 (by decide) ?_
        refine z_lshr F dX8_decrease_54 ?_
        refine z_tl s2 ?_
        refine z_lstore_n_2 F dX8_decrease_55 rfl ?_
        refine z_iinc_4 F dX8_decrease_56 rfl ?_
        refine z_goto (tgt := 5) F dX8_decrease_59 (by decide) ?_
        rw [show nI i + Int32.ofInt 1 = nI (i + 1) from nI_1 i]
        refine ih (i + 1) _ _ (by omega) ?_ (fun j hj => by rw [pk_un (by omega)]; exact hf j (by omega)) (by split <;> omega)
        rw [vl_succ, vl_up_ge (Nat.le_refl _), pk_us, uu_nI, Nat.mod_mod, vl_succ, vl_succ, Nat.pow_succ]
        generalize hq : (uu (vA V g i) + 4294967296 - uu (vA V g' i) - c) % 4294967296 = q at s3 ⊢
        generalize (if uu (vA V g i) < uu (vA V g' i) + c then 1 else 0 : Nat) = c' at s3 ⊢
        have h1 := congrArg (· * 4294967296 ^ i) s3
        simp only [Nat.add_mul] at h1
        have h2 : c' * (4294967296 ^ i * 4294967296) = c' * 4294967296 * 4294967296 ^ i := by rw [Nat.mul_comm (4294967296 ^ i), Nat.mul_assoc]
        omega
  refine z_lconst (v := lN 0) F dX8_decrease_0 (by decide) ?_
  refine z_lstore_n_2 F dX8_decrease_1 rfl ?_
  refine z_iconst (v := nI 0) F dX8_decrease_2 (by decide) ?_
  refine z_istore_4 F dX8_decrease_3 rfl ?_
  refine z_V (sA_id V g).symm ?_
  exact loop e 0 (vA V g) 0 (by omega) (by simp [vl]) (fun j _ => rfl) (by decide)
set_option maxRecDepth 100000 in
/-- scale(factor), 0 or above -/
theorem c_scale {Γ : Gm} {Z : Hz} {V : Hv} {o g x k : Nat} (ho : wh Z o g) (hv : vv V o g x) (hk : k < 2147483648) (hxk : x * k < 4294967296 ^ 16) : zCt Γ mX8_scale 1 21 0 0 [.ref o, .int (nI k)] (Z, V) (pV (rW Z V o g (x * k))) := by
  refine zCt.of [some (.ref o), some (.int (nI k)), none, none, none] pn_X8_scale rfl (Nat.le_of_ble_eq_true rfl) rfl (fun κ F => ?_)
  obtain ⟨ho7, hog, hg, hn16⟩ := id ho
  have hl := hv.len
  obtain ⟨e, he⟩ : ∃ e, e = nl x := ⟨_, rfl⟩
  have he16 : e ≤ 16 := by omega
  have hx : vl (vA V g) e = x := by
    rw [← vl_top he16 (fun i h1 h2 => hv.hi i (by omega) h2)]; exact hv.1
  have hI : ∀ f, vI (sA V g f) 7 1 o = nI e := fun f => by rw [he]; exact hv.2
  have hk64 : (nI k).toInt64 = lN k := nI_l hk
  have loop : ∀ (d i : Nat) (f : Nat → Int32) (c : Nat), i + d = e → vl f i + c * 4294967296 ^ i = vl (vA V g) i * k → (∀ j, i ≤ j → f j = vA V g j) → c < 2147483648 → zX Γ κ (Z, sA V g f) 0 0 (zQ Γ κ (pV (rW Z V o g (x * k))) 0 0) 5 [some (.ref o), some (.int (nI k)), some (.long (lN c)), none, some (.int (nI i))] [] := by
    intro d
    induction d with
    | zero =>
      intro i f c hi hs hf hc
      have hie : i = e := by omega
      subst hie
      rw [hx] at hs
      have hfl := vl_lt f i
      have hz : ∀ j, i ≤ j → j < 16 → f j = 0 := fun j h1 h2 => by rw [hf j h1]; exact hv.hi j (by omega) h2
      have hA : vA (sA V g f) g = f := vA_sA_self _ _ _
      have hap : i = 16 → nI c = 0 := fun h => by
        have hc0 : c = 0 := by
          rw [h] at hs
          apply Decidable.byContradiction
          intro z
          have : 1 * 4294967296 ^ 16 ≤ c * 4294967296 ^ 16 := Nat.mul_le_mul_right _ (by omega)
          omega
        rw [hc0]; rfl
      refine z_iload F dX8_scale_5 rfl ?_
      refine z_aload_n F dX8_scale_7 rfl ?_
      refine z_getI F dX8_scale_8 gi_X8_19 (by assumption) ?_
      refine z_ti (hI f) ?_
      refine z_icmp_ge (tgt := 52) F dX8_scale_11 (by decide) (fun c1 => ?_) (fun c1 => ?_)
      · refine z_aload_n F dX8_scale_52 rfl ?_
        refine z_lload_n F dX8_scale_53 rfl ?_
        refine z_l2i F dX8_scale_54 ?_
        refine z_ti (lN_i c) ?_
        refine z_cVv F (c_append (L := i) ho (hI f) he16 hap) dX8_scale_55 ml_X8_37 ok_X8_append ho7 (by decide) rfl rfl rfl (Nat.le_of_ble_eq_true rfl) (by decide) (by decide) (fun S' hS' => ?_)
        subst hS'
        by_cases hc0 : c = 0
        · subst hc0
          rw [if_pos nI_0]
          have hsum : vl f i = x * k := by omega
          have hA2 : vl (vA (sA V g f) g) 16 = x * k := by rw [hA, vl_top he16 hz, hsum]
          refine z_aload_n F dX8_scale_58 rfl ?_
          refine z_cVv F (c_trim (L := i) ho hA2 (hI f) he16 (by rw [← hsum]; exact hfl)) dX8_scale_59 ml_X8_41 ok_X8_trim ho7 (by decide) rfl rfl rfl (Nat.le_of_ble_eq_true rfl) (by decide) (by decide) (fun S'' hS'' => ?_)
          subst hS''
          exact z_vret F dX8_scale_62 rfl ⟨_, rfl, oW.mk V o g _ _, hA2, by rw [vI_sI_self]⟩
        · rw [if_neg (mt (nI_ne0' (by omega)).mp hc0)]
          have h16 : i < 16 := by
            apply Decidable.byContradiction
            intro z
            exact hc0 ((nI_ne0' (by omega)).mp (hap (by omega)))
          have hlt : x * k < 4294967296 ^ (i + 1) := by
            rw [← hs, Nat.pow_succ]
            have : c * 4294967296 ^ i ≤ 4294967295 * 4294967296 ^ i := Nat.mul_le_mul_right _ (by omega)
            omega
          have hA2 : vl (vA (sI (sA (sA V g f) g (upd (vA (sA V g f) g) i (nI c))) 7 1 o (nI (i + 1))) g) 16 = x * k := by
            show vl (vA (sA (sA V g f) g _) g) 16 = _
            rw [vA_sA_self, hA, vl_top (m := i + 1) (by omega) (fun j h1 h2 => by rw [pk_un (by omega)]; exact hz j (by omega) h2), vl_succ, vl_up_ge (Nat.le_refl _), pk_us, uu_nI, Nat.mod_eq_of_lt (by omega)]
            omega
          refine z_aload_n F dX8_scale_58 rfl ?_
          refine z_cVv F (c_trim (L := i + 1) ho hA2 (vI_sI_self _ _ _ _ _) (by omega) hlt) dX8_scale_59 ml_X8_41 ok_X8_trim ho7 (by decide) rfl rfl rfl (Nat.le_of_ble_eq_true rfl) (by decide) (by decide) (fun S'' hS'' => ?_)
          subst hS''
          exact z_vret F dX8_scale_62 rfl ⟨_, rfl, ((oW.mkA V o g f).trans (oW.mk _ o g _ _)).trans (oW.mkI _ o g _), hA2, by rw [vI_sI_self]⟩
      · exact absurd (nI_le (by omega) (by omega)) c1
    | succ d ih =>
      intro i f c hi hs hf hc
      have hiL : i < 16 := by omega
      have hcl := cl16 hiL
      have r1 : vA (sA V g f) g (nI i).toNatClampNeg = vA V g i := by rw [vA_sA_self, hcl]; exact hf i (Nat.le_refl _)
      have b1 := uu_lt (vA V g i)
      have b2 : k * uu (vA V g i) ≤ 2147483647 * 4294967295 := Nat.mul_le_mul (by omega) (by omega)
      refine z_iload F dX8_scale_5 rfl ?_
      refine z_aload_n F dX8_scale_7 rfl ?_
      refine z_getI F dX8_scale_8 gi_X8_19 (by assumption) ?_
      refine z_ti (hI f) ?_
      refine z_icmp_ge (tgt := 52) F dX8_scale_11 (by decide) (fun c1 => ?_) (fun c1 => ?_)
      · exact absurd ((nI_leI (by omega) (by omega)).mp c1) (by omega)
      · refine z_lload_n F dX8_scale_14 rfl ?_
        refine z_iload_n F dX8_scale_15 rfl ?_
        refine z_i2l F dX8_scale_16 ?_
        refine z_tl hk64 ?_
        refine z_aload_n F dX8_scale_17 rfl ?_
        refine z_getR F dX8_scale_18 gr_X8_9 (by assumption) (by assumption) ?_
        refine z_iload F dX8_scale_21 rfl ?_
        refine z_iald F dX8_scale_23 (by assumption) (in16 ho hiL) ?_
        refine z_ti r1 ?_
        refine z_i2l F dX8_scale_24 ?_
        refine z_ldc2 (v := 4294967295) F dX8_scale_25 cn_X8_23 ?_
        refine z_land F dX8_scale_28 ?_
        refine z_tl (lowU _) ?_
        refine z_lmul F dX8_scale_29 ?_
        refine z_tl (lN_mul _ _) ?_
        refine z_ladd F dX8_scale_30 ?_
        refine z_tl (lN_add _ _) ?_
        refine z_lstore_n_2 F dX8_scale_31 rfl ?_
        refine z_aload_n F dX8_scale_32 rfl ?_
        refine z_getR F dX8_scale_33 gr_X8_9 (by assumption) (by assumption) ?_
        refine z_iload F dX8_scale_36 rfl ?_
        refine z_lload_n F dX8_scale_38 rfl ?_
        refine z_l2i F dX8_scale_39 ?_
        refine z_ti (lN_i _) ?_
        refine z_iast F dX8_scale_40 (by assumption) (in16 ho hiL) ?_
        refine z_V (show _ = sA V g (upd f i (nI (c + k * uu (vA V g i)))) by rw [vA_sA_self, sA_sA, hcl]) ?_
        refine z_lload_n F dX8_scale_41 rfl ?_
        refine z_bipush (v := nI 32) F dX8_scale_42 (by decide) ?_
        refine z_lushr F dX8_scale_44 ?_
        refine z_tl (lN_shr32 (by omega)) ?_
        refine z_lstore_n_2 F dX8_scale_45 rfl ?_
        refine z_iinc_4 F dX8_scale_46 rfl ?_
        refine z_goto (tgt := 5) F dX8_scale_49 (by decide) ?_
        rw [show nI i + Int32.ofInt 1 = nI (i + 1) from nI_1 i]
        refine ih (i + 1) _ _ (by omega) ?_ (fun j hj => by rw [pk_un (by omega)]; exact hf j (by omega)) (by omega)
        rw [vl_succ, vl_up_ge (Nat.le_refl _), pk_us, uu_nI, vl_succ, Nat.pow_succ, Nat.add_mul]
        have h1 := digsplit (c + k * uu (vA V g i)) (4294967296 ^ i)
        rw [Nat.add_mul] at h1
        have h2 : uu (vA V g i) * 4294967296 ^ i * k = k * uu (vA V g i) * 4294967296 ^ i := by rw [Nat.mul_comm _ k, Nat.mul_assoc]
        omega
  refine z_lconst (v := lN 0) F dX8_scale_0 (by decide) ?_
  refine z_lstore_n_2 F dX8_scale_1 rfl ?_
  refine z_iconst (v := nI 0) F dX8_scale_2 (by decide) ?_
  refine z_istore_4 F dX8_scale_3 rfl ?_
  refine z_V (sA_id V g).symm ?_
  exact loop e 0 (vA V g) 0 (by omega) (by simp [vl]) (fun j _ => rfl) (by decide)
