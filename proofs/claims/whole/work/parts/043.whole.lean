/-! ===== Whole: setProduct, shifts, rests ===== -/
set_option maxRecDepth 100000 in
set_option maxHeartbeats 1000000 in
/-- setProduct(a, b) -/
theorem c_setProduct {Γ : Gm} {Z : Hz} {V : Hv} {o g oa ga ob gb z x y : Nat} (ho : wh Z o g) (hoa : wh Z oa ga) (hob : wh Z ob gb) (hv : vv V o g z) (hva : vv V oa ga x) (hvb : vv V ob gb y) (hga : ga ≠ g) (hgb : gb ≠ g) (hna : oa ≠ o) (hnb : ob ≠ o) (hsz : nl x + nl y ≤ 16) : zCt Γ mX8_setProduct 1 23 0 0 [.ref o, .ref oa, .ref ob] (Z, V) (pV (rW Z V o g (x * y))) := by
  refine zCt.of [some (.ref o), some (.ref oa), some (.ref ob), none, none, none, none, none, none] pn_X8_setProduct rfl (Nat.le_of_ble_eq_true rfl) rfl (fun κ F => ?_)
  obtain ⟨ho7, hog, hg, hn16⟩ := id ho
  obtain ⟨hoa7, hoag, hgA, hna16⟩ := id hoa
  obtain ⟨hob7, hobg, hgB, hnb16⟩ := id hob
  refine z_aload_n F dX8_setProduct_0 rfl ?_
  refine z_lconst (v := lN 0) F dX8_setProduct_1 (by decide) ?_
  refine z_cVv F (c_setBits ho hv (show 0 < 18446744073709551616 by decide)) dX8_setProduct_2 ml_X8_44 ok_X8_setBits ho7 (by decide) rfl rfl rfl (Nat.le_of_ble_eq_true rfl) (by decide) (by decide) (fun S' hS' => ?_)
  obtain ⟨V1, rfl, hw, hv1⟩ := hS'
  have hA1 : ∀ f, vA (sA V1 g f) ga = vA V ga := fun f => by rw [vA_sA_ne _ _ hga]; exact hw.2.1 ga hga
  have hB1 : ∀ f, vA (sA V1 g f) gb = vA V gb := fun f => by rw [vA_sA_ne _ _ hgb]; exact hw.2.1 gb hgb
  have hIa : ∀ f, vI (sA V1 g f) 7 1 oa = nI (nl x) := fun f => (hw.1 7 1 oa (fun q => hna q.2.2)).trans hva.2
  have hIb : ∀ f, vI (sA V1 g f) 7 1 ob = nI (nl y) := fun f => (hw.1 7 1 ob (fun q => hnb q.2.2)).trans hvb.2
  have hyb : vl (vA V gb) (nl y) = y := by
    rw [← vl_top hvb.len (fun i h1 h2 => hvb.hi i h1 h2)]; exact hvb.1
  have eadd : nI (nl x) + nI (nl y) = nI (nl x + nl y) := nI_add _ _
  -- the outer loop's head, pc 22
  have outer : ∀ (d i : Nat) (f : Nat → Int32) (l4 l6 l8 : Option Value), i + d = nl x → vl f 16 = x % 4294967296 ^ i * y → (∀ j, i + nl y ≤ j → j < 16 → f j = 0) → zc1 l8 = true → zX Γ κ (Z, sA V1 g f) 0 0 (zQ Γ κ (pV (rW Z V o g (x * y))) 0 0) 22 [some (.ref o), some (.ref oa), some (.ref ob), some (.int (nI i)), l4, none, l6, none, l8] [] := by
    intro d
    induction d with
    | zero =>
      intro i f l4 l6 l8 hi hs hf hl8
      have hie : i = nl x := by omega
      subst hie
      rw [Nat.mod_eq_of_lt (lt_pow_nl x)] at hs
      refine z_iload_n F dX8_setProduct_22 rfl ?_
      refine z_aload_n F dX8_setProduct_23 rfl ?_
      refine z_getI F dX8_setProduct_24 gi_X8_19 (by assumption) ?_
      refine z_ti (hIa f) ?_
      refine z_icmp_ge (tgt := 138) F dX8_setProduct_27 (by decide) (fun c1 => ?_) (fun c1 => ?_)
      · have hA : vl (vA (sI (sA V1 g f) 7 1 o (nI (nl x + nl y))) g) 16 = x * y := by
          show vl (vA (sA V1 g f) g) 16 = _
          rw [vA_sA_self]; exact hs
        have hlt : x * y < 4294967296 ^ (nl x + nl y) := by
          rw [← hs, vl_top (m := nl x + nl y) hsz hf]
          exact vl_lt _ _
        refine z_aload_n F dX8_setProduct_138 rfl ?_
        refine z_aload_n F dX8_setProduct_139 rfl ?_
        refine z_getI F dX8_setProduct_140 gi_X8_19 (by assumption) ?_
        refine z_ti (hIa f) ?_
        refine z_aload_n F dX8_setProduct_143 rfl ?_
        refine z_getI F dX8_setProduct_144 gi_X8_19 (by assumption) ?_
        refine z_ti (hIb f) ?_
        refine z_iadd F dX8_setProduct_147 ?_
        refine z_ti eadd ?_
        refine z_putI F dX8_setProduct_148 pi_X8_19 (zf_7_1 _) (by assumption) ?_
        refine z_aload_n F dX8_setProduct_151 rfl ?_
        refine z_cVv F (c_trim (L := nl x + nl y) ho hA (vI_sI_self _ _ _ _ _) hsz hlt) dX8_setProduct_152 ml_X8_41 ok_X8_trim ho7 (by decide) rfl rfl rfl (Nat.le_of_ble_eq_true rfl) (by decide) (by decide) (fun S' hS' => ?_)
        subst hS'
        exact z_vret F dX8_setProduct_155 rfl ⟨_, rfl, (hw.trans (oW.mk V1 o g f _)).trans (oW.mkI _ o g _), hA, by rw [vI_sI_self]⟩
      · exact absurd (nI_le (by omega) (by omega)) c1
    | succ d ih =>
      intro i f l4 l6 l8 hi hs hf hl8
      have hiL : i < 16 := by omega
      have hcl := cl16 hiL
      have rA : vA (sA V1 g f) ga (nI i).toNatClampNeg = nI (x / 4294967296 ^ i % 4294967296) := by rw [hA1, hcl]; exact hva.limb hiL
      have bA : x / 4294967296 ^ i % 4294967296 < 4294967296 := Nat.mod_lt _ (by decide)
      generalize hFa : x / 4294967296 ^ i % 4294967296 = fa at rA bA
      -- the inner loop's head, pc 49
      have inner : ∀ (d2 k : Nat) (f2 : Nat → Int32) (c : Nat), k + d2 = nl y → vl f2 16 + c * 4294967296 ^ (i + k) = vl f 16 + fa * vl (vA V gb) k * 4294967296 ^ i → (∀ j, i + k ≤ j → f2 j = f j) → c < 4294967296 → zX Γ κ (Z, sA V1 g f2) 0 0 (zQ Γ κ (pV (rW Z V o g (x * y))) 0 0) 49 [some (.ref o), some (.ref oa), some (.ref ob), some (.int (nI i)), some (.long (lN fa)), none, some (.long (lN c)), none, some (.int (nI k))] [] := by
        intro d2
        induction d2 with
        | zero =>
          intro k f2 c hk hs2 hf2 hc
          have hke : k = nl y := by omega
          subst hke
          rw [hyb] at hs2
          have hik : i + nl y < 16 := by omega
          refine z_iload F dX8_setProduct_49 rfl ?_
          refine z_aload_n F dX8_setProduct_51 rfl ?_
          refine z_getI F dX8_setProduct_52 gi_X8_19 (by assumption) ?_
          refine z_ti (hIb f2) ?_
          refine z_icmp_ge (tgt := 118) F dX8_setProduct_55 (by decide) (fun c2 => ?_) (fun c2 => ?_)
          · refine z_aload_n F dX8_setProduct_118 rfl ?_
            refine z_getR F dX8_setProduct_119 gr_X8_9 (by assumption) (by assumption) ?_
            refine z_iload_n F dX8_setProduct_122 rfl ?_
            refine z_aload_n F dX8_setProduct_123 rfl ?_
            refine z_getI F dX8_setProduct_124 gi_X8_19 (by assumption) ?_
            refine z_ti (hIb f2) ?_
            refine z_iadd F dX8_setProduct_127 ?_
            refine z_ti (nI_add i (nl y)) ?_
            refine z_lload F dX8_setProduct_128 rfl ?_
            refine z_l2i F dX8_setProduct_130 ?_
            refine z_ti (lN_i c) ?_
            refine z_iast F dX8_setProduct_131 (by assumption) (in16 ho hik) ?_
            refine z_V (show _ = sA V1 g (upd f2 (i + nl y) (nI c)) by rw [vA_sA_self, sA_sA, cl16 hik]) ?_
            refine z_iinc_3 F dX8_setProduct_132 rfl ?_
            refine z_goto (tgt := 22) F dX8_setProduct_135 (by decide) ?_
            rw [show nI i + Int32.ofInt 1 = nI (i + 1) from nI_1 i]
            have h0 : f2 (i + nl y) = 0 := by rw [hf2 _ (Nat.le_refl _)]; exact hf _ (Nat.le_refl _) hik
            have hup := vl_up (f := f2) (x := nI c) hik
            rw [h0, show uu 0 = 0 from rfl, uu_nI, Nat.mod_eq_of_lt hc] at hup
            refine ih (i + 1) _ _ _ _ (by omega) ?_ (fun j h1 h2 => ?_) rfl
            · rw [mod_div_pow, hFa, Nat.add_mul, ← hs, Nat.mul_right_comm]
              omega
            · rw [pk_un (by omega), hf2 j (by omega)]; exact hf j (by omega) h2
          · exact absurd (nI_le (by omega) (by omega)) c2
        | succ d2 ih2 =>
          intro k f2 c hk hs2 hf2 hc
          have hkL : k < 16 := by omega
          have hik : i + k < 16 := by omega
          have hclk := cl16 hkL
          have hclik := cl16 hik
          have rB : vA (sA V1 g f2) gb (nI k).toNatClampNeg = vA V gb k := by rw [hB1, hclk]
          have rF : vA (sA V1 g f2) g (nI (i + k)).toNatClampNeg = f2 (i + k) := by rw [vA_sA_self, hclik]
          have b1 := uu_lt (vA V gb k)
          have b2 := uu_lt (f2 (i + k))
          have b3 := mul_lt_sq bA b1
          refine z_iload F dX8_setProduct_49 rfl ?_
          refine z_aload_n F dX8_setProduct_51 rfl ?_
          refine z_getI F dX8_setProduct_52 gi_X8_19 (by assumption) ?_
          refine z_ti (hIb f2) ?_
          refine z_icmp_ge (tgt := 118) F dX8_setProduct_55 (by decide) (fun c2 => ?_) (fun c2 => ?_)
          · exact absurd ((nI_leI (by omega) (by omega)).mp c2) (by omega)
          · refine z_lload F dX8_setProduct_58 rfl ?_
            refine z_lload F dX8_setProduct_60 rfl ?_
            refine z_aload_n F dX8_setProduct_62 rfl ?_
            refine z_getR F dX8_setProduct_63 gr_X8_9 (by assumption) (by assumption) ?_
            refine z_iload F dX8_setProduct_66 rfl ?_
            refine z_iald F dX8_setProduct_68 (by assumption) (in16 hob hkL) ?_
            refine z_ti rB ?_
            refine z_i2l F dX8_setProduct_69 ?_
            refine z_ldc2 (v := 4294967295) F dX8_setProduct_70 cn_X8_23 ?_
            refine z_land F dX8_setProduct_73 ?_
            refine z_tl (lowU _) ?_
            refine z_lmul F dX8_setProduct_74 ?_
            refine z_tl (lN_mul _ _) ?_
            refine z_aload_n F dX8_setProduct_75 rfl ?_
            refine z_getR F dX8_setProduct_76 gr_X8_9 (by assumption) (by assumption) ?_
            refine z_iload_n F dX8_setProduct_79 rfl ?_
            refine z_iload F dX8_setProduct_80 rfl ?_
            refine z_iadd F dX8_setProduct_82 ?_
            refine z_ti (nI_add i k) ?_
            refine z_iald F dX8_setProduct_83 (by assumption) (in16 ho hik) ?_
            refine z_ti rF ?_
            refine z_i2l F dX8_setProduct_84 ?_
            refine z_ldc2 (v := 4294967295) F dX8_setProduct_85 cn_X8_23 ?_
            refine z_land F dX8_setProduct_88 ?_
            refine z_tl (lowU _) ?_
            refine z_ladd F dX8_setProduct_89 ?_
            refine z_tl (lN_add _ _) ?_
            refine z_ladd F dX8_setProduct_90 ?_
            refine z_tl (lN_add _ _) ?_
            refine z_lstore_6 F dX8_setProduct_91 rfl ?_
            refine z_aload_n F dX8_setProduct_93 rfl ?_
            refine z_getR F dX8_setProduct_94 gr_X8_9 (by assumption) (by assumption) ?_
            refine z_iload_n F dX8_setProduct_97 rfl ?_
            refine z_iload F dX8_setProduct_98 rfl ?_
            refine z_iadd F dX8_setProduct_100 ?_
            refine z_ti (nI_add i k) ?_
            refine z_lload F dX8_setProduct_101 rfl ?_
            refine z_l2i F dX8_setProduct_103 ?_
            refine z_ti (lN_i _) ?_
            refine z_iast F dX8_setProduct_104 (by assumption) (in16 ho hik) ?_
            refine z_V (show _ = sA V1 g (upd f2 (i + k) (nI (c + (fa * uu (vA V gb k) + uu (f2 (i + k)))))) by rw [vA_sA_self, sA_sA, hclik]) ?_
            refine z_lload F dX8_setProduct_105 rfl ?_
            refine z_bipush (v := nI 32) F dX8_setProduct_107 (by decide) ?_
            refine z_lushr F dX8_setProduct_109 ?_
            refine z_tl (lN_shr32 (by omega)) ?_
            refine z_lstore_6 F dX8_setProduct_110 rfl ?_
            refine z_iinc_8 F dX8_setProduct_112 rfl ?_
            refine z_goto (tgt := 49) F dX8_setProduct_115 (by decide) ?_
            rw [show nI k + Int32.ofInt 1 = nI (k + 1) from nI_1 k]
            refine ih2 (k + 1) _ _ (by omega) ?_ (fun j h1 => by rw [pk_un (by omega)]; exact hf2 j (by omega)) (by omega)
            have hup := vl_up (f := f2) (x := nI (c + (fa * uu (vA V gb k) + uu (f2 (i + k))))) hik
            rw [uu_nI] at hup
            have h1 := digsplit (c + (fa * uu (vA V gb k) + uu (f2 (i + k)))) (4294967296 ^ (i + k))
            rw [Nat.add_mul, Nat.add_mul] at h1
            rw [pow_step, vl_succ (vA V gb) k, Nat.mul_add, Nat.add_mul]
            have h2 : fa * (uu (vA V gb k) * 4294967296 ^ k) * 4294967296 ^ i = fa * uu (vA V gb k) * 4294967296 ^ (i + k) := by
              rw [Nat.pow_add, Nat.mul_comm (4294967296 ^ i)]
              simp only [Nat.mul_assoc]
            omega
      refine z_iload_n F dX8_setProduct_22 rfl ?_
      refine z_aload_n F dX8_setProduct_23 rfl ?_
      refine z_getI F dX8_setProduct_24 gi_X8_19 (by assumption) ?_
      refine z_ti (hIa f) ?_
      refine z_icmp_ge (tgt := 138) F dX8_setProduct_27 (by decide) (fun c1 => ?_) (fun c1 => ?_)
      · exact absurd ((nI_leI (by omega) (by omega)).mp c1) (by omega)
      · refine z_aload_n F dX8_setProduct_30 rfl ?_
        refine z_getR F dX8_setProduct_31 gr_X8_9 (by assumption) (by assumption) ?_
        refine z_iload_n F dX8_setProduct_34 rfl ?_
        refine z_iald F dX8_setProduct_35 (by assumption) (in16 hoa hiL) ?_
        refine z_ti rA ?_
        refine z_i2l F dX8_setProduct_36 ?_
        refine z_ldc2 (v := 4294967295) F dX8_setProduct_37 cn_X8_23 ?_
        refine z_land F dX8_setProduct_40 ?_
        refine z_tl (lowN bA) ?_
        refine z_lstore_4 F dX8_setProduct_41 rfl ?_
        refine z_lconst (v := lN 0) F dX8_setProduct_43 (by decide) ?_
        refine z_lstore_6 F dX8_setProduct_44 rfl ?_
        refine z_iconst (v := nI 0) F dX8_setProduct_46 (by decide) ?_
        refine z_istore_8 F dX8_setProduct_47 rfl ?_
        exact inner (nl y) 0 f 0 (by omega) (by rw [show vl (vA V gb) 0 = 0 from rfl, Nat.zero_mul, Nat.mul_zero, Nat.zero_mul]) (fun j _ => rfl) (by decide)
  have hv1' := hv1.1
  have hIa1 : vI V1 7 1 oa = nI (nl x) := (hw.1 7 1 oa (fun q => hna q.2.2)).trans hva.2
  have hIb1 : vI V1 7 1 ob = nI (nl y) := (hw.1 7 1 ob (fun q => hnb q.2.2)).trans hvb.2
  refine z_aload_n F dX8_setProduct_5 rfl ?_
  refine z_getI F dX8_setProduct_6 gi_X8_19 (by assumption) ?_
  refine z_ti hIa1 ?_
  refine z_aload_n F dX8_setProduct_9 rfl ?_
  refine z_getI F dX8_setProduct_10 gi_X8_19 (by assumption) ?_
  refine z_ti hIb1 ?_
  refine z_iadd F dX8_setProduct_13 ?_
  refine z_ti eadd ?_
  refine z_bipush (v := nI 16) F dX8_setProduct_14 (by decide) ?_
  refine z_icmp_le (tgt := 20) F dX8_setProduct_16 (by decide) (fun c0 => ?_) (fun c0 => ?_)
  · refine z_iconst (v := nI 0) F dX8_setProduct_20 (by decide) ?_
    refine z_istore_n_3 F dX8_setProduct_21 rfl ?_
    refine z_V (sA_id V1 g).symm ?_
    refine outer (nl x) 0 (vA V1 g) _ _ _ (by omega) (by rw [hv1']; simp [Nat.mod_one]) (fun j h1 h2 => ?_) rfl
    exact hv1.hi j (by rw [nl_0.mpr rfl]; omega) h2
  · exact absurd (nI_le (by omega) (by omega)) c0
