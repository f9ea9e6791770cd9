/-! ===== FractionRowsModel: cleared, eliminated ===== -/
section MOD15
variable {Γ : Gm} {Z : Hz} {V : Hv} {a : Nat → Nat} {L : Nat → Nat} {T : Nat → Fr} {f n : Nat} {M : Mx}
set_option maxRecDepth 100000 in
set_option maxHeartbeats 2000000 in
theorem m_cleared {t j ms : Nat} (hR : mR Z a) (hn : 1 ≤ n ∧ n ≤ 5) (h2 : vI V 9 2 (a 0) = nI n) (hL : mL a V T L) (hC : mC n T M) (ho : mOk n M) (ht : t < n) (hj : j < n) (hms : ms ≤ n) (hjm : j ≤ ms) (hpv : (M t j).2.1 ≠ 0) : zCt Γ mX10_cleared 5 125 0 0 [.ref (a 0), .int (nI t), .int (nI j), .int (nI ms)] (Z, V) (pZ (fun r S' => ∃ V' T' L', S' = (Z, V') ∧ e2A a V V' ∧ mL a V' T' L' ∧ tZ T T' ∧ ((clrA t j (ms + 1) (n - (t + 1)) (t + 1) M = none ∧ r = false) ∨ ∃ M', clrA t j (ms + 1) (n - (t + 1)) (t + 1) M = some M' ∧ r = true ∧ mC n T' M' ∧ mOk n M'))) := by
  refine zCt.of [some (.ref (a 0)), some (.int (nI t)), some (.int (nI j)), some (.int (nI ms)), none, none] pn_X10_cleared rfl (Nat.le_of_ble_eq_true rfl) rfl (fun κ F => ?_)
  obtain ⟨b0, b1, b2, -⟩ := hR.1
  obtain ⟨R, hRR⟩ : ∃ R, R = clrA t j (ms + 1) (n - (t + 1)) (t + 1) M := ⟨_, rfl⟩
  rw [← hRR]
  generalize hQ : zQ Γ κ (pZ (fun r S' => ∃ V' T' L', S' = (Z, V') ∧ e2A a V V' ∧ mL a V' T' L' ∧ tZ T T' ∧ ((R = none ∧ r = false) ∨ ∃ M', R = some M' ∧ r = true ∧ mC n T' M' ∧ mOk n M'))) 0 0 = Q
  have loop : ∀ (d p : Nat) (V1 : Hv) (T1 : Nat → Fr) (L1 : Nat → Nat) (M1 : Mx) (l5 : Option Value), p + d = n → t < p → e2A a V V1 → mL a V1 T1 L1 → tZ T T1 → mC n T1 M1 → mOk n M1 → (M1 t j).2.1 ≠ 0 → clrA t j (ms + 1) d p M1 = R → zX Γ κ (Z, V1) 0 0 Q 5 [some (.ref (a 0)), some (.int (nI t)), some (.int (nI j)), some (.int (nI ms)), some (.int (nI p)), l5] [] := by
    intro d
    induction d with
    | zero =>
      intro p V1 T1 L1 M1 l5 hp htp hE1 hL1 hT1 hC1 ho1 hpv1 hsp
      have e2 : vI V1 9 2 (a 0) = nI n := by rw [hE1.i]; exact h2
      refine z_iload F dX10_cleared_5 rfl ?_
      refine z_aload_n F dX10_cleared_7 rfl ?_
      refine z_getI F dX10_cleared_8 gi_X10_44 (by assumption) ?_
      refine z_ti e2 ?_
      refine z_icmp_ge (tgt := 153) F dX10_cleared_11 (by decide) (fun c => ?_) (fun c => ?_)
      · subst hQ
        refine z_iconst (v := nI 1) F dX10_cleared_153 (by decide) ?_
        exact z_zret F true dX10_cleared_154 rfl rfl ⟨V1, T1, L1, rfl, hE1, hL1, hT1, Or.inr ⟨M1, hsp.symm, rfl, hC1, ho1⟩⟩
      · exact absurd (nI_le (by omega) (by omega)) c
    | succ d ih =>
      intro p V1 T1 L1 M1 l5 hp htp hE1 hL1 hT1 hC1 ho1 hpv1 hsp
      have e2 : vI V1 9 2 (a 0) = nI n := by rw [hE1.i]; exact h2
      have hpn : p < n := by omega
      have hcl : clrA t j (ms + 1) (d + 1) p M1 = if (M1 p j).2.1 = 0 then clrA t j (ms + 1) d (p + 1) M1 else match clrR M1 t p j (ms + 1) with
        | none => none
        | some M' => clrA t j (ms + 1) d (p + 1) M' := rfl
      rw [hcl] at hsp
      refine z_iload F dX10_cleared_5 rfl ?_
      refine z_aload_n F dX10_cleared_7 rfl ?_
      refine z_getI F dX10_cleared_8 gi_X10_44 (by assumption) ?_
      refine z_ti e2 ?_
      refine z_icmp_ge (tgt := 153) F dX10_cleared_11 (by decide) (fun c => ?_) (fun c => ?_)
      · exact absurd ((nI_leI (by omega) (by omega)).mp c) (by omega)
      · refine z_aload_n F dX10_cleared_14 rfl ?_
        refine z_bipush (v := nI 70) F dX10_cleared_15 (by decide) ?_
        refine z_bipush (v := nI 6) F dX10_cleared_17 (by decide) ?_
        refine z_iload F dX10_cleared_19 rfl ?_
        refine z_imul F dX10_cleared_21 ?_
        refine z_ti (pk_mul 6 p) ?_
        refine z_iadd F dX10_cleared_22 ?_
        refine z_ti (nI_add 70 _) ?_
        refine z_iload_n F dX10_cleared_23 rfl ?_
        refine z_iadd F dX10_cleared_24 ?_
        refine z_ti (nI_add _ _) ?_
        refine z_cVz F (m_isZero (f := 70 + 6 * p + j) hR hL1 (by omega)) dX10_cleared_25 ml_X10_92 ok_X10_isZero b0 (by decide) rfl rfl rfl (Nat.le_of_ble_eq_true rfl) (by decide) (by decide) (fun r S' hr => ?_)
        obtain ⟨rfl, rfl⟩ := hr
        rw [hC1 p j hpn (by omega)]
        refine z_if_ne (tgt := 147) F dX10_cleared_28 (by decide) (fun c2 => ?_) (fun c2 => ?_)
        · have h := of_decide_eq_true (zb_t c2)
          rw [if_pos h] at hsp
          refine z_iinc_4 F dX10_cleared_147 rfl ?_
          refine z_goto (tgt := 5) F dX10_cleared_150 (by decide) ?_
          rw [show nI p + Int32.ofInt 1 = nI (p + 1) from nI_1 p]
          exact ih (p + 1) V1 T1 L1 M1 _ (by omega) (by omega) hE1 hL1 hT1 hC1 ho1 hpv1 hsp
        · have h : ¬ (M1 p j).2.1 = 0 := fun e => zb_f c2 (decide_eq_true e)
          rw [if_neg h] at hsp
          have o1 := ho1 p j hpn (by omega)
          have o2 := ho1 t j ht (by omega)
          obtain ⟨fa, hfa⟩ : ∃ fa, fa = fmul (M1 p j) (M1 t j) true := ⟨_, rfl⟩
          unfold clrR at hsp
          rw [← hfa] at hsp
          refine z_aload_n F dX10_cleared_31 rfl ?_
          refine z_bipush (v := nI 70) F dX10_cleared_32 (by decide) ?_
          refine z_bipush (v := nI 6) F dX10_cleared_34 (by decide) ?_
          refine z_iload F dX10_cleared_36 rfl ?_
          refine z_imul F dX10_cleared_38 ?_
          refine z_ti (pk_mul 6 p) ?_
          refine z_iadd F dX10_cleared_39 ?_
          refine z_ti (nI_add 70 _) ?_
          refine z_iload_n F dX10_cleared_40 rfl ?_
          refine z_iadd F dX10_cleared_41 ?_
          refine z_ti (nI_add _ _) ?_
          refine z_bipush (v := nI 70) F dX10_cleared_42 (by decide) ?_
          refine z_bipush (v := nI 6) F dX10_cleared_44 (by decide) ?_
          refine z_iload_n F dX10_cleared_46 rfl ?_
          refine z_imul F dX10_cleared_47 ?_
          refine z_ti (pk_mul 6 t) ?_
          refine z_iadd F dX10_cleared_48 ?_
          refine z_ti (nI_add 70 _) ?_
          refine z_iload_n F dX10_cleared_49 rfl ?_
          refine z_iadd F dX10_cleared_50 ?_
          refine z_ti (nI_add _ _) ?_
          refine z_bipush (v := nI 106) F dX10_cleared_51 (by decide) ?_
          refine z_cVz F (m_ratio (x := 70 + 6 * p + j) (y := 70 + 6 * t + j) (c := 106) hR hL1 (by omega) (by omega) (by decide) (by rw [hC1 p j hpn (by omega)]; exact o1.2) (by rw [hC1 t j ht (by omega)]; exact o2.2) (by rw [hC1 p j hpn (by omega)]; exact Nat.ne_of_gt o1.1.1) (by rw [hC1 t j ht (by omega)]; exact hpv1)) dX10_cleared_53 ml_X10_147 ok_X10_ratio b0 (by decide) rfl rfl rfl (Nat.le_of_ble_eq_true rfl) (by decide) (by decide) (fun r S' hr => ?_)
          rw [hC1 p j hpn (by omega), hC1 t j ht (by omega), ← hfa] at hr
          obtain ⟨rfl, V2, L2, rfl, hE2, hL2⟩ := hr
          have hT2 := hT1.trans (tZ.up (T := T1) (q := 106) (x := fa) (by unfold scr; omega))
          have hC2 := hC1.sc (q := 106) (x := fa) hn.2 (by omega)
          have z106 : va_up T1 106 fa 106 = fa := up_self _ _ _
          generalize va_up T1 106 fa = T2 at hL2 hT2 hC2 z106
          refine z_if_ne (tgt := 61) F dX10_cleared_56 (by decide) (fun c3 => ?_) (fun c3 => ?_)
          · have hw := zb_t c3
            rw [if_pos hw] at hsp
            have ofa : fok fa := by rw [hfa] at hw ⊢; exact fmul_ok o1 o2 (fun _ => hpv1) hw
            have inner : ∀ (d2 k : Nat) (V3 : Hv) (T3 : Nat → Fr) (L3 : Nat → Nat) (M3 : Mx), k + d2 = ms + 1 → j < k → e2A a V V3 → mL a V3 T3 L3 → tZ T T3 → mC n T3 M3 → mOk n M3 → T3 106 = fa → M3 t = M1 t → clrK fa t p d2 k M3 = clrK fa t p (ms + 1 - (j + 1)) (j + 1) M1 → zX Γ κ (Z, V3) 0 0 Q 66 [some (.ref (a 0)), some (.int (nI t)), some (.int (nI j)), some (.int (nI ms)), some (.int (nI p)), some (.int (nI k))] [] := by
              intro d2
              induction d2 with
              | zero =>
                intro k V3 T3 L3 M3 hk hjk hE3 hL3 hT3 hC3 ho3 h106 hrow hsp3
                have hsp3' : clrK fa t p (ms + 1 - (j + 1)) (j + 1) M1 = some M3 := hsp3.symm
                rw [hsp3'] at hsp
                refine z_iload F dX10_cleared_66 rfl ?_
                refine z_iload_n F dX10_cleared_68 rfl ?_
                refine z_icmp_gt (tgt := 133) F dX10_cleared_69 (by decide) (fun c4 => ?_) (fun c4 => ?_)
                · refine z_aload_n F dX10_cleared_133 rfl ?_
                  refine z_bipush (v := nI 70) F dX10_cleared_134 (by decide) ?_
                  refine z_bipush (v := nI 6) F dX10_cleared_136 (by decide) ?_
                  refine z_iload F dX10_cleared_138 rfl ?_
                  refine z_imul F dX10_cleared_140 ?_
                  refine z_ti (pk_mul 6 p) ?_
                  refine z_iadd F dX10_cleared_141 ?_
                  refine z_ti (nI_add 70 _) ?_
                  refine z_iload_n F dX10_cleared_142 rfl ?_
                  refine z_iadd F dX10_cleared_143 ?_
                  refine z_ti (nI_add _ _) ?_
                  refine z_cVv F (m_nothing (f := 70 + 6 * p + j) hR hL3 (by omega)) dX10_cleared_144 ml_X10_48 ok_X10_nothing b0 (by decide) rfl rfl rfl (Nat.le_of_ble_eq_true rfl) (by decide) (by decide) (fun S' hS' => ?_)
                  obtain ⟨V4, L4, rfl, hE4, hL4⟩ := hS'
                  refine z_iinc_4 F dX10_cleared_147 rfl ?_
                  refine z_goto (tgt := 5) F dX10_cleared_150 (by decide) ?_
                  rw [show nI p + Int32.ofInt 1 = nI (p + 1) from nI_1 p]
                  refine ih (p + 1) V4 _ L4 (up2 M3 p j f0) _ (by omega) (by omega) (hE3.trans hE4) hL4 (hT3.trans (tZ.up (by unfold scr; omega))) (hC3.up hn.2 (by omega)) (ho3.up f0_ok) ?_ hsp
                  rw [up2_row _ _ (by omega), hrow]
                  exact hpv1
                · have : k ≤ ms := Nat.le_of_not_lt (fun z => c4 ((nI_ltI (by omega) (by omega)).mpr z))
                  omega
              | succ d2 ih2 =>
                intro k V3 T3 L3 M3 hk hjk hE3 hL3 hT3 hC3 ho3 h106 hrow hsp3
                have hck : clrK fa t p (d2 + 1) k M3 = if wideB (fmul fa (M3 t k) false) = true then (if wideB (fadd (M3 p k) (fmul fa (M3 t k) false) true) = true then clrK fa t p d2 (k + 1) (up2 M3 p k (fadd (M3 p k) (fmul fa (M3 t k) false) true)) else none) else none := rfl
                rw [hck] at hsp3
                have kn : clrK fa t p (ms + 1 - (j + 1)) (j + 1) M1 = none → ∀ V4 T4 L4, e2A a V V4 → mL a V4 T4 L4 → tZ T T4 → zX Γ κ (Z, V4) 0 0 Q 125 [some (.ref (a 0)), some (.int (nI t)), some (.int (nI j)), some (.int (nI ms)), some (.int (nI p)), some (.int (nI k))] [] := by
                  intro hk V4 T4 L4 hE4 hL4 hT4
                  rw [hk] at hsp
                  subst hQ
                  refine z_iconst (v := nI 0) F dX10_cleared_125 (by decide) ?_
                  exact z_zret F false dX10_cleared_126 rfl rfl ⟨V4, T4, L4, rfl, hE4, hL4, hT4, Or.inl ⟨hsp.symm, rfl⟩⟩
                have otk := ho3 t k ht (by omega)
                have opk := ho3 p k hpn (by omega)
                obtain ⟨y, hy⟩ : ∃ y, y = fmul fa (M3 t k) false := ⟨_, rfl⟩
                rw [← hy] at hsp3
                refine z_iload F dX10_cleared_66 rfl ?_
                refine z_iload_n F dX10_cleared_68 rfl ?_
                refine z_icmp_gt (tgt := 133) F dX10_cleared_69 (by decide) (fun c4 => ?_) (fun c4 => ?_)
                · exact absurd ((nI_ltI (by omega) (by omega)).mp c4) (by omega)
                · refine z_aload_n F dX10_cleared_72 rfl ?_
                  refine z_bipush (v := nI 106) F dX10_cleared_73 (by decide) ?_
                  refine z_bipush (v := nI 70) F dX10_cleared_75 (by decide) ?_
                  refine z_bipush (v := nI 6) F dX10_cleared_77 (by decide) ?_
                  refine z_iload_n F dX10_cleared_79 rfl ?_
                  refine z_imul F dX10_cleared_80 ?_
                  refine z_ti (pk_mul 6 t) ?_
                  refine z_iadd F dX10_cleared_81 ?_
                  refine z_ti (nI_add 70 _) ?_
                  refine z_iload F dX10_cleared_82 rfl ?_
                  refine z_iadd F dX10_cleared_84 ?_
                  refine z_ti (nI_add _ _) ?_
                  refine z_bipush (v := nI 107) F dX10_cleared_85 (by decide) ?_
                  refine z_cVz F (m_product (x := 106) (y := 70 + 6 * t + k) (c := 107) hR hL3 (by decide) (by omega) (by decide) (by rw [h106]; exact ofa.2) (by rw [hC3 t k ht (by omega)]; exact otk.2) (by rw [h106]; exact Nat.ne_of_gt ofa.1.1) (by rw [hC3 t k ht (by omega)]; exact Nat.ne_of_gt otk.1.1)) dX10_cleared_87 ml_X10_144 ok_X10_product b0 (by decide) rfl rfl rfl (Nat.le_of_ble_eq_true rfl) (by decide) (by decide) (fun r S' hr => ?_)
                  rw [h106, hC3 t k ht (by omega), ← hy] at hr
                  obtain ⟨rfl, V4, L4, rfl, hE4, hL4⟩ := hr
                  have hT4 := hT3.trans (tZ.up (T := T3) (q := 107) (x := y) (by unfold scr; omega))
                  have hC4 := hC3.sc (q := 107) (x := y) hn.2 (by omega)
                  have z107 : va_up T3 107 y 107 = y := up_self _ _ _
                  have z106' : va_up T3 107 y 106 = fa := by rw [up_ne _ _ (by decide)]; exact h106
                  generalize va_up T3 107 y = T4 at hL4 hT4 hC4 z107 z106'
                  have hE34 := hE3.trans hE4
                  refine z_if_eq (tgt := 125) F dX10_cleared_90 (by decide) (fun c5 => ?_) (fun c5 => ?_)
                  · have hw2 := zb_f c5
                    rw [if_neg hw2] at hsp3
                    exact kn hsp3.symm V4 T4 L4 hE34 hL4 hT4
                  · have hw2 := zb_t c5
                    rw [if_pos hw2] at hsp3
                    have oy : fok y := by rw [hy] at hw2 ⊢; exact fmul_ok ofa otk (fun z => by cases z) hw2
                    obtain ⟨z, hz⟩ : ∃ z, z = fadd (M3 p k) y true := ⟨_, rfl⟩
                    rw [← hz] at hsp3
                    refine z_aload_n F dX10_cleared_93 rfl ?_
                    refine z_bipush (v := nI 70) F dX10_cleared_94 (by decide) ?_
                    refine z_bipush (v := nI 6) F dX10_cleared_96 (by decide) ?_
                    refine z_iload F dX10_cleared_98 rfl ?_
                    refine z_imul F dX10_cleared_100 ?_
                    refine z_ti (pk_mul 6 p) ?_
                    refine z_iadd F dX10_cleared_101 ?_
                    refine z_ti (nI_add 70 _) ?_
                    refine z_iload F dX10_cleared_102 rfl ?_
                    refine z_iadd F dX10_cleared_104 ?_
                    refine z_ti (nI_add _ _) ?_
                    refine z_bipush (v := nI 107) F dX10_cleared_105 (by decide) ?_
                    refine z_bipush (v := nI 70) F dX10_cleared_107 (by decide) ?_
                    refine z_bipush (v := nI 6) F dX10_cleared_109 (by decide) ?_
                    refine z_iload F dX10_cleared_111 rfl ?_
                    refine z_imul F dX10_cleared_113 ?_
                    refine z_ti (pk_mul 6 p) ?_
                    refine z_iadd F dX10_cleared_114 ?_
                    refine z_ti (nI_add 70 _) ?_
                    refine z_iload F dX10_cleared_115 rfl ?_
                    refine z_iadd F dX10_cleared_117 ?_
                    refine z_ti (nI_add _ _) ?_
                    refine z_iconst (v := nI 1) F dX10_cleared_118 (by decide) ?_
                    refine z_cVz F (m_total (x := 70 + 6 * p + k) (y := 107) (c := 70 + 6 * p + k) true hR hL4 (by omega) (by decide) (by omega) (by rw [hC4 p k hpn (by omega)]; exact opk.2) (by rw [z107]; exact oy.2) (by rw [hC4 p k hpn (by omega)]; exact Nat.ne_of_gt opk.1.1) (by rw [z107]; exact Nat.ne_of_gt oy.1.1)) dX10_cleared_119 ml_X10_140 ok_X10_total b0 (by decide) rfl rfl rfl (Nat.le_of_ble_eq_true rfl) (by decide) (by decide) (fun r S' hr => ?_)
                    rw [z107, hC4 p k hpn (by omega), ← hz] at hr
                    obtain ⟨rfl, V5, L5, rfl, hE5, hL5⟩ := hr
                    have hT5 := hT4.trans (tZ.up (T := T4) (q := 70 + 6 * p + k) (x := z) (by unfold scr; omega))
                    have hE35 := hE34.trans hE5
                    refine z_if_ne (tgt := 127) F dX10_cleared_122 (by decide) (fun c6 => ?_) (fun c6 => ?_)
                    · have hw3 := zb_t c6
                      rw [if_pos hw3] at hsp3
                      have oz : fok z := by rw [hz] at hw3 ⊢; exact fadd_ok opk oy hw3
                      refine z_iinc_5 F dX10_cleared_127 rfl ?_
                      refine z_goto (tgt := 66) F dX10_cleared_130 (by decide) ?_
                      rw [show nI k + Int32.ofInt 1 = nI (k + 1) from nI_1 k]
                      exact ih2 (k + 1) V5 _ L5 (up2 M3 p k z) (by omega) (by omega) hE35 hL5 hT5 (hC4.up hn.2 (by omega)) (ho3.up oz) (by rw [up_ne _ _ (by omega)]; exact z106') (by rw [up2_row _ _ (by omega)]; exact hrow) hsp3
                    · have hw3 := zb_f c6
                      rw [if_neg hw3] at hsp3
                      exact kn hsp3.symm V5 _ L5 hE35 hL5 hT5
            refine z_iload_n F dX10_cleared_61 rfl ?_
            refine z_iconst (v := nI 1) F dX10_cleared_62 (by decide) ?_
            refine z_iadd F dX10_cleared_63 ?_
            refine z_ti (nI_add _ 1) ?_
            refine z_istore_5 F dX10_cleared_64 rfl ?_
            exact inner (ms + 1 - (j + 1)) (j + 1) V2 T2 L2 M1 (by omega) (by omega) (hE1.trans hE2) hL2 hT2 hC2 ho1 z106 rfl rfl
          · have hw := zb_f c3
            rw [if_neg hw] at hsp
            subst hQ
            refine z_iconst (v := nI 0) F dX10_cleared_59 (by decide) ?_
            exact z_zret F false dX10_cleared_60 rfl rfl ⟨V2, T2, L2, rfl, hE1.trans hE2, hL2, hT2, Or.inl ⟨hsp.symm, rfl⟩⟩
  refine z_iload_n F dX10_cleared_0 rfl ?_
  refine z_iconst (v := nI 1) F dX10_cleared_1 (by decide) ?_
  refine z_iadd F dX10_cleared_2 ?_
  refine z_ti (nI_add _ 1) ?_
  refine z_istore_4 F dX10_cleared_3 rfl ?_
  exact loop (n - (t + 1)) (t + 1) V T L M none (by omega) (by omega) (eG.refl V) hL (tZ.refl T) hC ho hpv hRR.symm
/-- what an elimination changes -/
def eE (a : Nat → Nat) (V V' : Hv) : Prop := eG (fun ci k b => ci = 9 ∧ (k = 17 ∨ k = 18) ∧ b = a 0) (fun b => ∃ k, (k = 1 ∨ k = 2 ∨ (6 ≤ k ∧ k ≤ 9)) ∧ b = a k) V V'
theorem eE.trans {V1 V2 : Hv} (h1 : eE a V V1) (h2 : eE a V1 V2) : eE a V V2 := eG.trans h1 h2
/-- the elimination stands at s, before column j -/
def eS (a : Nat → Nat) (V : Hv) (T : Nat → Fr) (n j : Nat) (s : El) : Prop := (mC n T s.1 ∧ mOk n s.1) ∧ (∀ p, p < n → vA V (a 9) p = nI (s.2.1 p)) ∧ (∀ p, p < s.2.2.1 → vA V (a 6) p = nI (s.2.2.2.1 p) ∧ vA V (a 7) p = nI (s.2.1 p) ∧ vA V (a 8) p = nI (s.2.2.2.2.1 p)) ∧ (vI V 9 17 (a 0) = zb s.2.2.2.2.2 ∧ vI V 9 18 (a 0) = zb (decide (s.2.2.1 < j))) ∧ s.2.2.1 ≤ j ∧ j ≤ n ∧ (∀ p, p < s.2.2.1 → (s.1 p (s.2.2.2.1 p)).2.1 ≠ 0 ∧ s.2.2.2.1 p < n) ∧ (s.2.2.1 = j → ∀ p, p < j → s.2.2.2.1 p = p)
theorem e2A.e {V' : Hv} (h : e2A a V V') : eE a V V' := h.mono (fun _ _ _ z => z.elim) (fun b z => by rcases z with z | z; exact ⟨1, Or.inl rfl, z⟩; exact ⟨2, Or.inr (Or.inl rfl), z⟩)
theorem eE.setA {k : Nat} (V : Hv) (g : Nat → Int32) (h : 6 ≤ k ∧ k ≤ 9) : eE a V (sA V (a k) g) := eG.setA V g ⟨k, Or.inr (Or.inr h), rfl⟩
theorem eE.setI {k : Nat} (V : Hv) (x : Int32) (h : k = 17 ∨ k = 18) : eE a V (sI V 9 k (a 0) x) := eG.setI V x ⟨rfl, h, rfl⟩
theorem eA.e {V' : Hv} (h : eA a (fun k => k = 1 ∨ k = 2 ∨ k = 9) V V') : eE a V V' := h.mono (fun _ _ _ z => z.elim) (fun b ⟨k, hk, z⟩ => ⟨k, by omega, z⟩)
theorem eE.i {V' : Hv} {k : Nat} (h : eE a V V') (h1 : k ≠ 17) (h2 : k ≠ 18) : vI V' 9 k (a 0) = vI V 9 k (a 0) := h.1 9 k (a 0) (fun z => by omega)
theorem swp_o {α : Type} {f : Nat → α} {c t p : Nat} (h1 : p ≠ c) (h2 : p ≠ t) : swp f c t p = f p := by unfold swp; rw [if_neg h1, if_neg h2]
theorem swp_b {α : Type} (f : Nat → α) (c t : Nat) : swp f c t t = f c := by
  unfold swp
  by_cases e : t = c
  · rw [if_pos e, e]
  · rw [if_neg e, if_pos rfl]
set_option maxRecDepth 100000 in
set_option maxHeartbeats 2000000 in
theorem m_eliminated {way ms : Nat} (hR : mR Z a) (hn : 1 ≤ n ∧ n ≤ 5) (h2 : vI V 9 2 (a 0) = nI n) (hL : mL a V T L) (hM : ∀ p k, p < n → k ≤ n → T (40 + 6 * p + k) = M p k) (ho : mOk n M) (hway : way ≤ 1) (hms : ms ≤ n) (hms1 : n ≤ ms + 1) : zCt Γ mX10_eliminated 6 150 0 0 [.ref (a 0), .int (nI way), .int (nI ms)] (Z, V) (pI (fun r S' => ∃ V' T' L', S' = (Z, V') ∧ eE a V V' ∧ mL a V' T' L' ∧ tZ T T' ∧ ((elim way n (ms + 1) M = none ∧ r = -3) ∨ ∃ s, elim way n (ms + 1) M = some s ∧ r = nI s.2.2.1 ∧ eS a V' T' n n s))) := by
  refine zCt.of [some (.ref (a 0)), some (.int (nI way)), some (.int (nI ms)), none, none, none] pn_X10_eliminated rfl (Nat.le_of_ble_eq_true rfl) rfl (fun κ F => ?_)
  obtain ⟨b0, b1, b2, b3, b4, b5, b6, b7, b8, b9, b10, b11⟩ := hR.1
  obtain ⟨r6, l6⟩ := hR.2.2.1 6 (by decide) (by decide)
  obtain ⟨r7, l7⟩ := hR.2.2.1 7 (by decide) (by decide)
  obtain ⟨r8, l8⟩ := hR.2.2.1 8 (by decide) (by decide)
  obtain ⟨r9, l9⟩ := hR.2.2.1 9 (by decide) (by decide)
  have n67 : a 6 ≠ a 7 := hR.ne (by decide) (by decide) (by decide) (by decide) (by decide)
  have n68 : a 6 ≠ a 8 := hR.ne (by decide) (by decide) (by decide) (by decide) (by decide)
  have n78 : a 7 ≠ a 8 := hR.ne (by decide) (by decide) (by decide) (by decide) (by decide)
  have n96 : a 9 ≠ a 6 := hR.ne (by decide) (by decide) (by decide) (by decide) (by decide)
  have n97 : a 9 ≠ a 7 := hR.ne (by decide) (by decide) (by decide) (by decide) (by decide)
  have n98 : a 9 ≠ a 8 := hR.ne (by decide) (by decide) (by decide) (by decide) (by decide)
  obtain ⟨R, hRR⟩ : ∃ R, R = elim way n (ms + 1) M := ⟨_, rfl⟩
  rw [← hRR]
  generalize hQ : zQ Γ κ (pI (fun r S' => ∃ V' T' L', S' = (Z, V') ∧ eE a V V' ∧ mL a V' T' L' ∧ tZ T T' ∧ ((R = none ∧ r = -3) ∨ ∃ s, R = some s ∧ r = nI s.2.2.1 ∧ eS a V' T' n n s))) 0 0 = Q
  -- column after column
  have cols : ∀ (d j : Nat) (V1 : Hv) (T1 : Nat → Fr) (L1 : Nat → Nat) (s : El) (l5 : Option Value), j + d = n → eE a V V1 → mL a V1 T1 L1 → tZ T T1 → eS a V1 T1 n j s → elJ way n (ms + 1) d j s = R → zX Γ κ (Z, V1) 0 0 Q 80 [some (.ref (a 0)), some (.int (nI way)), some (.int (nI ms)), some (.int (nI s.2.2.1)), some (.int (nI j)), l5] [] := by
    intro d
    induction d with
    | zero =>
      intro j V1 T1 L1 s l5 hj hE1 hL1 hT1 hS1 hsp
      have e2 : vI V1 9 2 (a 0) = nI n := by rw [hE1.i (by decide) (by decide)]; exact h2
      have hjn : j = n := by omega
      rw [hjn] at hS1
      refine z_iload F dX10_eliminated_80 rfl ?_
      refine z_aload_n F dX10_eliminated_82 rfl ?_
      refine z_getI F dX10_eliminated_83 gi_X10_44 (by assumption) ?_
      refine z_ti e2 ?_
      refine z_icmp_ge (tgt := 208) F dX10_eliminated_86 (by decide) (fun c => ?_) (fun c => ?_)
      · subst hQ
        refine z_iload_n F dX10_eliminated_208 rfl ?_
        exact z_iret F dX10_eliminated_209 rfl ⟨V1, T1, L1, rfl, hE1, hL1, hT1, Or.inr ⟨s, hsp.symm, rfl, hS1⟩⟩
      · exact absurd (nI_le (by omega) (by omega)) c
    | succ d ih =>
      intro j V1 T1 L1 s l5 hj hE1 hL1 hT1 hS1 hsp
      have e2 : vI V1 9 2 (a 0) = nI n := by rw [hE1.i (by decide) (by decide)]; exact h2
      obtain ⟨M1, ro, t, cc, sz, od⟩ := s
      obtain ⟨⟨hC1, ho1⟩, hro, hnew, ⟨h17, h18⟩, htj, hjn', hpv, hid⟩ := hS1
      simp only at hC1 ho1 hro hnew h17 h18 htj hpv hid
      have hel : elJ way n (ms + 1) (d + 1) j (M1, ro, t, cc, sz, od) = match chz M1 way j (n - t) t none with
        | none => elJ way n (ms + 1) d (j + 1) (M1, ro, t, cc, sz, od)
        | some c => match clrA t j (ms + 1) (n - (t + 1)) (t + 1) (swp M1 c t) with
          | none => none
          | some M2 => elJ way n (ms + 1) d (j + 1) (M2, swp ro c t, t + 1, va_up cc t j, va_up sz t (fsz (M1 c j)), if c = t then od else !od) := rfl
      rw [hel] at hsp
      refine z_iload F dX10_eliminated_80 rfl ?_
      refine z_aload_n F dX10_eliminated_82 rfl ?_
      refine z_getI F dX10_eliminated_83 gi_X10_44 (by assumption) ?_
      refine z_ti e2 ?_
      refine z_icmp_ge (tgt := 208) F dX10_eliminated_86 (by decide) (fun c => ?_) (fun c => ?_)
      · exact absurd ((nI_leI (by omega) (by omega)).mp c) (by omega)
      · refine z_aload_n F dX10_eliminated_89 rfl ?_
        refine z_iload_n F dX10_eliminated_90 rfl ?_
        refine z_iload_n F dX10_eliminated_91 rfl ?_
        refine z_iload F dX10_eliminated_92 rfl ?_
        refine z_cVi F (m_taken (t := t) (j := j) hR hn e2 hL1 hC1 (by omega) (by omega) hway) dX10_eliminated_94 ml_X10_170 ok_X10_taken b0 (by decide) rfl rfl rfl (Nat.le_of_ble_eq_true rfl) (by decide) (by decide) (fun r S' hr => ?_)
        obtain ⟨rfl, rfl⟩ := hr
        refine z_istore_5 F dX10_eliminated_97 rfl ?_
        refine z_iload F dX10_eliminated_99 rfl ?_
        refine z_bipush (v := (-6)) F dX10_eliminated_101 (by decide) ?_
        cases hch : chz M1 way j (n - t) t none with
        | none =>
          rw [hch] at hsp
          simp only at hsp
          refine z_icmp_ne (tgt := 114) F dX10_eliminated_103 (by decide) (fun c2 => ?_) (fun c2 => ?_)
          · exact absurd rfl c2
          · have hE2 := hE1.trans (eE.setI (k := 18) V1 (nI 1) (Or.inr rfl))
            refine z_aload_n F dX10_eliminated_106 rfl ?_
            refine z_iconst (v := nI 1) F dX10_eliminated_107 (by decide) ?_
            refine z_putI F dX10_eliminated_108 pi_X10_167 (zf_9_18 (Or.inr rfl)) (by assumption) ?_
            refine z_goto (tgt := 202) F dX10_eliminated_111 (by decide) ?_
            refine z_iinc_4 F dX10_eliminated_202 rfl ?_
            refine z_goto (tgt := 80) F dX10_eliminated_205 (by decide) ?_
            rw [show nI j + Int32.ofInt 1 = nI (j + 1) from nI_1 j]
            refine ih (j + 1) _ T1 L1 (M1, ro, t, cc, sz, od) _ (by omega) hE2 hL1 hT1 ⟨⟨hC1, ho1⟩, hro, hnew, ⟨?_, ?_⟩, Nat.le_succ_of_le htj, by omega, hpv, fun e => absurd e (by simp only; omega)⟩ hsp
            · rw [vI9 V1 (by decide)]; exact h17
            · rw [vI_sI_self, decide_eq_true (by simp only; omega)]; rfl
        | some cp =>
          rw [hch] at hsp
          simp only at hsp
          obtain ⟨hc1, hc2, hc3⟩ : t ≤ cp ∧ cp < t + (n - t) ∧ (M1 cp j).2.1 ≠ 0 := by
            rcases chz_some _ _ _ _ hch with h | h
            · cases h
            · exact h
          have hcn : cp < n := by omega
          have ht : t < n := by omega
          have jn : j < n := by omega
          have clt : (nI t).toNatClampNeg = t := nI_clamp (by omega)
          have clc : (nI cp).toNatClampNeg = cp := nI_clamp (by omega)
          refine z_icmp_ne (tgt := 114) F dX10_eliminated_103 (by decide) (fun c2 => ?_) (fun c2 => ?_)
          · -- the new PIVOT is written down
            have it6 := ix5 (i := t) (by omega) l6
            have it7 := ix5 (i := t) (by omega) l7
            have it8 := ix5 (i := t) (by omega) l8
            have ic9 := ix5 (i := cp) (by omega) l9
            obtain ⟨V2, hV2⟩ : ∃ V2, V2 = sA V1 (a 6) (upd (vA V1 (a 6)) (nI t).toNatClampNeg (nI j)) := ⟨_, rfl⟩
            refine z_aload_n F dX10_eliminated_114 rfl ?_
            refine z_getR F dX10_eliminated_115 gr_X10_26 (by assumption) (by assumption) ?_
            refine z_iload_n F dX10_eliminated_118 rfl ?_
            refine z_iload F dX10_eliminated_119 rfl ?_
            refine z_iast F dX10_eliminated_121 (by assumption) (by assumption) ?_
            refine z_V (Z := Z) (show _ = V2 from hV2.symm) ?_
            have v9 : vA V2 (a 9) (nI cp).toNatClampNeg = nI (ro cp) := by rw [hV2, vA_sA_ne _ _ n96, clc]; exact hro cp hcn
            have g2 : zIn Z (a 9) 11 := r9
            obtain ⟨V3, hV3⟩ : ∃ V3, V3 = sA V2 (a 7) (upd (vA V2 (a 7)) (nI t).toNatClampNeg (nI (ro cp))) := ⟨_, rfl⟩
            refine z_aload_n F dX10_eliminated_122 rfl ?_
            refine z_getR F dX10_eliminated_123 gr_X10_29 (by assumption) (by assumption) ?_
            refine z_iload_n F dX10_eliminated_126 rfl ?_
            refine z_aload_n F dX10_eliminated_127 rfl ?_
            refine z_getR F dX10_eliminated_128 gr_X10_35 (by assumption) (by assumption) ?_
            refine z_iload F dX10_eliminated_131 rfl ?_
            refine z_iald F dX10_eliminated_133 (by assumption) (by assumption) ?_
            refine z_ti v9 ?_
            refine z_iast F dX10_eliminated_134 (by assumption) (by assumption) ?_
            refine z_V (Z := Z) (show _ = V3 from hV3.symm) ?_
            have hL2 : mL a V2 T1 L1 := by rw [hV2]; exact hL1.keep hR (by decide) (by decide)
            have hL3 : mL a V3 T1 L1 := by rw [hV3]; exact hL2.keep hR (by decide) (by decide)
            refine z_aload_n F dX10_eliminated_135 rfl ?_
            refine z_getR F dX10_eliminated_136 gr_X10_32 (by assumption) (by assumption) ?_
            refine z_iload_n F dX10_eliminated_139 rfl ?_
            refine z_aload_n F dX10_eliminated_140 rfl ?_
            refine z_bipush (v := nI 70) F dX10_eliminated_141 (by decide) ?_
            refine z_bipush (v := nI 6) F dX10_eliminated_143 (by decide) ?_
            refine z_iload F dX10_eliminated_145 rfl ?_
            refine z_imul F dX10_eliminated_147 ?_
            refine z_ti (pk_mul 6 cp) ?_
            refine z_iadd F dX10_eliminated_148 ?_
            refine z_ti (nI_add 70 _) ?_
            refine z_iload F dX10_eliminated_149 rfl ?_
            refine z_iadd F dX10_eliminated_151 ?_
            refine z_ti (nI_add _ _) ?_
            refine z_cVi F (m_sizeOf (f := 70 + 6 * cp + j) hR hL3 (by omega)) dX10_eliminated_152 ml_X10_156 ok_X10_sizeOf b0 (by decide) rfl rfl rfl (Nat.le_of_ble_eq_true rfl) (by decide) (by decide) (fun r S' hr => ?_)
            obtain ⟨rfl, rfl⟩ := hr
            rw [hC1 cp j hcn (by omega)]
            obtain ⟨V4, hV4⟩ : ∃ V4, V4 = sA V3 (a 8) (upd (vA V3 (a 8)) (nI t).toNatClampNeg (nI (fsz (M1 cp j)))) := ⟨_, rfl⟩
            refine z_iast F dX10_eliminated_155 (by assumption) (by assumption) ?_
            refine z_V (Z := Z) (show _ = V4 from hV4.symm) ?_
            have hL4 : mL a V4 T1 L1 := by rw [hV4]; exact hL3.keep hR (by decide) (by decide)
            have hE4 : eE a V V4 := by
              rw [hV4, hV3, hV2]
              exact ((hE1.trans (eE.setA V1 _ ⟨by decide, by decide⟩)).trans (eE.setA _ _ ⟨by decide, by decide⟩)).trans (eE.setA _ _ ⟨by decide, by decide⟩)
            have i4 : ∀ k, vI V4 9 k (a 0) = vI V1 9 k (a 0) := fun k => by rw [hV4, hV3, hV2]; rfl
            have a9 : vA V4 (a 9) = vA V1 (a 9) := by rw [hV4, vA_sA_ne _ _ n98, hV3, vA_sA_ne _ _ n97, hV2, vA_sA_ne _ _ n96]
            have hnew4 : ∀ p, p < t + 1 → vA V4 (a 6) p = nI (va_up cc t j p) ∧ vA V4 (a 7) p = nI (swp ro cp t p) ∧ vA V4 (a 8) p = nI (va_up sz t (fsz (M1 cp j)) p) := by
              intro p hp
              have w6 : vA V4 (a 6) = upd (vA V1 (a 6)) t (nI j) := by rw [hV4, vA_sA_ne _ _ n68, hV3, vA_sA_ne _ _ n67, hV2, vA_sA_self, clt]
              have w7 : vA V4 (a 7) = upd (vA V1 (a 7)) t (nI (ro cp)) := by rw [hV4, vA_sA_ne _ _ n78, hV3, vA_sA_self, hV2, vA_sA_ne _ _ (Ne.symm n67), clt]
              have w8 : vA V4 (a 8) = upd (vA V1 (a 8)) t (nI (fsz (M1 cp j))) := by rw [hV4, vA_sA_self, hV3, vA_sA_ne _ _ (Ne.symm n78), hV2, vA_sA_ne _ _ (Ne.symm n68), clt]
              rw [w6, w7, w8]
              by_cases e : p = t
              · rw [e, pk_us, pk_us, pk_us, up_self, up_self, swp_b]
                exact ⟨rfl, rfl, rfl⟩
              · rw [pk_un e, pk_un e, pk_un e, up_ne _ _ e, up_ne _ _ e, swp_o (by omega) e]
                exact hnew p (by omega)
            have e24 : vI V4 9 2 (a 0) = nI n := by rw [i4]; exact e2
            -- rows exchanged, then cleared
            have rest : ∀ (V5 : Hv) (T5 : Nat → Fr) (L5 : Nat → Nat), eE a V V5 → mL a V5 T5 L5 → tZ T T5 → mC n T5 (swp M1 cp t) → (∀ p, p < n → vA V5 (a 9) p = nI (swp ro cp t p)) → (∀ p, p < t + 1 → vA V5 (a 6) p = nI (va_up cc t j p) ∧ vA V5 (a 7) p = nI (swp ro cp t p) ∧ vA V5 (a 8) p = nI (va_up sz t (fsz (M1 cp j)) p)) → vI V5 9 17 (a 0) = zb (if cp = t then od else !od) → vI V5 9 18 (a 0) = zb (decide (t < j)) → zX Γ κ (Z, V5) 0 0 Q 185 [some (.ref (a 0)), some (.int (nI way)), some (.int (nI ms)), some (.int (nI t)), some (.int (nI j)), some (.int (bN (some cp)))] [] := by
              intro V5 T5 L5 hE5 hL5 hT5 hC5 hro5 hnew5 h175 h185
              have e25 : vI V5 9 2 (a 0) = nI n := by rw [hE5.i (by decide) (by decide)]; exact h2
              refine z_aload_n F dX10_eliminated_185 rfl ?_
              refine z_iload_n F dX10_eliminated_186 rfl ?_
              refine z_iload F dX10_eliminated_187 rfl ?_
              refine z_iload_n F dX10_eliminated_189 rfl ?_
              refine z_cVz F (m_cleared (t := t) (j := j) (ms := ms) hR hn e25 hL5 hC5 (ho1.sw hcn ht) ht jn hms (by omega) (by rw [swp_b]; exact hc3)) dX10_eliminated_190 ml_X10_177 ok_X10_cleared b0 (by decide) rfl rfl rfl (Nat.le_of_ble_eq_true rfl) (by decide) (by decide) (fun r S' hr => ?_)
              obtain ⟨V6, T6, L6, rfl, hE6, hL6, hT6, hr⟩ := hr
              have hE56 := hE5.trans hE6.e
              rcases hr with ⟨hr1, rfl⟩ | ⟨M6, hr1, rfl, hC6, ho6⟩
              · rw [hr1] at hsp
                refine z_if_ne (tgt := 199) F dX10_eliminated_193 (by decide) (fun c3 => ?_) (fun c3 => ?_)
                · exact absurd rfl c3
                · subst hQ
                  refine z_bipush (v := (-3)) F dX10_eliminated_196 (by decide) ?_
                  exact z_iret F dX10_eliminated_198 rfl ⟨V6, T6, L6, rfl, hE56, hL6, hT5.trans hT6, Or.inl ⟨hsp.symm, rfl⟩⟩
              · rw [hr1] at hsp
                have hrow := clrA_row _ _ _ _ hr1
                refine z_if_ne (tgt := 199) F dX10_eliminated_193 (by decide) (fun c3 => ?_) (fun c3 => ?_)
                · refine z_iinc_3 F dX10_eliminated_199 rfl ?_
                  refine z_iinc_4 F dX10_eliminated_202 rfl ?_
                  refine z_goto (tgt := 80) F dX10_eliminated_205 (by decide) ?_
                  rw [show nI j + Int32.ofInt 1 = nI (j + 1) from nI_1 j, show nI t + Int32.ofInt 1 = nI (t + 1) from nI_1 t]
                  refine ih (j + 1) V6 T6 L6 (M6, swp ro cp t, t + 1, va_up cc t j, va_up sz t (fsz (M1 cp j)), if cp = t then od else !od) _ (by omega) hE56 hL6 (hT5.trans hT6) ⟨⟨hC6, ho6⟩, fun p hp => ?_, fun p hp => ?_, ⟨?_, ?_⟩, ?_, by omega, fun p hp => ?_, fun e p hp => ?_⟩ hsp
                  · rw [hE6.ar hR (by decide) (by decide)]; exact hro5 p hp
                  · rw [hE6.ar hR (by decide) (by decide), hE6.ar hR (by decide) (by decide), hE6.ar hR (by decide) (by decide)]; exact hnew5 p hp
                  · rw [hE6.i]; exact h175
                  · rw [hE6.i, h185]
                    congr 1
                    apply decide_eq_decide.mpr
                    simp only
                    omega
                  · simp only; omega
                  · simp only at hp ⊢
                    rw [hrow p (by omega)]
                    by_cases e : p = t
                    · rw [e, up_self, swp_b]
                      exact ⟨hc3, jn⟩
                    · rw [up_ne _ _ e, swp_o (by omega) e]
                      exact hpv p (by omega)
                  · simp only at e hp ⊢
                    by_cases e3 : p = t
                    · rw [e3, up_self]; omega
                    · rw [up_ne _ _ e3]
                      exact hid (by omega) p (by omega)
                · exact absurd c3 (by decide)
            refine z_iload F dX10_eliminated_156 rfl ?_
            refine z_iload_n F dX10_eliminated_158 rfl ?_
            refine z_icmp_eq (tgt := 185) F dX10_eliminated_159 (by decide) (fun c3 => ?_) (fun c3 => ?_)
            · have e : cp = t := (nI_inj32 (by omega) (by omega)).mp c3
              refine rest V4 T1 L1 hE4 hL4 hT1 (by rw [e, swp_id]; exact hC1) (fun p hp => by rw [a9, e, swp_id]; exact hro p hp) hnew4 (by rw [if_pos e, i4]; exact h17) (by rw [i4]; exact h18)
            · have e : ¬ cp = t := fun z => c3 (by rw [z]; rfl)
              refine z_aload_n F dX10_eliminated_162 rfl ?_
              refine z_iload F dX10_eliminated_163 rfl ?_
              refine z_iload_n F dX10_eliminated_165 rfl ?_
              refine z_cVv F (m_exchange (b := cp) (t := t) (ro := ro) hR hn e24 hL4 hC1 hcn ht (fun p hp => by rw [a9]; exact hro p hp)) dX10_eliminated_166 ml_X10_174 ok_X10_exchange b0 (by decide) rfl rfl rfl (Nat.le_of_ble_eq_true rfl) (by decide) (by decide) (fun S' hS' => ?_)
              obtain ⟨V5, T5, L5, rfl, hE5, hL5, hT5, hC5, hro5⟩ := hS'
              have k5 : ∀ k, 3 ≤ k → k ≤ 8 → vA V5 (a k) = vA V4 (a k) := fun k h1 h2 => hE5.ar hR (by omega) (by omega) (by omega) (fun j hj => by omega)
              have h175 : vI V5 9 17 (a 0) = zb od := by rw [hE5.i, i4]; exact h17
              have fl : ∀ x : Int32, x = zb (!od) → zX Γ κ (Z, sI V5 9 17 (a 0) x) 0 0 Q 185 [some (.ref (a 0)), some (.int (nI way)), some (.int (nI ms)), some (.int (nI t)), some (.int (nI j)), some (.int (bN (some cp)))] [] := by
                intro x hx
                refine rest (sI V5 9 17 (a 0) x) T5 L5 ((hE4.trans hE5.e).trans (eE.setI V5 _ (Or.inl rfl))) hL5 (hT1.trans hT5) hC5 hro5 (fun p hp => ?_) ?_ ?_
                · show vA V5 (a 6) p = _ ∧ vA V5 (a 7) p = _ ∧ vA V5 (a 8) p = _
                  rw [k5 6 (by decide) (by decide), k5 7 (by decide) (by decide), k5 8 (by decide) (by decide)]
                  exact hnew4 p hp
                · rw [vI_sI_self, if_neg e]; exact hx
                · rw [vI9 V5 (by decide), hE5.i, i4]; exact h18
              refine z_aload_n F dX10_eliminated_169 rfl ?_
              refine z_aload_n F dX10_eliminated_170 rfl ?_
              refine z_getI F dX10_eliminated_171 gi_X10_163 (by assumption) ?_
              refine z_ti h175 ?_
              refine z_if_ne (tgt := 181) F dX10_eliminated_174 (by decide) (fun c4 => ?_) (fun c4 => ?_)
              · have ho := zb_t c4
                refine z_iconst (v := nI 0) F dX10_eliminated_181 (by decide) ?_
                refine z_putI F dX10_eliminated_182 pi_X10_163 (zf_9_17 (Or.inl rfl)) (by assumption) ?_
                exact fl _ (by rw [ho]; rfl)
              · have ho := (zb_eq0 _).mp c4
                refine z_iconst (v := nI 1) F dX10_eliminated_177 (by decide) ?_
                refine z_goto (tgt := 182) F dX10_eliminated_178 (by decide) ?_
                refine z_putI F dX10_eliminated_182 pi_X10_163 (zf_9_17 (Or.inr rfl)) (by assumption) ?_
                exact fl _ (by rw [ho]; rfl)
          · exact absurd c2 (bN_ne (by omega))
  -- the copy of the rows
  have rows : ∀ (d i : Nat) (V1 : Hv) (T1 : Nat → Fr) (L1 : Nat → Nat) (l4 : Option Value), i + d = n → eA a (fun k => k = 1 ∨ k = 2 ∨ k = 9) V V1 → mL a V1 T1 L1 → tZ T T1 → (∀ p k, p < i → k ≤ n → T1 (70 + 6 * p + k) = M p k) → (∀ p, p < i → vA V1 (a 9) p = nI p) → zX Γ κ (Z, V1) 0 0 Q 2 [some (.ref (a 0)), some (.int (nI way)), some (.int (nI ms)), some (.int (nI i)), l4, none] [] := by
    intro d
    induction d with
    | zero =>
      intro i V1 T1 L1 l4 hi hE1 hL1 hT1 hC1 hro
      have e2 : vI V1 9 2 (a 0) = nI n := by rw [hE1.i]; exact h2
      refine z_iload_n F dX10_eliminated_2 rfl ?_
      refine z_aload_n F dX10_eliminated_3 rfl ?_
      refine z_getI F dX10_eliminated_4 gi_X10_44 (by assumption) ?_
      refine z_ti e2 ?_
      refine z_icmp_ge (tgt := 65) F dX10_eliminated_7 (by decide) (fun c => ?_) (fun c => ?_)
      · obtain ⟨V2, hV2⟩ : ∃ V2, V2 = sI (sI V1 9 17 (a 0) (nI 0)) 9 18 (a 0) (nI 0) := ⟨_, rfl⟩
        refine z_aload_n F dX10_eliminated_65 rfl ?_
        refine z_iconst (v := nI 0) F dX10_eliminated_66 (by decide) ?_
        refine z_putI F dX10_eliminated_67 pi_X10_163 (zf_9_17 (Or.inl rfl)) (by assumption) ?_
        refine z_aload_n F dX10_eliminated_70 rfl ?_
        refine z_iconst (v := nI 0) F dX10_eliminated_71 (by decide) ?_
        refine z_putI F dX10_eliminated_72 pi_X10_167 (zf_9_18 (Or.inl rfl)) (by assumption) ?_
        refine z_iconst (v := nI 0) F dX10_eliminated_75 (by decide) ?_
        refine z_istore_n_3 F dX10_eliminated_76 rfl ?_
        refine z_iconst (v := nI 0) F dX10_eliminated_77 (by decide) ?_
        refine z_istore_4 F dX10_eliminated_78 rfl ?_
        refine z_V (Z := Z) (show _ = V2 from hV2.symm) ?_
        refine cols n 0 V2 T1 L1 (M, fun i => i, 0, fun _ => 0, fun _ => 0, false) none (by omega) ?_ (by rw [hV2]; exact hL1) hT1 ⟨⟨fun p k hp hk => hC1 p k (by omega) hk, ho⟩, fun p hp => ?_, fun p hp => absurd hp (Nat.not_lt_zero p), ⟨?_, ?_⟩, Nat.le_refl 0, Nat.zero_le n, fun p hp => absurd hp (Nat.not_lt_zero p), fun _ p hp => absurd hp (Nat.not_lt_zero p)⟩ hRR.symm
        · rw [hV2]
          exact (hE1.e.trans (eE.setI V1 _ (Or.inl rfl))).trans (eE.setI _ _ (Or.inr rfl))
        · rw [hV2]; exact hro p (by omega)
        · rw [hV2, vI9 _ (by decide), vI_sI_self]; rfl
        · rw [hV2, vI_sI_self]; rfl
      · exact absurd (nI_le (by omega) (by omega)) c
    | succ d ih =>
      intro i V1 T1 L1 l4 hi hE1 hL1 hT1 hC1 hro
      have e2 : vI V1 9 2 (a 0) = nI n := by rw [hE1.i]; exact h2
      have cli : (nI i).toNatClampNeg = i := nI_clamp (by omega)
      have ii9 := ix5 (i := i) (by omega) l9
      have inner : ∀ (d2 k : Nat) (V3 : Hv) (T3 : Nat → Fr) (L3 : Nat → Nat), k + d2 = n + 1 → eA a (fun k => k = 1 ∨ k = 2 ∨ k = 9) V V3 → mL a V3 T3 L3 → tZ T T3 → (∀ p c, p < i + 1 → c ≤ n → (p < i ∨ c < k) → T3 (70 + 6 * p + c) = M p c) → (∀ p, p < i + 1 → vA V3 (a 9) p = nI p) → zX Γ κ (Z, V3) 0 0 Q 20 [some (.ref (a 0)), some (.int (nI way)), some (.int (nI ms)), some (.int (nI i)), some (.int (nI k)), none] [] := by
        intro d2
        induction d2 with
        | zero =>
          intro k V3 T3 L3 hk hE3 hL3 hT3 hC3 hro3
          have e2 : vI V3 9 2 (a 0) = nI n := by rw [hE3.i]; exact h2
          refine z_iload F dX10_eliminated_20 rfl ?_
          refine z_aload_n F dX10_eliminated_22 rfl ?_
          refine z_getI F dX10_eliminated_23 gi_X10_44 (by assumption) ?_
          refine z_ti e2 ?_
          refine z_icmp_gt (tgt := 59) F dX10_eliminated_26 (by decide) (fun c => ?_) (fun c => ?_)
          · refine z_iinc_3 F dX10_eliminated_59 rfl ?_
            refine z_goto (tgt := 2) F dX10_eliminated_62 (by decide) ?_
            rw [show nI i + Int32.ofInt 1 = nI (i + 1) from nI_1 i]
            exact ih (i + 1) V3 T3 L3 _ (by omega) hE3 hL3 hT3 (fun p k2 hp hk2 => hC3 p k2 hp hk2 (Or.inr (by omega))) hro3
          · have : k ≤ n := Nat.le_of_not_lt (fun z => c ((nI_ltI (by omega) (by omega)).mpr z))
            omega
        | succ d2 ih2 =>
          intro k V3 T3 L3 hk hE3 hL3 hT3 hC3 hro3
          have e2 : vI V3 9 2 (a 0) = nI n := by rw [hE3.i]; exact h2
          refine z_iload F dX10_eliminated_20 rfl ?_
          refine z_aload_n F dX10_eliminated_22 rfl ?_
          refine z_getI F dX10_eliminated_23 gi_X10_44 (by assumption) ?_
          refine z_ti e2 ?_
          refine z_icmp_gt (tgt := 59) F dX10_eliminated_26 (by decide) (fun c => ?_) (fun c => ?_)
          · exact absurd ((nI_ltI (by omega) (by omega)).mp c) (by omega)
          · refine z_aload_n F dX10_eliminated_29 rfl ?_
            refine z_bipush (v := nI 40) F dX10_eliminated_30 (by decide) ?_
            refine z_bipush (v := nI 6) F dX10_eliminated_32 (by decide) ?_
            refine z_iload_n F dX10_eliminated_34 rfl ?_
            refine z_imul F dX10_eliminated_35 ?_
            refine z_ti (pk_mul 6 i) ?_
            refine z_iadd F dX10_eliminated_36 ?_
            refine z_ti (nI_add 40 _) ?_
            refine z_iload F dX10_eliminated_37 rfl ?_
            refine z_iadd F dX10_eliminated_39 ?_
            refine z_ti (nI_add _ _) ?_
            refine z_bipush (v := nI 70) F dX10_eliminated_40 (by decide) ?_
            refine z_bipush (v := nI 6) F dX10_eliminated_42 (by decide) ?_
            refine z_iload_n F dX10_eliminated_44 rfl ?_
            refine z_imul F dX10_eliminated_45 ?_
            refine z_ti (pk_mul 6 i) ?_
            refine z_iadd F dX10_eliminated_46 ?_
            refine z_ti (nI_add 70 _) ?_
            refine z_iload F dX10_eliminated_47 rfl ?_
            refine z_iadd F dX10_eliminated_49 ?_
            refine z_ti (nI_add _ _) ?_
            refine z_cVv F (m_same (f := 40 + 6 * i + k) (g := 70 + 6 * i + k) hR hL3 (by omega) (by omega)) dX10_eliminated_50 ml_X10_126 ok_X10_same b0 (by decide) rfl rfl rfl (Nat.le_of_ble_eq_true rfl) (by decide) (by decide) (fun S' hS' => ?_)
            obtain ⟨V4, L4, rfl, hE4, hL4⟩ := hS'
            have eT : T3 (40 + 6 * i + k) = M i k := by rw [hT3 _ (by unfold scr; omega)]; exact hM i k (by omega) (by omega)
            refine z_iinc_4 F dX10_eliminated_53 rfl ?_
            refine z_goto (tgt := 20) F dX10_eliminated_56 (by decide) ?_
            rw [show nI k + Int32.ofInt 1 = nI (k + 1) from nI_1 k]
            refine ih2 (k + 1) V4 _ L4 (by omega) (hE3.trans (hE4.eA (Or.inl rfl) (Or.inr (Or.inl rfl)))) hL4 (hT3.trans (tZ.up (by unfold scr; omega))) (fun p c hp hc hpc => ?_) (fun p hp => ?_)
            · by_cases e : p = i ∧ c = k
              · rw [e.1, e.2, up_self]; exact eT
              · rw [up_ne _ _ (by omega)]; exact hC3 p c hp hc (by omega)
            · rw [hE4.ar hR (by decide) (by decide)]; exact hro3 p hp
      refine z_iload_n F dX10_eliminated_2 rfl ?_
      refine z_aload_n F dX10_eliminated_3 rfl ?_
      refine z_getI F dX10_eliminated_4 gi_X10_44 (by assumption) ?_
      refine z_ti e2 ?_
      refine z_icmp_ge (tgt := 65) F dX10_eliminated_7 (by decide) (fun c => ?_) (fun c => ?_)
      · exact absurd ((nI_leI (by omega) (by omega)).mp c) (by omega)
      · refine z_aload_n F dX10_eliminated_10 rfl ?_
        refine z_getR F dX10_eliminated_11 gr_X10_35 (by assumption) (by assumption) ?_
        refine z_iload_n F dX10_eliminated_14 rfl ?_
        refine z_iload_n F dX10_eliminated_15 rfl ?_
        refine z_iast F dX10_eliminated_16 (by assumption) (by assumption) ?_
        refine z_iconst (v := nI 0) F dX10_eliminated_17 (by decide) ?_
        refine z_istore_4 F dX10_eliminated_18 rfl ?_
        refine inner (n + 1) 0 _ T1 L1 (by omega) (hE1.trans (eA.set V1 _ (Or.inr (Or.inr rfl)))) (hL1.keep hR (by decide) (by decide)) hT1 (fun p c hp hc hpc => hC1 p c (by omega) hc) (fun p hp => ?_)
        rw [vA_sA_self, cli]
        by_cases e : p = i
        · rw [e, pk_us]
        · rw [pk_un e]; exact hro p (by omega)
  refine z_iconst (v := nI 0) F dX10_eliminated_0 (by decide) ?_
  refine z_istore_n_3 F dX10_eliminated_1 rfl ?_
  exact rows n 0 V T L none (by omega) (eG.refl V) hL (tZ.refl T) (fun p k hp => absurd hp (Nat.not_lt_zero p)) (fun p hp => absurd hp (Nat.not_lt_zero p))
end MOD15
